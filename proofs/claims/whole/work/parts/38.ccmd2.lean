abbrev mX3_takeCommand : zM := (yX3_takeCommand, cX3_takeCommand, 4, none, [])
theorem okX3_takeCommand : zMok mX3_takeCommand 3 := ⟨by decide, by decide, by decide +kernel⟩
theorem dX3_takeCommand_0 : decode cX3_takeCommand 0 = .ok (.aload_n 0, 1) := by decide +kernel
theorem dX3_takeCommand_1 : decode cX3_takeCommand 1 = .ok (.getfield 9, 3) := by decide +kernel
theorem dX3_takeCommand_4 : decode cX3_takeCommand 4 = .ok (.ifCond .lt 12, 3) := by decide +kernel
theorem dX3_takeCommand_7 : decode cX3_takeCommand 7 = .ok (.aload_n 0, 1) := by decide +kernel
theorem dX3_takeCommand_8 : decode cX3_takeCommand 8 = .ok (.getfield 9, 3) := by decide +kernel
theorem dX3_takeCommand_11 : decode cX3_takeCommand 11 = .ok (.bipush 30, 2) := by decide +kernel
theorem dX3_takeCommand_13 : decode cX3_takeCommand 13 = .ok (.if_icmp .lt 4, 3) := by decide +kernel
theorem dX3_takeCommand_17 : decode cX3_takeCommand 17 = .ok (.aload_n 0, 1) := by decide +kernel
theorem dX3_takeCommand_18 : decode cX3_takeCommand 18 = .ok (.getfield 15, 3) := by decide +kernel
theorem fl_RX3_15 : zFl RX3 15 3 1 := ⟨RX3, TX3, 6, rfl, by decide, zmem1 323 (by decide +kernel) rfl, rfl⟩
theorem dX3_takeCommand_21 : decode cX3_takeCommand 21 = .ok (.aload_n 0, 1) := by decide +kernel
theorem dX3_takeCommand_22 : decode cX3_takeCommand 22 = .ok (.getfield 9, 3) := by decide +kernel
theorem dX3_takeCommand_25 : decode cX3_takeCommand 25 = .ok (.iload_n 3, 1) := by decide +kernel
theorem dX3_takeCommand_26 : decode cX3_takeCommand 26 = .ok (.iastore, 1) := by decide +kernel
theorem dX3_takeCommand_27 : decode cX3_takeCommand 27 = .ok (.iload_n 3, 1) := by decide +kernel
theorem dX3_takeCommand_28 : decode cX3_takeCommand 28 = .ok (.tableswitch 150 0 5 #[40, 49, 150, 150, 68, 103], 40) := by decide +kernel
theorem dX3_takeCommand_68 : decode cX3_takeCommand 68 = .ok (.aload_n 0, 1) := by decide +kernel
theorem dX3_takeCommand_69 : decode cX3_takeCommand 69 = .ok (.aload_n 1, 1) := by decide +kernel
theorem dX3_takeCommand_70 : decode cX3_takeCommand 70 = .ok (.aload_n 2, 1) := by decide +kernel
theorem dX3_takeCommand_71 : decode cX3_takeCommand 71 = .ok (.invokevirtual 74, 3) := by decide +kernel
theorem cw_RX3_74 : zCwV RX3 74 mX3_takeClueNumbers := zall [1155, 1157, 16, 119, 1158] (by decide +kernel) (by decide +kernel)
theorem dX3_takeCommand_74 : decode cX3_takeCommand 74 = .ok (.goto 120, 3) := by decide +kernel
theorem dX3_takeCommand_194 : decode cX3_takeCommand 194 = .ok (.aload_n 1, 1) := by decide +kernel
theorem dX3_takeCommand_195 : decode cX3_takeCommand 195 = .ok (.invokevirtual 86, 3) := by decide +kernel
theorem cw_RX3_86 : zCwV RX3 86 mX6_takeSemicolon := zall [1164, 563, 564, 114, 565] (by decide +kernel) (by decide +kernel)
theorem dX3_takeCommand_198 : decode cX3_takeCommand 198 = .ok (.ifCond .eq 13, 3) := by decide +kernel
theorem dX3_takeCommand_211 : decode cX3_takeCommand 211 = .ok (.return_, 1) := by decide +kernel
theorem dX3_takeCommand_201 : decode cX3_takeCommand 201 = .ok (.aload_n 0, 1) := by decide +kernel
theorem dX3_takeCommand_202 : decode cX3_takeCommand 202 = .ok (.dup, 1) := by decide +kernel
theorem dX3_takeCommand_203 : decode cX3_takeCommand 203 = .ok (.getfield 9, 3) := by decide +kernel
theorem dX3_takeCommand_206 : decode cX3_takeCommand 206 = .ok (.iconst 1, 1) := by decide +kernel
theorem dX3_takeCommand_207 : decode cX3_takeCommand 207 = .ok (.iadd, 1) := by decide +kernel
theorem dX3_takeCommand_208 : decode cX3_takeCommand 208 = .ok (.putfield 9, 3) := by decide +kernel
theorem fp_3_0 : zFi 3 0 "I" := ⟨RX3, TX3, 6, rfl, rfl, rfl⟩
theorem dX3_takeCommand_77 : decode cX3_takeCommand 77 = .ok (.aload_n 0, 1) := by decide +kernel
theorem dX3_takeCommand_78 : decode cX3_takeCommand 78 = .ok (.getfield 19, 3) := by decide +kernel
theorem dX3_takeCommand_81 : decode cX3_takeCommand 81 = .ok (.aload_n 0, 1) := by decide +kernel
theorem dX3_takeCommand_82 : decode cX3_takeCommand 82 = .ok (.getfield 9, 3) := by decide +kernel
theorem dX3_takeCommand_85 : decode cX3_takeCommand 85 = .ok (.aload_n 1, 1) := by decide +kernel
theorem dX3_takeCommand_86 : decode cX3_takeCommand 86 = .ok (.iconst 1, 1) := by decide +kernel
theorem dX3_takeCommand_87 : decode cX3_takeCommand 87 = .ok (.bipush 40, 2) := by decide +kernel
theorem dX3_takeCommand_89 : decode cX3_takeCommand 89 = .ok (.invokevirtual 78, 3) := by decide +kernel
theorem dX3_takeCommand_92 : decode cX3_takeCommand 92 = .ok (.iastore, 1) := by decide +kernel
theorem dX3_takeCommand_93 : decode cX3_takeCommand 93 = .ok (.goto 101, 3) := by decide +kernel
theorem dX3_takeCommand_178 : decode cX3_takeCommand 178 = .ok (.aload_n 0, 1) := by decide +kernel
theorem dX3_takeCommand_179 : decode cX3_takeCommand 179 = .ok (.getfield 19, 3) := by decide +kernel
theorem dX3_takeCommand_182 : decode cX3_takeCommand 182 = .ok (.aload_n 0, 1) := by decide +kernel
theorem dX3_takeCommand_183 : decode cX3_takeCommand 183 = .ok (.getfield 9, 3) := by decide +kernel
theorem dX3_takeCommand_186 : decode cX3_takeCommand 186 = .ok (.aload_n 1, 1) := by decide +kernel
theorem dX3_takeCommand_187 : decode cX3_takeCommand 187 = .ok (.iconst 0, 1) := by decide +kernel
theorem dX3_takeCommand_188 : decode cX3_takeCommand 188 = .ok (.bipush 39, 2) := by decide +kernel
theorem dX3_takeCommand_190 : decode cX3_takeCommand 190 = .ok (.invokevirtual 78, 3) := by decide +kernel
theorem dX3_takeCommand_193 : decode cX3_takeCommand 193 = .ok (.iastore, 1) := by decide +kernel
theorem dX3_takeCommand_96 : decode cX3_takeCommand 96 = .ok (.aload_n 0, 1) := by decide +kernel
theorem dX3_takeCommand_97 : decode cX3_takeCommand 97 = .ok (.getfield 19, 3) := by decide +kernel
theorem dX3_takeCommand_100 : decode cX3_takeCommand 100 = .ok (.aload_n 0, 1) := by decide +kernel
theorem dX3_takeCommand_101 : decode cX3_takeCommand 101 = .ok (.getfield 9, 3) := by decide +kernel
theorem dX3_takeCommand_104 : decode cX3_takeCommand 104 = .ok (.aload_n 1, 1) := by decide +kernel
theorem dX3_takeCommand_105 : decode cX3_takeCommand 105 = .ok (.iconst 0, 1) := by decide +kernel
theorem dX3_takeCommand_106 : decode cX3_takeCommand 106 = .ok (.bipush 39, 2) := by decide +kernel
theorem dX3_takeCommand_108 : decode cX3_takeCommand 108 = .ok (.invokevirtual 78, 3) := by decide +kernel
theorem dX3_takeCommand_111 : decode cX3_takeCommand 111 = .ok (.iastore, 1) := by decide +kernel
theorem dX3_takeCommand_112 : decode cX3_takeCommand 112 = .ok (.aload_n 0, 1) := by decide +kernel
theorem dX3_takeCommand_113 : decode cX3_takeCommand 113 = .ok (.getfield 22, 3) := by decide +kernel
theorem dX3_takeCommand_116 : decode cX3_takeCommand 116 = .ok (.aload_n 0, 1) := by decide +kernel
theorem dX3_takeCommand_117 : decode cX3_takeCommand 117 = .ok (.getfield 9, 3) := by decide +kernel
theorem dX3_takeCommand_120 : decode cX3_takeCommand 120 = .ok (.aload_n 1, 1) := by decide +kernel
theorem dX3_takeCommand_121 : decode cX3_takeCommand 121 = .ok (.iconst 1, 1) := by decide +kernel
theorem dX3_takeCommand_122 : decode cX3_takeCommand 122 = .ok (.bipush 9, 2) := by decide +kernel
theorem dX3_takeCommand_124 : decode cX3_takeCommand 124 = .ok (.invokevirtual 78, 3) := by decide +kernel
theorem dX3_takeCommand_127 : decode cX3_takeCommand 127 = .ok (.iastore, 1) := by decide +kernel
theorem dX3_takeCommand_128 : decode cX3_takeCommand 128 = .ok (.goto 66, 3) := by decide +kernel
theorem dX3_takeCommand_131 : decode cX3_takeCommand 131 = .ok (.aload_n 0, 1) := by decide +kernel
theorem dX3_takeCommand_132 : decode cX3_takeCommand 132 = .ok (.getfield 19, 3) := by decide +kernel
theorem dX3_takeCommand_135 : decode cX3_takeCommand 135 = .ok (.aload_n 0, 1) := by decide +kernel
theorem dX3_takeCommand_136 : decode cX3_takeCommand 136 = .ok (.getfield 9, 3) := by decide +kernel
theorem dX3_takeCommand_139 : decode cX3_takeCommand 139 = .ok (.aload_n 1, 1) := by decide +kernel
theorem dX3_takeCommand_140 : decode cX3_takeCommand 140 = .ok (.aload_n 2, 1) := by decide +kernel
theorem dX3_takeCommand_141 : decode cX3_takeCommand 141 = .ok (.invokevirtual 82, 3) := by decide +kernel
theorem cw_RX3_82 : zCwV RX3 82 mX6_takePrinter := zall [1163, 621, 622, 114, 623] (by decide +kernel) (by decide +kernel)
theorem dX3_takeCommand_144 : decode cX3_takeCommand 144 = .ok (.iastore, 1) := by decide +kernel
theorem dX3_takeCommand_145 : decode cX3_takeCommand 145 = .ok (.aload_n 0, 1) := by decide +kernel
theorem dX3_takeCommand_146 : decode cX3_takeCommand 146 = .ok (.getfield 22, 3) := by decide +kernel
theorem dX3_takeCommand_149 : decode cX3_takeCommand 149 = .ok (.aload_n 0, 1) := by decide +kernel
theorem dX3_takeCommand_150 : decode cX3_takeCommand 150 = .ok (.getfield 9, 3) := by decide +kernel
theorem dX3_takeCommand_153 : decode cX3_takeCommand 153 = .ok (.aload_n 1, 1) := by decide +kernel
theorem dX3_takeCommand_154 : decode cX3_takeCommand 154 = .ok (.aload_n 2, 1) := by decide +kernel
theorem dX3_takeCommand_155 : decode cX3_takeCommand 155 = .ok (.invokevirtual 82, 3) := by decide +kernel
theorem dX3_takeCommand_158 : decode cX3_takeCommand 158 = .ok (.iastore, 1) := by decide +kernel
theorem dX3_takeCommand_159 : decode cX3_takeCommand 159 = .ok (.aload_n 0, 1) := by decide +kernel
theorem dX3_takeCommand_160 : decode cX3_takeCommand 160 = .ok (.getfield 25, 3) := by decide +kernel
theorem dX3_takeCommand_163 : decode cX3_takeCommand 163 = .ok (.aload_n 0, 1) := by decide +kernel
theorem dX3_takeCommand_164 : decode cX3_takeCommand 164 = .ok (.getfield 9, 3) := by decide +kernel
theorem dX3_takeCommand_167 : decode cX3_takeCommand 167 = .ok (.aload_n 1, 1) := by decide +kernel
theorem dX3_takeCommand_168 : decode cX3_takeCommand 168 = .ok (.iconst 0, 1) := by decide +kernel
theorem dX3_takeCommand_169 : decode cX3_takeCommand 169 = .ok (.bipush 31, 2) := by decide +kernel
theorem dX3_takeCommand_171 : decode cX3_takeCommand 171 = .ok (.invokevirtual 78, 3) := by decide +kernel
theorem dX3_takeCommand_174 : decode cX3_takeCommand 174 = .ok (.iastore, 1) := by decide +kernel
theorem dX3_takeCommand_175 : decode cX3_takeCommand 175 = .ok (.goto 19, 3) := by decide +kernel

set_option maxRecDepth 20000 in
set_option maxHeartbeats 2000000 in
theorem sX3_takeCommand_0 {l : Launch} {w : zW} (hfl : l.stackTraces = false) {σ : zS} {t : Nat → Int} {n : Nat} {S : zP} {k : Nat} {x : Int} (hz : zOK σ) (hP : PC t n S σ) (hk : σ.1 24 0 = (k : Int) ∧ k < 30) (hA1 : 0 ≤ σ.1 31 0 ∧ σ.1 31 0 ≤ 8) (hA2 : 0 ≤ σ.1 31 7 ∧ σ.1 31 7 ≤ 8) (hs : x = 0) : Sp l w mX3_takeCommand 7 0 [zf 3 24, zf 6 1, zf 0 31, zi x] σ (zqv (none) (fun τ => zOK τ ∧ zSame (fun q => q = 1 ∨ (24 ≤ q ∧ q ≤ 29)) σ τ ∧ PC t n (cS t n x (bk σ 30) S) τ ∧ (∀ q, 25 ≤ q → q ≤ 29 → ∀ i, i ≠ k → τ.1 q i = σ.1 q i) ∧ ((cS t n x (bk σ 30) S).2.1 = 0 → τ.1 24 0 = ((k + 1 : Nat) : Int) ∧ τ.1 25 k = x ∧ τ.1 26 k = cV t n x (bk σ 30) S 1 ∧ τ.1 27 k = cV t n x (bk σ 30) S 2 ∧ τ.1 28 k = cV t n x (bk σ 30) S 3 ∧ τ.1 29 k = cV t n x (bk σ 30) S 4))) := by
  obtain ⟨Q, hQ⟩ : ∃ Q : zQ, Q = (zqv (none) (fun τ => zOK τ ∧ zSame (fun q => q = 1 ∨ (24 ≤ q ∧ q ≤ 29)) σ τ ∧ PC t n (cS t n x (bk σ 30) S) τ ∧ (∀ q, 25 ≤ q → q ≤ 29 → ∀ i, i ≠ k → τ.1 q i = σ.1 q i) ∧ ((cS t n x (bk σ 30) S).2.1 = 0 → τ.1 24 0 = ((k + 1 : Nat) : Int) ∧ τ.1 25 k = x ∧ τ.1 26 k = cV t n x (bk σ 30) S 1 ∧ τ.1 27 k = cV t n x (bk σ 30) S 2 ∧ τ.1 28 k = cV t n x (bk σ 30) S 3 ∧ τ.1 29 k = cV t n x (bk σ 30) S 4))) := ⟨_, rfl⟩
  rw [← hQ]
  refine zx_enter hfl (by decide) rfl 0 rfl ?_
  show zX l w mX3_takeCommand (zMQ w 7 0 Q) 0 [zf 3 24, zf 6 1, zf 0 31, zi x] [] 0 σ
  have hpp := hP.2.2.1
  have hzx : zr x := by unfold zr; omega
  have e1 : cS t n x (bk σ 30) S = u5 t n (bk σ 30) S := by rw [hs]; rfl
  have hp25 : PC t n S (zput σ 25 k x) := PC_put (by decide) hP
  refine zx_aloadN dX3_takeCommand_0 rfl rfl ?_
  refine zy_getI fl_RX3_9 rfl dX3_takeCommand_1 rfl ?_
  refine zx_if_lt (tgt := 16) (by first | exact hz _ _ | assumption | exact zr_b _ | exact zcmp_r _ _ | (unfold zr at *; omega)) dX3_takeCommand_4 (by decide) (fun h4 => ?_) (fun h4 => ?_)
  · exfalso; omega
  · refine zx_aloadN dX3_takeCommand_7 rfl rfl ?_
    refine zy_getI fl_RX3_9 rfl dX3_takeCommand_8 rfl ?_
    refine zx_bipush dX3_takeCommand_11 rfl ?_
    refine zx_icmp_lt (tgt := 17) (by first | exact hz _ _ | assumption | exact zr_b _ | exact zcmp_r _ _ | (unfold zr at *; omega)) (by first | exact hz _ _ | assumption | exact zr_b _ | exact zcmp_r _ _ | (unfold zr at *; omega)) dX3_takeCommand_13 (by decide) (fun h13 => ?_) (fun h13 => ?_)
    · refine zx_aloadN dX3_takeCommand_17 rfl rfl ?_
      refine zy_getR (q' := 25) fl_RX3_15 rfl dX3_takeCommand_18 rfl ?_
      refine zx_aloadN dX3_takeCommand_21 rfl rfl ?_
      refine zy_getI fl_RX3_9 rfl dX3_takeCommand_22 rfl ?_
      refine zy_top (b := ((k : Nat) : Int)) (by first | exact hk.1 | exact (zput_k _ _ _ _ _ (by decide)).trans hk.1 | assumption | exact (zput_k _ _ _ _ _ (by decide)).trans (by assumption)) ?_
      refine zx_iloadN dX3_takeCommand_25 rfl rfl ?_
      refine zy_iast (i := k) rfl (by decide) (by decide) dX3_takeCommand_26 (by omega) (by omega) rfl ?_
      refine zx_iloadN dX3_takeCommand_27 rfl rfl ?_
      refine zy_top (b := 0) (hs) ?_
      refine zx_tableIn (off := 40) (tgt := 68) (by unfold zr; omega) dX3_takeCommand_28 (by omega) (by omega) rfl (by decide) ?_
      refine zx_aloadN dX3_takeCommand_68 rfl rfl ?_
      refine zx_aloadN dX3_takeCommand_69 rfl rfl ?_
      refine zx_aloadN dX3_takeCommand_70 rfl rfl ?_
      refine zy_cvvR [zf 6 1, zf 0 31] (sX3_takeClueNumbers (S := S) (k := k) hfl (zOK_put hz (by first | exact hz _ _ | assumption | exact zr_b _ | exact zcmp_r _ _ | (unfold zr at *; omega))) hp25 ⟨(zput_k _ _ _ _ _ (by decide)).trans hk.1, hk.2⟩ (by rw [zput_k _ _ _ _ _ (by decide)]; exact hA1) (by rw [zput_k _ _ _ _ _ (by decide)]; exact hA2)) dX3_takeCommand_71 (by decide) rfl cw_RX3_74 okX3_takeClueNumbers rfl (Nat.le_of_ble_eq_true rfl) ⟨Nat.le_of_ble_eq_true rfl, Nat.le_of_ble_eq_true rfl, Nat.le_of_ble_eq_true rfl, Nat.le_of_ble_eq_true rfl⟩ (fun τ71 hr71 => ?_)
      have hz71 : zOK τ71 := hr71.1
      have e30 : pEq (bk σ 30) (bk (zput σ 25 k x) 30) := fun o ho i => zput_k _ _ _ _ _ (by omega)
      have e17 : bk (zput σ 25 k x) 30 1 7 = bk σ 30 1 7 := e30 1 (by omega) 7
      have e3 : u3 t n (bk (zput σ 25 k x) 30) S = u3 t n (bk σ 30) S := by unfold u3 hiK; rw [e17]
      have e4 : u4 t n (bk (zput σ 25 k x) 30) S = u4 t n (bk σ 30) S := by unfold u4; rw [e3]
      have hq71 : PC t n (u4 t n (bk σ 30) S) τ71 := by rw [← e4]; exact hr71.2.2.1
      have n71 : τ71.1 24 0 = (k : Int) := (hr71.2.1.1 24 (by dsimp only; omega) 0).trans ((zput_k _ _ _ _ _ (by decide)).trans hk.1)
      refine zx_goto (tgt := 194) dX3_takeCommand_74 (by decide) ?_
      refine zx_aloadN dX3_takeCommand_194 rfl rfl ?_
      refine zy_cvR [] (sX6_takeSemicolon (S := (u4 t n (bk σ 30) S)) hfl hz71 hq71) dX3_takeCommand_195 (by decide) rfl cw_RX3_86 okX6_takeSemicolon rfl (Nat.le_of_ble_eq_true rfl) ⟨Nat.le_of_ble_eq_true rfl, Nat.le_of_ble_eq_true rfl, Nat.le_of_ble_eq_true rfl, Nat.le_of_ble_eq_true rfl⟩ (fun τ195 hr195 => ?_)
      have hz195 : zOK τ195 := hr195.1
      refine zy_top (b := zb ((u5 t n (bk σ 30) S).2.1 = 0)) (rfl) ?_
      have hq195 : PC t n (u5 t n (bk σ 30) S) τ195 := hr195.2.2
      have n195 : τ195.1 24 0 = (k : Int) := (hr195.2.1.1 24 (by dsimp only; omega) 0).trans n71
      refine zx_if_eq (tgt := 211) (by first | exact hz195 _ _ | assumption | exact zr_b _ | exact zcmp_r _ _ | (unfold zr at *; omega)) dX3_takeCommand_198 (by decide) (fun h198 => ?_) (fun h198 => ?_)
      · have h198 := zb_0.mp h198
        refine zx_vret rfl dX3_takeCommand_211 ?_
        rw [hQ]
        refine ⟨rfl, ?_⟩
        rw [e1]
        have hW : ∀ q, 25 ≤ q → q ≤ 29 → ∀ i, i ≠ k → τ195.1 q i = σ.1 q i := fun q h1 h2 i hi => by
          by_cases e25 : q = 25
          · subst e25; rw [hr195.2.1.1 25 (by dsimp only; omega), hr71.2.1.1 25 (by dsimp only; omega), zput_i _ _ _ _ _ hi]
          · rw [hr195.2.1.1 q (by dsimp only; omega), hr71.2.2.2.1 q h1 h2 i hi, zput_k _ _ _ _ _ (by omega)]
        have hF : ∀ q, ¬ (q = 1 ∨ (24 ≤ q ∧ q ≤ 29)) → ∀ i, τ195.1 q i = σ.1 q i := fun q hq i => by
          rw [hr195.2.1.1 q (by dsimp only; omega), hr71.2.1.1 q (by dsimp only; omega), zput_k _ _ _ _ _ (by omega)]
        have hV : (u5 t n (bk σ 30) S).2.1 = 0 → τ195.1 25 k = x ∧ τ195.1 26 k = cV t n x (bk σ 30) S 1 ∧ τ195.1 27 k = cV t n x (bk σ 30) S 2 ∧ τ195.1 28 k = cV t n x (bk σ 30) S 3 ∧ τ195.1 29 k = cV t n x (bk σ 30) S 4 := fun z => by
          have zz := (pSem_s (t := t) (n := n) (S := u4 t n (bk σ 30) S) z).1
          have hv71 := hr71.2.2.2.2 (by rw [e4]; exact zz)
          rw [e3] at hv71
          exact ⟨by rw [hr195.2.1.1 25 (by dsimp only; omega), hr71.2.1.1 25 (by dsimp only; omega), zput_s], by rw [hr195.2.1.1 26 (by dsimp only; omega), hv71.1]; rw [hs]; rfl, by rw [hr195.2.1.1 27 (by dsimp only; omega), hv71.2.1]; rw [hs]; rfl, by rw [hr195.2.1.1 28 (by dsimp only; omega), hv71.2.2.1]; rw [hs]; rfl, by rw [hr195.2.1.1 29 (by dsimp only; omega), hv71.2.2.2]; rw [hs]; rfl⟩
        first
        | exact ⟨hz195, ⟨fun q hq i => hF q hq i, hr195.2.1.2.trans hr71.2.1.2⟩, hq195, hW, fun z => absurd z (by assumption)⟩
        | exact ⟨hz195, ⟨fun q hq i => (zput_k _ _ _ _ _ (by dsimp only at hq; omega)).trans (hF q hq i), hr195.2.1.2.trans hr71.2.1.2⟩, PC_put (by decide) hq195, fun q h1 h2 i hi => (zput_k _ _ _ _ _ (by omega)).trans (hW q h1 h2 i hi), fun z => ⟨(zput_s _ _ _ _).trans (by omega), by
           have h := hV z
           simp only [zput_e]
           simpa using h⟩⟩
      · have h198 := zb_n.mp h198
        refine zx_aloadN dX3_takeCommand_201 rfl rfl ?_
        refine zx_dup rfl dX3_takeCommand_202 ?_
        refine zy_getI fl_RX3_9 rfl dX3_takeCommand_203 rfl ?_
        refine zx_iconst dX3_takeCommand_206 ?_
        refine zx_iadd dX3_takeCommand_207 ?_
        refine zx_putI fl_RX3_9 rfl (Or.inl fp_3_0) dX3_takeCommand_208 ?_
        refine zx_vret rfl dX3_takeCommand_211 ?_
        rw [hQ]
        refine ⟨rfl, ?_⟩
        rw [e1]
        have hW : ∀ q, 25 ≤ q → q ≤ 29 → ∀ i, i ≠ k → τ195.1 q i = σ.1 q i := fun q h1 h2 i hi => by
          by_cases e25 : q = 25
          · subst e25; rw [hr195.2.1.1 25 (by dsimp only; omega), hr71.2.1.1 25 (by dsimp only; omega), zput_i _ _ _ _ _ hi]
          · rw [hr195.2.1.1 q (by dsimp only; omega), hr71.2.2.2.1 q h1 h2 i hi, zput_k _ _ _ _ _ (by omega)]
        have hF : ∀ q, ¬ (q = 1 ∨ (24 ≤ q ∧ q ≤ 29)) → ∀ i, τ195.1 q i = σ.1 q i := fun q hq i => by
          rw [hr195.2.1.1 q (by dsimp only; omega), hr71.2.1.1 q (by dsimp only; omega), zput_k _ _ _ _ _ (by omega)]
        have hV : (u5 t n (bk σ 30) S).2.1 = 0 → τ195.1 25 k = x ∧ τ195.1 26 k = cV t n x (bk σ 30) S 1 ∧ τ195.1 27 k = cV t n x (bk σ 30) S 2 ∧ τ195.1 28 k = cV t n x (bk σ 30) S 3 ∧ τ195.1 29 k = cV t n x (bk σ 30) S 4 := fun z => by
          have zz := (pSem_s (t := t) (n := n) (S := u4 t n (bk σ 30) S) z).1
          have hv71 := hr71.2.2.2.2 (by rw [e4]; exact zz)
          rw [e3] at hv71
          exact ⟨by rw [hr195.2.1.1 25 (by dsimp only; omega), hr71.2.1.1 25 (by dsimp only; omega), zput_s], by rw [hr195.2.1.1 26 (by dsimp only; omega), hv71.1]; rw [hs]; rfl, by rw [hr195.2.1.1 27 (by dsimp only; omega), hv71.2.1]; rw [hs]; rfl, by rw [hr195.2.1.1 28 (by dsimp only; omega), hv71.2.2.1]; rw [hs]; rfl, by rw [hr195.2.1.1 29 (by dsimp only; omega), hv71.2.2.2]; rw [hs]; rfl⟩
        first
        | exact ⟨(zOK_put hz195 (by first | exact hz195 _ _ | assumption | exact zr_b _ | exact zcmp_r _ _ | (unfold zr at *; omega))), ⟨fun q hq i => hF q hq i, hr195.2.1.2.trans hr71.2.1.2⟩, hq195, hW, fun z => absurd z (by assumption)⟩
        | exact ⟨(zOK_put hz195 (by first | exact hz195 _ _ | assumption | exact zr_b _ | exact zcmp_r _ _ | (unfold zr at *; omega))), ⟨fun q hq i => (zput_k _ _ _ _ _ (by dsimp only at hq; omega)).trans (hF q hq i), hr195.2.1.2.trans hr71.2.1.2⟩, PC_put (by decide) hq195, fun q h1 h2 i hi => (zput_k _ _ _ _ _ (by omega)).trans (hW q h1 h2 i hi), fun z => ⟨(zput_s _ _ _ _).trans (by omega), by
           have h := hV z
           simp only [zput_e]
           simpa using h⟩⟩
    · exfalso; omega
set_option maxRecDepth 20000 in
set_option maxHeartbeats 2000000 in
theorem sX3_takeCommand_1 {l : Launch} {w : zW} (hfl : l.stackTraces = false) {σ : zS} {t : Nat → Int} {n : Nat} {S : zP} {k : Nat} {x : Int} (hz : zOK σ) (hP : PC t n S σ) (hk : σ.1 24 0 = (k : Int) ∧ k < 30) (hA1 : 0 ≤ σ.1 31 0 ∧ σ.1 31 0 ≤ 8) (hA2 : 0 ≤ σ.1 31 7 ∧ σ.1 31 7 ≤ 8) (hs : x = 1) : Sp l w mX3_takeCommand 7 0 [zf 3 24, zf 6 1, zf 0 31, zi x] σ (zqv (none) (fun τ => zOK τ ∧ zSame (fun q => q = 1 ∨ (24 ≤ q ∧ q ≤ 29)) σ τ ∧ PC t n (cS t n x (bk σ 30) S) τ ∧ (∀ q, 25 ≤ q → q ≤ 29 → ∀ i, i ≠ k → τ.1 q i = σ.1 q i) ∧ ((cS t n x (bk σ 30) S).2.1 = 0 → τ.1 24 0 = ((k + 1 : Nat) : Int) ∧ τ.1 25 k = x ∧ τ.1 26 k = cV t n x (bk σ 30) S 1))) := by
  obtain ⟨Q, hQ⟩ : ∃ Q : zQ, Q = (zqv (none) (fun τ => zOK τ ∧ zSame (fun q => q = 1 ∨ (24 ≤ q ∧ q ≤ 29)) σ τ ∧ PC t n (cS t n x (bk σ 30) S) τ ∧ (∀ q, 25 ≤ q → q ≤ 29 → ∀ i, i ≠ k → τ.1 q i = σ.1 q i) ∧ ((cS t n x (bk σ 30) S).2.1 = 0 → τ.1 24 0 = ((k + 1 : Nat) : Int) ∧ τ.1 25 k = x ∧ τ.1 26 k = cV t n x (bk σ 30) S 1))) := ⟨_, rfl⟩
  rw [← hQ]
  refine zx_enter hfl (by decide) rfl 0 rfl ?_
  show zX l w mX3_takeCommand (zMQ w 7 0 Q) 0 [zf 3 24, zf 6 1, zf 0 31, zi x] [] 0 σ
  have hpp := hP.2.2.1
  have hzx : zr x := by unfold zr; omega
  have e1 : cS t n x (bk σ 30) S = a2 t n 1 40 S := by rw [hs]; rfl
  have hp25 : PC t n S (zput σ 25 k x) := PC_put (by decide) hP
  refine zx_aloadN dX3_takeCommand_0 rfl rfl ?_
  refine zy_getI fl_RX3_9 rfl dX3_takeCommand_1 rfl ?_
  refine zx_if_lt (tgt := 16) (by first | exact hz _ _ | assumption | exact zr_b _ | exact zcmp_r _ _ | (unfold zr at *; omega)) dX3_takeCommand_4 (by decide) (fun h4 => ?_) (fun h4 => ?_)
  · exfalso; omega
  · refine zx_aloadN dX3_takeCommand_7 rfl rfl ?_
    refine zy_getI fl_RX3_9 rfl dX3_takeCommand_8 rfl ?_
    refine zx_bipush dX3_takeCommand_11 rfl ?_
    refine zx_icmp_lt (tgt := 17) (by first | exact hz _ _ | assumption | exact zr_b _ | exact zcmp_r _ _ | (unfold zr at *; omega)) (by first | exact hz _ _ | assumption | exact zr_b _ | exact zcmp_r _ _ | (unfold zr at *; omega)) dX3_takeCommand_13 (by decide) (fun h13 => ?_) (fun h13 => ?_)
    · refine zx_aloadN dX3_takeCommand_17 rfl rfl ?_
      refine zy_getR (q' := 25) fl_RX3_15 rfl dX3_takeCommand_18 rfl ?_
      refine zx_aloadN dX3_takeCommand_21 rfl rfl ?_
      refine zy_getI fl_RX3_9 rfl dX3_takeCommand_22 rfl ?_
      refine zy_top (b := ((k : Nat) : Int)) (by first | exact hk.1 | exact (zput_k _ _ _ _ _ (by decide)).trans hk.1 | assumption | exact (zput_k _ _ _ _ _ (by decide)).trans (by assumption)) ?_
      refine zx_iloadN dX3_takeCommand_25 rfl rfl ?_
      refine zy_iast (i := k) rfl (by decide) (by decide) dX3_takeCommand_26 (by omega) (by omega) rfl ?_
      refine zx_iloadN dX3_takeCommand_27 rfl rfl ?_
      refine zy_top (b := 1) (hs) ?_
      refine zx_tableIn (off := 49) (tgt := 77) (by unfold zr; omega) dX3_takeCommand_28 (by omega) (by omega) rfl (by decide) ?_
      refine zx_aloadN dX3_takeCommand_77 rfl rfl ?_
      refine zy_getR (q' := 26) fl_RX3_19 rfl dX3_takeCommand_78 rfl ?_
      refine zx_aloadN dX3_takeCommand_81 rfl rfl ?_
      refine zy_getI (v := σ.1 24 0) fl_RX3_9 rfl dX3_takeCommand_82 (zput_k _ _ _ _ _ (by omega)) ?_
      refine zy_top (b := ((k : Nat) : Int)) (by first | exact hk.1 | exact (zput_k _ _ _ _ _ (by decide)).trans hk.1 | assumption | exact (zput_k _ _ _ _ _ (by decide)).trans (by assumption)) ?_
      refine zx_aloadN dX3_takeCommand_85 rfl rfl ?_
      refine zx_iconst dX3_takeCommand_86 ?_
      refine zx_bipush dX3_takeCommand_87 rfl ?_
      refine zy_cvR [zi 1, zi 40] (sX6_takeNumber (S := S) hfl (zOK_put hz (by first | exact hz _ _ | assumption | exact zr_b _ | exact zcmp_r _ _ | (unfold zr at *; omega))) hp25 (by first | exact hz _ _ | assumption | exact zr_b _ | exact zcmp_r _ _ | (unfold zr at *; omega)) (by first | exact hz _ _ | assumption | exact zr_b _ | exact zcmp_r _ _ | (unfold zr at *; omega))) dX3_takeCommand_89 (by decide) rfl cw_RX3_78 okX6_takeNumber rfl (Nat.le_of_ble_eq_true rfl) ⟨Nat.le_of_ble_eq_true rfl, Nat.le_of_ble_eq_true rfl, Nat.le_of_ble_eq_true rfl, Nat.le_of_ble_eq_true rfl⟩ (fun τ89 hr89 => ?_)
      have hz89 : zOK τ89 := hr89.1
      refine zy_top (b := if (a1 t n 1 40 S).2.1 = 0 then pV t n (S).1 else 0) (rfl) ?_
      have hq89 : PC t n (a1 t n 1 40 S) τ89 := hr89.2.2
      have hy89 : zr (if (a1 t n 1 40 S).2.1 = 0 then pV t n (S).1 else 0) := FI_z
      have n24_89 : τ89.1 24 0 = (k : Int) := (hr89.2.1.1 24 (by dsimp only; omega) 0).trans ((zput_k _ _ _ _ _ (by decide)).trans hk.1)
      refine zy_iast (i := k) rfl (by decide) (by decide) dX3_takeCommand_92 (by omega) (by omega) rfl ?_
      refine zx_goto (tgt := 194) dX3_takeCommand_93 (by decide) ?_
      refine zx_aloadN dX3_takeCommand_194 rfl rfl ?_
      refine zy_cvR [] (sX6_takeSemicolon (S := (a1 t n 1 40 S)) hfl (zOK_put hz89 (by first | exact hz89 _ _ | assumption | exact zr_b _ | exact zcmp_r _ _ | (unfold zr at *; omega))) (PC_put (by decide) hq89)) dX3_takeCommand_195 (by decide) rfl cw_RX3_86 okX6_takeSemicolon rfl (Nat.le_of_ble_eq_true rfl) ⟨Nat.le_of_ble_eq_true rfl, Nat.le_of_ble_eq_true rfl, Nat.le_of_ble_eq_true rfl, Nat.le_of_ble_eq_true rfl⟩ (fun τ195 hr195 => ?_)
      have hz195 : zOK τ195 := hr195.1
      refine zy_top (b := zb ((a2 t n 1 40 S).2.1 = 0)) (rfl) ?_
      have hq195 : PC t n (a2 t n 1 40 S) τ195 := hr195.2.2
      have n195 : τ195.1 24 0 = (k : Int) := (hr195.2.1.1 24 (by dsimp only; omega) 0).trans ((zput_k _ _ _ _ _ (by decide)).trans n24_89)
      refine zx_if_eq (tgt := 211) (by first | exact hz195 _ _ | assumption | exact zr_b _ | exact zcmp_r _ _ | (unfold zr at *; omega)) dX3_takeCommand_198 (by decide) (fun h198 => ?_) (fun h198 => ?_)
      · have h198 := zb_0.mp h198
        refine zx_vret rfl dX3_takeCommand_211 ?_
        rw [hQ]
        refine ⟨rfl, ?_⟩
        rw [e1]
        have hW : ∀ q, 25 ≤ q → q ≤ 29 → ∀ i, i ≠ k → τ195.1 q i = σ.1 q i := fun q h1 h2 i hi => by
          rw [hr195.2.1.1 q (by dsimp only; omega), zput_i _ _ _ _ _ hi, hr89.2.1.1 q (by dsimp only; omega), zput_i _ _ _ _ _ hi]
        have hF : ∀ q, ¬ (q = 1 ∨ (24 ≤ q ∧ q ≤ 29)) → ∀ i, τ195.1 q i = σ.1 q i := fun q hq i => by
          rw [hr195.2.1.1 q (by dsimp only; omega), zput_k _ _ _ _ _ (by omega), hr89.2.1.1 q (by dsimp only; omega), zput_k _ _ _ _ _ (by omega)]
        have hV : (a2 t n 1 40 S).2.1 = 0 → τ195.1 25 k = x ∧ τ195.1 26 k = cV t n x (bk σ 30) S 1 := fun z => by
          have zz1 := (pSem_s (t := t) (n := n) (S := a1 t n 1 40 S) z).1
          exact ⟨by rw [hr195.2.1.1 25 (by dsimp only; omega), zput_k _ _ _ _ _ (by decide), hr89.2.1.1 25 (by dsimp only; omega), zput_s], by rw [hr195.2.1.1 26 (by dsimp only; omega), zput_s, if_pos zz1]; rw [hs]; rfl⟩
        first
        | exact ⟨hz195, ⟨fun q hq i => hF q hq i, hr195.2.1.2.trans (hr89.2.1.2)⟩, hq195, hW, fun z => absurd z (by assumption)⟩
        | exact ⟨hz195, ⟨fun q hq i => (zput_k _ _ _ _ _ (by dsimp only at hq; omega)).trans (hF q hq i), hr195.2.1.2.trans (hr89.2.1.2)⟩, PC_put (by decide) hq195, fun q h1 h2 i hi => (zput_k _ _ _ _ _ (by omega)).trans (hW q h1 h2 i hi), fun z => ⟨(zput_s _ _ _ _).trans (by omega), by
           have h := hV z
           simp only [zput_e]
           simpa using h⟩⟩
      · have h198 := zb_n.mp h198
        refine zx_aloadN dX3_takeCommand_201 rfl rfl ?_
        refine zx_dup rfl dX3_takeCommand_202 ?_
        refine zy_getI fl_RX3_9 rfl dX3_takeCommand_203 rfl ?_
        refine zx_iconst dX3_takeCommand_206 ?_
        refine zx_iadd dX3_takeCommand_207 ?_
        refine zx_putI fl_RX3_9 rfl (Or.inl fp_3_0) dX3_takeCommand_208 ?_
        refine zx_vret rfl dX3_takeCommand_211 ?_
        rw [hQ]
        refine ⟨rfl, ?_⟩
        rw [e1]
        have hW : ∀ q, 25 ≤ q → q ≤ 29 → ∀ i, i ≠ k → τ195.1 q i = σ.1 q i := fun q h1 h2 i hi => by
          rw [hr195.2.1.1 q (by dsimp only; omega), zput_i _ _ _ _ _ hi, hr89.2.1.1 q (by dsimp only; omega), zput_i _ _ _ _ _ hi]
        have hF : ∀ q, ¬ (q = 1 ∨ (24 ≤ q ∧ q ≤ 29)) → ∀ i, τ195.1 q i = σ.1 q i := fun q hq i => by
          rw [hr195.2.1.1 q (by dsimp only; omega), zput_k _ _ _ _ _ (by omega), hr89.2.1.1 q (by dsimp only; omega), zput_k _ _ _ _ _ (by omega)]
        have hV : (a2 t n 1 40 S).2.1 = 0 → τ195.1 25 k = x ∧ τ195.1 26 k = cV t n x (bk σ 30) S 1 := fun z => by
          have zz1 := (pSem_s (t := t) (n := n) (S := a1 t n 1 40 S) z).1
          exact ⟨by rw [hr195.2.1.1 25 (by dsimp only; omega), zput_k _ _ _ _ _ (by decide), hr89.2.1.1 25 (by dsimp only; omega), zput_s], by rw [hr195.2.1.1 26 (by dsimp only; omega), zput_s, if_pos zz1]; rw [hs]; rfl⟩
        first
        | exact ⟨(zOK_put hz195 (by first | exact hz195 _ _ | assumption | exact zr_b _ | exact zcmp_r _ _ | (unfold zr at *; omega))), ⟨fun q hq i => hF q hq i, hr195.2.1.2.trans (hr89.2.1.2)⟩, hq195, hW, fun z => absurd z (by assumption)⟩
        | exact ⟨(zOK_put hz195 (by first | exact hz195 _ _ | assumption | exact zr_b _ | exact zcmp_r _ _ | (unfold zr at *; omega))), ⟨fun q hq i => (zput_k _ _ _ _ _ (by dsimp only at hq; omega)).trans (hF q hq i), hr195.2.1.2.trans (hr89.2.1.2)⟩, PC_put (by decide) hq195, fun q h1 h2 i hi => (zput_k _ _ _ _ _ (by omega)).trans (hW q h1 h2 i hi), fun z => ⟨(zput_s _ _ _ _).trans (by omega), by
           have h := hV z
           simp only [zput_e]
           simpa using h⟩⟩
    · exfalso; omega
set_option maxRecDepth 20000 in
set_option maxHeartbeats 2000000 in
theorem sX3_takeCommand_2 {l : Launch} {w : zW} (hfl : l.stackTraces = false) {σ : zS} {t : Nat → Int} {n : Nat} {S : zP} {k : Nat} {x : Int} (hz : zOK σ) (hP : PC t n S σ) (hk : σ.1 24 0 = (k : Int) ∧ k < 30) (hA1 : 0 ≤ σ.1 31 0 ∧ σ.1 31 0 ≤ 8) (hA2 : 0 ≤ σ.1 31 7 ∧ σ.1 31 7 ≤ 8) (hs : x = 2) : Sp l w mX3_takeCommand 7 0 [zf 3 24, zf 6 1, zf 0 31, zi x] σ (zqv (none) (fun τ => zOK τ ∧ zSame (fun q => q = 1 ∨ (24 ≤ q ∧ q ≤ 29)) σ τ ∧ PC t n (cS t n x (bk σ 30) S) τ ∧ (∀ q, 25 ≤ q → q ≤ 29 → ∀ i, i ≠ k → τ.1 q i = σ.1 q i) ∧ ((cS t n x (bk σ 30) S).2.1 = 0 → τ.1 24 0 = ((k + 1 : Nat) : Int) ∧ τ.1 25 k = x ∧ τ.1 26 k = cV t n x (bk σ 30) S 1))) := by
  obtain ⟨Q, hQ⟩ : ∃ Q : zQ, Q = (zqv (none) (fun τ => zOK τ ∧ zSame (fun q => q = 1 ∨ (24 ≤ q ∧ q ≤ 29)) σ τ ∧ PC t n (cS t n x (bk σ 30) S) τ ∧ (∀ q, 25 ≤ q → q ≤ 29 → ∀ i, i ≠ k → τ.1 q i = σ.1 q i) ∧ ((cS t n x (bk σ 30) S).2.1 = 0 → τ.1 24 0 = ((k + 1 : Nat) : Int) ∧ τ.1 25 k = x ∧ τ.1 26 k = cV t n x (bk σ 30) S 1))) := ⟨_, rfl⟩
  rw [← hQ]
  refine zx_enter hfl (by decide) rfl 0 rfl ?_
  show zX l w mX3_takeCommand (zMQ w 7 0 Q) 0 [zf 3 24, zf 6 1, zf 0 31, zi x] [] 0 σ
  have hpp := hP.2.2.1
  have hzx : zr x := by unfold zr; omega
  have e1 : cS t n x (bk σ 30) S = a2 t n 0 39 S := by rw [hs]; rfl
  have hp25 : PC t n S (zput σ 25 k x) := PC_put (by decide) hP
  refine zx_aloadN dX3_takeCommand_0 rfl rfl ?_
  refine zy_getI fl_RX3_9 rfl dX3_takeCommand_1 rfl ?_
  refine zx_if_lt (tgt := 16) (by first | exact hz _ _ | assumption | exact zr_b _ | exact zcmp_r _ _ | (unfold zr at *; omega)) dX3_takeCommand_4 (by decide) (fun h4 => ?_) (fun h4 => ?_)
  · exfalso; omega
  · refine zx_aloadN dX3_takeCommand_7 rfl rfl ?_
    refine zy_getI fl_RX3_9 rfl dX3_takeCommand_8 rfl ?_
    refine zx_bipush dX3_takeCommand_11 rfl ?_
    refine zx_icmp_lt (tgt := 17) (by first | exact hz _ _ | assumption | exact zr_b _ | exact zcmp_r _ _ | (unfold zr at *; omega)) (by first | exact hz _ _ | assumption | exact zr_b _ | exact zcmp_r _ _ | (unfold zr at *; omega)) dX3_takeCommand_13 (by decide) (fun h13 => ?_) (fun h13 => ?_)
    · refine zx_aloadN dX3_takeCommand_17 rfl rfl ?_
      refine zy_getR (q' := 25) fl_RX3_15 rfl dX3_takeCommand_18 rfl ?_
      refine zx_aloadN dX3_takeCommand_21 rfl rfl ?_
      refine zy_getI fl_RX3_9 rfl dX3_takeCommand_22 rfl ?_
      refine zy_top (b := ((k : Nat) : Int)) (by first | exact hk.1 | exact (zput_k _ _ _ _ _ (by decide)).trans hk.1 | assumption | exact (zput_k _ _ _ _ _ (by decide)).trans (by assumption)) ?_
      refine zx_iloadN dX3_takeCommand_25 rfl rfl ?_
      refine zy_iast (i := k) rfl (by decide) (by decide) dX3_takeCommand_26 (by omega) (by omega) rfl ?_
      refine zx_iloadN dX3_takeCommand_27 rfl rfl ?_
      refine zy_top (b := 2) (hs) ?_
      refine zx_tableIn (off := 150) (tgt := 178) (by unfold zr; omega) dX3_takeCommand_28 (by omega) (by omega) rfl (by decide) ?_
      refine zx_aloadN dX3_takeCommand_178 rfl rfl ?_
      refine zy_getR (q' := 26) fl_RX3_19 rfl dX3_takeCommand_179 rfl ?_
      refine zx_aloadN dX3_takeCommand_182 rfl rfl ?_
      refine zy_getI (v := σ.1 24 0) fl_RX3_9 rfl dX3_takeCommand_183 (zput_k _ _ _ _ _ (by omega)) ?_
      refine zy_top (b := ((k : Nat) : Int)) (by first | exact hk.1 | exact (zput_k _ _ _ _ _ (by decide)).trans hk.1 | assumption | exact (zput_k _ _ _ _ _ (by decide)).trans (by assumption)) ?_
      refine zx_aloadN dX3_takeCommand_186 rfl rfl ?_
      refine zx_iconst dX3_takeCommand_187 ?_
      refine zx_bipush dX3_takeCommand_188 rfl ?_
      refine zy_cvR [zi 0, zi 39] (sX6_takeNumber (S := S) hfl (zOK_put hz (by first | exact hz _ _ | assumption | exact zr_b _ | exact zcmp_r _ _ | (unfold zr at *; omega))) hp25 (by first | exact hz _ _ | assumption | exact zr_b _ | exact zcmp_r _ _ | (unfold zr at *; omega)) (by first | exact hz _ _ | assumption | exact zr_b _ | exact zcmp_r _ _ | (unfold zr at *; omega))) dX3_takeCommand_190 (by decide) rfl cw_RX3_78 okX6_takeNumber rfl (Nat.le_of_ble_eq_true rfl) ⟨Nat.le_of_ble_eq_true rfl, Nat.le_of_ble_eq_true rfl, Nat.le_of_ble_eq_true rfl, Nat.le_of_ble_eq_true rfl⟩ (fun τ190 hr190 => ?_)
      have hz190 : zOK τ190 := hr190.1
      refine zy_top (b := if (a1 t n 0 39 S).2.1 = 0 then pV t n (S).1 else 0) (rfl) ?_
      have hq190 : PC t n (a1 t n 0 39 S) τ190 := hr190.2.2
      have hy190 : zr (if (a1 t n 0 39 S).2.1 = 0 then pV t n (S).1 else 0) := FI_z
      have n24_190 : τ190.1 24 0 = (k : Int) := (hr190.2.1.1 24 (by dsimp only; omega) 0).trans ((zput_k _ _ _ _ _ (by decide)).trans hk.1)
      refine zy_iast (i := k) rfl (by decide) (by decide) dX3_takeCommand_193 (by omega) (by omega) rfl ?_
      refine zx_aloadN dX3_takeCommand_194 rfl rfl ?_
      refine zy_cvR [] (sX6_takeSemicolon (S := (a1 t n 0 39 S)) hfl (zOK_put hz190 (by first | exact hz190 _ _ | assumption | exact zr_b _ | exact zcmp_r _ _ | (unfold zr at *; omega))) (PC_put (by decide) hq190)) dX3_takeCommand_195 (by decide) rfl cw_RX3_86 okX6_takeSemicolon rfl (Nat.le_of_ble_eq_true rfl) ⟨Nat.le_of_ble_eq_true rfl, Nat.le_of_ble_eq_true rfl, Nat.le_of_ble_eq_true rfl, Nat.le_of_ble_eq_true rfl⟩ (fun τ195 hr195 => ?_)
      have hz195 : zOK τ195 := hr195.1
      refine zy_top (b := zb ((a2 t n 0 39 S).2.1 = 0)) (rfl) ?_
      have hq195 : PC t n (a2 t n 0 39 S) τ195 := hr195.2.2
      have n195 : τ195.1 24 0 = (k : Int) := (hr195.2.1.1 24 (by dsimp only; omega) 0).trans ((zput_k _ _ _ _ _ (by decide)).trans n24_190)
      refine zx_if_eq (tgt := 211) (by first | exact hz195 _ _ | assumption | exact zr_b _ | exact zcmp_r _ _ | (unfold zr at *; omega)) dX3_takeCommand_198 (by decide) (fun h198 => ?_) (fun h198 => ?_)
      · have h198 := zb_0.mp h198
        refine zx_vret rfl dX3_takeCommand_211 ?_
        rw [hQ]
        refine ⟨rfl, ?_⟩
        rw [e1]
        have hW : ∀ q, 25 ≤ q → q ≤ 29 → ∀ i, i ≠ k → τ195.1 q i = σ.1 q i := fun q h1 h2 i hi => by
          rw [hr195.2.1.1 q (by dsimp only; omega), zput_i _ _ _ _ _ hi, hr190.2.1.1 q (by dsimp only; omega), zput_i _ _ _ _ _ hi]
        have hF : ∀ q, ¬ (q = 1 ∨ (24 ≤ q ∧ q ≤ 29)) → ∀ i, τ195.1 q i = σ.1 q i := fun q hq i => by
          rw [hr195.2.1.1 q (by dsimp only; omega), zput_k _ _ _ _ _ (by omega), hr190.2.1.1 q (by dsimp only; omega), zput_k _ _ _ _ _ (by omega)]
        have hV : (a2 t n 0 39 S).2.1 = 0 → τ195.1 25 k = x ∧ τ195.1 26 k = cV t n x (bk σ 30) S 1 := fun z => by
          have zz1 := (pSem_s (t := t) (n := n) (S := a1 t n 0 39 S) z).1
          exact ⟨by rw [hr195.2.1.1 25 (by dsimp only; omega), zput_k _ _ _ _ _ (by decide), hr190.2.1.1 25 (by dsimp only; omega), zput_s], by rw [hr195.2.1.1 26 (by dsimp only; omega), zput_s, if_pos zz1]; rw [hs]; rfl⟩
        first
        | exact ⟨hz195, ⟨fun q hq i => hF q hq i, hr195.2.1.2.trans (hr190.2.1.2)⟩, hq195, hW, fun z => absurd z (by assumption)⟩
        | exact ⟨hz195, ⟨fun q hq i => (zput_k _ _ _ _ _ (by dsimp only at hq; omega)).trans (hF q hq i), hr195.2.1.2.trans (hr190.2.1.2)⟩, PC_put (by decide) hq195, fun q h1 h2 i hi => (zput_k _ _ _ _ _ (by omega)).trans (hW q h1 h2 i hi), fun z => ⟨(zput_s _ _ _ _).trans (by omega), by
           have h := hV z
           simp only [zput_e]
           simpa using h⟩⟩
      · have h198 := zb_n.mp h198
        refine zx_aloadN dX3_takeCommand_201 rfl rfl ?_
        refine zx_dup rfl dX3_takeCommand_202 ?_
        refine zy_getI fl_RX3_9 rfl dX3_takeCommand_203 rfl ?_
        refine zx_iconst dX3_takeCommand_206 ?_
        refine zx_iadd dX3_takeCommand_207 ?_
        refine zx_putI fl_RX3_9 rfl (Or.inl fp_3_0) dX3_takeCommand_208 ?_
        refine zx_vret rfl dX3_takeCommand_211 ?_
        rw [hQ]
        refine ⟨rfl, ?_⟩
        rw [e1]
        have hW : ∀ q, 25 ≤ q → q ≤ 29 → ∀ i, i ≠ k → τ195.1 q i = σ.1 q i := fun q h1 h2 i hi => by
          rw [hr195.2.1.1 q (by dsimp only; omega), zput_i _ _ _ _ _ hi, hr190.2.1.1 q (by dsimp only; omega), zput_i _ _ _ _ _ hi]
        have hF : ∀ q, ¬ (q = 1 ∨ (24 ≤ q ∧ q ≤ 29)) → ∀ i, τ195.1 q i = σ.1 q i := fun q hq i => by
          rw [hr195.2.1.1 q (by dsimp only; omega), zput_k _ _ _ _ _ (by omega), hr190.2.1.1 q (by dsimp only; omega), zput_k _ _ _ _ _ (by omega)]
        have hV : (a2 t n 0 39 S).2.1 = 0 → τ195.1 25 k = x ∧ τ195.1 26 k = cV t n x (bk σ 30) S 1 := fun z => by
          have zz1 := (pSem_s (t := t) (n := n) (S := a1 t n 0 39 S) z).1
          exact ⟨by rw [hr195.2.1.1 25 (by dsimp only; omega), zput_k _ _ _ _ _ (by decide), hr190.2.1.1 25 (by dsimp only; omega), zput_s], by rw [hr195.2.1.1 26 (by dsimp only; omega), zput_s, if_pos zz1]; rw [hs]; rfl⟩
        first
        | exact ⟨(zOK_put hz195 (by first | exact hz195 _ _ | assumption | exact zr_b _ | exact zcmp_r _ _ | (unfold zr at *; omega))), ⟨fun q hq i => hF q hq i, hr195.2.1.2.trans (hr190.2.1.2)⟩, hq195, hW, fun z => absurd z (by assumption)⟩
        | exact ⟨(zOK_put hz195 (by first | exact hz195 _ _ | assumption | exact zr_b _ | exact zcmp_r _ _ | (unfold zr at *; omega))), ⟨fun q hq i => (zput_k _ _ _ _ _ (by dsimp only at hq; omega)).trans (hF q hq i), hr195.2.1.2.trans (hr190.2.1.2)⟩, PC_put (by decide) hq195, fun q h1 h2 i hi => (zput_k _ _ _ _ _ (by omega)).trans (hW q h1 h2 i hi), fun z => ⟨(zput_s _ _ _ _).trans (by omega), by
           have h := hV z
           simp only [zput_e]
           simpa using h⟩⟩
    · exfalso; omega
set_option maxRecDepth 20000 in
set_option maxHeartbeats 2000000 in
theorem sX3_takeCommand_3 {l : Launch} {w : zW} (hfl : l.stackTraces = false) {σ : zS} {t : Nat → Int} {n : Nat} {S : zP} {k : Nat} {x : Int} (hz : zOK σ) (hP : PC t n S σ) (hk : σ.1 24 0 = (k : Int) ∧ k < 30) (hA1 : 0 ≤ σ.1 31 0 ∧ σ.1 31 0 ≤ 8) (hA2 : 0 ≤ σ.1 31 7 ∧ σ.1 31 7 ≤ 8) (hs : x = 3) : Sp l w mX3_takeCommand 7 0 [zf 3 24, zf 6 1, zf 0 31, zi x] σ (zqv (none) (fun τ => zOK τ ∧ zSame (fun q => q = 1 ∨ (24 ≤ q ∧ q ≤ 29)) σ τ ∧ PC t n (cS t n x (bk σ 30) S) τ ∧ (∀ q, 25 ≤ q → q ≤ 29 → ∀ i, i ≠ k → τ.1 q i = σ.1 q i) ∧ ((cS t n x (bk σ 30) S).2.1 = 0 → τ.1 24 0 = ((k + 1 : Nat) : Int) ∧ τ.1 25 k = x ∧ τ.1 26 k = cV t n x (bk σ 30) S 1))) := by
  obtain ⟨Q, hQ⟩ : ∃ Q : zQ, Q = (zqv (none) (fun τ => zOK τ ∧ zSame (fun q => q = 1 ∨ (24 ≤ q ∧ q ≤ 29)) σ τ ∧ PC t n (cS t n x (bk σ 30) S) τ ∧ (∀ q, 25 ≤ q → q ≤ 29 → ∀ i, i ≠ k → τ.1 q i = σ.1 q i) ∧ ((cS t n x (bk σ 30) S).2.1 = 0 → τ.1 24 0 = ((k + 1 : Nat) : Int) ∧ τ.1 25 k = x ∧ τ.1 26 k = cV t n x (bk σ 30) S 1))) := ⟨_, rfl⟩
  rw [← hQ]
  refine zx_enter hfl (by decide) rfl 0 rfl ?_
  show zX l w mX3_takeCommand (zMQ w 7 0 Q) 0 [zf 3 24, zf 6 1, zf 0 31, zi x] [] 0 σ
  have hpp := hP.2.2.1
  have hzx : zr x := by unfold zr; omega
  have e1 : cS t n x (bk σ 30) S = a2 t n 0 39 S := by rw [hs]; rfl
  have hp25 : PC t n S (zput σ 25 k x) := PC_put (by decide) hP
  refine zx_aloadN dX3_takeCommand_0 rfl rfl ?_
  refine zy_getI fl_RX3_9 rfl dX3_takeCommand_1 rfl ?_
  refine zx_if_lt (tgt := 16) (by first | exact hz _ _ | assumption | exact zr_b _ | exact zcmp_r _ _ | (unfold zr at *; omega)) dX3_takeCommand_4 (by decide) (fun h4 => ?_) (fun h4 => ?_)
  · exfalso; omega
  · refine zx_aloadN dX3_takeCommand_7 rfl rfl ?_
    refine zy_getI fl_RX3_9 rfl dX3_takeCommand_8 rfl ?_
    refine zx_bipush dX3_takeCommand_11 rfl ?_
    refine zx_icmp_lt (tgt := 17) (by first | exact hz _ _ | assumption | exact zr_b _ | exact zcmp_r _ _ | (unfold zr at *; omega)) (by first | exact hz _ _ | assumption | exact zr_b _ | exact zcmp_r _ _ | (unfold zr at *; omega)) dX3_takeCommand_13 (by decide) (fun h13 => ?_) (fun h13 => ?_)
    · refine zx_aloadN dX3_takeCommand_17 rfl rfl ?_
      refine zy_getR (q' := 25) fl_RX3_15 rfl dX3_takeCommand_18 rfl ?_
      refine zx_aloadN dX3_takeCommand_21 rfl rfl ?_
      refine zy_getI fl_RX3_9 rfl dX3_takeCommand_22 rfl ?_
      refine zy_top (b := ((k : Nat) : Int)) (by first | exact hk.1 | exact (zput_k _ _ _ _ _ (by decide)).trans hk.1 | assumption | exact (zput_k _ _ _ _ _ (by decide)).trans (by assumption)) ?_
      refine zx_iloadN dX3_takeCommand_25 rfl rfl ?_
      refine zy_iast (i := k) rfl (by decide) (by decide) dX3_takeCommand_26 (by omega) (by omega) rfl ?_
      refine zx_iloadN dX3_takeCommand_27 rfl rfl ?_
      refine zy_top (b := 3) (hs) ?_
      refine zx_tableIn (off := 150) (tgt := 178) (by unfold zr; omega) dX3_takeCommand_28 (by omega) (by omega) rfl (by decide) ?_
      refine zx_aloadN dX3_takeCommand_178 rfl rfl ?_
      refine zy_getR (q' := 26) fl_RX3_19 rfl dX3_takeCommand_179 rfl ?_
      refine zx_aloadN dX3_takeCommand_182 rfl rfl ?_
      refine zy_getI (v := σ.1 24 0) fl_RX3_9 rfl dX3_takeCommand_183 (zput_k _ _ _ _ _ (by omega)) ?_
      refine zy_top (b := ((k : Nat) : Int)) (by first | exact hk.1 | exact (zput_k _ _ _ _ _ (by decide)).trans hk.1 | assumption | exact (zput_k _ _ _ _ _ (by decide)).trans (by assumption)) ?_
      refine zx_aloadN dX3_takeCommand_186 rfl rfl ?_
      refine zx_iconst dX3_takeCommand_187 ?_
      refine zx_bipush dX3_takeCommand_188 rfl ?_
      refine zy_cvR [zi 0, zi 39] (sX6_takeNumber (S := S) hfl (zOK_put hz (by first | exact hz _ _ | assumption | exact zr_b _ | exact zcmp_r _ _ | (unfold zr at *; omega))) hp25 (by first | exact hz _ _ | assumption | exact zr_b _ | exact zcmp_r _ _ | (unfold zr at *; omega)) (by first | exact hz _ _ | assumption | exact zr_b _ | exact zcmp_r _ _ | (unfold zr at *; omega))) dX3_takeCommand_190 (by decide) rfl cw_RX3_78 okX6_takeNumber rfl (Nat.le_of_ble_eq_true rfl) ⟨Nat.le_of_ble_eq_true rfl, Nat.le_of_ble_eq_true rfl, Nat.le_of_ble_eq_true rfl, Nat.le_of_ble_eq_true rfl⟩ (fun τ190 hr190 => ?_)
      have hz190 : zOK τ190 := hr190.1
      refine zy_top (b := if (a1 t n 0 39 S).2.1 = 0 then pV t n (S).1 else 0) (rfl) ?_
      have hq190 : PC t n (a1 t n 0 39 S) τ190 := hr190.2.2
      have hy190 : zr (if (a1 t n 0 39 S).2.1 = 0 then pV t n (S).1 else 0) := FI_z
      have n24_190 : τ190.1 24 0 = (k : Int) := (hr190.2.1.1 24 (by dsimp only; omega) 0).trans ((zput_k _ _ _ _ _ (by decide)).trans hk.1)
      refine zy_iast (i := k) rfl (by decide) (by decide) dX3_takeCommand_193 (by omega) (by omega) rfl ?_
      refine zx_aloadN dX3_takeCommand_194 rfl rfl ?_
      refine zy_cvR [] (sX6_takeSemicolon (S := (a1 t n 0 39 S)) hfl (zOK_put hz190 (by first | exact hz190 _ _ | assumption | exact zr_b _ | exact zcmp_r _ _ | (unfold zr at *; omega))) (PC_put (by decide) hq190)) dX3_takeCommand_195 (by decide) rfl cw_RX3_86 okX6_takeSemicolon rfl (Nat.le_of_ble_eq_true rfl) ⟨Nat.le_of_ble_eq_true rfl, Nat.le_of_ble_eq_true rfl, Nat.le_of_ble_eq_true rfl, Nat.le_of_ble_eq_true rfl⟩ (fun τ195 hr195 => ?_)
      have hz195 : zOK τ195 := hr195.1
      refine zy_top (b := zb ((a2 t n 0 39 S).2.1 = 0)) (rfl) ?_
      have hq195 : PC t n (a2 t n 0 39 S) τ195 := hr195.2.2
      have n195 : τ195.1 24 0 = (k : Int) := (hr195.2.1.1 24 (by dsimp only; omega) 0).trans ((zput_k _ _ _ _ _ (by decide)).trans n24_190)
      refine zx_if_eq (tgt := 211) (by first | exact hz195 _ _ | assumption | exact zr_b _ | exact zcmp_r _ _ | (unfold zr at *; omega)) dX3_takeCommand_198 (by decide) (fun h198 => ?_) (fun h198 => ?_)
      · have h198 := zb_0.mp h198
        refine zx_vret rfl dX3_takeCommand_211 ?_
        rw [hQ]
        refine ⟨rfl, ?_⟩
        rw [e1]
        have hW : ∀ q, 25 ≤ q → q ≤ 29 → ∀ i, i ≠ k → τ195.1 q i = σ.1 q i := fun q h1 h2 i hi => by
          rw [hr195.2.1.1 q (by dsimp only; omega), zput_i _ _ _ _ _ hi, hr190.2.1.1 q (by dsimp only; omega), zput_i _ _ _ _ _ hi]
        have hF : ∀ q, ¬ (q = 1 ∨ (24 ≤ q ∧ q ≤ 29)) → ∀ i, τ195.1 q i = σ.1 q i := fun q hq i => by
          rw [hr195.2.1.1 q (by dsimp only; omega), zput_k _ _ _ _ _ (by omega), hr190.2.1.1 q (by dsimp only; omega), zput_k _ _ _ _ _ (by omega)]
        have hV : (a2 t n 0 39 S).2.1 = 0 → τ195.1 25 k = x ∧ τ195.1 26 k = cV t n x (bk σ 30) S 1 := fun z => by
          have zz1 := (pSem_s (t := t) (n := n) (S := a1 t n 0 39 S) z).1
          exact ⟨by rw [hr195.2.1.1 25 (by dsimp only; omega), zput_k _ _ _ _ _ (by decide), hr190.2.1.1 25 (by dsimp only; omega), zput_s], by rw [hr195.2.1.1 26 (by dsimp only; omega), zput_s, if_pos zz1]; rw [hs]; rfl⟩
        first
        | exact ⟨hz195, ⟨fun q hq i => hF q hq i, hr195.2.1.2.trans (hr190.2.1.2)⟩, hq195, hW, fun z => absurd z (by assumption)⟩
        | exact ⟨hz195, ⟨fun q hq i => (zput_k _ _ _ _ _ (by dsimp only at hq; omega)).trans (hF q hq i), hr195.2.1.2.trans (hr190.2.1.2)⟩, PC_put (by decide) hq195, fun q h1 h2 i hi => (zput_k _ _ _ _ _ (by omega)).trans (hW q h1 h2 i hi), fun z => ⟨(zput_s _ _ _ _).trans (by omega), by
           have h := hV z
           simp only [zput_e]
           simpa using h⟩⟩
      · have h198 := zb_n.mp h198
        refine zx_aloadN dX3_takeCommand_201 rfl rfl ?_
        refine zx_dup rfl dX3_takeCommand_202 ?_
        refine zy_getI fl_RX3_9 rfl dX3_takeCommand_203 rfl ?_
        refine zx_iconst dX3_takeCommand_206 ?_
        refine zx_iadd dX3_takeCommand_207 ?_
        refine zx_putI fl_RX3_9 rfl (Or.inl fp_3_0) dX3_takeCommand_208 ?_
        refine zx_vret rfl dX3_takeCommand_211 ?_
        rw [hQ]
        refine ⟨rfl, ?_⟩
        rw [e1]
        have hW : ∀ q, 25 ≤ q → q ≤ 29 → ∀ i, i ≠ k → τ195.1 q i = σ.1 q i := fun q h1 h2 i hi => by
          rw [hr195.2.1.1 q (by dsimp only; omega), zput_i _ _ _ _ _ hi, hr190.2.1.1 q (by dsimp only; omega), zput_i _ _ _ _ _ hi]
        have hF : ∀ q, ¬ (q = 1 ∨ (24 ≤ q ∧ q ≤ 29)) → ∀ i, τ195.1 q i = σ.1 q i := fun q hq i => by
          rw [hr195.2.1.1 q (by dsimp only; omega), zput_k _ _ _ _ _ (by omega), hr190.2.1.1 q (by dsimp only; omega), zput_k _ _ _ _ _ (by omega)]
        have hV : (a2 t n 0 39 S).2.1 = 0 → τ195.1 25 k = x ∧ τ195.1 26 k = cV t n x (bk σ 30) S 1 := fun z => by
          have zz1 := (pSem_s (t := t) (n := n) (S := a1 t n 0 39 S) z).1
          exact ⟨by rw [hr195.2.1.1 25 (by dsimp only; omega), zput_k _ _ _ _ _ (by decide), hr190.2.1.1 25 (by dsimp only; omega), zput_s], by rw [hr195.2.1.1 26 (by dsimp only; omega), zput_s, if_pos zz1]; rw [hs]; rfl⟩
        first
        | exact ⟨(zOK_put hz195 (by first | exact hz195 _ _ | assumption | exact zr_b _ | exact zcmp_r _ _ | (unfold zr at *; omega))), ⟨fun q hq i => hF q hq i, hr195.2.1.2.trans (hr190.2.1.2)⟩, hq195, hW, fun z => absurd z (by assumption)⟩
        | exact ⟨(zOK_put hz195 (by first | exact hz195 _ _ | assumption | exact zr_b _ | exact zcmp_r _ _ | (unfold zr at *; omega))), ⟨fun q hq i => (zput_k _ _ _ _ _ (by dsimp only at hq; omega)).trans (hF q hq i), hr195.2.1.2.trans (hr190.2.1.2)⟩, PC_put (by decide) hq195, fun q h1 h2 i hi => (zput_k _ _ _ _ _ (by omega)).trans (hW q h1 h2 i hi), fun z => ⟨(zput_s _ _ _ _).trans (by omega), by
           have h := hV z
           simp only [zput_e]
           simpa using h⟩⟩
    · exfalso; omega
set_option maxRecDepth 20000 in
set_option maxHeartbeats 2000000 in
theorem sX3_takeCommand_4 {l : Launch} {w : zW} (hfl : l.stackTraces = false) {σ : zS} {t : Nat → Int} {n : Nat} {S : zP} {k : Nat} {x : Int} (hz : zOK σ) (hP : PC t n S σ) (hk : σ.1 24 0 = (k : Int) ∧ k < 30) (hA1 : 0 ≤ σ.1 31 0 ∧ σ.1 31 0 ≤ 8) (hA2 : 0 ≤ σ.1 31 7 ∧ σ.1 31 7 ≤ 8) (hs : x = 4) : Sp l w mX3_takeCommand 7 0 [zf 3 24, zf 6 1, zf 0 31, zi x] σ (zqv (none) (fun τ => zOK τ ∧ zSame (fun q => q = 1 ∨ (24 ≤ q ∧ q ≤ 29)) σ τ ∧ PC t n (cS t n x (bk σ 30) S) τ ∧ (∀ q, 25 ≤ q → q ≤ 29 → ∀ i, i ≠ k → τ.1 q i = σ.1 q i) ∧ ((cS t n x (bk σ 30) S).2.1 = 0 → τ.1 24 0 = ((k + 1 : Nat) : Int) ∧ τ.1 25 k = x ∧ τ.1 26 k = cV t n x (bk σ 30) S 1 ∧ τ.1 27 k = cV t n x (bk σ 30) S 2))) := by
  obtain ⟨Q, hQ⟩ : ∃ Q : zQ, Q = (zqv (none) (fun τ => zOK τ ∧ zSame (fun q => q = 1 ∨ (24 ≤ q ∧ q ≤ 29)) σ τ ∧ PC t n (cS t n x (bk σ 30) S) τ ∧ (∀ q, 25 ≤ q → q ≤ 29 → ∀ i, i ≠ k → τ.1 q i = σ.1 q i) ∧ ((cS t n x (bk σ 30) S).2.1 = 0 → τ.1 24 0 = ((k + 1 : Nat) : Int) ∧ τ.1 25 k = x ∧ τ.1 26 k = cV t n x (bk σ 30) S 1 ∧ τ.1 27 k = cV t n x (bk σ 30) S 2))) := ⟨_, rfl⟩
  rw [← hQ]
  refine zx_enter hfl (by decide) rfl 0 rfl ?_
  show zX l w mX3_takeCommand (zMQ w 7 0 Q) 0 [zf 3 24, zf 6 1, zf 0 31, zi x] [] 0 σ
  have hpp := hP.2.2.1
  have hzx : zr x := by unfold zr; omega
  have e1 : cS t n x (bk σ 30) S = g2 t n S := by rw [hs]; rfl
  have hp25 : PC t n S (zput σ 25 k x) := PC_put (by decide) hP
  refine zx_aloadN dX3_takeCommand_0 rfl rfl ?_
  refine zy_getI fl_RX3_9 rfl dX3_takeCommand_1 rfl ?_
  refine zx_if_lt (tgt := 16) (by first | exact hz _ _ | assumption | exact zr_b _ | exact zcmp_r _ _ | (unfold zr at *; omega)) dX3_takeCommand_4 (by decide) (fun h4 => ?_) (fun h4 => ?_)
  · exfalso; omega
  · refine zx_aloadN dX3_takeCommand_7 rfl rfl ?_
    refine zy_getI fl_RX3_9 rfl dX3_takeCommand_8 rfl ?_
    refine zx_bipush dX3_takeCommand_11 rfl ?_
    refine zx_icmp_lt (tgt := 17) (by first | exact hz _ _ | assumption | exact zr_b _ | exact zcmp_r _ _ | (unfold zr at *; omega)) (by first | exact hz _ _ | assumption | exact zr_b _ | exact zcmp_r _ _ | (unfold zr at *; omega)) dX3_takeCommand_13 (by decide) (fun h13 => ?_) (fun h13 => ?_)
    · refine zx_aloadN dX3_takeCommand_17 rfl rfl ?_
      refine zy_getR (q' := 25) fl_RX3_15 rfl dX3_takeCommand_18 rfl ?_
      refine zx_aloadN dX3_takeCommand_21 rfl rfl ?_
      refine zy_getI fl_RX3_9 rfl dX3_takeCommand_22 rfl ?_
      refine zy_top (b := ((k : Nat) : Int)) (by first | exact hk.1 | exact (zput_k _ _ _ _ _ (by decide)).trans hk.1 | assumption | exact (zput_k _ _ _ _ _ (by decide)).trans (by assumption)) ?_
      refine zx_iloadN dX3_takeCommand_25 rfl rfl ?_
      refine zy_iast (i := k) rfl (by decide) (by decide) dX3_takeCommand_26 (by omega) (by omega) rfl ?_
      refine zx_iloadN dX3_takeCommand_27 rfl rfl ?_
      refine zy_top (b := 4) (hs) ?_
      refine zx_tableIn (off := 68) (tgt := 96) (by unfold zr; omega) dX3_takeCommand_28 (by omega) (by omega) rfl (by decide) ?_
      refine zx_aloadN dX3_takeCommand_96 rfl rfl ?_
      refine zy_getR (q' := 26) fl_RX3_19 rfl dX3_takeCommand_97 rfl ?_
      refine zx_aloadN dX3_takeCommand_100 rfl rfl ?_
      refine zy_getI (v := σ.1 24 0) fl_RX3_9 rfl dX3_takeCommand_101 (zput_k _ _ _ _ _ (by omega)) ?_
      refine zy_top (b := ((k : Nat) : Int)) (by first | exact hk.1 | exact (zput_k _ _ _ _ _ (by decide)).trans hk.1 | assumption | exact (zput_k _ _ _ _ _ (by decide)).trans (by assumption)) ?_
      refine zx_aloadN dX3_takeCommand_104 rfl rfl ?_
      refine zx_iconst dX3_takeCommand_105 ?_
      refine zx_bipush dX3_takeCommand_106 rfl ?_
      refine zy_cvR [zi 0, zi 39] (sX6_takeNumber (S := S) hfl (zOK_put hz (by first | exact hz _ _ | assumption | exact zr_b _ | exact zcmp_r _ _ | (unfold zr at *; omega))) hp25 (by first | exact hz _ _ | assumption | exact zr_b _ | exact zcmp_r _ _ | (unfold zr at *; omega)) (by first | exact hz _ _ | assumption | exact zr_b _ | exact zcmp_r _ _ | (unfold zr at *; omega))) dX3_takeCommand_108 (by decide) rfl cw_RX3_78 okX6_takeNumber rfl (Nat.le_of_ble_eq_true rfl) ⟨Nat.le_of_ble_eq_true rfl, Nat.le_of_ble_eq_true rfl, Nat.le_of_ble_eq_true rfl, Nat.le_of_ble_eq_true rfl⟩ (fun τ108 hr108 => ?_)
      have hz108 : zOK τ108 := hr108.1
      refine zy_top (b := if (a1 t n 0 39 S).2.1 = 0 then pV t n (S).1 else 0) (rfl) ?_
      have hq108 : PC t n (a1 t n 0 39 S) τ108 := hr108.2.2
      have hy108 : zr (if (a1 t n 0 39 S).2.1 = 0 then pV t n (S).1 else 0) := FI_z
      have n24_108 : τ108.1 24 0 = (k : Int) := (hr108.2.1.1 24 (by dsimp only; omega) 0).trans ((zput_k _ _ _ _ _ (by decide)).trans hk.1)
      refine zy_iast (i := k) rfl (by decide) (by decide) dX3_takeCommand_111 (by omega) (by omega) rfl ?_
      refine zx_aloadN dX3_takeCommand_112 rfl rfl ?_
      refine zy_getR (q' := 27) fl_RX3_22 rfl dX3_takeCommand_113 rfl ?_
      refine zx_aloadN dX3_takeCommand_116 rfl rfl ?_
      refine zy_getI (v := τ108.1 24 0) fl_RX3_9 rfl dX3_takeCommand_117 (zput_k _ _ _ _ _ (by omega)) ?_
      refine zy_top (b := ((k : Nat) : Int)) (by first | exact hk.1 | exact (zput_k _ _ _ _ _ (by decide)).trans hk.1 | assumption | exact (zput_k _ _ _ _ _ (by decide)).trans (by assumption)) ?_
      refine zx_aloadN dX3_takeCommand_120 rfl rfl ?_
      refine zx_iconst dX3_takeCommand_121 ?_
      refine zx_bipush dX3_takeCommand_122 rfl ?_
      refine zy_cvR [zi 1, zi 9] (sX6_takeNumber (S := (a1 t n 0 39 S)) hfl (zOK_put hz108 (by first | exact hz108 _ _ | assumption | exact zr_b _ | exact zcmp_r _ _ | (unfold zr at *; omega))) (PC_put (by decide) hq108) (by first | exact hz108 _ _ | assumption | exact zr_b _ | exact zcmp_r _ _ | (unfold zr at *; omega)) (by first | exact hz108 _ _ | assumption | exact zr_b _ | exact zcmp_r _ _ | (unfold zr at *; omega))) dX3_takeCommand_124 (by decide) rfl cw_RX3_78 okX6_takeNumber rfl (Nat.le_of_ble_eq_true rfl) ⟨Nat.le_of_ble_eq_true rfl, Nat.le_of_ble_eq_true rfl, Nat.le_of_ble_eq_true rfl, Nat.le_of_ble_eq_true rfl⟩ (fun τ124 hr124 => ?_)
      have hz124 : zOK τ124 := hr124.1
      refine zy_top (b := if (g1 t n S).2.1 = 0 then pV t n (a1 t n 0 39 S).1 else 0) (rfl) ?_
      have hq124 : PC t n (g1 t n S) τ124 := hr124.2.2
      have hy124 : zr (if (g1 t n S).2.1 = 0 then pV t n (a1 t n 0 39 S).1 else 0) := FI_z
      have n24_124 : τ124.1 24 0 = (k : Int) := (hr124.2.1.1 24 (by dsimp only; omega) 0).trans ((zput_k _ _ _ _ _ (by decide)).trans n24_108)
      refine zy_iast (i := k) rfl (by decide) (by decide) dX3_takeCommand_127 (by omega) (by omega) rfl ?_
      refine zx_goto (tgt := 194) dX3_takeCommand_128 (by decide) ?_
      refine zx_aloadN dX3_takeCommand_194 rfl rfl ?_
      refine zy_cvR [] (sX6_takeSemicolon (S := (g1 t n S)) hfl (zOK_put hz124 (by first | exact hz124 _ _ | assumption | exact zr_b _ | exact zcmp_r _ _ | (unfold zr at *; omega))) (PC_put (by decide) hq124)) dX3_takeCommand_195 (by decide) rfl cw_RX3_86 okX6_takeSemicolon rfl (Nat.le_of_ble_eq_true rfl) ⟨Nat.le_of_ble_eq_true rfl, Nat.le_of_ble_eq_true rfl, Nat.le_of_ble_eq_true rfl, Nat.le_of_ble_eq_true rfl⟩ (fun τ195 hr195 => ?_)
      have hz195 : zOK τ195 := hr195.1
      refine zy_top (b := zb ((g2 t n S).2.1 = 0)) (rfl) ?_
      have hq195 : PC t n (g2 t n S) τ195 := hr195.2.2
      have n195 : τ195.1 24 0 = (k : Int) := (hr195.2.1.1 24 (by dsimp only; omega) 0).trans ((zput_k _ _ _ _ _ (by decide)).trans n24_124)
      refine zx_if_eq (tgt := 211) (by first | exact hz195 _ _ | assumption | exact zr_b _ | exact zcmp_r _ _ | (unfold zr at *; omega)) dX3_takeCommand_198 (by decide) (fun h198 => ?_) (fun h198 => ?_)
      · have h198 := zb_0.mp h198
        refine zx_vret rfl dX3_takeCommand_211 ?_
        rw [hQ]
        refine ⟨rfl, ?_⟩
        rw [e1]
        have hW : ∀ q, 25 ≤ q → q ≤ 29 → ∀ i, i ≠ k → τ195.1 q i = σ.1 q i := fun q h1 h2 i hi => by
          rw [hr195.2.1.1 q (by dsimp only; omega), zput_i _ _ _ _ _ hi, hr124.2.1.1 q (by dsimp only; omega), zput_i _ _ _ _ _ hi, hr108.2.1.1 q (by dsimp only; omega), zput_i _ _ _ _ _ hi]
        have hF : ∀ q, ¬ (q = 1 ∨ (24 ≤ q ∧ q ≤ 29)) → ∀ i, τ195.1 q i = σ.1 q i := fun q hq i => by
          rw [hr195.2.1.1 q (by dsimp only; omega), zput_k _ _ _ _ _ (by omega), hr124.2.1.1 q (by dsimp only; omega), zput_k _ _ _ _ _ (by omega), hr108.2.1.1 q (by dsimp only; omega), zput_k _ _ _ _ _ (by omega)]
        have hV : (g2 t n S).2.1 = 0 → τ195.1 25 k = x ∧ τ195.1 26 k = cV t n x (bk σ 30) S 1 ∧ τ195.1 27 k = cV t n x (bk σ 30) S 2 := fun z => by
          have zz2 := (pSem_s (t := t) (n := n) (S := g1 t n S) z).1
          have zz1 := (pNum_s (t := t) (n := n) (S := a1 t n 0 39 S) zz2).1
          exact ⟨by rw [hr195.2.1.1 25 (by dsimp only; omega), zput_k _ _ _ _ _ (by decide), hr124.2.1.1 25 (by dsimp only; omega), zput_k _ _ _ _ _ (by decide), hr108.2.1.1 25 (by dsimp only; omega), zput_s], by rw [hr195.2.1.1 26 (by dsimp only; omega), zput_k _ _ _ _ _ (by decide), hr124.2.1.1 26 (by dsimp only; omega), zput_s, if_pos zz1]; rw [hs]; rfl, by rw [hr195.2.1.1 27 (by dsimp only; omega), zput_s, if_pos zz2]; rw [hs]; rfl⟩
        first
        | exact ⟨hz195, ⟨fun q hq i => hF q hq i, hr195.2.1.2.trans (hr124.2.1.2.trans (hr108.2.1.2))⟩, hq195, hW, fun z => absurd z (by assumption)⟩
        | exact ⟨hz195, ⟨fun q hq i => (zput_k _ _ _ _ _ (by dsimp only at hq; omega)).trans (hF q hq i), hr195.2.1.2.trans (hr124.2.1.2.trans (hr108.2.1.2))⟩, PC_put (by decide) hq195, fun q h1 h2 i hi => (zput_k _ _ _ _ _ (by omega)).trans (hW q h1 h2 i hi), fun z => ⟨(zput_s _ _ _ _).trans (by omega), by
           have h := hV z
           simp only [zput_e]
           simpa using h⟩⟩
      · have h198 := zb_n.mp h198
        refine zx_aloadN dX3_takeCommand_201 rfl rfl ?_
        refine zx_dup rfl dX3_takeCommand_202 ?_
        refine zy_getI fl_RX3_9 rfl dX3_takeCommand_203 rfl ?_
        refine zx_iconst dX3_takeCommand_206 ?_
        refine zx_iadd dX3_takeCommand_207 ?_
        refine zx_putI fl_RX3_9 rfl (Or.inl fp_3_0) dX3_takeCommand_208 ?_
        refine zx_vret rfl dX3_takeCommand_211 ?_
        rw [hQ]
        refine ⟨rfl, ?_⟩
        rw [e1]
        have hW : ∀ q, 25 ≤ q → q ≤ 29 → ∀ i, i ≠ k → τ195.1 q i = σ.1 q i := fun q h1 h2 i hi => by
          rw [hr195.2.1.1 q (by dsimp only; omega), zput_i _ _ _ _ _ hi, hr124.2.1.1 q (by dsimp only; omega), zput_i _ _ _ _ _ hi, hr108.2.1.1 q (by dsimp only; omega), zput_i _ _ _ _ _ hi]
        have hF : ∀ q, ¬ (q = 1 ∨ (24 ≤ q ∧ q ≤ 29)) → ∀ i, τ195.1 q i = σ.1 q i := fun q hq i => by
          rw [hr195.2.1.1 q (by dsimp only; omega), zput_k _ _ _ _ _ (by omega), hr124.2.1.1 q (by dsimp only; omega), zput_k _ _ _ _ _ (by omega), hr108.2.1.1 q (by dsimp only; omega), zput_k _ _ _ _ _ (by omega)]
        have hV : (g2 t n S).2.1 = 0 → τ195.1 25 k = x ∧ τ195.1 26 k = cV t n x (bk σ 30) S 1 ∧ τ195.1 27 k = cV t n x (bk σ 30) S 2 := fun z => by
          have zz2 := (pSem_s (t := t) (n := n) (S := g1 t n S) z).1
          have zz1 := (pNum_s (t := t) (n := n) (S := a1 t n 0 39 S) zz2).1
          exact ⟨by rw [hr195.2.1.1 25 (by dsimp only; omega), zput_k _ _ _ _ _ (by decide), hr124.2.1.1 25 (by dsimp only; omega), zput_k _ _ _ _ _ (by decide), hr108.2.1.1 25 (by dsimp only; omega), zput_s], by rw [hr195.2.1.1 26 (by dsimp only; omega), zput_k _ _ _ _ _ (by decide), hr124.2.1.1 26 (by dsimp only; omega), zput_s, if_pos zz1]; rw [hs]; rfl, by rw [hr195.2.1.1 27 (by dsimp only; omega), zput_s, if_pos zz2]; rw [hs]; rfl⟩
        first
        | exact ⟨(zOK_put hz195 (by first | exact hz195 _ _ | assumption | exact zr_b _ | exact zcmp_r _ _ | (unfold zr at *; omega))), ⟨fun q hq i => hF q hq i, hr195.2.1.2.trans (hr124.2.1.2.trans (hr108.2.1.2))⟩, hq195, hW, fun z => absurd z (by assumption)⟩
        | exact ⟨(zOK_put hz195 (by first | exact hz195 _ _ | assumption | exact zr_b _ | exact zcmp_r _ _ | (unfold zr at *; omega))), ⟨fun q hq i => (zput_k _ _ _ _ _ (by dsimp only at hq; omega)).trans (hF q hq i), hr195.2.1.2.trans (hr124.2.1.2.trans (hr108.2.1.2))⟩, PC_put (by decide) hq195, fun q h1 h2 i hi => (zput_k _ _ _ _ _ (by omega)).trans (hW q h1 h2 i hi), fun z => ⟨(zput_s _ _ _ _).trans (by omega), by
           have h := hV z
           simp only [zput_e]
           simpa using h⟩⟩
    · exfalso; omega
set_option maxRecDepth 20000 in
set_option maxHeartbeats 2000000 in
theorem sX3_takeCommand_5 {l : Launch} {w : zW} (hfl : l.stackTraces = false) {σ : zS} {t : Nat → Int} {n : Nat} {S : zP} {k : Nat} {x : Int} (hz : zOK σ) (hP : PC t n S σ) (hk : σ.1 24 0 = (k : Int) ∧ k < 30) (hA1 : 0 ≤ σ.1 31 0 ∧ σ.1 31 0 ≤ 8) (hA2 : 0 ≤ σ.1 31 7 ∧ σ.1 31 7 ≤ 8) (hs : x = 5) : Sp l w mX3_takeCommand 7 0 [zf 3 24, zf 6 1, zf 0 31, zi x] σ (zqv (none) (fun τ => zOK τ ∧ zSame (fun q => q = 1 ∨ (24 ≤ q ∧ q ≤ 29)) σ τ ∧ PC t n (cS t n x (bk σ 30) S) τ ∧ (∀ q, 25 ≤ q → q ≤ 29 → ∀ i, i ≠ k → τ.1 q i = σ.1 q i) ∧ ((cS t n x (bk σ 30) S).2.1 = 0 → τ.1 24 0 = ((k + 1 : Nat) : Int) ∧ τ.1 25 k = x ∧ τ.1 26 k = cV t n x (bk σ 30) S 1 ∧ τ.1 27 k = cV t n x (bk σ 30) S 2 ∧ τ.1 28 k = cV t n x (bk σ 30) S 3))) := by
  obtain ⟨Q, hQ⟩ : ∃ Q : zQ, Q = (zqv (none) (fun τ => zOK τ ∧ zSame (fun q => q = 1 ∨ (24 ≤ q ∧ q ≤ 29)) σ τ ∧ PC t n (cS t n x (bk σ 30) S) τ ∧ (∀ q, 25 ≤ q → q ≤ 29 → ∀ i, i ≠ k → τ.1 q i = σ.1 q i) ∧ ((cS t n x (bk σ 30) S).2.1 = 0 → τ.1 24 0 = ((k + 1 : Nat) : Int) ∧ τ.1 25 k = x ∧ τ.1 26 k = cV t n x (bk σ 30) S 1 ∧ τ.1 27 k = cV t n x (bk σ 30) S 2 ∧ τ.1 28 k = cV t n x (bk σ 30) S 3))) := ⟨_, rfl⟩
  rw [← hQ]
  refine zx_enter hfl (by decide) rfl 0 rfl ?_
  show zX l w mX3_takeCommand (zMQ w 7 0 Q) 0 [zf 3 24, zf 6 1, zf 0 31, zi x] [] 0 σ
  have hpp := hP.2.2.1
  have hzx : zr x := by unfold zr; omega
  have e1 : cS t n x (bk σ 30) S = l3 t n (bk σ 30) S := by rw [hs]; rfl
  have hp25 : PC t n S (zput σ 25 k x) := PC_put (by decide) hP
  have ak25 : ∀ q, q ≠ 25 → (zput σ 25 k x).1 q = σ.1 q := fun q hq => funext (fun i => zput_k _ _ _ _ _ hq)
  have hfz1 := fz_r (σ.1 32) hA1 (nmv t n S)
  have hfz2 := fz_r (σ.1 32) hA1 (nmv t n (o1 t n (bk σ 30) S))
  refine zx_aloadN dX3_takeCommand_0 rfl rfl ?_
  refine zy_getI fl_RX3_9 rfl dX3_takeCommand_1 rfl ?_
  refine zx_if_lt (tgt := 16) (by first | exact hz _ _ | assumption | exact zr_b _ | exact zcmp_r _ _ | (unfold zr at *; omega)) dX3_takeCommand_4 (by decide) (fun h4 => ?_) (fun h4 => ?_)
  · exfalso; omega
  · refine zx_aloadN dX3_takeCommand_7 rfl rfl ?_
    refine zy_getI fl_RX3_9 rfl dX3_takeCommand_8 rfl ?_
    refine zx_bipush dX3_takeCommand_11 rfl ?_
    refine zx_icmp_lt (tgt := 17) (by first | exact hz _ _ | assumption | exact zr_b _ | exact zcmp_r _ _ | (unfold zr at *; omega)) (by first | exact hz _ _ | assumption | exact zr_b _ | exact zcmp_r _ _ | (unfold zr at *; omega)) dX3_takeCommand_13 (by decide) (fun h13 => ?_) (fun h13 => ?_)
    · refine zx_aloadN dX3_takeCommand_17 rfl rfl ?_
      refine zy_getR (q' := 25) fl_RX3_15 rfl dX3_takeCommand_18 rfl ?_
      refine zx_aloadN dX3_takeCommand_21 rfl rfl ?_
      refine zy_getI fl_RX3_9 rfl dX3_takeCommand_22 rfl ?_
      refine zy_top (b := ((k : Nat) : Int)) (by first | exact hk.1 | exact (zput_k _ _ _ _ _ (by decide)).trans hk.1 | assumption | exact (zput_k _ _ _ _ _ (by decide)).trans (by assumption)) ?_
      refine zx_iloadN dX3_takeCommand_25 rfl rfl ?_
      refine zy_iast (i := k) rfl (by decide) (by decide) dX3_takeCommand_26 (by omega) (by omega) rfl ?_
      refine zx_iloadN dX3_takeCommand_27 rfl rfl ?_
      refine zy_top (b := 5) (hs) ?_
      refine zx_tableIn (off := 103) (tgt := 131) (by unfold zr; omega) dX3_takeCommand_28 (by omega) (by omega) rfl (by decide) ?_
      refine zx_aloadN dX3_takeCommand_131 rfl rfl ?_
      refine zy_getR (q' := 26) fl_RX3_19 rfl dX3_takeCommand_132 rfl ?_
      refine zx_aloadN dX3_takeCommand_135 rfl rfl ?_
      refine zy_getI (v := σ.1 24 0) fl_RX3_9 rfl dX3_takeCommand_136 (zput_k _ _ _ _ _ (by omega)) ?_
      refine zy_top (b := ((k : Nat) : Int)) (by first | exact hk.1 | exact (zput_k _ _ _ _ _ (by decide)).trans hk.1 | assumption | exact (zput_k _ _ _ _ _ (by decide)).trans (by assumption)) ?_
      refine zx_aloadN dX3_takeCommand_139 rfl rfl ?_
      refine zx_aloadN dX3_takeCommand_140 rfl rfl ?_
      refine zy_cvR [zf 0 31] (sX6_takePrinter (S := S) (a := 31) hfl (zOK_put hz (by first | exact hz _ _ | assumption | exact zr_b _ | exact zcmp_r _ _ | (unfold zr at *; omega))) hp25 (by rw [zput_k _ _ _ _ _ (by decide)]; exact hA1)) dX3_takeCommand_141 (by decide) rfl cw_RX3_82 okX6_takePrinter rfl (Nat.le_of_ble_eq_true rfl) ⟨Nat.le_of_ble_eq_true rfl, Nat.le_of_ble_eq_true rfl, Nat.le_of_ble_eq_true rfl, Nat.le_of_ble_eq_true rfl⟩ (fun τ141 hr141 => ?_)
      refine zy_top (b := fz ((zput σ 25 k x).1 32) ((zput σ 25 k x).1 31 0) (nmv t n S)) rfl ?_
      have hz141 : zOK τ141 := hr141.1
      refine zy_top (b := fz (σ.1 32) (σ.1 31 0) (nmv t n S)) (by rw [ak25 32 (by decide), zput_k _ _ _ _ _ (by decide)]) ?_
      have hq141 : PC t n (o1 t n (bk σ 30) S) τ141 := by
        have h := hr141.2.2
        rw [ak25 32 (by decide), zput_k σ 25 k x 0 (by decide)] at h
        exact h
      have f141 : ∀ q, 30 ≤ q → ∀ i, τ141.1 q i = σ.1 q i := fun q hq i => (hr141.2.1.1 q (by dsimp only; omega) i).trans (zput_k _ _ _ _ _ (by omega))
      have n24_141 : τ141.1 24 0 = (k : Int) := (hr141.2.1.1 24 (by dsimp only; omega) 0).trans ((zput_k _ _ _ _ _ (by decide)).trans hk.1)
      have a141 : (zput τ141 26 k (fz (σ.1 32) (σ.1 31 0) (nmv t n S))).1 32 = σ.1 32 := funext (fun i => (zput_k _ _ _ _ _ (by decide)).trans (f141 32 (by omega) i))
      have b141 : (zput τ141 26 k (fz (σ.1 32) (σ.1 31 0) (nmv t n S))).1 31 0 = σ.1 31 0 := (zput_k _ _ _ _ _ (by decide)).trans (f141 31 (by omega) 0)
      refine zy_iast (i := k) rfl (by decide) (by decide) dX3_takeCommand_144 (by omega) (by omega) rfl ?_
      refine zx_aloadN dX3_takeCommand_145 rfl rfl ?_
      refine zy_getR (q' := 27) fl_RX3_22 rfl dX3_takeCommand_146 rfl ?_
      refine zx_aloadN dX3_takeCommand_149 rfl rfl ?_
      refine zy_getI (v := τ141.1 24 0) fl_RX3_9 rfl dX3_takeCommand_150 (zput_k _ _ _ _ _ (by omega)) ?_
      refine zy_top (b := ((k : Nat) : Int)) (by first | exact hk.1 | exact (zput_k _ _ _ _ _ (by decide)).trans hk.1 | assumption | exact (zput_k _ _ _ _ _ (by decide)).trans (by assumption)) ?_
      refine zx_aloadN dX3_takeCommand_153 rfl rfl ?_
      refine zx_aloadN dX3_takeCommand_154 rfl rfl ?_
      refine zy_cvR [zf 0 31] (sX6_takePrinter (S := (o1 t n (bk σ 30) S)) (a := 31) hfl (zOK_put hz141 (by first | exact hz141 _ _ | assumption | exact zr_b _ | exact zcmp_r _ _ | (unfold zr at *; omega))) (PC_put (by decide) hq141) (by rw [b141]; exact hA1)) dX3_takeCommand_155 (by decide) rfl cw_RX3_82 okX6_takePrinter rfl (Nat.le_of_ble_eq_true rfl) ⟨Nat.le_of_ble_eq_true rfl, Nat.le_of_ble_eq_true rfl, Nat.le_of_ble_eq_true rfl, Nat.le_of_ble_eq_true rfl⟩ (fun τ155 hr155 => ?_)
      refine zy_top (b := fz ((zput τ141 26 k (fz (σ.1 32) (σ.1 31 0) (nmv t n S))).1 32) ((zput τ141 26 k (fz (σ.1 32) (σ.1 31 0) (nmv t n S))).1 31 0) (nmv t n (o1 t n (bk σ 30) S))) rfl ?_
      have hz155 : zOK τ155 := hr155.1
      refine zy_top (b := fz (σ.1 32) (σ.1 31 0) (nmv t n (o1 t n (bk σ 30) S))) (by rw [a141, b141]) ?_
      have hq155 : PC t n (l1 t n (bk σ 30) S) τ155 := by
        have h := hr155.2.2
        rw [a141, b141] at h
        exact h
      have n24_155 : τ155.1 24 0 = (k : Int) := (hr155.2.1.1 24 (by dsimp only; omega) 0).trans ((zput_k _ _ _ _ _ (by decide)).trans n24_141)
      refine zy_iast (i := k) rfl (by decide) (by decide) dX3_takeCommand_158 (by omega) (by omega) rfl ?_
      refine zx_aloadN dX3_takeCommand_159 rfl rfl ?_
      refine zy_getR (q' := 28) fl_RX3_25 rfl dX3_takeCommand_160 rfl ?_
      refine zx_aloadN dX3_takeCommand_163 rfl rfl ?_
      refine zy_getI (v := τ155.1 24 0) fl_RX3_9 rfl dX3_takeCommand_164 (zput_k _ _ _ _ _ (by omega)) ?_
      refine zy_top (b := ((k : Nat) : Int)) (by first | exact hk.1 | exact (zput_k _ _ _ _ _ (by decide)).trans hk.1 | assumption | exact (zput_k _ _ _ _ _ (by decide)).trans (by assumption)) ?_
      refine zx_aloadN dX3_takeCommand_167 rfl rfl ?_
      refine zx_iconst dX3_takeCommand_168 ?_
      refine zx_bipush dX3_takeCommand_169 rfl ?_
      refine zy_cvR [zi 0, zi 31] (sX6_takeNumber (S := (l1 t n (bk σ 30) S)) hfl (zOK_put hz155 (by first | exact hz155 _ _ | assumption | exact zr_b _ | exact zcmp_r _ _ | (unfold zr at *; omega))) (PC_put (by decide) hq155) (by first | exact hz155 _ _ | assumption | exact zr_b _ | exact zcmp_r _ _ | (unfold zr at *; omega)) (by first | exact hz155 _ _ | assumption | exact zr_b _ | exact zcmp_r _ _ | (unfold zr at *; omega))) dX3_takeCommand_171 (by decide) rfl cw_RX3_78 okX6_takeNumber rfl (Nat.le_of_ble_eq_true rfl) ⟨Nat.le_of_ble_eq_true rfl, Nat.le_of_ble_eq_true rfl, Nat.le_of_ble_eq_true rfl, Nat.le_of_ble_eq_true rfl⟩ (fun τ171 hr171 => ?_)
      have hz171 : zOK τ171 := hr171.1
      refine zy_top (b := if (l2 t n (bk σ 30) S).2.1 = 0 then pV t n (l1 t n (bk σ 30) S).1 else 0) (rfl) ?_
      have hq171 : PC t n (l2 t n (bk σ 30) S) τ171 := hr171.2.2
      have hy171 : zr (if (l2 t n (bk σ 30) S).2.1 = 0 then pV t n (l1 t n (bk σ 30) S).1 else 0) := FI_z
      have n24_171 : τ171.1 24 0 = (k : Int) := (hr171.2.1.1 24 (by dsimp only; omega) 0).trans ((zput_k _ _ _ _ _ (by decide)).trans n24_155)
      refine zy_iast (i := k) rfl (by decide) (by decide) dX3_takeCommand_174 (by omega) (by omega) rfl ?_
      refine zx_goto (tgt := 194) dX3_takeCommand_175 (by decide) ?_
      refine zx_aloadN dX3_takeCommand_194 rfl rfl ?_
      refine zy_cvR [] (sX6_takeSemicolon (S := (l2 t n (bk σ 30) S)) hfl (zOK_put hz171 (by first | exact hz171 _ _ | assumption | exact zr_b _ | exact zcmp_r _ _ | (unfold zr at *; omega))) (PC_put (by decide) hq171)) dX3_takeCommand_195 (by decide) rfl cw_RX3_86 okX6_takeSemicolon rfl (Nat.le_of_ble_eq_true rfl) ⟨Nat.le_of_ble_eq_true rfl, Nat.le_of_ble_eq_true rfl, Nat.le_of_ble_eq_true rfl, Nat.le_of_ble_eq_true rfl⟩ (fun τ195 hr195 => ?_)
      have hz195 : zOK τ195 := hr195.1
      refine zy_top (b := zb ((l3 t n (bk σ 30) S).2.1 = 0)) (rfl) ?_
      have hq195 : PC t n (l3 t n (bk σ 30) S) τ195 := hr195.2.2
      have n195 : τ195.1 24 0 = (k : Int) := (hr195.2.1.1 24 (by dsimp only; omega) 0).trans ((zput_k _ _ _ _ _ (by decide)).trans n24_171)
      refine zx_if_eq (tgt := 211) (by first | exact hz195 _ _ | assumption | exact zr_b _ | exact zcmp_r _ _ | (unfold zr at *; omega)) dX3_takeCommand_198 (by decide) (fun h198 => ?_) (fun h198 => ?_)
      · have h198 := zb_0.mp h198
        refine zx_vret rfl dX3_takeCommand_211 ?_
        rw [hQ]
        refine ⟨rfl, ?_⟩
        rw [e1]
        have hW : ∀ q, 25 ≤ q → q ≤ 29 → ∀ i, i ≠ k → τ195.1 q i = σ.1 q i := fun q h1 h2 i hi => by
          rw [hr195.2.1.1 q (by dsimp only; omega), zput_i _ _ _ _ _ hi, hr171.2.1.1 q (by dsimp only; omega), zput_i _ _ _ _ _ hi, hr155.2.1.1 q (by dsimp only; omega), zput_i _ _ _ _ _ hi, hr141.2.1.1 q (by dsimp only; omega), zput_i _ _ _ _ _ hi]
        have hF : ∀ q, ¬ (q = 1 ∨ (24 ≤ q ∧ q ≤ 29)) → ∀ i, τ195.1 q i = σ.1 q i := fun q hq i => by
          rw [hr195.2.1.1 q (by dsimp only; omega), zput_k _ _ _ _ _ (by omega), hr171.2.1.1 q (by dsimp only; omega), zput_k _ _ _ _ _ (by omega), hr155.2.1.1 q (by dsimp only; omega), zput_k _ _ _ _ _ (by omega), hr141.2.1.1 q (by dsimp only; omega), zput_k _ _ _ _ _ (by omega)]
        have hV : (l3 t n (bk σ 30) S).2.1 = 0 → τ195.1 25 k = x ∧ τ195.1 26 k = cV t n x (bk σ 30) S 1 ∧ τ195.1 27 k = cV t n x (bk σ 30) S 2 ∧ τ195.1 28 k = cV t n x (bk σ 30) S 3 := fun z => by
          have zz3 := (pSem_s (t := t) (n := n) (S := l2 t n (bk σ 30) S) z).1
          exact ⟨by rw [hr195.2.1.1 25 (by dsimp only; omega), zput_k _ _ _ _ _ (by decide), hr171.2.1.1 25 (by dsimp only; omega), zput_k _ _ _ _ _ (by decide), hr155.2.1.1 25 (by dsimp only; omega), zput_k _ _ _ _ _ (by decide), hr141.2.1.1 25 (by dsimp only; omega), zput_s], by rw [hr195.2.1.1 26 (by dsimp only; omega), zput_k _ _ _ _ _ (by decide), hr171.2.1.1 26 (by dsimp only; omega), zput_k _ _ _ _ _ (by decide), hr155.2.1.1 26 (by dsimp only; omega), zput_s]; rw [hs]; rfl, by rw [hr195.2.1.1 27 (by dsimp only; omega), zput_k _ _ _ _ _ (by decide), hr171.2.1.1 27 (by dsimp only; omega), zput_s]; rw [hs]; rfl, by rw [hr195.2.1.1 28 (by dsimp only; omega), zput_s, if_pos zz3]; rw [hs]; rfl⟩
        first
        | exact ⟨hz195, ⟨fun q hq i => hF q hq i, hr195.2.1.2.trans (hr171.2.1.2.trans (hr155.2.1.2.trans (hr141.2.1.2)))⟩, hq195, hW, fun z => absurd z (by assumption)⟩
        | exact ⟨hz195, ⟨fun q hq i => (zput_k _ _ _ _ _ (by dsimp only at hq; omega)).trans (hF q hq i), hr195.2.1.2.trans (hr171.2.1.2.trans (hr155.2.1.2.trans (hr141.2.1.2)))⟩, PC_put (by decide) hq195, fun q h1 h2 i hi => (zput_k _ _ _ _ _ (by omega)).trans (hW q h1 h2 i hi), fun z => ⟨(zput_s _ _ _ _).trans (by omega), by
           have h := hV z
           simp only [zput_e]
           simpa using h⟩⟩
      · have h198 := zb_n.mp h198
        refine zx_aloadN dX3_takeCommand_201 rfl rfl ?_
        refine zx_dup rfl dX3_takeCommand_202 ?_
        refine zy_getI fl_RX3_9 rfl dX3_takeCommand_203 rfl ?_
        refine zx_iconst dX3_takeCommand_206 ?_
        refine zx_iadd dX3_takeCommand_207 ?_
        refine zx_putI fl_RX3_9 rfl (Or.inl fp_3_0) dX3_takeCommand_208 ?_
        refine zx_vret rfl dX3_takeCommand_211 ?_
        rw [hQ]
        refine ⟨rfl, ?_⟩
        rw [e1]
        have hW : ∀ q, 25 ≤ q → q ≤ 29 → ∀ i, i ≠ k → τ195.1 q i = σ.1 q i := fun q h1 h2 i hi => by
          rw [hr195.2.1.1 q (by dsimp only; omega), zput_i _ _ _ _ _ hi, hr171.2.1.1 q (by dsimp only; omega), zput_i _ _ _ _ _ hi, hr155.2.1.1 q (by dsimp only; omega), zput_i _ _ _ _ _ hi, hr141.2.1.1 q (by dsimp only; omega), zput_i _ _ _ _ _ hi]
        have hF : ∀ q, ¬ (q = 1 ∨ (24 ≤ q ∧ q ≤ 29)) → ∀ i, τ195.1 q i = σ.1 q i := fun q hq i => by
          rw [hr195.2.1.1 q (by dsimp only; omega), zput_k _ _ _ _ _ (by omega), hr171.2.1.1 q (by dsimp only; omega), zput_k _ _ _ _ _ (by omega), hr155.2.1.1 q (by dsimp only; omega), zput_k _ _ _ _ _ (by omega), hr141.2.1.1 q (by dsimp only; omega), zput_k _ _ _ _ _ (by omega)]
        have hV : (l3 t n (bk σ 30) S).2.1 = 0 → τ195.1 25 k = x ∧ τ195.1 26 k = cV t n x (bk σ 30) S 1 ∧ τ195.1 27 k = cV t n x (bk σ 30) S 2 ∧ τ195.1 28 k = cV t n x (bk σ 30) S 3 := fun z => by
          have zz3 := (pSem_s (t := t) (n := n) (S := l2 t n (bk σ 30) S) z).1
          exact ⟨by rw [hr195.2.1.1 25 (by dsimp only; omega), zput_k _ _ _ _ _ (by decide), hr171.2.1.1 25 (by dsimp only; omega), zput_k _ _ _ _ _ (by decide), hr155.2.1.1 25 (by dsimp only; omega), zput_k _ _ _ _ _ (by decide), hr141.2.1.1 25 (by dsimp only; omega), zput_s], by rw [hr195.2.1.1 26 (by dsimp only; omega), zput_k _ _ _ _ _ (by decide), hr171.2.1.1 26 (by dsimp only; omega), zput_k _ _ _ _ _ (by decide), hr155.2.1.1 26 (by dsimp only; omega), zput_s]; rw [hs]; rfl, by rw [hr195.2.1.1 27 (by dsimp only; omega), zput_k _ _ _ _ _ (by decide), hr171.2.1.1 27 (by dsimp only; omega), zput_s]; rw [hs]; rfl, by rw [hr195.2.1.1 28 (by dsimp only; omega), zput_s, if_pos zz3]; rw [hs]; rfl⟩
        first
        | exact ⟨(zOK_put hz195 (by first | exact hz195 _ _ | assumption | exact zr_b _ | exact zcmp_r _ _ | (unfold zr at *; omega))), ⟨fun q hq i => hF q hq i, hr195.2.1.2.trans (hr171.2.1.2.trans (hr155.2.1.2.trans (hr141.2.1.2)))⟩, hq195, hW, fun z => absurd z (by assumption)⟩
        | exact ⟨(zOK_put hz195 (by first | exact hz195 _ _ | assumption | exact zr_b _ | exact zcmp_r _ _ | (unfold zr at *; omega))), ⟨fun q hq i => (zput_k _ _ _ _ _ (by dsimp only at hq; omega)).trans (hF q hq i), hr195.2.1.2.trans (hr171.2.1.2.trans (hr155.2.1.2.trans (hr141.2.1.2)))⟩, PC_put (by decide) hq195, fun q h1 h2 i hi => (zput_k _ _ _ _ _ (by omega)).trans (hW q h1 h2 i hi), fun z => ⟨(zput_s _ _ _ _).trans (by omega), by
           have h := hV z
           simp only [zput_e]
           simpa using h⟩⟩
    · exfalso; omega

