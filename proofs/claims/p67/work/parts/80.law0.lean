theorem clk_20 : Cond.classLink RL 20 "java/lang/IllegalArgumentException" ∈ zgood := zmem1 723 (by decide +kernel) rfl
theorem cst_20 : Cond.castable "java/lang/IllegalArgumentException" "java/lang/IllegalArgumentException" ∈ zface := List.mem_filter.mpr ⟨List.mem_of_getElem? (i := 706) (by decide +kernel), rfl⟩
theorem clk_92 : Cond.classLink RL 92 "java/lang/IndexOutOfBoundsException" ∈ zgood := zmem1 732 (by decide +kernel) rfl
theorem cst_92 : Cond.castable "java/lang/IndexOutOfBoundsException" "java/lang/IndexOutOfBoundsException" ∈ zface := List.mem_filter.mpr ⟨List.mem_of_getElem? (i := 761) (by decide +kernel), rfl⟩
theorem clk_94 : Cond.classLink RL 94 "java/lang/IllegalStateException" ∈ zgood := zmem1 733 (by decide +kernel) rfl
theorem cst_94 : Cond.castable "java/lang/IllegalStateException" "java/lang/IllegalStateException" ∈ zface := List.mem_filter.mpr ⟨List.mem_of_getElem? (i := 603) (by decide +kernel), rfl⟩
abbrev mL_does : zM := (yL_does, cL_does, 6, (some .int), [(0, 68, 149, 92), (69, 77, 149, 92), (78, 86, 149, 92), (87, 95, 149, 92), (96, 104, 149, 92), (105, 110, 149, 92), (111, 116, 149, 92), (117, 122, 149, 92), (123, 127, 149, 92), (128, 134, 149, 92), (135, 143, 149, 92), (144, 148, 149, 92), (0, 68, 154, 20), (69, 77, 154, 20), (78, 86, 154, 20), (87, 95, 154, 20), (96, 104, 154, 20), (105, 110, 154, 20), (111, 116, 154, 20), (117, 122, 154, 20), (123, 127, 154, 20), (128, 134, 154, 20), (135, 143, 154, 20), (144, 148, 154, 20), (0, 68, 159, 94), (69, 77, 159, 94), (78, 86, 159, 94), (87, 95, 159, 94), (96, 104, 159, 94), (105, 110, 159, 94), (111, 116, 159, 94), (117, 122, 159, 94), (123, 127, 159, 94), (128, 134, 159, 94), (135, 143, 159, 94), (144, 148, 159, 94)])
theorem okL_does : zMok mL_does 5 := ⟨by decide, by decide, by decide +kernel⟩
theorem dL_does_0 : decode cL_does 0 = .ok (.iload_n 1, 1) := by decide +kernel
theorem dL_does_1 : decode cL_does 1 = .ok (.tableswitch 143 0 10 #[59, 68, 77, 86, 95, 104, 110, 116, 122, 127, 134], 59) := by decide +kernel
theorem dL_does_60 : decode cL_does 60 = .ok (.aload_n 0, 1) := by decide +kernel
theorem dL_does_61 : decode cL_does 61 = .ok (.iload_n 2, 1) := by decide +kernel
theorem dL_does_62 : decode cL_does 62 = .ok (.iload_n 3, 1) := by decide +kernel
theorem dL_does_63 : decode cL_does 63 = .ok (.iload 4, 2) := by decide +kernel
theorem dL_does_65 : decode cL_does 65 = .ok (.invokevirtual 54, 3) := by decide +kernel
theorem cw_RL_54 : zCwV RL 54 mX9_addDeviceClue := zall [734, 735, 736, 31, 737] (by decide +kernel) (by decide +kernel)
theorem dL_does_68 : decode cL_does 68 = .ok (.ireturn, 1) := by decide +kernel
theorem dL_does_159 : decode cL_does 159 = .ok (.astore 5, 2) := by decide +kernel
theorem dL_does_161 : decode cL_does 161 = .ok (.bipush (-103), 2) := by decide +kernel
theorem dL_does_163 : decode cL_does 163 = .ok (.ireturn, 1) := by decide +kernel
theorem dL_does_154 : decode cL_does 154 = .ok (.astore 5, 2) := by decide +kernel
theorem dL_does_156 : decode cL_does 156 = .ok (.bipush (-102), 2) := by decide +kernel
theorem dL_does_158 : decode cL_does 158 = .ok (.ireturn, 1) := by decide +kernel
theorem dL_does_149 : decode cL_does 149 = .ok (.astore 5, 2) := by decide +kernel
theorem dL_does_151 : decode cL_does 151 = .ok (.bipush (-101), 2) := by decide +kernel
theorem dL_does_153 : decode cL_does 153 = .ok (.ireturn, 1) := by decide +kernel
theorem dL_does_69 : decode cL_does 69 = .ok (.aload_n 0, 1) := by decide +kernel
theorem dL_does_70 : decode cL_does 70 = .ok (.iload_n 2, 1) := by decide +kernel
theorem dL_does_71 : decode cL_does 71 = .ok (.iload_n 3, 1) := by decide +kernel
theorem dL_does_72 : decode cL_does 72 = .ok (.iload 4, 2) := by decide +kernel
theorem dL_does_74 : decode cL_does 74 = .ok (.invokevirtual 58, 3) := by decide +kernel
theorem cw_RL_58 : zCwV RL 58 mX9_addTypefaceClue := zall [784, 785, 786, 31, 787] (by decide +kernel) (by decide +kernel)
theorem dL_does_77 : decode cL_does 77 = .ok (.ireturn, 1) := by decide +kernel
theorem dL_does_78 : decode cL_does 78 = .ok (.aload_n 0, 1) := by decide +kernel
theorem dL_does_79 : decode cL_does 79 = .ok (.iload_n 2, 1) := by decide +kernel
theorem dL_does_80 : decode cL_does 80 = .ok (.iload_n 3, 1) := by decide +kernel
theorem dL_does_81 : decode cL_does 81 = .ok (.iload 4, 2) := by decide +kernel
theorem dL_does_83 : decode cL_does 83 = .ok (.invokevirtual 61, 3) := by decide +kernel
theorem cw_RL_61 : zCwV RL 61 mX9_addWatermarkClue := zall [788, 789, 790, 31, 791] (by decide +kernel) (by decide +kernel)
theorem dL_does_86 : decode cL_does 86 = .ok (.ireturn, 1) := by decide +kernel
theorem dL_does_87 : decode cL_does 87 = .ok (.aload_n 0, 1) := by decide +kernel
theorem dL_does_88 : decode cL_does 88 = .ok (.iload_n 2, 1) := by decide +kernel
theorem dL_does_89 : decode cL_does 89 = .ok (.iload_n 3, 1) := by decide +kernel
theorem dL_does_90 : decode cL_does 90 = .ok (.iload 4, 2) := by decide +kernel
theorem dL_does_92 : decode cL_does 92 = .ok (.invokevirtual 64, 3) := by decide +kernel
theorem cw_RL_64 : zCwV RL 64 mX9_addCityClue := zall [792, 793, 794, 31, 795] (by decide +kernel) (by decide +kernel)
theorem dL_does_95 : decode cL_does 95 = .ok (.ireturn, 1) := by decide +kernel
theorem dL_does_96 : decode cL_does 96 = .ok (.aload_n 0, 1) := by decide +kernel
theorem dL_does_97 : decode cL_does 97 = .ok (.iload_n 2, 1) := by decide +kernel
theorem dL_does_98 : decode cL_does 98 = .ok (.iload_n 3, 1) := by decide +kernel
theorem dL_does_99 : decode cL_does 99 = .ok (.iload 4, 2) := by decide +kernel
theorem dL_does_101 : decode cL_does 101 = .ok (.invokevirtual 67, 3) := by decide +kernel
theorem cw_RL_67 : zCwV RL 67 mX9_addDateClue := zall [796, 797, 798, 31, 799] (by decide +kernel) (by decide +kernel)
theorem dL_does_104 : decode cL_does 104 = .ok (.ireturn, 1) := by decide +kernel
theorem dL_does_105 : decode cL_does 105 = .ok (.aload_n 0, 1) := by decide +kernel
theorem dL_does_106 : decode cL_does 106 = .ok (.iload_n 2, 1) := by decide +kernel
theorem dL_does_107 : decode cL_does 107 = .ok (.invokevirtual 70, 3) := by decide +kernel
theorem cw_RL_70 : zCwV RL 70 mX9_read := zall [800, 801, 802, 31, 803] (by decide +kernel) (by decide +kernel)
theorem dL_does_110 : decode cL_does 110 = .ok (.ireturn, 1) := by decide +kernel
theorem dL_does_111 : decode cL_does 111 = .ok (.aload_n 0, 1) := by decide +kernel
theorem dL_does_112 : decode cL_does 112 = .ok (.iload_n 2, 1) := by decide +kernel
theorem dL_does_113 : decode cL_does 113 = .ok (.invokevirtual 73, 3) := by decide +kernel
theorem cw_RL_73 : zCwV RL 73 mX9_setAside := zall [821, 822, 823, 31, 824] (by decide +kernel) (by decide +kernel)
theorem dL_does_116 : decode cL_does 116 = .ok (.ireturn, 1) := by decide +kernel
theorem dL_does_117 : decode cL_does 117 = .ok (.aload_n 0, 1) := by decide +kernel
theorem dL_does_118 : decode cL_does 118 = .ok (.iload_n 2, 1) := by decide +kernel
theorem dL_does_119 : decode cL_does 119 = .ok (.invokevirtual 76, 3) := by decide +kernel
theorem cw_RL_76 : zCwV RL 76 mX9_takeBack := zall [922, 923, 924, 31, 925] (by decide +kernel) (by decide +kernel)
theorem dL_does_122 : decode cL_does 122 = .ok (.ireturn, 1) := by decide +kernel
theorem dL_does_123 : decode cL_does 123 = .ok (.aload_n 0, 1) := by decide +kernel
theorem dL_does_124 : decode cL_does 124 = .ok (.invokevirtual 79, 3) := by decide +kernel
theorem cw_RL_79 : zCwV RL 79 mX9_setAsideUnexplained := zall [930, 931, 932, 31, 933] (by decide +kernel) (by decide +kernel)
theorem dL_does_127 : decode cL_does 127 = .ok (.ireturn, 1) := by decide +kernel
theorem dL_does_128 : decode cL_does 128 = .ok (.aload_n 0, 1) := by decide +kernel
theorem dL_does_129 : decode cL_does 129 = .ok (.iload_n 2, 1) := by decide +kernel
theorem dL_does_130 : decode cL_does 130 = .ok (.iload_n 3, 1) := by decide +kernel
theorem dL_does_131 : decode cL_does 131 = .ok (.invokevirtual 82, 3) := by decide +kernel
theorem cw_RL_82 : zCwV RL 82 mX9_setWeight := zall [957, 958, 959, 31, 960] (by decide +kernel) (by decide +kernel)
theorem dL_does_134 : decode cL_does 134 = .ok (.ireturn, 1) := by decide +kernel
theorem dL_does_135 : decode cL_does 135 = .ok (.aload_n 0, 1) := by decide +kernel
theorem dL_does_136 : decode cL_does 136 = .ok (.iload_n 2, 1) := by decide +kernel
theorem dL_does_137 : decode cL_does 137 = .ok (.iload_n 3, 1) := by decide +kernel
theorem dL_does_138 : decode cL_does 138 = .ok (.iload 4, 2) := by decide +kernel
theorem dL_does_140 : decode cL_does 140 = .ok (.invokevirtual 86, 3) := by decide +kernel
theorem cw_RL_86 : zCwV RL 86 mX9_transferDevice := zall [971, 972, 973, 31, 974] (by decide +kernel) (by decide +kernel)
theorem dL_does_143 : decode cL_does 143 = .ok (.ireturn, 1) := by decide +kernel
theorem dL_does_144 : decode cL_does 144 = .ok (.aload_n 0, 1) := by decide +kernel
theorem dL_does_145 : decode cL_does 145 = .ok (.invokevirtual 89, 3) := by decide +kernel
theorem cw_RL_89 : zCwV RL 89 mX9_undo := zall [989, 990, 991, 31, 992] (by decide +kernel) (by decide +kernel)
theorem dL_does_148 : decode cL_does 148 = .ok (.ireturn, 1) := by decide +kernel
/-! what the law's own methods do: a thrown exception caught, remainders of either sign, longs, doubles -/
section ZL
variable {l : Launch} {w : zW} {m : zM} {M : zMo} {pc k : Nat} {ls st : List zV} {σ : zS}
theorem zxt_catch {E name : String} {pre suf : List (Nat × Nat × Nat × Nat)} {x : Nat × Nat × Nat × Nat} (hh : m.2.2.2.2 = pre ++ x :: suf) (hp : ∀ z ∈ pre, ¬ (z.1 ≤ pc ∧ pc < z.2.1) ∨ z.2.2.2 ≠ 0 ∧ ∃ nm, nm ∈ zexs ∧ Cond.classLink m.1.cls z.2.2.2 nm ∈ zgood ∧ E ≠ nm) (hE : E ∈ zexs) (hx : x.1 ≤ pc ∧ pc < x.2.1) (h0 : x.2.2.2 ≠ 0)
    (hl1 : Cond.classLink m.1.cls x.2.2.2 name ∈ zgood) (hcs : Cond.castable E name ∈ zface) (kk : ∀ q : Addr, zX l w m M x.2.2.1 ls [.inr (.inr (.ref q))] k σ) : zXT l w m M pc ls k σ E := by
  intro p e s mid args below meth c C H locs Ls rest q ce hR hS hl hol hq hv hcl hc hs
  obtain ⟨hx1, hb, hml, hr, htab, hown, hts, hlk, hEn, hfl⟩ := id C
  refine vx_catch (name := name) (E := E) hown (pre.map fun q => ⟨q.1, q.2.1, q.2.2.1, q.2.2.2⟩) ⟨x.1, x.2.1, x.2.2.1, x.2.2.2⟩ (suf.map fun q => ⟨q.1, q.2.1, q.2.2.1, q.2.2.2⟩) ?_ ?_ ?_ h0 (hts _ hl1) (zface_same hcs rfl (hEn.2.2.2.2.2.2.2.2.2.2.2.2.1 _ hcs)) hq hv hcl ?_
  · rw [htab, hh]
    unfold tableOf
    rw [List.map_append, List.map_cons]
  · intro z hz
    obtain ⟨z0, hz0, rfl⟩ := List.mem_map.mp hz
    rcases hp z0 hz0 with h | ⟨h1, nm, h2, h3, h4⟩
    · refine Or.inl ?_
      cases hcv : covers ⟨z0.1, z0.2.1, z0.2.2.1, z0.2.2.2⟩ pc with
      | false => rfl
      | true =>
        refine absurd ?_ h
        simpa [covers] using hcv
    · exact Or.inr ⟨h1, nm, hts _ h3, hEn.2.2.2.2.2.2.2.2.2.2.2.2.2 E hE nm h2 h4⟩
  · simp [covers, hx.1, hx.2]
  · exact kk q p e s mid args below meth c C H locs Ls hR hS hl hol (fun v hv => by rcases List.mem_singleton.mp hv with rfl; exact trivial) hc hs
theorem zx_astoreNW {j : Nat} {q : Addr} {f : Fin 4} (hd : decode m.2.1 pc = .ok (.astore_n f, 1)) (hf : (f : Nat) = j) (hj : j < ls.length) (hn : j < m.2.2.1) (hp : zprev ls j = true) (kk : zX l w m M (pc + 1) (ls.set j (.inr (.inr (.ref q)))) st k σ) : zX l w m M pc ls (.inr (.inr (.ref q)) :: st) k σ := by
  intro p e s mid args below meth c C H locs Ls hR hS hl hol hos hc hs
  exact lv_astore_n C.1 C.2.1 hd hf hl hn rfl (fun Ls' hl' => kk p e s mid args below meth c C H locs Ls' hR hS (zps_store (v := .inr (.inr (.ref q))) hj hp hl') (zok_set trivial hol) (zok_t hos) hc hs)
theorem zx_astoreW {j : Nat} {q : Addr} (hd : decode m.2.1 pc = .ok (.astore j, 2)) (hj : j < ls.length) (hn : j < m.2.2.1) (hp : zprev ls j = true) (kk : zX l w m M (pc + 2) (ls.set j (.inr (.inr (.ref q)))) st k σ) : zX l w m M pc ls (.inr (.inr (.ref q)) :: st) k σ := by
  intro p e s mid args below meth c C H locs Ls hR hS hl hol hos hc hs
  exact lv_astore C.1 C.2.1 hd hl hn rfl (fun Ls' hl' => kk p e s mid args below meth c C H locs Ls' hR hS (zps_store (v := .inr (.inr (.ref q))) hj hp hl') (zok_set trivial hol) (zok_t hos) hc hs)
theorem zy_csHR {m' : zM} {h' n' ix np : Nat} (as : List zV) {v : zV} {R : zS → Prop} (hsp : SpH l w m' h' n' as σ (zqv (some v) R)) (hd : decode m.2.1 pc = .ok (.invokestatic ix, 3)) (hw : zCwH m.1.cls ix m') (hm : zMok m' np) (hnp : as.length = np) (hst : (st.map zcat).sum ≤ 8) (hf : zfit M m' h' n' k)
    (kk : ∀ τ, R τ → zX l w m M (pc + 3) ls (v :: st) (k + n') τ) : zX l w m M pc ls (as.reverse ++ st) k σ :=
  zx_callH hsp hd hw hm hnp hst hf (fun r τ hq => by obtain ⟨h1, h2⟩ := hq; cases h1; exact kk τ h2) (fun E τ hq => by cases hq.1)
theorem zSpH_mono {h n : Nat} {as : List zV} {Q Q' : zQ} (hsp : SpH l w m h n as σ Q) (hQ : ∀ o τ, Q o τ → Q' o τ) : SpH l w m h n as σ Q' := by
  intro p e ha hc hk s m args below hf happ hp hK
  obtain ⟨n, o, h1, h2, h3, h4⟩ := hsp p e ha hc hk s m args below hf happ hp hK
  refine ⟨n, o, h1, h2, h3, ?_⟩
  rcases h4 with ⟨⟨r, τ, g1, g2, g3⟩, h5⟩ | ⟨q, h5, E, ce, L, ⟨τ, hq, g⟩, h6⟩
  · exact Or.inl ⟨⟨r, τ, g1, hQ _ _ g2, g3⟩, h5⟩
  · exact Or.inr ⟨q, h5, E, ce, L, ⟨τ, hQ _ _ hq, g⟩, h6⟩
/-- a remainder by a number above 0, of whatever sign -/
theorem z_tmod {a b : Int} (ha : zr a) (h2 : 0 < b) (h3 : b ≤ 2147483647) : Int32.ofInt a - Int32.ofInt a / Int32.ofInt b * Int32.ofInt b = Int32.ofInt (a.tmod b) := by
  have hb : zr b := ⟨by omega, h3⟩
  have e := Int32.toInt_div (Int32.ofInt a) (Int32.ofInt b)
  rw [z_toInt ha, z_toInt hb] at e
  have q1 : zr (a.tdiv b) := by
    unfold zr at ha ⊢
    by_cases h0 : 0 ≤ a
    · rw [Int.tdiv_eq_ediv_of_nonneg h0]
      have g1 := Int.ediv_nonneg h0 (show 0 ≤ b by omega)
      have g2 := Int.ediv_le_self b h0
      omega
    · have e3 : (-a).tdiv b = -(a.tdiv b) := Int.neg_tdiv a b
      rw [Int.tdiv_eq_ediv_of_nonneg (show 0 ≤ -a by omega)] at e3
      have g1 := Int.ediv_nonneg (show 0 ≤ -a by omega) (show 0 ≤ b by omega)
      have g2 := Int.ediv_le_self b (show 0 ≤ -a by omega)
      omega
  have e2 : Int32.ofInt a / Int32.ofInt b = Int32.ofInt (a.tdiv b) := by
    rw [← z_of (Int32.ofInt a / Int32.ofInt b), e, Int.bmod_eq_of_le (by have := q1.1; omega) (by have := q1.2; omega)]
  rw [e2, ← Int32.ofInt_mul, ← Int32.ofInt_sub]
  congr 1
  have := Int.mul_tdiv_add_tmod a b
  have h9 : b * a.tdiv b = a.tdiv b * b := Int.mul_comm _ _
  omega
theorem zx_tmod {a b : Int} (ha : zr a) (h2 : 0 < b) (h3 : b ≤ 2147483647) (hd : decode m.2.1 pc = .ok (.irem, 1)) (kk : zX l w m M (pc + 1) ls (zi (a.tmod b) :: st) k σ) : zX l w m M pc ls (zi b :: zi a :: st) k σ := by
  intro p e s mid args below meth c C H locs Ls hR hS hl hol hos hc hs
  refine lv_irem C.1 C.2.1 hd (fun h => ?_) ?_
  · have := (z_eq ⟨by omega, h3⟩ zr0).mp h
    omega
  · rw [z_tmod ha h2 h3]
    exact kk p e s mid args below meth c C H locs Ls hR hS hl hol (zok_c trivial (zok_t (zok_t hos))) hc hs
/-! longs: any whole number stands for its remainder by 2^64 -/
theorem zx_lmul {a b : Int} (hd : decode m.2.1 pc = .ok (.lmul, 1)) (kk : zX l w m M (pc + 1) ls (zl (a * b) :: st) k σ) : zX l w m M pc ls (zl b :: zl a :: st) k σ := by
  intro p e s mid args below meth c C H locs Ls hR hS hl hol hos hc hs
  refine lv_lmul C.1 C.2.1 hd ?_
  rw [← Int64.ofInt_mul]
  exact kk p e s mid args below meth c C H locs Ls hR hS hl hol (zok_c trivial (zok_t (zok_t hos))) hc hs
theorem zx_ladd {a b : Int} (hd : decode m.2.1 pc = .ok (.ladd, 1)) (kk : zX l w m M (pc + 1) ls (zl (a + b) :: st) k σ) : zX l w m M pc ls (zl b :: zl a :: st) k σ := by
  intro p e s mid args below meth c C H locs Ls hR hS hl hol hos hc hs
  refine lv_ladd C.1 C.2.1 hd ?_
  rw [← Int64.ofInt_add]
  exact kk p e s mid args below meth c C H locs Ls hR hS hl hol (zok_c trivial (zok_t (zok_t hos))) hc hs
theorem zx_ldcI {ix : Nat} {a : Int} (hd : decode m.2.1 pc = .ok (.ldc ix, 2)) (hw : Cond.constant m.1.cls ix (Int32.ofInt a) ∈ zgood) (kk : zX l w m M (pc + 2) ls (zi a :: st) k σ) : zX l w m M pc ls st k σ := by
  intro p e s mid args below meth c C H locs Ls hR hS hl hol hos hc hs
  exact lv_ldc C.1 C.2.1 C.2.2.2.2.2.1 (C.2.2.2.2.2.2.1 _ hw) hd (kk p e s mid args below meth c C H locs Ls hR hS hl hol (zok_c trivial hos) hc hs)
theorem zx_lconst0 (hd : decode m.2.1 pc = .ok (.lconst 0, 1)) (kk : zX l w m M (pc + 1) ls (zl 0 :: st) k σ) : zX l w m M pc ls st k σ := zx_lconst hd rfl kk
/-- two longs compared for being the same -/
def zlq (a b : Int) : Int := (lg_cmp (Int64.ofInt a) (Int64.ofInt b)).toInt
theorem zlq_0 (a : Int) : zlq a a = 0 := by
  unfold zlq lg_cmp
  rw [if_neg (by rw [gt_iff_lt, Int64.lt_iff_toInt_lt]; omega), if_pos rfl]
  rfl
theorem zlq_r (a b : Int) : zr (zlq a b) := zr_t _
theorem zx_lcmpq {a b : Int} (hd : decode m.2.1 pc = .ok (.lcmp, 1)) (kk : zX l w m M (pc + 1) ls (zi (zlq a b) :: st) k σ) : zX l w m M pc ls (zl b :: zl a :: st) k σ := by
  intro p e s mid args below meth c C H locs Ls hR hS hl hol hos hc hs
  refine W.lcmp C.1 C.2.1 hd ?_
  have h := kk p e s mid args below meth c C H locs Ls hR hS hl hol (zok_c trivial (zok_t (zok_t hos))) hc hs
  have e1 : zc w (zi (zlq a b)) = .int (Int32.ofInt (zlq a b)) := rfl
  rw [List.map_cons, e1] at h
  unfold zlq at h
  rw [z_of] at h
  exact h
theorem zx_lret {h n : Nat} {Q : zQ} {a : Int} (hr : m.2.2.2.1 = some .long) (hd : decode m.2.1 pc = .ok (.lreturn, 1)) (hQ : Q (.inl (some (zl a))) σ) : zX l w m (zMQ w h n Q) pc ls [zl a] k σ := by
  intro p e s mid args below meth c C H locs Ls hR hS hl hol hos hc hs
  have hk : 0 + k ≤ n := hc
  refine W.widen (k := n) (n := 6 * n) (by show 0 + k ≤ n; omega) (by show 0 + 6 * k ≤ 6 * n; omega) ?_
  exact vx_ret (W.lret C.1 C.2.1 (by rw [C.2.2.2.1]; exact hr) (fun t ht hW => ⟨some (zl a), σ, rfl, hQ, by rw [ht]; exact hR, hS.F ht, fun x hx => by cases hx; exact trivial⟩) (fun q hq => hS.2.2 q hq) hd C.2.2.2.2.2.2.2.1)
theorem zst_W {j : Nat} {v : zV} {Ls' : Array Slot} (hcat : zcat v = 2) (hj : j + 1 < ls.length) (hp : zprev ls j = true) (hl' : lv_has Ls' m.2.2.1 ((j, zc w v) :: (zps w 0 ls).filter (fun q => !(q.1 == j) && (!(q.1 == j + 1) && !(q.1 + 1 == j && q.2.category == 2))))) : lv_has Ls' m.2.2.1 (zps w 0 ((ls.set j v).set (j + 1) zu)) := by
  refine ⟨hl'.1, hl'.2.1, fun q hq => hl'.2.2 q ?_⟩
  obtain ⟨i, y, h1, h2, h3⟩ := zps_mem.mp hq
  by_cases hi1 : i = j + 1
  · subst hi1
    rw [List.getElem?_set_self (by simpa using hj)] at h1
    cases h1
    cases h2
  · rw [List.getElem?_set_ne (fun q => hi1 q.symm)] at h1
    by_cases hi : i = j
    · subst hi
      rw [List.getElem?_set_self (by omega)] at h1
      cases h1
      rw [h3]
      simp
    · rw [List.getElem?_set_ne (fun q => hi q.symm)] at h1
      refine List.mem_cons_of_mem _ (List.mem_filter.mpr ⟨zps_mem.mpr ⟨i, y, h1, h2, h3⟩, ?_⟩)
      rw [h3]
      simp only [Nat.zero_add, zcat_c]
      cases hb : (i + 1 == j) with
      | false => simp [hi, hi1]
      | true =>
        have hb : i + 1 = j := by simpa using hb
        subst hb
        have hp : zcat y = 1 := by simpa [zprev, h1] using hp
        simp [hp]
        omega
theorem zx_lstoreN {j : Nat} {f : Fin 4} {a : Int} (ls' : List zV) (hd : decode m.2.1 pc = .ok (.lstore_n f, 1)) (hf : (f : Nat) = j) (hj : j + 1 < ls.length) (hn : j + 1 < m.2.2.1) (hp : zprev ls j = true) (hls : (ls.set j (zl a)).set (j + 1) zu = ls') (kk : zX l w m M (pc + 1) ls' st k σ) : zX l w m M pc ls (zl a :: st) k σ := by
  subst hls
  intro p e s mid args below meth c C H locs Ls hR hS hl hol hos hc hs
  exact lv_lstore_n C.1 C.2.1 hd hf hl hn rfl (fun Ls' hl' => kk p e s mid args below meth c C H locs Ls' hR hS (zst_W (v := zl a) rfl hj hp hl') (zok_set trivial (zok_set trivial hol)) (zok_t hos) hc hs)
theorem zx_lstore {j : Nat} {a : Int} (ls' : List zV) (hd : decode m.2.1 pc = .ok (.lstore j, 2)) (hj : j + 1 < ls.length) (hn : j + 1 < m.2.2.1) (hp : zprev ls j = true) (hls : (ls.set j (zl a)).set (j + 1) zu = ls') (kk : zX l w m M (pc + 2) ls' st k σ) : zX l w m M pc ls (zl a :: st) k σ := by
  subst hls
  intro p e s mid args below meth c C H locs Ls hR hS hl hol hos hc hs
  exact lv_lstore C.1 C.2.1 hd hl hn rfl (fun Ls' hl' => kk p e s mid args below meth c C H locs Ls' hR hS (zst_W (v := zl a) rfl hj hp hl') (zok_set trivial (zok_set trivial hol)) (zok_t hos) hc hs)
theorem zJ {S : Nat → Prop} {σ τ υ : zS} (h : zSame S σ τ) (h' : zSame S τ υ) : zSame S σ υ := zSame_tr h h' (fun _ q => q.elim id id)
theorem zy_ltop {a b : Int} (h : a = b) (kk : zX l w m M pc ls (zl b :: st) k σ) : zX l w m M pc ls (zl a :: st) k σ := by rw [h]; exact kk
end ZL
/-- what does() makes of what the class's method does: its answer, or a number for what is thrown -/
def dX (E : String) : Int := if E = "java/lang/IndexOutOfBoundsException" then -101 else if E = "java/lang/IllegalArgumentException" then -102 else -103
def dQ (Q : zQ) : zQ := fun o τ => (∃ v : Int, Q (.inl (some (zi v))) τ ∧ o = .inl (some (zi v))) ∨ ∃ E : String, E ∈ zexs ∧ Q (.inr E) τ ∧ o = .inl (some (zi (dX E)))
def dO (Q : zQ) : Prop := ∀ o τ, Q o τ → (∃ v : Int, o = .inl (some (zi v))) ∨ ∃ E : String, E ∈ zexs ∧ o = .inr E
theorem dO_ret (v : Int) (R : zS → Prop) : dO (zqv (some (zi v)) R) := fun _ _ h => Or.inl ⟨v, h.1⟩
theorem dO_thq {E : String} (hE : E ∈ zexs) (R : zS → Prop) : dO (zthq E R) := fun _ _ h => Or.inr ⟨E, hE, h.1⟩
theorem dO_thr {E : String} (hE : E ∈ zexs) (σ : zS) : dO (zthr E σ) := fun _ _ h => Or.inr ⟨E, hE, h.1⟩
theorem zi_inj {a b : Int} (h : (Sum.inl (some (zi a)) : Option zV ⊕ String) = .inl (some (zi b))) : a = b := by
  have h1 := Option.some.inj (Sum.inl.inj h)
  exact Sum.inl.inj h1
theorem dQ_ret {v : Int} {R : zS → Prop} (o : Option zV ⊕ String) (τ : zS) (h : dQ (zqv (some (zi v)) R) o τ) : zqv (some (zi v)) R o τ := by
  rcases h with ⟨u, h1, h2⟩ | ⟨E, -, h1, -⟩
  · refine ⟨?_, h1.2⟩
    rw [h2]; exact h1.1
  · cases h1.1
theorem dQ_thq {E : String} {c : Int} {R : zS → Prop} (hc : dX E = c) (o : Option zV ⊕ String) (τ : zS) (h : dQ (zthq E R) o τ) : zqv (some (zi c)) R o τ := by
  rcases h with ⟨u, h1, -⟩ | ⟨E', -, h1, h2⟩
  · cases h1.1
  · refine ⟨?_, h1.2⟩
    have e : E' = E := Sum.inr.inj h1.1
    rw [h2, e, hc]
theorem dQ_thr {E : String} {c : Int} {σ : zS} (hc : dX E = c) (o : Option zV ⊕ String) (τ : zS) (h : dQ (zthr E σ) o τ) : zqv (some (zi c)) (fun τ => τ = σ) o τ := by
  rcases h with ⟨u, h1, -⟩ | ⟨E', -, h1, h2⟩
  · cases h1.1
  · refine ⟨?_, h1.2⟩
    have e : E' = E := Sum.inr.inj h1.1
    rw [h2, e, hc]
theorem zex_1 : "java/lang/IllegalStateException" ∈ zexs := by decide
theorem zex_2 : "java/lang/IllegalArgumentException" ∈ zexs := by decide
theorem zex_3 : "java/lang/IndexOutOfBoundsException" ∈ zexs := by decide

set_option maxRecDepth 20000 in
set_option maxHeartbeats 2000000 in
theorem dL_0 {l : Launch} {w : zW} (hfl : l.stackTraces = false) {σ : zS} (hz : zOK σ) {h' n' : Nat} (hh : h' + 1 ≤ 10) (hn : n' ≤ 1) {Q' : zQ} {x0 x1 x2 : Int} (hsp : Sp l w mX9_addDeviceClue h' n' [zf 9 0, zi x0, zi x1, zi x2] σ Q') (hv : dO Q') : SpH l w mL_does 10 1 [zf 9 0, zi 0, zi x0, zi x1, zi x2] σ (dQ Q') := by
  obtain ⟨Q, hQ⟩ : ∃ Q : zQ, Q = (dQ Q') := ⟨_, rfl⟩
  rw [← hQ]
  refine zx_enterH hfl (by decide) 1 rfl ?_
  show zX l w mL_does (zMQ w 10 1 Q) 0 [zf 9 0, zi 0, zi x0, zi x1, zi x2, zu] [] 0 σ
  refine zx_iloadN dL_does_0 rfl rfl ?_
  refine zx_tableIn (off := 59) (tgt := 60) (by unfold zr; omega) dL_does_1 (by omega) (by omega) rfl (by decide) ?_
  refine zx_aloadN dL_does_60 rfl rfl ?_
  refine zx_iloadN dL_does_61 rfl rfl ?_
  refine zx_iloadN dL_does_62 rfl rfl ?_
  refine zx_iload dL_does_63 rfl ?_
  refine zy_cvq [zi x0, zi x1, zi x2] hsp dL_does_65 (by decide) rfl cw_RL_54 okX9_addDeviceClue rfl (Nat.le_of_ble_eq_true rfl) ⟨hh, by show 8 + (4 + 11) + 34 * h' ≤ 340; omega, by show 0 + (0 + n') ≤ 1; omega, by show 0 + 6 * (0 + n') ≤ 6 * 1; omega⟩ (fun r τ hq => ?_) (fun E τ hq => ?_)
  · rcases hv _ _ hq with ⟨v, e⟩ | ⟨E, -, e⟩
    · obtain rfl := Sum.inl.inj e
      rw [show ∀ (x : zV) (s : List zV), (some x).toList ++ s = x :: s from fun _ _ => rfl]
      refine zx_iret rfl rfl dL_does_68 ?_
      rw [hQ]
      exact Or.inl ⟨v, hq, rfl⟩
    · cases e
  · rcases hv _ _ hq with ⟨v, e⟩ | ⟨E, hE, e⟩
    · cases e
    · obtain rfl := Sum.inr.inj e
      simp only [zexs, List.mem_cons, List.not_mem_nil, or_false] at hE
      rcases hE with rfl | rfl | rfl
      · refine zxt_catch (name := "java/lang/IllegalStateException") (pre := [(0, 68, 149, 92), (69, 77, 149, 92), (78, 86, 149, 92), (87, 95, 149, 92), (96, 104, 149, 92), (105, 110, 149, 92), (111, 116, 149, 92), (117, 122, 149, 92), (123, 127, 149, 92), (128, 134, 149, 92), (135, 143, 149, 92), (144, 148, 149, 92), (0, 68, 154, 20), (69, 77, 154, 20), (78, 86, 154, 20), (87, 95, 154, 20), (96, 104, 154, 20), (105, 110, 154, 20), (111, 116, 154, 20), (117, 122, 154, 20), (123, 127, 154, 20), (128, 134, 154, 20), (135, 143, 154, 20), (144, 148, 154, 20)]) (x := (0, 68, 159, 94)) (suf := [(69, 77, 159, 94), (78, 86, 159, 94), (87, 95, 159, 94), (96, 104, 159, 94), (105, 110, 159, 94), (111, 116, 159, 94), (117, 122, 159, 94), (123, 127, 159, 94), (128, 134, 159, 94), (135, 143, 159, 94), (144, 148, 159, 94)]) rfl (fun z hz => by
          simp only [List.mem_cons, List.not_mem_nil, or_false] at hz
          rcases hz with rfl | rfl | rfl | rfl | rfl | rfl | rfl | rfl | rfl | rfl | rfl | rfl | rfl | rfl | rfl | rfl | rfl | rfl | rfl | rfl | rfl | rfl | rfl | rfl
          · exact Or.inr ⟨by decide, "java/lang/IndexOutOfBoundsException", (by decide), clk_92, by decide⟩
          · exact Or.inl (by decide)
          · exact Or.inl (by decide)
          · exact Or.inl (by decide)
          · exact Or.inl (by decide)
          · exact Or.inl (by decide)
          · exact Or.inl (by decide)
          · exact Or.inl (by decide)
          · exact Or.inl (by decide)
          · exact Or.inl (by decide)
          · exact Or.inl (by decide)
          · exact Or.inl (by decide)
          · exact Or.inr ⟨by decide, "java/lang/IllegalArgumentException", (by decide), clk_20, by decide⟩
          · exact Or.inl (by decide)
          · exact Or.inl (by decide)
          · exact Or.inl (by decide)
          · exact Or.inl (by decide)
          · exact Or.inl (by decide)
          · exact Or.inl (by decide)
          · exact Or.inl (by decide)
          · exact Or.inl (by decide)
          · exact Or.inl (by decide)
          · exact Or.inl (by decide)
          · exact Or.inl (by decide)) (by decide) ⟨by decide, by decide⟩ (by decide) clk_94 cst_94 (fun aq => ?_)
        refine zx_astoreW dL_does_159 (Nat.le_of_ble_eq_true rfl) (Nat.le_of_ble_eq_true rfl) rfl ?_
        refine zx_bipush dL_does_161 rfl ?_
        refine zx_iret rfl rfl dL_does_163 ?_
        rw [hQ]
        exact Or.inr ⟨_, by decide, hq, rfl⟩
      · refine zxt_catch (name := "java/lang/IllegalArgumentException") (pre := [(0, 68, 149, 92), (69, 77, 149, 92), (78, 86, 149, 92), (87, 95, 149, 92), (96, 104, 149, 92), (105, 110, 149, 92), (111, 116, 149, 92), (117, 122, 149, 92), (123, 127, 149, 92), (128, 134, 149, 92), (135, 143, 149, 92), (144, 148, 149, 92)]) (x := (0, 68, 154, 20)) (suf := [(69, 77, 154, 20), (78, 86, 154, 20), (87, 95, 154, 20), (96, 104, 154, 20), (105, 110, 154, 20), (111, 116, 154, 20), (117, 122, 154, 20), (123, 127, 154, 20), (128, 134, 154, 20), (135, 143, 154, 20), (144, 148, 154, 20), (0, 68, 159, 94), (69, 77, 159, 94), (78, 86, 159, 94), (87, 95, 159, 94), (96, 104, 159, 94), (105, 110, 159, 94), (111, 116, 159, 94), (117, 122, 159, 94), (123, 127, 159, 94), (128, 134, 159, 94), (135, 143, 159, 94), (144, 148, 159, 94)]) rfl (fun z hz => by
          simp only [List.mem_cons, List.not_mem_nil, or_false] at hz
          rcases hz with rfl | rfl | rfl | rfl | rfl | rfl | rfl | rfl | rfl | rfl | rfl | rfl
          · exact Or.inr ⟨by decide, "java/lang/IndexOutOfBoundsException", (by decide), clk_92, by decide⟩
          · exact Or.inl (by decide)
          · exact Or.inl (by decide)
          · exact Or.inl (by decide)
          · exact Or.inl (by decide)
          · exact Or.inl (by decide)
          · exact Or.inl (by decide)
          · exact Or.inl (by decide)
          · exact Or.inl (by decide)
          · exact Or.inl (by decide)
          · exact Or.inl (by decide)
          · exact Or.inl (by decide)) (by decide) ⟨by decide, by decide⟩ (by decide) clk_20 cst_20 (fun aq => ?_)
        refine zx_astoreW dL_does_154 (Nat.le_of_ble_eq_true rfl) (Nat.le_of_ble_eq_true rfl) rfl ?_
        refine zx_bipush dL_does_156 rfl ?_
        refine zx_iret rfl rfl dL_does_158 ?_
        rw [hQ]
        exact Or.inr ⟨_, by decide, hq, rfl⟩
      · refine zxt_catch (name := "java/lang/IndexOutOfBoundsException") (pre := []) (x := (0, 68, 149, 92)) (suf := [(69, 77, 149, 92), (78, 86, 149, 92), (87, 95, 149, 92), (96, 104, 149, 92), (105, 110, 149, 92), (111, 116, 149, 92), (117, 122, 149, 92), (123, 127, 149, 92), (128, 134, 149, 92), (135, 143, 149, 92), (144, 148, 149, 92), (0, 68, 154, 20), (69, 77, 154, 20), (78, 86, 154, 20), (87, 95, 154, 20), (96, 104, 154, 20), (105, 110, 154, 20), (111, 116, 154, 20), (117, 122, 154, 20), (123, 127, 154, 20), (128, 134, 154, 20), (135, 143, 154, 20), (144, 148, 154, 20), (0, 68, 159, 94), (69, 77, 159, 94), (78, 86, 159, 94), (87, 95, 159, 94), (96, 104, 159, 94), (105, 110, 159, 94), (111, 116, 159, 94), (117, 122, 159, 94), (123, 127, 159, 94), (128, 134, 159, 94), (135, 143, 159, 94), (144, 148, 159, 94)]) rfl (fun z hz => absurd hz List.not_mem_nil) (by decide) ⟨by decide, by decide⟩ (by decide) clk_92 cst_92 (fun aq => ?_)
        refine zx_astoreW dL_does_149 (Nat.le_of_ble_eq_true rfl) (Nat.le_of_ble_eq_true rfl) rfl ?_
        refine zx_bipush dL_does_151 rfl ?_
        refine zx_iret rfl rfl dL_does_153 ?_
        rw [hQ]
        exact Or.inr ⟨_, by decide, hq, rfl⟩
set_option maxRecDepth 20000 in
set_option maxHeartbeats 2000000 in
theorem dL_1 {l : Launch} {w : zW} (hfl : l.stackTraces = false) {σ : zS} (hz : zOK σ) {h' n' : Nat} (hh : h' + 1 ≤ 10) (hn : n' ≤ 1) {Q' : zQ} {x0 x1 x2 : Int} (hsp : Sp l w mX9_addTypefaceClue h' n' [zf 9 0, zi x0, zi x1, zi x2] σ Q') (hv : dO Q') : SpH l w mL_does 10 1 [zf 9 0, zi 1, zi x0, zi x1, zi x2] σ (dQ Q') := by
  obtain ⟨Q, hQ⟩ : ∃ Q : zQ, Q = (dQ Q') := ⟨_, rfl⟩
  rw [← hQ]
  refine zx_enterH hfl (by decide) 1 rfl ?_
  show zX l w mL_does (zMQ w 10 1 Q) 0 [zf 9 0, zi 1, zi x0, zi x1, zi x2, zu] [] 0 σ
  refine zx_iloadN dL_does_0 rfl rfl ?_
  refine zx_tableIn (off := 68) (tgt := 69) (by unfold zr; omega) dL_does_1 (by omega) (by omega) rfl (by decide) ?_
  refine zx_aloadN dL_does_69 rfl rfl ?_
  refine zx_iloadN dL_does_70 rfl rfl ?_
  refine zx_iloadN dL_does_71 rfl rfl ?_
  refine zx_iload dL_does_72 rfl ?_
  refine zy_cvq [zi x0, zi x1, zi x2] hsp dL_does_74 (by decide) rfl cw_RL_58 okX9_addTypefaceClue rfl (Nat.le_of_ble_eq_true rfl) ⟨hh, by show 8 + (4 + 11) + 34 * h' ≤ 340; omega, by show 0 + (0 + n') ≤ 1; omega, by show 0 + 6 * (0 + n') ≤ 6 * 1; omega⟩ (fun r τ hq => ?_) (fun E τ hq => ?_)
  · rcases hv _ _ hq with ⟨v, e⟩ | ⟨E, -, e⟩
    · obtain rfl := Sum.inl.inj e
      rw [show ∀ (x : zV) (s : List zV), (some x).toList ++ s = x :: s from fun _ _ => rfl]
      refine zx_iret rfl rfl dL_does_77 ?_
      rw [hQ]
      exact Or.inl ⟨v, hq, rfl⟩
    · cases e
  · rcases hv _ _ hq with ⟨v, e⟩ | ⟨E, hE, e⟩
    · cases e
    · obtain rfl := Sum.inr.inj e
      simp only [zexs, List.mem_cons, List.not_mem_nil, or_false] at hE
      rcases hE with rfl | rfl | rfl
      · refine zxt_catch (name := "java/lang/IllegalStateException") (pre := [(0, 68, 149, 92), (69, 77, 149, 92), (78, 86, 149, 92), (87, 95, 149, 92), (96, 104, 149, 92), (105, 110, 149, 92), (111, 116, 149, 92), (117, 122, 149, 92), (123, 127, 149, 92), (128, 134, 149, 92), (135, 143, 149, 92), (144, 148, 149, 92), (0, 68, 154, 20), (69, 77, 154, 20), (78, 86, 154, 20), (87, 95, 154, 20), (96, 104, 154, 20), (105, 110, 154, 20), (111, 116, 154, 20), (117, 122, 154, 20), (123, 127, 154, 20), (128, 134, 154, 20), (135, 143, 154, 20), (144, 148, 154, 20), (0, 68, 159, 94)]) (x := (69, 77, 159, 94)) (suf := [(78, 86, 159, 94), (87, 95, 159, 94), (96, 104, 159, 94), (105, 110, 159, 94), (111, 116, 159, 94), (117, 122, 159, 94), (123, 127, 159, 94), (128, 134, 159, 94), (135, 143, 159, 94), (144, 148, 159, 94)]) rfl (fun z hz => by
          simp only [List.mem_cons, List.not_mem_nil, or_false] at hz
          rcases hz with rfl | rfl | rfl | rfl | rfl | rfl | rfl | rfl | rfl | rfl | rfl | rfl | rfl | rfl | rfl | rfl | rfl | rfl | rfl | rfl | rfl | rfl | rfl | rfl | rfl
          · exact Or.inl (by decide)
          · exact Or.inr ⟨by decide, "java/lang/IndexOutOfBoundsException", (by decide), clk_92, by decide⟩
          · exact Or.inl (by decide)
          · exact Or.inl (by decide)
          · exact Or.inl (by decide)
          · exact Or.inl (by decide)
          · exact Or.inl (by decide)
          · exact Or.inl (by decide)
          · exact Or.inl (by decide)
          · exact Or.inl (by decide)
          · exact Or.inl (by decide)
          · exact Or.inl (by decide)
          · exact Or.inl (by decide)
          · exact Or.inr ⟨by decide, "java/lang/IllegalArgumentException", (by decide), clk_20, by decide⟩
          · exact Or.inl (by decide)
          · exact Or.inl (by decide)
          · exact Or.inl (by decide)
          · exact Or.inl (by decide)
          · exact Or.inl (by decide)
          · exact Or.inl (by decide)
          · exact Or.inl (by decide)
          · exact Or.inl (by decide)
          · exact Or.inl (by decide)
          · exact Or.inl (by decide)
          · exact Or.inl (by decide)) (by decide) ⟨by decide, by decide⟩ (by decide) clk_94 cst_94 (fun aq => ?_)
        refine zx_astoreW dL_does_159 (Nat.le_of_ble_eq_true rfl) (Nat.le_of_ble_eq_true rfl) rfl ?_
        refine zx_bipush dL_does_161 rfl ?_
        refine zx_iret rfl rfl dL_does_163 ?_
        rw [hQ]
        exact Or.inr ⟨_, by decide, hq, rfl⟩
      · refine zxt_catch (name := "java/lang/IllegalArgumentException") (pre := [(0, 68, 149, 92), (69, 77, 149, 92), (78, 86, 149, 92), (87, 95, 149, 92), (96, 104, 149, 92), (105, 110, 149, 92), (111, 116, 149, 92), (117, 122, 149, 92), (123, 127, 149, 92), (128, 134, 149, 92), (135, 143, 149, 92), (144, 148, 149, 92), (0, 68, 154, 20)]) (x := (69, 77, 154, 20)) (suf := [(78, 86, 154, 20), (87, 95, 154, 20), (96, 104, 154, 20), (105, 110, 154, 20), (111, 116, 154, 20), (117, 122, 154, 20), (123, 127, 154, 20), (128, 134, 154, 20), (135, 143, 154, 20), (144, 148, 154, 20), (0, 68, 159, 94), (69, 77, 159, 94), (78, 86, 159, 94), (87, 95, 159, 94), (96, 104, 159, 94), (105, 110, 159, 94), (111, 116, 159, 94), (117, 122, 159, 94), (123, 127, 159, 94), (128, 134, 159, 94), (135, 143, 159, 94), (144, 148, 159, 94)]) rfl (fun z hz => by
          simp only [List.mem_cons, List.not_mem_nil, or_false] at hz
          rcases hz with rfl | rfl | rfl | rfl | rfl | rfl | rfl | rfl | rfl | rfl | rfl | rfl | rfl
          · exact Or.inl (by decide)
          · exact Or.inr ⟨by decide, "java/lang/IndexOutOfBoundsException", (by decide), clk_92, by decide⟩
          · exact Or.inl (by decide)
          · exact Or.inl (by decide)
          · exact Or.inl (by decide)
          · exact Or.inl (by decide)
          · exact Or.inl (by decide)
          · exact Or.inl (by decide)
          · exact Or.inl (by decide)
          · exact Or.inl (by decide)
          · exact Or.inl (by decide)
          · exact Or.inl (by decide)
          · exact Or.inl (by decide)) (by decide) ⟨by decide, by decide⟩ (by decide) clk_20 cst_20 (fun aq => ?_)
        refine zx_astoreW dL_does_154 (Nat.le_of_ble_eq_true rfl) (Nat.le_of_ble_eq_true rfl) rfl ?_
        refine zx_bipush dL_does_156 rfl ?_
        refine zx_iret rfl rfl dL_does_158 ?_
        rw [hQ]
        exact Or.inr ⟨_, by decide, hq, rfl⟩
      · refine zxt_catch (name := "java/lang/IndexOutOfBoundsException") (pre := [(0, 68, 149, 92)]) (x := (69, 77, 149, 92)) (suf := [(78, 86, 149, 92), (87, 95, 149, 92), (96, 104, 149, 92), (105, 110, 149, 92), (111, 116, 149, 92), (117, 122, 149, 92), (123, 127, 149, 92), (128, 134, 149, 92), (135, 143, 149, 92), (144, 148, 149, 92), (0, 68, 154, 20), (69, 77, 154, 20), (78, 86, 154, 20), (87, 95, 154, 20), (96, 104, 154, 20), (105, 110, 154, 20), (111, 116, 154, 20), (117, 122, 154, 20), (123, 127, 154, 20), (128, 134, 154, 20), (135, 143, 154, 20), (144, 148, 154, 20), (0, 68, 159, 94), (69, 77, 159, 94), (78, 86, 159, 94), (87, 95, 159, 94), (96, 104, 159, 94), (105, 110, 159, 94), (111, 116, 159, 94), (117, 122, 159, 94), (123, 127, 159, 94), (128, 134, 159, 94), (135, 143, 159, 94), (144, 148, 159, 94)]) rfl (fun z hz => by
          simp only [List.mem_cons, List.not_mem_nil, or_false] at hz
          rcases hz with rfl
          · exact Or.inl (by decide)) (by decide) ⟨by decide, by decide⟩ (by decide) clk_92 cst_92 (fun aq => ?_)
        refine zx_astoreW dL_does_149 (Nat.le_of_ble_eq_true rfl) (Nat.le_of_ble_eq_true rfl) rfl ?_
        refine zx_bipush dL_does_151 rfl ?_
        refine zx_iret rfl rfl dL_does_153 ?_
        rw [hQ]
        exact Or.inr ⟨_, by decide, hq, rfl⟩
set_option maxRecDepth 20000 in
set_option maxHeartbeats 2000000 in
theorem dL_2 {l : Launch} {w : zW} (hfl : l.stackTraces = false) {σ : zS} (hz : zOK σ) {h' n' : Nat} (hh : h' + 1 ≤ 10) (hn : n' ≤ 1) {Q' : zQ} {x0 x1 x2 : Int} (hsp : Sp l w mX9_addWatermarkClue h' n' [zf 9 0, zi x0, zi x1, zi x2] σ Q') (hv : dO Q') : SpH l w mL_does 10 1 [zf 9 0, zi 2, zi x0, zi x1, zi x2] σ (dQ Q') := by
  obtain ⟨Q, hQ⟩ : ∃ Q : zQ, Q = (dQ Q') := ⟨_, rfl⟩
  rw [← hQ]
  refine zx_enterH hfl (by decide) 1 rfl ?_
  show zX l w mL_does (zMQ w 10 1 Q) 0 [zf 9 0, zi 2, zi x0, zi x1, zi x2, zu] [] 0 σ
  refine zx_iloadN dL_does_0 rfl rfl ?_
  refine zx_tableIn (off := 77) (tgt := 78) (by unfold zr; omega) dL_does_1 (by omega) (by omega) rfl (by decide) ?_
  refine zx_aloadN dL_does_78 rfl rfl ?_
  refine zx_iloadN dL_does_79 rfl rfl ?_
  refine zx_iloadN dL_does_80 rfl rfl ?_
  refine zx_iload dL_does_81 rfl ?_
  refine zy_cvq [zi x0, zi x1, zi x2] hsp dL_does_83 (by decide) rfl cw_RL_61 okX9_addWatermarkClue rfl (Nat.le_of_ble_eq_true rfl) ⟨hh, by show 8 + (4 + 11) + 34 * h' ≤ 340; omega, by show 0 + (0 + n') ≤ 1; omega, by show 0 + 6 * (0 + n') ≤ 6 * 1; omega⟩ (fun r τ hq => ?_) (fun E τ hq => ?_)
  · rcases hv _ _ hq with ⟨v, e⟩ | ⟨E, -, e⟩
    · obtain rfl := Sum.inl.inj e
      rw [show ∀ (x : zV) (s : List zV), (some x).toList ++ s = x :: s from fun _ _ => rfl]
      refine zx_iret rfl rfl dL_does_86 ?_
      rw [hQ]
      exact Or.inl ⟨v, hq, rfl⟩
    · cases e
  · rcases hv _ _ hq with ⟨v, e⟩ | ⟨E, hE, e⟩
    · cases e
    · obtain rfl := Sum.inr.inj e
      simp only [zexs, List.mem_cons, List.not_mem_nil, or_false] at hE
      rcases hE with rfl | rfl | rfl
      · refine zxt_catch (name := "java/lang/IllegalStateException") (pre := [(0, 68, 149, 92), (69, 77, 149, 92), (78, 86, 149, 92), (87, 95, 149, 92), (96, 104, 149, 92), (105, 110, 149, 92), (111, 116, 149, 92), (117, 122, 149, 92), (123, 127, 149, 92), (128, 134, 149, 92), (135, 143, 149, 92), (144, 148, 149, 92), (0, 68, 154, 20), (69, 77, 154, 20), (78, 86, 154, 20), (87, 95, 154, 20), (96, 104, 154, 20), (105, 110, 154, 20), (111, 116, 154, 20), (117, 122, 154, 20), (123, 127, 154, 20), (128, 134, 154, 20), (135, 143, 154, 20), (144, 148, 154, 20), (0, 68, 159, 94), (69, 77, 159, 94)]) (x := (78, 86, 159, 94)) (suf := [(87, 95, 159, 94), (96, 104, 159, 94), (105, 110, 159, 94), (111, 116, 159, 94), (117, 122, 159, 94), (123, 127, 159, 94), (128, 134, 159, 94), (135, 143, 159, 94), (144, 148, 159, 94)]) rfl (fun z hz => by
          simp only [List.mem_cons, List.not_mem_nil, or_false] at hz
          rcases hz with rfl | rfl | rfl | rfl | rfl | rfl | rfl | rfl | rfl | rfl | rfl | rfl | rfl | rfl | rfl | rfl | rfl | rfl | rfl | rfl | rfl | rfl | rfl | rfl | rfl | rfl
          · exact Or.inl (by decide)
          · exact Or.inl (by decide)
          · exact Or.inr ⟨by decide, "java/lang/IndexOutOfBoundsException", (by decide), clk_92, by decide⟩
          · exact Or.inl (by decide)
          · exact Or.inl (by decide)
          · exact Or.inl (by decide)
          · exact Or.inl (by decide)
          · exact Or.inl (by decide)
          · exact Or.inl (by decide)
          · exact Or.inl (by decide)
          · exact Or.inl (by decide)
          · exact Or.inl (by decide)
          · exact Or.inl (by decide)
          · exact Or.inl (by decide)
          · exact Or.inr ⟨by decide, "java/lang/IllegalArgumentException", (by decide), clk_20, by decide⟩
          · exact Or.inl (by decide)
          · exact Or.inl (by decide)
          · exact Or.inl (by decide)
          · exact Or.inl (by decide)
          · exact Or.inl (by decide)
          · exact Or.inl (by decide)
          · exact Or.inl (by decide)
          · exact Or.inl (by decide)
          · exact Or.inl (by decide)
          · exact Or.inl (by decide)
          · exact Or.inl (by decide)) (by decide) ⟨by decide, by decide⟩ (by decide) clk_94 cst_94 (fun aq => ?_)
        refine zx_astoreW dL_does_159 (Nat.le_of_ble_eq_true rfl) (Nat.le_of_ble_eq_true rfl) rfl ?_
        refine zx_bipush dL_does_161 rfl ?_
        refine zx_iret rfl rfl dL_does_163 ?_
        rw [hQ]
        exact Or.inr ⟨_, by decide, hq, rfl⟩
      · refine zxt_catch (name := "java/lang/IllegalArgumentException") (pre := [(0, 68, 149, 92), (69, 77, 149, 92), (78, 86, 149, 92), (87, 95, 149, 92), (96, 104, 149, 92), (105, 110, 149, 92), (111, 116, 149, 92), (117, 122, 149, 92), (123, 127, 149, 92), (128, 134, 149, 92), (135, 143, 149, 92), (144, 148, 149, 92), (0, 68, 154, 20), (69, 77, 154, 20)]) (x := (78, 86, 154, 20)) (suf := [(87, 95, 154, 20), (96, 104, 154, 20), (105, 110, 154, 20), (111, 116, 154, 20), (117, 122, 154, 20), (123, 127, 154, 20), (128, 134, 154, 20), (135, 143, 154, 20), (144, 148, 154, 20), (0, 68, 159, 94), (69, 77, 159, 94), (78, 86, 159, 94), (87, 95, 159, 94), (96, 104, 159, 94), (105, 110, 159, 94), (111, 116, 159, 94), (117, 122, 159, 94), (123, 127, 159, 94), (128, 134, 159, 94), (135, 143, 159, 94), (144, 148, 159, 94)]) rfl (fun z hz => by
          simp only [List.mem_cons, List.not_mem_nil, or_false] at hz
          rcases hz with rfl | rfl | rfl | rfl | rfl | rfl | rfl | rfl | rfl | rfl | rfl | rfl | rfl | rfl
          · exact Or.inl (by decide)
          · exact Or.inl (by decide)
          · exact Or.inr ⟨by decide, "java/lang/IndexOutOfBoundsException", (by decide), clk_92, by decide⟩
          · exact Or.inl (by decide)
          · exact Or.inl (by decide)
          · exact Or.inl (by decide)
          · exact Or.inl (by decide)
          · exact Or.inl (by decide)
          · exact Or.inl (by decide)
          · exact Or.inl (by decide)
          · exact Or.inl (by decide)
          · exact Or.inl (by decide)
          · exact Or.inl (by decide)
          · exact Or.inl (by decide)) (by decide) ⟨by decide, by decide⟩ (by decide) clk_20 cst_20 (fun aq => ?_)
        refine zx_astoreW dL_does_154 (Nat.le_of_ble_eq_true rfl) (Nat.le_of_ble_eq_true rfl) rfl ?_
        refine zx_bipush dL_does_156 rfl ?_
        refine zx_iret rfl rfl dL_does_158 ?_
        rw [hQ]
        exact Or.inr ⟨_, by decide, hq, rfl⟩
      · refine zxt_catch (name := "java/lang/IndexOutOfBoundsException") (pre := [(0, 68, 149, 92), (69, 77, 149, 92)]) (x := (78, 86, 149, 92)) (suf := [(87, 95, 149, 92), (96, 104, 149, 92), (105, 110, 149, 92), (111, 116, 149, 92), (117, 122, 149, 92), (123, 127, 149, 92), (128, 134, 149, 92), (135, 143, 149, 92), (144, 148, 149, 92), (0, 68, 154, 20), (69, 77, 154, 20), (78, 86, 154, 20), (87, 95, 154, 20), (96, 104, 154, 20), (105, 110, 154, 20), (111, 116, 154, 20), (117, 122, 154, 20), (123, 127, 154, 20), (128, 134, 154, 20), (135, 143, 154, 20), (144, 148, 154, 20), (0, 68, 159, 94), (69, 77, 159, 94), (78, 86, 159, 94), (87, 95, 159, 94), (96, 104, 159, 94), (105, 110, 159, 94), (111, 116, 159, 94), (117, 122, 159, 94), (123, 127, 159, 94), (128, 134, 159, 94), (135, 143, 159, 94), (144, 148, 159, 94)]) rfl (fun z hz => by
          simp only [List.mem_cons, List.not_mem_nil, or_false] at hz
          rcases hz with rfl | rfl
          · exact Or.inl (by decide)
          · exact Or.inl (by decide)) (by decide) ⟨by decide, by decide⟩ (by decide) clk_92 cst_92 (fun aq => ?_)
        refine zx_astoreW dL_does_149 (Nat.le_of_ble_eq_true rfl) (Nat.le_of_ble_eq_true rfl) rfl ?_
        refine zx_bipush dL_does_151 rfl ?_
        refine zx_iret rfl rfl dL_does_153 ?_
        rw [hQ]
        exact Or.inr ⟨_, by decide, hq, rfl⟩
set_option maxRecDepth 20000 in
set_option maxHeartbeats 2000000 in
theorem dL_3 {l : Launch} {w : zW} (hfl : l.stackTraces = false) {σ : zS} (hz : zOK σ) {h' n' : Nat} (hh : h' + 1 ≤ 10) (hn : n' ≤ 1) {Q' : zQ} {x0 x1 x2 : Int} (hsp : Sp l w mX9_addCityClue h' n' [zf 9 0, zi x0, zi x1, zi x2] σ Q') (hv : dO Q') : SpH l w mL_does 10 1 [zf 9 0, zi 3, zi x0, zi x1, zi x2] σ (dQ Q') := by
  obtain ⟨Q, hQ⟩ : ∃ Q : zQ, Q = (dQ Q') := ⟨_, rfl⟩
  rw [← hQ]
  refine zx_enterH hfl (by decide) 1 rfl ?_
  show zX l w mL_does (zMQ w 10 1 Q) 0 [zf 9 0, zi 3, zi x0, zi x1, zi x2, zu] [] 0 σ
  refine zx_iloadN dL_does_0 rfl rfl ?_
  refine zx_tableIn (off := 86) (tgt := 87) (by unfold zr; omega) dL_does_1 (by omega) (by omega) rfl (by decide) ?_
  refine zx_aloadN dL_does_87 rfl rfl ?_
  refine zx_iloadN dL_does_88 rfl rfl ?_
  refine zx_iloadN dL_does_89 rfl rfl ?_
  refine zx_iload dL_does_90 rfl ?_
  refine zy_cvq [zi x0, zi x1, zi x2] hsp dL_does_92 (by decide) rfl cw_RL_64 okX9_addCityClue rfl (Nat.le_of_ble_eq_true rfl) ⟨hh, by show 8 + (4 + 11) + 34 * h' ≤ 340; omega, by show 0 + (0 + n') ≤ 1; omega, by show 0 + 6 * (0 + n') ≤ 6 * 1; omega⟩ (fun r τ hq => ?_) (fun E τ hq => ?_)
  · rcases hv _ _ hq with ⟨v, e⟩ | ⟨E, -, e⟩
    · obtain rfl := Sum.inl.inj e
      rw [show ∀ (x : zV) (s : List zV), (some x).toList ++ s = x :: s from fun _ _ => rfl]
      refine zx_iret rfl rfl dL_does_95 ?_
      rw [hQ]
      exact Or.inl ⟨v, hq, rfl⟩
    · cases e
  · rcases hv _ _ hq with ⟨v, e⟩ | ⟨E, hE, e⟩
    · cases e
    · obtain rfl := Sum.inr.inj e
      simp only [zexs, List.mem_cons, List.not_mem_nil, or_false] at hE
      rcases hE with rfl | rfl | rfl
      · refine zxt_catch (name := "java/lang/IllegalStateException") (pre := [(0, 68, 149, 92), (69, 77, 149, 92), (78, 86, 149, 92), (87, 95, 149, 92), (96, 104, 149, 92), (105, 110, 149, 92), (111, 116, 149, 92), (117, 122, 149, 92), (123, 127, 149, 92), (128, 134, 149, 92), (135, 143, 149, 92), (144, 148, 149, 92), (0, 68, 154, 20), (69, 77, 154, 20), (78, 86, 154, 20), (87, 95, 154, 20), (96, 104, 154, 20), (105, 110, 154, 20), (111, 116, 154, 20), (117, 122, 154, 20), (123, 127, 154, 20), (128, 134, 154, 20), (135, 143, 154, 20), (144, 148, 154, 20), (0, 68, 159, 94), (69, 77, 159, 94), (78, 86, 159, 94)]) (x := (87, 95, 159, 94)) (suf := [(96, 104, 159, 94), (105, 110, 159, 94), (111, 116, 159, 94), (117, 122, 159, 94), (123, 127, 159, 94), (128, 134, 159, 94), (135, 143, 159, 94), (144, 148, 159, 94)]) rfl (fun z hz => by
          simp only [List.mem_cons, List.not_mem_nil, or_false] at hz
          rcases hz with rfl | rfl | rfl | rfl | rfl | rfl | rfl | rfl | rfl | rfl | rfl | rfl | rfl | rfl | rfl | rfl | rfl | rfl | rfl | rfl | rfl | rfl | rfl | rfl | rfl | rfl | rfl
          · exact Or.inl (by decide)
          · exact Or.inl (by decide)
          · exact Or.inl (by decide)
          · exact Or.inr ⟨by decide, "java/lang/IndexOutOfBoundsException", (by decide), clk_92, by decide⟩
          · exact Or.inl (by decide)
          · exact Or.inl (by decide)
          · exact Or.inl (by decide)
          · exact Or.inl (by decide)
          · exact Or.inl (by decide)
          · exact Or.inl (by decide)
          · exact Or.inl (by decide)
          · exact Or.inl (by decide)
          · exact Or.inl (by decide)
          · exact Or.inl (by decide)
          · exact Or.inl (by decide)
          · exact Or.inr ⟨by decide, "java/lang/IllegalArgumentException", (by decide), clk_20, by decide⟩
          · exact Or.inl (by decide)
          · exact Or.inl (by decide)
          · exact Or.inl (by decide)
          · exact Or.inl (by decide)
          · exact Or.inl (by decide)
          · exact Or.inl (by decide)
          · exact Or.inl (by decide)
          · exact Or.inl (by decide)
          · exact Or.inl (by decide)
          · exact Or.inl (by decide)
          · exact Or.inl (by decide)) (by decide) ⟨by decide, by decide⟩ (by decide) clk_94 cst_94 (fun aq => ?_)
        refine zx_astoreW dL_does_159 (Nat.le_of_ble_eq_true rfl) (Nat.le_of_ble_eq_true rfl) rfl ?_
        refine zx_bipush dL_does_161 rfl ?_
        refine zx_iret rfl rfl dL_does_163 ?_
        rw [hQ]
        exact Or.inr ⟨_, by decide, hq, rfl⟩
      · refine zxt_catch (name := "java/lang/IllegalArgumentException") (pre := [(0, 68, 149, 92), (69, 77, 149, 92), (78, 86, 149, 92), (87, 95, 149, 92), (96, 104, 149, 92), (105, 110, 149, 92), (111, 116, 149, 92), (117, 122, 149, 92), (123, 127, 149, 92), (128, 134, 149, 92), (135, 143, 149, 92), (144, 148, 149, 92), (0, 68, 154, 20), (69, 77, 154, 20), (78, 86, 154, 20)]) (x := (87, 95, 154, 20)) (suf := [(96, 104, 154, 20), (105, 110, 154, 20), (111, 116, 154, 20), (117, 122, 154, 20), (123, 127, 154, 20), (128, 134, 154, 20), (135, 143, 154, 20), (144, 148, 154, 20), (0, 68, 159, 94), (69, 77, 159, 94), (78, 86, 159, 94), (87, 95, 159, 94), (96, 104, 159, 94), (105, 110, 159, 94), (111, 116, 159, 94), (117, 122, 159, 94), (123, 127, 159, 94), (128, 134, 159, 94), (135, 143, 159, 94), (144, 148, 159, 94)]) rfl (fun z hz => by
          simp only [List.mem_cons, List.not_mem_nil, or_false] at hz
          rcases hz with rfl | rfl | rfl | rfl | rfl | rfl | rfl | rfl | rfl | rfl | rfl | rfl | rfl | rfl | rfl
          · exact Or.inl (by decide)
          · exact Or.inl (by decide)
          · exact Or.inl (by decide)
          · exact Or.inr ⟨by decide, "java/lang/IndexOutOfBoundsException", (by decide), clk_92, by decide⟩
          · exact Or.inl (by decide)
          · exact Or.inl (by decide)
          · exact Or.inl (by decide)
          · exact Or.inl (by decide)
          · exact Or.inl (by decide)
          · exact Or.inl (by decide)
          · exact Or.inl (by decide)
          · exact Or.inl (by decide)
          · exact Or.inl (by decide)
          · exact Or.inl (by decide)
          · exact Or.inl (by decide)) (by decide) ⟨by decide, by decide⟩ (by decide) clk_20 cst_20 (fun aq => ?_)
        refine zx_astoreW dL_does_154 (Nat.le_of_ble_eq_true rfl) (Nat.le_of_ble_eq_true rfl) rfl ?_
        refine zx_bipush dL_does_156 rfl ?_
        refine zx_iret rfl rfl dL_does_158 ?_
        rw [hQ]
        exact Or.inr ⟨_, by decide, hq, rfl⟩
      · refine zxt_catch (name := "java/lang/IndexOutOfBoundsException") (pre := [(0, 68, 149, 92), (69, 77, 149, 92), (78, 86, 149, 92)]) (x := (87, 95, 149, 92)) (suf := [(96, 104, 149, 92), (105, 110, 149, 92), (111, 116, 149, 92), (117, 122, 149, 92), (123, 127, 149, 92), (128, 134, 149, 92), (135, 143, 149, 92), (144, 148, 149, 92), (0, 68, 154, 20), (69, 77, 154, 20), (78, 86, 154, 20), (87, 95, 154, 20), (96, 104, 154, 20), (105, 110, 154, 20), (111, 116, 154, 20), (117, 122, 154, 20), (123, 127, 154, 20), (128, 134, 154, 20), (135, 143, 154, 20), (144, 148, 154, 20), (0, 68, 159, 94), (69, 77, 159, 94), (78, 86, 159, 94), (87, 95, 159, 94), (96, 104, 159, 94), (105, 110, 159, 94), (111, 116, 159, 94), (117, 122, 159, 94), (123, 127, 159, 94), (128, 134, 159, 94), (135, 143, 159, 94), (144, 148, 159, 94)]) rfl (fun z hz => by
          simp only [List.mem_cons, List.not_mem_nil, or_false] at hz
          rcases hz with rfl | rfl | rfl
          · exact Or.inl (by decide)
          · exact Or.inl (by decide)
          · exact Or.inl (by decide)) (by decide) ⟨by decide, by decide⟩ (by decide) clk_92 cst_92 (fun aq => ?_)
        refine zx_astoreW dL_does_149 (Nat.le_of_ble_eq_true rfl) (Nat.le_of_ble_eq_true rfl) rfl ?_
        refine zx_bipush dL_does_151 rfl ?_
        refine zx_iret rfl rfl dL_does_153 ?_
        rw [hQ]
        exact Or.inr ⟨_, by decide, hq, rfl⟩
set_option maxRecDepth 20000 in
set_option maxHeartbeats 2000000 in
theorem dL_4 {l : Launch} {w : zW} (hfl : l.stackTraces = false) {σ : zS} (hz : zOK σ) {h' n' : Nat} (hh : h' + 1 ≤ 10) (hn : n' ≤ 1) {Q' : zQ} {x0 x1 x2 : Int} (hsp : Sp l w mX9_addDateClue h' n' [zf 9 0, zi x0, zi x1, zi x2] σ Q') (hv : dO Q') : SpH l w mL_does 10 1 [zf 9 0, zi 4, zi x0, zi x1, zi x2] σ (dQ Q') := by
  obtain ⟨Q, hQ⟩ : ∃ Q : zQ, Q = (dQ Q') := ⟨_, rfl⟩
  rw [← hQ]
  refine zx_enterH hfl (by decide) 1 rfl ?_
  show zX l w mL_does (zMQ w 10 1 Q) 0 [zf 9 0, zi 4, zi x0, zi x1, zi x2, zu] [] 0 σ
  refine zx_iloadN dL_does_0 rfl rfl ?_
  refine zx_tableIn (off := 95) (tgt := 96) (by unfold zr; omega) dL_does_1 (by omega) (by omega) rfl (by decide) ?_
  refine zx_aloadN dL_does_96 rfl rfl ?_
  refine zx_iloadN dL_does_97 rfl rfl ?_
  refine zx_iloadN dL_does_98 rfl rfl ?_
  refine zx_iload dL_does_99 rfl ?_
  refine zy_cvq [zi x0, zi x1, zi x2] hsp dL_does_101 (by decide) rfl cw_RL_67 okX9_addDateClue rfl (Nat.le_of_ble_eq_true rfl) ⟨hh, by show 8 + (4 + 11) + 34 * h' ≤ 340; omega, by show 0 + (0 + n') ≤ 1; omega, by show 0 + 6 * (0 + n') ≤ 6 * 1; omega⟩ (fun r τ hq => ?_) (fun E τ hq => ?_)
  · rcases hv _ _ hq with ⟨v, e⟩ | ⟨E, -, e⟩
    · obtain rfl := Sum.inl.inj e
      rw [show ∀ (x : zV) (s : List zV), (some x).toList ++ s = x :: s from fun _ _ => rfl]
      refine zx_iret rfl rfl dL_does_104 ?_
      rw [hQ]
      exact Or.inl ⟨v, hq, rfl⟩
    · cases e
  · rcases hv _ _ hq with ⟨v, e⟩ | ⟨E, hE, e⟩
    · cases e
    · obtain rfl := Sum.inr.inj e
      simp only [zexs, List.mem_cons, List.not_mem_nil, or_false] at hE
      rcases hE with rfl | rfl | rfl
      · refine zxt_catch (name := "java/lang/IllegalStateException") (pre := [(0, 68, 149, 92), (69, 77, 149, 92), (78, 86, 149, 92), (87, 95, 149, 92), (96, 104, 149, 92), (105, 110, 149, 92), (111, 116, 149, 92), (117, 122, 149, 92), (123, 127, 149, 92), (128, 134, 149, 92), (135, 143, 149, 92), (144, 148, 149, 92), (0, 68, 154, 20), (69, 77, 154, 20), (78, 86, 154, 20), (87, 95, 154, 20), (96, 104, 154, 20), (105, 110, 154, 20), (111, 116, 154, 20), (117, 122, 154, 20), (123, 127, 154, 20), (128, 134, 154, 20), (135, 143, 154, 20), (144, 148, 154, 20), (0, 68, 159, 94), (69, 77, 159, 94), (78, 86, 159, 94), (87, 95, 159, 94)]) (x := (96, 104, 159, 94)) (suf := [(105, 110, 159, 94), (111, 116, 159, 94), (117, 122, 159, 94), (123, 127, 159, 94), (128, 134, 159, 94), (135, 143, 159, 94), (144, 148, 159, 94)]) rfl (fun z hz => by
          simp only [List.mem_cons, List.not_mem_nil, or_false] at hz
          rcases hz with rfl | rfl | rfl | rfl | rfl | rfl | rfl | rfl | rfl | rfl | rfl | rfl | rfl | rfl | rfl | rfl | rfl | rfl | rfl | rfl | rfl | rfl | rfl | rfl | rfl | rfl | rfl | rfl
          · exact Or.inl (by decide)
          · exact Or.inl (by decide)
          · exact Or.inl (by decide)
          · exact Or.inl (by decide)
          · exact Or.inr ⟨by decide, "java/lang/IndexOutOfBoundsException", (by decide), clk_92, by decide⟩
          · exact Or.inl (by decide)
          · exact Or.inl (by decide)
          · exact Or.inl (by decide)
          · exact Or.inl (by decide)
          · exact Or.inl (by decide)
          · exact Or.inl (by decide)
          · exact Or.inl (by decide)
          · exact Or.inl (by decide)
          · exact Or.inl (by decide)
          · exact Or.inl (by decide)
          · exact Or.inl (by decide)
          · exact Or.inr ⟨by decide, "java/lang/IllegalArgumentException", (by decide), clk_20, by decide⟩
          · exact Or.inl (by decide)
          · exact Or.inl (by decide)
          · exact Or.inl (by decide)
          · exact Or.inl (by decide)
          · exact Or.inl (by decide)
          · exact Or.inl (by decide)
          · exact Or.inl (by decide)
          · exact Or.inl (by decide)
          · exact Or.inl (by decide)
          · exact Or.inl (by decide)
          · exact Or.inl (by decide)) (by decide) ⟨by decide, by decide⟩ (by decide) clk_94 cst_94 (fun aq => ?_)
        refine zx_astoreW dL_does_159 (Nat.le_of_ble_eq_true rfl) (Nat.le_of_ble_eq_true rfl) rfl ?_
        refine zx_bipush dL_does_161 rfl ?_
        refine zx_iret rfl rfl dL_does_163 ?_
        rw [hQ]
        exact Or.inr ⟨_, by decide, hq, rfl⟩
      · refine zxt_catch (name := "java/lang/IllegalArgumentException") (pre := [(0, 68, 149, 92), (69, 77, 149, 92), (78, 86, 149, 92), (87, 95, 149, 92), (96, 104, 149, 92), (105, 110, 149, 92), (111, 116, 149, 92), (117, 122, 149, 92), (123, 127, 149, 92), (128, 134, 149, 92), (135, 143, 149, 92), (144, 148, 149, 92), (0, 68, 154, 20), (69, 77, 154, 20), (78, 86, 154, 20), (87, 95, 154, 20)]) (x := (96, 104, 154, 20)) (suf := [(105, 110, 154, 20), (111, 116, 154, 20), (117, 122, 154, 20), (123, 127, 154, 20), (128, 134, 154, 20), (135, 143, 154, 20), (144, 148, 154, 20), (0, 68, 159, 94), (69, 77, 159, 94), (78, 86, 159, 94), (87, 95, 159, 94), (96, 104, 159, 94), (105, 110, 159, 94), (111, 116, 159, 94), (117, 122, 159, 94), (123, 127, 159, 94), (128, 134, 159, 94), (135, 143, 159, 94), (144, 148, 159, 94)]) rfl (fun z hz => by
          simp only [List.mem_cons, List.not_mem_nil, or_false] at hz
          rcases hz with rfl | rfl | rfl | rfl | rfl | rfl | rfl | rfl | rfl | rfl | rfl | rfl | rfl | rfl | rfl | rfl
          · exact Or.inl (by decide)
          · exact Or.inl (by decide)
          · exact Or.inl (by decide)
          · exact Or.inl (by decide)
          · exact Or.inr ⟨by decide, "java/lang/IndexOutOfBoundsException", (by decide), clk_92, by decide⟩
          · exact Or.inl (by decide)
          · exact Or.inl (by decide)
          · exact Or.inl (by decide)
          · exact Or.inl (by decide)
          · exact Or.inl (by decide)
          · exact Or.inl (by decide)
          · exact Or.inl (by decide)
          · exact Or.inl (by decide)
          · exact Or.inl (by decide)
          · exact Or.inl (by decide)
          · exact Or.inl (by decide)) (by decide) ⟨by decide, by decide⟩ (by decide) clk_20 cst_20 (fun aq => ?_)
        refine zx_astoreW dL_does_154 (Nat.le_of_ble_eq_true rfl) (Nat.le_of_ble_eq_true rfl) rfl ?_
        refine zx_bipush dL_does_156 rfl ?_
        refine zx_iret rfl rfl dL_does_158 ?_
        rw [hQ]
        exact Or.inr ⟨_, by decide, hq, rfl⟩
      · refine zxt_catch (name := "java/lang/IndexOutOfBoundsException") (pre := [(0, 68, 149, 92), (69, 77, 149, 92), (78, 86, 149, 92), (87, 95, 149, 92)]) (x := (96, 104, 149, 92)) (suf := [(105, 110, 149, 92), (111, 116, 149, 92), (117, 122, 149, 92), (123, 127, 149, 92), (128, 134, 149, 92), (135, 143, 149, 92), (144, 148, 149, 92), (0, 68, 154, 20), (69, 77, 154, 20), (78, 86, 154, 20), (87, 95, 154, 20), (96, 104, 154, 20), (105, 110, 154, 20), (111, 116, 154, 20), (117, 122, 154, 20), (123, 127, 154, 20), (128, 134, 154, 20), (135, 143, 154, 20), (144, 148, 154, 20), (0, 68, 159, 94), (69, 77, 159, 94), (78, 86, 159, 94), (87, 95, 159, 94), (96, 104, 159, 94), (105, 110, 159, 94), (111, 116, 159, 94), (117, 122, 159, 94), (123, 127, 159, 94), (128, 134, 159, 94), (135, 143, 159, 94), (144, 148, 159, 94)]) rfl (fun z hz => by
          simp only [List.mem_cons, List.not_mem_nil, or_false] at hz
          rcases hz with rfl | rfl | rfl | rfl
          · exact Or.inl (by decide)
          · exact Or.inl (by decide)
          · exact Or.inl (by decide)
          · exact Or.inl (by decide)) (by decide) ⟨by decide, by decide⟩ (by decide) clk_92 cst_92 (fun aq => ?_)
        refine zx_astoreW dL_does_149 (Nat.le_of_ble_eq_true rfl) (Nat.le_of_ble_eq_true rfl) rfl ?_
        refine zx_bipush dL_does_151 rfl ?_
        refine zx_iret rfl rfl dL_does_153 ?_
        rw [hQ]
        exact Or.inr ⟨_, by decide, hq, rfl⟩
set_option maxRecDepth 20000 in
set_option maxHeartbeats 2000000 in
theorem dL_5 {l : Launch} {w : zW} (hfl : l.stackTraces = false) {σ : zS} (hz : zOK σ) {h' n' : Nat} (hh : h' + 1 ≤ 10) (hn : n' ≤ 1) {Q' : zQ} {x0 x1 x2 : Int} (hsp : Sp l w mX9_read h' n' [zf 9 0, zi x0] σ Q') (hv : dO Q') : SpH l w mL_does 10 1 [zf 9 0, zi 5, zi x0, zi x1, zi x2] σ (dQ Q') := by
  obtain ⟨Q, hQ⟩ : ∃ Q : zQ, Q = (dQ Q') := ⟨_, rfl⟩
  rw [← hQ]
  refine zx_enterH hfl (by decide) 1 rfl ?_
  show zX l w mL_does (zMQ w 10 1 Q) 0 [zf 9 0, zi 5, zi x0, zi x1, zi x2, zu] [] 0 σ
  refine zx_iloadN dL_does_0 rfl rfl ?_
  refine zx_tableIn (off := 104) (tgt := 105) (by unfold zr; omega) dL_does_1 (by omega) (by omega) rfl (by decide) ?_
  refine zx_aloadN dL_does_105 rfl rfl ?_
  refine zx_iloadN dL_does_106 rfl rfl ?_
  refine zy_cvq [zi x0] hsp dL_does_107 (by decide) rfl cw_RL_70 okX9_read rfl (Nat.le_of_ble_eq_true rfl) ⟨hh, by show 8 + (3 + 11) + 34 * h' ≤ 340; omega, by show 0 + (0 + n') ≤ 1; omega, by show 0 + 6 * (0 + n') ≤ 6 * 1; omega⟩ (fun r τ hq => ?_) (fun E τ hq => ?_)
  · rcases hv _ _ hq with ⟨v, e⟩ | ⟨E, -, e⟩
    · obtain rfl := Sum.inl.inj e
      rw [show ∀ (x : zV) (s : List zV), (some x).toList ++ s = x :: s from fun _ _ => rfl]
      refine zx_iret rfl rfl dL_does_110 ?_
      rw [hQ]
      exact Or.inl ⟨v, hq, rfl⟩
    · cases e
  · rcases hv _ _ hq with ⟨v, e⟩ | ⟨E, hE, e⟩
    · cases e
    · obtain rfl := Sum.inr.inj e
      simp only [zexs, List.mem_cons, List.not_mem_nil, or_false] at hE
      rcases hE with rfl | rfl | rfl
      · refine zxt_catch (name := "java/lang/IllegalStateException") (pre := [(0, 68, 149, 92), (69, 77, 149, 92), (78, 86, 149, 92), (87, 95, 149, 92), (96, 104, 149, 92), (105, 110, 149, 92), (111, 116, 149, 92), (117, 122, 149, 92), (123, 127, 149, 92), (128, 134, 149, 92), (135, 143, 149, 92), (144, 148, 149, 92), (0, 68, 154, 20), (69, 77, 154, 20), (78, 86, 154, 20), (87, 95, 154, 20), (96, 104, 154, 20), (105, 110, 154, 20), (111, 116, 154, 20), (117, 122, 154, 20), (123, 127, 154, 20), (128, 134, 154, 20), (135, 143, 154, 20), (144, 148, 154, 20), (0, 68, 159, 94), (69, 77, 159, 94), (78, 86, 159, 94), (87, 95, 159, 94), (96, 104, 159, 94)]) (x := (105, 110, 159, 94)) (suf := [(111, 116, 159, 94), (117, 122, 159, 94), (123, 127, 159, 94), (128, 134, 159, 94), (135, 143, 159, 94), (144, 148, 159, 94)]) rfl (fun z hz => by
          simp only [List.mem_cons, List.not_mem_nil, or_false] at hz
          rcases hz with rfl | rfl | rfl | rfl | rfl | rfl | rfl | rfl | rfl | rfl | rfl | rfl | rfl | rfl | rfl | rfl | rfl | rfl | rfl | rfl | rfl | rfl | rfl | rfl | rfl | rfl | rfl | rfl | rfl
          · exact Or.inl (by decide)
          · exact Or.inl (by decide)
          · exact Or.inl (by decide)
          · exact Or.inl (by decide)
          · exact Or.inl (by decide)
          · exact Or.inr ⟨by decide, "java/lang/IndexOutOfBoundsException", (by decide), clk_92, by decide⟩
          · exact Or.inl (by decide)
          · exact Or.inl (by decide)
          · exact Or.inl (by decide)
          · exact Or.inl (by decide)
          · exact Or.inl (by decide)
          · exact Or.inl (by decide)
          · exact Or.inl (by decide)
          · exact Or.inl (by decide)
          · exact Or.inl (by decide)
          · exact Or.inl (by decide)
          · exact Or.inl (by decide)
          · exact Or.inr ⟨by decide, "java/lang/IllegalArgumentException", (by decide), clk_20, by decide⟩
          · exact Or.inl (by decide)
          · exact Or.inl (by decide)
          · exact Or.inl (by decide)
          · exact Or.inl (by decide)
          · exact Or.inl (by decide)
          · exact Or.inl (by decide)
          · exact Or.inl (by decide)
          · exact Or.inl (by decide)
          · exact Or.inl (by decide)
          · exact Or.inl (by decide)
          · exact Or.inl (by decide)) (by decide) ⟨by decide, by decide⟩ (by decide) clk_94 cst_94 (fun aq => ?_)
        refine zx_astoreW dL_does_159 (Nat.le_of_ble_eq_true rfl) (Nat.le_of_ble_eq_true rfl) rfl ?_
        refine zx_bipush dL_does_161 rfl ?_
        refine zx_iret rfl rfl dL_does_163 ?_
        rw [hQ]
        exact Or.inr ⟨_, by decide, hq, rfl⟩
      · refine zxt_catch (name := "java/lang/IllegalArgumentException") (pre := [(0, 68, 149, 92), (69, 77, 149, 92), (78, 86, 149, 92), (87, 95, 149, 92), (96, 104, 149, 92), (105, 110, 149, 92), (111, 116, 149, 92), (117, 122, 149, 92), (123, 127, 149, 92), (128, 134, 149, 92), (135, 143, 149, 92), (144, 148, 149, 92), (0, 68, 154, 20), (69, 77, 154, 20), (78, 86, 154, 20), (87, 95, 154, 20), (96, 104, 154, 20)]) (x := (105, 110, 154, 20)) (suf := [(111, 116, 154, 20), (117, 122, 154, 20), (123, 127, 154, 20), (128, 134, 154, 20), (135, 143, 154, 20), (144, 148, 154, 20), (0, 68, 159, 94), (69, 77, 159, 94), (78, 86, 159, 94), (87, 95, 159, 94), (96, 104, 159, 94), (105, 110, 159, 94), (111, 116, 159, 94), (117, 122, 159, 94), (123, 127, 159, 94), (128, 134, 159, 94), (135, 143, 159, 94), (144, 148, 159, 94)]) rfl (fun z hz => by
          simp only [List.mem_cons, List.not_mem_nil, or_false] at hz
          rcases hz with rfl | rfl | rfl | rfl | rfl | rfl | rfl | rfl | rfl | rfl | rfl | rfl | rfl | rfl | rfl | rfl | rfl
          · exact Or.inl (by decide)
          · exact Or.inl (by decide)
          · exact Or.inl (by decide)
          · exact Or.inl (by decide)
          · exact Or.inl (by decide)
          · exact Or.inr ⟨by decide, "java/lang/IndexOutOfBoundsException", (by decide), clk_92, by decide⟩
          · exact Or.inl (by decide)
          · exact Or.inl (by decide)
          · exact Or.inl (by decide)
          · exact Or.inl (by decide)
          · exact Or.inl (by decide)
          · exact Or.inl (by decide)
          · exact Or.inl (by decide)
          · exact Or.inl (by decide)
          · exact Or.inl (by decide)
          · exact Or.inl (by decide)
          · exact Or.inl (by decide)) (by decide) ⟨by decide, by decide⟩ (by decide) clk_20 cst_20 (fun aq => ?_)
        refine zx_astoreW dL_does_154 (Nat.le_of_ble_eq_true rfl) (Nat.le_of_ble_eq_true rfl) rfl ?_
        refine zx_bipush dL_does_156 rfl ?_
        refine zx_iret rfl rfl dL_does_158 ?_
        rw [hQ]
        exact Or.inr ⟨_, by decide, hq, rfl⟩
      · refine zxt_catch (name := "java/lang/IndexOutOfBoundsException") (pre := [(0, 68, 149, 92), (69, 77, 149, 92), (78, 86, 149, 92), (87, 95, 149, 92), (96, 104, 149, 92)]) (x := (105, 110, 149, 92)) (suf := [(111, 116, 149, 92), (117, 122, 149, 92), (123, 127, 149, 92), (128, 134, 149, 92), (135, 143, 149, 92), (144, 148, 149, 92), (0, 68, 154, 20), (69, 77, 154, 20), (78, 86, 154, 20), (87, 95, 154, 20), (96, 104, 154, 20), (105, 110, 154, 20), (111, 116, 154, 20), (117, 122, 154, 20), (123, 127, 154, 20), (128, 134, 154, 20), (135, 143, 154, 20), (144, 148, 154, 20), (0, 68, 159, 94), (69, 77, 159, 94), (78, 86, 159, 94), (87, 95, 159, 94), (96, 104, 159, 94), (105, 110, 159, 94), (111, 116, 159, 94), (117, 122, 159, 94), (123, 127, 159, 94), (128, 134, 159, 94), (135, 143, 159, 94), (144, 148, 159, 94)]) rfl (fun z hz => by
          simp only [List.mem_cons, List.not_mem_nil, or_false] at hz
          rcases hz with rfl | rfl | rfl | rfl | rfl
          · exact Or.inl (by decide)
          · exact Or.inl (by decide)
          · exact Or.inl (by decide)
          · exact Or.inl (by decide)
          · exact Or.inl (by decide)) (by decide) ⟨by decide, by decide⟩ (by decide) clk_92 cst_92 (fun aq => ?_)
        refine zx_astoreW dL_does_149 (Nat.le_of_ble_eq_true rfl) (Nat.le_of_ble_eq_true rfl) rfl ?_
        refine zx_bipush dL_does_151 rfl ?_
        refine zx_iret rfl rfl dL_does_153 ?_
        rw [hQ]
        exact Or.inr ⟨_, by decide, hq, rfl⟩
set_option maxRecDepth 20000 in
set_option maxHeartbeats 2000000 in
theorem dL_6 {l : Launch} {w : zW} (hfl : l.stackTraces = false) {σ : zS} (hz : zOK σ) {h' n' : Nat} (hh : h' + 1 ≤ 10) (hn : n' ≤ 1) {Q' : zQ} {x0 x1 x2 : Int} (hsp : Sp l w mX9_setAside h' n' [zf 9 0, zi x0] σ Q') (hv : dO Q') : SpH l w mL_does 10 1 [zf 9 0, zi 6, zi x0, zi x1, zi x2] σ (dQ Q') := by
  obtain ⟨Q, hQ⟩ : ∃ Q : zQ, Q = (dQ Q') := ⟨_, rfl⟩
  rw [← hQ]
  refine zx_enterH hfl (by decide) 1 rfl ?_
  show zX l w mL_does (zMQ w 10 1 Q) 0 [zf 9 0, zi 6, zi x0, zi x1, zi x2, zu] [] 0 σ
  refine zx_iloadN dL_does_0 rfl rfl ?_
  refine zx_tableIn (off := 110) (tgt := 111) (by unfold zr; omega) dL_does_1 (by omega) (by omega) rfl (by decide) ?_
  refine zx_aloadN dL_does_111 rfl rfl ?_
  refine zx_iloadN dL_does_112 rfl rfl ?_
  refine zy_cvq [zi x0] hsp dL_does_113 (by decide) rfl cw_RL_73 okX9_setAside rfl (Nat.le_of_ble_eq_true rfl) ⟨hh, by show 8 + (2 + 11) + 34 * h' ≤ 340; omega, by show 0 + (0 + n') ≤ 1; omega, by show 0 + 6 * (0 + n') ≤ 6 * 1; omega⟩ (fun r τ hq => ?_) (fun E τ hq => ?_)
  · rcases hv _ _ hq with ⟨v, e⟩ | ⟨E, -, e⟩
    · obtain rfl := Sum.inl.inj e
      rw [show ∀ (x : zV) (s : List zV), (some x).toList ++ s = x :: s from fun _ _ => rfl]
      refine zx_iret rfl rfl dL_does_116 ?_
      rw [hQ]
      exact Or.inl ⟨v, hq, rfl⟩
    · cases e
  · rcases hv _ _ hq with ⟨v, e⟩ | ⟨E, hE, e⟩
    · cases e
    · obtain rfl := Sum.inr.inj e
      simp only [zexs, List.mem_cons, List.not_mem_nil, or_false] at hE
      rcases hE with rfl | rfl | rfl
      · refine zxt_catch (name := "java/lang/IllegalStateException") (pre := [(0, 68, 149, 92), (69, 77, 149, 92), (78, 86, 149, 92), (87, 95, 149, 92), (96, 104, 149, 92), (105, 110, 149, 92), (111, 116, 149, 92), (117, 122, 149, 92), (123, 127, 149, 92), (128, 134, 149, 92), (135, 143, 149, 92), (144, 148, 149, 92), (0, 68, 154, 20), (69, 77, 154, 20), (78, 86, 154, 20), (87, 95, 154, 20), (96, 104, 154, 20), (105, 110, 154, 20), (111, 116, 154, 20), (117, 122, 154, 20), (123, 127, 154, 20), (128, 134, 154, 20), (135, 143, 154, 20), (144, 148, 154, 20), (0, 68, 159, 94), (69, 77, 159, 94), (78, 86, 159, 94), (87, 95, 159, 94), (96, 104, 159, 94), (105, 110, 159, 94)]) (x := (111, 116, 159, 94)) (suf := [(117, 122, 159, 94), (123, 127, 159, 94), (128, 134, 159, 94), (135, 143, 159, 94), (144, 148, 159, 94)]) rfl (fun z hz => by
          simp only [List.mem_cons, List.not_mem_nil, or_false] at hz
          rcases hz with rfl | rfl | rfl | rfl | rfl | rfl | rfl | rfl | rfl | rfl | rfl | rfl | rfl | rfl | rfl | rfl | rfl | rfl | rfl | rfl | rfl | rfl | rfl | rfl | rfl | rfl | rfl | rfl | rfl | rfl
          · exact Or.inl (by decide)
          · exact Or.inl (by decide)
          · exact Or.inl (by decide)
          · exact Or.inl (by decide)
          · exact Or.inl (by decide)
          · exact Or.inl (by decide)
          · exact Or.inr ⟨by decide, "java/lang/IndexOutOfBoundsException", (by decide), clk_92, by decide⟩
          · exact Or.inl (by decide)
          · exact Or.inl (by decide)
          · exact Or.inl (by decide)
          · exact Or.inl (by decide)
          · exact Or.inl (by decide)
          · exact Or.inl (by decide)
          · exact Or.inl (by decide)
          · exact Or.inl (by decide)
          · exact Or.inl (by decide)
          · exact Or.inl (by decide)
          · exact Or.inl (by decide)
          · exact Or.inr ⟨by decide, "java/lang/IllegalArgumentException", (by decide), clk_20, by decide⟩
          · exact Or.inl (by decide)
          · exact Or.inl (by decide)
          · exact Or.inl (by decide)
          · exact Or.inl (by decide)
          · exact Or.inl (by decide)
          · exact Or.inl (by decide)
          · exact Or.inl (by decide)
          · exact Or.inl (by decide)
          · exact Or.inl (by decide)
          · exact Or.inl (by decide)
          · exact Or.inl (by decide)) (by decide) ⟨by decide, by decide⟩ (by decide) clk_94 cst_94 (fun aq => ?_)
        refine zx_astoreW dL_does_159 (Nat.le_of_ble_eq_true rfl) (Nat.le_of_ble_eq_true rfl) rfl ?_
        refine zx_bipush dL_does_161 rfl ?_
        refine zx_iret rfl rfl dL_does_163 ?_
        rw [hQ]
        exact Or.inr ⟨_, by decide, hq, rfl⟩
      · refine zxt_catch (name := "java/lang/IllegalArgumentException") (pre := [(0, 68, 149, 92), (69, 77, 149, 92), (78, 86, 149, 92), (87, 95, 149, 92), (96, 104, 149, 92), (105, 110, 149, 92), (111, 116, 149, 92), (117, 122, 149, 92), (123, 127, 149, 92), (128, 134, 149, 92), (135, 143, 149, 92), (144, 148, 149, 92), (0, 68, 154, 20), (69, 77, 154, 20), (78, 86, 154, 20), (87, 95, 154, 20), (96, 104, 154, 20), (105, 110, 154, 20)]) (x := (111, 116, 154, 20)) (suf := [(117, 122, 154, 20), (123, 127, 154, 20), (128, 134, 154, 20), (135, 143, 154, 20), (144, 148, 154, 20), (0, 68, 159, 94), (69, 77, 159, 94), (78, 86, 159, 94), (87, 95, 159, 94), (96, 104, 159, 94), (105, 110, 159, 94), (111, 116, 159, 94), (117, 122, 159, 94), (123, 127, 159, 94), (128, 134, 159, 94), (135, 143, 159, 94), (144, 148, 159, 94)]) rfl (fun z hz => by
          simp only [List.mem_cons, List.not_mem_nil, or_false] at hz
          rcases hz with rfl | rfl | rfl | rfl | rfl | rfl | rfl | rfl | rfl | rfl | rfl | rfl | rfl | rfl | rfl | rfl | rfl | rfl
          · exact Or.inl (by decide)
          · exact Or.inl (by decide)
          · exact Or.inl (by decide)
          · exact Or.inl (by decide)
          · exact Or.inl (by decide)
          · exact Or.inl (by decide)
          · exact Or.inr ⟨by decide, "java/lang/IndexOutOfBoundsException", (by decide), clk_92, by decide⟩
          · exact Or.inl (by decide)
          · exact Or.inl (by decide)
          · exact Or.inl (by decide)
          · exact Or.inl (by decide)
          · exact Or.inl (by decide)
          · exact Or.inl (by decide)
          · exact Or.inl (by decide)
          · exact Or.inl (by decide)
          · exact Or.inl (by decide)
          · exact Or.inl (by decide)
          · exact Or.inl (by decide)) (by decide) ⟨by decide, by decide⟩ (by decide) clk_20 cst_20 (fun aq => ?_)
        refine zx_astoreW dL_does_154 (Nat.le_of_ble_eq_true rfl) (Nat.le_of_ble_eq_true rfl) rfl ?_
        refine zx_bipush dL_does_156 rfl ?_
        refine zx_iret rfl rfl dL_does_158 ?_
        rw [hQ]
        exact Or.inr ⟨_, by decide, hq, rfl⟩
      · refine zxt_catch (name := "java/lang/IndexOutOfBoundsException") (pre := [(0, 68, 149, 92), (69, 77, 149, 92), (78, 86, 149, 92), (87, 95, 149, 92), (96, 104, 149, 92), (105, 110, 149, 92)]) (x := (111, 116, 149, 92)) (suf := [(117, 122, 149, 92), (123, 127, 149, 92), (128, 134, 149, 92), (135, 143, 149, 92), (144, 148, 149, 92), (0, 68, 154, 20), (69, 77, 154, 20), (78, 86, 154, 20), (87, 95, 154, 20), (96, 104, 154, 20), (105, 110, 154, 20), (111, 116, 154, 20), (117, 122, 154, 20), (123, 127, 154, 20), (128, 134, 154, 20), (135, 143, 154, 20), (144, 148, 154, 20), (0, 68, 159, 94), (69, 77, 159, 94), (78, 86, 159, 94), (87, 95, 159, 94), (96, 104, 159, 94), (105, 110, 159, 94), (111, 116, 159, 94), (117, 122, 159, 94), (123, 127, 159, 94), (128, 134, 159, 94), (135, 143, 159, 94), (144, 148, 159, 94)]) rfl (fun z hz => by
          simp only [List.mem_cons, List.not_mem_nil, or_false] at hz
          rcases hz with rfl | rfl | rfl | rfl | rfl | rfl
          · exact Or.inl (by decide)
          · exact Or.inl (by decide)
          · exact Or.inl (by decide)
          · exact Or.inl (by decide)
          · exact Or.inl (by decide)
          · exact Or.inl (by decide)) (by decide) ⟨by decide, by decide⟩ (by decide) clk_92 cst_92 (fun aq => ?_)
        refine zx_astoreW dL_does_149 (Nat.le_of_ble_eq_true rfl) (Nat.le_of_ble_eq_true rfl) rfl ?_
        refine zx_bipush dL_does_151 rfl ?_
        refine zx_iret rfl rfl dL_does_153 ?_
        rw [hQ]
        exact Or.inr ⟨_, by decide, hq, rfl⟩
set_option maxRecDepth 20000 in
set_option maxHeartbeats 2000000 in
theorem dL_7 {l : Launch} {w : zW} (hfl : l.stackTraces = false) {σ : zS} (hz : zOK σ) {h' n' : Nat} (hh : h' + 1 ≤ 10) (hn : n' ≤ 1) {Q' : zQ} {x0 x1 x2 : Int} (hsp : Sp l w mX9_takeBack h' n' [zf 9 0, zi x0] σ Q') (hv : dO Q') : SpH l w mL_does 10 1 [zf 9 0, zi 7, zi x0, zi x1, zi x2] σ (dQ Q') := by
  obtain ⟨Q, hQ⟩ : ∃ Q : zQ, Q = (dQ Q') := ⟨_, rfl⟩
  rw [← hQ]
  refine zx_enterH hfl (by decide) 1 rfl ?_
  show zX l w mL_does (zMQ w 10 1 Q) 0 [zf 9 0, zi 7, zi x0, zi x1, zi x2, zu] [] 0 σ
  refine zx_iloadN dL_does_0 rfl rfl ?_
  refine zx_tableIn (off := 116) (tgt := 117) (by unfold zr; omega) dL_does_1 (by omega) (by omega) rfl (by decide) ?_
  refine zx_aloadN dL_does_117 rfl rfl ?_
  refine zx_iloadN dL_does_118 rfl rfl ?_
  refine zy_cvq [zi x0] hsp dL_does_119 (by decide) rfl cw_RL_76 okX9_takeBack rfl (Nat.le_of_ble_eq_true rfl) ⟨hh, by show 8 + (2 + 11) + 34 * h' ≤ 340; omega, by show 0 + (0 + n') ≤ 1; omega, by show 0 + 6 * (0 + n') ≤ 6 * 1; omega⟩ (fun r τ hq => ?_) (fun E τ hq => ?_)
  · rcases hv _ _ hq with ⟨v, e⟩ | ⟨E, -, e⟩
    · obtain rfl := Sum.inl.inj e
      rw [show ∀ (x : zV) (s : List zV), (some x).toList ++ s = x :: s from fun _ _ => rfl]
      refine zx_iret rfl rfl dL_does_122 ?_
      rw [hQ]
      exact Or.inl ⟨v, hq, rfl⟩
    · cases e
  · rcases hv _ _ hq with ⟨v, e⟩ | ⟨E, hE, e⟩
    · cases e
    · obtain rfl := Sum.inr.inj e
      simp only [zexs, List.mem_cons, List.not_mem_nil, or_false] at hE
      rcases hE with rfl | rfl | rfl
      · refine zxt_catch (name := "java/lang/IllegalStateException") (pre := [(0, 68, 149, 92), (69, 77, 149, 92), (78, 86, 149, 92), (87, 95, 149, 92), (96, 104, 149, 92), (105, 110, 149, 92), (111, 116, 149, 92), (117, 122, 149, 92), (123, 127, 149, 92), (128, 134, 149, 92), (135, 143, 149, 92), (144, 148, 149, 92), (0, 68, 154, 20), (69, 77, 154, 20), (78, 86, 154, 20), (87, 95, 154, 20), (96, 104, 154, 20), (105, 110, 154, 20), (111, 116, 154, 20), (117, 122, 154, 20), (123, 127, 154, 20), (128, 134, 154, 20), (135, 143, 154, 20), (144, 148, 154, 20), (0, 68, 159, 94), (69, 77, 159, 94), (78, 86, 159, 94), (87, 95, 159, 94), (96, 104, 159, 94), (105, 110, 159, 94), (111, 116, 159, 94)]) (x := (117, 122, 159, 94)) (suf := [(123, 127, 159, 94), (128, 134, 159, 94), (135, 143, 159, 94), (144, 148, 159, 94)]) rfl (fun z hz => by
          simp only [List.mem_cons, List.not_mem_nil, or_false] at hz
          rcases hz with rfl | rfl | rfl | rfl | rfl | rfl | rfl | rfl | rfl | rfl | rfl | rfl | rfl | rfl | rfl | rfl | rfl | rfl | rfl | rfl | rfl | rfl | rfl | rfl | rfl | rfl | rfl | rfl | rfl | rfl | rfl
          · exact Or.inl (by decide)
          · exact Or.inl (by decide)
          · exact Or.inl (by decide)
          · exact Or.inl (by decide)
          · exact Or.inl (by decide)
          · exact Or.inl (by decide)
          · exact Or.inl (by decide)
          · exact Or.inr ⟨by decide, "java/lang/IndexOutOfBoundsException", (by decide), clk_92, by decide⟩
          · exact Or.inl (by decide)
          · exact Or.inl (by decide)
          · exact Or.inl (by decide)
          · exact Or.inl (by decide)
          · exact Or.inl (by decide)
          · exact Or.inl (by decide)
          · exact Or.inl (by decide)
          · exact Or.inl (by decide)
          · exact Or.inl (by decide)
          · exact Or.inl (by decide)
          · exact Or.inl (by decide)
          · exact Or.inr ⟨by decide, "java/lang/IllegalArgumentException", (by decide), clk_20, by decide⟩
          · exact Or.inl (by decide)
          · exact Or.inl (by decide)
          · exact Or.inl (by decide)
          · exact Or.inl (by decide)
          · exact Or.inl (by decide)
          · exact Or.inl (by decide)
          · exact Or.inl (by decide)
          · exact Or.inl (by decide)
          · exact Or.inl (by decide)
          · exact Or.inl (by decide)
          · exact Or.inl (by decide)) (by decide) ⟨by decide, by decide⟩ (by decide) clk_94 cst_94 (fun aq => ?_)
        refine zx_astoreW dL_does_159 (Nat.le_of_ble_eq_true rfl) (Nat.le_of_ble_eq_true rfl) rfl ?_
        refine zx_bipush dL_does_161 rfl ?_
        refine zx_iret rfl rfl dL_does_163 ?_
        rw [hQ]
        exact Or.inr ⟨_, by decide, hq, rfl⟩
      · refine zxt_catch (name := "java/lang/IllegalArgumentException") (pre := [(0, 68, 149, 92), (69, 77, 149, 92), (78, 86, 149, 92), (87, 95, 149, 92), (96, 104, 149, 92), (105, 110, 149, 92), (111, 116, 149, 92), (117, 122, 149, 92), (123, 127, 149, 92), (128, 134, 149, 92), (135, 143, 149, 92), (144, 148, 149, 92), (0, 68, 154, 20), (69, 77, 154, 20), (78, 86, 154, 20), (87, 95, 154, 20), (96, 104, 154, 20), (105, 110, 154, 20), (111, 116, 154, 20)]) (x := (117, 122, 154, 20)) (suf := [(123, 127, 154, 20), (128, 134, 154, 20), (135, 143, 154, 20), (144, 148, 154, 20), (0, 68, 159, 94), (69, 77, 159, 94), (78, 86, 159, 94), (87, 95, 159, 94), (96, 104, 159, 94), (105, 110, 159, 94), (111, 116, 159, 94), (117, 122, 159, 94), (123, 127, 159, 94), (128, 134, 159, 94), (135, 143, 159, 94), (144, 148, 159, 94)]) rfl (fun z hz => by
          simp only [List.mem_cons, List.not_mem_nil, or_false] at hz
          rcases hz with rfl | rfl | rfl | rfl | rfl | rfl | rfl | rfl | rfl | rfl | rfl | rfl | rfl | rfl | rfl | rfl | rfl | rfl | rfl
          · exact Or.inl (by decide)
          · exact Or.inl (by decide)
          · exact Or.inl (by decide)
          · exact Or.inl (by decide)
          · exact Or.inl (by decide)
          · exact Or.inl (by decide)
          · exact Or.inl (by decide)
          · exact Or.inr ⟨by decide, "java/lang/IndexOutOfBoundsException", (by decide), clk_92, by decide⟩
          · exact Or.inl (by decide)
          · exact Or.inl (by decide)
          · exact Or.inl (by decide)
          · exact Or.inl (by decide)
          · exact Or.inl (by decide)
          · exact Or.inl (by decide)
          · exact Or.inl (by decide)
          · exact Or.inl (by decide)
          · exact Or.inl (by decide)
          · exact Or.inl (by decide)
          · exact Or.inl (by decide)) (by decide) ⟨by decide, by decide⟩ (by decide) clk_20 cst_20 (fun aq => ?_)
        refine zx_astoreW dL_does_154 (Nat.le_of_ble_eq_true rfl) (Nat.le_of_ble_eq_true rfl) rfl ?_
        refine zx_bipush dL_does_156 rfl ?_
        refine zx_iret rfl rfl dL_does_158 ?_
        rw [hQ]
        exact Or.inr ⟨_, by decide, hq, rfl⟩
      · refine zxt_catch (name := "java/lang/IndexOutOfBoundsException") (pre := [(0, 68, 149, 92), (69, 77, 149, 92), (78, 86, 149, 92), (87, 95, 149, 92), (96, 104, 149, 92), (105, 110, 149, 92), (111, 116, 149, 92)]) (x := (117, 122, 149, 92)) (suf := [(123, 127, 149, 92), (128, 134, 149, 92), (135, 143, 149, 92), (144, 148, 149, 92), (0, 68, 154, 20), (69, 77, 154, 20), (78, 86, 154, 20), (87, 95, 154, 20), (96, 104, 154, 20), (105, 110, 154, 20), (111, 116, 154, 20), (117, 122, 154, 20), (123, 127, 154, 20), (128, 134, 154, 20), (135, 143, 154, 20), (144, 148, 154, 20), (0, 68, 159, 94), (69, 77, 159, 94), (78, 86, 159, 94), (87, 95, 159, 94), (96, 104, 159, 94), (105, 110, 159, 94), (111, 116, 159, 94), (117, 122, 159, 94), (123, 127, 159, 94), (128, 134, 159, 94), (135, 143, 159, 94), (144, 148, 159, 94)]) rfl (fun z hz => by
          simp only [List.mem_cons, List.not_mem_nil, or_false] at hz
          rcases hz with rfl | rfl | rfl | rfl | rfl | rfl | rfl
          · exact Or.inl (by decide)
          · exact Or.inl (by decide)
          · exact Or.inl (by decide)
          · exact Or.inl (by decide)
          · exact Or.inl (by decide)
          · exact Or.inl (by decide)
          · exact Or.inl (by decide)) (by decide) ⟨by decide, by decide⟩ (by decide) clk_92 cst_92 (fun aq => ?_)
        refine zx_astoreW dL_does_149 (Nat.le_of_ble_eq_true rfl) (Nat.le_of_ble_eq_true rfl) rfl ?_
        refine zx_bipush dL_does_151 rfl ?_
        refine zx_iret rfl rfl dL_does_153 ?_
        rw [hQ]
        exact Or.inr ⟨_, by decide, hq, rfl⟩
set_option maxRecDepth 20000 in
set_option maxHeartbeats 2000000 in
theorem dL_8 {l : Launch} {w : zW} (hfl : l.stackTraces = false) {σ : zS} (hz : zOK σ) {h' n' : Nat} (hh : h' + 1 ≤ 10) (hn : n' ≤ 1) {Q' : zQ} {x0 x1 x2 : Int} (hsp : Sp l w mX9_setAsideUnexplained h' n' [zf 9 0] σ Q') (hv : dO Q') : SpH l w mL_does 10 1 [zf 9 0, zi 8, zi x0, zi x1, zi x2] σ (dQ Q') := by
  obtain ⟨Q, hQ⟩ : ∃ Q : zQ, Q = (dQ Q') := ⟨_, rfl⟩
  rw [← hQ]
  refine zx_enterH hfl (by decide) 1 rfl ?_
  show zX l w mL_does (zMQ w 10 1 Q) 0 [zf 9 0, zi 8, zi x0, zi x1, zi x2, zu] [] 0 σ
  refine zx_iloadN dL_does_0 rfl rfl ?_
  refine zx_tableIn (off := 122) (tgt := 123) (by unfold zr; omega) dL_does_1 (by omega) (by omega) rfl (by decide) ?_
  refine zx_aloadN dL_does_123 rfl rfl ?_
  refine zy_cvq [] hsp dL_does_124 (by decide) rfl cw_RL_79 okX9_setAsideUnexplained rfl (Nat.le_of_ble_eq_true rfl) ⟨hh, by show 8 + (3 + 11) + 34 * h' ≤ 340; omega, by show 0 + (0 + n') ≤ 1; omega, by show 0 + 6 * (0 + n') ≤ 6 * 1; omega⟩ (fun r τ hq => ?_) (fun E τ hq => ?_)
  · rcases hv _ _ hq with ⟨v, e⟩ | ⟨E, -, e⟩
    · obtain rfl := Sum.inl.inj e
      rw [show ∀ (x : zV) (s : List zV), (some x).toList ++ s = x :: s from fun _ _ => rfl]
      refine zx_iret rfl rfl dL_does_127 ?_
      rw [hQ]
      exact Or.inl ⟨v, hq, rfl⟩
    · cases e
  · rcases hv _ _ hq with ⟨v, e⟩ | ⟨E, hE, e⟩
    · cases e
    · obtain rfl := Sum.inr.inj e
      simp only [zexs, List.mem_cons, List.not_mem_nil, or_false] at hE
      rcases hE with rfl | rfl | rfl
      · refine zxt_catch (name := "java/lang/IllegalStateException") (pre := [(0, 68, 149, 92), (69, 77, 149, 92), (78, 86, 149, 92), (87, 95, 149, 92), (96, 104, 149, 92), (105, 110, 149, 92), (111, 116, 149, 92), (117, 122, 149, 92), (123, 127, 149, 92), (128, 134, 149, 92), (135, 143, 149, 92), (144, 148, 149, 92), (0, 68, 154, 20), (69, 77, 154, 20), (78, 86, 154, 20), (87, 95, 154, 20), (96, 104, 154, 20), (105, 110, 154, 20), (111, 116, 154, 20), (117, 122, 154, 20), (123, 127, 154, 20), (128, 134, 154, 20), (135, 143, 154, 20), (144, 148, 154, 20), (0, 68, 159, 94), (69, 77, 159, 94), (78, 86, 159, 94), (87, 95, 159, 94), (96, 104, 159, 94), (105, 110, 159, 94), (111, 116, 159, 94), (117, 122, 159, 94)]) (x := (123, 127, 159, 94)) (suf := [(128, 134, 159, 94), (135, 143, 159, 94), (144, 148, 159, 94)]) rfl (fun z hz => by
          simp only [List.mem_cons, List.not_mem_nil, or_false] at hz
          rcases hz with rfl | rfl | rfl | rfl | rfl | rfl | rfl | rfl | rfl | rfl | rfl | rfl | rfl | rfl | rfl | rfl | rfl | rfl | rfl | rfl | rfl | rfl | rfl | rfl | rfl | rfl | rfl | rfl | rfl | rfl | rfl | rfl
          · exact Or.inl (by decide)
          · exact Or.inl (by decide)
          · exact Or.inl (by decide)
          · exact Or.inl (by decide)
          · exact Or.inl (by decide)
          · exact Or.inl (by decide)
          · exact Or.inl (by decide)
          · exact Or.inl (by decide)
          · exact Or.inr ⟨by decide, "java/lang/IndexOutOfBoundsException", (by decide), clk_92, by decide⟩
          · exact Or.inl (by decide)
          · exact Or.inl (by decide)
          · exact Or.inl (by decide)
          · exact Or.inl (by decide)
          · exact Or.inl (by decide)
          · exact Or.inl (by decide)
          · exact Or.inl (by decide)
          · exact Or.inl (by decide)
          · exact Or.inl (by decide)
          · exact Or.inl (by decide)
          · exact Or.inl (by decide)
          · exact Or.inr ⟨by decide, "java/lang/IllegalArgumentException", (by decide), clk_20, by decide⟩
          · exact Or.inl (by decide)
          · exact Or.inl (by decide)
          · exact Or.inl (by decide)
          · exact Or.inl (by decide)
          · exact Or.inl (by decide)
          · exact Or.inl (by decide)
          · exact Or.inl (by decide)
          · exact Or.inl (by decide)
          · exact Or.inl (by decide)
          · exact Or.inl (by decide)
          · exact Or.inl (by decide)) (by decide) ⟨by decide, by decide⟩ (by decide) clk_94 cst_94 (fun aq => ?_)
        refine zx_astoreW dL_does_159 (Nat.le_of_ble_eq_true rfl) (Nat.le_of_ble_eq_true rfl) rfl ?_
        refine zx_bipush dL_does_161 rfl ?_
        refine zx_iret rfl rfl dL_does_163 ?_
        rw [hQ]
        exact Or.inr ⟨_, by decide, hq, rfl⟩
      · refine zxt_catch (name := "java/lang/IllegalArgumentException") (pre := [(0, 68, 149, 92), (69, 77, 149, 92), (78, 86, 149, 92), (87, 95, 149, 92), (96, 104, 149, 92), (105, 110, 149, 92), (111, 116, 149, 92), (117, 122, 149, 92), (123, 127, 149, 92), (128, 134, 149, 92), (135, 143, 149, 92), (144, 148, 149, 92), (0, 68, 154, 20), (69, 77, 154, 20), (78, 86, 154, 20), (87, 95, 154, 20), (96, 104, 154, 20), (105, 110, 154, 20), (111, 116, 154, 20), (117, 122, 154, 20)]) (x := (123, 127, 154, 20)) (suf := [(128, 134, 154, 20), (135, 143, 154, 20), (144, 148, 154, 20), (0, 68, 159, 94), (69, 77, 159, 94), (78, 86, 159, 94), (87, 95, 159, 94), (96, 104, 159, 94), (105, 110, 159, 94), (111, 116, 159, 94), (117, 122, 159, 94), (123, 127, 159, 94), (128, 134, 159, 94), (135, 143, 159, 94), (144, 148, 159, 94)]) rfl (fun z hz => by
          simp only [List.mem_cons, List.not_mem_nil, or_false] at hz
          rcases hz with rfl | rfl | rfl | rfl | rfl | rfl | rfl | rfl | rfl | rfl | rfl | rfl | rfl | rfl | rfl | rfl | rfl | rfl | rfl | rfl
          · exact Or.inl (by decide)
          · exact Or.inl (by decide)
          · exact Or.inl (by decide)
          · exact Or.inl (by decide)
          · exact Or.inl (by decide)
          · exact Or.inl (by decide)
          · exact Or.inl (by decide)
          · exact Or.inl (by decide)
          · exact Or.inr ⟨by decide, "java/lang/IndexOutOfBoundsException", (by decide), clk_92, by decide⟩
          · exact Or.inl (by decide)
          · exact Or.inl (by decide)
          · exact Or.inl (by decide)
          · exact Or.inl (by decide)
          · exact Or.inl (by decide)
          · exact Or.inl (by decide)
          · exact Or.inl (by decide)
          · exact Or.inl (by decide)
          · exact Or.inl (by decide)
          · exact Or.inl (by decide)
          · exact Or.inl (by decide)) (by decide) ⟨by decide, by decide⟩ (by decide) clk_20 cst_20 (fun aq => ?_)
        refine zx_astoreW dL_does_154 (Nat.le_of_ble_eq_true rfl) (Nat.le_of_ble_eq_true rfl) rfl ?_
        refine zx_bipush dL_does_156 rfl ?_
        refine zx_iret rfl rfl dL_does_158 ?_
        rw [hQ]
        exact Or.inr ⟨_, by decide, hq, rfl⟩
      · refine zxt_catch (name := "java/lang/IndexOutOfBoundsException") (pre := [(0, 68, 149, 92), (69, 77, 149, 92), (78, 86, 149, 92), (87, 95, 149, 92), (96, 104, 149, 92), (105, 110, 149, 92), (111, 116, 149, 92), (117, 122, 149, 92)]) (x := (123, 127, 149, 92)) (suf := [(128, 134, 149, 92), (135, 143, 149, 92), (144, 148, 149, 92), (0, 68, 154, 20), (69, 77, 154, 20), (78, 86, 154, 20), (87, 95, 154, 20), (96, 104, 154, 20), (105, 110, 154, 20), (111, 116, 154, 20), (117, 122, 154, 20), (123, 127, 154, 20), (128, 134, 154, 20), (135, 143, 154, 20), (144, 148, 154, 20), (0, 68, 159, 94), (69, 77, 159, 94), (78, 86, 159, 94), (87, 95, 159, 94), (96, 104, 159, 94), (105, 110, 159, 94), (111, 116, 159, 94), (117, 122, 159, 94), (123, 127, 159, 94), (128, 134, 159, 94), (135, 143, 159, 94), (144, 148, 159, 94)]) rfl (fun z hz => by
          simp only [List.mem_cons, List.not_mem_nil, or_false] at hz
          rcases hz with rfl | rfl | rfl | rfl | rfl | rfl | rfl | rfl
          · exact Or.inl (by decide)
          · exact Or.inl (by decide)
          · exact Or.inl (by decide)
          · exact Or.inl (by decide)
          · exact Or.inl (by decide)
          · exact Or.inl (by decide)
          · exact Or.inl (by decide)
          · exact Or.inl (by decide)) (by decide) ⟨by decide, by decide⟩ (by decide) clk_92 cst_92 (fun aq => ?_)
        refine zx_astoreW dL_does_149 (Nat.le_of_ble_eq_true rfl) (Nat.le_of_ble_eq_true rfl) rfl ?_
        refine zx_bipush dL_does_151 rfl ?_
        refine zx_iret rfl rfl dL_does_153 ?_
        rw [hQ]
        exact Or.inr ⟨_, by decide, hq, rfl⟩
set_option maxRecDepth 20000 in
set_option maxHeartbeats 2000000 in
theorem dL_9 {l : Launch} {w : zW} (hfl : l.stackTraces = false) {σ : zS} (hz : zOK σ) {h' n' : Nat} (hh : h' + 1 ≤ 10) (hn : n' ≤ 1) {Q' : zQ} {x0 x1 x2 : Int} (hsp : Sp l w mX9_setWeight h' n' [zf 9 0, zi x0, zi x1] σ Q') (hv : dO Q') : SpH l w mL_does 10 1 [zf 9 0, zi 9, zi x0, zi x1, zi x2] σ (dQ Q') := by
  obtain ⟨Q, hQ⟩ : ∃ Q : zQ, Q = (dQ Q') := ⟨_, rfl⟩
  rw [← hQ]
  refine zx_enterH hfl (by decide) 1 rfl ?_
  show zX l w mL_does (zMQ w 10 1 Q) 0 [zf 9 0, zi 9, zi x0, zi x1, zi x2, zu] [] 0 σ
  refine zx_iloadN dL_does_0 rfl rfl ?_
  refine zx_tableIn (off := 127) (tgt := 128) (by unfold zr; omega) dL_does_1 (by omega) (by omega) rfl (by decide) ?_
  refine zx_aloadN dL_does_128 rfl rfl ?_
  refine zx_iloadN dL_does_129 rfl rfl ?_
  refine zx_iloadN dL_does_130 rfl rfl ?_
  refine zy_cvq [zi x0, zi x1] hsp dL_does_131 (by decide) rfl cw_RL_82 okX9_setWeight rfl (Nat.le_of_ble_eq_true rfl) ⟨hh, by show 8 + (4 + 11) + 34 * h' ≤ 340; omega, by show 0 + (0 + n') ≤ 1; omega, by show 0 + 6 * (0 + n') ≤ 6 * 1; omega⟩ (fun r τ hq => ?_) (fun E τ hq => ?_)
  · rcases hv _ _ hq with ⟨v, e⟩ | ⟨E, -, e⟩
    · obtain rfl := Sum.inl.inj e
      rw [show ∀ (x : zV) (s : List zV), (some x).toList ++ s = x :: s from fun _ _ => rfl]
      refine zx_iret rfl rfl dL_does_134 ?_
      rw [hQ]
      exact Or.inl ⟨v, hq, rfl⟩
    · cases e
  · rcases hv _ _ hq with ⟨v, e⟩ | ⟨E, hE, e⟩
    · cases e
    · obtain rfl := Sum.inr.inj e
      simp only [zexs, List.mem_cons, List.not_mem_nil, or_false] at hE
      rcases hE with rfl | rfl | rfl
      · refine zxt_catch (name := "java/lang/IllegalStateException") (pre := [(0, 68, 149, 92), (69, 77, 149, 92), (78, 86, 149, 92), (87, 95, 149, 92), (96, 104, 149, 92), (105, 110, 149, 92), (111, 116, 149, 92), (117, 122, 149, 92), (123, 127, 149, 92), (128, 134, 149, 92), (135, 143, 149, 92), (144, 148, 149, 92), (0, 68, 154, 20), (69, 77, 154, 20), (78, 86, 154, 20), (87, 95, 154, 20), (96, 104, 154, 20), (105, 110, 154, 20), (111, 116, 154, 20), (117, 122, 154, 20), (123, 127, 154, 20), (128, 134, 154, 20), (135, 143, 154, 20), (144, 148, 154, 20), (0, 68, 159, 94), (69, 77, 159, 94), (78, 86, 159, 94), (87, 95, 159, 94), (96, 104, 159, 94), (105, 110, 159, 94), (111, 116, 159, 94), (117, 122, 159, 94), (123, 127, 159, 94)]) (x := (128, 134, 159, 94)) (suf := [(135, 143, 159, 94), (144, 148, 159, 94)]) rfl (fun z hz => by
          simp only [List.mem_cons, List.not_mem_nil, or_false] at hz
          rcases hz with rfl | rfl | rfl | rfl | rfl | rfl | rfl | rfl | rfl | rfl | rfl | rfl | rfl | rfl | rfl | rfl | rfl | rfl | rfl | rfl | rfl | rfl | rfl | rfl | rfl | rfl | rfl | rfl | rfl | rfl | rfl | rfl | rfl
          · exact Or.inl (by decide)
          · exact Or.inl (by decide)
          · exact Or.inl (by decide)
          · exact Or.inl (by decide)
          · exact Or.inl (by decide)
          · exact Or.inl (by decide)
          · exact Or.inl (by decide)
          · exact Or.inl (by decide)
          · exact Or.inl (by decide)
          · exact Or.inr ⟨by decide, "java/lang/IndexOutOfBoundsException", (by decide), clk_92, by decide⟩
          · exact Or.inl (by decide)
          · exact Or.inl (by decide)
          · exact Or.inl (by decide)
          · exact Or.inl (by decide)
          · exact Or.inl (by decide)
          · exact Or.inl (by decide)
          · exact Or.inl (by decide)
          · exact Or.inl (by decide)
          · exact Or.inl (by decide)
          · exact Or.inl (by decide)
          · exact Or.inl (by decide)
          · exact Or.inr ⟨by decide, "java/lang/IllegalArgumentException", (by decide), clk_20, by decide⟩
          · exact Or.inl (by decide)
          · exact Or.inl (by decide)
          · exact Or.inl (by decide)
          · exact Or.inl (by decide)
          · exact Or.inl (by decide)
          · exact Or.inl (by decide)
          · exact Or.inl (by decide)
          · exact Or.inl (by decide)
          · exact Or.inl (by decide)
          · exact Or.inl (by decide)
          · exact Or.inl (by decide)) (by decide) ⟨by decide, by decide⟩ (by decide) clk_94 cst_94 (fun aq => ?_)
        refine zx_astoreW dL_does_159 (Nat.le_of_ble_eq_true rfl) (Nat.le_of_ble_eq_true rfl) rfl ?_
        refine zx_bipush dL_does_161 rfl ?_
        refine zx_iret rfl rfl dL_does_163 ?_
        rw [hQ]
        exact Or.inr ⟨_, by decide, hq, rfl⟩
      · refine zxt_catch (name := "java/lang/IllegalArgumentException") (pre := [(0, 68, 149, 92), (69, 77, 149, 92), (78, 86, 149, 92), (87, 95, 149, 92), (96, 104, 149, 92), (105, 110, 149, 92), (111, 116, 149, 92), (117, 122, 149, 92), (123, 127, 149, 92), (128, 134, 149, 92), (135, 143, 149, 92), (144, 148, 149, 92), (0, 68, 154, 20), (69, 77, 154, 20), (78, 86, 154, 20), (87, 95, 154, 20), (96, 104, 154, 20), (105, 110, 154, 20), (111, 116, 154, 20), (117, 122, 154, 20), (123, 127, 154, 20)]) (x := (128, 134, 154, 20)) (suf := [(135, 143, 154, 20), (144, 148, 154, 20), (0, 68, 159, 94), (69, 77, 159, 94), (78, 86, 159, 94), (87, 95, 159, 94), (96, 104, 159, 94), (105, 110, 159, 94), (111, 116, 159, 94), (117, 122, 159, 94), (123, 127, 159, 94), (128, 134, 159, 94), (135, 143, 159, 94), (144, 148, 159, 94)]) rfl (fun z hz => by
          simp only [List.mem_cons, List.not_mem_nil, or_false] at hz
          rcases hz with rfl | rfl | rfl | rfl | rfl | rfl | rfl | rfl | rfl | rfl | rfl | rfl | rfl | rfl | rfl | rfl | rfl | rfl | rfl | rfl | rfl
          · exact Or.inl (by decide)
          · exact Or.inl (by decide)
          · exact Or.inl (by decide)
          · exact Or.inl (by decide)
          · exact Or.inl (by decide)
          · exact Or.inl (by decide)
          · exact Or.inl (by decide)
          · exact Or.inl (by decide)
          · exact Or.inl (by decide)
          · exact Or.inr ⟨by decide, "java/lang/IndexOutOfBoundsException", (by decide), clk_92, by decide⟩
          · exact Or.inl (by decide)
          · exact Or.inl (by decide)
          · exact Or.inl (by decide)
          · exact Or.inl (by decide)
          · exact Or.inl (by decide)
          · exact Or.inl (by decide)
          · exact Or.inl (by decide)
          · exact Or.inl (by decide)
          · exact Or.inl (by decide)
          · exact Or.inl (by decide)
          · exact Or.inl (by decide)) (by decide) ⟨by decide, by decide⟩ (by decide) clk_20 cst_20 (fun aq => ?_)
        refine zx_astoreW dL_does_154 (Nat.le_of_ble_eq_true rfl) (Nat.le_of_ble_eq_true rfl) rfl ?_
        refine zx_bipush dL_does_156 rfl ?_
        refine zx_iret rfl rfl dL_does_158 ?_
        rw [hQ]
        exact Or.inr ⟨_, by decide, hq, rfl⟩
      · refine zxt_catch (name := "java/lang/IndexOutOfBoundsException") (pre := [(0, 68, 149, 92), (69, 77, 149, 92), (78, 86, 149, 92), (87, 95, 149, 92), (96, 104, 149, 92), (105, 110, 149, 92), (111, 116, 149, 92), (117, 122, 149, 92), (123, 127, 149, 92)]) (x := (128, 134, 149, 92)) (suf := [(135, 143, 149, 92), (144, 148, 149, 92), (0, 68, 154, 20), (69, 77, 154, 20), (78, 86, 154, 20), (87, 95, 154, 20), (96, 104, 154, 20), (105, 110, 154, 20), (111, 116, 154, 20), (117, 122, 154, 20), (123, 127, 154, 20), (128, 134, 154, 20), (135, 143, 154, 20), (144, 148, 154, 20), (0, 68, 159, 94), (69, 77, 159, 94), (78, 86, 159, 94), (87, 95, 159, 94), (96, 104, 159, 94), (105, 110, 159, 94), (111, 116, 159, 94), (117, 122, 159, 94), (123, 127, 159, 94), (128, 134, 159, 94), (135, 143, 159, 94), (144, 148, 159, 94)]) rfl (fun z hz => by
          simp only [List.mem_cons, List.not_mem_nil, or_false] at hz
          rcases hz with rfl | rfl | rfl | rfl | rfl | rfl | rfl | rfl | rfl
          · exact Or.inl (by decide)
          · exact Or.inl (by decide)
          · exact Or.inl (by decide)
          · exact Or.inl (by decide)
          · exact Or.inl (by decide)
          · exact Or.inl (by decide)
          · exact Or.inl (by decide)
          · exact Or.inl (by decide)
          · exact Or.inl (by decide)) (by decide) ⟨by decide, by decide⟩ (by decide) clk_92 cst_92 (fun aq => ?_)
        refine zx_astoreW dL_does_149 (Nat.le_of_ble_eq_true rfl) (Nat.le_of_ble_eq_true rfl) rfl ?_
        refine zx_bipush dL_does_151 rfl ?_
        refine zx_iret rfl rfl dL_does_153 ?_
        rw [hQ]
        exact Or.inr ⟨_, by decide, hq, rfl⟩
set_option maxRecDepth 20000 in
set_option maxHeartbeats 2000000 in
theorem dL_10 {l : Launch} {w : zW} (hfl : l.stackTraces = false) {σ : zS} (hz : zOK σ) {h' n' : Nat} (hh : h' + 1 ≤ 10) (hn : n' ≤ 1) {Q' : zQ} {x0 x1 x2 : Int} (hsp : Sp l w mX9_transferDevice h' n' [zf 9 0, zi x0, zi x1, zi x2] σ Q') (hv : dO Q') : SpH l w mL_does 10 1 [zf 9 0, zi 10, zi x0, zi x1, zi x2] σ (dQ Q') := by
  obtain ⟨Q, hQ⟩ : ∃ Q : zQ, Q = (dQ Q') := ⟨_, rfl⟩
  rw [← hQ]
  refine zx_enterH hfl (by decide) 1 rfl ?_
  show zX l w mL_does (zMQ w 10 1 Q) 0 [zf 9 0, zi 10, zi x0, zi x1, zi x2, zu] [] 0 σ
  refine zx_iloadN dL_does_0 rfl rfl ?_
  refine zx_tableIn (off := 134) (tgt := 135) (by unfold zr; omega) dL_does_1 (by omega) (by omega) rfl (by decide) ?_
  refine zx_aloadN dL_does_135 rfl rfl ?_
  refine zx_iloadN dL_does_136 rfl rfl ?_
  refine zx_iloadN dL_does_137 rfl rfl ?_
  refine zx_iload dL_does_138 rfl ?_
  refine zy_cvq [zi x0, zi x1, zi x2] hsp dL_does_140 (by decide) rfl cw_RL_86 okX9_transferDevice rfl (Nat.le_of_ble_eq_true rfl) ⟨hh, by show 8 + (4 + 11) + 34 * h' ≤ 340; omega, by show 0 + (0 + n') ≤ 1; omega, by show 0 + 6 * (0 + n') ≤ 6 * 1; omega⟩ (fun r τ hq => ?_) (fun E τ hq => ?_)
  · rcases hv _ _ hq with ⟨v, e⟩ | ⟨E, -, e⟩
    · obtain rfl := Sum.inl.inj e
      rw [show ∀ (x : zV) (s : List zV), (some x).toList ++ s = x :: s from fun _ _ => rfl]
      refine zx_iret rfl rfl dL_does_143 ?_
      rw [hQ]
      exact Or.inl ⟨v, hq, rfl⟩
    · cases e
  · rcases hv _ _ hq with ⟨v, e⟩ | ⟨E, hE, e⟩
    · cases e
    · obtain rfl := Sum.inr.inj e
      simp only [zexs, List.mem_cons, List.not_mem_nil, or_false] at hE
      rcases hE with rfl | rfl | rfl
      · refine zxt_catch (name := "java/lang/IllegalStateException") (pre := [(0, 68, 149, 92), (69, 77, 149, 92), (78, 86, 149, 92), (87, 95, 149, 92), (96, 104, 149, 92), (105, 110, 149, 92), (111, 116, 149, 92), (117, 122, 149, 92), (123, 127, 149, 92), (128, 134, 149, 92), (135, 143, 149, 92), (144, 148, 149, 92), (0, 68, 154, 20), (69, 77, 154, 20), (78, 86, 154, 20), (87, 95, 154, 20), (96, 104, 154, 20), (105, 110, 154, 20), (111, 116, 154, 20), (117, 122, 154, 20), (123, 127, 154, 20), (128, 134, 154, 20), (135, 143, 154, 20), (144, 148, 154, 20), (0, 68, 159, 94), (69, 77, 159, 94), (78, 86, 159, 94), (87, 95, 159, 94), (96, 104, 159, 94), (105, 110, 159, 94), (111, 116, 159, 94), (117, 122, 159, 94), (123, 127, 159, 94), (128, 134, 159, 94)]) (x := (135, 143, 159, 94)) (suf := [(144, 148, 159, 94)]) rfl (fun z hz => by
          simp only [List.mem_cons, List.not_mem_nil, or_false] at hz
          rcases hz with rfl | rfl | rfl | rfl | rfl | rfl | rfl | rfl | rfl | rfl | rfl | rfl | rfl | rfl | rfl | rfl | rfl | rfl | rfl | rfl | rfl | rfl | rfl | rfl | rfl | rfl | rfl | rfl | rfl | rfl | rfl | rfl | rfl | rfl
          · exact Or.inl (by decide)
          · exact Or.inl (by decide)
          · exact Or.inl (by decide)
          · exact Or.inl (by decide)
          · exact Or.inl (by decide)
          · exact Or.inl (by decide)
          · exact Or.inl (by decide)
          · exact Or.inl (by decide)
          · exact Or.inl (by decide)
          · exact Or.inl (by decide)
          · exact Or.inr ⟨by decide, "java/lang/IndexOutOfBoundsException", (by decide), clk_92, by decide⟩
          · exact Or.inl (by decide)
          · exact Or.inl (by decide)
          · exact Or.inl (by decide)
          · exact Or.inl (by decide)
          · exact Or.inl (by decide)
          · exact Or.inl (by decide)
          · exact Or.inl (by decide)
          · exact Or.inl (by decide)
          · exact Or.inl (by decide)
          · exact Or.inl (by decide)
          · exact Or.inl (by decide)
          · exact Or.inr ⟨by decide, "java/lang/IllegalArgumentException", (by decide), clk_20, by decide⟩
          · exact Or.inl (by decide)
          · exact Or.inl (by decide)
          · exact Or.inl (by decide)
          · exact Or.inl (by decide)
          · exact Or.inl (by decide)
          · exact Or.inl (by decide)
          · exact Or.inl (by decide)
          · exact Or.inl (by decide)
          · exact Or.inl (by decide)
          · exact Or.inl (by decide)
          · exact Or.inl (by decide)) (by decide) ⟨by decide, by decide⟩ (by decide) clk_94 cst_94 (fun aq => ?_)
        refine zx_astoreW dL_does_159 (Nat.le_of_ble_eq_true rfl) (Nat.le_of_ble_eq_true rfl) rfl ?_
        refine zx_bipush dL_does_161 rfl ?_
        refine zx_iret rfl rfl dL_does_163 ?_
        rw [hQ]
        exact Or.inr ⟨_, by decide, hq, rfl⟩
      · refine zxt_catch (name := "java/lang/IllegalArgumentException") (pre := [(0, 68, 149, 92), (69, 77, 149, 92), (78, 86, 149, 92), (87, 95, 149, 92), (96, 104, 149, 92), (105, 110, 149, 92), (111, 116, 149, 92), (117, 122, 149, 92), (123, 127, 149, 92), (128, 134, 149, 92), (135, 143, 149, 92), (144, 148, 149, 92), (0, 68, 154, 20), (69, 77, 154, 20), (78, 86, 154, 20), (87, 95, 154, 20), (96, 104, 154, 20), (105, 110, 154, 20), (111, 116, 154, 20), (117, 122, 154, 20), (123, 127, 154, 20), (128, 134, 154, 20)]) (x := (135, 143, 154, 20)) (suf := [(144, 148, 154, 20), (0, 68, 159, 94), (69, 77, 159, 94), (78, 86, 159, 94), (87, 95, 159, 94), (96, 104, 159, 94), (105, 110, 159, 94), (111, 116, 159, 94), (117, 122, 159, 94), (123, 127, 159, 94), (128, 134, 159, 94), (135, 143, 159, 94), (144, 148, 159, 94)]) rfl (fun z hz => by
          simp only [List.mem_cons, List.not_mem_nil, or_false] at hz
          rcases hz with rfl | rfl | rfl | rfl | rfl | rfl | rfl | rfl | rfl | rfl | rfl | rfl | rfl | rfl | rfl | rfl | rfl | rfl | rfl | rfl | rfl | rfl
          · exact Or.inl (by decide)
          · exact Or.inl (by decide)
          · exact Or.inl (by decide)
          · exact Or.inl (by decide)
          · exact Or.inl (by decide)
          · exact Or.inl (by decide)
          · exact Or.inl (by decide)
          · exact Or.inl (by decide)
          · exact Or.inl (by decide)
          · exact Or.inl (by decide)
          · exact Or.inr ⟨by decide, "java/lang/IndexOutOfBoundsException", (by decide), clk_92, by decide⟩
          · exact Or.inl (by decide)
          · exact Or.inl (by decide)
          · exact Or.inl (by decide)
          · exact Or.inl (by decide)
          · exact Or.inl (by decide)
          · exact Or.inl (by decide)
          · exact Or.inl (by decide)
          · exact Or.inl (by decide)
          · exact Or.inl (by decide)
          · exact Or.inl (by decide)
          · exact Or.inl (by decide)) (by decide) ⟨by decide, by decide⟩ (by decide) clk_20 cst_20 (fun aq => ?_)
        refine zx_astoreW dL_does_154 (Nat.le_of_ble_eq_true rfl) (Nat.le_of_ble_eq_true rfl) rfl ?_
        refine zx_bipush dL_does_156 rfl ?_
        refine zx_iret rfl rfl dL_does_158 ?_
        rw [hQ]
        exact Or.inr ⟨_, by decide, hq, rfl⟩
      · refine zxt_catch (name := "java/lang/IndexOutOfBoundsException") (pre := [(0, 68, 149, 92), (69, 77, 149, 92), (78, 86, 149, 92), (87, 95, 149, 92), (96, 104, 149, 92), (105, 110, 149, 92), (111, 116, 149, 92), (117, 122, 149, 92), (123, 127, 149, 92), (128, 134, 149, 92)]) (x := (135, 143, 149, 92)) (suf := [(144, 148, 149, 92), (0, 68, 154, 20), (69, 77, 154, 20), (78, 86, 154, 20), (87, 95, 154, 20), (96, 104, 154, 20), (105, 110, 154, 20), (111, 116, 154, 20), (117, 122, 154, 20), (123, 127, 154, 20), (128, 134, 154, 20), (135, 143, 154, 20), (144, 148, 154, 20), (0, 68, 159, 94), (69, 77, 159, 94), (78, 86, 159, 94), (87, 95, 159, 94), (96, 104, 159, 94), (105, 110, 159, 94), (111, 116, 159, 94), (117, 122, 159, 94), (123, 127, 159, 94), (128, 134, 159, 94), (135, 143, 159, 94), (144, 148, 159, 94)]) rfl (fun z hz => by
          simp only [List.mem_cons, List.not_mem_nil, or_false] at hz
          rcases hz with rfl | rfl | rfl | rfl | rfl | rfl | rfl | rfl | rfl | rfl
          · exact Or.inl (by decide)
          · exact Or.inl (by decide)
          · exact Or.inl (by decide)
          · exact Or.inl (by decide)
          · exact Or.inl (by decide)
          · exact Or.inl (by decide)
          · exact Or.inl (by decide)
          · exact Or.inl (by decide)
          · exact Or.inl (by decide)
          · exact Or.inl (by decide)) (by decide) ⟨by decide, by decide⟩ (by decide) clk_92 cst_92 (fun aq => ?_)
        refine zx_astoreW dL_does_149 (Nat.le_of_ble_eq_true rfl) (Nat.le_of_ble_eq_true rfl) rfl ?_
        refine zx_bipush dL_does_151 rfl ?_
        refine zx_iret rfl rfl dL_does_153 ?_
        rw [hQ]
        exact Or.inr ⟨_, by decide, hq, rfl⟩
set_option maxRecDepth 20000 in
set_option maxHeartbeats 2000000 in
theorem dL_11 {l : Launch} {w : zW} (hfl : l.stackTraces = false) {σ : zS} (hz : zOK σ) {h' n' : Nat} (hh : h' + 1 ≤ 10) (hn : n' ≤ 1) {Q' : zQ} {x0 x1 x2 : Int} (hsp : Sp l w mX9_undo h' n' [zf 9 0] σ Q') (hv : dO Q') : SpH l w mL_does 10 1 [zf 9 0, zi 11, zi x0, zi x1, zi x2] σ (dQ Q') := by
  obtain ⟨Q, hQ⟩ : ∃ Q : zQ, Q = (dQ Q') := ⟨_, rfl⟩
  rw [← hQ]
  refine zx_enterH hfl (by decide) 1 rfl ?_
  show zX l w mL_does (zMQ w 10 1 Q) 0 [zf 9 0, zi 11, zi x0, zi x1, zi x2, zu] [] 0 σ
  refine zx_iloadN dL_does_0 rfl rfl ?_
  refine zx_tableOut (tgt := 144) (by unfold zr; omega) dL_does_1 (by omega) (by decide) ?_
  refine zx_aloadN dL_does_144 rfl rfl ?_
  refine zy_cvq [] hsp dL_does_145 (by decide) rfl cw_RL_89 okX9_undo rfl (Nat.le_of_ble_eq_true rfl) ⟨hh, by show 8 + (1 + 11) + 34 * h' ≤ 340; omega, by show 0 + (0 + n') ≤ 1; omega, by show 0 + 6 * (0 + n') ≤ 6 * 1; omega⟩ (fun r τ hq => ?_) (fun E τ hq => ?_)
  · rcases hv _ _ hq with ⟨v, e⟩ | ⟨E, -, e⟩
    · obtain rfl := Sum.inl.inj e
      rw [show ∀ (x : zV) (s : List zV), (some x).toList ++ s = x :: s from fun _ _ => rfl]
      refine zx_iret rfl rfl dL_does_148 ?_
      rw [hQ]
      exact Or.inl ⟨v, hq, rfl⟩
    · cases e
  · rcases hv _ _ hq with ⟨v, e⟩ | ⟨E, hE, e⟩
    · cases e
    · obtain rfl := Sum.inr.inj e
      simp only [zexs, List.mem_cons, List.not_mem_nil, or_false] at hE
      rcases hE with rfl | rfl | rfl
      · refine zxt_catch (name := "java/lang/IllegalStateException") (pre := [(0, 68, 149, 92), (69, 77, 149, 92), (78, 86, 149, 92), (87, 95, 149, 92), (96, 104, 149, 92), (105, 110, 149, 92), (111, 116, 149, 92), (117, 122, 149, 92), (123, 127, 149, 92), (128, 134, 149, 92), (135, 143, 149, 92), (144, 148, 149, 92), (0, 68, 154, 20), (69, 77, 154, 20), (78, 86, 154, 20), (87, 95, 154, 20), (96, 104, 154, 20), (105, 110, 154, 20), (111, 116, 154, 20), (117, 122, 154, 20), (123, 127, 154, 20), (128, 134, 154, 20), (135, 143, 154, 20), (144, 148, 154, 20), (0, 68, 159, 94), (69, 77, 159, 94), (78, 86, 159, 94), (87, 95, 159, 94), (96, 104, 159, 94), (105, 110, 159, 94), (111, 116, 159, 94), (117, 122, 159, 94), (123, 127, 159, 94), (128, 134, 159, 94), (135, 143, 159, 94)]) (x := (144, 148, 159, 94)) (suf := []) rfl (fun z hz => by
          simp only [List.mem_cons, List.not_mem_nil, or_false] at hz
          rcases hz with rfl | rfl | rfl | rfl | rfl | rfl | rfl | rfl | rfl | rfl | rfl | rfl | rfl | rfl | rfl | rfl | rfl | rfl | rfl | rfl | rfl | rfl | rfl | rfl | rfl | rfl | rfl | rfl | rfl | rfl | rfl | rfl | rfl | rfl | rfl
          · exact Or.inl (by decide)
          · exact Or.inl (by decide)
          · exact Or.inl (by decide)
          · exact Or.inl (by decide)
          · exact Or.inl (by decide)
          · exact Or.inl (by decide)
          · exact Or.inl (by decide)
          · exact Or.inl (by decide)
          · exact Or.inl (by decide)
          · exact Or.inl (by decide)
          · exact Or.inl (by decide)
          · exact Or.inr ⟨by decide, "java/lang/IndexOutOfBoundsException", (by decide), clk_92, by decide⟩
          · exact Or.inl (by decide)
          · exact Or.inl (by decide)
          · exact Or.inl (by decide)
          · exact Or.inl (by decide)
          · exact Or.inl (by decide)
          · exact Or.inl (by decide)
          · exact Or.inl (by decide)
          · exact Or.inl (by decide)
          · exact Or.inl (by decide)
          · exact Or.inl (by decide)
          · exact Or.inl (by decide)
          · exact Or.inr ⟨by decide, "java/lang/IllegalArgumentException", (by decide), clk_20, by decide⟩
          · exact Or.inl (by decide)
          · exact Or.inl (by decide)
          · exact Or.inl (by decide)
          · exact Or.inl (by decide)
          · exact Or.inl (by decide)
          · exact Or.inl (by decide)
          · exact Or.inl (by decide)
          · exact Or.inl (by decide)
          · exact Or.inl (by decide)
          · exact Or.inl (by decide)
          · exact Or.inl (by decide)) (by decide) ⟨by decide, by decide⟩ (by decide) clk_94 cst_94 (fun aq => ?_)
        refine zx_astoreW dL_does_159 (Nat.le_of_ble_eq_true rfl) (Nat.le_of_ble_eq_true rfl) rfl ?_
        refine zx_bipush dL_does_161 rfl ?_
        refine zx_iret rfl rfl dL_does_163 ?_
        rw [hQ]
        exact Or.inr ⟨_, by decide, hq, rfl⟩
      · refine zxt_catch (name := "java/lang/IllegalArgumentException") (pre := [(0, 68, 149, 92), (69, 77, 149, 92), (78, 86, 149, 92), (87, 95, 149, 92), (96, 104, 149, 92), (105, 110, 149, 92), (111, 116, 149, 92), (117, 122, 149, 92), (123, 127, 149, 92), (128, 134, 149, 92), (135, 143, 149, 92), (144, 148, 149, 92), (0, 68, 154, 20), (69, 77, 154, 20), (78, 86, 154, 20), (87, 95, 154, 20), (96, 104, 154, 20), (105, 110, 154, 20), (111, 116, 154, 20), (117, 122, 154, 20), (123, 127, 154, 20), (128, 134, 154, 20), (135, 143, 154, 20)]) (x := (144, 148, 154, 20)) (suf := [(0, 68, 159, 94), (69, 77, 159, 94), (78, 86, 159, 94), (87, 95, 159, 94), (96, 104, 159, 94), (105, 110, 159, 94), (111, 116, 159, 94), (117, 122, 159, 94), (123, 127, 159, 94), (128, 134, 159, 94), (135, 143, 159, 94), (144, 148, 159, 94)]) rfl (fun z hz => by
          simp only [List.mem_cons, List.not_mem_nil, or_false] at hz
          rcases hz with rfl | rfl | rfl | rfl | rfl | rfl | rfl | rfl | rfl | rfl | rfl | rfl | rfl | rfl | rfl | rfl | rfl | rfl | rfl | rfl | rfl | rfl | rfl
          · exact Or.inl (by decide)
          · exact Or.inl (by decide)
          · exact Or.inl (by decide)
          · exact Or.inl (by decide)
          · exact Or.inl (by decide)
          · exact Or.inl (by decide)
          · exact Or.inl (by decide)
          · exact Or.inl (by decide)
          · exact Or.inl (by decide)
          · exact Or.inl (by decide)
          · exact Or.inl (by decide)
          · exact Or.inr ⟨by decide, "java/lang/IndexOutOfBoundsException", (by decide), clk_92, by decide⟩
          · exact Or.inl (by decide)
          · exact Or.inl (by decide)
          · exact Or.inl (by decide)
          · exact Or.inl (by decide)
          · exact Or.inl (by decide)
          · exact Or.inl (by decide)
          · exact Or.inl (by decide)
          · exact Or.inl (by decide)
          · exact Or.inl (by decide)
          · exact Or.inl (by decide)
          · exact Or.inl (by decide)) (by decide) ⟨by decide, by decide⟩ (by decide) clk_20 cst_20 (fun aq => ?_)
        refine zx_astoreW dL_does_154 (Nat.le_of_ble_eq_true rfl) (Nat.le_of_ble_eq_true rfl) rfl ?_
        refine zx_bipush dL_does_156 rfl ?_
        refine zx_iret rfl rfl dL_does_158 ?_
        rw [hQ]
        exact Or.inr ⟨_, by decide, hq, rfl⟩
      · refine zxt_catch (name := "java/lang/IndexOutOfBoundsException") (pre := [(0, 68, 149, 92), (69, 77, 149, 92), (78, 86, 149, 92), (87, 95, 149, 92), (96, 104, 149, 92), (105, 110, 149, 92), (111, 116, 149, 92), (117, 122, 149, 92), (123, 127, 149, 92), (128, 134, 149, 92), (135, 143, 149, 92)]) (x := (144, 148, 149, 92)) (suf := [(0, 68, 154, 20), (69, 77, 154, 20), (78, 86, 154, 20), (87, 95, 154, 20), (96, 104, 154, 20), (105, 110, 154, 20), (111, 116, 154, 20), (117, 122, 154, 20), (123, 127, 154, 20), (128, 134, 154, 20), (135, 143, 154, 20), (144, 148, 154, 20), (0, 68, 159, 94), (69, 77, 159, 94), (78, 86, 159, 94), (87, 95, 159, 94), (96, 104, 159, 94), (105, 110, 159, 94), (111, 116, 159, 94), (117, 122, 159, 94), (123, 127, 159, 94), (128, 134, 159, 94), (135, 143, 159, 94), (144, 148, 159, 94)]) rfl (fun z hz => by
          simp only [List.mem_cons, List.not_mem_nil, or_false] at hz
          rcases hz with rfl | rfl | rfl | rfl | rfl | rfl | rfl | rfl | rfl | rfl | rfl
          · exact Or.inl (by decide)
          · exact Or.inl (by decide)
          · exact Or.inl (by decide)
          · exact Or.inl (by decide)
          · exact Or.inl (by decide)
          · exact Or.inl (by decide)
          · exact Or.inl (by decide)
          · exact Or.inl (by decide)
          · exact Or.inl (by decide)
          · exact Or.inl (by decide)
          · exact Or.inl (by decide)) (by decide) ⟨by decide, by decide⟩ (by decide) clk_92 cst_92 (fun aq => ?_)
        refine zx_astoreW dL_does_149 (Nat.le_of_ble_eq_true rfl) (Nat.le_of_ble_eq_true rfl) rfl ?_
        refine zx_bipush dL_does_151 rfl ?_
        refine zx_iret rfl rfl dL_does_153 ?_
        rw [hQ]
        exact Or.inr ⟨_, by decide, hq, rfl⟩

