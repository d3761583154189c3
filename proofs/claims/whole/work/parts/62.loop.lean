theorem dL_law_23 : decode cL_law 23 = .ok (.iload 4, 2) := by decide +kernel
theorem dL_law_25 : decode cL_law 25 = .ok (.aload_n 0, 1) := by decide +kernel
theorem dL_law_26 : decode cL_law 26 = .ok (.arraylength, 1) := by decide +kernel
theorem dL_law_27 : decode cL_law 27 = .ok (.bipush 6, 2) := by decide +kernel
theorem dL_law_29 : decode cL_law 29 = .ok (.isub, 1) := by decide +kernel
theorem dL_law_30 : decode cL_law 30 = .ok (.if_icmp .gt 3045, 3) := by decide +kernel
theorem dL_law_3069 : decode cL_law 3069 = .ok (.iinc 4 6, 3) := by decide +kernel
theorem dL_law_3072 : decode cL_law 3072 = .ok (.goto (-3049), 3) := by decide +kernel
theorem dL_law_33 : decode cL_law 33 = .ok (.aload_n 0, 1) := by decide +kernel
theorem dL_law_34 : decode cL_law 34 = .ok (.iload 4, 2) := by decide +kernel
theorem dL_law_36 : decode cL_law 36 = .ok (.iaload, 1) := by decide +kernel
theorem dL_law_37 : decode cL_law 37 = .ok (.bipush 63, 2) := by decide +kernel
theorem dL_law_39 : decode cL_law 39 = .ok (.iand, 1) := by decide +kernel
theorem dL_law_40 : decode cL_law 40 = .ok (.tableswitch 3029 0 63 #[272, 376, 432, 476, 520, 533, 546, 559, 572, 628, 703, 778, 853, 878, 891, 947, 960, 973, 1029, 1085, 1141, 1197, 1260, 1323, 1348, 1361, 1374, 1461, 1529, 1585, 1641, 1697, 1722, 1735, 1748, 1761, 1774, 1787, 1812, 1825, 1900, 1956, 1969, 2025, 2081, 2094, 2107, 2120, 2161, 2241, 2321, 2401, 2481, 2561, 2617, 2673, 2729, 2742, 2810, 2890, 2934, 2947, 2991, 3004], 272) := by decide +kernel

set_option maxRecDepth 20000 in
set_option maxHeartbeats 4000000 in
theorem law_loop {l : Launch} {w : zW} (hfl : l.stackTraces = false) {hh : List (Nat × Nat × Nat × Nat)} {c0 s0 : Nat} {Z : List Frame → Array Value → State → State → Prop} (hc0 : c0 ≤ 1000) (hs0 : s0 ≤ 100000) (hLn : zSL w ≤ 3072) (hend : ∀ (τ : zS) (i k : Nat), k ≤ 3072 → zX l w (mL_law hh) (room_1, Z, c0, s0) 3075 [zf 101 0, zf 9 0, zf 10 261, zf 35 272, zi ((i : Nat) : Int), zu, zu, zu, zu] [] k τ) : ∀ (N : Nat) (τ : zS) (i k : Nat), zSL w + 1 - i < N → zOK τ → Inv τ → k ≤ i → i ≤ zSL w → zX l w (mL_law hh) (room_1, Z, c0, s0) 23 [zf 101 0, zf 9 0, zf 10 261, zf 35 272, zi ((i : Nat) : Int), zu, zu, zu, zu] [] k τ := by
  intro N
  induction N with
  | zero => intro τ i k h; exact absurd h (Nat.not_lt_zero _)
  | succ N ih =>
    intro τ i k hN hz hI hk hi
    refine zx_iload dL_law_23 rfl ?_
    refine zx_aloadN dL_law_25 rfl rfl ?_
    refine zx_slen dL_law_26 ?_
    refine zx_bipush dL_law_27 rfl ?_
    refine zx_isub dL_law_29 ?_
    refine zx_icmp_gt (tgt := 3075) (by unfold zr; omega) (by unfold zr; omega) dL_law_30 (by decide) (fun h30 => ?_) (fun h30 => ?_)
    · exact hend τ i k (by omega)
    have hi6 : i + 6 ≤ zSL w := by omega
    have cont : ∀ (υ : zS) (k' : Nat), zOK υ → Inv υ → k' ≤ k + 1 → zX l w (mL_law hh) (room_1, Z, c0, s0) 3069 [zf 101 0, zf 9 0, zf 10 261, zf 35 272, zi ((i : Nat) : Int), zu, zu, zu, zu] [] k' υ := fun υ k' z1 z2 z3 => by
      refine zy_iinc (b := ((i + 6 : Nat) : Int)) [zf 101 0, zf 9 0, zf 10 261, zf 35 272, zi ((i + 6 : Nat) : Int), zu, zu, zu, zu] dL_law_3069 rfl (by omega) (Nat.le_of_ble_eq_true rfl) rfl rfl ?_
      refine zx_goto (tgt := 23) dL_law_3072 (by decide) ?_
      exact ih υ (i + 6) k' (by omega) z1 z2 (by omega) hi6
    refine zx_aloadN dL_law_33 rfl rfl ?_
    refine zx_iload dL_law_34 rfl ?_
    refine zx_sld (by omega) (by omega) (by omega) dL_law_36 ?_
    refine zx_bipush dL_law_37 rfl ?_
    refine zx_iand dL_law_39 ?_
    obtain ⟨j, hj, hj2⟩ : ∃ j : Nat, zand (zSx w ((i : Nat) : Int).toNat).toInt 63 = (j : Int) ∧ j < 64 := ⟨((zSx w ((i : Nat) : Int).toNat).toInt % 64).toNat, by rw [zand_63]; omega, by omega⟩
    rcases Nat.lt_or_ge j 32 with q32 | q32
    · skip
      rcases Nat.lt_or_ge j 16 with q16 | q16
      · skip
        rcases Nat.lt_or_ge j 8 with q8 | q8
        · skip
          rcases Nat.lt_or_ge j 4 with q4 | q4
          · skip
            rcases Nat.lt_or_ge j 2 with q2 | q2
            · skip
              rcases Nat.lt_or_ge j 1 with q1 | q1
              · skip
                obtain rfl : j = 0 := by omega
                refine zy_top (b := 0) hj ?_
                refine zx_tableIn (off := 272) (tgt := 312) (by unfold zr; omega) dL_law_40 (by omega) (by omega) rfl (by decide) ?_
                exact lc_0 hfl hc0 hs0 hLn hi6 hk hz (sim_append hfl hz hI (zr_t _) (zr_t _) (zr_t _) (zr_t _) (zr_t _)) cont
              · skip
                obtain rfl : j = 1 := by omega
                refine zy_top (b := 1) hj ?_
                refine zx_tableIn (off := 376) (tgt := 416) (by unfold zr; omega) dL_law_40 (by omega) (by omega) rfl (by decide) ?_
                exact lc_1 hfl hc0 hs0 hLn hi6 hk hz (sim_truncate hfl hz hI (zr_t _)) cont
            · skip
              rcases Nat.lt_or_ge j 3 with q3 | q3
              · skip
                obtain rfl : j = 2 := by omega
                refine zy_top (b := 2) hj ?_
                refine zx_tableIn (off := 432) (tgt := 472) (by unfold zr; omega) dL_law_40 (by omega) (by omega) rfl (by decide) ?_
                exact lc_2 hfl hc0 hs0 hLn hi6 hk hz (sim_load hfl hz hI) cont
              · skip
                obtain rfl : j = 3 := by omega
                refine zy_top (b := 3) hj ?_
                refine zx_tableIn (off := 476) (tgt := 516) (by unfold zr; omega) dL_law_40 (by omega) (by omega) rfl (by decide) ?_
                exact lc_3 hfl hc0 hs0 hLn hi6 hk hz (sim_executeCommands hfl hz hI) cont
          · skip
            rcases Nat.lt_or_ge j 6 with q6 | q6
            · skip
              rcases Nat.lt_or_ge j 5 with q5 | q5
              · skip
                obtain rfl : j = 4 := by omega
                refine zy_top (b := 4) hj ?_
                refine zx_tableIn (off := 520) (tgt := 560) (by unfold zr; omega) dL_law_40 (by omega) (by omega) rfl (by decide) ?_
                exact lc_4 hfl hc0 hs0 hLn hi6 hk hz (sim_errorCode hfl hz hI) cont
              · skip
                obtain rfl : j = 5 := by omega
                refine zy_top (b := 5) hj ?_
                refine zx_tableIn (off := 533) (tgt := 573) (by unfold zr; omega) dL_law_40 (by omega) (by omega) rfl (by decide) ?_
                exact lc_5 hfl hc0 hs0 hLn hi6 hk hz (sim_errorPosition hfl hz hI) cont
            · skip
              rcases Nat.lt_or_ge j 7 with q7 | q7
              · skip
                obtain rfl : j = 6 := by omega
                refine zy_top (b := 6) hj ?_
                refine zx_tableIn (off := 546) (tgt := 586) (by unfold zr; omega) dL_law_40 (by omega) (by omega) rfl (by decide) ?_
                exact lc_6 hfl hc0 hs0 hLn hi6 hk hz (sim_printerCount hfl hz hI) cont
              · skip
                obtain rfl : j = 7 := by omega
                refine zy_top (b := 7) hj ?_
                refine zx_tableIn (off := 559) (tgt := 599) (by unfold zr; omega) dL_law_40 (by omega) (by omega) rfl (by decide) ?_
                exact lc_7 hfl hc0 hs0 hLn hi6 hk hz (sim_findPrinter hfl hz hI) cont
        · skip
          rcases Nat.lt_or_ge j 12 with q12 | q12
          · skip
            rcases Nat.lt_or_ge j 10 with q10 | q10
            · skip
              rcases Nat.lt_or_ge j 9 with q9 | q9
              · skip
                obtain rfl : j = 8 := by omega
                refine zy_top (b := 8) hj ?_
                refine zx_tableIn (off := 572) (tgt := 612) (by unfold zr; omega) dL_law_40 (by omega) (by omega) rfl (by decide) ?_
                exact lc_8 hfl hc0 hs0 hLn hi6 hk hz (sim_cityOf hfl hz hI (zr_t _)) cont
              · skip
                obtain rfl : j = 9 := by omega
                refine zy_top (b := 9) hj ?_
                refine zx_tableIn (off := 628) (tgt := 668) (by unfold zr; omega) dL_law_40 (by omega) (by omega) rfl (by decide) ?_
                exact lc_9 hfl hc0 hs0 hLn hi6 hk hz (sim_isActive hfl hz hI (zr_t _) (zr_t _)) cont
            · skip
              rcases Nat.lt_or_ge j 11 with q11 | q11
              · skip
                obtain rfl : j = 10 := by omega
                refine zy_top (b := 10) hj ?_
                refine zx_tableIn (off := 703) (tgt := 743) (by unfold zr; omega) dL_law_40 (by omega) (by omega) rfl (by decide) ?_
                exact lc_10 hfl hc0 hs0 hLn hi6 hk hz (sim_hasDevice hfl hz hI (zr_t _) (zr_t _)) cont
              · skip
                obtain rfl : j = 11 := by omega
                refine zy_top (b := 11) hj ?_
                refine zx_tableIn (off := 778) (tgt := 818) (by unfold zr; omega) dL_law_40 (by omega) (by omega) rfl (by decide) ?_
                exact lc_11 hfl hc0 hs0 hLn hi6 hk hz (sim_hasTypeface hfl hz hI (zr_t _) (zr_t _)) cont
          · skip
            rcases Nat.lt_or_ge j 14 with q14 | q14
            · skip
              rcases Nat.lt_or_ge j 13 with q13 | q13
              · skip
                obtain rfl : j = 12 := by omega
                refine zy_top (b := 12) hj ?_
                refine zx_tableIn (off := 853) (tgt := 893) (by unfold zr; omega) dL_law_40 (by omega) (by omega) rfl (by decide) ?_
                exact lc_12 hfl hc0 hs0 hLn hi6 hk hz (sim_deviceOwners hfl hz hI (zr_t _)) cont
              · skip
                obtain rfl : j = 13 := by omega
                refine zy_top (b := 13) hj ?_
                refine zx_tableIn (off := 878) (tgt := 918) (by unfold zr; omega) dL_law_40 (by omega) (by omega) rfl (by decide) ?_
                exact lc_13 hfl hc0 hs0 hLn hi6 hk hz (sim_watermarkCount hfl hz hI) cont
            · skip
              rcases Nat.lt_or_ge j 15 with q15 | q15
              · skip
                obtain rfl : j = 14 := by omega
                refine zy_top (b := 14) hj ?_
                refine zx_tableIn (off := 891) (tgt := 931) (by unfold zr; omega) dL_law_40 (by omega) (by omega) rfl (by decide) ?_
                exact lc_14 hfl hc0 hs0 hLn hi6 hk hz (sim_watermarksOf hfl hz hI (zr_t _)) cont
              · skip
                obtain rfl : j = 15 := by omega
                refine zy_top (b := 15) hj ?_
                refine zx_tableIn (off := 947) (tgt := 987) (by unfold zr; omega) dL_law_40 (by omega) (by omega) rfl (by decide) ?_
                exact lc_15 hfl hc0 hs0 hLn hi6 hk hz (sim_editionCount hfl hz hI) cont
      · skip
        rcases Nat.lt_or_ge j 24 with q24 | q24
        · skip
          rcases Nat.lt_or_ge j 20 with q20 | q20
          · skip
            rcases Nat.lt_or_ge j 18 with q18 | q18
            · skip
              rcases Nat.lt_or_ge j 17 with q17 | q17
              · skip
                obtain rfl : j = 16 := by omega
                refine zy_top (b := 16) hj ?_
                refine zx_tableIn (off := 960) (tgt := 1000) (by unfold zr; omega) dL_law_40 (by omega) (by omega) rfl (by decide) ?_
                exact lc_16 hfl hc0 hs0 hLn hi6 hk hz (sim_clueCount hfl hz hI) cont
              · skip
                obtain rfl : j = 17 := by omega
                refine zy_top (b := 17) hj ?_
                refine zx_tableIn (off := 973) (tgt := 1013) (by unfold zr; omega) dL_law_40 (by omega) (by omega) rfl (by decide) ?_
                exact lc_17 hfl hc0 hs0 hLn hi6 hk hz (sim_kindOf hfl hz hI (zr_t _)) cont
            · skip
              rcases Nat.lt_or_ge j 19 with q19 | q19
              · skip
                obtain rfl : j = 18 := by omega
                refine zy_top (b := 18) hj ?_
                refine zx_tableIn (off := 1029) (tgt := 1069) (by unfold zr; omega) dL_law_40 (by omega) (by omega) rfl (by decide) ?_
                exact lc_18 hfl hc0 hs0 hLn hi6 hk hz (sim_valueOf hfl hz hI (zr_t _)) cont
              · skip
                obtain rfl : j = 19 := by omega
                refine zy_top (b := 19) hj ?_
                refine zx_tableIn (off := 1085) (tgt := 1125) (by unfold zr; omega) dL_law_40 (by omega) (by omega) rfl (by decide) ?_
                exact lc_19 hfl hc0 hs0 hLn hi6 hk hz (sim_pageOf hfl hz hI (zr_t _)) cont
          · skip
            rcases Nat.lt_or_ge j 22 with q22 | q22
            · skip
              rcases Nat.lt_or_ge j 21 with q21 | q21
              · skip
                obtain rfl : j = 20 := by omega
                refine zy_top (b := 20) hj ?_
                refine zx_tableIn (off := 1141) (tgt := 1181) (by unfold zr; omega) dL_law_40 (by omega) (by omega) rfl (by decide) ?_
                exact lc_20 hfl hc0 hs0 hLn hi6 hk hz (sim_weightOf hfl hz hI (zr_t _)) cont
              · skip
                obtain rfl : j = 21 := by omega
                refine zy_top (b := 21) hj ?_
                refine zx_tableIn (off := 1197) (tgt := 1237) (by unfold zr; omega) dL_law_40 (by omega) (by omega) rfl (by decide) ?_
                exact lc_21 hfl hc0 hs0 hLn hi6 hk hz (sim_isRead hfl hz hI (zr_t _)) cont
            · skip
              rcases Nat.lt_or_ge j 23 with q23 | q23
              · skip
                obtain rfl : j = 22 := by omega
                refine zy_top (b := 22) hj ?_
                refine zx_tableIn (off := 1260) (tgt := 1300) (by unfold zr; omega) dL_law_40 (by omega) (by omega) rfl (by decide) ?_
                exact lc_22 hfl hc0 hs0 hLn hi6 hk hz (sim_isAside hfl hz hI (zr_t _)) cont
              · skip
                obtain rfl : j = 23 := by omega
                refine zy_top (b := 23) hj ?_
                refine zx_tableIn (off := 1323) (tgt := 1363) (by unfold zr; omega) dL_law_40 (by omega) (by omega) rfl (by decide) ?_
                exact lc_23 hfl hc0 hs0 hLn hi6 hk hz (sim_clueInOrder hfl hz hI (zr_t _)) cont
        · skip
          rcases Nat.lt_or_ge j 28 with q28 | q28
          · skip
            rcases Nat.lt_or_ge j 26 with q26 | q26
            · skip
              rcases Nat.lt_or_ge j 25 with q25 | q25
              · skip
                obtain rfl : j = 24 := by omega
                refine zy_top (b := 24) hj ?_
                refine zx_tableIn (off := 1348) (tgt := 1388) (by unfold zr; omega) dL_law_40 (by omega) (by omega) rfl (by decide) ?_
                exact lc_24 hfl hc0 hs0 hLn hi6 hk hz (sim_nextClue hfl hz hI) cont
              · skip
                obtain rfl : j = 25 := by omega
                refine zy_top (b := 25) hj ?_
                refine zx_tableIn (off := 1361) (tgt := 1401) (by unfold zr; omega) dL_law_40 (by omega) (by omega) rfl (by decide) ?_
                exact lc_25 hfl hc0 hs0 hLn hi6 hk hz (sim_countingWeight hfl hz hI) cont
            · skip
              rcases Nat.lt_or_ge j 27 with q27 | q27
              · skip
                obtain rfl : j = 26 := by omega
                refine zy_top (b := 26) hj ?_
                refine zx_tableIn (off := 1374) (tgt := 1414) (by unfold zr; omega) dL_law_40 (by omega) (by omega) rfl (by decide) ?_
                exact lc_26 hfl hc0 hs0 hLn hi6 hk hz (sim_explains hfl hz hI (zr_t _) (zr_t _) (zr_t _)) cont
              · skip
                obtain rfl : j = 27 := by omega
                refine zy_top (b := 27) hj ?_
                refine zx_tableIn (off := 1461) (tgt := 1501) (by unfold zr; omega) dL_law_40 (by omega) (by omega) rfl (by decide) ?_
                exact lc_27 hfl hc0 hs0 hLn hi6 hk hz (sim_score hfl hz hI (zr_t _) (zr_t _)) cont
          · skip
            rcases Nat.lt_or_ge j 30 with q30 | q30
            · skip
              rcases Nat.lt_or_ge j 29 with q29 | q29
              · skip
                obtain rfl : j = 28 := by omega
                refine zy_top (b := 28) hj ?_
                refine zx_tableIn (off := 1529) (tgt := 1569) (by unfold zr; omega) dL_law_40 (by omega) (by omega) rfl (by decide) ?_
                exact lc_28 hfl hc0 hs0 hLn hi6 hk hz (sim_bestYear hfl hz hI (zr_t _)) cont
              · skip
                obtain rfl : j = 29 := by omega
                refine zy_top (b := 29) hj ?_
                refine zx_tableIn (off := 1585) (tgt := 1625) (by unfold zr; omega) dL_law_40 (by omega) (by omega) rfl (by decide) ?_
                exact lc_29 hfl hc0 hs0 hLn hi6 hk hz (sim_bestScore hfl hz hI (zr_t _)) cont
            · skip
              rcases Nat.lt_or_ge j 31 with q31 | q31
              · skip
                obtain rfl : j = 30 := by omega
                refine zy_top (b := 30) hj ?_
                refine zx_tableIn (off := 1641) (tgt := 1681) (by unfold zr; omega) dL_law_40 (by omega) (by omega) rfl (by decide) ?_
                exact lc_30 hfl hc0 hs0 hLn hi6 hk hz (sim_bestYears hfl hz hI (zr_t _)) cont
              · skip
                obtain rfl : j = 31 := by omega
                refine zy_top (b := 31) hj ?_
                refine zx_tableIn (off := 1697) (tgt := 1737) (by unfold zr; omega) dL_law_40 (by omega) (by omega) rfl (by decide) ?_
                exact lc_31 hfl hc0 hs0 hLn hi6 hk hz (sim_printerByRank hfl hz hI (zr_t _)) cont
    · skip
      rcases Nat.lt_or_ge j 48 with q48 | q48
      · skip
        rcases Nat.lt_or_ge j 40 with q40 | q40
        · skip
          rcases Nat.lt_or_ge j 36 with q36 | q36
          · skip
            rcases Nat.lt_or_ge j 34 with q34 | q34
            · skip
              rcases Nat.lt_or_ge j 33 with q33 | q33
              · skip
                obtain rfl : j = 32 := by omega
                refine zy_top (b := 32) hj ?_
                refine zx_tableIn (off := 1722) (tgt := 1762) (by unfold zr; omega) dL_law_40 (by omega) (by omega) rfl (by decide) ?_
                exact lc_32 hfl hc0 hs0 hLn hi6 hk hz (sim_verdictPrinter hfl hz hI) cont
              · skip
                obtain rfl : j = 33 := by omega
                refine zy_top (b := 33) hj ?_
                refine zx_tableIn (off := 1735) (tgt := 1775) (by unfold zr; omega) dL_law_40 (by omega) (by omega) rfl (by decide) ?_
                exact lc_33 hfl hc0 hs0 hLn hi6 hk hz (sim_verdictYear hfl hz hI) cont
            · skip
              rcases Nat.lt_or_ge j 35 with q35 | q35
              · skip
                obtain rfl : j = 34 := by omega
                refine zy_top (b := 34) hj ?_
                refine zx_tableIn (off := 1748) (tgt := 1788) (by unfold zr; omega) dL_law_40 (by omega) (by omega) rfl (by decide) ?_
                exact lc_34 hfl hc0 hs0 hLn hi6 hk hz (sim_verdictScore hfl hz hI) cont
              · skip
                obtain rfl : j = 35 := by omega
                refine zy_top (b := 35) hj ?_
                refine zx_tableIn (off := 1761) (tgt := 1801) (by unfold zr; omega) dL_law_40 (by omega) (by omega) rfl (by decide) ?_
                exact lc_35 hfl hc0 hs0 hLn hi6 hk hz (sim_margin hfl hz hI) cont
          · skip
            rcases Nat.lt_or_ge j 38 with q38 | q38
            · skip
              rcases Nat.lt_or_ge j 37 with q37 | q37
              · skip
                obtain rfl : j = 36 := by omega
                refine zy_top (b := 36) hj ?_
                refine zx_tableIn (off := 1774) (tgt := 1814) (by unfold zr; omega) dL_law_40 (by omega) (by omega) rfl (by decide) ?_
                exact lc_36 hfl hc0 hs0 hLn hi6 hk hz (sim_unexplainedCount hfl hz hI) cont
              · skip
                obtain rfl : j = 37 := by omega
                refine zy_top (b := 37) hj ?_
                refine zx_tableIn (off := 1787) (tgt := 1827) (by unfold zr; omega) dL_law_40 (by omega) (by omega) rfl (by decide) ?_
                exact lc_37 hfl hc0 hs0 hLn hi6 hk hz (sim_unexplainedClue hfl hz hI (zr_t _)) cont
            · skip
              rcases Nat.lt_or_ge j 39 with q39 | q39
              · skip
                obtain rfl : j = 38 := by omega
                refine zy_top (b := 38) hj ?_
                refine zx_tableIn (off := 1812) (tgt := 1852) (by unfold zr; omega) dL_law_40 (by omega) (by omega) rfl (by decide) ?_
                exact lc_38 hfl hc0 hs0 hLn hi6 hk hz (sim_matchingEdition hfl hz hI) cont
              · skip
                obtain rfl : j = 39 := by omega
                refine zy_top (b := 39) hj ?_
                refine zx_tableIn (off := 1825) (tgt := 1865) (by unfold zr; omega) dL_law_40 (by omega) (by omega) rfl (by decide) ?_
                exact lc_39 hfl hc0 hs0 hLn hi6 hk hz (sim_contradict hfl hz hI (zr_t _) (zr_t _)) cont
        · skip
          rcases Nat.lt_or_ge j 44 with q44 | q44
          · skip
            rcases Nat.lt_or_ge j 42 with q42 | q42
            · skip
              rcases Nat.lt_or_ge j 41 with q41 | q41
              · skip
                obtain rfl : j = 40 := by omega
                refine zy_top (b := 40) hj ?_
                refine zx_tableIn (off := 1900) (tgt := 1940) (by unfold zr; omega) dL_law_40 (by omega) (by omega) rfl (by decide) ?_
                exact lc_40 hfl hc0 hs0 hLn hi6 hk hz (sim_contradictionsOf hfl hz hI (zr_t _)) cont
              · skip
                obtain rfl : j = 41 := by omega
                refine zy_top (b := 41) hj ?_
                refine zx_tableIn (off := 1956) (tgt := 1996) (by unfold zr; omega) dL_law_40 (by omega) (by omega) rfl (by decide) ?_
                exact lc_41 hfl hc0 hs0 hLn hi6 hk hz (sim_impossibleClues hfl hz hI) cont
            · skip
              rcases Nat.lt_or_ge j 43 with q43 | q43
              · skip
                obtain rfl : j = 42 := by omega
                refine zy_top (b := 42) hj ?_
                refine zx_tableIn (off := 1969) (tgt := 2009) (by unfold zr; omega) dL_law_40 (by omega) (by omega) rfl (by decide) ?_
                exact lc_42 hfl hc0 hs0 hLn hi6 hk hz (sim_printerAfter hfl hz hI (zr_t _)) cont
              · skip
                obtain rfl : j = 43 := by omega
                refine zy_top (b := 43) hj ?_
                refine zx_tableIn (off := 2025) (tgt := 2065) (by unfold zr; omega) dL_law_40 (by omega) (by omega) rfl (by decide) ?_
                exact lc_43 hfl hc0 hs0 hLn hi6 hk hz (sim_yearAfter hfl hz hI (zr_t _)) cont
          · skip
            rcases Nat.lt_or_ge j 46 with q46 | q46
            · skip
              rcases Nat.lt_or_ge j 45 with q45 | q45
              · skip
                obtain rfl : j = 44 := by omega
                refine zy_top (b := 44) hj ?_
                refine zx_tableIn (off := 2081) (tgt := 2121) (by unfold zr; omega) dL_law_40 (by omega) (by omega) rfl (by decide) ?_
                exact lc_44 hfl hc0 hs0 hLn hi6 hk hz (sim_cluesUntilChange hfl hz hI) cont
              · skip
                obtain rfl : j = 45 := by omega
                refine zy_top (b := 45) hj ?_
                refine zx_tableIn (off := 2094) (tgt := 2134) (by unfold zr; omega) dL_law_40 (by omega) (by omega) rfl (by decide) ?_
                exact lc_45 hfl hc0 hs0 hLn hi6 hk hz (sim_decisiveClue hfl hz hI) cont
            · skip
              rcases Nat.lt_or_ge j 47 with q47 | q47
              · skip
                obtain rfl : j = 46 := by omega
                refine zy_top (b := 46) hj ?_
                refine zx_tableIn (off := 2107) (tgt := 2147) (by unfold zr; omega) dL_law_40 (by omega) (by omega) rfl (by decide) ?_
                exact lc_46 hfl hc0 hs0 hLn hi6 hk hz (sim_rankingErrors hfl hz hI) cont
              · skip
                obtain rfl : j = 47 := by omega
                refine zy_top (b := 47) hj ?_
                refine zx_tableIn (off := 2120) (tgt := 2160) (by unfold zr; omega) dL_law_40 (by omega) (by omega) rfl (by decide) ?_
                exact lc_47 hfl hc0 hs0 hLn hi6 hk hz (sim_confidence hfl hz hI) cont
      · skip
        rcases Nat.lt_or_ge j 56 with q56 | q56
        · skip
          rcases Nat.lt_or_ge j 52 with q52 | q52
          · skip
            rcases Nat.lt_or_ge j 50 with q50 | q50
            · skip
              rcases Nat.lt_or_ge j 49 with q49 | q49
              · skip
                obtain rfl : j = 48 := by omega
                refine zy_top (b := 48) hj ?_
                refine zx_tableIn (off := 2161) (tgt := 2201) (by unfold zr; omega) dL_law_40 (by omega) (by omega) rfl (by decide) ?_
                exact lc_48 hfl hc0 hs0 hLn hi6 hk hz (sim_addDeviceClue hfl hz hI (zr_t _) (zr_t _) (zr_t _)) cont
              · skip
                obtain rfl : j = 49 := by omega
                refine zy_top (b := 49) hj ?_
                refine zx_tableIn (off := 2241) (tgt := 2281) (by unfold zr; omega) dL_law_40 (by omega) (by omega) rfl (by decide) ?_
                exact lc_49 hfl hc0 hs0 hLn hi6 hk hz (sim_addTypefaceClue hfl hz hI (zr_t _) (zr_t _) (zr_t _)) cont
            · skip
              rcases Nat.lt_or_ge j 51 with q51 | q51
              · skip
                obtain rfl : j = 50 := by omega
                refine zy_top (b := 50) hj ?_
                refine zx_tableIn (off := 2321) (tgt := 2361) (by unfold zr; omega) dL_law_40 (by omega) (by omega) rfl (by decide) ?_
                exact lc_50 hfl hc0 hs0 hLn hi6 hk hz (sim_addWatermarkClue hfl hz hI (zr_t _) (zr_t _) (zr_t _)) cont
              · skip
                obtain rfl : j = 51 := by omega
                refine zy_top (b := 51) hj ?_
                refine zx_tableIn (off := 2401) (tgt := 2441) (by unfold zr; omega) dL_law_40 (by omega) (by omega) rfl (by decide) ?_
                exact lc_51 hfl hc0 hs0 hLn hi6 hk hz (sim_addCityClue hfl hz hI (zr_t _) (zr_t _) (zr_t _)) cont
          · skip
            rcases Nat.lt_or_ge j 54 with q54 | q54
            · skip
              rcases Nat.lt_or_ge j 53 with q53 | q53
              · skip
                obtain rfl : j = 52 := by omega
                refine zy_top (b := 52) hj ?_
                refine zx_tableIn (off := 2481) (tgt := 2521) (by unfold zr; omega) dL_law_40 (by omega) (by omega) rfl (by decide) ?_
                exact lc_52 hfl hc0 hs0 hLn hi6 hk hz (sim_addDateClue hfl hz hI (zr_t _) (zr_t _) (zr_t _)) cont
              · skip
                obtain rfl : j = 53 := by omega
                refine zy_top (b := 53) hj ?_
                refine zx_tableIn (off := 2561) (tgt := 2601) (by unfold zr; omega) dL_law_40 (by omega) (by omega) rfl (by decide) ?_
                exact lc_53 hfl hc0 hs0 hLn hi6 hk hz (sim_read hfl hz hI (zr_t _)) cont
            · skip
              rcases Nat.lt_or_ge j 55 with q55 | q55
              · skip
                obtain rfl : j = 54 := by omega
                refine zy_top (b := 54) hj ?_
                refine zx_tableIn (off := 2617) (tgt := 2657) (by unfold zr; omega) dL_law_40 (by omega) (by omega) rfl (by decide) ?_
                exact lc_54 hfl hc0 hs0 hLn hi6 hk hz (sim_setAside hfl hz hI (zr_t _)) cont
              · skip
                obtain rfl : j = 55 := by omega
                refine zy_top (b := 55) hj ?_
                refine zx_tableIn (off := 2673) (tgt := 2713) (by unfold zr; omega) dL_law_40 (by omega) (by omega) rfl (by decide) ?_
                exact lc_55 hfl hc0 hs0 hLn hi6 hk hz (sim_takeBack hfl hz hI (zr_t _)) cont
        · skip
          rcases Nat.lt_or_ge j 60 with q60 | q60
          · skip
            rcases Nat.lt_or_ge j 58 with q58 | q58
            · skip
              rcases Nat.lt_or_ge j 57 with q57 | q57
              · skip
                obtain rfl : j = 56 := by omega
                refine zy_top (b := 56) hj ?_
                refine zx_tableIn (off := 2729) (tgt := 2769) (by unfold zr; omega) dL_law_40 (by omega) (by omega) rfl (by decide) ?_
                exact lc_56 hfl hc0 hs0 hLn hi6 hk hz (sim_setAsideUnexplained hfl hz hI) cont
              · skip
                obtain rfl : j = 57 := by omega
                refine zy_top (b := 57) hj ?_
                refine zx_tableIn (off := 2742) (tgt := 2782) (by unfold zr; omega) dL_law_40 (by omega) (by omega) rfl (by decide) ?_
                exact lc_57 hfl hc0 hs0 hLn hi6 hk hz (sim_setWeight hfl hz hI (zr_t _) (zr_t _)) cont
            · skip
              rcases Nat.lt_or_ge j 59 with q59 | q59
              · skip
                obtain rfl : j = 58 := by omega
                refine zy_top (b := 58) hj ?_
                refine zx_tableIn (off := 2810) (tgt := 2850) (by unfold zr; omega) dL_law_40 (by omega) (by omega) rfl (by decide) ?_
                exact lc_58 hfl hc0 hs0 hLn hi6 hk hz (sim_transferDevice hfl hz hI (zr_t _) (zr_t _) (zr_t _)) cont
              · skip
                obtain rfl : j = 59 := by omega
                refine zy_top (b := 59) hj ?_
                refine zx_tableIn (off := 2890) (tgt := 2930) (by unfold zr; omega) dL_law_40 (by omega) (by omega) rfl (by decide) ?_
                exact lc_59 hfl hc0 hs0 hLn hi6 hk hz (sim_undo hfl hz hI) cont
          · skip
            rcases Nat.lt_or_ge j 62 with q62 | q62
            · skip
              rcases Nat.lt_or_ge j 61 with q61 | q61
              · skip
                obtain rfl : j = 60 := by omega
                refine zy_top (b := 60) hj ?_
                refine zx_tableIn (off := 2934) (tgt := 2974) (by unfold zr; omega) dL_law_40 (by omega) (by omega) rfl (by decide) ?_
                exact lc_60 hfl hc0 hs0 hLn hi6 hk hz (sim_save hfl hz hI) cont
              · skip
                obtain rfl : j = 61 := by omega
                refine zy_top (b := 61) hj ?_
                refine zx_tableIn (off := 2947) (tgt := 2987) (by unfold zr; omega) dL_law_40 (by omega) (by omega) rfl (by decide) ?_
                exact lc_61 hfl hc0 hs0 hLn hi6 hk hz (sim_restore hfl hz hI) cont
            · skip
              rcases Nat.lt_or_ge j 63 with q63 | q63
              · skip
                obtain rfl : j = 62 := by omega
                refine zy_top (b := 62) hj ?_
                refine zx_tableIn (off := 2991) (tgt := 3031) (by unfold zr; omega) dL_law_40 (by omega) (by omega) rfl (by decide) ?_
                exact lc_62 hfl hc0 hs0 hLn hi6 hk hz (sim_formatVerdict hfl hz hI) cont
              · skip
                obtain rfl : j = 63 := by omega
                refine zy_top (b := 63) hj ?_
                refine zx_tableIn (off := 3004) (tgt := 3044) (by unfold zr; omega) dL_law_40 (by omega) (by omega) rfl (by decide) ?_
                exact lc_63 hfl hc0 hs0 hLn hi6 hk hz (sim_outputByte hfl hz hI (zr_t _)) cont

