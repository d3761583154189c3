abbrev mX9_cluesUntilChange : zM := (yX9_cluesUntilChange, cX9_cluesUntilChange, 4, (some .int), [])
theorem okX9_cluesUntilChange : zMok mX9_cluesUntilChange 0 := ⟨by decide, by decide, by decide +kernel⟩
theorem dX9_cluesUntilChange_0 : decode cX9_cluesUntilChange 0 = .ok (.aload_n 0, 1) := by decide +kernel
theorem dX9_cluesUntilChange_1 : decode cX9_cluesUntilChange 1 = .ok (.invokevirtual 240, 3) := by decide +kernel
theorem dX9_cluesUntilChange_4 : decode cX9_cluesUntilChange 4 = .ok (.aload_n 0, 1) := by decide +kernel
theorem dX9_cluesUntilChange_5 : decode cX9_cluesUntilChange 5 = .ok (.getfield 54, 3) := by decide +kernel
theorem dX9_cluesUntilChange_8 : decode cX9_cluesUntilChange 8 = .ok (.invokevirtual 255, 3) := by decide +kernel
theorem dX9_cluesUntilChange_11 : decode cX9_cluesUntilChange 11 = .ok (.istore_n 1, 1) := by decide +kernel
theorem dX9_cluesUntilChange_12 : decode cX9_cluesUntilChange 12 = .ok (.aload_n 0, 1) := by decide +kernel
theorem dX9_cluesUntilChange_13 : decode cX9_cluesUntilChange 13 = .ok (.getfield 33, 3) := by decide +kernel
theorem dX9_cluesUntilChange_16 : decode cX9_cluesUntilChange 16 = .ok (.getfield 125, 3) := by decide +kernel
theorem dX9_cluesUntilChange_19 : decode cX9_cluesUntilChange 19 = .ok (.invokevirtual 284, 3) := by decide +kernel
theorem cw_RX9_284 : zCwV RX9 284 mX2_unreadCount := zall [804, 805, 806, 36, 807] (by decide +kernel) (by decide +kernel)
theorem dX9_cluesUntilChange_22 : decode cX9_cluesUntilChange 22 = .ok (.istore_n 2, 1) := by decide +kernel
theorem dX9_cluesUntilChange_23 : decode cX9_cluesUntilChange 23 = .ok (.iconst 1, 1) := by decide +kernel
theorem dX9_cluesUntilChange_24 : decode cX9_cluesUntilChange 24 = .ok (.istore_n 3, 1) := by decide +kernel
theorem dX9_cluesUntilChange_25 : decode cX9_cluesUntilChange 25 = .ok (.iload_n 3, 1) := by decide +kernel
theorem dX9_cluesUntilChange_26 : decode cX9_cluesUntilChange 26 = .ok (.iload_n 2, 1) := by decide +kernel
theorem dX9_cluesUntilChange_27 : decode cX9_cluesUntilChange 27 = .ok (.if_icmp .gt 35, 3) := by decide +kernel
theorem dX9_cluesUntilChange_62 : decode cX9_cluesUntilChange 62 = .ok (.iconst (-1), 1) := by decide +kernel
theorem dX9_cluesUntilChange_63 : decode cX9_cluesUntilChange 63 = .ok (.ireturn, 1) := by decide +kernel
theorem dX9_cluesUntilChange_30 : decode cX9_cluesUntilChange 30 = .ok (.aload_n 0, 1) := by decide +kernel
theorem dX9_cluesUntilChange_31 : decode cX9_cluesUntilChange 31 = .ok (.getfield 54, 3) := by decide +kernel
theorem dX9_cluesUntilChange_34 : decode cX9_cluesUntilChange 34 = .ok (.aload_n 0, 1) := by decide +kernel
theorem dX9_cluesUntilChange_35 : decode cX9_cluesUntilChange 35 = .ok (.getfield 33, 3) := by decide +kernel
theorem dX9_cluesUntilChange_38 : decode cX9_cluesUntilChange 38 = .ok (.iload_n 3, 1) := by decide +kernel
theorem dX9_cluesUntilChange_39 : decode cX9_cluesUntilChange 39 = .ok (.iconst (-1), 1) := by decide +kernel
theorem dX9_cluesUntilChange_40 : decode cX9_cluesUntilChange 40 = .ok (.invokevirtual 280, 3) := by decide +kernel
theorem dX9_cluesUntilChange_43 : decode cX9_cluesUntilChange 43 = .ok (.aload_n 0, 1) := by decide +kernel
theorem dX9_cluesUntilChange_44 : decode cX9_cluesUntilChange 44 = .ok (.getfield 54, 3) := by decide +kernel
theorem dX9_cluesUntilChange_47 : decode cX9_cluesUntilChange 47 = .ok (.invokevirtual 255, 3) := by decide +kernel
theorem dX9_cluesUntilChange_50 : decode cX9_cluesUntilChange 50 = .ok (.iload_n 1, 1) := by decide +kernel
theorem dX9_cluesUntilChange_51 : decode cX9_cluesUntilChange 51 = .ok (.if_icmp .eq 5, 3) := by decide +kernel
theorem dX9_cluesUntilChange_56 : decode cX9_cluesUntilChange 56 = .ok (.iinc 3 1, 3) := by decide +kernel
theorem dX9_cluesUntilChange_59 : decode cX9_cluesUntilChange 59 = .ok (.goto (-34), 3) := by decide +kernel
theorem dX9_cluesUntilChange_54 : decode cX9_cluesUntilChange 54 = .ok (.iload_n 3, 1) := by decide +kernel
theorem dX9_cluesUntilChange_55 : decode cX9_cluesUntilChange 55 = .ok (.ireturn, 1) := by decide +kernel
abbrev mX9_decisiveClue : zM := (yX9_decisiveClue, cX9_decisiveClue, 3, (some .int), [])
theorem okX9_decisiveClue : zMok mX9_decisiveClue 0 := ⟨by decide, by decide, by decide +kernel⟩
theorem dX9_decisiveClue_0 : decode cX9_decisiveClue 0 = .ok (.aload_n 0, 1) := by decide +kernel
theorem dX9_decisiveClue_1 : decode cX9_decisiveClue 1 = .ok (.invokevirtual 240, 3) := by decide +kernel
theorem dX9_decisiveClue_4 : decode cX9_decisiveClue 4 = .ok (.aload_n 0, 1) := by decide +kernel
theorem dX9_decisiveClue_5 : decode cX9_decisiveClue 5 = .ok (.getfield 54, 3) := by decide +kernel
theorem dX9_decisiveClue_8 : decode cX9_decisiveClue 8 = .ok (.invokevirtual 255, 3) := by decide +kernel
theorem dX9_decisiveClue_11 : decode cX9_decisiveClue 11 = .ok (.istore_n 1, 1) := by decide +kernel
theorem dX9_decisiveClue_12 : decode cX9_decisiveClue 12 = .ok (.iconst 0, 1) := by decide +kernel
theorem dX9_decisiveClue_13 : decode cX9_decisiveClue 13 = .ok (.istore_n 2, 1) := by decide +kernel
theorem dX9_decisiveClue_14 : decode cX9_decisiveClue 14 = .ok (.iload_n 2, 1) := by decide +kernel
theorem dX9_decisiveClue_15 : decode cX9_decisiveClue 15 = .ok (.aload_n 0, 1) := by decide +kernel
theorem dX9_decisiveClue_16 : decode cX9_decisiveClue 16 = .ok (.getfield 33, 3) := by decide +kernel
theorem dX9_decisiveClue_19 : decode cX9_decisiveClue 19 = .ok (.getfield 125, 3) := by decide +kernel
theorem dX9_decisiveClue_22 : decode cX9_decisiveClue 22 = .ok (.getfield 129, 3) := by decide +kernel
theorem dX9_decisiveClue_25 : decode cX9_decisiveClue 25 = .ok (.if_icmp .ge 49, 3) := by decide +kernel
theorem dX9_decisiveClue_74 : decode cX9_decisiveClue 74 = .ok (.iconst (-1), 1) := by decide +kernel
theorem dX9_decisiveClue_75 : decode cX9_decisiveClue 75 = .ok (.ireturn, 1) := by decide +kernel
theorem dX9_decisiveClue_28 : decode cX9_decisiveClue 28 = .ok (.aload_n 0, 1) := by decide +kernel
theorem dX9_decisiveClue_29 : decode cX9_decisiveClue 29 = .ok (.getfield 33, 3) := by decide +kernel
theorem dX9_decisiveClue_32 : decode cX9_decisiveClue 32 = .ok (.getfield 125, 3) := by decide +kernel
theorem dX9_decisiveClue_35 : decode cX9_decisiveClue 35 = .ok (.iload_n 2, 1) := by decide +kernel
theorem dX9_decisiveClue_36 : decode cX9_decisiveClue 36 = .ok (.invokevirtual 233, 3) := by decide +kernel
theorem dX9_decisiveClue_39 : decode cX9_decisiveClue 39 = .ok (.ifCond .eq 29, 3) := by decide +kernel
theorem dX9_decisiveClue_68 : decode cX9_decisiveClue 68 = .ok (.iinc 2 1, 3) := by decide +kernel
theorem dX9_decisiveClue_71 : decode cX9_decisiveClue 71 = .ok (.goto (-57), 3) := by decide +kernel
theorem dX9_decisiveClue_42 : decode cX9_decisiveClue 42 = .ok (.aload_n 0, 1) := by decide +kernel
theorem dX9_decisiveClue_43 : decode cX9_decisiveClue 43 = .ok (.getfield 54, 3) := by decide +kernel
theorem dX9_decisiveClue_46 : decode cX9_decisiveClue 46 = .ok (.aload_n 0, 1) := by decide +kernel
theorem dX9_decisiveClue_47 : decode cX9_decisiveClue 47 = .ok (.getfield 33, 3) := by decide +kernel
theorem dX9_decisiveClue_50 : decode cX9_decisiveClue 50 = .ok (.iconst 0, 1) := by decide +kernel
theorem dX9_decisiveClue_51 : decode cX9_decisiveClue 51 = .ok (.iload_n 2, 1) := by decide +kernel
theorem dX9_decisiveClue_52 : decode cX9_decisiveClue 52 = .ok (.invokevirtual 280, 3) := by decide +kernel
theorem dX9_decisiveClue_55 : decode cX9_decisiveClue 55 = .ok (.aload_n 0, 1) := by decide +kernel
theorem dX9_decisiveClue_56 : decode cX9_decisiveClue 56 = .ok (.getfield 54, 3) := by decide +kernel
theorem dX9_decisiveClue_59 : decode cX9_decisiveClue 59 = .ok (.invokevirtual 255, 3) := by decide +kernel
theorem dX9_decisiveClue_62 : decode cX9_decisiveClue 62 = .ok (.iload_n 1, 1) := by decide +kernel
theorem dX9_decisiveClue_63 : decode cX9_decisiveClue 63 = .ok (.if_icmp .eq 5, 3) := by decide +kernel
theorem dX9_decisiveClue_66 : decode cX9_decisiveClue 66 = .ok (.iload_n 2, 1) := by decide +kernel
theorem dX9_decisiveClue_67 : decode cX9_decisiveClue 67 = .ok (.ireturn, 1) := by decide +kernel
abbrev mX9_rankingErrors : zM := (yX9_rankingErrors, cX9_rankingErrors, 4, (some .int), [])
theorem okX9_rankingErrors : zMok mX9_rankingErrors 0 := ⟨by decide, by decide, by decide +kernel⟩
theorem dX9_rankingErrors_0 : decode cX9_rankingErrors 0 = .ok (.aload_n 0, 1) := by decide +kernel
theorem dX9_rankingErrors_1 : decode cX9_rankingErrors 1 = .ok (.invokevirtual 240, 3) := by decide +kernel
theorem dX9_rankingErrors_4 : decode cX9_rankingErrors 4 = .ok (.iconst 0, 1) := by decide +kernel
theorem dX9_rankingErrors_5 : decode cX9_rankingErrors 5 = .ok (.istore_n 1, 1) := by decide +kernel
theorem dX9_rankingErrors_6 : decode cX9_rankingErrors 6 = .ok (.iconst 1, 1) := by decide +kernel
theorem dX9_rankingErrors_7 : decode cX9_rankingErrors 7 = .ok (.istore_n 2, 1) := by decide +kernel
theorem dX9_rankingErrors_8 : decode cX9_rankingErrors 8 = .ok (.iload_n 2, 1) := by decide +kernel
theorem dX9_rankingErrors_9 : decode cX9_rankingErrors 9 = .ok (.aload_n 0, 1) := by decide +kernel
theorem dX9_rankingErrors_10 : decode cX9_rankingErrors 10 = .ok (.getfield 33, 3) := by decide +kernel
theorem dX9_rankingErrors_13 : decode cX9_rankingErrors 13 = .ok (.getfield 134, 3) := by decide +kernel
theorem dX9_rankingErrors_16 : decode cX9_rankingErrors 16 = .ok (.getfield 160, 3) := by decide +kernel
theorem dX9_rankingErrors_19 : decode cX9_rankingErrors 19 = .ok (.if_icmp .ge 23, 3) := by decide +kernel
theorem dX9_rankingErrors_42 : decode cX9_rankingErrors 42 = .ok (.aload_n 0, 1) := by decide +kernel
theorem dX9_rankingErrors_43 : decode cX9_rankingErrors 43 = .ok (.getfield 54, 3) := by decide +kernel
theorem dX9_rankingErrors_46 : decode cX9_rankingErrors 46 = .ok (.invokevirtual 261, 3) := by decide +kernel
theorem dX9_rankingErrors_49 : decode cX9_rankingErrors 49 = .ok (.istore_n 2, 1) := by decide +kernel
theorem dX9_rankingErrors_50 : decode cX9_rankingErrors 50 = .ok (.iconst 0, 1) := by decide +kernel
theorem dX9_rankingErrors_51 : decode cX9_rankingErrors 51 = .ok (.istore_n 3, 1) := by decide +kernel
theorem dX9_rankingErrors_52 : decode cX9_rankingErrors 52 = .ok (.iload_n 3, 1) := by decide +kernel
theorem dX9_rankingErrors_53 : decode cX9_rankingErrors 53 = .ok (.aload_n 0, 1) := by decide +kernel
theorem dX9_rankingErrors_54 : decode cX9_rankingErrors 54 = .ok (.getfield 33, 3) := by decide +kernel
theorem dX9_rankingErrors_57 : decode cX9_rankingErrors 57 = .ok (.getfield 125, 3) := by decide +kernel
theorem dX9_rankingErrors_60 : decode cX9_rankingErrors 60 = .ok (.getfield 129, 3) := by decide +kernel
theorem dX9_rankingErrors_63 : decode cX9_rankingErrors 63 = .ok (.if_icmp .ge 39, 3) := by decide +kernel
theorem dX9_rankingErrors_102 : decode cX9_rankingErrors 102 = .ok (.iload_n 2, 1) := by decide +kernel
theorem dX9_rankingErrors_103 : decode cX9_rankingErrors 103 = .ok (.aload_n 0, 1) := by decide +kernel
theorem dX9_rankingErrors_104 : decode cX9_rankingErrors 104 = .ok (.invokevirtual 290, 3) := by decide +kernel
theorem cw_RX9_290 : zCwV RX9 290 mX9_countingWeight := zall [1180, 1004, 1005, 31, 1006] (by decide +kernel) (by decide +kernel)
theorem dX9_rankingErrors_107 : decode cX9_rankingErrors 107 = .ok (.if_icmp .ne 7, 3) := by decide +kernel
theorem dX9_rankingErrors_110 : decode cX9_rankingErrors 110 = .ok (.iload_n 1, 1) := by decide +kernel
theorem dX9_rankingErrors_111 : decode cX9_rankingErrors 111 = .ok (.goto 6, 3) := by decide +kernel
theorem dX9_rankingErrors_117 : decode cX9_rankingErrors 117 = .ok (.ireturn, 1) := by decide +kernel
theorem dX9_rankingErrors_66 : decode cX9_rankingErrors 66 = .ok (.aload_n 0, 1) := by decide +kernel
theorem dX9_rankingErrors_67 : decode cX9_rankingErrors 67 = .ok (.getfield 54, 3) := by decide +kernel
theorem dX9_rankingErrors_70 : decode cX9_rankingErrors 70 = .ok (.aload_n 0, 1) := by decide +kernel
theorem dX9_rankingErrors_71 : decode cX9_rankingErrors 71 = .ok (.getfield 33, 3) := by decide +kernel
theorem dX9_rankingErrors_74 : decode cX9_rankingErrors 74 = .ok (.iload_n 3, 1) := by decide +kernel
theorem dX9_rankingErrors_75 : decode cX9_rankingErrors 75 = .ok (.invokevirtual 267, 3) := by decide +kernel
theorem dX9_rankingErrors_78 : decode cX9_rankingErrors 78 = .ok (.ifCond .eq 18, 3) := by decide +kernel
theorem dX9_rankingErrors_96 : decode cX9_rankingErrors 96 = .ok (.iinc 3 1, 3) := by decide +kernel
theorem dX9_rankingErrors_99 : decode cX9_rankingErrors 99 = .ok (.goto (-47), 3) := by decide +kernel
theorem dX9_rankingErrors_81 : decode cX9_rankingErrors 81 = .ok (.iload_n 2, 1) := by decide +kernel
theorem dX9_rankingErrors_82 : decode cX9_rankingErrors 82 = .ok (.aload_n 0, 1) := by decide +kernel
theorem dX9_rankingErrors_83 : decode cX9_rankingErrors 83 = .ok (.getfield 33, 3) := by decide +kernel
theorem dX9_rankingErrors_86 : decode cX9_rankingErrors 86 = .ok (.getfield 125, 3) := by decide +kernel
theorem dX9_rankingErrors_89 : decode cX9_rankingErrors 89 = .ok (.getfield 216, 3) := by decide +kernel
theorem dX9_rankingErrors_92 : decode cX9_rankingErrors 92 = .ok (.iload_n 3, 1) := by decide +kernel
theorem dX9_rankingErrors_93 : decode cX9_rankingErrors 93 = .ok (.iaload, 1) := by decide +kernel
theorem dX9_rankingErrors_94 : decode cX9_rankingErrors 94 = .ok (.iadd, 1) := by decide +kernel
theorem dX9_rankingErrors_95 : decode cX9_rankingErrors 95 = .ok (.istore_n 2, 1) := by decide +kernel
theorem dX9_rankingErrors_22 : decode cX9_rankingErrors 22 = .ok (.aload_n 0, 1) := by decide +kernel
theorem dX9_rankingErrors_23 : decode cX9_rankingErrors 23 = .ok (.getfield 54, 3) := by decide +kernel
theorem dX9_rankingErrors_26 : decode cX9_rankingErrors 26 = .ok (.iload_n 2, 1) := by decide +kernel
theorem dX9_rankingErrors_27 : decode cX9_rankingErrors 27 = .ok (.invokevirtual 287, 3) := by decide +kernel
theorem cw_RX9_287 : zCwV RX9 287 mX7_isInOrder := zall [1185, 1186, 1187, 39, 1188] (by decide +kernel) (by decide +kernel)
theorem dX9_rankingErrors_30 : decode cX9_rankingErrors 30 = .ok (.ifCond .ne 6, 3) := by decide +kernel
theorem dX9_rankingErrors_36 : decode cX9_rankingErrors 36 = .ok (.iinc 2 1, 3) := by decide +kernel
theorem dX9_rankingErrors_39 : decode cX9_rankingErrors 39 = .ok (.goto (-31), 3) := by decide +kernel
abbrev mX9_confidence : zM := (yX9_confidence, cX9_confidence, 2, (some .double), [])
theorem okX9_confidence : zMok mX9_confidence 0 := ⟨by decide, by decide, by decide +kernel⟩
theorem dX9_confidence_0 : decode cX9_confidence 0 = .ok (.aload_n 0, 1) := by decide +kernel
theorem dX9_confidence_1 : decode cX9_confidence 1 = .ok (.invokevirtual 290, 3) := by decide +kernel
theorem dX9_confidence_4 : decode cX9_confidence 4 = .ok (.istore_n 1, 1) := by decide +kernel
theorem dX9_confidence_5 : decode cX9_confidence 5 = .ok (.iload_n 1, 1) := by decide +kernel
theorem dX9_confidence_6 : decode cX9_confidence 6 = .ok (.ifCond .gt 5, 3) := by decide +kernel
theorem dX9_confidence_11 : decode cX9_confidence 11 = .ok (.aload_n 0, 1) := by decide +kernel
theorem dX9_confidence_12 : decode cX9_confidence 12 = .ok (.invokevirtual 240, 3) := by decide +kernel
theorem dX9_confidence_15 : decode cX9_confidence 15 = .ok (.aload_n 0, 1) := by decide +kernel
theorem dX9_confidence_16 : decode cX9_confidence 16 = .ok (.getfield 54, 3) := by decide +kernel
theorem dX9_confidence_19 : decode cX9_confidence 19 = .ok (.invokevirtual 261, 3) := by decide +kernel
theorem dX9_confidence_22 : decode cX9_confidence 22 = .ok (.i2d, 1) := by decide +kernel
theorem dX9_confidence_23 : decode cX9_confidence 23 = .ok (.iload_n 1, 1) := by decide +kernel
theorem dX9_confidence_24 : decode cX9_confidence 24 = .ok (.i2d, 1) := by decide +kernel
theorem dX9_confidence_25 : decode cX9_confidence 25 = .ok (.ddiv, 1) := by decide +kernel
theorem dX9_confidence_26 : decode cX9_confidence 26 = .ok (.dreturn, 1) := by decide +kernel
theorem dX9_confidence_9 : decode cX9_confidence 9 = .ok (.dconst 0, 1) := by decide +kernel
theorem dX9_confidence_10 : decode cX9_confidence 10 = .ok (.dreturn, 1) := by decide +kernel
/-! judgements of books that agree -/
theorem sco_eq {D D' : zBk} {H : Nat → Prop} (h : zEq D D') (w : WF D) {p : Nat} (hp : (p : Int) < D 1 0) (r : Nat) : sc D' H p r = sc D H p r := by
  have hn := w.1.2.2.2
  unfold sc
  rw [zbe h]
  refine zs_congr (fun c hc => ?_)
  rw [cl_eq h (by omega) (by omega) (by omega : c < 40)]
  exact zif_c (by rw [cFit_eq h w hp (by omega)])
theorem tR_eq {D D' : zBk} {H : Nat → Prop} (h : zEq D D') (w : WF D) {p : Nat} (hp : (p : Int) < D 1 0) : tR D' H p = tR D H p := by
  have hn := w.1.1
  unfold tR
  rw [pr_eq h (by omega) (by omega) (by omega : p < 8), pr_eq h (by omega) (by omega) (by omega : p < 8)]
  exact (y_congr (fun i _ _ => sco_eq h w hp i)).1
theorem tN_eq {D D' : zBk} {H : Nat → Prop} (h : zEq D D') (w : WF D) {p : Nat} (hp : (p : Int) < D 1 0) : tN D' H p = tN D H p := by
  have hn := w.1.1
  unfold tN
  rw [pr_eq h (by omega) (by omega) (by omega : p < 8), pr_eq h (by omega) (by omega) (by omega : p < 8)]
  exact (y_congr (fun i _ _ => sco_eq h w hp i)).2
theorem tS_eq {D D' : zBk} {H : Nat → Prop} (h : zEq D D') (w : WF D) {p : Nat} (hp : (p : Int) < D 1 0) : tS D' H p = tS D H p := by
  unfold tS
  rw [tR_eq h w hp, sco_eq h w hp]
theorem U_eq {D D' : zBk} (h : zEq D D') (w : WF D) {p : Nat} (hp : (p : Int) ≤ D 12 0) : U D' p = U D p := by
  have hn := w.1.2.2.2
  unfold U
  refine zs_congr (fun i hi => ?_)
  have ho := w.2.2.2.2.2.1 i (by omega)
  rw [cl_eq h (by omega) (by omega) (by omega : i < 40), cl_eq h (by omega) (by omega) (by omega : (D 19 i).toNat < 40)]
theorem Rd_eq {D D' : zBk} (h : zEq D D') (w : WF D) (x : Int) (c : Nat) : Rd D' x c ↔ Rd D x c := by
  have hn := w.1.2.2.2
  have key : ∀ p : Nat, (p : Int) < D 12 0 → D' 19 p = D 19 p ∧ D' 17 (D 19 p).toNat = D 17 (D 19 p).toNat ∧ U D' p = U D p := fun p hp => by
    have ho := w.2.2.2.2.2.1 p hp
    exact ⟨cl_eq h (by omega) (by omega) (by omega : p < 40), cl_eq h (by omega) (by omega) (by omega : (D 19 p).toNat < 40), U_eq h w (by omega)⟩
  constructor
  · rintro ⟨p, h1, h2, h3⟩
    rw [h.1.2.2.2] at h1
    obtain ⟨k1, k2, k3⟩ := key p h1
    rw [k1] at h2
    rw [← h2, k2, k3] at h3
    exact ⟨p, h1, h2, by rw [← h2]; exact h3⟩
  · rintro ⟨p, h1, h2, h3⟩
    obtain ⟨k1, k2, k3⟩ := key p h1
    exact ⟨p, by rw [h.1.2.2.2]; exact h1, by rw [k1]; exact h2, by rw [← h2, k2, k3, h2]; exact h3⟩
theorem Hd_eq {D D' : zBk} (h : zEq D D') (w : WF D) {x y : Int} {c : Nat} (hc : (c : Int) < D 12 0) : Hd D' x y c ↔ Hd D x y c := by
  have hn := w.1.2.2.2
  unfold Hd
  rw [Rd_eq h w, cl_eq h (by omega) (by omega) (by omega : c < 40)]
theorem Ht_eq {D D' : zBk} (h : zEq D D') (w : WF D) {c : Nat} (hc : (c : Int) < D 12 0) : Ht D' c ↔ Ht D c := by
  have hn := w.1.2.2.2
  unfold Ht
  rw [cl_eq h (by omega) (by omega) (by omega : c < 40), cl_eq h (by omega) (by omega) (by omega : c < 40)]
theorem ordOK_congr {S S' : Nat → Int} {o : Nat → Int} {k : Nat} (h : ∀ p, p < k → S' p = S p) (d : ordOK S o k) : ordOK S' o k := by
  refine ⟨d.1, fun i j hij hj => ?_, d.2.2⟩
  have a := d.1 i (by omega)
  have b := d.1 j hj
  have := d.2.1 i j hij hj
  unfold ordR at *
  rw [h _ (by omega), h _ (by omega)]
  exact this
theorem Jd_eq {D D' : zBk} {H H' : Nat → Prop} {τ : zS} (h : zEq D D') (w : WF D) (hH : ∀ c : Nat, (c : Int) < D 12 0 → (H' c ↔ H c)) (hJ : Jd D' H' τ) : Jd D H τ := by
  obtain ⟨a, b, c, d⟩ := hJ
  have hH2 : ∀ c : Nat, (c : Int) < D' 12 0 → (H' c ↔ H c) := fun c hc => hH c (by rw [← h.1.2.2.2]; exact hc)
  refine ⟨a.trans h.1.1, fun x hx => ?_, fun p hp => ?_, ?_⟩
  · rw [b x (by rw [h.1.2.2.2]; exact hx)]; exact zb_c (hH x hx)
  · obtain ⟨c1, c2, c3⟩ := c p (by rw [h.1.1]; exact hp)
    rw [tR_hc hH2, tR_eq h w hp] at c1
    rw [tS_hc hH2, tS_eq h w hp] at c2
    rw [tN_hc hH2, tN_eq h w hp] at c3
    exact ⟨c1, c2, c3⟩
  · rw [← h.1.1]
    exact ordOK_congr (fun p hp => by rw [tS_hc hH2, tS_eq h w (by rw [← h.1.1]; omega)]) d
theorem cW_zeq {D D' : zBk} (h : zEq D D') (w : WF D) : cW D' = cW D := by
  have hn := w.1.2.2.2
  unfold cW
  rw [zbe h]
  refine zs_congr (fun c hc => ?_)
  rw [cl_eq h (by omega) (by omega) (by omega : c < 40)]
  exact zif_c (by rw [Ht_eq h w (by omega)])
/-! predictions -/
noncomputable def cuc (D : zBk) : Int := if zfst (fun i => ¬ wP D (Hd D ((i + 1 : Nat) : Int) (-1)) = wP D (Ht D)) (U D (D 12 0).toNat).toNat = -1 then -1 else zfst (fun i => ¬ wP D (Hd D ((i + 1 : Nat) : Int) (-1)) = wP D (Ht D)) (U D (D 12 0).toNat).toNat + 1
theorem cuc_no {D : zBk} (h : ∀ j, j < (U D (D 12 0).toNat).toNat → ¬ ¬ wP D (Hd D ((j + 1 : Nat) : Int) (-1)) = wP D (Ht D)) : cuc D = -1 := by
  unfold cuc; rw [zfst_no h, if_pos rfl]
theorem cuc_at {D : zBk} {i : Nat} (hi : i < (U D (D 12 0).toNat).toNat) (h : ∀ j, j < i → ¬ ¬ wP D (Hd D ((j + 1 : Nat) : Int) (-1)) = wP D (Ht D)) (h2 : ¬ wP D (Hd D ((i + 1 : Nat) : Int) (-1)) = wP D (Ht D)) : cuc D = i + 1 := by
  unfold cuc; rw [zfst_at hi h h2, if_neg (by omega)]
noncomputable def dcs (D : zBk) : Int := zfst (fun c => Ht D c ∧ ¬ wP D (Hd D 0 ((c : Nat) : Int)) = wP D (Ht D)) (D 12 0).toNat
/-! the quotient is a number -/
theorem ddiv_v {a b : Int} (hb : zr b) (h : b ≠ 0) : FP.Core.val64 (FP.ddiv (FP.i2d (Int32.ofInt a)) (FP.i2d (Int32.ofInt b))) ≠ .nan := by
  have ha := FP.Core.i2d_int (Int32.ofInt a)
  have hb2 := FP.Core.i2d_int (Int32.ofInt b)
  unfold FP.Core.DInt at ha hb2
  rw [z_toInt hb] at hb2
  show FP.Core.val64 (FP.Core.ddiv (FP.Core.i2d _) (FP.Core.i2d _)) ≠ .nan
  rw [FP.Core.val64_ddiv]
  cases hx : FP.Core.val64 (FP.Core.i2d (Int32.ofInt a)) with
  | nan => rw [hx] at ha; exact absurd ha id
  | inf => rw [hx] at ha; exact absurd ha id
  | fin s c q =>
    cases hy : FP.Core.val64 (FP.Core.i2d (Int32.ofInt b)) with
    | nan => rw [hy] at hb2; exact absurd hb2 id
    | inf => rw [hy] at hb2; exact absurd hb2 id
    | fin t d r =>
      rw [hy] at hb2
      have hd : d ≠ 0 := by
        intro e
        subst e
        have e2 : FP.Core.signed t (0 * 2 ^ r.toNat) = b * ((2 ^ (-r).toNat : Nat) : Int) := hb2
        have e3 : FP.Core.signed t (0 * 2 ^ r.toNat) = 0 := by unfold FP.Core.signed; simp
        rw [e3] at e2
        have hp : (0 : Int) < ((2 ^ (-r).toNat : Nat) : Int) := by
          have : 0 < 2 ^ (-r).toNat := Nat.pow_pos (by omega)
          omega
        rcases Int.mul_eq_zero.mp e2.symm with e | e
        · exact h e
        · omega
      show (if d = 0 then _ else FP.Core.roundRatio _ _ _ _ _) ≠ _
      rw [if_neg hd]
      unfold FP.Core.roundRatio FP.Core.roundAt FP.Core.settle FP.Core.bound
      split
      · exact fun e => by cases e
      · repeat' split
        all_goals exact fun e => by cases e
theorem ddiv_n {a b : Int} (hb : zr b) (h : b ≠ 0) : vf_n64 (FP.ddiv (FP.i2d (Int32.ofInt a)) (FP.i2d (Int32.ofInt b))) := by
  have hv := ddiv_v (a := a) hb h
  generalize FP.ddiv (FP.i2d (Int32.ofInt a)) (FP.i2d (Int32.ofInt b)) = x at hv
  unfold vf_n64
  rw [UInt64.le_iff_toNat_le]
  have e1 : (x &&& 0x7fffffffffffffff).toNat = x.toNat % 2 ^ 63 := by
    rw [UInt64.toNat_and, show (0x7fffffffffffffff : UInt64).toNat = 2 ^ 63 - 1 from rfl, Nat.and_two_pow_sub_one_eq_mod]
  rw [e1, show (0x7ff0000000000000 : UInt64).toNat = 9218868437227405312 from rfl]
  refine Nat.le_of_not_lt (fun q => hv ((FP.Core.dIsNaN_iff x).mp ?_))
  rw [FP.Core.isNaN_bits]
  exact q

set_option maxRecDepth 20000 in
set_option maxHeartbeats 2000000 in
theorem sX9_cluesUntilChange {l : Launch} {w : zW} (hfl : l.stackTraces = false) {σ : zS}  (hz : zOK σ) (hW : WF (bk σ 30)) (hP1 : 1 ≤ σ.1 31 0) : Sp l w mX9_cluesUntilChange 6 0 [zf 9 0] σ (zqv (some (zi (cuc (bk σ 30)))) (fun τ => zOK τ ∧ zSame (fun q => 252 ≤ q ∧ q ≤ 258) σ τ)) := by
  obtain ⟨Q, hQ⟩ : ∃ Q : zQ, Q = (zqv (some (zi (cuc (bk σ 30)))) (fun τ => zOK τ ∧ zSame (fun q => 252 ≤ q ∧ q ≤ 258) σ τ)) := ⟨_, rfl⟩
  rw [← hQ]
  refine zx_enter hfl (by decide) rfl 3 rfl ?_
  show zX l w mX9_cluesUntilChange (zMQ w 6 0 Q) 0 [zf 9 0, zu, zu, zu] [] 0 σ
  have hP : 0 ≤ σ.1 31 0 ∧ σ.1 31 0 ≤ 8 := hW.1.1
  have hM : 0 ≤ σ.1 31 7 ∧ σ.1 31 7 ≤ 8 := hW.1.2.1
  have hE : 0 ≤ σ.1 31 10 ∧ σ.1 31 10 ≤ 12 := hW.1.2.2.1
  have hK : 0 ≤ σ.1 42 0 ∧ σ.1 42 0 ≤ 40 := hW.1.2.2.2
  refine zx_aloadN dX9_cluesUntilChange_0 rfl rfl ?_
  refine zy_cvvR [] (sX9_judgePresent  hfl hz (by first | assumption | omega)) dX9_cluesUntilChange_1 (by decide) rfl cw_RX9_240 okX9_judgePresent rfl (Nat.le_of_ble_eq_true rfl) ⟨Nat.le_of_ble_eq_true rfl, Nat.le_of_ble_eq_true rfl, Nat.le_of_ble_eq_true rfl, Nat.le_of_ble_eq_true rfl⟩ (fun τ1 hr1 => ?_)
  have hz1 : zOK τ1 := hr1.1
  have bk1 : bk σ 30 1 0 = σ.1 31 0 := rfl
  have bk12 : bk σ 30 12 0 = σ.1 42 0 := rfl
  have jw := Jd_win hW hr1.2.2 hP1
  have jwP : (wP (bk σ 30) (Ht (bk σ 30)) : Int) < σ.1 31 0 := jw.1
  have jr := Jd_rk hr1.2.2
  have jH := hr1.2.2.2.1
  have jT := hr1.2.2.2.2.1
  have jP : τ1.1 252 5 = σ.1 31 0 := hr1.2.2.1
  have jO := hr1.2.2.2.2.2
  have j0 := jO.1 0 (by show 0 < (σ.1 31 0).toNat; omega)
  have jq : zEq (bk σ 30) (bk τ1 30) := zEq_same hr1.2.1 (by intro o ho; show ¬ (252 ≤ 30 + o ∧ 30 + o ≤ 258); omega)
  have jW := WF_eq jq hW
  have j31 : τ1.1 31 0 = σ.1 31 0 := hr1.2.1.1 31 (by dsimp only; omega) 0
  have j42 : τ1.1 42 0 = σ.1 42 0 := hr1.2.1.1 42 (by dsimp only; omega) 0
  have jb := tR_b (H := (Ht (bk σ 30))) hW jw.1
  have jy := (hW.2.1 _ jw.1).2
  have jyb : 1450 ≤ wY (bk σ 30) (Ht (bk σ 30)) ∧ wY (bk σ 30) (Ht (bk σ 30)) ≤ 1999 := by unfold wY; omega
  have jsb : 0 ≤ wS (bk σ 30) (Ht (bk σ 30)) ∧ wS (bk σ 30) (Ht (bk σ 30)) ≤ 360 := tS_b hW _
  have jw0 : 0 ≤ τ1.1 258 0 ∧ τ1.1 258 0 < 8 := by omega
  have j47 := fun i => hr1.2.1.1 47 (by dsimp only; omega) i
  have hUA : U (bk σ 30) (σ.1 42 0).toNat = zs (fun c => zb (σ.1 47 c = 0)) (σ.1 42 0).toNat := U_all hW
  have hUB := U_b (bk σ 30) (σ.1 42 0).toNat
  refine zx_aloadN dX9_cluesUntilChange_4 rfl rfl ?_
  refine zy_getR (q' := 252) fl_RX9_54 rfl dX9_cluesUntilChange_5 rfl ?_
  refine zy_cv [] (sX7_winner  hfl hz1 (by first | assumption | omega)) dX9_cluesUntilChange_8 (by decide) rfl cw_RX9_255 okX7_winner rfl (Nat.le_of_ble_eq_true rfl) ⟨Nat.le_of_ble_eq_true rfl, Nat.le_of_ble_eq_true rfl, Nat.le_of_ble_eq_true rfl, Nat.le_of_ble_eq_true rfl⟩ ?_
  refine zy_top (b := ((wP (bk σ 30) (Ht (bk σ 30)) : Nat) : Int)) (jw.2.1) ?_
  refine zy_istoreN [zf 9 0, zi ((wP (bk σ 30) (Ht (bk σ 30)) : Nat) : Int), zu, zu] dX9_cluesUntilChange_11 rfl (Nat.le_of_ble_eq_true rfl) (Nat.le_of_ble_eq_true rfl) rfl rfl ?_
  refine zx_aloadN dX9_cluesUntilChange_12 rfl rfl ?_
  refine zy_getR (q' := 30) fl_RX9_33 rfl dX9_cluesUntilChange_13 rfl ?_
  refine zy_getR (q' := 42) fl_RX9_125 rfl dX9_cluesUntilChange_16 rfl ?_
  refine zy_cv [] (sX2_unreadCount  hfl hz1 (by first | assumption | omega)) dX9_cluesUntilChange_19 (by decide) rfl cw_RX9_284 okX2_unreadCount rfl (Nat.le_of_ble_eq_true rfl) ⟨Nat.le_of_ble_eq_true rfl, Nat.le_of_ble_eq_true rfl, Nat.le_of_ble_eq_true rfl, Nat.le_of_ble_eq_true rfl⟩ ?_
  refine zy_top (b := zs (fun i => zb (0 ≤ (i : Int) ∧ (i : Int) < τ1.1 42 0 ∧ τ1.1 47 i = 0)) (τ1.1 42 0).toNat) rfl ?_
  refine zy_top (b := U (bk σ 30) (σ.1 42 0).toNat) (by rw [hUA, j42]; exact zs_congr (fun i hi => zb_c (by rw [j47 i]; omega))) ?_
  refine zy_istoreN [zf 9 0, zi ((wP (bk σ 30) (Ht (bk σ 30)) : Nat) : Int), zi (U (bk σ 30) (σ.1 42 0).toNat), zu] dX9_cluesUntilChange_22 rfl (Nat.le_of_ble_eq_true rfl) (Nat.le_of_ble_eq_true rfl) rfl rfl ?_
  refine zx_iconst dX9_cluesUntilChange_23 ?_
  refine zy_istoreN [zf 9 0, zi ((wP (bk σ 30) (Ht (bk σ 30)) : Nat) : Int), zi (U (bk σ 30) (σ.1 42 0).toNat), zi 1] dX9_cluesUntilChange_24 rfl (Nat.le_of_ble_eq_true rfl) (Nat.le_of_ble_eq_true rfl) rfl rfl ?_
  have L25 : ∀ (N : Nat) (τ : zS) (n : Nat), (zOK τ) → (zSame (fun q => 252 ≤ q ∧ q ≤ 258) σ τ) → (1 ≤ n ∧ (n : Int) ≤ U (bk σ 30) (σ.1 42 0).toNat + 1) → (∀ i, i + 1 < n → ¬ ¬ wP (bk σ 30) (Hd (bk σ 30) ((i + 1 : Nat) : Int) (-1)) = wP (bk σ 30) (Ht (bk σ 30))) → (42 - n) < N → zX l w mX9_cluesUntilChange (zMQ w 6 0 Q) 25 [zf 9 0, zi ((wP (bk σ 30) (Ht (bk σ 30)) : Nat) : Int), zi (U (bk σ 30) (σ.1 42 0).toNat), zi ((n : Nat) : Int)] [] 0 τ := by
    intro N
    induction N with
    | zero => intro τ n _ _ _ _ _; exact absurd (by assumption) (Nat.not_lt_zero _)
    | succ N ih25 =>
      intro τ n hz h1 hn hj hN
      have zq : zEq (bk σ 30) (bk τ 30) := zEq_same h1 (by intro o ho; show ¬ (252 ≤ 30 + o ∧ 30 + o ≤ 258); omega)
      have hWτ := WF_eq zq hW
      have c42 : τ.1 42 0 = σ.1 42 0 := h1.1 42 (by dsimp only; omega) 0
      have c31 : τ.1 31 0 = σ.1 31 0 := h1.1 31 (by dsimp only; omega) 0
      refine zx_iloadN dX9_cluesUntilChange_25 rfl rfl ?_
      refine zx_iloadN dX9_cluesUntilChange_26 rfl rfl ?_
      refine zx_icmp_gt (tgt := 62) (by first | exact hz _ _ | assumption | exact zr_b _ | exact zcmp_r _ _ | (unfold zr at *; omega)) (by first | exact hz _ _ | assumption | exact zr_b _ | exact zcmp_r _ _ | (unfold zr at *; omega)) dX9_cluesUntilChange_27 (by decide) (fun h27 => ?_) (fun h27 => ?_)
      · refine zx_iconst dX9_cluesUntilChange_62 ?_
        refine zx_iret rfl rfl dX9_cluesUntilChange_63 ?_
        rw [hQ]
        refine ⟨congrArg (fun z : Int => (Sum.inl (some (zi z)) : Option zV ⊕ String)) ?_, ?_⟩
        · first
          | exact (cuc_no (fun j hj2 => hj j (by have q : j < (U (bk σ 30) (σ.1 42 0).toNat).toNat := hj2; omega))).symm
          | (have e := cuc_at (D := bk σ 30) (i := n - 1) (by show n - 1 < (U (bk σ 30) (σ.1 42 0).toNat).toNat; omega) (fun j hj2 => hj j (by omega)) (by rw [show n - 1 + 1 = n by omega]; omega)
             rw [e]; omega)
        first | exact ⟨hz, h2⟩ | exact ⟨hz, h1⟩
      · refine zx_aloadN dX9_cluesUntilChange_30 rfl rfl ?_
        refine zy_getR (q' := 252) fl_RX9_54 rfl dX9_cluesUntilChange_31 rfl ?_
        refine zx_aloadN dX9_cluesUntilChange_34 rfl rfl ?_
        refine zy_getR (q' := 30) fl_RX9_33 rfl dX9_cluesUntilChange_35 rfl ?_
        refine zx_iloadN dX9_cluesUntilChange_38 rfl rfl ?_
        refine zx_iconst dX9_cluesUntilChange_39 ?_
        refine zy_cvvR [zf 1 30, zi ((n : Nat) : Int), zi (-1)] (sX7_weigh  hfl hz hWτ (by first | assumption | omega) (by first | exact hz _ _ | assumption | exact zr_b _ | exact zcmp_r _ _ | (unfold zr at *; omega))) dX9_cluesUntilChange_40 (by decide) rfl cw_RX9_280 okX7_weigh rfl (Nat.le_of_ble_eq_true rfl) ⟨Nat.le_of_ble_eq_true rfl, Nat.le_of_ble_eq_true rfl, Nat.le_of_ble_eq_true rfl, Nat.le_of_ble_eq_true rfl⟩ (fun τ40 hr40 => ?_)
        have hz40 : zOK τ40 := hr40.1
        have hJ := Jd_eq (H := Hd (bk σ 30) ((n : Nat) : Int) (-1)) zq hW (fun c hc => Hd_eq zq hW hc) hr40.2.2
        have kw := Jd_win hW hJ hP1
        have kwP : (wP (bk σ 30) (Hd (bk σ 30) ((n : Nat) : Int) (-1)) : Int) < σ.1 31 0 := kw.1
        have k5 : 1 ≤ τ40.1 252 5 ∧ τ40.1 252 5 ≤ 8 := by have := hJ.1; have e : bk σ 30 1 0 = σ.1 31 0 := rfl; omega
        have h2 : zSame (fun q => 252 ≤ q ∧ q ≤ 258) σ τ40 := (zSame_tr h1 hr40.2.1 (fun q hq => by first | omega | (dsimp only at hq ⊢; omega)))
        refine zx_aloadN dX9_cluesUntilChange_43 rfl rfl ?_
        refine zy_getR (q' := 252) fl_RX9_54 rfl dX9_cluesUntilChange_44 rfl ?_
        refine zy_cv [] (sX7_winner  hfl hz40 (by first | assumption | omega)) dX9_cluesUntilChange_47 (by decide) rfl cw_RX9_255 okX7_winner rfl (Nat.le_of_ble_eq_true rfl) ⟨Nat.le_of_ble_eq_true rfl, Nat.le_of_ble_eq_true rfl, Nat.le_of_ble_eq_true rfl, Nat.le_of_ble_eq_true rfl⟩ ?_
        refine zy_top (b := ((wP (bk σ 30) (Hd (bk σ 30) ((n : Nat) : Int) (-1)) : Nat) : Int)) (kw.2.1) ?_
        refine zx_iloadN dX9_cluesUntilChange_50 rfl rfl ?_
        refine zx_icmp_eq (tgt := 56) (by first | exact hz40 _ _ | assumption | exact zr_b _ | exact zcmp_r _ _ | (unfold zr at *; omega)) (by first | exact hz40 _ _ | assumption | exact zr_b _ | exact zcmp_r _ _ | (unfold zr at *; omega)) dX9_cluesUntilChange_51 (by decide) (fun h51 => ?_) (fun h51 => ?_)
        · refine zy_iinc (b := ((n + 1 : Nat) : Int)) [zf 9 0, zi ((wP (bk σ 30) (Ht (bk σ 30)) : Nat) : Int), zi (U (bk σ 30) (σ.1 42 0).toNat), zi ((n + 1 : Nat) : Int)] dX9_cluesUntilChange_56 rfl (by omega) (Nat.le_of_ble_eq_true rfl) rfl rfl ?_
          refine zx_goto (tgt := 25) dX9_cluesUntilChange_59 (by decide) ?_
          exact ih25 τ40 (n + 1) hz40 h2 (by omega) (fun i hi => by
                  by_cases e : i + 1 = n
                  · rw [e]; exact fun q => q (by omega)
                  · exact hj i (by omega)) (by omega)
        · refine zx_iloadN dX9_cluesUntilChange_54 rfl rfl ?_
          refine zx_iret rfl rfl dX9_cluesUntilChange_55 ?_
          rw [hQ]
          refine ⟨congrArg (fun z : Int => (Sum.inl (some (zi z)) : Option zV ⊕ String)) ?_, ?_⟩
          · first
            | exact (cuc_no (fun j hj2 => hj j (by have q : j < (U (bk σ 30) (σ.1 42 0).toNat).toNat := hj2; omega))).symm
            | (have e := cuc_at (D := bk σ 30) (i := n - 1) (by show n - 1 < (U (bk σ 30) (σ.1 42 0).toNat).toNat; omega) (fun j hj2 => hj j (by omega)) (by rw [show n - 1 + 1 = n by omega]; omega)
               rw [e]; omega)
          first | exact ⟨hz40, h2⟩ | exact ⟨hz40, h1⟩
  exact L25 _ τ1 1 hz1 hr1.2.1 (by omega) (fun i hi => by omega) (Nat.lt_succ_self _)
set_option maxRecDepth 20000 in
set_option maxHeartbeats 2000000 in
theorem sX9_decisiveClue {l : Launch} {w : zW} (hfl : l.stackTraces = false) {σ : zS}  (hz : zOK σ) (hW : WF (bk σ 30)) (hP1 : 1 ≤ σ.1 31 0) : Sp l w mX9_decisiveClue 6 0 [zf 9 0] σ (zqv (some (zi (dcs (bk σ 30)))) (fun τ => zOK τ ∧ zSame (fun q => 252 ≤ q ∧ q ≤ 258) σ τ)) := by
  obtain ⟨Q, hQ⟩ : ∃ Q : zQ, Q = (zqv (some (zi (dcs (bk σ 30)))) (fun τ => zOK τ ∧ zSame (fun q => 252 ≤ q ∧ q ≤ 258) σ τ)) := ⟨_, rfl⟩
  rw [← hQ]
  refine zx_enter hfl (by decide) rfl 2 rfl ?_
  show zX l w mX9_decisiveClue (zMQ w 6 0 Q) 0 [zf 9 0, zu, zu] [] 0 σ
  have hP : 0 ≤ σ.1 31 0 ∧ σ.1 31 0 ≤ 8 := hW.1.1
  have hM : 0 ≤ σ.1 31 7 ∧ σ.1 31 7 ≤ 8 := hW.1.2.1
  have hE : 0 ≤ σ.1 31 10 ∧ σ.1 31 10 ≤ 12 := hW.1.2.2.1
  have hK : 0 ≤ σ.1 42 0 ∧ σ.1 42 0 ≤ 40 := hW.1.2.2.2
  refine zx_aloadN dX9_decisiveClue_0 rfl rfl ?_
  refine zy_cvvR [] (sX9_judgePresent  hfl hz (by first | assumption | omega)) dX9_decisiveClue_1 (by decide) rfl cw_RX9_240 okX9_judgePresent rfl (Nat.le_of_ble_eq_true rfl) ⟨Nat.le_of_ble_eq_true rfl, Nat.le_of_ble_eq_true rfl, Nat.le_of_ble_eq_true rfl, Nat.le_of_ble_eq_true rfl⟩ (fun τ1 hr1 => ?_)
  have hz1 : zOK τ1 := hr1.1
  have bk1 : bk σ 30 1 0 = σ.1 31 0 := rfl
  have bk12 : bk σ 30 12 0 = σ.1 42 0 := rfl
  have jw := Jd_win hW hr1.2.2 hP1
  have jwP : (wP (bk σ 30) (Ht (bk σ 30)) : Int) < σ.1 31 0 := jw.1
  have jr := Jd_rk hr1.2.2
  have jH := hr1.2.2.2.1
  have jT := hr1.2.2.2.2.1
  have jP : τ1.1 252 5 = σ.1 31 0 := hr1.2.2.1
  have jO := hr1.2.2.2.2.2
  have j0 := jO.1 0 (by show 0 < (σ.1 31 0).toNat; omega)
  have jq : zEq (bk σ 30) (bk τ1 30) := zEq_same hr1.2.1 (by intro o ho; show ¬ (252 ≤ 30 + o ∧ 30 + o ≤ 258); omega)
  have jW := WF_eq jq hW
  have j31 : τ1.1 31 0 = σ.1 31 0 := hr1.2.1.1 31 (by dsimp only; omega) 0
  have j42 : τ1.1 42 0 = σ.1 42 0 := hr1.2.1.1 42 (by dsimp only; omega) 0
  have jb := tR_b (H := (Ht (bk σ 30))) hW jw.1
  have jy := (hW.2.1 _ jw.1).2
  have jyb : 1450 ≤ wY (bk σ 30) (Ht (bk σ 30)) ∧ wY (bk σ 30) (Ht (bk σ 30)) ≤ 1999 := by unfold wY; omega
  have jsb : 0 ≤ wS (bk σ 30) (Ht (bk σ 30)) ∧ wS (bk σ 30) (Ht (bk σ 30)) ≤ 360 := tS_b hW _
  have jw0 : 0 ≤ τ1.1 258 0 ∧ τ1.1 258 0 < 8 := by omega
  refine zx_aloadN dX9_decisiveClue_4 rfl rfl ?_
  refine zy_getR (q' := 252) fl_RX9_54 rfl dX9_decisiveClue_5 rfl ?_
  refine zy_cv [] (sX7_winner  hfl hz1 (by first | assumption | omega)) dX9_decisiveClue_8 (by decide) rfl cw_RX9_255 okX7_winner rfl (Nat.le_of_ble_eq_true rfl) ⟨Nat.le_of_ble_eq_true rfl, Nat.le_of_ble_eq_true rfl, Nat.le_of_ble_eq_true rfl, Nat.le_of_ble_eq_true rfl⟩ ?_
  refine zy_top (b := ((wP (bk σ 30) (Ht (bk σ 30)) : Nat) : Int)) (jw.2.1) ?_
  refine zy_istoreN [zf 9 0, zi ((wP (bk σ 30) (Ht (bk σ 30)) : Nat) : Int), zu] dX9_decisiveClue_11 rfl (Nat.le_of_ble_eq_true rfl) (Nat.le_of_ble_eq_true rfl) rfl rfl ?_
  refine zx_iconst dX9_decisiveClue_12 ?_
  refine zy_istoreN [zf 9 0, zi ((wP (bk σ 30) (Ht (bk σ 30)) : Nat) : Int), zi 0] dX9_decisiveClue_13 rfl (Nat.le_of_ble_eq_true rfl) (Nat.le_of_ble_eq_true rfl) rfl rfl ?_
  have L14 : ∀ (N : Nat) (τ : zS) (c : Nat), (zOK τ) → (zSame (fun q => 252 ≤ q ∧ q ≤ 258) σ τ) → ((c : Int) ≤ σ.1 42 0) → (∀ i, i < c → ¬ (Ht (bk σ 30) i ∧ ¬ wP (bk σ 30) (Hd (bk σ 30) 0 ((i : Nat) : Int)) = wP (bk σ 30) (Ht (bk σ 30)))) → (41 - c) < N → zX l w mX9_decisiveClue (zMQ w 6 0 Q) 14 [zf 9 0, zi ((wP (bk σ 30) (Ht (bk σ 30)) : Nat) : Int), zi ((c : Nat) : Int)] [] 0 τ := by
    intro N
    induction N with
    | zero => intro τ c _ _ _ _ _; exact absurd (by assumption) (Nat.not_lt_zero _)
    | succ N ih14 =>
      intro τ c hz h1 hc hj hN
      have zq : zEq (bk σ 30) (bk τ 30) := zEq_same h1 (by intro o ho; show ¬ (252 ≤ 30 + o ∧ 30 + o ≤ 258); omega)
      have hWτ := WF_eq zq hW
      have c42 : τ.1 42 0 = σ.1 42 0 := h1.1 42 (by dsimp only; omega) 0
      have c31 : τ.1 31 0 = σ.1 31 0 := h1.1 31 (by dsimp only; omega) 0
      refine zx_iloadN dX9_decisiveClue_14 rfl rfl ?_
      refine zx_aloadN dX9_decisiveClue_15 rfl rfl ?_
      refine zy_getR (q' := 30) fl_RX9_33 rfl dX9_decisiveClue_16 rfl ?_
      refine zy_getR (q' := 42) fl_RX9_125 rfl dX9_decisiveClue_19 rfl ?_
      refine zy_getI fl_RX9_129 rfl dX9_decisiveClue_22 rfl ?_
      refine zx_icmp_ge (tgt := 74) (by first | exact hz _ _ | assumption | exact zr_b _ | exact zcmp_r _ _ | (unfold zr at *; omega)) (by first | exact hz _ _ | assumption | exact zr_b _ | exact zcmp_r _ _ | (unfold zr at *; omega)) dX9_decisiveClue_25 (by decide) (fun h25 => ?_) (fun h25 => ?_)
      · refine zx_iconst dX9_decisiveClue_74 ?_
        refine zx_iret rfl rfl dX9_decisiveClue_75 ?_
        rw [hQ]
        refine ⟨congrArg (fun z : Int => (Sum.inl (some (zi z)) : Option zV ⊕ String)) ?_, ?_⟩
        · unfold dcs
          first
          | exact (zfst_no (fun j hj2 => hj j (by have q : j < (σ.1 42 0).toNat := hj2; omega))).symm
          | exact (zfst_at (by show c < (σ.1 42 0).toNat; omega) hj ⟨q1.mpr h39.2.2, by omega⟩).symm
        first | exact ⟨hz, h2⟩ | exact ⟨hz, h1⟩
      · refine zx_aloadN dX9_decisiveClue_28 rfl rfl ?_
        refine zy_getR (q' := 30) fl_RX9_33 rfl dX9_decisiveClue_29 rfl ?_
        refine zy_getR (q' := 42) fl_RX9_125 rfl dX9_decisiveClue_32 rfl ?_
        refine zx_iloadN dX9_decisiveClue_35 rfl rfl ?_
        refine zy_cv [zi ((c : Nat) : Int)] (sX2_counts  hfl hz (by first | exact hz _ _ | assumption | exact zr_b _ | exact zcmp_r _ _ | (unfold zr at *; omega)) (by first | assumption | omega)) dX9_decisiveClue_36 (by decide) rfl cw_RX9_233 okX2_counts rfl (Nat.le_of_ble_eq_true rfl) ⟨Nat.le_of_ble_eq_true rfl, Nat.le_of_ble_eq_true rfl, Nat.le_of_ble_eq_true rfl, Nat.le_of_ble_eq_true rfl⟩ ?_
        refine zy_top (b := zb (0 ≤ ((c : Nat) : Int) ∧ ((c : Nat) : Int) < τ.1 42 0 ∧ ¬ τ.1 47 c = 0 ∧ τ.1 48 c = 0)) rfl ?_
        have c47 := h1.1 47 (by dsimp only; omega) c
        have c48 := h1.1 48 (by dsimp only; omega) c
        have q1 : Ht (bk σ 30) c ↔ (¬ τ.1 47 c = 0 ∧ τ.1 48 c = 0) := by rw [c47, c48]; exact Iff.rfl
        refine zx_if_eq (tgt := 68) (by first | exact hz _ _ | assumption | exact zr_b _ | exact zcmp_r _ _ | (unfold zr at *; omega)) dX9_decisiveClue_39 (by decide) (fun h39 => ?_) (fun h39 => ?_)
        · have h39 := zb_0.mp h39
          refine zy_iinc (b := ((c + 1 : Nat) : Int)) [zf 9 0, zi ((wP (bk σ 30) (Ht (bk σ 30)) : Nat) : Int), zi ((c + 1 : Nat) : Int)] dX9_decisiveClue_68 rfl (by omega) (Nat.le_of_ble_eq_true rfl) rfl rfl ?_
          refine zx_goto (tgt := 14) dX9_decisiveClue_71 (by decide) ?_
          exact ih14 τ (c + 1) hz (by first | exact h2 | exact h1) (by first | assumption | omega) (lt_s hj (fun q => by first | exact q.2 (by omega) | exact h39 ⟨by omega, by omega, q1.mp q.1⟩)) (by omega)
        · have h39 := zb_n.mp h39
          refine zx_aloadN dX9_decisiveClue_42 rfl rfl ?_
          refine zy_getR (q' := 252) fl_RX9_54 rfl dX9_decisiveClue_43 rfl ?_
          refine zx_aloadN dX9_decisiveClue_46 rfl rfl ?_
          refine zy_getR (q' := 30) fl_RX9_33 rfl dX9_decisiveClue_47 rfl ?_
          refine zx_iconst dX9_decisiveClue_50 ?_
          refine zx_iloadN dX9_decisiveClue_51 rfl rfl ?_
          refine zy_cvvR [zf 1 30, zi 0, zi ((c : Nat) : Int)] (sX7_weigh  hfl hz hWτ (by omega) (by first | exact hz _ _ | assumption | exact zr_b _ | exact zcmp_r _ _ | (unfold zr at *; omega))) dX9_decisiveClue_52 (by decide) rfl cw_RX9_280 okX7_weigh rfl (Nat.le_of_ble_eq_true rfl) ⟨Nat.le_of_ble_eq_true rfl, Nat.le_of_ble_eq_true rfl, Nat.le_of_ble_eq_true rfl, Nat.le_of_ble_eq_true rfl⟩ (fun τ52 hr52 => ?_)
          have hz52 : zOK τ52 := hr52.1
          have hJ := Jd_eq (H := Hd (bk σ 30) 0 ((c : Nat) : Int)) zq hW (fun c hc => Hd_eq zq hW hc) hr52.2.2
          have kw := Jd_win hW hJ hP1
          have kwP : (wP (bk σ 30) (Hd (bk σ 30) 0 ((c : Nat) : Int)) : Int) < σ.1 31 0 := kw.1
          have k5 : 1 ≤ τ52.1 252 5 ∧ τ52.1 252 5 ≤ 8 := by have := hJ.1; have e : bk σ 30 1 0 = σ.1 31 0 := rfl; omega
          have h2 : zSame (fun q => 252 ≤ q ∧ q ≤ 258) σ τ52 := (zSame_tr h1 hr52.2.1 (fun q hq => by first | omega | (dsimp only at hq ⊢; omega)))
          refine zx_aloadN dX9_decisiveClue_55 rfl rfl ?_
          refine zy_getR (q' := 252) fl_RX9_54 rfl dX9_decisiveClue_56 rfl ?_
          refine zy_cv [] (sX7_winner  hfl hz52 (by first | assumption | omega)) dX9_decisiveClue_59 (by decide) rfl cw_RX9_255 okX7_winner rfl (Nat.le_of_ble_eq_true rfl) ⟨Nat.le_of_ble_eq_true rfl, Nat.le_of_ble_eq_true rfl, Nat.le_of_ble_eq_true rfl, Nat.le_of_ble_eq_true rfl⟩ ?_
          refine zy_top (b := ((wP (bk σ 30) (Hd (bk σ 30) 0 ((c : Nat) : Int)) : Nat) : Int)) (kw.2.1) ?_
          refine zx_iloadN dX9_decisiveClue_62 rfl rfl ?_
          refine zx_icmp_eq (tgt := 68) (by first | exact hz52 _ _ | assumption | exact zr_b _ | exact zcmp_r _ _ | (unfold zr at *; omega)) (by first | exact hz52 _ _ | assumption | exact zr_b _ | exact zcmp_r _ _ | (unfold zr at *; omega)) dX9_decisiveClue_63 (by decide) (fun h63 => ?_) (fun h63 => ?_)
          · refine zy_iinc (b := ((c + 1 : Nat) : Int)) [zf 9 0, zi ((wP (bk σ 30) (Ht (bk σ 30)) : Nat) : Int), zi ((c + 1 : Nat) : Int)] dX9_decisiveClue_68 rfl (by omega) (Nat.le_of_ble_eq_true rfl) rfl rfl ?_
            refine zx_goto (tgt := 14) dX9_decisiveClue_71 (by decide) ?_
            exact ih14 τ52 (c + 1) hz52 (by first | exact h2 | exact h1) (by first | assumption | omega) (lt_s hj (fun q => by first | exact q.2 (by omega) | exact h39 ⟨by omega, by omega, q1.mp q.1⟩)) (by omega)
          · refine zx_iloadN dX9_decisiveClue_66 rfl rfl ?_
            refine zx_iret rfl rfl dX9_decisiveClue_67 ?_
            rw [hQ]
            refine ⟨congrArg (fun z : Int => (Sum.inl (some (zi z)) : Option zV ⊕ String)) ?_, ?_⟩
            · unfold dcs
              first
              | exact (zfst_no (fun j hj2 => hj j (by have q : j < (σ.1 42 0).toNat := hj2; omega))).symm
              | exact (zfst_at (by show c < (σ.1 42 0).toNat; omega) hj ⟨q1.mpr h39.2.2, by omega⟩).symm
            first | exact ⟨hz52, h2⟩ | exact ⟨hz52, h1⟩
  exact L14 _ τ1 0 hz1 hr1.2.1 (by first | assumption | omega) lt_0 (Nat.lt_succ_self _)
set_option maxRecDepth 20000 in
set_option maxHeartbeats 2000000 in
theorem sX9_rankingErrors {l : Launch} {w : zW} (hfl : l.stackTraces = false) {σ : zS}  (hz : zOK σ) (hW : WF (bk σ 30)) (hP1 : 1 ≤ σ.1 31 0) : Sp l w mX9_rankingErrors 6 0 [zf 9 0] σ (zqv (some (zi 0)) (fun τ => zOK τ ∧ zSame (fun q => 252 ≤ q ∧ q ≤ 258) σ τ)) := by
  obtain ⟨Q, hQ⟩ : ∃ Q : zQ, Q = (zqv (some (zi 0)) (fun τ => zOK τ ∧ zSame (fun q => 252 ≤ q ∧ q ≤ 258) σ τ)) := ⟨_, rfl⟩
  rw [← hQ]
  refine zx_enter hfl (by decide) rfl 3 rfl ?_
  show zX l w mX9_rankingErrors (zMQ w 6 0 Q) 0 [zf 9 0, zu, zu, zu] [] 0 σ
  have hP : 0 ≤ σ.1 31 0 ∧ σ.1 31 0 ≤ 8 := hW.1.1
  have hM : 0 ≤ σ.1 31 7 ∧ σ.1 31 7 ≤ 8 := hW.1.2.1
  have hE : 0 ≤ σ.1 31 10 ∧ σ.1 31 10 ≤ 12 := hW.1.2.2.1
  have hK : 0 ≤ σ.1 42 0 ∧ σ.1 42 0 ≤ 40 := hW.1.2.2.2
  refine zx_aloadN dX9_rankingErrors_0 rfl rfl ?_
  refine zy_cvvR [] (sX9_judgePresent  hfl hz (by first | assumption | omega)) dX9_rankingErrors_1 (by decide) rfl cw_RX9_240 okX9_judgePresent rfl (Nat.le_of_ble_eq_true rfl) ⟨Nat.le_of_ble_eq_true rfl, Nat.le_of_ble_eq_true rfl, Nat.le_of_ble_eq_true rfl, Nat.le_of_ble_eq_true rfl⟩ (fun τ1 hr1 => ?_)
  have hz1 : zOK τ1 := hr1.1
  have bk1 : bk σ 30 1 0 = σ.1 31 0 := rfl
  have bk12 : bk σ 30 12 0 = σ.1 42 0 := rfl
  have jw := Jd_win hW hr1.2.2 hP1
  have jwP : (wP (bk σ 30) (Ht (bk σ 30)) : Int) < σ.1 31 0 := jw.1
  have jr := Jd_rk hr1.2.2
  have jH := hr1.2.2.2.1
  have jT := hr1.2.2.2.2.1
  have jP : τ1.1 252 5 = σ.1 31 0 := hr1.2.2.1
  have jO := hr1.2.2.2.2.2
  have j0 := jO.1 0 (by show 0 < (σ.1 31 0).toNat; omega)
  have jq : zEq (bk σ 30) (bk τ1 30) := zEq_same hr1.2.1 (by intro o ho; show ¬ (252 ≤ 30 + o ∧ 30 + o ≤ 258); omega)
  have jW := WF_eq jq hW
  have j31 : τ1.1 31 0 = σ.1 31 0 := hr1.2.1.1 31 (by dsimp only; omega) 0
  have j42 : τ1.1 42 0 = σ.1 42 0 := hr1.2.1.1 42 (by dsimp only; omega) 0
  have jb := tR_b (H := (Ht (bk σ 30))) hW jw.1
  have jy := (hW.2.1 _ jw.1).2
  have jyb : 1450 ≤ wY (bk σ 30) (Ht (bk σ 30)) ∧ wY (bk σ 30) (Ht (bk σ 30)) ≤ 1999 := by unfold wY; omega
  have jsb : 0 ≤ wS (bk σ 30) (Ht (bk σ 30)) ∧ wS (bk σ 30) (Ht (bk σ 30)) ≤ 360 := tS_b hW _
  have jw0 : 0 ≤ τ1.1 258 0 ∧ τ1.1 258 0 < 8 := by omega
  have hcw := cW_e hW hP1
  have hwb := wt_b hW (opn (bk σ 30))
  have j46 := fun i => hr1.2.1.1 46 (by dsimp only; omega) i
  refine zx_iconst dX9_rankingErrors_4 ?_
  refine zy_istoreN [zf 9 0, zi 0, zu, zu] dX9_rankingErrors_5 rfl (Nat.le_of_ble_eq_true rfl) (Nat.le_of_ble_eq_true rfl) rfl rfl ?_
  refine zx_iconst dX9_rankingErrors_6 ?_
  refine zy_istoreN [zf 9 0, zi 0, zi 1, zu] dX9_rankingErrors_7 rfl (Nat.le_of_ble_eq_true rfl) (Nat.le_of_ble_eq_true rfl) rfl rfl ?_
  have L8 : ∀ (N : Nat) (r : Nat), (1 ≤ r ∧ (r : Int) ≤ max 1 (σ.1 31 0)) → (9 - r) < N → zX l w mX9_rankingErrors (zMQ w 6 0 Q) 8 [zf 9 0, zi 0, zi ((r : Nat) : Int), zu] [] 0 τ1 := by
    intro N
    induction N with
    | zero => intro r _ _; exact absurd (by assumption) (Nat.not_lt_zero _)
    | succ N ih8 =>
      intro r hr_ hN
      refine zx_iloadN dX9_rankingErrors_8 rfl rfl ?_
      refine zx_aloadN dX9_rankingErrors_9 rfl rfl ?_
      refine zy_getR (q' := 30) fl_RX9_33 rfl dX9_rankingErrors_10 rfl ?_
      refine zy_getR (q' := 31) fl_RX9_134 rfl dX9_rankingErrors_13 rfl ?_
      refine zy_getI fl_RX9_160 rfl dX9_rankingErrors_16 rfl ?_
      refine zx_icmp_ge (tgt := 42) (by first | exact hz1 _ _ | assumption | exact zr_b _ | exact zcmp_r _ _ | (unfold zr at *; omega)) (by first | exact hz1 _ _ | assumption | exact zr_b _ | exact zcmp_r _ _ | (unfold zr at *; omega)) dX9_rankingErrors_19 (by decide) (fun h19 => ?_) (fun h19 => ?_)
      · refine zx_aloadN dX9_rankingErrors_42 rfl rfl ?_
        refine zy_getR (q' := 252) fl_RX9_54 rfl dX9_rankingErrors_43 rfl ?_
        refine zy_cv [] (sX7_winningScore  hfl hz1 (by first | assumption | omega) (by first | assumption | omega)) dX9_rankingErrors_46 (by decide) rfl cw_RX9_261 okX7_winningScore rfl (Nat.le_of_ble_eq_true rfl) ⟨Nat.le_of_ble_eq_true rfl, Nat.le_of_ble_eq_true rfl, Nat.le_of_ble_eq_true rfl, Nat.le_of_ble_eq_true rfl⟩ ?_
        refine zy_top (b := wS (bk σ 30) (Ht (bk σ 30))) (by rw [jw.2.1]; exact jw.2.2.2) ?_
        refine zy_istoreN [zf 9 0, zi 0, zi (wS (bk σ 30) (Ht (bk σ 30))), zu] dX9_rankingErrors_49 rfl (Nat.le_of_ble_eq_true rfl) (Nat.le_of_ble_eq_true rfl) rfl rfl ?_
        refine zx_iconst dX9_rankingErrors_50 ?_
        refine zy_istoreN [zf 9 0, zi 0, zi (wS (bk σ 30) (Ht (bk σ 30))), zi 0] dX9_rankingErrors_51 rfl (Nat.le_of_ble_eq_true rfl) (Nat.le_of_ble_eq_true rfl) rfl rfl ?_
        have L52 : ∀ (N : Nat) (c : Nat) (acc : Int), ((c : Int) ≤ σ.1 42 0) → (acc = wS (bk σ 30) (Ht (bk σ 30)) + zs (fun c => zif (opn (bk σ 30) c) (bk σ 30 16 c)) c) → (41 - c) < N → zX l w mX9_rankingErrors (zMQ w 6 0 Q) 52 [zf 9 0, zi 0, zi acc, zi ((c : Nat) : Int)] [] 0 τ1 := by
          intro N
          induction N with
          | zero => intro c acc _ _ _; exact absurd (by assumption) (Nat.not_lt_zero _)
          | succ N ih52 =>
            intro c acc hc hacc hN
            have hab : 0 ≤ zs (fun c => zif (opn (bk σ 30) c) (bk σ 30 16 c)) c ∧ zs (fun c => zif (opn (bk σ 30) c) (bk σ 30 16 c)) c ≤ (c : Int) * 9 := zs_bnd (by omega) (fun i hi => by
              by_cases q : opn (bk σ 30) i
              · rw [zif_t q]; have := (hW.2.2.2.2.1 i (by show (i : Int) < σ.1 42 0; omega)).2.2.1; omega
              · rw [zif_f q]; omega)
            have hzc : zr (cW (bk σ 30)) := by have := cW_b hW; unfold zr; omega
            refine zx_iloadN dX9_rankingErrors_52 rfl rfl ?_
            refine zx_aloadN dX9_rankingErrors_53 rfl rfl ?_
            refine zy_getR (q' := 30) fl_RX9_33 rfl dX9_rankingErrors_54 rfl ?_
            refine zy_getR (q' := 42) fl_RX9_125 rfl dX9_rankingErrors_57 rfl ?_
            refine zy_getI fl_RX9_129 rfl dX9_rankingErrors_60 rfl ?_
            refine zx_icmp_ge (tgt := 102) (by first | exact hz1 _ _ | assumption | exact zr_b _ | exact zcmp_r _ _ | (unfold zr at *; omega)) (by first | exact hz1 _ _ | assumption | exact zr_b _ | exact zcmp_r _ _ | (unfold zr at *; omega)) dX9_rankingErrors_63 (by decide) (fun h63 => ?_) (fun h63 => ?_)
            · refine zx_iloadN dX9_rankingErrors_102 rfl rfl ?_
              refine zx_aloadN dX9_rankingErrors_103 rfl rfl ?_
              refine zy_cv [] (sX9_countingWeight  hfl hz1 jW) dX9_rankingErrors_104 (by decide) rfl cw_RX9_290 okX9_countingWeight rfl (Nat.le_of_ble_eq_true rfl) ⟨Nat.le_of_ble_eq_true rfl, Nat.le_of_ble_eq_true rfl, Nat.le_of_ble_eq_true rfl, Nat.le_of_ble_eq_true rfl⟩ ?_
              refine zy_top (b := cW (bk σ 30)) (cW_zeq jq hW) ?_
              refine zx_icmp_ne (tgt := 114) (by first | exact hz1 _ _ | assumption | exact zr_b _ | exact zcmp_r _ _ | (unfold zr at *; omega)) (by first | exact hz1 _ _ | assumption | exact zr_b _ | exact zcmp_r _ _ | (unfold zr at *; omega)) dX9_rankingErrors_107 (by decide) (fun h107 => ?_) (fun h107 => ?_)
              · exfalso; have e : c = (bk σ 30 12 0).toNat := by (show c = (σ.1 42 0).toNat; omega)
                rw [e] at hacc; omega
              · refine zx_iloadN dX9_rankingErrors_110 rfl rfl ?_
                refine zx_goto (tgt := 117) dX9_rankingErrors_111 (by decide) ?_
                refine zx_iret rfl rfl dX9_rankingErrors_117 ?_
                rw [hQ]
                refine ⟨congrArg (fun z : Int => (Sum.inl (some (zi z)) : Option zV ⊕ String)) ?_, ?_⟩
                · rfl
                exact ⟨hz1, hr1.2.1⟩
            · refine zx_aloadN dX9_rankingErrors_66 rfl rfl ?_
              refine zy_getR (q' := 252) fl_RX9_54 rfl dX9_rankingErrors_67 rfl ?_
              refine zx_aloadN dX9_rankingErrors_70 rfl rfl ?_
              refine zy_getR (q' := 30) fl_RX9_33 rfl dX9_rankingErrors_71 rfl ?_
              refine zx_iloadN dX9_rankingErrors_74 rfl rfl ?_
              refine zy_cv [zf 1 30, zi ((c : Nat) : Int)] (sX7_leavesOpen (h := (Ht (bk σ 30) c)) (u := (wP (bk σ 30) (Ht (bk σ 30)))) hfl hz1 jW (by first | assumption | omega) jw.2.1 (by omega) (by omega) (jH c (by show ((c : Nat) : Int) < σ.1 42 0; omega))) dX9_rankingErrors_75 (by decide) rfl cw_RX9_267 okX7_leavesOpen rfl (Nat.le_of_ble_eq_true rfl) ⟨Nat.le_of_ble_eq_true rfl, Nat.le_of_ble_eq_true rfl, Nat.le_of_ble_eq_true rfl, Nat.le_of_ble_eq_true rfl⟩ ?_
              refine zy_top (b := zb (opn (bk σ 30) c)) (by rw [jw.2.2.1]; exact zb_c (by unfold opn; rw [cFit_eq jq hW jw.1 (show ((c : Nat) : Int) < σ.1 42 0 by omega)])) ?_
              refine zx_if_eq (tgt := 96) (by first | exact hz1 _ _ | assumption | exact zr_b _ | exact zcmp_r _ _ | (unfold zr at *; omega)) dX9_rankingErrors_78 (by decide) (fun h78 => ?_) (fun h78 => ?_)
              · have h78 := zb_0.mp h78
                refine zy_iinc (b := ((c + 1 : Nat) : Int)) [zf 9 0, zi 0, zi acc, zi ((c + 1 : Nat) : Int)] dX9_rankingErrors_96 rfl (by omega) (Nat.le_of_ble_eq_true rfl) rfl rfl ?_
                refine zx_goto (tgt := 52) dX9_rankingErrors_99 (by decide) ?_
                exact ih52 (c + 1) acc (by first | assumption | omega) (by
                        rw [zs_s]
                        first
                        | (rw [zif_t h78]; have q := j46 c; show _ = _ + (_ + σ.1 46 c); omega)
                        | (rw [zif_f h78]; omega)) (by omega)
              · have h78 := zb_n.mp h78
                refine zx_iloadN dX9_rankingErrors_81 rfl rfl ?_
                refine zx_aloadN dX9_rankingErrors_82 rfl rfl ?_
                refine zy_getR (q' := 30) fl_RX9_33 rfl dX9_rankingErrors_83 rfl ?_
                refine zy_getR (q' := 42) fl_RX9_125 rfl dX9_rankingErrors_86 rfl ?_
                refine zy_getR (q' := 46) fl_RX9_216 rfl dX9_rankingErrors_89 rfl ?_
                refine zx_iloadN dX9_rankingErrors_92 rfl rfl ?_
                refine zy_iald (v := τ1.1 46 c) rfl (by decide) (by decide) dX9_rankingErrors_93 (by omega) (by omega) rfl ?_
                refine zx_iadd dX9_rankingErrors_94 ?_
                refine zy_istoreN [zf 9 0, zi 0, zi (acc + (τ1.1 46 c)), zi ((c : Nat) : Int)] dX9_rankingErrors_95 rfl (Nat.le_of_ble_eq_true rfl) (Nat.le_of_ble_eq_true rfl) rfl rfl ?_
                refine zy_iinc (b := ((c + 1 : Nat) : Int)) [zf 9 0, zi 0, zi (acc + (τ1.1 46 c)), zi ((c + 1 : Nat) : Int)] dX9_rankingErrors_96 rfl (by omega) (Nat.le_of_ble_eq_true rfl) rfl rfl ?_
                refine zx_goto (tgt := 52) dX9_rankingErrors_99 (by decide) ?_
                exact ih52 (c + 1) (acc + (τ1.1 46 c)) (by first | assumption | omega) (by
                        rw [zs_s]
                        first
                        | (rw [zif_t h78]; have q := j46 c; show _ = _ + (_ + σ.1 46 c); omega)
                        | (rw [zif_f h78]; omega)) (by omega)
        exact L52 _ 0 (wS (bk σ 30) (Ht (bk σ 30))) (by first | assumption | omega) (by show _ = _ + 0; omega) (Nat.lt_succ_self _)
      · have o1 := jO.2.1 (r - 1) r (by omega) (by show r < (σ.1 31 0).toNat; omega)
        have oa := jO.1 (r - 1) (by show r - 1 < (σ.1 31 0).toNat; omega)
        have ob := jO.1 r (by show r < (σ.1 31 0).toNat; omega)
        have oP : ((bk σ 30 1 0).toNat : Int) = σ.1 31 0 := by show ((σ.1 31 0).toNat : Int) = _; omega
        have ta := (jT (τ1.1 258 (r - 1)).toNat (by show (((τ1.1 258 (r - 1)).toNat : Nat) : Int) < σ.1 31 0; omega)).2.1
        have tb := (jT (τ1.1 258 r).toNat (by show (((τ1.1 258 r).toNat : Nat) : Int) < σ.1 31 0; omega)).2.1
        refine zx_aloadN dX9_rankingErrors_22 rfl rfl ?_
        refine zy_getR (q' := 252) fl_RX9_54 rfl dX9_rankingErrors_23 rfl ?_
        refine zx_iloadN dX9_rankingErrors_26 rfl rfl ?_
        refine zy_cv [zi ((r : Nat) : Int)] (sX7_isInOrder  hfl hz1 (by first | assumption | omega) (by first | assumption | omega) (by first | assumption | omega) (by first | assumption | omega)) dX9_rankingErrors_27 (by decide) rfl cw_RX9_287 okX7_isInOrder rfl (Nat.le_of_ble_eq_true rfl) ⟨Nat.le_of_ble_eq_true rfl, Nat.le_of_ble_eq_true rfl, Nat.le_of_ble_eq_true rfl, Nat.le_of_ble_eq_true rfl⟩ ?_
        refine zy_top (b := 1) (zb_t (by have o2 := o1; unfold ordR at o2 ⊢; dsimp only; rw [ta, tb]; exact o2)) ?_
        refine zx_if_ne (tgt := 36) (by unfold zr; omega) dX9_rankingErrors_30 (by decide) (fun h30 => ?_) (fun h30 => ?_)
        · refine zy_iinc (b := ((r + 1 : Nat) : Int)) [zf 9 0, zi 0, zi ((r + 1 : Nat) : Int), zu] dX9_rankingErrors_36 rfl (by omega) (Nat.le_of_ble_eq_true rfl) rfl rfl ?_
          refine zx_goto (tgt := 8) dX9_rankingErrors_39 (by decide) ?_
          exact ih8 (r + 1) (by omega) (by omega)
        · exact absurd h30 (by decide)
  exact L8 _ 1 (by omega) (Nat.lt_succ_self _)
set_option maxRecDepth 20000 in
set_option maxHeartbeats 2000000 in
theorem sX9_confidence {l : Launch} {w : zW} (hfl : l.stackTraces = false) {σ : zS}  (hz : zOK σ) (hW : WF (bk σ 30)) (hP1 : 1 ≤ σ.1 31 0) : Sp l w mX9_confidence 6 0 [zf 9 0] σ (zqv (some (zd (cfd (bk σ 30)))) (fun τ => zOK τ ∧ zSame (fun q => 252 ≤ q ∧ q ≤ 258) σ τ)) := by
  obtain ⟨Q, hQ⟩ : ∃ Q : zQ, Q = (zqv (some (zd (cfd (bk σ 30)))) (fun τ => zOK τ ∧ zSame (fun q => 252 ≤ q ∧ q ≤ 258) σ τ)) := ⟨_, rfl⟩
  rw [← hQ]
  refine zx_enter hfl (by decide) rfl 1 rfl ?_
  show zX l w mX9_confidence (zMQ w 6 0 Q) 0 [zf 9 0, zu] [] 0 σ
  have hP : 0 ≤ σ.1 31 0 ∧ σ.1 31 0 ≤ 8 := hW.1.1
  have hM : 0 ≤ σ.1 31 7 ∧ σ.1 31 7 ≤ 8 := hW.1.2.1
  have hE : 0 ≤ σ.1 31 10 ∧ σ.1 31 10 ≤ 12 := hW.1.2.2.1
  have hK : 0 ≤ σ.1 42 0 ∧ σ.1 42 0 ≤ 40 := hW.1.2.2.2
  have hcb := cW_b hW
  refine zx_aloadN dX9_confidence_0 rfl rfl ?_
  refine zy_cv [] (sX9_countingWeight  hfl hz (by first | assumption | omega)) dX9_confidence_1 (by decide) rfl cw_RX9_290 okX9_countingWeight rfl (Nat.le_of_ble_eq_true rfl) ⟨Nat.le_of_ble_eq_true rfl, Nat.le_of_ble_eq_true rfl, Nat.le_of_ble_eq_true rfl, Nat.le_of_ble_eq_true rfl⟩ ?_
  refine zy_istoreN [zf 9 0, zi (cW (bk σ 30))] dX9_confidence_4 rfl (Nat.le_of_ble_eq_true rfl) (Nat.le_of_ble_eq_true rfl) rfl rfl ?_
  refine zx_iloadN dX9_confidence_5 rfl rfl ?_
  refine zx_if_gt (tgt := 11) (by first | exact hz _ _ | assumption | exact zr_b _ | exact zcmp_r _ _ | (unfold zr at *; omega)) dX9_confidence_6 (by decide) (fun h6 => ?_) (fun h6 => ?_)
  · refine zx_aloadN dX9_confidence_11 rfl rfl ?_
    refine zy_cvvR [] (sX9_judgePresent  hfl hz (by first | assumption | omega)) dX9_confidence_12 (by decide) rfl cw_RX9_240 okX9_judgePresent rfl (Nat.le_of_ble_eq_true rfl) ⟨Nat.le_of_ble_eq_true rfl, Nat.le_of_ble_eq_true rfl, Nat.le_of_ble_eq_true rfl, Nat.le_of_ble_eq_true rfl⟩ (fun τ12 hr12 => ?_)
    have hz12 : zOK τ12 := hr12.1
    have bk1 : bk σ 30 1 0 = σ.1 31 0 := rfl
    have bk12 : bk σ 30 12 0 = σ.1 42 0 := rfl
    have jw := Jd_win hW hr12.2.2 hP1
    have jwP : (wP (bk σ 30) (Ht (bk σ 30)) : Int) < σ.1 31 0 := jw.1
    have jr := Jd_rk hr12.2.2
    have jH := hr12.2.2.2.1
    have jT := hr12.2.2.2.2.1
    have jP : τ12.1 252 5 = σ.1 31 0 := hr12.2.2.1
    have jO := hr12.2.2.2.2.2
    have j0 := jO.1 0 (by show 0 < (σ.1 31 0).toNat; omega)
    have jq : zEq (bk σ 30) (bk τ12 30) := zEq_same hr12.2.1 (by intro o ho; show ¬ (252 ≤ 30 + o ∧ 30 + o ≤ 258); omega)
    have jW := WF_eq jq hW
    have j31 : τ12.1 31 0 = σ.1 31 0 := hr12.2.1.1 31 (by dsimp only; omega) 0
    have j42 : τ12.1 42 0 = σ.1 42 0 := hr12.2.1.1 42 (by dsimp only; omega) 0
    have jb := tR_b (H := (Ht (bk σ 30))) hW jw.1
    have jy := (hW.2.1 _ jw.1).2
    have jyb : 1450 ≤ wY (bk σ 30) (Ht (bk σ 30)) ∧ wY (bk σ 30) (Ht (bk σ 30)) ≤ 1999 := by unfold wY; omega
    have jsb : 0 ≤ wS (bk σ 30) (Ht (bk σ 30)) ∧ wS (bk σ 30) (Ht (bk σ 30)) ≤ 360 := tS_b hW _
    have jw0 : 0 ≤ τ12.1 258 0 ∧ τ12.1 258 0 < 8 := by omega
    refine zx_aloadN dX9_confidence_15 rfl rfl ?_
    refine zy_getR (q' := 252) fl_RX9_54 rfl dX9_confidence_16 rfl ?_
    refine zy_cv [] (sX7_winningScore  hfl hz12 (by first | assumption | omega) (by first | assumption | omega)) dX9_confidence_19 (by decide) rfl cw_RX9_261 okX7_winningScore rfl (Nat.le_of_ble_eq_true rfl) ⟨Nat.le_of_ble_eq_true rfl, Nat.le_of_ble_eq_true rfl, Nat.le_of_ble_eq_true rfl, Nat.le_of_ble_eq_true rfl⟩ ?_
    refine zx_i2d dX9_confidence_22 ?_
    refine zx_iloadN dX9_confidence_23 rfl rfl ?_
    refine zx_i2d dX9_confidence_24 ?_
    refine zx_ddiv (ddiv_n (by unfold zr; omega) (by omega)) dX9_confidence_25 ?_
    refine zx_dret rfl dX9_confidence_26 ?_
    rw [hQ]
    refine ⟨by first | (unfold cfd; rw [if_pos (by have := cW_b hW; omega)]) | (unfold cfd; rw [if_neg (by omega), jw.2.1, Int.toNat_natCast, jw.2.2.2]), ?_⟩
    first | exact ⟨hz12, hr12.2.1⟩ | exact ⟨hz12, zSame_rf _ _⟩
  · refine zx_dconst0 dX9_confidence_9 ?_
    refine zx_dret rfl dX9_confidence_10 ?_
    rw [hQ]
    refine ⟨by first | (unfold cfd; rw [if_pos (by have := cW_b hW; omega)]) | (unfold cfd; rw [if_neg (by omega), jw.2.1, Int.toNat_natCast, jw.2.2.2]), ?_⟩
    first | exact ⟨hz, hr12.2.1⟩ | exact ⟨hz, zSame_rf _ _⟩

