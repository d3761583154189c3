abbrev mX7_weigh : zM := (yX7_weigh, cX7_weigh, 5, none, [])
theorem okX7_weigh : zMok mX7_weigh 3 := ⟨by decide, by decide, by decide +kernel⟩
theorem dX7_weigh_0 : decode cX7_weigh 0 = .ok (.aload_n 0, 1) := by decide +kernel
theorem dX7_weigh_1 : decode cX7_weigh 1 = .ok (.aload_n 1, 1) := by decide +kernel
theorem dX7_weigh_2 : decode cX7_weigh 2 = .ok (.getfield 35, 3) := by decide +kernel
theorem dX7_weigh_5 : decode cX7_weigh 5 = .ok (.iload_n 2, 1) := by decide +kernel
theorem dX7_weigh_6 : decode cX7_weigh 6 = .ok (.iload_n 3, 1) := by decide +kernel
theorem dX7_weigh_7 : decode cX7_weigh 7 = .ok (.invokevirtual 41, 3) := by decide +kernel
theorem cw_RX7_41 : zCwV RX7 41 mX7_heed := zall [838, 840, 11, 39, 841] (by decide +kernel) (by decide +kernel)
theorem dX7_weigh_10 : decode cX7_weigh 10 = .ok (.aload_n 0, 1) := by decide +kernel
theorem dX7_weigh_11 : decode cX7_weigh 11 = .ok (.aload_n 1, 1) := by decide +kernel
theorem dX7_weigh_12 : decode cX7_weigh 12 = .ok (.invokevirtual 45, 3) := by decide +kernel
theorem cw_RX7_45 : zCwV RX7 45 mX7_sumYears := zall [845, 847, 12, 39, 848] (by decide +kernel) (by decide +kernel)
theorem dX7_weigh_15 : decode cX7_weigh 15 = .ok (.aload_n 0, 1) := by decide +kernel
theorem dX7_weigh_16 : decode cX7_weigh 16 = .ok (.iconst 0, 1) := by decide +kernel
theorem dX7_weigh_17 : decode cX7_weigh 17 = .ok (.putfield 28, 3) := by decide +kernel
theorem dX7_weigh_20 : decode cX7_weigh 20 = .ok (.iconst 0, 1) := by decide +kernel
theorem dX7_weigh_21 : decode cX7_weigh 21 = .ok (.istore 4, 2) := by decide +kernel
theorem dX7_weigh_23 : decode cX7_weigh 23 = .ok (.iload 4, 2) := by decide +kernel
theorem dX7_weigh_25 : decode cX7_weigh 25 = .ok (.aload_n 1, 1) := by decide +kernel
theorem dX7_weigh_26 : decode cX7_weigh 26 = .ok (.getfield 49, 3) := by decide +kernel
theorem fl_RX7_49 : zFl RX7 49 1 0 := ⟨RX1, TX1, 2, rfl, by decide, zmem1 204 (by decide +kernel) rfl, rfl⟩
theorem dX7_weigh_29 : decode cX7_weigh 29 = .ok (.getfield 53, 3) := by decide +kernel
theorem fl_RX7_53 : zFl RX7 53 0 0 := ⟨RX0, TX0, 13, rfl, by decide, zmem1 104 (by decide +kernel) rfl, rfl⟩
theorem dX7_weigh_32 : decode cX7_weigh 32 = .ok (.if_icmp .ge 42, 3) := by decide +kernel
theorem dX7_weigh_74 : decode cX7_weigh 74 = .ok (.return_, 1) := by decide +kernel
theorem dX7_weigh_35 : decode cX7_weigh 35 = .ok (.aload_n 0, 1) := by decide +kernel
theorem dX7_weigh_36 : decode cX7_weigh 36 = .ok (.aload_n 1, 1) := by decide +kernel
theorem dX7_weigh_37 : decode cX7_weigh 37 = .ok (.getfield 49, 3) := by decide +kernel
theorem dX7_weigh_40 : decode cX7_weigh 40 = .ok (.iload 4, 2) := by decide +kernel
theorem dX7_weigh_42 : decode cX7_weigh 42 = .ok (.invokevirtual 56, 3) := by decide +kernel
theorem cw_RX7_56 : zCwV RX7 56 mX7_findTopYear := zall [884, 886, 13, 39, 887] (by decide +kernel) (by decide +kernel)
theorem dX7_weigh_45 : decode cX7_weigh 45 = .ok (.aload_n 0, 1) := by decide +kernel
theorem dX7_weigh_46 : decode cX7_weigh 46 = .ok (.getfield 22, 3) := by decide +kernel
theorem dX7_weigh_49 : decode cX7_weigh 49 = .ok (.iload 4, 2) := by decide +kernel
theorem dX7_weigh_51 : decode cX7_weigh 51 = .ok (.dup2, 1) := by decide +kernel
theorem dX7_weigh_52 : decode cX7_weigh 52 = .ok (.iaload, 1) := by decide +kernel
theorem dX7_weigh_53 : decode cX7_weigh 53 = .ok (.aload_n 0, 1) := by decide +kernel
theorem dX7_weigh_54 : decode cX7_weigh 54 = .ok (.aload_n 1, 1) := by decide +kernel
theorem dX7_weigh_55 : decode cX7_weigh 55 = .ok (.iload 4, 2) := by decide +kernel
theorem dX7_weigh_57 : decode cX7_weigh 57 = .ok (.invokevirtual 60, 3) := by decide +kernel
theorem cw_RX7_60 : zCwV RX7 60 mX7_yearlessWeight := zall [888, 890, 14, 39, 891] (by decide +kernel) (by decide +kernel)
theorem dX7_weigh_60 : decode cX7_weigh 60 = .ok (.iadd, 1) := by decide +kernel
theorem dX7_weigh_61 : decode cX7_weigh 61 = .ok (.iastore, 1) := by decide +kernel
theorem dX7_weigh_62 : decode cX7_weigh 62 = .ok (.aload_n 0, 1) := by decide +kernel
theorem dX7_weigh_63 : decode cX7_weigh 63 = .ok (.iload 4, 2) := by decide +kernel
theorem dX7_weigh_65 : decode cX7_weigh 65 = .ok (.invokevirtual 64, 3) := by decide +kernel
theorem cw_RX7_64 : zCwV RX7 64 mX7_rank := zall [905, 907, 15, 39, 908] (by decide +kernel) (by decide +kernel)
theorem dX7_weigh_68 : decode cX7_weigh 68 = .ok (.iinc 4 1, 3) := by decide +kernel
theorem dX7_weigh_71 : decode cX7_weigh 71 = .ok (.goto (-48), 3) := by decide +kernel
abbrev mX7_winner : zM := (yX7_winner, cX7_winner, 1, (some .int), [])
theorem okX7_winner : zMok mX7_winner 0 := ⟨by decide, by decide, by decide +kernel⟩
theorem dX7_winner_0 : decode cX7_winner 0 = .ok (.aload_n 0, 1) := by decide +kernel
theorem dX7_winner_1 : decode cX7_winner 1 = .ok (.iconst 0, 1) := by decide +kernel
theorem dX7_winner_2 : decode cX7_winner 2 = .ok (.invokevirtual 130, 3) := by decide +kernel
theorem dX7_winner_5 : decode cX7_winner 5 = .ok (.ireturn, 1) := by decide +kernel
abbrev mX7_winningYear : zM := (yX7_winningYear, cX7_winningYear, 2, (some .int), [])
theorem okX7_winningYear : zMok mX7_winningYear 0 := ⟨by decide, by decide, by decide +kernel⟩
theorem dX7_winningYear_0 : decode cX7_winningYear 0 = .ok (.aload_n 0, 1) := by decide +kernel
theorem dX7_winningYear_1 : decode cX7_winningYear 1 = .ok (.iconst 0, 1) := by decide +kernel
theorem dX7_winningYear_2 : decode cX7_winningYear 2 = .ok (.invokevirtual 130, 3) := by decide +kernel
theorem dX7_winningYear_5 : decode cX7_winningYear 5 = .ok (.istore_n 1, 1) := by decide +kernel
theorem dX7_winningYear_6 : decode cX7_winningYear 6 = .ok (.iload_n 1, 1) := by decide +kernel
theorem dX7_winningYear_7 : decode cX7_winningYear 7 = .ok (.iconst 0, 1) := by decide +kernel
theorem dX7_winningYear_8 : decode cX7_winningYear 8 = .ok (.bipush 7, 2) := by decide +kernel
theorem dX7_winningYear_10 : decode cX7_winningYear 10 = .ok (.invokestatic 133, 3) := by decide +kernel
theorem dX7_winningYear_13 : decode cX7_winningYear 13 = .ok (.ifCond .eq 12, 3) := by decide +kernel
theorem dX7_winningYear_25 : decode cX7_winningYear 25 = .ok (.sipush 1450, 3) := by decide +kernel
theorem dX7_winningYear_28 : decode cX7_winningYear 28 = .ok (.ireturn, 1) := by decide +kernel
theorem dX7_winningYear_16 : decode cX7_winningYear 16 = .ok (.aload_n 0, 1) := by decide +kernel
theorem dX7_winningYear_17 : decode cX7_winningYear 17 = .ok (.getfield 19, 3) := by decide +kernel
theorem dX7_winningYear_20 : decode cX7_winningYear 20 = .ok (.iload_n 1, 1) := by decide +kernel
theorem dX7_winningYear_21 : decode cX7_winningYear 21 = .ok (.iaload, 1) := by decide +kernel
theorem dX7_winningYear_22 : decode cX7_winningYear 22 = .ok (.goto 6, 3) := by decide +kernel
abbrev mX7_winningScore : zM := (yX7_winningScore, cX7_winningScore, 1, (some .int), [])
theorem okX7_winningScore : zMok mX7_winningScore 0 := ⟨by decide, by decide, by decide +kernel⟩
theorem dX7_winningScore_0 : decode cX7_winningScore 0 = .ok (.aload_n 0, 1) := by decide +kernel
theorem dX7_winningScore_1 : decode cX7_winningScore 1 = .ok (.iconst 0, 1) := by decide +kernel
theorem dX7_winningScore_2 : decode cX7_winningScore 2 = .ok (.invokevirtual 127, 3) := by decide +kernel
theorem dX7_winningScore_5 : decode cX7_winningScore 5 = .ok (.ireturn, 1) := by decide +kernel
abbrev mX7_heeds : zM := (yX7_heeds, cX7_heeds, 2, (some .boolean), [])
theorem okX7_heeds : zMok mX7_heeds 1 := ⟨by decide, by decide, by decide +kernel⟩
theorem dX7_heeds_0 : decode cX7_heeds 0 = .ok (.iload_n 1, 1) := by decide +kernel
theorem dX7_heeds_1 : decode cX7_heeds 1 = .ok (.iconst 0, 1) := by decide +kernel
theorem dX7_heeds_2 : decode cX7_heeds 2 = .ok (.bipush 39, 2) := by decide +kernel
theorem dX7_heeds_4 : decode cX7_heeds 4 = .ok (.invokestatic 133, 3) := by decide +kernel
theorem dX7_heeds_7 : decode cX7_heeds 7 = .ok (.ifCond .eq 16, 3) := by decide +kernel
theorem dX7_heeds_23 : decode cX7_heeds 23 = .ok (.iconst 0, 1) := by decide +kernel
theorem dX7_heeds_24 : decode cX7_heeds 24 = .ok (.ireturn, 1) := by decide +kernel
theorem dX7_heeds_10 : decode cX7_heeds 10 = .ok (.aload_n 0, 1) := by decide +kernel
theorem dX7_heeds_11 : decode cX7_heeds 11 = .ok (.getfield 9, 3) := by decide +kernel
theorem dX7_heeds_14 : decode cX7_heeds 14 = .ok (.iload_n 1, 1) := by decide +kernel
theorem dX7_heeds_15 : decode cX7_heeds 15 = .ok (.baload, 1) := by decide +kernel
theorem dX7_heeds_16 : decode cX7_heeds 16 = .ok (.ifCond .eq 7, 3) := by decide +kernel
theorem dX7_heeds_19 : decode cX7_heeds 19 = .ok (.iconst 1, 1) := by decide +kernel
theorem dX7_heeds_20 : decode cX7_heeds 20 = .ok (.goto 4, 3) := by decide +kernel
abbrev mX7_leavesOpen : zM := (yX7_leavesOpen, cX7_leavesOpen, 3, (some .boolean), [])
theorem okX7_leavesOpen : zMok mX7_leavesOpen 2 := ⟨by decide, by decide, by decide +kernel⟩
theorem dX7_leavesOpen_0 : decode cX7_leavesOpen 0 = .ok (.aload_n 0, 1) := by decide +kernel
theorem dX7_leavesOpen_1 : decode cX7_leavesOpen 1 = .ok (.iload_n 2, 1) := by decide +kernel
theorem dX7_leavesOpen_2 : decode cX7_leavesOpen 2 = .ok (.invokevirtual 137, 3) := by decide +kernel
theorem cw_RX7_137 : zCwV RX7 137 mX7_heeds := zall [938, 939, 940, 39, 941] (by decide +kernel) (by decide +kernel)
theorem dX7_leavesOpen_5 : decode cX7_leavesOpen 5 = .ok (.ifCond .eq 23, 3) := by decide +kernel
theorem dX7_leavesOpen_28 : decode cX7_leavesOpen 28 = .ok (.iconst 0, 1) := by decide +kernel
theorem dX7_leavesOpen_29 : decode cX7_leavesOpen 29 = .ok (.ireturn, 1) := by decide +kernel
theorem dX7_leavesOpen_8 : decode cX7_leavesOpen 8 = .ok (.aload_n 1, 1) := by decide +kernel
theorem dX7_leavesOpen_9 : decode cX7_leavesOpen 9 = .ok (.aload_n 0, 1) := by decide +kernel
theorem dX7_leavesOpen_10 : decode cX7_leavesOpen 10 = .ok (.invokevirtual 140, 3) := by decide +kernel
theorem cw_RX7_140 : zCwV RX7 140 mX7_winner := zall [942, 943, 944, 39, 945] (by decide +kernel) (by decide +kernel)
theorem dX7_leavesOpen_13 : decode cX7_leavesOpen 13 = .ok (.aload_n 0, 1) := by decide +kernel
theorem dX7_leavesOpen_14 : decode cX7_leavesOpen 14 = .ok (.invokevirtual 144, 3) := by decide +kernel
theorem cw_RX7_144 : zCwV RX7 144 mX7_winningYear := zall [946, 947, 948, 39, 949] (by decide +kernel) (by decide +kernel)
theorem dX7_leavesOpen_17 : decode cX7_leavesOpen 17 = .ok (.iload_n 2, 1) := by decide +kernel
theorem dX7_leavesOpen_18 : decode cX7_leavesOpen 18 = .ok (.invokevirtual 147, 3) := by decide +kernel
theorem cw_RX7_147 : zCwV RX7 147 mX1_candidateFits := zall [950, 951, 952, 34, 953] (by decide +kernel) (by decide +kernel)
theorem dX7_leavesOpen_21 : decode cX7_leavesOpen 21 = .ok (.ifCond .ne 7, 3) := by decide +kernel
theorem dX7_leavesOpen_24 : decode cX7_leavesOpen 24 = .ok (.iconst 1, 1) := by decide +kernel
theorem dX7_leavesOpen_25 : decode cX7_leavesOpen 25 = .ok (.goto 4, 3) := by decide +kernel
abbrev mX7_isInOrder : zM := (yX7_isInOrder, cX7_isInOrder, 2, (some .boolean), [])
theorem okX7_isInOrder : zMok mX7_isInOrder 1 := ⟨by decide, by decide, by decide +kernel⟩
theorem dX7_isInOrder_0 : decode cX7_isInOrder 0 = .ok (.aload_n 0, 1) := by decide +kernel
theorem dX7_isInOrder_1 : decode cX7_isInOrder 1 = .ok (.iload_n 1, 1) := by decide +kernel
theorem dX7_isInOrder_2 : decode cX7_isInOrder 2 = .ok (.iconst 1, 1) := by decide +kernel
theorem dX7_isInOrder_3 : decode cX7_isInOrder 3 = .ok (.isub, 1) := by decide +kernel
theorem dX7_isInOrder_4 : decode cX7_isInOrder 4 = .ok (.invokevirtual 127, 3) := by decide +kernel
theorem dX7_isInOrder_7 : decode cX7_isInOrder 7 = .ok (.aload_n 0, 1) := by decide +kernel
theorem dX7_isInOrder_8 : decode cX7_isInOrder 8 = .ok (.iload_n 1, 1) := by decide +kernel
theorem dX7_isInOrder_9 : decode cX7_isInOrder 9 = .ok (.invokevirtual 127, 3) := by decide +kernel
theorem dX7_isInOrder_12 : decode cX7_isInOrder 12 = .ok (.if_icmp .gt 33, 3) := by decide +kernel
theorem dX7_isInOrder_45 : decode cX7_isInOrder 45 = .ok (.iconst 1, 1) := by decide +kernel
theorem dX7_isInOrder_46 : decode cX7_isInOrder 46 = .ok (.goto 4, 3) := by decide +kernel
theorem dX7_isInOrder_50 : decode cX7_isInOrder 50 = .ok (.ireturn, 1) := by decide +kernel
theorem dX7_isInOrder_15 : decode cX7_isInOrder 15 = .ok (.aload_n 0, 1) := by decide +kernel
theorem dX7_isInOrder_16 : decode cX7_isInOrder 16 = .ok (.iload_n 1, 1) := by decide +kernel
theorem dX7_isInOrder_17 : decode cX7_isInOrder 17 = .ok (.iconst 1, 1) := by decide +kernel
theorem dX7_isInOrder_18 : decode cX7_isInOrder 18 = .ok (.isub, 1) := by decide +kernel
theorem dX7_isInOrder_19 : decode cX7_isInOrder 19 = .ok (.invokevirtual 127, 3) := by decide +kernel
theorem dX7_isInOrder_22 : decode cX7_isInOrder 22 = .ok (.aload_n 0, 1) := by decide +kernel
theorem dX7_isInOrder_23 : decode cX7_isInOrder 23 = .ok (.iload_n 1, 1) := by decide +kernel
theorem dX7_isInOrder_24 : decode cX7_isInOrder 24 = .ok (.invokevirtual 127, 3) := by decide +kernel
theorem dX7_isInOrder_27 : decode cX7_isInOrder 27 = .ok (.if_icmp .ne 22, 3) := by decide +kernel
theorem dX7_isInOrder_49 : decode cX7_isInOrder 49 = .ok (.iconst 0, 1) := by decide +kernel
theorem dX7_isInOrder_30 : decode cX7_isInOrder 30 = .ok (.aload_n 0, 1) := by decide +kernel
theorem dX7_isInOrder_31 : decode cX7_isInOrder 31 = .ok (.iload_n 1, 1) := by decide +kernel
theorem dX7_isInOrder_32 : decode cX7_isInOrder 32 = .ok (.iconst 1, 1) := by decide +kernel
theorem dX7_isInOrder_33 : decode cX7_isInOrder 33 = .ok (.isub, 1) := by decide +kernel
theorem dX7_isInOrder_34 : decode cX7_isInOrder 34 = .ok (.invokevirtual 130, 3) := by decide +kernel
theorem dX7_isInOrder_37 : decode cX7_isInOrder 37 = .ok (.aload_n 0, 1) := by decide +kernel
theorem dX7_isInOrder_38 : decode cX7_isInOrder 38 = .ok (.iload_n 1, 1) := by decide +kernel
theorem dX7_isInOrder_39 : decode cX7_isInOrder 39 = .ok (.invokevirtual 130, 3) := by decide +kernel
theorem dX7_isInOrder_42 : decode cX7_isInOrder 42 = .ok (.if_icmp .ge 7, 3) := by decide +kernel

def ordR (S : Nat → Int) (a b : Nat) : Prop := S b < S a ∨ (S a = S b ∧ a < b)
def ordOK (S : Nat → Int) (o : Nat → Int) (k : Nat) : Prop := (∀ i, i < k → 0 ≤ o i ∧ o i < k) ∧ (∀ i j, i < j → j < k → ordR S (o i).toNat (o j).toNat) ∧ ∀ c, c < k → ∃ i, i < k ∧ (o i).toNat = c
theorem ordOK_0 {S : Nat → Int} {o : Nat → Int} : ordOK S o 0 := ⟨fun i h => absurd h (Nat.not_lt_zero i), fun i j _ h => absurd h (Nat.not_lt_zero j), fun c h => absurd h (Nat.not_lt_zero c)⟩
theorem ordR_ir (S : Nat → Int) (a : Nat) : ¬ ordR S a a := by unfold ordR; omega
theorem ordR_as {S : Nat → Int} {a b : Nat} (h : ordR S a b) : ¬ ordR S b a := by unfold ordR at *; omega
theorem ordR_tr {S : Nat → Int} {a b c : Nat} (h : ordR S a b) (h2 : ordR S b c) : ordR S a c := by unfold ordR at *; omega
theorem ordOK_at {S : Nat → Int} {o : Nat → Int} {k : Nat} (h : ordOK S o k) {i : Nat} (hi : i < k) : atR (ordR S) k i = ((o i).toNat : Nat) :=
  atR_at (o := fun i => (o i).toNat) (fun a _ => ordR_ir S a) (fun a b _ _ => ordR_as) (fun i hi => by have := h.1 i hi; show (o i).toNat < k; omega) h.2.1 h.2.2 hi
theorem ordOK_no {S : Nat → Int} {o : Nat → Int} {k : Nat} (h : ordOK S o k) {r : Int} (hr : ¬ (0 ≤ r ∧ r < k)) : atR (ordR S) k r = -1 :=
  atR_no (o := fun i => (o i).toNat) (fun a _ => ordR_ir S a) (fun a b _ _ => ordR_as) (fun i hi => by have := h.1 i hi; show (o i).toNat < k; omega) h.2.1 h.2.2 hr
theorem ins_ok {S : Nat → Int} {o o' : Nat → Int} {k j : Nat} (h : ordOK S o k) (hj : j ≤ k) (h1 : o' j = k) (h2 : ∀ i, i < j → o' i = o i) (h3 : ∀ i, j ≤ i → i < k → o' (i + 1) = o i ∧ S (o i).toNat < S k) (h4 : 0 < j → S k ≤ S (o (j - 1)).toNat) : ordOK S o' (k + 1) := by
  obtain ⟨a1, a2, a3⟩ := h
  -- every earlier place is not below S k
  have hlow : ∀ i, i < j → S k ≤ S (o i).toNat := fun i hi => by
    have q := h4 (by omega)
    by_cases e : i = j - 1
    · rw [e]; exact q
    · have := a2 i (j - 1) (by omega) (by omega)
      unfold ordR at this
      omega
  have ov : ∀ i, j < i → i < k + 1 → o' i = o (i - 1) ∧ S (o (i - 1)).toNat < S k := fun i h5 h6 => by
    have := h3 (i - 1) (by omega) (by omega)
    rw [show i - 1 + 1 = i by omega] at this
    exact this
  refine ⟨fun i hi => ?_, fun i i' hii hi' => ?_, fun c hc => ?_⟩
  · rcases Nat.lt_trichotomy i j with q | q | q
    · have := a1 i (by omega); rw [h2 i q]; omega
    · rw [q, h1]; omega
    · have := a1 (i - 1) (by omega); rw [(ov i q hi).1]; omega
  · rcases Nat.lt_trichotomy i j with q | q | q
    · have b1 := a1 i (by omega)
      rw [h2 i q]
      rcases Nat.lt_trichotomy i' j with r | r | r
      · rw [h2 i' r]; exact a2 i i' hii (by omega)
      · have := hlow i q
        rw [r, h1, Int.toNat_natCast]; unfold ordR; omega
      · rw [(ov i' r hi').1]; exact a2 i (i' - 1) (by omega) (by omega)
    · have b := ov i' (by omega) hi'
      rw [q, h1, b.1]; unfold ordR
      rw [Int.toNat_natCast]
      exact Or.inl b.2
    · rw [(ov i q (by omega)).1, (ov i' (by omega) hi').1]
      exact a2 (i - 1) (i' - 1) (by omega) (by omega)
  · by_cases e : c = k
    · exact ⟨j, by omega, by rw [h1, e]; omega⟩
    · obtain ⟨i, hi, hc⟩ := a3 c (by omega)
      by_cases q : i < j
      · exact ⟨i, by omega, by rw [h2 i q]; exact hc⟩
      · exact ⟨i + 1, by omega, by rw [(h3 i (by omega) hi).1]; exact hc⟩
theorem zbe {D D' : zBk} (h : zEq D D') : (D' 12 0).toNat = (D 12 0).toNat := by rw [h.1.2.2.2]
theorem scN_eq {D D' : zBk} {H : Nat → Prop} {p : Nat} (h : zEq D D') (w : WF D) (hp : (p : Int) < D 1 0) : scN D' H p = scN D H p := by
  have hn := w.1.2.2.2
  unfold scN
  rw [zbe h]
  refine zs_congr (fun c hc => ?_)
  rw [cl_eq h (by omega) (by omega) (by omega : c < 40)]
  refine zif_c ?_
  unfold isY
  rw [pFit_eq h w hp (by omega), cl_eq h (by omega) (by omega) (by omega : c < 40)]
theorem scY_eq {D D' : zBk} {H : Nat → Prop} {r : Nat} (h : zEq D D') (w : WF D) : scY D' H r = scY D H r := by
  have hn := w.1.2.2.2
  unfold scY
  rw [zbe h]
  refine zs_congr (fun c hc => ?_)
  rw [cl_eq h (by omega) (by omega) (by omega : c < 40)]
  refine zif_c ?_
  unfold isY
  rw [eYr_eq h w (by omega), lYr_eq h w (by omega), cl_eq h (by omega) (by omega) (by omega : c < 40)]
/-- what stands in a judge's cells once it has weighed -/
def Jd (D : zBk) (H : Nat → Prop) (σ : zS) : Prop := σ.1 252 5 = D 1 0 ∧ (∀ c : Nat, (c : Int) < D 12 0 → σ.1 253 c = zb (H c)) ∧
  (∀ p : Nat, (p : Int) < D 1 0 → σ.1 255 p = 1450 + ((tR D H p : Nat) : Int) ∧ σ.1 256 p = tS D H p ∧ σ.1 257 p = tN D H p) ∧ ordOK (tS D H) (σ.1 258) (D 1 0).toNat

set_option maxRecDepth 20000 in
set_option maxHeartbeats 2000000 in
theorem sX7_weigh {l : Launch} {w : zW} (hfl : l.stackTraces = false) {σ : zS} {x y : Int} (hz : zOK σ) (hW : WF (bk σ 30)) (hx : 0 ≤ x ∧ x ≤ 40) (hy : zr y) : Sp l w mX7_weigh 4 0 [zf 7 252, zf 1 30, zi x, zi y] σ (zqv (none) (fun τ => zOK τ ∧ zSame (fun q => 252 ≤ q ∧ q ≤ 258) σ τ ∧ Jd (bk σ 30) (Hd (bk σ 30) x y) τ)) := by
  obtain ⟨Q, hQ⟩ : ∃ Q : zQ, Q = (zqv (none) (fun τ => zOK τ ∧ zSame (fun q => 252 ≤ q ∧ q ≤ 258) σ τ ∧ Jd (bk σ 30) (Hd (bk σ 30) x y) τ)) := ⟨_, rfl⟩
  rw [← hQ]
  refine zx_enter hfl (by decide) rfl 1 rfl ?_
  show zX l w mX7_weigh (zMQ w 4 0 Q) 0 [zf 7 252, zf 1 30, zi x, zi y, zu] [] 0 σ
  have hP : 0 ≤ σ.1 31 0 ∧ σ.1 31 0 ≤ 8 := hW.1.1
  have hM : 0 ≤ σ.1 31 7 ∧ σ.1 31 7 ≤ 8 := hW.1.2.1
  have hK : 0 ≤ σ.1 42 0 ∧ σ.1 42 0 ≤ 40 := hW.1.2.2.2
  refine zx_aloadN dX7_weigh_0 rfl rfl ?_
  refine zx_aloadN dX7_weigh_1 rfl rfl ?_
  refine zy_getR (q' := 42) fl_RX7_35 rfl dX7_weigh_2 rfl ?_
  refine zx_iloadN dX7_weigh_5 rfl rfl ?_
  refine zx_iloadN dX7_weigh_6 rfl rfl ?_
  refine zy_cvvR [zf 2 42, zi x, zi y] (sX7_heed  hfl hz hW hx hy) dX7_weigh_7 (by decide) rfl cw_RX7_41 okX7_heed rfl (Nat.le_of_ble_eq_true rfl) ⟨Nat.le_of_ble_eq_true rfl, Nat.le_of_ble_eq_true rfl, Nat.le_of_ble_eq_true rfl, Nat.le_of_ble_eq_true rfl⟩ (fun τ7 hr7 => ?_)
  have hz7 : zOK τ7 := hr7.1
  have hq10 : zEq (bk σ 30) (bk τ7 30) := zEq_same hr7.2.1 (by intro o ho; show ¬ (30 + o = 253); omega)
  have hW7 := WF_eq hq10 hW
  have c42a : τ7.1 42 0 = σ.1 42 0 := hr7.2.1.1 42 (by dsimp only; omega) 0
  have hH7 : ∀ c : Nat, (c : Int) < τ7.1 42 0 → τ7.1 253 c = zb ((Hd (bk σ 30) x y) c) := fun c hc => hr7.2.2 c (by omega)
  refine zx_aloadN dX7_weigh_10 rfl rfl ?_
  refine zx_aloadN dX7_weigh_11 rfl rfl ?_
  refine zy_cvvR [zf 1 30] (sX7_sumYears (H := (Hd (bk σ 30) x y)) hfl hz7 (by first | assumption | omega) (by first | assumption | omega)) dX7_weigh_12 (by decide) rfl cw_RX7_45 okX7_sumYears rfl (Nat.le_of_ble_eq_true rfl) ⟨Nat.le_of_ble_eq_true rfl, Nat.le_of_ble_eq_true rfl, Nat.le_of_ble_eq_true rfl, Nat.le_of_ble_eq_true rfl⟩ (fun τ12 hr12 => ?_)
  have hz12 : zOK τ12 := hr12.1
  refine zx_aloadN dX7_weigh_15 rfl rfl ?_
  refine zx_iconst dX7_weigh_16 ?_
  refine zx_putI fl_RX7_28 rfl (Or.inl fp_7_5) dX7_weigh_17 ?_
  have p1 : zSame (fun q => 252 ≤ q ∧ q ≤ 258) σ (zput τ12 252 5 0) := ⟨fun q hq i => by have hq2 := hq; dsimp only at hq2; exact (zput_k _ _ _ _ _ (by omega)).trans ((hr12.2.1.1 q (by dsimp only; omega) i).trans (hr7.2.1.1 q (by dsimp only; omega) i)), hr12.2.1.2.trans hr7.2.1.2⟩
  have p3 : ∀ c : Nat, (c : Int) < σ.1 42 0 → (zput τ12 252 5 0).1 253 c = zb ((Hd (bk σ 30) x y) c) := fun c hc => (zput_k _ _ _ _ _ (by omega)).trans ((hr12.2.1.1 253 (by dsimp only; omega) c).trans (hr7.2.2 c hc))
  have p4 : ∀ r : Nat, r < 550 → (zput τ12 252 5 0).1 254 r = scY (bk σ 30) (Hd (bk σ 30) x y) r := fun r hr => (zput_k _ _ _ _ _ (by omega)).trans ((hr12.2.2 r hr).trans (scY_eq hq10 hW))
  refine zx_iconst dX7_weigh_20 ?_
  refine zy_istore [zf 7 252, zf 1 30, zi x, zi y, zi 0] dX7_weigh_21 (Nat.le_of_ble_eq_true rfl) (Nat.le_of_ble_eq_true rfl) rfl rfl ?_
  have L23 : ∀ (N : Nat) (υ : zS) (p : Nat), (zOK υ) → ((p : Int) ≤ σ.1 31 0) → (zSame (fun q => 252 ≤ q ∧ q ≤ 258) σ υ) → (υ.1 252 5 = p) → (∀ c : Nat, (c : Int) < σ.1 42 0 → υ.1 253 c = zb ((Hd (bk σ 30) x y) c)) → (∀ r : Nat, r < 550 → υ.1 254 r = scY (bk σ 30) (Hd (bk σ 30) x y) r) → (∀ q : Nat, q < p → υ.1 255 q = 1450 + ((tR (bk σ 30) (Hd (bk σ 30) x y) q : Nat) : Int) ∧ υ.1 256 q = tS (bk σ 30) (Hd (bk σ 30) x y) q ∧ υ.1 257 q = tN (bk σ 30) (Hd (bk σ 30) x y) q) → (ordOK (tS (bk σ 30) (Hd (bk σ 30) x y)) (υ.1 258) p) → (9 - p) < N → zX l w mX7_weigh (zMQ w 4 0 Q) 23 [zf 7 252, zf 1 30, zi x, zi y, zi ((p : Nat) : Int)] [] 0 υ := by
    intro N
    induction N with
    | zero => intro υ p _ _ _ _ _ _ _ _ _; exact absurd (by assumption) (Nat.not_lt_zero _)
    | succ N ih23 =>
      intro υ p hz hp g1 g2 g3 g4 g5 g6 hN
      have c31 : υ.1 31 0 = σ.1 31 0 := g1.1 31 (by dsimp only; omega) 0
      refine zx_iload dX7_weigh_23 rfl ?_
      refine zx_aloadN dX7_weigh_25 rfl rfl ?_
      refine zy_getR (q' := 31) fl_RX7_49 rfl dX7_weigh_26 rfl ?_
      refine zy_getI fl_RX7_53 rfl dX7_weigh_29 rfl ?_
      refine zx_icmp_ge (tgt := 74) (by first | exact hz _ _ | assumption | exact zr_b _ | exact zcmp_r _ _ | (unfold zr at *; omega)) (by first | exact hz _ _ | assumption | exact zr_b _ | exact zcmp_r _ _ | (unfold zr at *; omega)) dX7_weigh_32 (by decide) (fun h32 => ?_) (fun h32 => ?_)
      · refine zx_vret rfl dX7_weigh_74 ?_
        rw [hQ]
        refine ⟨rfl, ?_⟩
        refine ⟨hz, g1, ?_⟩
        have ep : (p : Int) = bk σ 30 1 0 := by show (p : Int) = σ.1 31 0; omega
        have ep2 : (bk σ 30 1 0).toNat = p := by omega
        refine ⟨g2.trans ep, fun c hc => g3 c hc, fun q hq => g5 q (by omega), by rw [ep2]; exact g6⟩
      · have hq1 : zEq (bk σ 30) (bk υ 30) := zEq_same g1 (by intro o ho; show ¬ (252 ≤ 30 + o ∧ 30 + o ≤ 258); omega)
        have hW1 := WF_eq hq1 hW
        have hp0 : (p : Int) < bk σ 30 1 0 := by show (p : Int) < σ.1 31 0; omega
        have c34 : υ.1 34 p = σ.1 34 p := g1.1 34 (by dsimp only; omega) p
        have c35 : υ.1 35 p = σ.1 35 p := g1.1 35 (by dsimp only; omega) p
        have hyr : 1450 ≤ σ.1 34 p ∧ σ.1 34 p ≤ σ.1 35 p ∧ σ.1 35 p ≤ 1999 := (hW.2.1 p hp0).2
        have hyt : yTop (υ.1 254) ((υ.1 34 p - 1450).toNat) ((υ.1 35 p - υ.1 34 p + 1).toNat) = tR (bk σ 30) (Hd (bk σ 30) x y) p ∧ yCnt (υ.1 254) ((υ.1 34 p - 1450).toNat) ((υ.1 35 p - υ.1 34 p + 1).toNat) = tN (bk σ 30) (Hd (bk σ 30) x y) p := by
          rw [c34, c35]
          have e := y_shift (f := υ.1 254) (g := sc (bk σ 30) (Hd (bk σ 30) x y) p) (a := (σ.1 34 p - 1450).toNat) (n := (σ.1 35 p - σ.1 34 p + 1).toNat) (c := scN (bk σ 30) (Hd (bk σ 30) x y) p) (fun i h1 h2 => by rw [g4 i (by omega)]; exact sc_split hW p i (by omega))
          exact ⟨e.1.symm, e.2.symm⟩
        have hyb := yTop_r (υ.1 254) ((υ.1 34 p - 1450).toNat) ((υ.1 35 p - υ.1 34 p + 1).toNat)
        have hyc := yCnt_r (υ.1 254) ((υ.1 34 p - 1450).toNat) ((υ.1 35 p - υ.1 34 p + 1).toNat)
        rw [hyt.1] at hyb
        rw [hyt.2] at hyc
        have htR : tR (bk σ 30) (Hd (bk σ 30) x y) p < 550 := by omega
        have hsS : υ.1 254 (tR (bk σ 30) (Hd (bk σ 30) x y) p) + scN (bk σ 30) (Hd (bk σ 30) x y) p = tS (bk σ 30) (Hd (bk σ 30) x y) p := by rw [g4 _ htR]; exact (sc_split hW p _ htR).symm
        have hbS : 0 ≤ tS (bk σ 30) (Hd (bk σ 30) x y) p ∧ tS (bk σ 30) (Hd (bk σ 30) x y) p ≤ 360 := wt_b hW _
        have hzf : zOK (zput (zput (zput υ 255 p (1450 + ((yTop (υ.1 254) ((υ.1 34 p - 1450).toNat) ((υ.1 35 p - υ.1 34 p + 1).toNat) : Nat) : Int))) 256 p (υ.1 254 (yTop (υ.1 254) ((υ.1 34 p - 1450).toNat) ((υ.1 35 p - υ.1 34 p + 1).toNat)))) 257 p (yCnt (υ.1 254) ((υ.1 34 p - 1450).toNat) ((υ.1 35 p - υ.1 34 p + 1).toNat))) := by
          refine zOK_put (zOK_put (zOK_put hz ?_) (hz _ _)) ?_
          · rw [hyt.1]; unfold zr; omega
          · rw [hyt.2]; unfold zr; omega
        refine zx_aloadN dX7_weigh_35 rfl rfl ?_
        refine zx_aloadN dX7_weigh_36 rfl rfl ?_
        refine zy_getR (q' := 31) fl_RX7_49 rfl dX7_weigh_37 rfl ?_
        refine zx_iload dX7_weigh_40 rfl ?_
        refine zy_cvv [zf 0 31, zi ((p : Nat) : Int)] (sX7_findTopYear  hfl hz (by first | assumption | omega) (by first | assumption | omega)) dX7_weigh_42 (by decide) rfl cw_RX7_56 okX7_findTopYear rfl (Nat.le_of_ble_eq_true rfl) ⟨Nat.le_of_ble_eq_true rfl, Nat.le_of_ble_eq_true rfl, Nat.le_of_ble_eq_true rfl, Nat.le_of_ble_eq_true rfl⟩ ?_
        obtain ⟨υ2, eυ2⟩ : ∃ u : zS, u = zput (zput (zput υ 255 p (1450 + ((yTop (υ.1 254) ((υ.1 34 p - 1450).toNat) ((υ.1 35 p - υ.1 34 p + 1).toNat) : Nat) : Int))) 256 p (υ.1 254 (yTop (υ.1 254) ((υ.1 34 p - 1450).toNat) ((υ.1 35 p - υ.1 34 p + 1).toNat)))) 257 p (yCnt (υ.1 254) ((υ.1 34 p - 1450).toNat) ((υ.1 35 p - υ.1 34 p + 1).toNat)) := ⟨_, rfl⟩
        rw [← eυ2]
        have hz2 : zOK υ2 := eυ2 ▸ (by first | assumption | exact sX7_findTopYear_ok hz)
        have f1 : zSame (fun q => 255 ≤ q ∧ q ≤ 257) υ υ2 := by
          rw [eυ2]; exact ⟨fun q hq i => by have hq2 := hq; dsimp only at hq2; exact ((zput_k _ _ _ _ _ (by omega)).trans ((zput_k _ _ _ _ _ (by omega)).trans (zput_k _ _ _ _ _ (by omega)))), rfl⟩
        have f5 : ∀ q, υ2.1 255 q = if q = p then 1450 + ((tR (bk σ 30) (Hd (bk σ 30) x y) p : Nat) : Int) else υ.1 255 q := fun q => by rw [eυ2, ← hyt.1]; simp only [zput_e, true_and]; (repeat' split) <;> omega
        have f6 : ∀ q, υ2.1 256 q = if q = p then υ.1 254 (tR (bk σ 30) (Hd (bk σ 30) x y) p) else υ.1 256 q := fun q => by rw [eυ2, ← hyt.1]; simp only [zput_e, true_and]; (repeat' split) <;> omega
        have f7 : ∀ q, υ2.1 257 q = if q = p then tN (bk σ 30) (Hd (bk σ 30) x y) p else υ.1 257 q := fun q => by rw [eυ2, ← hyt.2]; simp only [zput_e, true_and]; (repeat' split) <;> omega
        have gq2 : zSame (fun q => 252 ≤ q ∧ q ≤ 258) σ υ2 := zSame_tr g1 f1 (fun q hq => by first | omega | (dsimp only at hq ⊢; omega))
        have hq2 : zEq (bk σ 30) (bk υ2 30) := zEq_same gq2 (by intro o ho; show ¬ (252 ≤ 30 + o ∧ 30 + o ≤ 258); omega)
        have hW2 := WF_eq hq2 hW
        have c31b : υ2.1 31 0 = σ.1 31 0 := gq2.1 31 (by dsimp only; omega) 0
        have c42b : υ2.1 42 0 = σ.1 42 0 := gq2.1 42 (by dsimp only; omega) 0
        have hH2 : ∀ c : Nat, (c : Int) < υ2.1 42 0 → υ2.1 253 c = zb ((Hd (bk σ 30) x y) c) := fun c hc => (f1.1 253 (by dsimp only; omega) c).trans (g3 c (by omega))
        have hs6 := f6 p
        rw [if_pos rfl] at hs6
        refine zx_aloadN dX7_weigh_45 rfl rfl ?_
        refine zy_getR (q' := 256) fl_RX7_22 rfl dX7_weigh_46 rfl ?_
        refine zx_iload dX7_weigh_49 rfl ?_
        refine zx_dup2 rfl rfl dX7_weigh_51 ?_
        refine zy_iald (v := υ2.1 256 p) rfl (by decide) (by decide) dX7_weigh_52 (by omega) (by omega) rfl ?_
        refine zx_aloadN dX7_weigh_53 rfl rfl ?_
        refine zx_aloadN dX7_weigh_54 rfl rfl ?_
        refine zx_iload dX7_weigh_55 rfl ?_
        refine zy_cv [zf 1 30, zi ((p : Nat) : Int)] (sX7_yearlessWeight (H := (Hd (bk σ 30) x y)) hfl hz2 hW2 hH2 (by omega)) dX7_weigh_57 (by decide) rfl cw_RX7_60 okX7_yearlessWeight rfl (Nat.le_of_ble_eq_true rfl) ⟨Nat.le_of_ble_eq_true rfl, Nat.le_of_ble_eq_true rfl, Nat.le_of_ble_eq_true rfl, Nat.le_of_ble_eq_true rfl⟩ ?_
        refine zy_top (b := scN (bk σ 30) (Hd (bk σ 30) x y) p) (scN_eq hq2 hW hp0) ?_
        refine zx_iadd dX7_weigh_60 ?_
        refine zy_iast (i := p) rfl (by decide) (by decide) dX7_weigh_61 (by omega) (by omega) rfl ?_
        obtain ⟨υ3, eυ3⟩ : ∃ u : zS, u = zput υ2 256 p ((υ2.1 256 p) + (scN (bk σ 30) (Hd (bk σ 30) x y) p)) := ⟨_, rfl⟩
        rw [← eυ3]
        have hz3 : zOK υ3 := eυ3 ▸ (zOK_put hz2 (by first | exact hz2 _ _ | assumption | exact zr_b _ | exact zcmp_r _ _ | (unfold zr at *; omega)))
        have k1 : ∀ q, ¬ q = 256 → ∀ i, υ3.1 q i = υ2.1 q i := fun q hq i => by rw [eυ3]; exact zput_k _ _ _ _ _ (by omega)
        have k6 : ∀ q, υ3.1 256 q = if q = p then tS (bk σ 30) (Hd (bk σ 30) x y) p else υ2.1 256 q := fun q => by rw [eυ3]; simp only [zput_e, true_and]; (repeat' split) <;> omega
        have k2 : υ3.2 = υ2.2 := by rw [eυ3]; rfl
        have h5p : υ3.1 252 5 = p := (k1 252 (by omega) 5).trans ((f1.1 252 (by dsimp only; omega) 5).trans g2)
        have h58 : ∀ i, υ3.1 258 i = υ.1 258 i := fun i => (k1 258 (by omega) i).trans (f1.1 258 (by dsimp only; omega) i)
        have hRk : ∀ i : Nat, i < p → 0 ≤ υ3.1 258 i ∧ υ3.1 258 i < p := fun i hi => by rw [h58 i]; exact g6.1 i hi
        refine zx_aloadN dX7_weigh_62 rfl rfl ?_
        refine zx_iload dX7_weigh_63 rfl ?_
        refine zy_cvvR [zi ((p : Nat) : Int)] (sX7_rank  hfl hz3 (⟨h5p, by omega⟩) hRk) dX7_weigh_65 (by decide) rfl cw_RX7_64 okX7_rank rfl (Nat.le_of_ble_eq_true rfl) ⟨Nat.le_of_ble_eq_true rfl, Nat.le_of_ble_eq_true rfl, Nat.le_of_ble_eq_true rfl, Nat.le_of_ble_eq_true rfl⟩ (fun τ65 hr65 => ?_)
        have hz65 : zOK τ65 := hr65.1
        have zq : ∀ q, ¬ (252 ≤ q ∧ q ≤ 258) → ∀ i, τ65.1 q i = σ.1 q i := fun q hq i => (hr65.2.1 q (by omega) i).trans ((k1 q (by omega) i).trans (gq2.1 q (by dsimp only; omega) i))
        have nz : ∀ q, 253 ≤ q → q ≤ 257 → ¬ q = 256 → ∀ i, τ65.1 q i = υ2.1 q i := fun q h1 h2 h3 i => (hr65.2.1 q (by omega) i).trans (k1 q h3 i)
        have n6 : ∀ i, τ65.1 256 i = υ3.1 256 i := fun i => hr65.2.1 256 (by omega) i
        have n1 : zSame (fun q => 252 ≤ q ∧ q ≤ 258) σ τ65 := ⟨fun q hq i => zq q hq i, hr65.2.2.1.trans (k2.trans gq2.2)⟩
        have n3 : ∀ c : Nat, (c : Int) < σ.1 42 0 → τ65.1 253 c = zb ((Hd (bk σ 30) x y) c) := fun c hc => (nz 253 (by omega) (by omega) (by omega) c).trans (hH2 c (by omega))
        have n4 : ∀ r : Nat, r < 550 → τ65.1 254 r = scY (bk σ 30) (Hd (bk σ 30) x y) r := fun r hr => (nz 254 (by omega) (by omega) (by omega) r).trans ((f1.1 254 (by dsimp only; omega) r).trans (g4 r hr))
        have n5 : ∀ q : Nat, q < p + 1 → τ65.1 255 q = 1450 + ((tR (bk σ 30) (Hd (bk σ 30) x y) q : Nat) : Int) ∧ τ65.1 256 q = tS (bk σ 30) (Hd (bk σ 30) x y) q ∧ τ65.1 257 q = tN (bk σ 30) (Hd (bk σ 30) x y) q := fun q hq => by
          rw [nz 255 (by omega) (by omega) (by omega) q, nz 257 (by omega) (by omega) (by omega) q, n6 q, f5 q, f7 q, k6 q, f6 q]
          by_cases e : q = p
          · rw [if_pos e, if_pos e, if_pos e, e]; exact ⟨rfl, rfl, rfl⟩
          · rw [if_neg e, if_neg e, if_neg e, if_neg e]; exact g5 q (by omega)
        have n7 : ordOK (tS (bk σ 30) (Hd (bk σ 30) x y)) (τ65.1 258) (p + 1) := by
          obtain ⟨j, j1, j2, j3, j4, j5⟩ := hr65.2.2.2.2
          have sv : ∀ q : Nat, q < p + 1 → υ3.1 256 q = tS (bk σ 30) (Hd (bk σ 30) x y) q := fun q hq => (n6 q).symm.trans (n5 q hq).2.1
          refine ins_ok g6 j1 j2 (fun i hi => (j3 i hi).trans (h58 i)) (fun i h1 h2 => ?_) (fun h0 => ?_)
          · obtain ⟨a1, a2⟩ := j4 i h1 h2
            have a3 := hRk i h2
            rw [sv p (by omega), sv _ (by omega)] at a2
            rw [h58 i] at a1 a2
            exact ⟨a1, a2⟩
          · have a2 := j5 h0
            have a3 := hRk (j - 1) (by omega)
            rw [sv p (by omega), sv _ (by omega)] at a2
            rw [h58 (j - 1)] at a2
            exact a2
        refine zy_iinc (b := ((p + 1 : Nat) : Int)) [zf 7 252, zf 1 30, zi x, zi y, zi ((p + 1 : Nat) : Int)] dX7_weigh_68 rfl (by omega) (Nat.le_of_ble_eq_true rfl) rfl rfl ?_
        refine zx_goto (tgt := 23) dX7_weigh_71 (by decide) ?_
        exact ih23 τ65 (p + 1) hz65 (by first | assumption | omega) n1 hr65.2.2.2.1 n3 n4 n5 n7 (by omega)
  exact L23 _ (zput τ12 252 5 0) 0 (zOK_put hz12 (by unfold zr; omega)) (by first | assumption | omega) p1 (zput_s _ _ _ _) p3 p4 (fun q hq => absurd hq (Nat.not_lt_zero q)) ordOK_0 (Nat.lt_succ_self _)
set_option maxRecDepth 20000 in
set_option maxHeartbeats 2000000 in
theorem sX7_winner {l : Launch} {w : zW} (hfl : l.stackTraces = false) {σ : zS}  (hz : zOK σ) (hP : 1 ≤ σ.1 252 5 ∧ σ.1 252 5 ≤ 8) : Sp l w mX7_winner 1 0 [zf 7 252] σ (zret (zi (σ.1 258 0)) σ) := by
  obtain ⟨Q, hQ⟩ : ∃ Q : zQ, Q = (zret (zi (σ.1 258 0)) σ) := ⟨_, rfl⟩
  rw [← hQ]
  refine zx_enter hfl (by decide) rfl 0 rfl ?_
  show zX l w mX7_winner (zMQ w 1 0 Q) 0 [zf 7 252] [] 0 σ
  refine zx_aloadN dX7_winner_0 rfl rfl ?_
  refine zx_iconst dX7_winner_1 ?_
  refine zy_cv [zi 0] (sX7_printerAt  hfl hz (by first | exact hz _ _ | assumption | exact zr_b _ | exact zcmp_r _ _ | (unfold zr at *; omega)) (by first | assumption | omega)) dX7_winner_2 (by decide) rfl cw_RX7_130 okX7_printerAt rfl (Nat.le_of_ble_eq_true rfl) ⟨Nat.le_of_ble_eq_true rfl, Nat.le_of_ble_eq_true rfl, Nat.le_of_ble_eq_true rfl, Nat.le_of_ble_eq_true rfl⟩ ?_
  refine zy_top (b := σ.1 258 0) (if_pos (by omega)) ?_
  refine zx_iret rfl rfl dX7_winner_5 ?_
  rw [hQ]
  refine ⟨congrArg (fun z : Int => (Sum.inl (some (zi z)) : Option zV ⊕ String)) ?_, by first | rfl | (exfalso; omega)⟩
  first | rfl | omega | (split <;> first | rfl | omega)
set_option maxRecDepth 20000 in
set_option maxHeartbeats 2000000 in
theorem sX7_winningYear {l : Launch} {w : zW} (hfl : l.stackTraces = false) {σ : zS}  (hz : zOK σ) (hP : 1 ≤ σ.1 252 5 ∧ σ.1 252 5 ≤ 8) (hR : 0 ≤ σ.1 258 0 ∧ σ.1 258 0 < 8) : Sp l w mX7_winningYear 1 0 [zf 7 252] σ (zret (zi (σ.1 255 (σ.1 258 0).toNat)) σ) := by
  obtain ⟨Q, hQ⟩ : ∃ Q : zQ, Q = (zret (zi (σ.1 255 (σ.1 258 0).toNat)) σ) := ⟨_, rfl⟩
  rw [← hQ]
  refine zx_enter hfl (by decide) rfl 1 rfl ?_
  show zX l w mX7_winningYear (zMQ w 1 0 Q) 0 [zf 7 252, zu] [] 0 σ
  refine zx_aloadN dX7_winningYear_0 rfl rfl ?_
  refine zx_iconst dX7_winningYear_1 ?_
  refine zy_cv [zi 0] (sX7_printerAt  hfl hz (by first | exact hz _ _ | assumption | exact zr_b _ | exact zcmp_r _ _ | (unfold zr at *; omega)) (by first | assumption | omega)) dX7_winningYear_2 (by decide) rfl cw_RX7_130 okX7_printerAt rfl (Nat.le_of_ble_eq_true rfl) ⟨Nat.le_of_ble_eq_true rfl, Nat.le_of_ble_eq_true rfl, Nat.le_of_ble_eq_true rfl, Nat.le_of_ble_eq_true rfl⟩ ?_
  refine zy_top (b := σ.1 258 0) (if_pos (by omega)) ?_
  refine zy_istoreN [zf 7 252, zi (σ.1 258 0)] dX7_winningYear_5 rfl (Nat.le_of_ble_eq_true rfl) (Nat.le_of_ble_eq_true rfl) rfl rfl ?_
  refine zx_iloadN dX7_winningYear_6 rfl rfl ?_
  refine zx_iconst dX7_winningYear_7 ?_
  refine zx_bipush dX7_winningYear_8 rfl ?_
  refine zy_cn [zi (σ.1 258 0), zi 0, zi 7] (sX9_isWithin  hfl hz (by first | exact hz _ _ | assumption | exact zr_b _ | exact zcmp_r _ _ | (unfold zr at *; omega)) (by first | exact hz _ _ | assumption | exact zr_b _ | exact zcmp_r _ _ | (unfold zr at *; omega)) (by first | exact hz _ _ | assumption | exact zr_b _ | exact zcmp_r _ _ | (unfold zr at *; omega))) dX7_winningYear_10 cw_RX7_133 okX9_isWithin rfl (Nat.le_of_ble_eq_true rfl) ⟨Nat.le_of_ble_eq_true rfl, Nat.le_of_ble_eq_true rfl, Nat.le_of_ble_eq_true rfl, Nat.le_of_ble_eq_true rfl⟩ ?_
  refine zx_if_eq (tgt := 25) (by first | exact hz _ _ | assumption | exact zr_b _ | exact zcmp_r _ _ | (unfold zr at *; omega)) dX7_winningYear_13 (by decide) (fun h13 => ?_) (fun h13 => ?_)
  · have h13 := zb_0.mp h13
    refine zx_sipush dX7_winningYear_25 rfl ?_
    refine zx_iret rfl rfl dX7_winningYear_28 ?_
    rw [hQ]
    refine ⟨congrArg (fun z : Int => (Sum.inl (some (zi z)) : Option zV ⊕ String)) ?_, by first | rfl | (exfalso; omega)⟩
    first | rfl | omega | (split <;> first | rfl | omega)
  · have h13 := zb_n.mp h13
    refine zx_aloadN dX7_winningYear_16 rfl rfl ?_
    refine zy_getR (q' := 255) fl_RX7_19 rfl dX7_winningYear_17 rfl ?_
    refine zx_iloadN dX7_winningYear_20 rfl rfl ?_
    refine zy_iald (v := σ.1 255 ((σ.1 258 0).toNat)) rfl (by decide) (by decide) dX7_winningYear_21 (by omega) (by omega) rfl ?_
    refine zx_goto (tgt := 28) dX7_winningYear_22 (by decide) ?_
    refine zx_iret rfl rfl dX7_winningYear_28 ?_
    rw [hQ]
    refine ⟨congrArg (fun z : Int => (Sum.inl (some (zi z)) : Option zV ⊕ String)) ?_, by first | rfl | (exfalso; omega)⟩
    first | rfl | omega | (split <;> first | rfl | omega)
set_option maxRecDepth 20000 in
set_option maxHeartbeats 2000000 in
theorem sX7_winningScore {l : Launch} {w : zW} (hfl : l.stackTraces = false) {σ : zS}  (hz : zOK σ) (hP : 1 ≤ σ.1 252 5 ∧ σ.1 252 5 ≤ 8) (hR : 0 ≤ σ.1 258 0 ∧ σ.1 258 0 < 8) : Sp l w mX7_winningScore 2 0 [zf 7 252] σ (zret (zi (σ.1 256 (σ.1 258 0).toNat)) σ) := by
  obtain ⟨Q, hQ⟩ : ∃ Q : zQ, Q = (zret (zi (σ.1 256 (σ.1 258 0).toNat)) σ) := ⟨_, rfl⟩
  rw [← hQ]
  refine zx_enter hfl (by decide) rfl 0 rfl ?_
  show zX l w mX7_winningScore (zMQ w 2 0 Q) 0 [zf 7 252] [] 0 σ
  refine zx_aloadN dX7_winningScore_0 rfl rfl ?_
  refine zx_iconst dX7_winningScore_1 ?_
  refine zy_cv [zi 0] (sX7_scoreAt  hfl hz (by first | exact hz _ _ | assumption | exact zr_b _ | exact zcmp_r _ _ | (unfold zr at *; omega)) (by first | assumption | omega) (by first | assumption | omega) (by first | assumption | omega)) dX7_winningScore_2 (by decide) rfl cw_RX7_127 okX7_scoreAt rfl (Nat.le_of_ble_eq_true rfl) ⟨Nat.le_of_ble_eq_true rfl, Nat.le_of_ble_eq_true rfl, Nat.le_of_ble_eq_true rfl, Nat.le_of_ble_eq_true rfl⟩ ?_
  refine zx_iret rfl rfl dX7_winningScore_5 ?_
  rw [hQ]
  refine ⟨congrArg (fun z : Int => (Sum.inl (some (zi z)) : Option zV ⊕ String)) ?_, by first | rfl | (exfalso; omega)⟩
  first | rfl | omega | (split <;> first | rfl | omega)
set_option maxRecDepth 20000 in
set_option maxHeartbeats 2000000 in
theorem sX7_heeds {l : Launch} {w : zW} (hfl : l.stackTraces = false) {σ : zS} {c : Nat} {h : Prop} (hz : zOK σ) (hc : c < 40) (hh : σ.1 253 c = zb h) : Sp l w mX7_heeds 1 0 [zf 7 252, zi ((c : Nat) : Int)] σ (zret (zi (zb h)) σ) := by
  obtain ⟨Q, hQ⟩ : ∃ Q : zQ, Q = (zret (zi (zb h)) σ) := ⟨_, rfl⟩
  rw [← hQ]
  refine zx_enter hfl (by decide) rfl 0 rfl ?_
  show zX l w mX7_heeds (zMQ w 1 0 Q) 0 [zf 7 252, zi ((c : Nat) : Int)] [] 0 σ
  refine zx_iloadN dX7_heeds_0 rfl rfl ?_
  refine zx_iconst dX7_heeds_1 ?_
  refine zx_bipush dX7_heeds_2 rfl ?_
  refine zy_cn [zi ((c : Nat) : Int), zi 0, zi 39] (sX9_isWithin  hfl hz (by first | exact hz _ _ | assumption | exact zr_b _ | exact zcmp_r _ _ | (unfold zr at *; omega)) (by first | exact hz _ _ | assumption | exact zr_b _ | exact zcmp_r _ _ | (unfold zr at *; omega)) (by first | exact hz _ _ | assumption | exact zr_b _ | exact zcmp_r _ _ | (unfold zr at *; omega))) dX7_heeds_4 cw_RX7_133 okX9_isWithin rfl (Nat.le_of_ble_eq_true rfl) ⟨Nat.le_of_ble_eq_true rfl, Nat.le_of_ble_eq_true rfl, Nat.le_of_ble_eq_true rfl, Nat.le_of_ble_eq_true rfl⟩ ?_
  refine zx_if_eq (tgt := 23) (by first | exact hz _ _ | assumption | exact zr_b _ | exact zcmp_r _ _ | (unfold zr at *; omega)) dX7_heeds_7 (by decide) (fun h7 => ?_) (fun h7 => ?_)
  · have h7 := zb_0.mp h7
    refine zx_iconst dX7_heeds_23 ?_
    refine zx_iret rfl rfl dX7_heeds_24 ?_
    rw [hQ]
    refine ⟨congrArg (fun z : Int => (Sum.inl (some (zi z)) : Option zV ⊕ String)) ?_, by first | rfl | (exfalso; omega)⟩
    first | exact (zb_t (by assumption)).symm | exact (zb_f (by assumption)).symm | (exfalso; omega)
  · have h7 := zb_n.mp h7
    refine zx_aloadN dX7_heeds_10 rfl rfl ?_
    refine zy_getR (q' := 253) fl_RX7_9 rfl dX7_heeds_11 rfl ?_
    refine zx_iloadN dX7_heeds_14 rfl rfl ?_
    refine zy_zald (v := σ.1 253 c) rfl (by decide) (by decide) dX7_heeds_15 (by omega) (by omega) rfl ?_
    refine zy_top (b := zb h) (hh) ?_
    refine zx_if_eq (tgt := 23) (by first | exact hz _ _ | assumption | exact zr_b _ | exact zcmp_r _ _ | (unfold zr at *; omega)) dX7_heeds_16 (by decide) (fun h16 => ?_) (fun h16 => ?_)
    · have h16 := zb_0.mp h16
      refine zx_iconst dX7_heeds_23 ?_
      refine zx_iret rfl rfl dX7_heeds_24 ?_
      rw [hQ]
      refine ⟨congrArg (fun z : Int => (Sum.inl (some (zi z)) : Option zV ⊕ String)) ?_, by first | rfl | (exfalso; omega)⟩
      first | exact (zb_t (by assumption)).symm | exact (zb_f (by assumption)).symm | (exfalso; omega)
    · have h16 := zb_n.mp h16
      refine zx_iconst dX7_heeds_19 ?_
      refine zx_goto (tgt := 24) dX7_heeds_20 (by decide) ?_
      refine zx_iret rfl rfl dX7_heeds_24 ?_
      rw [hQ]
      refine ⟨congrArg (fun z : Int => (Sum.inl (some (zi z)) : Option zV ⊕ String)) ?_, by first | rfl | (exfalso; omega)⟩
      first | exact (zb_t (by assumption)).symm | exact (zb_f (by assumption)).symm | (exfalso; omega)
set_option maxRecDepth 20000 in
set_option maxHeartbeats 2000000 in
theorem sX7_leavesOpen {l : Launch} {w : zW} (hfl : l.stackTraces = false) {σ : zS} {c u : Nat} {h : Prop} (hz : zOK σ) (hW : WF (bk σ 30)) (hP : 1 ≤ σ.1 252 5 ∧ σ.1 252 5 ≤ 8) (hu : σ.1 258 0 = u) (hu2 : (u : Int) < σ.1 31 0) (hc : (c : Int) < σ.1 42 0) (hh : σ.1 253 c = zb h) : Sp l w mX7_leavesOpen 4 0 [zf 7 252, zf 1 30, zi ((c : Nat) : Int)] σ (zret (zi (zb (h ∧ ¬ cFit (bk σ 30) u (σ.1 255 u) c))) σ) := by
  obtain ⟨Q, hQ⟩ : ∃ Q : zQ, Q = (zret (zi (zb (h ∧ ¬ cFit (bk σ 30) u (σ.1 255 u) c))) σ) := ⟨_, rfl⟩
  rw [← hQ]
  refine zx_enter hfl (by decide) rfl 0 rfl ?_
  show zX l w mX7_leavesOpen (zMQ w 4 0 Q) 0 [zf 7 252, zf 1 30, zi ((c : Nat) : Int)] [] 0 σ
  have hP : 0 ≤ σ.1 31 0 ∧ σ.1 31 0 ≤ 8 := hW.1.1
  have hM : 0 ≤ σ.1 31 7 ∧ σ.1 31 7 ≤ 8 := hW.1.2.1
  have hK : 0 ≤ σ.1 42 0 ∧ σ.1 42 0 ≤ 40 := hW.1.2.2.2
  refine zx_aloadN dX7_leavesOpen_0 rfl rfl ?_
  refine zx_iloadN dX7_leavesOpen_1 rfl rfl ?_
  refine zy_cv [zi ((c : Nat) : Int)] (sX7_heeds (h := h) hfl hz (by omega) hh) dX7_leavesOpen_2 (by decide) rfl cw_RX7_137 okX7_heeds rfl (Nat.le_of_ble_eq_true rfl) ⟨Nat.le_of_ble_eq_true rfl, Nat.le_of_ble_eq_true rfl, Nat.le_of_ble_eq_true rfl, Nat.le_of_ble_eq_true rfl⟩ ?_
  refine zy_top (b := zb h) (rfl) ?_
  refine zx_if_eq (tgt := 28) (by first | exact hz _ _ | assumption | exact zr_b _ | exact zcmp_r _ _ | (unfold zr at *; omega)) dX7_leavesOpen_5 (by decide) (fun h5 => ?_) (fun h5 => ?_)
  · have h5 := zb_0.mp h5
    refine zx_iconst dX7_leavesOpen_28 ?_
    refine zx_iret rfl rfl dX7_leavesOpen_29 ?_
    rw [hQ]
    refine ⟨congrArg (fun z : Int => (Sum.inl (some (zi z)) : Option zV ⊕ String)) ?_, by first | rfl | (exfalso; omega)⟩
    first | exact (zb_t ⟨by assumption, by assumption⟩).symm | exact (zb_f (fun q => absurd q.1 (by assumption))).symm | exact (zb_f (fun q => q.2 (by assumption))).symm
  · have h5 := zb_n.mp h5
    refine zx_aloadN dX7_leavesOpen_8 rfl rfl ?_
    refine zx_aloadN dX7_leavesOpen_9 rfl rfl ?_
    refine zy_cv [] (sX7_winner  hfl hz (by first | assumption | omega)) dX7_leavesOpen_10 (by decide) rfl cw_RX7_140 okX7_winner rfl (Nat.le_of_ble_eq_true rfl) ⟨Nat.le_of_ble_eq_true rfl, Nat.le_of_ble_eq_true rfl, Nat.le_of_ble_eq_true rfl, Nat.le_of_ble_eq_true rfl⟩ ?_
    refine zy_top (b := ((u : Nat) : Int)) (hu) ?_
    refine zx_aloadN dX7_leavesOpen_13 rfl rfl ?_
    refine zy_cv [] (sX7_winningYear  hfl hz (by first | assumption | omega) (by omega)) dX7_leavesOpen_14 (by decide) rfl cw_RX7_144 okX7_winningYear rfl (Nat.le_of_ble_eq_true rfl) ⟨Nat.le_of_ble_eq_true rfl, Nat.le_of_ble_eq_true rfl, Nat.le_of_ble_eq_true rfl, Nat.le_of_ble_eq_true rfl⟩ ?_
    refine zy_top (b := σ.1 255 u) (by rw [hu]; rfl) ?_
    refine zx_iloadN dX7_leavesOpen_17 rfl rfl ?_
    refine zy_cv [zi ((u : Nat) : Int), zi (σ.1 255 u), zi ((c : Nat) : Int)] (sX1_candidateFits  hfl hz (by first | assumption | omega) (by first | exact hz _ _ | assumption | exact zr_b _ | exact zcmp_r _ _ | (unfold zr at *; omega)) hu2 (by first | assumption | omega | (show (c : Int) < σ.1 42 0; omega))) dX7_leavesOpen_18 (by decide) rfl cw_RX7_147 okX1_candidateFits rfl (Nat.le_of_ble_eq_true rfl) ⟨Nat.le_of_ble_eq_true rfl, Nat.le_of_ble_eq_true rfl, Nat.le_of_ble_eq_true rfl, Nat.le_of_ble_eq_true rfl⟩ ?_
    refine zx_if_ne (tgt := 28) (by first | exact hz _ _ | assumption | exact zr_b _ | exact zcmp_r _ _ | (unfold zr at *; omega)) dX7_leavesOpen_21 (by decide) (fun h21 => ?_) (fun h21 => ?_)
    · have h21 := zb_n.mp h21
      refine zx_iconst dX7_leavesOpen_28 ?_
      refine zx_iret rfl rfl dX7_leavesOpen_29 ?_
      rw [hQ]
      refine ⟨congrArg (fun z : Int => (Sum.inl (some (zi z)) : Option zV ⊕ String)) ?_, by first | rfl | (exfalso; omega)⟩
      first | exact (zb_t ⟨by assumption, by assumption⟩).symm | exact (zb_f (fun q => absurd q.1 (by assumption))).symm | exact (zb_f (fun q => q.2 (by assumption))).symm
    · have h21 := zb_0.mp h21
      refine zx_iconst dX7_leavesOpen_24 ?_
      refine zx_goto (tgt := 29) dX7_leavesOpen_25 (by decide) ?_
      refine zx_iret rfl rfl dX7_leavesOpen_29 ?_
      rw [hQ]
      refine ⟨congrArg (fun z : Int => (Sum.inl (some (zi z)) : Option zV ⊕ String)) ?_, by first | rfl | (exfalso; omega)⟩
      first | exact (zb_t ⟨by assumption, by assumption⟩).symm | exact (zb_f (fun q => absurd q.1 (by assumption))).symm | exact (zb_f (fun q => q.2 (by assumption))).symm
set_option maxRecDepth 20000 in
set_option maxHeartbeats 2000000 in
theorem sX7_isInOrder {l : Launch} {w : zW} (hfl : l.stackTraces = false) {σ : zS} {i : Nat} (hz : zOK σ) (hi : 1 ≤ i ∧ (i : Int) < σ.1 252 5) (hP : σ.1 252 5 ≤ 8) (h1 : 0 ≤ σ.1 258 i ∧ σ.1 258 i < 8) (h2 : 0 ≤ σ.1 258 (i - 1) ∧ σ.1 258 (i - 1) < 8) : Sp l w mX7_isInOrder 2 0 [zf 7 252, zi ((i : Nat) : Int)] σ (zret (zi (zb (ordR (fun p => σ.1 256 p) (σ.1 258 (i - 1)).toNat (σ.1 258 i).toNat))) σ) := by
  obtain ⟨Q, hQ⟩ : ∃ Q : zQ, Q = (zret (zi (zb (ordR (fun p => σ.1 256 p) (σ.1 258 (i - 1)).toNat (σ.1 258 i).toNat))) σ) := ⟨_, rfl⟩
  rw [← hQ]
  refine zx_enter hfl (by decide) rfl 0 rfl ?_
  show zX l w mX7_isInOrder (zMQ w 2 0 Q) 0 [zf 7 252, zi ((i : Nat) : Int)] [] 0 σ
  refine zx_aloadN dX7_isInOrder_0 rfl rfl ?_
  refine zx_iloadN dX7_isInOrder_1 rfl rfl ?_
  refine zx_iconst dX7_isInOrder_2 ?_
  refine zx_isub dX7_isInOrder_3 ?_
  refine zy_top (b := ((i - 1 : Nat) : Int)) (by omega) ?_
  refine zy_cv [zi ((i - 1 : Nat) : Int)] (sX7_scoreAt  hfl hz (by first | exact hz _ _ | assumption | exact zr_b _ | exact zcmp_r _ _ | (unfold zr at *; omega)) (by first | assumption | omega) (by first | assumption | omega) (by rw [Int.toNat_natCast]; assumption)) dX7_isInOrder_4 (by decide) rfl cw_RX7_127 okX7_scoreAt rfl (Nat.le_of_ble_eq_true rfl) ⟨Nat.le_of_ble_eq_true rfl, Nat.le_of_ble_eq_true rfl, Nat.le_of_ble_eq_true rfl, Nat.le_of_ble_eq_true rfl⟩ ?_
  refine zy_top (b := σ.1 256 (σ.1 258 (i - 1)).toNat) rfl ?_
  refine zx_aloadN dX7_isInOrder_7 rfl rfl ?_
  refine zx_iloadN dX7_isInOrder_8 rfl rfl ?_
  refine zy_cv [zi ((i : Nat) : Int)] (sX7_scoreAt  hfl hz (by first | exact hz _ _ | assumption | exact zr_b _ | exact zcmp_r _ _ | (unfold zr at *; omega)) (by first | assumption | omega) (by first | assumption | omega) (by rw [Int.toNat_natCast]; assumption)) dX7_isInOrder_9 (by decide) rfl cw_RX7_127 okX7_scoreAt rfl (Nat.le_of_ble_eq_true rfl) ⟨Nat.le_of_ble_eq_true rfl, Nat.le_of_ble_eq_true rfl, Nat.le_of_ble_eq_true rfl, Nat.le_of_ble_eq_true rfl⟩ ?_
  refine zy_top (b := σ.1 256 (σ.1 258 i).toNat) rfl ?_
  refine zx_icmp_gt (tgt := 45) (by first | exact hz _ _ | assumption | exact zr_b _ | exact zcmp_r _ _ | (unfold zr at *; omega)) (by first | exact hz _ _ | assumption | exact zr_b _ | exact zcmp_r _ _ | (unfold zr at *; omega)) dX7_isInOrder_12 (by decide) (fun h12 => ?_) (fun h12 => ?_)
  · refine zx_iconst dX7_isInOrder_45 ?_
    refine zx_goto (tgt := 50) dX7_isInOrder_46 (by decide) ?_
    refine zx_iret rfl rfl dX7_isInOrder_50 ?_
    rw [hQ]
    refine ⟨congrArg (fun z : Int => (Sum.inl (some (zi z)) : Option zV ⊕ String)) ?_, by first | rfl | (exfalso; omega)⟩
    simp only [ordR]
    first | exact (zb_t (by omega)).symm | exact (zb_f (by omega)).symm
  · refine zx_aloadN dX7_isInOrder_15 rfl rfl ?_
    refine zx_iloadN dX7_isInOrder_16 rfl rfl ?_
    refine zx_iconst dX7_isInOrder_17 ?_
    refine zx_isub dX7_isInOrder_18 ?_
    refine zy_top (b := ((i - 1 : Nat) : Int)) (by omega) ?_
    refine zy_cv [zi ((i - 1 : Nat) : Int)] (sX7_scoreAt  hfl hz (by first | exact hz _ _ | assumption | exact zr_b _ | exact zcmp_r _ _ | (unfold zr at *; omega)) (by first | assumption | omega) (by first | assumption | omega) (by rw [Int.toNat_natCast]; assumption)) dX7_isInOrder_19 (by decide) rfl cw_RX7_127 okX7_scoreAt rfl (Nat.le_of_ble_eq_true rfl) ⟨Nat.le_of_ble_eq_true rfl, Nat.le_of_ble_eq_true rfl, Nat.le_of_ble_eq_true rfl, Nat.le_of_ble_eq_true rfl⟩ ?_
    refine zy_top (b := σ.1 256 (σ.1 258 (i - 1)).toNat) rfl ?_
    refine zx_aloadN dX7_isInOrder_22 rfl rfl ?_
    refine zx_iloadN dX7_isInOrder_23 rfl rfl ?_
    refine zy_cv [zi ((i : Nat) : Int)] (sX7_scoreAt  hfl hz (by first | exact hz _ _ | assumption | exact zr_b _ | exact zcmp_r _ _ | (unfold zr at *; omega)) (by first | assumption | omega) (by first | assumption | omega) (by rw [Int.toNat_natCast]; assumption)) dX7_isInOrder_24 (by decide) rfl cw_RX7_127 okX7_scoreAt rfl (Nat.le_of_ble_eq_true rfl) ⟨Nat.le_of_ble_eq_true rfl, Nat.le_of_ble_eq_true rfl, Nat.le_of_ble_eq_true rfl, Nat.le_of_ble_eq_true rfl⟩ ?_
    refine zy_top (b := σ.1 256 (σ.1 258 i).toNat) rfl ?_
    refine zx_icmp_ne (tgt := 49) (by first | exact hz _ _ | assumption | exact zr_b _ | exact zcmp_r _ _ | (unfold zr at *; omega)) (by first | exact hz _ _ | assumption | exact zr_b _ | exact zcmp_r _ _ | (unfold zr at *; omega)) dX7_isInOrder_27 (by decide) (fun h27 => ?_) (fun h27 => ?_)
    · refine zx_iconst dX7_isInOrder_49 ?_
      refine zx_iret rfl rfl dX7_isInOrder_50 ?_
      rw [hQ]
      refine ⟨congrArg (fun z : Int => (Sum.inl (some (zi z)) : Option zV ⊕ String)) ?_, by first | rfl | (exfalso; omega)⟩
      simp only [ordR]
      first | exact (zb_t (by omega)).symm | exact (zb_f (by omega)).symm
    · refine zx_aloadN dX7_isInOrder_30 rfl rfl ?_
      refine zx_iloadN dX7_isInOrder_31 rfl rfl ?_
      refine zx_iconst dX7_isInOrder_32 ?_
      refine zx_isub dX7_isInOrder_33 ?_
      refine zy_top (b := ((i - 1 : Nat) : Int)) (by omega) ?_
      refine zy_cv [zi ((i - 1 : Nat) : Int)] (sX7_printerAt  hfl hz (by first | exact hz _ _ | assumption | exact zr_b _ | exact zcmp_r _ _ | (unfold zr at *; omega)) (by first | assumption | omega)) dX7_isInOrder_34 (by decide) rfl cw_RX7_130 okX7_printerAt rfl (Nat.le_of_ble_eq_true rfl) ⟨Nat.le_of_ble_eq_true rfl, Nat.le_of_ble_eq_true rfl, Nat.le_of_ble_eq_true rfl, Nat.le_of_ble_eq_true rfl⟩ ?_
      refine zy_top (b := if 0 ≤ ((i - 1 : Nat) : Int) ∧ ((i - 1 : Nat) : Int) < σ.1 252 5 then σ.1 258 (i - 1) else -1) rfl ?_
      refine zy_top (b := σ.1 258 (i - 1)) (if_pos (by omega)) ?_
      refine zx_aloadN dX7_isInOrder_37 rfl rfl ?_
      refine zx_iloadN dX7_isInOrder_38 rfl rfl ?_
      refine zy_cv [zi ((i : Nat) : Int)] (sX7_printerAt  hfl hz (by first | exact hz _ _ | assumption | exact zr_b _ | exact zcmp_r _ _ | (unfold zr at *; omega)) (by first | assumption | omega)) dX7_isInOrder_39 (by decide) rfl cw_RX7_130 okX7_printerAt rfl (Nat.le_of_ble_eq_true rfl) ⟨Nat.le_of_ble_eq_true rfl, Nat.le_of_ble_eq_true rfl, Nat.le_of_ble_eq_true rfl, Nat.le_of_ble_eq_true rfl⟩ ?_
      refine zy_top (b := if 0 ≤ ((i : Nat) : Int) ∧ ((i : Nat) : Int) < σ.1 252 5 then σ.1 258 i else -1) rfl ?_
      refine zy_top (b := σ.1 258 i) (if_pos (by omega)) ?_
      refine zx_icmp_ge (tgt := 49) (by first | exact hz _ _ | assumption | exact zr_b _ | exact zcmp_r _ _ | (unfold zr at *; omega)) (by first | exact hz _ _ | assumption | exact zr_b _ | exact zcmp_r _ _ | (unfold zr at *; omega)) dX7_isInOrder_42 (by decide) (fun h42 => ?_) (fun h42 => ?_)
      · refine zx_iconst dX7_isInOrder_49 ?_
        refine zx_iret rfl rfl dX7_isInOrder_50 ?_
        rw [hQ]
        refine ⟨congrArg (fun z : Int => (Sum.inl (some (zi z)) : Option zV ⊕ String)) ?_, by first | rfl | (exfalso; omega)⟩
        simp only [ordR]
        first | exact (zb_t (by omega)).symm | exact (zb_f (by omega)).symm
      · refine zx_iconst dX7_isInOrder_45 ?_
        refine zx_goto (tgt := 50) dX7_isInOrder_46 (by decide) ?_
        refine zx_iret rfl rfl dX7_isInOrder_50 ?_
        rw [hQ]
        refine ⟨congrArg (fun z : Int => (Sum.inl (some (zi z)) : Option zV ⊕ String)) ?_, by first | rfl | (exfalso; omega)⟩
        simp only [ordR]
        first | exact (zb_t (by omega)).symm | exact (zb_f (by omega)).symm

