


theorem dL_law_525 : decode cL_law 525 = .ok (.ifCond .eq 13, 3) := by decide +kernel
theorem dL_law_528 : decode cL_law 528 = .ok (.aload 4, 2) := by decide +kernel
theorem dL_law_530 : decode cL_law 530 = .ok (.iload 9, 2) := by decide +kernel
theorem dL_law_532 : decode cL_law 532 = .ok (.invokestatic 273, 3) := by decide +kernel
theorem dL_law_535 : decode cL_law 535 = .ok (.ifCond .ne 5, 3) := by decide +kernel
theorem dL_law_540 : decode cL_law 540 = .ok (.aload 4, 2) := by decide +kernel
theorem dL_law_542 : decode cL_law 542 = .ok (.invokestatic 280, 3) := by decide +kernel
theorem dL_law_545 : decode cL_law 545 = .ok (.lstore 12, 2) := by decide +kernel
theorem dL_law_547 : decode cL_law 547 = .ok (.lload 12, 2) := by decide +kernel
theorem dL_law_549 : decode cL_law 549 = .ok (.lload 10, 2) := by decide +kernel
theorem dL_law_551 : decode cL_law 551 = .ok (.lcmp, 1) := by decide +kernel
theorem dL_law_552 : decode cL_law 552 = .ok (.ifCond .ne 6, 3) := by decide +kernel
theorem dL_law_555 : decode cL_law 555 = .ok (.goto 57, 3) := by decide +kernel
theorem dL_law_612 : decode cL_law 612 = .ok (.iinc 5 1, 3) := by decide +kernel
theorem dL_law_615 : decode cL_law 615 = .ok (.goto (-173), 3) := by decide +kernel
theorem dL_law_558 : decode cL_law 558 = .ok (.aload 4, 2) := by decide +kernel
theorem dL_law_560 : decode cL_law 560 = .ok (.bipush 11, 2) := by decide +kernel
theorem dL_law_562 : decode cL_law 562 = .ok (.iconst 0, 1) := by decide +kernel
theorem dL_law_563 : decode cL_law 563 = .ok (.iconst 0, 1) := by decide +kernel
theorem dL_law_564 : decode cL_law 564 = .ok (.iconst 0, 1) := by decide +kernel
theorem dL_law_565 : decode cL_law 565 = .ok (.invokestatic 231, 3) := by decide +kernel
theorem dL_law_568 : decode cL_law 568 = .ok (.ifCond .lt 42, 3) := by decide +kernel
theorem dL_law_571 : decode cL_law 571 = .ok (.aload 4, 2) := by decide +kernel
theorem dL_law_573 : decode cL_law 573 = .ok (.invokestatic 280, 3) := by decide +kernel
theorem dL_law_576 : decode cL_law 576 = .ok (.lload 10, 2) := by decide +kernel
theorem dL_law_578 : decode cL_law 578 = .ok (.lcmp, 1) := by decide +kernel
theorem dL_law_579 : decode cL_law 579 = .ok (.ifCond .ne 31, 3) := by decide +kernel
theorem dL_law_582 : decode cL_law 582 = .ok (.aload 4, 2) := by decide +kernel
theorem dL_law_584 : decode cL_law 584 = .ok (.iload_n 2, 1) := by decide +kernel
theorem dL_law_585 : decode cL_law 585 = .ok (.iload 6, 2) := by decide +kernel
theorem dL_law_587 : decode cL_law 587 = .ok (.iload 7, 2) := by decide +kernel
theorem dL_law_589 : decode cL_law 589 = .ok (.iload 8, 2) := by decide +kernel
theorem dL_law_591 : decode cL_law 591 = .ok (.iload 9, 2) := by decide +kernel
theorem dL_law_593 : decode cL_law 593 = .ok (.invokestatic 276, 3) := by decide +kernel
theorem dL_law_596 : decode cL_law 596 = .ok (.ifCond .eq 14, 3) := by decide +kernel
theorem dL_law_599 : decode cL_law 599 = .ok (.aload 4, 2) := by decide +kernel
theorem dL_law_601 : decode cL_law 601 = .ok (.invokestatic 280, 3) := by decide +kernel
theorem dL_law_604 : decode cL_law 604 = .ok (.lload 12, 2) := by decide +kernel
theorem dL_law_606 : decode cL_law 606 = .ok (.lcmp, 1) := by decide +kernel
theorem dL_law_607 : decode cL_law 607 = .ok (.ifCond .eq 5, 3) := by decide +kernel
theorem dL_law_618 : decode cL_law 618 = .ok (.aload 4, 2) := by decide +kernel
theorem dL_law_620 : decode cL_law 620 = .ok (.invokestatic 280, 3) := by decide +kernel
theorem dL_law_623 : decode cL_law 623 = .ok (.lstore 5, 2) := by decide +kernel
theorem dL_law_625 : decode cL_law 625 = .ok (.aload 4, 2) := by decide +kernel
theorem dL_law_627 : decode cL_law 627 = .ok (.invokevirtual 98, 3) := by decide +kernel
theorem dL_law_630 : decode cL_law 630 = .ok (.istore 7, 2) := by decide +kernel
theorem dL_law_632 : decode cL_law 632 = .ok (.aload 4, 2) := by decide +kernel
theorem dL_law_634 : decode cL_law 634 = .ok (.invokevirtual 284, 3) := by decide +kernel
theorem cw_RL_284 : zCwV RL 284 mX9_save := zall [593, 594, 595, 31, 596] (by decide +kernel) (by decide +kernel)
theorem dL_law_637 : decode cL_law 637 = .ok (.iload 7, 2) := by decide +kernel
theorem dL_law_639 : decode cL_law 639 = .ok (.if_icmp .ne 55, 3) := by decide +kernel
theorem dL_law_642 : decode cL_law 642 = .ok (.aload 4, 2) := by decide +kernel
theorem dL_law_644 : decode cL_law 644 = .ok (.iconst 5, 1) := by decide +kernel
theorem dL_law_645 : decode cL_law 645 = .ok (.iconst 5, 1) := by decide +kernel
theorem dL_law_646 : decode cL_law 646 = .ok (.iconst 0, 1) := by decide +kernel
theorem dL_law_647 : decode cL_law 647 = .ok (.iconst 0, 1) := by decide +kernel
theorem dL_law_648 : decode cL_law 648 = .ok (.invokestatic 231, 3) := by decide +kernel
theorem dL_law_651 : decode cL_law 651 = .ok (.ifCond .lt 43, 3) := by decide +kernel
theorem dL_law_654 : decode cL_law 654 = .ok (.aload 4, 2) := by decide +kernel
theorem dL_law_656 : decode cL_law 656 = .ok (.invokevirtual 287, 3) := by decide +kernel
theorem cw_RL_287 : zCwV RL 287 mX9_restore := zall [597, 598, 599, 31, 600] (by decide +kernel) (by decide +kernel)
theorem dL_law_659 : decode cL_law 659 = .ok (.iload 7, 2) := by decide +kernel
theorem dL_law_661 : decode cL_law 661 = .ok (.if_icmp .ne 33, 3) := by decide +kernel
theorem dL_law_664 : decode cL_law 664 = .ok (.aload 4, 2) := by decide +kernel
theorem dL_law_666 : decode cL_law 666 = .ok (.invokestatic 280, 3) := by decide +kernel
theorem dL_law_669 : decode cL_law 669 = .ok (.lload 5, 2) := by decide +kernel
theorem dL_law_671 : decode cL_law 671 = .ok (.lcmp, 1) := by decide +kernel
theorem dL_law_672 : decode cL_law 672 = .ok (.ifCond .ne 22, 3) := by decide +kernel
theorem dL_law_675 : decode cL_law 675 = .ok (.aload 4, 2) := by decide +kernel
theorem dL_law_677 : decode cL_law 677 = .ok (.bipush 11, 2) := by decide +kernel
theorem dL_law_679 : decode cL_law 679 = .ok (.iconst 0, 1) := by decide +kernel
theorem dL_law_680 : decode cL_law 680 = .ok (.iconst 0, 1) := by decide +kernel
theorem dL_law_681 : decode cL_law 681 = .ok (.iconst 0, 1) := by decide +kernel
theorem dL_law_682 : decode cL_law 682 = .ok (.invokestatic 231, 3) := by decide +kernel
theorem dL_law_685 : decode cL_law 685 = .ok (.bipush (-103), 2) := by decide +kernel
theorem dL_law_687 : decode cL_law 687 = .ok (.if_icmp .ne 7, 3) := by decide +kernel
theorem dL_law_690 : decode cL_law 690 = .ok (.iconst 1, 1) := by decide +kernel
theorem dL_law_691 : decode cL_law 691 = .ok (.goto 4, 3) := by decide +kernel
theorem dL_law_385 : decode cL_law 385 = .ok (.iconst 0, 1) := by decide +kernel
theorem dL_law_386 : decode cL_law 386 = .ok (.istore 5, 2) := by decide +kernel
theorem dL_law_439 : decode cL_law 439 = .ok (.iconst 0, 1) := by decide +kernel
theorem dL_law_440 : decode cL_law 440 = .ok (.istore 5, 2) := by decide +kernel
/-! ===== the law's second half, over numbered cells ===== -/
theorem aB_k {mk u x y z : Int} {D : zBk} {o : Nat} (ho : o = 1 ∨ o = 4 ∨ o = 5) (i : Nat) : aB mk u x y z D o i = D o i := by
  have c1 : ∀ (p : Prop) (A B : zBk), A o i = D o i → B o i = D o i → zit p A B o i = D o i := fun p A B h1 h2 => by
    by_cases q : p
    · rw [zit_t q]; exact h1
    · rw [zit_f q]; exact h2
  unfold aB
  split
  · refine c1 _ _ _ rfl ?_
    unfold adB
    rw [if_neg (by omega), if_neg (by omega)]
  · split
    · unfold rdB
      exact if_neg (by omega)
    · split
      · exact c1 _ _ _ rfl (ov_k _ _ _ _ (by omega))
      · split
        · exact c1 _ _ _ rfl (ov_k _ _ _ _ (by omega))
        · split
          · refine c1 _ _ _ rfl ?_
            unfold lnB
            exact if_neg (by omega)
          · unfold clB
            exact if_neg (by omega)
def LSt (mk : Int) (τ : zS) : Prop := zOK τ ∧ HN τ ∧ HBA τ ∧ LB mk (bK τ)
theorem LB_aB {mk mk' u x y z : Int} {D D' : zBk} (h : lEq (aB mk' u x y z D) D') (w : WF D') (hB : LB mk D) : LB mk D' := by
  refine LB_l h w ⟨?_, ?_, fun p hp => ?_⟩
  · rw [aB_k (Or.inl rfl)]; exact hB.2.1
  · rw [aB_k (Or.inl rfl)]; exact hB.2.2.1
  · rw [aB_k (Or.inl rfl)] at hp
    rw [aB_k (Or.inr (Or.inl rfl)), aB_k (Or.inr (Or.inr rfl))]
    exact hB.2.2.2 p hp
theorem AP_LS {mk mk' u x y z : Int} {σ τ : zS} (hS : LSt mk σ) (h : AP σ τ (bK σ) (aB mk' u x y z (bK σ))) : LSt mk τ := ⟨h.1, h.2.2.1, h.2.2.2.1, LB_aB h.2.2.2.2.2.1 h.2.2.2.2.1 hS.2.2.2⟩
theorem st_LS {mk : Int} {σ τ : zS} (hS : LSt mk σ) (h : zOK τ ∧ zSame (fun q => 252 ≤ q ∧ q ≤ 258) σ τ ∧ bK τ = bK σ) : LSt mk τ := ⟨h.1, HN_j hS.2.1 h.2.1, HBA_j hS.2.2.1 h.2.1, by rw [h.2.2]; exact hS.2.2.2⟩
/-- what undo brings back, and what the same act then does again -/
theorem un_LS {mk : Int} {σ τ υ : zS} (hS : LSt mk σ) (h1 : HPu σ τ) (h : zOK υ ∧ zSame (fun q => q = 70 ∨ (30 ≤ q ∧ q ≤ 49)) τ υ ∧ HN υ ∧ HBA υ ∧ zEq (bk τ (hRow τ 0)) (bK υ)) : LSt mk υ ∧ zEq (bK σ) (bK υ) ∧ lsum (bK υ) = lsum (bK σ) := by
  have e : zEq (bK σ) (bK υ) := zEq_tr (pEq_z (tr_q (bk σ 30))) (zEq_tr h1.2.2.1 h.2.2.2.2)
  have hl := lEq_z hS.2.2.2.1 e
  exact ⟨⟨h.1, h.2.2.1, h.2.2.2.1, LB_l hl (WF_eq e hS.2.2.2.1) hS.2.2.2.2⟩, e, lsum_l hl hS.2.2.2.1⟩
theorem again {mk mk' u x y z : Int} {σ τ υ ψ : zS} (hS : LSt mk σ) (e : zEq (bK σ) (bK υ)) (h1 : lEq (aB mk' u x y z (bK σ)) (bK τ)) (w1 : WF (bK τ)) (h2 : lEq (aB mk' u x y z (bK υ)) (bK ψ)) : lsum (bK ψ) = lsum (bK τ) :=
  lsum_l (lEq_tr (lEq_sy h1) (lEq_tr (aB_c e hS.2.2.2.1 hS.2.2.2.2.1) h2)) w1
theorem HPu_pos {σ τ : zS} (hN : HN σ) (h : HPu σ τ) : 0 < τ.1 70 2 ∧ τ.1 70 2 ≤ 8 := by
  have h1 := h.2.1
  have h2 := hN.2
  omega

