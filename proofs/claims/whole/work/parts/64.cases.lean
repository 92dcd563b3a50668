set_option maxRecDepth 100000 in
set_option maxHeartbeats 4000000 in
theorem lc_saw {l : Launch} {X : gC} {b L i k n : Nat} {xs : Nat → Int32} {σ : Mem} (hst : l.stackTraces = false) (hC : gOk wL l X cL_law "GemCutLaw" 10 601024 7293033) (hZ : gZY X) (hN : gNcX X) (hS : gScr X b L xs) (hL : L ≤ 3584) (hi : i + 7 ≤ L) (hk : k + 168 ≤ 601024) (hn : n + 844 ≤ 7293033) (hR : RS σ (shM 196 σ)) (kk : ∀ (k2 n2 : Nat) (σ2 : Mem), k2 ≤ k + 168 → n2 ≤ n + 844 → RS σ2 (shM 196 σ2) → G wL X k2 n2 1386 [some (.ref b), some (.ref (gA X 0)), some (.ref (gA X 196)), some (.ref (gA X 195)), some (.int (nI i)), none, none, none, none] [] σ2) : G wL X k n 468 [some (.ref b), some (.ref (gA X 0)), some (.ref (gA X 196)), some (.ref (gA X 195)), some (.int (nI i)), none, none, none, none] [] σ := by
  have hNM := NM_of hR.1 hR.2.1
  refine g_ald1 hC dL_law_468 ?_
  refine g_ald0 hC dL_law_469 ?_
  refine g_ild4 hC dL_law_470 ?_
  refine g_iconst 1 hC dL_law_472 (by decide) ?_
  refine g_iadd hC dL_law_473 ?_
  refine g_sld (j := i + 1) hC hS (nI_add i 1) (by omega) (by omega) dL_law_474 ?_
  refine g_ald0 hC dL_law_475 ?_
  refine g_ild4 hC dL_law_476 ?_
  refine g_iconst 2 hC dL_law_478 (by decide) ?_
  refine g_iadd hC dL_law_479 ?_
  refine g_sld (j := i + 2) hC hS (nI_add i 2) (by omega) (by omega) dL_law_480 ?_
  refine g_ald0 hC dL_law_481 ?_
  refine g_ild4 hC dL_law_482 ?_
  refine g_iconst 3 hC dL_law_484 (by decide) ?_
  refine g_iadd hC dL_law_485 ?_
  refine g_sld (j := i + 3) hC hS (nI_add i 3) (by omega) (by omega) dL_law_486 ?_
  refine g_ald0 hC dL_law_487 ?_
  refine g_ild4 hC dL_law_488 ?_
  refine g_iconst 4 hC dL_law_490 (by decide) ?_
  refine g_iadd hC dL_law_491 ?_
  refine g_sld (j := i + 4) hC hS (nI_add i 4) (by omega) (by omega) dL_law_492 ?_
  refine g_ald0 hC dL_law_493 ?_
  refine g_ild4 hC dL_law_494 ?_
  refine g_iconst 5 hC dL_law_496 (by decide) ?_
  refine g_iadd hC dL_law_497 ?_
  refine g_sld (j := i + 5) hC hS (nI_add i 5) (by omega) (by omega) dL_law_498 ?_
  refine g_ald3 hC dL_law_499 ?_
  refine g_wSI (o := 0) emb_l 7 hC hZ hN (c_L_saw l hst (mTh (shM 196 σ)) (xs (i + 1)) (xs (i + 2)) (xs (i + 3)) (xs (i + 4)) (xs (i + 5))) tw_3_46 ⟨tw_3_47, tw_1_0, tw_3_48⟩ (by decide +kernel) ⟨by decide, by decide⟩ ⟨by omega, by omega⟩ rfl rfl (Nat.le_of_ble_eq_true rfl) rfl dL_law_500 ⟨RS_th hR, th_0 _⟩ (fun rr σ1 hw => ?_)
  rw [mSaw_th] at hw
  show G wL X _ _ _ _ _ (ptM 0 196 σ σ1)
  refine g_ist5 hC dL_law_503 rfl ?_
  refine g_ald2 hC dL_law_505 ?_
  refine g_ald0 hC dL_law_506 ?_
  refine g_ild4 hC dL_law_507 ?_
  refine g_iconst 1 hC dL_law_509 (by decide) ?_
  refine g_iadd hC dL_law_510 ?_
  refine g_sld (j := i + 1) hC hS (nI_add i 1) (by omega) (by omega) dL_law_511 ?_
  refine g_ald0 hC dL_law_512 ?_
  refine g_ild4 hC dL_law_513 ?_
  refine g_iconst 2 hC dL_law_515 (by decide) ?_
  refine g_iadd hC dL_law_516 ?_
  refine g_sld (j := i + 2) hC hS (nI_add i 2) (by omega) (by omega) dL_law_517 ?_
  refine g_ald0 hC dL_law_518 ?_
  refine g_ild4 hC dL_law_519 ?_
  refine g_iconst 3 hC dL_law_521 (by decide) ?_
  refine g_iadd hC dL_law_522 ?_
  refine g_sld (j := i + 3) hC hS (nI_add i 3) (by omega) (by omega) dL_law_523 ?_
  refine g_ald0 hC dL_law_524 ?_
  refine g_ild4 hC dL_law_525 ?_
  refine g_iconst 4 hC dL_law_527 (by decide) ?_
  refine g_iadd hC dL_law_528 ?_
  refine g_sld (j := i + 4) hC hS (nI_add i 4) (by omega) (by omega) dL_law_529 ?_
  refine g_ald0 hC dL_law_530 ?_
  refine g_ild4 hC dL_law_531 ?_
  refine g_iconst 5 hC dL_law_533 (by decide) ?_
  refine g_iadd hC dL_law_534 ?_
  refine g_sld (j := i + 5) hC hS (nI_add i 5) (by omega) (by omega) dL_law_535 ?_
  refine g_eVI (o := 196) emb_m 5 hC (c_X6_saw l (xs (i + 1)) (xs (i + 2)) (xs (i + 3)) (xs (i + 4)) (xs (i + 5))) tw_4_118 ⟨tw_4_119, tw_4_120, tw_1_7, tw_4_121⟩ (by decide +kernel) ⟨by decide, by decide⟩ ⟨by omega, by omega⟩ rfl rfl rfl (gW_at wL _ _ (i := 196) (by decide)) (Nat.le_of_ble_eq_true rfl) rfl dL_law_536 (by rw [sh_pt _ (by decide)]; exact ⟨hR.1, hNM⟩) (fun r2 τ1 hq => ?_)
  rw [sh_pt _ (by decide)] at hq
  show G wL X _ _ _ _ _ (ptM 196 5 (ptM 0 196 σ σ1) τ1)
  obtain ⟨s1, s2, s3⟩ := lw_step (σ := σ) (τ1 := τ1) hw (by rw [hq.2]; exact Qf_rf _) (by rw [hq.2])
  generalize ptM 196 5 (ptM 0 196 σ σ1) τ1 = σ2 at s1 s2 s3 ⊢
  refine g_ist6 hC dL_law_539 rfl ?_
  refine g_ald2 hC dL_law_541 ?_
  refine g_eVI (o := 196) emb_m 0 hC (c_X6_thrown l) tw_4_59 ⟨tw_4_60, tw_4_61, tw_1_7, tw_4_62⟩ (by decide +kernel) ⟨by decide, by decide⟩ ⟨by omega, by omega⟩ rfl rfl rfl (gW_at wL _ _ (i := 196) (by decide)) (Nat.le_of_ble_eq_true rfl) rfl dL_law_542 trivial (fun r3 τ3 hq3 => ?_)
  obtain ⟨rfl, rfl⟩ := hq3
  rw [ptM_id, s2]
  refine g_ild5 hC dL_law_545 ?_
  refine g_icmp_eq 552 hC dL_law_547 (by decide) (fun _ => ?_) (fun c => absurd rfl c)
  refine g_ild5 hC dL_law_552 ?_
  refine g_if_ne 569 hC dL_law_554 (by decide) (fun c => ?_) (fun c => ?_)
  · refine g_goto 1386 hC dL_law_569 (by decide) ?_
    refine g_keep [true, true, true, true, true, false, false, false, false] ?_
    exact kk _ _ _ (by omega) (by omega) s1
  · refine g_ald3 hC dL_law_557 ?_
    refine g_iconst 0 hC dL_law_558 (by decide) ?_
    refine g_lald (i := 195) hC (by decide) (fun ρ => le_out _ ρ) dL_law_559 ?_
    refine g_ild6 hC dL_law_560 ?_
    refine g_i2l hC dL_law_562 ?_
    refine g_lcmp hC (by rw [s3 c, hq.1]) dL_law_563 ?_
    refine g_if_eq 569 hC dL_law_564 (by decide) (fun _ => ?_) (fun c => absurd rfl c)
    refine g_goto 1386 hC dL_law_569 (by decide) ?_
    refine g_keep [true, true, true, true, true, false, false, false, false] ?_
    exact kk _ _ _ (by omega) (by omega) s1
set_option maxRecDepth 100000 in
set_option maxHeartbeats 4000000 in
theorem lc_cut {l : Launch} {X : gC} {b L i k n : Nat} {xs : Nat → Int32} {σ : Mem} (hst : l.stackTraces = false) (hC : gOk wL l X cL_law "GemCutLaw" 10 601024 7293033) (hZ : gZY X) (hN : gNcX X) (hS : gScr X b L xs) (hL : L ≤ 3584) (hi : i + 7 ≤ L) (hk : k + 168 ≤ 601024) (hn : n + 844 ≤ 7293033) (hR : RS σ (shM 196 σ)) (kk : ∀ (k2 n2 : Nat) (σ2 : Mem), k2 ≤ k + 168 → n2 ≤ n + 844 → RS σ2 (shM 196 σ2) → G wL X k2 n2 1386 [some (.ref b), some (.ref (gA X 0)), some (.ref (gA X 196)), some (.ref (gA X 195)), some (.int (nI i)), none, none, none, none] [] σ2) : G wL X k n 572 [some (.ref b), some (.ref (gA X 0)), some (.ref (gA X 196)), some (.ref (gA X 195)), some (.int (nI i)), none, none, none, none] [] σ := by
  have hNM := NM_of hR.1 hR.2.1
  refine g_ald1 hC dL_law_572 ?_
  refine g_ald0 hC dL_law_573 ?_
  refine g_ild4 hC dL_law_574 ?_
  refine g_iconst 1 hC dL_law_576 (by decide) ?_
  refine g_iadd hC dL_law_577 ?_
  refine g_sld (j := i + 1) hC hS (nI_add i 1) (by omega) (by omega) dL_law_578 ?_
  refine g_ald0 hC dL_law_579 ?_
  refine g_ild4 hC dL_law_580 ?_
  refine g_iconst 2 hC dL_law_582 (by decide) ?_
  refine g_iadd hC dL_law_583 ?_
  refine g_sld (j := i + 2) hC hS (nI_add i 2) (by omega) (by omega) dL_law_584 ?_
  refine g_ald0 hC dL_law_585 ?_
  refine g_ild4 hC dL_law_586 ?_
  refine g_iconst 3 hC dL_law_588 (by decide) ?_
  refine g_iadd hC dL_law_589 ?_
  refine g_sld (j := i + 3) hC hS (nI_add i 3) (by omega) (by omega) dL_law_590 ?_
  refine g_ald0 hC dL_law_591 ?_
  refine g_ild4 hC dL_law_592 ?_
  refine g_iconst 4 hC dL_law_594 (by decide) ?_
  refine g_iadd hC dL_law_595 ?_
  refine g_sld (j := i + 4) hC hS (nI_add i 4) (by omega) (by omega) dL_law_596 ?_
  refine g_ald0 hC dL_law_597 ?_
  refine g_ild4 hC dL_law_598 ?_
  refine g_iconst 5 hC dL_law_600 (by decide) ?_
  refine g_iadd hC dL_law_601 ?_
  refine g_sld (j := i + 5) hC hS (nI_add i 5) (by omega) (by omega) dL_law_602 ?_
  refine g_ald3 hC dL_law_603 ?_
  refine g_wSI (o := 0) emb_l 7 hC hZ hN (c_L_cut l hst (mTh (shM 196 σ)) (xs (i + 1)) (xs (i + 2)) (xs (i + 3)) (xs (i + 4)) (xs (i + 5))) tw_3_96 ⟨tw_3_97, tw_1_0, tw_3_98⟩ (by decide +kernel) ⟨by decide, by decide⟩ ⟨by omega, by omega⟩ rfl rfl (Nat.le_of_ble_eq_true rfl) rfl dL_law_604 ⟨RS_th hR, th_0 _⟩ (fun rr σ1 hw => ?_)
  rw [mCut_th] at hw
  show G wL X _ _ _ _ _ (ptM 0 196 σ σ1)
  refine g_ist5 hC dL_law_607 rfl ?_
  refine g_ald2 hC dL_law_609 ?_
  refine g_ald0 hC dL_law_610 ?_
  refine g_ild4 hC dL_law_611 ?_
  refine g_iconst 1 hC dL_law_613 (by decide) ?_
  refine g_iadd hC dL_law_614 ?_
  refine g_sld (j := i + 1) hC hS (nI_add i 1) (by omega) (by omega) dL_law_615 ?_
  refine g_ald0 hC dL_law_616 ?_
  refine g_ild4 hC dL_law_617 ?_
  refine g_iconst 2 hC dL_law_619 (by decide) ?_
  refine g_iadd hC dL_law_620 ?_
  refine g_sld (j := i + 2) hC hS (nI_add i 2) (by omega) (by omega) dL_law_621 ?_
  refine g_ald0 hC dL_law_622 ?_
  refine g_ild4 hC dL_law_623 ?_
  refine g_iconst 3 hC dL_law_625 (by decide) ?_
  refine g_iadd hC dL_law_626 ?_
  refine g_sld (j := i + 3) hC hS (nI_add i 3) (by omega) (by omega) dL_law_627 ?_
  refine g_ald0 hC dL_law_628 ?_
  refine g_ild4 hC dL_law_629 ?_
  refine g_iconst 4 hC dL_law_631 (by decide) ?_
  refine g_iadd hC dL_law_632 ?_
  refine g_sld (j := i + 4) hC hS (nI_add i 4) (by omega) (by omega) dL_law_633 ?_
  refine g_ald0 hC dL_law_634 ?_
  refine g_ild4 hC dL_law_635 ?_
  refine g_iconst 5 hC dL_law_637 (by decide) ?_
  refine g_iadd hC dL_law_638 ?_
  refine g_sld (j := i + 5) hC hS (nI_add i 5) (by omega) (by omega) dL_law_639 ?_
  refine g_eVI (o := 196) emb_m 5 hC (c_X6_cut l (xs (i + 1)) (xs (i + 2)) (xs (i + 3)) (xs (i + 4)) (xs (i + 5))) tw_4_140 ⟨tw_4_141, tw_4_142, tw_1_7, tw_4_143⟩ (by decide +kernel) ⟨by decide, by decide⟩ ⟨by omega, by omega⟩ rfl rfl rfl (gW_at wL _ _ (i := 196) (by decide)) (Nat.le_of_ble_eq_true rfl) rfl dL_law_640 (by rw [sh_pt _ (by decide)]; exact ⟨hR.1, hNM, hR.2.2.1⟩) (fun r2 τ1 hq => ?_)
  rw [sh_pt _ (by decide)] at hq
  show G wL X _ _ _ _ _ (ptM 196 5 (ptM 0 196 σ σ1) τ1)
  obtain ⟨s1, s2, s3⟩ := lw_step (σ := σ) (τ1 := τ1) hw (by rw [hq.2]; exact Qf_rf _) (by rw [hq.2])
  generalize ptM 196 5 (ptM 0 196 σ σ1) τ1 = σ2 at s1 s2 s3 ⊢
  refine g_ist6 hC dL_law_643 rfl ?_
  refine g_ald2 hC dL_law_645 ?_
  refine g_eVI (o := 196) emb_m 0 hC (c_X6_thrown l) tw_4_59 ⟨tw_4_60, tw_4_61, tw_1_7, tw_4_62⟩ (by decide +kernel) ⟨by decide, by decide⟩ ⟨by omega, by omega⟩ rfl rfl rfl (gW_at wL _ _ (i := 196) (by decide)) (Nat.le_of_ble_eq_true rfl) rfl dL_law_646 trivial (fun r3 τ3 hq3 => ?_)
  obtain ⟨rfl, rfl⟩ := hq3
  rw [ptM_id, s2]
  refine g_ild5 hC dL_law_649 ?_
  refine g_icmp_eq 656 hC dL_law_651 (by decide) (fun _ => ?_) (fun c => absurd rfl c)
  refine g_ild5 hC dL_law_656 ?_
  refine g_if_ne 673 hC dL_law_658 (by decide) (fun c => ?_) (fun c => ?_)
  · refine g_goto 1386 hC dL_law_673 (by decide) ?_
    refine g_keep [true, true, true, true, true, false, false, false, false] ?_
    exact kk _ _ _ (by omega) (by omega) s1
  · refine g_ald3 hC dL_law_661 ?_
    refine g_iconst 0 hC dL_law_662 (by decide) ?_
    refine g_lald (i := 195) hC (by decide) (fun ρ => le_out _ ρ) dL_law_663 ?_
    refine g_ild6 hC dL_law_664 ?_
    refine g_i2l hC dL_law_666 ?_
    refine g_lcmp hC (by rw [s3 c, hq.1]) dL_law_667 ?_
    refine g_if_eq 673 hC dL_law_668 (by decide) (fun _ => ?_) (fun c => absurd rfl c)
    refine g_goto 1386 hC dL_law_673 (by decide) ?_
    refine g_keep [true, true, true, true, true, false, false, false, false] ?_
    exact kk _ _ _ (by omega) (by omega) s1
set_option maxRecDepth 100000 in
set_option maxHeartbeats 4000000 in
theorem lc_polish {l : Launch} {X : gC} {b L i k n : Nat} {xs : Nat → Int32} {σ : Mem} (hst : l.stackTraces = false) (hC : gOk wL l X cL_law "GemCutLaw" 10 601024 7293033) (hZ : gZY X) (hN : gNcX X) (hS : gScr X b L xs) (hL : L ≤ 3584) (hi : i + 7 ≤ L) (hk : k + 168 ≤ 601024) (hn : n + 844 ≤ 7293033) (hR : RS σ (shM 196 σ)) (kk : ∀ (k2 n2 : Nat) (σ2 : Mem), k2 ≤ k + 168 → n2 ≤ n + 844 → RS σ2 (shM 196 σ2) → G wL X k2 n2 1386 [some (.ref b), some (.ref (gA X 0)), some (.ref (gA X 196)), some (.ref (gA X 195)), some (.int (nI i)), none, none, none, none] [] σ2) : G wL X k n 676 [some (.ref b), some (.ref (gA X 0)), some (.ref (gA X 196)), some (.ref (gA X 195)), some (.int (nI i)), none, none, none, none] [] σ := by
  have hNM := NM_of hR.1 hR.2.1
  refine g_ald1 hC dL_law_676 ?_
  refine g_ald0 hC dL_law_677 ?_
  refine g_ild4 hC dL_law_678 ?_
  refine g_iconst 1 hC dL_law_680 (by decide) ?_
  refine g_iadd hC dL_law_681 ?_
  refine g_sld (j := i + 1) hC hS (nI_add i 1) (by omega) (by omega) dL_law_682 ?_
  refine g_ald0 hC dL_law_683 ?_
  refine g_ild4 hC dL_law_684 ?_
  refine g_iconst 2 hC dL_law_686 (by decide) ?_
  refine g_iadd hC dL_law_687 ?_
  refine g_sld (j := i + 2) hC hS (nI_add i 2) (by omega) (by omega) dL_law_688 ?_
  refine g_ald3 hC dL_law_689 ?_
  refine g_wSI (o := 0) emb_l 4 hC hZ hN (c_L_polish l hst (mTh (shM 196 σ)) (xs (i + 1)) (xs (i + 2))) tw_3_113 ⟨tw_3_114, tw_1_0, tw_3_115⟩ (by decide +kernel) ⟨by decide, by decide⟩ ⟨by omega, by omega⟩ rfl rfl (Nat.le_of_ble_eq_true rfl) rfl dL_law_690 ⟨RS_th hR, th_0 _⟩ (fun rr σ1 hw => ?_)
  rw [mPolish_th] at hw
  show G wL X _ _ _ _ _ (ptM 0 196 σ σ1)
  refine g_ist5 hC dL_law_693 rfl ?_
  refine g_ald2 hC dL_law_695 ?_
  refine g_ald0 hC dL_law_696 ?_
  refine g_ild4 hC dL_law_697 ?_
  refine g_iconst 1 hC dL_law_699 (by decide) ?_
  refine g_iadd hC dL_law_700 ?_
  refine g_sld (j := i + 1) hC hS (nI_add i 1) (by omega) (by omega) dL_law_701 ?_
  refine g_ald0 hC dL_law_702 ?_
  refine g_ild4 hC dL_law_703 ?_
  refine g_iconst 2 hC dL_law_705 (by decide) ?_
  refine g_iadd hC dL_law_706 ?_
  refine g_sld (j := i + 2) hC hS (nI_add i 2) (by omega) (by omega) dL_law_707 ?_
  refine g_eVI (o := 196) emb_m 2 hC (c_X6_polish l (xs (i + 1)) (xs (i + 2))) tw_4_152 ⟨tw_4_153, tw_4_154, tw_1_7, tw_4_155⟩ (by decide +kernel) ⟨by decide, by decide⟩ ⟨by omega, by omega⟩ rfl rfl rfl (gW_at wL _ _ (i := 196) (by decide)) (Nat.le_of_ble_eq_true rfl) rfl dL_law_708 (by rw [sh_pt _ (by decide)]; exact hR.1) (fun r2 τ1 hq => ?_)
  rw [sh_pt _ (by decide)] at hq
  show G wL X _ _ _ _ _ (ptM 196 5 (ptM 0 196 σ σ1) τ1)
  obtain ⟨s1, s2, s3⟩ := lw_step (σ := σ) (τ1 := τ1) hw (by rw [hq.2]; exact Qf_rf _) (by rw [hq.2])
  generalize ptM 196 5 (ptM 0 196 σ σ1) τ1 = σ2 at s1 s2 s3 ⊢
  refine g_ist6 hC dL_law_711 rfl ?_
  refine g_ald2 hC dL_law_713 ?_
  refine g_eVI (o := 196) emb_m 0 hC (c_X6_thrown l) tw_4_59 ⟨tw_4_60, tw_4_61, tw_1_7, tw_4_62⟩ (by decide +kernel) ⟨by decide, by decide⟩ ⟨by omega, by omega⟩ rfl rfl rfl (gW_at wL _ _ (i := 196) (by decide)) (Nat.le_of_ble_eq_true rfl) rfl dL_law_714 trivial (fun r3 τ3 hq3 => ?_)
  obtain ⟨rfl, rfl⟩ := hq3
  rw [ptM_id, s2]
  refine g_ild5 hC dL_law_717 ?_
  refine g_icmp_eq 724 hC dL_law_719 (by decide) (fun _ => ?_) (fun c => absurd rfl c)
  refine g_ild5 hC dL_law_724 ?_
  refine g_if_ne 741 hC dL_law_726 (by decide) (fun c => ?_) (fun c => ?_)
  · refine g_goto 1386 hC dL_law_741 (by decide) ?_
    refine g_keep [true, true, true, true, true, false, false, false, false] ?_
    exact kk _ _ _ (by omega) (by omega) s1
  · refine g_ald3 hC dL_law_729 ?_
    refine g_iconst 0 hC dL_law_730 (by decide) ?_
    refine g_lald (i := 195) hC (by decide) (fun ρ => le_out _ ρ) dL_law_731 ?_
    refine g_ild6 hC dL_law_732 ?_
    refine g_i2l hC dL_law_734 ?_
    refine g_lcmp hC (by rw [s3 c, hq.1]) dL_law_735 ?_
    refine g_if_eq 741 hC dL_law_736 (by decide) (fun _ => ?_) (fun c => absurd rfl c)
    refine g_goto 1386 hC dL_law_741 (by decide) ?_
    refine g_keep [true, true, true, true, true, false, false, false, false] ?_
    exact kk _ _ _ (by omega) (by omega) s1
set_option maxRecDepth 100000 in
set_option maxHeartbeats 4000000 in
theorem lc_stone {l : Launch} {X : gC} {b L i k n : Nat} {xs : Nat → Int32} {σ : Mem} (hst : l.stackTraces = false) (hC : gOk wL l X cL_law "GemCutLaw" 10 601024 7293033) (hZ : gZY X) (hN : gNcX X) (hS : gScr X b L xs) (hL : L ≤ 3584) (hi : i + 7 ≤ L) (hk : k + 168 ≤ 601024) (hn : n + 844 ≤ 7293033) (hR : RS σ (shM 196 σ)) (kk : ∀ (k2 n2 : Nat) (σ2 : Mem), k2 ≤ k + 168 → n2 ≤ n + 844 → RS σ2 (shM 196 σ2) → G wL X k2 n2 1386 [some (.ref b), some (.ref (gA X 0)), some (.ref (gA X 196)), some (.ref (gA X 195)), some (.int (nI i)), none, none, none, none] [] σ2) : G wL X k n 757 [some (.ref b), some (.ref (gA X 0)), some (.ref (gA X 196)), some (.ref (gA X 195)), some (.int (nI i)), none, none, none, none] [] σ := by
  have hNM := NM_of hR.1 hR.2.1
  refine g_ald1 hC dL_law_757 ?_
  refine g_ald0 hC dL_law_758 ?_
  refine g_ild4 hC dL_law_759 ?_
  refine g_iconst 1 hC dL_law_761 (by decide) ?_
  refine g_iadd hC dL_law_762 ?_
  refine g_sld (j := i + 1) hC hS (nI_add i 1) (by omega) (by omega) dL_law_763 ?_
  refine g_ald0 hC dL_law_764 ?_
  refine g_ild4 hC dL_law_765 ?_
  refine g_iconst 2 hC dL_law_767 (by decide) ?_
  refine g_iadd hC dL_law_768 ?_
  refine g_sld (j := i + 2) hC hS (nI_add i 2) (by omega) (by omega) dL_law_769 ?_
  refine g_ald3 hC dL_law_770 ?_
  refine g_wSI (o := 0) emb_l 4 hC hZ hN (c_L_stone l hst (mTh (shM 196 σ)) (xs (i + 1)) (xs (i + 2))) tw_3_127 ⟨tw_3_128, tw_1_0, tw_3_129⟩ (by decide +kernel) ⟨by decide, by decide⟩ ⟨by omega, by omega⟩ rfl rfl (Nat.le_of_ble_eq_true rfl) rfl dL_law_771 ⟨RS_th hR, th_0 _⟩ (fun rr σ1 hw => ?_)
  rw [mStone_th] at hw
  show G wL X _ _ _ _ _ (ptM 0 196 σ σ1)
  refine g_ist5 hC dL_law_774 rfl ?_
  refine g_ald2 hC dL_law_776 ?_
  refine g_ald0 hC dL_law_777 ?_
  refine g_ild4 hC dL_law_778 ?_
  refine g_iconst 1 hC dL_law_780 (by decide) ?_
  refine g_iadd hC dL_law_781 ?_
  refine g_sld (j := i + 1) hC hS (nI_add i 1) (by omega) (by omega) dL_law_782 ?_
  refine g_ald0 hC dL_law_783 ?_
  refine g_ild4 hC dL_law_784 ?_
  refine g_iconst 2 hC dL_law_786 (by decide) ?_
  refine g_iadd hC dL_law_787 ?_
  refine g_sld (j := i + 2) hC hS (nI_add i 2) (by omega) (by omega) dL_law_788 ?_
  refine g_eVI (o := 196) emb_m 2 hC (c_X6_stone l (xs (i + 1)) (xs (i + 2))) tw_4_173 ⟨tw_4_174, tw_4_175, tw_1_7, tw_4_176⟩ (by decide +kernel) ⟨by decide, by decide⟩ ⟨by omega, by omega⟩ rfl rfl rfl (gW_at wL _ _ (i := 196) (by decide)) (Nat.le_of_ble_eq_true rfl) rfl dL_law_789 (by rw [sh_pt _ (by decide)]; exact hR.1) (fun r2 τ1 hq => ?_)
  rw [sh_pt _ (by decide)] at hq
  show G wL X _ _ _ _ _ (ptM 196 5 (ptM 0 196 σ σ1) τ1)
  obtain ⟨s1, s2, s3⟩ := lw_step (σ := σ) (τ1 := τ1) hw (by rw [hq.2]; exact Qf_rf _) (by rw [hq.2])
  generalize ptM 196 5 (ptM 0 196 σ σ1) τ1 = σ2 at s1 s2 s3 ⊢
  refine g_ist6 hC dL_law_792 rfl ?_
  refine g_ald2 hC dL_law_794 ?_
  refine g_eVI (o := 196) emb_m 0 hC (c_X6_thrown l) tw_4_59 ⟨tw_4_60, tw_4_61, tw_1_7, tw_4_62⟩ (by decide +kernel) ⟨by decide, by decide⟩ ⟨by omega, by omega⟩ rfl rfl rfl (gW_at wL _ _ (i := 196) (by decide)) (Nat.le_of_ble_eq_true rfl) rfl dL_law_795 trivial (fun r3 τ3 hq3 => ?_)
  obtain ⟨rfl, rfl⟩ := hq3
  rw [ptM_id, s2]
  refine g_ild5 hC dL_law_798 ?_
  refine g_icmp_eq 805 hC dL_law_800 (by decide) (fun _ => ?_) (fun c => absurd rfl c)
  refine g_ild5 hC dL_law_805 ?_
  refine g_if_ne 822 hC dL_law_807 (by decide) (fun c => ?_) (fun c => ?_)
  · refine g_goto 1386 hC dL_law_822 (by decide) ?_
    refine g_keep [true, true, true, true, true, false, false, false, false] ?_
    exact kk _ _ _ (by omega) (by omega) s1
  · refine g_ald3 hC dL_law_810 ?_
    refine g_iconst 0 hC dL_law_811 (by decide) ?_
    refine g_lald (i := 195) hC (by decide) (fun ρ => le_out _ ρ) dL_law_812 ?_
    refine g_ild6 hC dL_law_813 ?_
    refine g_i2l hC dL_law_815 ?_
    refine g_lcmp hC (by rw [s3 c, hq.1]) dL_law_816 ?_
    refine g_if_eq 822 hC dL_law_817 (by decide) (fun _ => ?_) (fun c => absurd rfl c)
    refine g_goto 1386 hC dL_law_822 (by decide) ?_
    refine g_keep [true, true, true, true, true, false, false, false, false] ?_
    exact kk _ _ _ (by omega) (by omega) s1
set_option maxRecDepth 100000 in
set_option maxHeartbeats 4000000 in
theorem lc_plane {l : Launch} {X : gC} {b L i k n : Nat} {xs : Nat → Int32} {σ : Mem} (hst : l.stackTraces = false) (hC : gOk wL l X cL_law "GemCutLaw" 10 601024 7293033) (hZ : gZY X) (hN : gNcX X) (hS : gScr X b L xs) (hL : L ≤ 3584) (hi : i + 7 ≤ L) (hk : k + 168 ≤ 601024) (hn : n + 844 ≤ 7293033) (hR : RS σ (shM 196 σ)) (kk : ∀ (k2 n2 : Nat) (σ2 : Mem), k2 ≤ k + 168 → n2 ≤ n + 844 → RS σ2 (shM 196 σ2) → G wL X k2 n2 1386 [some (.ref b), some (.ref (gA X 0)), some (.ref (gA X 196)), some (.ref (gA X 195)), some (.int (nI i)), none, none, none, none] [] σ2) : G wL X k n 825 [some (.ref b), some (.ref (gA X 0)), some (.ref (gA X 196)), some (.ref (gA X 195)), some (.int (nI i)), none, none, none, none] [] σ := by
  have hNM := NM_of hR.1 hR.2.1
  refine g_ald1 hC dL_law_825 ?_
  refine g_ald0 hC dL_law_826 ?_
  refine g_ild4 hC dL_law_827 ?_
  refine g_iconst 1 hC dL_law_829 (by decide) ?_
  refine g_iadd hC dL_law_830 ?_
  refine g_sld (j := i + 1) hC hS (nI_add i 1) (by omega) (by omega) dL_law_831 ?_
  refine g_ald0 hC dL_law_832 ?_
  refine g_ild4 hC dL_law_833 ?_
  refine g_iconst 2 hC dL_law_835 (by decide) ?_
  refine g_iadd hC dL_law_836 ?_
  refine g_sld (j := i + 2) hC hS (nI_add i 2) (by omega) (by omega) dL_law_837 ?_
  refine g_ald0 hC dL_law_838 ?_
  refine g_ild4 hC dL_law_839 ?_
  refine g_iconst 3 hC dL_law_841 (by decide) ?_
  refine g_iadd hC dL_law_842 ?_
  refine g_sld (j := i + 3) hC hS (nI_add i 3) (by omega) (by omega) dL_law_843 ?_
  refine g_ald3 hC dL_law_844 ?_
  refine g_wSI (o := 0) emb_l 5 hC hZ hN (c_L_plane l hst (mTh (shM 196 σ)) (xs (i + 1)) (xs (i + 2)) (xs (i + 3))) tw_3_134 ⟨tw_3_135, tw_1_0, tw_3_136⟩ (by decide +kernel) ⟨by decide, by decide⟩ ⟨by omega, by omega⟩ rfl rfl (Nat.le_of_ble_eq_true rfl) rfl dL_law_845 ⟨RS_th hR, th_0 _⟩ (fun rr σ1 hw => ?_)
  rw [mPlane_th] at hw
  show G wL X _ _ _ _ _ (ptM 0 196 σ σ1)
  refine g_ist5 hC dL_law_848 rfl ?_
  refine g_ald2 hC dL_law_850 ?_
  refine g_ald0 hC dL_law_851 ?_
  refine g_ild4 hC dL_law_852 ?_
  refine g_iconst 1 hC dL_law_854 (by decide) ?_
  refine g_iadd hC dL_law_855 ?_
  refine g_sld (j := i + 1) hC hS (nI_add i 1) (by omega) (by omega) dL_law_856 ?_
  refine g_ald0 hC dL_law_857 ?_
  refine g_ild4 hC dL_law_858 ?_
  refine g_iconst 2 hC dL_law_860 (by decide) ?_
  refine g_iadd hC dL_law_861 ?_
  refine g_sld (j := i + 2) hC hS (nI_add i 2) (by omega) (by omega) dL_law_862 ?_
  refine g_ald0 hC dL_law_863 ?_
  refine g_ild4 hC dL_law_864 ?_
  refine g_iconst 3 hC dL_law_866 (by decide) ?_
  refine g_iadd hC dL_law_867 ?_
  refine g_sld (j := i + 3) hC hS (nI_add i 3) (by omega) (by omega) dL_law_868 ?_
  refine g_eVI (o := 196) emb_m 3 hC (c_X6_plane l (xs (i + 1)) (xs (i + 2)) (xs (i + 3))) tw_4_201 ⟨tw_4_202, tw_4_203, tw_1_7, tw_4_204⟩ (by decide +kernel) ⟨by decide, by decide⟩ ⟨by omega, by omega⟩ rfl rfl rfl (gW_at wL _ _ (i := 196) (by decide)) (Nat.le_of_ble_eq_true rfl) rfl dL_law_869 (by rw [sh_pt _ (by decide)]; exact hR.1) (fun r2 τ1 hq => ?_)
  rw [sh_pt _ (by decide)] at hq
  show G wL X _ _ _ _ _ (ptM 196 5 (ptM 0 196 σ σ1) τ1)
  obtain ⟨s1, s2, s3⟩ := lw_step (σ := σ) (τ1 := τ1) hw (by rw [hq.2]; exact Qf_rf _) (by rw [hq.2])
  generalize ptM 196 5 (ptM 0 196 σ σ1) τ1 = σ2 at s1 s2 s3 ⊢
  refine g_ist6 hC dL_law_872 rfl ?_
  refine g_ald2 hC dL_law_874 ?_
  refine g_eVI (o := 196) emb_m 0 hC (c_X6_thrown l) tw_4_59 ⟨tw_4_60, tw_4_61, tw_1_7, tw_4_62⟩ (by decide +kernel) ⟨by decide, by decide⟩ ⟨by omega, by omega⟩ rfl rfl rfl (gW_at wL _ _ (i := 196) (by decide)) (Nat.le_of_ble_eq_true rfl) rfl dL_law_875 trivial (fun r3 τ3 hq3 => ?_)
  obtain ⟨rfl, rfl⟩ := hq3
  rw [ptM_id, s2]
  refine g_ild5 hC dL_law_878 ?_
  refine g_icmp_eq 885 hC dL_law_880 (by decide) (fun _ => ?_) (fun c => absurd rfl c)
  refine g_ild5 hC dL_law_885 ?_
  refine g_if_ne 902 hC dL_law_887 (by decide) (fun c => ?_) (fun c => ?_)
  · refine g_goto 1386 hC dL_law_902 (by decide) ?_
    refine g_keep [true, true, true, true, true, false, false, false, false] ?_
    exact kk _ _ _ (by omega) (by omega) s1
  · refine g_ald3 hC dL_law_890 ?_
    refine g_iconst 0 hC dL_law_891 (by decide) ?_
    refine g_lald (i := 195) hC (by decide) (fun ρ => le_out _ ρ) dL_law_892 ?_
    refine g_ild6 hC dL_law_893 ?_
    refine g_i2l hC dL_law_895 ?_
    refine g_lcmp hC (by rw [s3 c, hq.1]) dL_law_896 ?_
    refine g_if_eq 902 hC dL_law_897 (by decide) (fun _ => ?_) (fun c => absurd rfl c)
    refine g_goto 1386 hC dL_law_902 (by decide) ?_
    refine g_keep [true, true, true, true, true, false, false, false, false] ?_
    exact kk _ _ _ (by omega) (by omega) s1
