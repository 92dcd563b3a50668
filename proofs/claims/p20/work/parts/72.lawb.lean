/-! dressing -/
set_option maxRecDepth 100000 in
set_option maxHeartbeats 4000000 in
theorem lw_653 {l : Launch} {X : gC} {A : Nat → Nat} {b L : Nat} {xs : Nat → Int32} (hst : l.stackTraces = false) (hL : uL X b L xs) (hLs : L < 2 ^ 31) {es : va_W} {kc nc : Nat} {σ t : Mem} (hR : RS σ t) (h0 : t 0 0 = 0) {qs C R Lz i : Nat} {dr : Int32} {q jq j : Nat} {f : Nat → Int32} {x : Int32} (hq : es[jq]? = some (q, .inl (zY X 0, 4, .inl f))) (hj : j < nS t) (ht : sTilt (f 0) (f 1) (f 2) (f 3) = true) {F : Nat} {sv : Nat → Int32} (hI : lI t C R Lz F sv dr) (hf : kc + 24 ≤ 600074 ∧ nc + 144 ≤ 7301550) (hC : uOk l wX X A es cL_law "GemCutLaw" 10 600074 7301550) (kk : ∀ (σ1 t1 : Mem) (dr1 : Int32), RS σ1 t1 → lI t1 C R Lz F sv dr1 → nS t ≤ nS t1 → G (wU wX es) (uX wX X A es) (kc + 24) (nc + 144) 697 [some (.ref b), some (.ref (A 0)), some (.ref qs), some (.int (nI C)), some (.int (nI R)), some (.int (nI Lz)), some (.int dr1), some (.int (nI i)), none, none, some (.int (nI j)), none, none, none, none, none, none, none, none, none, none, none, none, none, none, none, none, none, none, none, none, none] [] σ1) : G (wU wX es) (uX wX X A es) kc nc 653 [some (.ref b), some (.ref (A 0)), some (.ref qs), some (.int (nI C)), some (.int (nI R)), some (.int (nI Lz)), some (.int dr), some (.int (nI i)), some (.int x), some (.int (nI (nS t))), some (.int (nI j)), some (.ref q), some (.int (nI (sWt t (nI j)))), some (.int (nI (nP t j))), some (.int (t 0 10)), some (.int (t 0 11)), some (.int (sCt t 1)), some (.int (nI (sTurn t (nI j) (f 0) (f 1) (f 2) (f 3)))), some (.int (sWorth (gMark t j (f 0) (f 1) (f 2) (f 3)) j)), some (.int (nI (sFin (gMark t j (f 0) (f 1) (f 2) (f 3)) (nI j) 1))), some (.int (nI (sPairs (gMark t j (f 0) (f 1) (f 2) (f 3)) j))), none, none, none, none, none, none, none, none, none, none, none] [] σ := by
  have hM := hR.1
  have hW := hR.2.1
  have h6 := hR.2.2.1
  have hS1 := MI_S hM
  have h8 : j < 8 := by omega
  have hW9 := fx_w (t := t) (nI j)
  have hT9 := fx_t (t := t) (p := f 0) (q := f 1) (r := f 2) (d := f 3) (nI j)
  refine g_ald1 hC dL_law_653 ?_
  refine x_dress hC hR h0 tw_3_3 dL_law_654 (by decide) ⟨by omega, by omega⟩ (Nat.le_of_ble_eq_true rfl) ?_
  intro σ hR
  have h0 : upd2 t 0 10 400 0 0 = 0 := (dr_0 (by decide)).trans h0
  have a1 : sCt (upd2 t 0 10 400) 5 = 400 := by show upd2 t 0 10 400 0 10 = 400; simp [upd2]
  have a2 : sCt (upd2 t 0 10 400) 7 = t 0 11 := dr_0 (j := 11) (by decide)
  have aI := lI_dr hI
  have aS : nS (upd2 t 0 10 400) = nS t := by unfold nS; rw [dr_0 (by decide)]
  generalize upd2 t 0 10 400 = t1 at hR h0 a1 a2 aI aS
  refine g_ild14 hC dL_law_657 ?_
  refine g_icmp_ne 684 hC dL_law_659 (by decide) (fun c659 => absurd c659 (fun h => h rfl)) (fun c659 => ?_)
  refine g_ald1 hC dL_law_662 ?_
  refine g_iconst 5 hC dL_law_663 (by decide) ?_
  refine x_count 5 hst hC hL hR h0 (by decide) (by decide) tw_3_52 dL_law_664 (by decide) ⟨by omega, by omega⟩ (Nat.le_of_ble_eq_true rfl) ?_
  intro σ hR
  refine g_sipush 400 hC dL_law_667 (by decide) ?_
  refine g_icmp_ne 684 hC dL_law_670 (by decide) (fun c670 => absurd c670 (fun h => h a1)) (fun c670 => ?_)
  refine g_ald1 hC dL_law_673 ?_
  refine g_bipush 7 hC dL_law_674 (by decide) ?_
  refine x_count 7 hst hC hL hR h0 (by decide) (by decide) tw_3_52 dL_law_676 (by decide) ⟨by omega, by omega⟩ (Nat.le_of_ble_eq_true rfl) ?_
  intro σ hR
  refine g_ild15 hC dL_law_679 ?_
  refine g_icmp_eq 686 hC dL_law_681 (by decide) (fun c681 => ?_) (fun c681 => absurd a2 c681)
  refine g_ild6 hC dL_law_686 ?_
  refine g_sipush 400 hC dL_law_688 (by decide) ?_
  refine g_ild14 hC dL_law_691 ?_
  refine g_isub hC dL_law_693 ?_
  refine g_iadd hC dL_law_694 ?_
  refine g_ist6 hC dL_law_695 rfl ?_
  refine g_keep [true, true, true, true, true, true, true, true, false, false, true, false, false, false, false, false, false, false, false, false, false, false, false, false, false, false, false, false, false, false, false, false] ?_
  refine g_widen (k1 := kc + 24) (n1 := nc + 144) (by omega) (by omega) ?_
  exact kk σ t1 _ hR aI (by omega)
/-! cutting -/
set_option maxRecDepth 100000 in
set_option maxHeartbeats 4000000 in
theorem lw_458 {l : Launch} {X : gC} {A : Nat → Nat} {b L : Nat} {xs : Nat → Int32} (hst : l.stackTraces = false) (hL : uL X b L xs) (hLs : L < 2 ^ 31) {es : va_W} {kc nc : Nat} {σ t : Mem} (hR : RS σ t) (h0 : t 0 0 = 0) {qs C R Lz i : Nat} {dr : Int32} {q jq j : Nat} {f : Nat → Int32} {x : Int32} (hq : es[jq]? = some (q, .inl (zY X 0, 4, .inl f))) (hj : j < nS t) (ht : sTilt (f 0) (f 1) (f 2) (f 3) = true) {F : Nat} {sv : Nat → Int32} (hI : lI t C R Lz F sv dr) (hf : kc + 24 ≤ 600074 ∧ nc + 144 ≤ 7301550) (hC : uOk l wX X A es cL_law "GemCutLaw" 10 600074 7301550) (kk : ∀ (σ1 t1 : Mem) (dr1 : Int32), RS σ1 t1 → lI t1 C R Lz F sv dr1 → nS t ≤ nS t1 → G (wU wX es) (uX wX X A es) (kc + 24) (nc + 144) 697 [some (.ref b), some (.ref (A 0)), some (.ref qs), some (.int (nI C)), some (.int (nI R)), some (.int (nI Lz)), some (.int dr1), some (.int (nI i)), none, none, some (.int (nI j)), none, none, none, none, none, none, none, none, none, none, none, none, none, none, none, none, none, none, none, none, none] [] σ1) : G (wU wX es) (uX wX X A es) kc nc 458 [some (.ref b), some (.ref (A 0)), some (.ref qs), some (.int (nI C)), some (.int (nI R)), some (.int (nI Lz)), some (.int dr), some (.int (nI i)), some (.int x), some (.int (nI (nS t))), some (.int (nI j)), some (.ref q), some (.int (nI (sWt t (nI j)))), some (.int (nI (nP t j))), some (.int (t 0 10)), some (.int (t 0 11)), some (.int (sCt t 1)), some (.int (nI (sTurn t (nI j) (f 0) (f 1) (f 2) (f 3)))), some (.int (sWorth (gMark t j (f 0) (f 1) (f 2) (f 3)) j)), some (.int (nI (sFin (gMark t j (f 0) (f 1) (f 2) (f 3)) (nI j) 1))), some (.int (nI (sPairs (gMark t j (f 0) (f 1) (f 2) (f 3)) j))), none, none, none, none, none, none, none, none, none, none, none] [] σ := by
  have hM := hR.1
  have hW := hR.2.1
  have h6 := hR.2.2.1
  have hS1 := MI_S hM
  have h8 : j < 8 := by omega
  have hW9 := fx_w (t := t) (nI j)
  have hT9 := fx_t (t := t) (p := f 0) (q := f 1) (r := f 2) (d := f 3) (nI j)
  refine g_ild13 hC dL_law_458 ?_
  refine g_bipush 16 hC dL_law_460 (by decide) ?_
  refine g_icmp_ge 653 hC dL_law_462 (by decide) (fun c462 => ?_) (fun c462 => ?_)
  · exact lw_653 hst hL hLs hR h0 hq hj ht hI hf hC kk
  · refine g_iconst 3 hC dL_law_465 (by decide) ?_
    refine g_ild17 hC dL_law_466 ?_
    refine g_imul hC dL_law_468 ?_
    refine g_ild14 hC dL_law_469 ?_
    refine g_icmp_gt 653 hC dL_law_471 (by decide) (fun c471 => ?_) (fun c471 => ?_)
    · exact lw_653 hst hL hLs hR h0 hq hj ht hI hf hC kk
    · refine g_ald1 hC dL_law_474 ?_
      refine g_ild10 hC dL_law_475 ?_
      refine g_ald11 hC dL_law_477 ?_
      refine g_iconst 0 hC dL_law_479 (by decide) ?_
      refine u_iald (j := jq) 0 hC hq rfl (by decide) (by decide) dL_law_480 ?_
      refine g_ald11 hC dL_law_481 ?_
      refine g_iconst 1 hC dL_law_483 (by decide) ?_
      refine u_iald (j := jq) 1 hC hq rfl (by decide) (by decide) dL_law_484 ?_
      refine g_ald11 hC dL_law_485 ?_
      refine g_iconst 2 hC dL_law_487 (by decide) ?_
      refine u_iald (j := jq) 2 hC hq rfl (by decide) (by decide) dL_law_488 ?_
      refine g_ald11 hC dL_law_489 ?_
      refine g_iconst 3 hC dL_law_491 (by decide) ?_
      refine u_iald (j := jq) 3 hC hq rfl (by decide) (by decide) dL_law_492 ?_
      have h16 : nP t j < 16 := by
        rcases Nat.lt_or_ge (nP t j) 16 with h | h
        · exact h
        · exact absurd (nI_le (a := 16) h (Nat.lt_of_le_of_lt (MI_P hM h8).2 (by decide))) c462
      have hw9 : ¬ t 0 10 < 3 * nI (sTurn t (nI j) (f 0) (f 1) (f 2) (f 3)) := c471
      refine x_cut j hst hC hL hR h0 hj ht h16 hw9 tw_2_215 dL_law_493 (by decide) ⟨by omega, by omega⟩ (Nat.le_of_ble_eq_true rfl) ?_
      intro σ hR
      have hMm : MI (gMark t j (f 0) (f 1) (f 2) (f 3)) := MI_mark hM h8 (by omega) _ _ _ _
      generalize hv : 3 * nI (sTurn t (nI j) (f 0) (f 1) (f 2) (f 3)) = v at hR
      have h0 : gCut t j (f 0) (f 1) (f 2) (f 3) v 0 0 = 0 := (ct_0 (by decide)).trans h0
      have hj9 : j < nS (gCut t j (f 0) (f 1) (f 2) (f 3) v) := by rw [ct_nS]; exact hj
      have a1 : sSt (gCut t j (f 0) (f 1) (f 2) (f 3) v) j 0 = nI (sWt t (nI j)) - nI (sTurn t (nI j) (f 0) (f 1) (f 2) (f 3)) := (nI_subE (fx_cut_wt h8)).symm
      have a2 : sCt (gCut t j (f 0) (f 1) (f 2) (f 3) v) 5 = t 0 10 - v := ct_10
      have a3 : sCt (gCut t j (f 0) (f 1) (f 2) (f 3) v) 7 = t 0 11 + v := ct_11
      have a4 : sSt (gCut t j (f 0) (f 1) (f 2) (f 3) v) j 7 = sWorth (gMark t j (f 0) (f 1) (f 2) (f 3)) j := Qm_worth hMm (Qm_cut h8)
      have a5 : sSt (gCut t j (f 0) (f 1) (f 2) (f 3) v) j 5 = nI (sFin (gMark t j (f 0) (f 1) (f 2) (f 3)) (nI j) 1) := congrArg nI (Qm_fin hMm (Qm_cut h8) 1)
      have a6 : sSt (gCut t j (f 0) (f 1) (f 2) (f 3) v) j 4 = nI (sPairs (gMark t j (f 0) (f 1) (f 2) (f 3)) j) := congrArg nI (Qm_pairs (Qm_cut h8))
      have a7 : sSt (gCut t j (f 0) (f 1) (f 2) (f 3) v) j 1 = nI (nP t j) + 1 := by
        show gCut t j (f 0) (f 1) (f 2) (f 3) v 4 j = _
        rw [ct_4, if_pos rfl, (MI_P hM h8).1]
      have a8 : sCt (gCut t j (f 0) (f 1) (f 2) (f 3) v) 1 = sCt t 1 - nI (sTurn t (nI j) (f 0) (f 1) (f 2) (f 3)) := fx_cut_all hM hj
      have a9 : sLook (gCut t j (f 0) (f 1) (f 2) (f 3) v) j (f 0) (f 1) (f 2) (f 3) 0 = 0 := by
        show nI (sTurn (gCut t j (f 0) (f 1) (f 2) (f 3) v) (nI j) (f 0) (f 1) (f 2) (f 3)) = 0
        rw [fx_cut_no h8]; rfl
      have a10 : sPt (gCut t j (f 0) (f 1) (f 2) (f 3) v) j (nP t j) 5 = 0 := by
        show sPl (gCut t j (f 0) (f 1) (f 2) (f 3) v) j (nP t j) 4 = 0
        rw [ct_pl h6 h8 (by omega) (by decide), if_pos ⟨rfl, rfl⟩]; rfl
      have a11 : nP t j < nP (gCut t j (f 0) (f 1) (f 2) (f 3) v) j := by rw [ct_nP hM h6 h8, if_pos rfl]; omega
      have aI : lI (gCut t j (f 0) (f 1) (f 2) (f 3) v) C R Lz F sv dr := lI_cut hI
      have aS : nS (gCut t j (f 0) (f 1) (f 2) (f 3) v) = nS t := ct_nS
      generalize gCut t j (f 0) (f 1) (f 2) (f 3) v = t1 at hR h0 hj9 a1 a2 a3 a4 a5 a6 a7 a8 a9 a10 a11 aI aS
      refine g_ild17 hC dL_law_496 ?_
      refine g_icmp_ne 611 hC dL_law_498 (by decide) (fun c498 => absurd c498 (fun h => h rfl)) (fun c498 => ?_)
      refine g_ald1 hC dL_law_501 ?_
      refine g_ild10 hC dL_law_502 ?_
      refine g_iconst 0 hC dL_law_504 (by decide) ?_
      refine x_stone j 0 hst hC hL hR h0 hj9 (by decide) (by decide) tw_3_7 dL_law_505 (by decide) ⟨by omega, by omega⟩ (Nat.le_of_ble_eq_true rfl) ?_
      intro σ hR
      refine g_ild12 hC dL_law_508 ?_
      refine g_ild17 hC dL_law_510 ?_
      refine g_isub hC dL_law_512 ?_
      refine g_icmp_ne 611 hC dL_law_513 (by decide) (fun c513 => absurd c513 (fun h => h a1)) (fun c513 => ?_)
      refine g_ald1 hC dL_law_516 ?_
      refine g_iconst 5 hC dL_law_517 (by decide) ?_
      refine x_count 5 hst hC hL hR h0 (by decide) (by decide) tw_3_52 dL_law_518 (by decide) ⟨by omega, by omega⟩ (Nat.le_of_ble_eq_true rfl) ?_
      intro σ hR
      refine g_ild14 hC dL_law_521 ?_
      refine g_iconst 3 hC dL_law_523 (by decide) ?_
      refine g_ild17 hC dL_law_524 ?_
      refine g_imul hC dL_law_526 ?_
      rw [hv]
      refine g_isub hC dL_law_527 ?_
      refine g_icmp_ne 611 hC dL_law_528 (by decide) (fun c528 => absurd c528 (fun h => h a2)) (fun c528 => ?_)
      refine g_ald1 hC dL_law_531 ?_
      refine g_bipush 7 hC dL_law_532 (by decide) ?_
      refine x_count 7 hst hC hL hR h0 (by decide) (by decide) tw_3_52 dL_law_534 (by decide) ⟨by omega, by omega⟩ (Nat.le_of_ble_eq_true rfl) ?_
      intro σ hR
      refine g_ild15 hC dL_law_537 ?_
      refine g_iconst 3 hC dL_law_539 (by decide) ?_
      refine g_ild17 hC dL_law_540 ?_
      refine g_imul hC dL_law_542 ?_
      rw [hv]
      refine g_iadd hC dL_law_543 ?_
      refine g_icmp_ne 611 hC dL_law_544 (by decide) (fun c544 => absurd c544 (fun h => h a3)) (fun c544 => ?_)
      refine g_ald1 hC dL_law_547 ?_
      refine g_ild10 hC dL_law_548 ?_
      refine g_bipush 7 hC dL_law_550 (by decide) ?_
      refine x_stone j 7 hst hC hL hR h0 hj9 (by decide) (by decide) tw_3_7 dL_law_552 (by decide) ⟨by omega, by omega⟩ (Nat.le_of_ble_eq_true rfl) ?_
      intro σ hR
      refine g_ild18 hC dL_law_555 ?_
      refine g_icmp_ne 611 hC dL_law_557 (by decide) (fun c557 => absurd c557 (fun h => h a4)) (fun c557 => ?_)
      refine g_ald1 hC dL_law_560 ?_
      refine g_ild10 hC dL_law_561 ?_
      refine g_iconst 5 hC dL_law_563 (by decide) ?_
      refine x_stone j 5 hst hC hL hR h0 hj9 (by decide) (by decide) tw_3_7 dL_law_564 (by decide) ⟨by omega, by omega⟩ (Nat.le_of_ble_eq_true rfl) ?_
      intro σ hR
      refine g_ild19 hC dL_law_567 ?_
      refine g_icmp_ne 611 hC dL_law_569 (by decide) (fun c569 => absurd c569 (fun h => h a5)) (fun c569 => ?_)
      refine g_ald1 hC dL_law_572 ?_
      refine g_ild10 hC dL_law_573 ?_
      refine g_iconst 4 hC dL_law_575 (by decide) ?_
      refine x_stone j 4 hst hC hL hR h0 hj9 (by decide) (by decide) tw_3_7 dL_law_576 (by decide) ⟨by omega, by omega⟩ (Nat.le_of_ble_eq_true rfl) ?_
      intro σ hR
      refine g_ild20 hC dL_law_579 ?_
      refine g_icmp_ne 611 hC dL_law_581 (by decide) (fun c581 => absurd c581 (fun h => h a6)) (fun c581 => ?_)
      refine g_ald1 hC dL_law_584 ?_
      refine g_ild10 hC dL_law_585 ?_
      refine g_iconst 1 hC dL_law_587 (by decide) ?_
      refine x_stone j 1 hst hC hL hR h0 hj9 (by decide) (by decide) tw_3_7 dL_law_588 (by decide) ⟨by omega, by omega⟩ (Nat.le_of_ble_eq_true rfl) ?_
      intro σ hR
      refine g_ild13 hC dL_law_591 ?_
      refine g_iconst 1 hC dL_law_593 (by decide) ?_
      refine g_iadd hC dL_law_594 ?_
      refine g_icmp_ne 611 hC dL_law_595 (by decide) (fun c595 => absurd c595 (fun h => h a7)) (fun c595 => ?_)
      refine g_ald1 hC dL_law_598 ?_
      refine g_iconst 1 hC dL_law_599 (by decide) ?_
      refine x_count 1 hst hC hL hR h0 (by decide) (by decide) tw_3_52 dL_law_600 (by decide) ⟨by omega, by omega⟩ (Nat.le_of_ble_eq_true rfl) ?_
      intro σ hR
      refine g_ild16 hC dL_law_603 ?_
      refine g_ild17 hC dL_law_605 ?_
      refine g_isub hC dL_law_607 ?_
      refine g_icmp_eq 613 hC dL_law_608 (by decide) (fun c608 => ?_) (fun c608 => absurd a8 c608)
      refine g_ald1 hC dL_law_613 ?_
      refine g_ild10 hC dL_law_614 ?_
      refine g_ald11 hC dL_law_616 ?_
      refine g_iconst 0 hC dL_law_618 (by decide) ?_
      refine u_iald (j := jq) 0 hC hq rfl (by decide) (by decide) dL_law_619 ?_
      refine g_ald11 hC dL_law_620 ?_
      refine g_iconst 1 hC dL_law_622 (by decide) ?_
      refine u_iald (j := jq) 1 hC hq rfl (by decide) (by decide) dL_law_623 ?_
      refine g_ald11 hC dL_law_624 ?_
      refine g_iconst 2 hC dL_law_626 (by decide) ?_
      refine u_iald (j := jq) 2 hC hq rfl (by decide) (by decide) dL_law_627 ?_
      refine g_ald11 hC dL_law_628 ?_
      refine g_iconst 3 hC dL_law_630 (by decide) ?_
      refine u_iald (j := jq) 3 hC hq rfl (by decide) (by decide) dL_law_631 ?_
      refine g_iconst 0 hC dL_law_632 (by decide) ?_
      refine x_would j 0 hst hC hL hR h0 hj9 ht (by decide) (by decide) tw_3_73 dL_law_633 (by decide) ⟨by omega, by omega⟩ (Nat.le_of_ble_eq_true rfl) ?_
      intro σ hR
      refine g_if_ne 651 hC dL_law_636 (by decide) (fun c636 => absurd c636 (fun h => h a9)) (fun c636 => ?_)
      refine g_ald1 hC dL_law_639 ?_
      refine g_ild10 hC dL_law_640 ?_
      refine g_ild13 hC dL_law_642 ?_
      refine g_iconst 5 hC dL_law_644 (by decide) ?_
      refine x_plane j (nP t j) 5 hst hC hL hR h0 hj9 a11 (by decide) (by decide) tw_3_44 dL_law_645 (by decide) ⟨by omega, by omega⟩ (Nat.le_of_ble_eq_true rfl) ?_
      intro σ hR
      refine g_if_eq 697 hC dL_law_648 (by decide) (fun c648 => ?_) (fun c648 => absurd a10 c648)
      refine g_keep [true, true, true, true, true, true, true, true, false, false, true, false, false, false, false, false, false, false, false, false, false, false, false, false, false, false, false, false, false, false, false, false] ?_
      refine g_widen (k1 := kc + 24) (n1 := nc + 144) (by omega) (by omega) ?_
      exact kk σ t1 _ hR aI (by omega)
/-! sawing -/
set_option maxRecDepth 100000 in
set_option maxHeartbeats 4000000 in
theorem lw_318 {l : Launch} {X : gC} {A : Nat → Nat} {b L : Nat} {xs : Nat → Int32} (hst : l.stackTraces = false) (hL : uL X b L xs) (hLs : L < 2 ^ 31) {es : va_W} {kc nc : Nat} {σ t : Mem} (hR : RS σ t) (h0 : t 0 0 = 0) {qs C R Lz i : Nat} {dr : Int32} {q jq j : Nat} {f : Nat → Int32} {x : Int32} (hq : es[jq]? = some (q, .inl (zY X 0, 4, .inl f))) (hj : j < nS t) (ht : sTilt (f 0) (f 1) (f 2) (f 3) = true) {F : Nat} {sv : Nat → Int32} (hI : lI t C R Lz F sv dr) (hf : kc + 24 ≤ 600074 ∧ nc + 144 ≤ 7301550) (hC : uOk l wX X A es cL_law "GemCutLaw" 10 600074 7301550) (kk : ∀ (σ1 t1 : Mem) (dr1 : Int32), RS σ1 t1 → lI t1 C R Lz F sv dr1 → nS t ≤ nS t1 → G (wU wX es) (uX wX X A es) (kc + 24) (nc + 144) 697 [some (.ref b), some (.ref (A 0)), some (.ref qs), some (.int (nI C)), some (.int (nI R)), some (.int (nI Lz)), some (.int dr1), some (.int (nI i)), none, none, some (.int (nI j)), none, none, none, none, none, none, none, none, none, none, none, none, none, none, none, none, none, none, none, none, none] [] σ1) : G (wU wX es) (uX wX X A es) kc nc 318 [some (.ref b), some (.ref (A 0)), some (.ref qs), some (.int (nI C)), some (.int (nI R)), some (.int (nI Lz)), some (.int dr), some (.int (nI i)), some (.int x), some (.int (nI (nS t))), some (.int (nI j)), some (.ref q), some (.int (nI (sWt t (nI j)))), some (.int (nI (nP t j))), some (.int (t 0 10)), some (.int (t 0 11)), some (.int (sCt t 1)), some (.int (nI (sTurn t (nI j) (f 0) (f 1) (f 2) (f 3)))), some (.int (sWorth (gMark t j (f 0) (f 1) (f 2) (f 3)) j)), some (.int (nI (sFin (gMark t j (f 0) (f 1) (f 2) (f 3)) (nI j) 1))), some (.int (nI (sPairs (gMark t j (f 0) (f 1) (f 2) (f 3)) j))), none, none, none, none, none, none, none, none, none, none, none] [] σ := by
  have hM := hR.1
  have hW := hR.2.1
  have h6 := hR.2.2.1
  have hS1 := MI_S hM
  have h8 : j < 8 := by omega
  have hW9 := fx_w (t := t) (nI j)
  have hT9 := fx_t (t := t) (p := f 0) (q := f 1) (r := f 2) (d := f 3) (nI j)
  refine g_ild8 hC dL_law_318 ?_
  refine g_bipush 6 hC dL_law_320 (by decide) ?_
  refine g_ishr hC dL_law_322 ?_
  refine g_iconst 4 hC dL_law_323 (by decide) ?_
  refine r_below hC hL (by decide) tw_3_150 dL_law_324 (by decide) ⟨by omega, by omega⟩ (Nat.le_of_ble_eq_true rfl) ?_
  refine g_if_ne 458 hC dL_law_327 (by decide) (fun c327 => ?_) (fun c327 => ?_)
  · exact lw_458 hst hL hLs hR h0 hq hj ht hI hf hC kk
  · refine g_ild17 hC dL_law_330 ?_
    refine g_if_le 458 hC dL_law_332 (by decide) (fun c332 => ?_) (fun c332 => ?_)
    · exact lw_458 hst hL hLs hR h0 hq hj ht hI hf hC kk
    · refine g_ild17 hC dL_law_335 ?_
      refine g_ild12 hC dL_law_337 ?_
      refine g_icmp_ge 458 hC dL_law_339 (by decide) (fun c339 => ?_) (fun c339 => ?_)
      · exact lw_458 hst hL hLs hR h0 hq hj ht hI hf hC kk
      · refine g_ild9 hC dL_law_342 ?_
        refine g_bipush 8 hC dL_law_344 (by decide) ?_
        refine g_icmp_ge 458 hC dL_law_346 (by decide) (fun c346 => ?_) (fun c346 => ?_)
        · exact lw_458 hst hL hLs hR h0 hq hj ht hI hf hC kk
        · refine g_ald1 hC dL_law_349 ?_
          refine g_ild10 hC dL_law_350 ?_
          refine g_ald11 hC dL_law_352 ?_
          refine g_iconst 0 hC dL_law_354 (by decide) ?_
          refine u_iald (j := jq) 0 hC hq rfl (by decide) (by decide) dL_law_355 ?_
          refine g_ald11 hC dL_law_356 ?_
          refine g_iconst 1 hC dL_law_358 (by decide) ?_
          refine u_iald (j := jq) 1 hC hq rfl (by decide) (by decide) dL_law_359 ?_
          refine g_ald11 hC dL_law_360 ?_
          refine g_iconst 2 hC dL_law_362 (by decide) ?_
          refine u_iald (j := jq) 2 hC hq rfl (by decide) (by decide) dL_law_363 ?_
          refine g_ald11 hC dL_law_364 ?_
          refine g_iconst 3 hC dL_law_366 (by decide) ?_
          refine u_iald (j := jq) 3 hC hq rfl (by decide) (by decide) dL_law_367 ?_
          have hS8 : nS t < 8 := by
            rcases Nat.lt_or_ge (nS t) 8 with h | h
            · exact h
            · exact absurd (nI_le (a := 8) h (by omega)) c346
          have hT0 : 0 < sTurn t (nI j) (f 0) (f 1) (f 2) (f 3) := Nat.pos_of_ne_zero (fun h => c332 (by rw [h]; decide))
          have hTW : sTurn t (nI j) (f 0) (f 1) (f 2) (f 3) < sWt t (nI j) := by
            rcases Nat.lt_or_ge (sTurn t (nI j) (f 0) (f 1) (f 2) (f 3)) (sWt t (nI j)) with h | h
            · exact h
            · exact absurd (nI_le h (by omega)) c339
          refine x_saw j hst hC hL hR h0 hj ht hS8 hT0 hTW tw_2_134 dL_law_368 (by decide) ⟨by omega, by omega⟩ (Nat.le_of_ble_eq_true rfl) ?_
          intro σ hR
          have eS : nS (gSaw t j (f 0) (f 1) (f 2) (f 3)) = nS t + 1 := sw_nS (by omega)
          have h0 : (gSaw t j (f 0) (f 1) (f 2) (f 3)) 0 0 = 0 := (sw_0 (by decide)).trans h0
          have hj9 : j < nS (gSaw t j (f 0) (f 1) (f 2) (f 3)) := by omega
          have hjS : nS t < nS (gSaw t j (f 0) (f 1) (f 2) (f 3)) := by omega
          have a1 : sSt (gSaw t j (f 0) (f 1) (f 2) (f 3)) (nS t) 0 = nI (sTurn t (nI j) (f 0) (f 1) (f 2) (f 3)) := congrArg nI (fx_saw_new hM hW)
          have a2 : sSt (gSaw t j (f 0) (f 1) (f 2) (f 3)) j 0 = nI (sWt t (nI j)) - nI (sTurn t (nI j) (f 0) (f 1) (f 2) (f 3)) := (nI_subE (fx_saw_old hM hj)).symm
          have a3 : sCt (gSaw t j (f 0) (f 1) (f 2) (f 3)) 5 = t 0 10 := (show gSaw t j (f 0) (f 1) (f 2) (f 3) 0 10 = t 0 10 from sw_0 (by decide))
          have a4 : sCt (gSaw t j (f 0) (f 1) (f 2) (f 3)) 7 = t 0 11 := (show gSaw t j (f 0) (f 1) (f 2) (f 3) 0 11 = t 0 11 from sw_0 (by decide))
          have a5 : sSt (gSaw t j (f 0) (f 1) (f 2) (f 3)) (nS t) 1 = 0 := (sw_4 _).trans (if_pos rfl)
          have a6 : sSt (gSaw t j (f 0) (f 1) (f 2) (f 3)) j 1 = nI (nP t j) := (sw_4 _).trans ((if_neg (by omega)).trans (MI_P hM (by omega)).1)
          have a7 : sCt (gSaw t j (f 0) (f 1) (f 2) (f 3)) 1 = sCt t 1 := fx_saw_all hM hW hj hS8
          have aI : lI (gSaw t j (f 0) (f 1) (f 2) (f 3)) C R Lz F sv dr := lI_saw hI
          generalize (gSaw t j (f 0) (f 1) (f 2) (f 3)) = t1 at hR eS h0 hj9 hjS a1 a2 a3 a4 a5 a6 a7 aI
          refine g_ild9 hC dL_law_371 ?_
          refine g_icmp_ne 456 hC dL_law_373 (by decide) (fun c373 => absurd c373 (fun h => h rfl)) (fun c373 => ?_)
          refine g_ald1 hC dL_law_376 ?_
          refine g_ild9 hC dL_law_377 ?_
          refine g_iconst 0 hC dL_law_379 (by decide) ?_
          refine x_stone (nS t) 0 hst hC hL hR h0 hjS (by decide) (by decide) tw_3_7 dL_law_380 (by decide) ⟨by omega, by omega⟩ (Nat.le_of_ble_eq_true rfl) ?_
          intro σ hR
          refine g_ild17 hC dL_law_383 ?_
          refine g_icmp_ne 456 hC dL_law_385 (by decide) (fun c385 => absurd c385 (fun h => h a1)) (fun c385 => ?_)
          refine g_ald1 hC dL_law_388 ?_
          refine g_ild10 hC dL_law_389 ?_
          refine g_iconst 0 hC dL_law_391 (by decide) ?_
          refine x_stone j 0 hst hC hL hR h0 hj9 (by decide) (by decide) tw_3_7 dL_law_392 (by decide) ⟨by omega, by omega⟩ (Nat.le_of_ble_eq_true rfl) ?_
          intro σ hR
          refine g_ild12 hC dL_law_395 ?_
          refine g_ild17 hC dL_law_397 ?_
          refine g_isub hC dL_law_399 ?_
          refine g_icmp_ne 456 hC dL_law_400 (by decide) (fun c400 => absurd c400 (fun h => h a2)) (fun c400 => ?_)
          refine g_ald1 hC dL_law_403 ?_
          refine g_iconst 5 hC dL_law_404 (by decide) ?_
          refine x_count 5 hst hC hL hR h0 (by decide) (by decide) tw_3_52 dL_law_405 (by decide) ⟨by omega, by omega⟩ (Nat.le_of_ble_eq_true rfl) ?_
          intro σ hR
          refine g_ild14 hC dL_law_408 ?_
          refine g_icmp_ne 456 hC dL_law_410 (by decide) (fun c410 => absurd c410 (fun h => h a3)) (fun c410 => ?_)
          refine g_ald1 hC dL_law_413 ?_
          refine g_bipush 7 hC dL_law_414 (by decide) ?_
          refine x_count 7 hst hC hL hR h0 (by decide) (by decide) tw_3_52 dL_law_416 (by decide) ⟨by omega, by omega⟩ (Nat.le_of_ble_eq_true rfl) ?_
          intro σ hR
          refine g_ild15 hC dL_law_419 ?_
          refine g_icmp_ne 456 hC dL_law_421 (by decide) (fun c421 => absurd c421 (fun h => h a4)) (fun c421 => ?_)
          refine g_ald1 hC dL_law_424 ?_
          refine g_ild9 hC dL_law_425 ?_
          refine g_iconst 1 hC dL_law_427 (by decide) ?_
          refine x_stone (nS t) 1 hst hC hL hR h0 hjS (by decide) (by decide) tw_3_7 dL_law_428 (by decide) ⟨by omega, by omega⟩ (Nat.le_of_ble_eq_true rfl) ?_
          intro σ hR
          refine g_if_ne 456 hC dL_law_431 (by decide) (fun c431 => absurd c431 (fun h => h a5)) (fun c431 => ?_)
          refine g_ald1 hC dL_law_434 ?_
          refine g_ild10 hC dL_law_435 ?_
          refine g_iconst 1 hC dL_law_437 (by decide) ?_
          refine x_stone j 1 hst hC hL hR h0 hj9 (by decide) (by decide) tw_3_7 dL_law_438 (by decide) ⟨by omega, by omega⟩ (Nat.le_of_ble_eq_true rfl) ?_
          intro σ hR
          refine g_ild13 hC dL_law_441 ?_
          refine g_icmp_ne 456 hC dL_law_443 (by decide) (fun c443 => absurd c443 (fun h => h a6)) (fun c443 => ?_)
          refine g_ald1 hC dL_law_446 ?_
          refine g_iconst 1 hC dL_law_447 (by decide) ?_
          refine x_count 1 hst hC hL hR h0 (by decide) (by decide) tw_3_52 dL_law_448 (by decide) ⟨by omega, by omega⟩ (Nat.le_of_ble_eq_true rfl) ?_
          intro σ hR
          refine g_ild16 hC dL_law_451 ?_
          refine g_icmp_eq 697 hC dL_law_453 (by decide) (fun c453 => ?_) (fun c453 => absurd a7 c453)
          refine g_keep [true, true, true, true, true, true, true, true, false, false, true, false, false, false, false, false, false, false, false, false, false, false, false, false, false, false, false, false, false, false, false, false] ?_
          refine g_widen (k1 := kc + 24) (n1 := nc + 144) (by omega) (by omega) ?_
          exact kk σ t1 _ hR aI (by omega)
theorem po_touch {t : Mem} {j k : Nat} (h : ¬ nI (sTouch t j k) = 0) : sFacet t j k = true := by
  refine decide_eq_true ((nI_pos0 (cnt_le _ _)).mpr (Nat.pos_of_ne_zero (fun h9 => h ?_)))
  rw [show sTouch t j k = 0 from h9]; rfl
/-! polishing -/
set_option maxRecDepth 100000 in
set_option maxHeartbeats 4000000 in
theorem lw_700 {l : Launch} {X : gC} {A : Nat → Nat} {b L : Nat} {xs : Nat → Int32} (hst : l.stackTraces = false) (hL : uL X b L xs) (hLs : L < 2 ^ 31) {es : va_W} {t : Mem} (h0 : t 0 0 = 0) {qs C R Lz i : Nat} {dr : Int32} {j : Nat} (hj : j < nS t) {F : Nat} {sv : Nat → Int32} (hI : lI t C R Lz F sv dr) {k9 n9 : Nat} (hb : k9 ≤ 600074 ∧ n9 ≤ 7301550) (hC : uOk l wX X A es cL_law "GemCutLaw" 10 600074 7301550) (kk : ∀ (σ1 t1 : Mem), RS σ1 t1 → lI t1 C R Lz F sv dr → G (wU wX es) (uX wX X A es) k9 n9 847 [some (.ref b), some (.ref (A 0)), some (.ref qs), some (.int (nI C)), some (.int (nI R)), some (.int (nI Lz)), some (.int dr), some (.int (nI i)), none, none, none, none, none, none, none, none, none, none, none, none, none, none, none, none, none, none, none, none, none, none, none, none] [] σ1) : ∀ (m k kc nc : Nat) (σ : Mem), k + m = nP t j → RS σ t → kc + 9 * m + 14 ≤ k9 ∧ nc + 54 * m + 84 ≤ n9 → G (wU wX es) (uX wX X A es) kc nc 700 [some (.ref b), some (.ref (A 0)), some (.ref qs), some (.int (nI C)), some (.int (nI R)), some (.int (nI Lz)), some (.int dr), some (.int (nI i)), none, none, some (.int (nI j)), none, none, none, none, none, none, none, none, none, none, some (.int (nI k)), none, none, none, none, none, none, none, none, none, none] [] σ := by
  intro m
  induction m with
  | zero =>
    intro k kc nc σ hk hR hf
    have hM := hR.1
    have e1 : sSt t j 1 = nI (nP t j) := (MI_P hM (by have := MI_S hM; omega)).1
    refine g_ild21 hC dL_law_700 ?_
    refine g_ald1 hC dL_law_702 ?_
    refine g_ild10 hC dL_law_703 ?_
    refine g_iconst 1 hC dL_law_705 (by decide) ?_
    refine x_stone j 1 hst hC hL hR h0 hj (by decide) (by decide) tw_3_7 dL_law_706 (by decide) ⟨by omega, by omega⟩ (Nat.le_of_ble_eq_true rfl) ?_
    intro σ hR
    rw [e1]
    refine g_icmp_ge 847 hC dL_law_709 (by decide) (fun c709 => ?_) (fun c709 => absurd (nI_le (by omega) (by have := (MI_P hM (s := j) (by have := MI_S hM; omega)).2; omega)) c709)
    refine g_keep [true, true, true, true, true, true, true, true, false, false, false, false, false, false, false, false, false, false, false, false, false, false, false, false, false, false, false, false, false, false, false, false] ?_
    refine g_widen (k1 := k9) (n1 := n9) (by omega) (by omega) ?_
    exact kk σ t hR hI
  | succ m ih =>
    intro k kc nc σ hk hR hf
    have hM := hR.1
    have h8 : j < 8 := by have := MI_S hM; omega
    have h6 := hR.2.2.1
    have hP9 := (MI_P hM h8).2
    have hk9 : k < nP t j := by omega
    have e1 : sSt t j 1 = nI (nP t j) := (MI_P hM h8).1
    have v5 := (hR.2.1.2.2 j k hj hk9).2
    refine g_ild21 hC dL_law_700 ?_
    refine g_ald1 hC dL_law_702 ?_
    refine g_ild10 hC dL_law_703 ?_
    refine g_iconst 1 hC dL_law_705 (by decide) ?_
    refine x_stone j 1 hst hC hL hR h0 hj (by decide) (by decide) tw_3_7 dL_law_706 (by decide) ⟨by omega, by omega⟩ (Nat.le_of_ble_eq_true rfl) ?_
    intro σ hR
    rw [e1]
    refine g_icmp_ge 847 hC dL_law_709 (by decide) (fun c709 => absurd c709 (nI_ge (by omega) (by omega))) (fun c709 => ?_)
    refine g_ald1 hC dL_law_712 ?_
    refine g_ild10 hC dL_law_713 ?_
    refine g_ild21 hC dL_law_715 ?_
    refine g_iconst 4 hC dL_law_717 (by decide) ?_
    refine x_plane j k 4 hst hC hL hR h0 hj hk9 (by decide) (by decide) tw_3_44 dL_law_718 (by decide) ⟨by omega, by omega⟩ (Nat.le_of_ble_eq_true rfl) ?_
    intro σ hR
    refine g_ist22 hC dL_law_721 rfl ?_
    refine g_ald1 hC dL_law_723 ?_
    refine g_iconst 5 hC dL_law_724 (by decide) ?_
    refine x_count 5 hst hC hL hR h0 (by decide) (by decide) tw_3_52 dL_law_725 (by decide) ⟨by omega, by omega⟩ (Nat.le_of_ble_eq_true rfl) ?_
    intro σ hR
    refine g_ist23 hC dL_law_728 rfl ?_
    refine g_ild22 hC dL_law_730 ?_
    refine g_if_eq 841 hC dL_law_732 (by decide) (fun c732 => ?_) (fun c732 => ?_)
    · refine g_inc21 1 hC dL_law_841 (by decide) rfl ?_
      refine g_goto 700 hC dL_law_844 (by decide) ?_
      refine g_keep [true, true, true, true, true, true, true, true, false, false, true, false, false, false, false, false, false, false, false, false, false, true, false, false, false, false, false, false, false, false, false, false] ?_
      rw [nI_1]
      exact ih (k + 1) _ _ σ (by omega) hR ⟨by omega, by omega⟩
    · refine g_ald1 hC dL_law_735 ?_
      refine g_ild10 hC dL_law_736 ?_
      refine g_ild21 hC dL_law_738 ?_
      refine g_iconst 5 hC dL_law_740 (by decide) ?_
      refine x_plane j k 5 hst hC hL hR h0 hj hk9 (by decide) (by decide) tw_3_44 dL_law_741 (by decide) ⟨by omega, by omega⟩ (Nat.le_of_ble_eq_true rfl) ?_
      intro σ hR
      refine g_iconst 1 hC dL_law_744 (by decide) ?_
      refine g_icmp_eq 841 hC dL_law_745 (by decide) (fun c745 => ?_) (fun c745 => ?_)
      · refine g_inc21 1 hC dL_law_841 (by decide) rfl ?_
        refine g_goto 700 hC dL_law_844 (by decide) ?_
        refine g_keep [true, true, true, true, true, true, true, true, false, false, true, false, false, false, false, false, false, false, false, false, false, true, false, false, false, false, false, false, false, false, false, false] ?_
        rw [nI_1]
        exact ih (k + 1) _ _ σ (by omega) hR ⟨by omega, by omega⟩
      · refine g_ild22 hC dL_law_748 ?_
        refine g_iconst 5 hC dL_law_750 (by decide) ?_
        refine g_iadd hC dL_law_751 ?_
        refine g_ild23 hC dL_law_752 ?_
        refine g_icmp_le 760 hC dL_law_754 (by decide) (fun c754 => ?_) (fun c754 => ?_)
        · refine g_ald1 hC dL_law_760 ?_
          refine g_ild10 hC dL_law_761 ?_
          refine g_bipush 7 hC dL_law_763 (by decide) ?_
          refine x_stone j 7 hst hC hL hR h0 hj (by decide) (by decide) tw_3_7 dL_law_765 (by decide) ⟨by omega, by omega⟩ (Nat.le_of_ble_eq_true rfl) ?_
          intro σ hR
          refine g_ist24 hC dL_law_768 rfl ?_
          refine g_ald1 hC dL_law_770 ?_
          refine g_ild10 hC dL_law_771 ?_
          refine g_iconst 3 hC dL_law_773 (by decide) ?_
          refine x_stone j 3 hst hC hL hR h0 hj (by decide) (by decide) tw_3_7 dL_law_774 (by decide) ⟨by omega, by omega⟩ (Nat.le_of_ble_eq_true rfl) ?_
          intro σ hR
          refine g_ist25 hC dL_law_777 rfl ?_
          refine g_ald1 hC dL_law_779 ?_
          refine g_ild10 hC dL_law_780 ?_
          refine g_ild21 hC dL_law_782 ?_
          have hf9 := po_touch (t := t) (j := j) (k := k) c732
          have hz9 : sPl t j k 4 = 0 := by
            rcases v5 with h | h
            · exact h
            · exact absurd h c745
          refine x_polish j k hst hC hL hR h0 hj hk9 c732 c745 (Int32.not_lt.mpr c754) tw_2_229 dL_law_784 (by decide) ⟨by omega, by omega⟩ (Nat.le_of_ble_eq_true rfl) ?_
          intro σ hR
          have ev : t 0 10 - (nI (sTouch t j k) + 5) = t 0 10 - nI (sTouch t j k) - 5 := i32c _ _
          generalize hv : nI (sTouch t j k) + 5 = v at hR ev
          have h0 : (gPol t j k v) 0 0 = 0 := (po_0 (by decide)).trans h0
          have hj9 : j < nS (gPol t j k v) := by unfold nS at hj ⊢; rw [po_0 (by decide)]; exact hj
          have a1 : sCt (gPol t j k v) 5 = t 0 10 - nI (sTouch t j k) - 5 := po_10.trans ev
          have a2 : sSt (gPol t j k v) j 7 = sWorth t j + 25 := fx_po_worth hM h6 hj hk9 hf9 hz9
          have a3 : sSt (gPol t j k v) j 3 = nI (sFacets t j true) + 1 := (congrArg nI (fx_po_facets hM h6 hj hk9 hf9 hz9)).trans (nI_1 _).symm
          have aI : lI (gPol t j k v) C R Lz F sv dr := lI_pol hI
          generalize (gPol t j k v) = t1 at hR h0 hj9 a1 a2 a3 aI
          refine g_ild22 hC dL_law_787 ?_
          refine g_iconst 5 hC dL_law_789 (by decide) ?_
          refine g_iadd hC dL_law_790 ?_
          rw [show sPt t j k 4 + 5 = v from hv]
          refine g_icmp_ne 839 hC dL_law_791 (by decide) (fun c791 => absurd c791 (fun h => h rfl)) (fun c791 => ?_)
          refine g_ald1 hC dL_law_794 ?_
          refine g_iconst 5 hC dL_law_795 (by decide) ?_
          refine x_count 5 hst hC hL hR h0 (by decide) (by decide) tw_3_52 dL_law_796 (by decide) ⟨by omega, by omega⟩ (Nat.le_of_ble_eq_true rfl) ?_
          intro σ hR
          refine g_ild23 hC dL_law_799 ?_
          refine g_ild22 hC dL_law_801 ?_
          refine g_isub hC dL_law_803 ?_
          refine g_iconst 5 hC dL_law_804 (by decide) ?_
          refine g_isub hC dL_law_805 ?_
          refine g_icmp_ne 839 hC dL_law_806 (by decide) (fun c806 => absurd c806 (fun h => h a1)) (fun c806 => ?_)
          refine g_ald1 hC dL_law_809 ?_
          refine g_ild10 hC dL_law_810 ?_
          refine g_bipush 7 hC dL_law_812 (by decide) ?_
          refine x_stone j 7 hst hC hL hR h0 hj9 (by decide) (by decide) tw_3_7 dL_law_814 (by decide) ⟨by omega, by omega⟩ (Nat.le_of_ble_eq_true rfl) ?_
          intro σ hR
          refine g_ild24 hC dL_law_817 ?_
          refine g_bipush 25 hC dL_law_819 (by decide) ?_
          refine g_iadd hC dL_law_821 ?_
          refine g_icmp_ne 839 hC dL_law_822 (by decide) (fun c822 => absurd c822 (fun h => h a2)) (fun c822 => ?_)
          refine g_ald1 hC dL_law_825 ?_
          refine g_ild10 hC dL_law_826 ?_
          refine g_iconst 3 hC dL_law_828 (by decide) ?_
          refine x_stone j 3 hst hC hL hR h0 hj9 (by decide) (by decide) tw_3_7 dL_law_829 (by decide) ⟨by omega, by omega⟩ (Nat.le_of_ble_eq_true rfl) ?_
          intro σ hR
          refine g_ild25 hC dL_law_832 ?_
          refine g_iconst 1 hC dL_law_834 (by decide) ?_
          refine g_iadd hC dL_law_835 ?_
          refine g_icmp_eq 847 hC dL_law_836 (by decide) (fun c836 => ?_) (fun c836 => absurd a3 c836)
          refine g_keep [true, true, true, true, true, true, true, true, false, false, false, false, false, false, false, false, false, false, false, false, false, false, false, false, false, false, false, false, false, false, false, false] ?_
          refine g_widen (k1 := k9) (n1 := n9) (by omega) (by omega) ?_
          exact kk σ t1 hR aI
        · refine g_goto 841 hC dL_law_757 (by decide) ?_
          refine g_inc21 1 hC dL_law_841 (by decide) rfl ?_
          refine g_goto 700 hC dL_law_844 (by decide) ?_
          refine g_keep [true, true, true, true, true, true, true, true, false, false, true, false, false, false, false, false, false, false, false, false, false, true, false, false, false, false, false, false, false, false, false, false] ?_
          rw [nI_1]
          exact ih (k + 1) _ _ σ (by omega) hR ⟨by omega, by omega⟩
set_option maxRecDepth 100000 in
set_option maxHeartbeats 4000000 in
theorem lw_847 {l : Launch} {X : gC} {A : Nat → Nat} {b L : Nat} {xs : Nat → Int32} (hst : l.stackTraces = false) (hL : uL X b L xs) (hLs : L < 2 ^ 31) {es : va_W} {kc nc : Nat} {σ t : Mem} (hR : RS σ t) (h0 : t 0 0 = 0) {qs C R Lz i : Nat} {dr : Int32} {F : Nat} {sv : Nat → Int32} (hI : lI t C R Lz F sv dr) (hf : kc + 2 ≤ 600074 ∧ nc + 12 ≤ 7301550) (hC : uOk l wX X A es cL_law "GemCutLaw" 10 600074 7301550) (kk : ∀ (σ1 : Mem), RS σ1 t → G (wU wX es) (uX wX X A es) (kc + 2) (nc + 12) 870 [some (.ref b), some (.ref (A 0)), some (.ref qs), some (.int (nI C)), some (.int (nI R)), some (.int (nI Lz)), some (.int dr), some (.int (nI i)), none, none, none, none, none, none, none, none, none, none, none, none, none, none, none, none, none, none, none, none, none, none, none, none] [] σ1) : G (wU wX es) (uX wX X A es) kc nc 847 [some (.ref b), some (.ref (A 0)), some (.ref qs), some (.int (nI C)), some (.int (nI R)), some (.int (nI Lz)), some (.int dr), some (.int (nI i)), none, none, none, none, none, none, none, none, none, none, none, none, none, none, none, none, none, none, none, none, none, none, none, none] [] σ := by
  refine g_ald1 hC dL_law_847 ?_
  refine g_iconst 5 hC dL_law_848 (by decide) ?_
  refine x_count 5 hst hC hL hR h0 (by decide) (by decide) tw_3_52 dL_law_849 (by decide) ⟨by omega, by omega⟩ (Nat.le_of_ble_eq_true rfl) ?_
  intro σ hR
  refine g_ald1 hC dL_law_852 ?_
  refine g_bipush 7 hC dL_law_853 (by decide) ?_
  refine x_count 7 hst hC hL hR h0 (by decide) (by decide) tw_3_52 dL_law_855 (by decide) ⟨by omega, by omega⟩ (Nat.le_of_ble_eq_true rfl) ?_
  intro σ hR
  refine g_iadd hC dL_law_858 ?_
  refine g_sipush 400 hC dL_law_859 (by decide) ?_
  refine g_ild6 hC dL_law_862 ?_
  refine g_iadd hC dL_law_864 ?_
  refine g_icmp_eq 870 hC dL_law_865 (by decide) (fun c865 => ?_) (fun c865 => absurd hI.2.2.2.2.2.2 c865)
  exact kk σ hR
set_option maxRecDepth 100000 in
set_option maxHeartbeats 4000000 in
theorem lw_697 {l : Launch} {X : gC} {A : Nat → Nat} {b L : Nat} {xs : Nat → Int32} (hst : l.stackTraces = false) (hL : uL X b L xs) (hLs : L < 2 ^ 31) {es : va_W} {kc nc : Nat} {σ t : Mem} (hR : RS σ t) (h0 : t 0 0 = 0) {qs C R Lz i : Nat} {dr : Int32} {j : Nat} (hj : j < nS t) {F : Nat} {sv : Nat → Int32} (hI : lI t C R Lz F sv dr) (hf : kc + 162 ≤ 600074 ∧ nc + 972 ≤ 7301550) (hC : uOk l wX X A es cL_law "GemCutLaw" 10 600074 7301550) (kk : ∀ (σ1 t1 : Mem), RS σ1 t1 → lI t1 C R Lz F sv dr → G (wU wX es) (uX wX X A es) (kc + 162) (nc + 972) 870 [some (.ref b), some (.ref (A 0)), some (.ref qs), some (.int (nI C)), some (.int (nI R)), some (.int (nI Lz)), some (.int dr), some (.int (nI i)), none, none, none, none, none, none, none, none, none, none, none, none, none, none, none, none, none, none, none, none, none, none, none, none] [] σ1) : G (wU wX es) (uX wX X A es) kc nc 697 [some (.ref b), some (.ref (A 0)), some (.ref qs), some (.int (nI C)), some (.int (nI R)), some (.int (nI Lz)), some (.int dr), some (.int (nI i)), none, none, some (.int (nI j)), none, none, none, none, none, none, none, none, none, none, none, none, none, none, none, none, none, none, none, none, none] [] σ := by
  refine g_iconst 0 hC dL_law_697 (by decide) ?_
  refine g_ist21 hC dL_law_698 rfl ?_
  have h8 : j < 8 := by have := MI_S hR.1; omega
  have h16 := hR.2.2.1 j h8
  refine lw_700 (k9 := kc + 160) (n9 := nc + 960) hst hL hLs h0 hj hI ⟨by omega, by omega⟩ hC ?_ (nP t j) 0 kc nc σ (by omega) hR ⟨by omega, by omega⟩
  intro σ t1 hR hI
  exact lw_847 hst hL hLs hR hI.1 hI ⟨by omega, by omega⟩ hC (fun σ hR => kk σ t1 hR hI)
