set_option maxRecDepth 100000 in
set_option maxHeartbeats 4000000 in
theorem lw_loop {l : Launch} {X : gC} {b L : Nat} {xs : Nat → Int32} (hst : l.stackTraces = false) (hC : gOk wL l X cL_law "GemCutLaw" 10 601024 7293033) (hZ : gZY X) (hN : gNcX X) (hS : gScr X b L xs) (hL : L ≤ 3584) (hEnd : ∀ (k n : Nat) (ls : List (Option Value)) (σ : Mem), k ≤ 601024 → n ≤ 7293033 → G wL X k n 1392 ls [] σ) : ∀ (w c i k n : Nat) (σ : Mem), c + w = 513 → i = 7 * c → k ≤ 300 + 168 * c → n ≤ 8000 + 844 * c → RS σ (shM 196 σ) → G wL X k n 23 [some (.ref b), some (.ref (gA X 0)), some (.ref (gA X 196)), some (.ref (gA X 195)), some (.int (nI i)), none, none, none, none] [] σ := by
  intro w
  induction w with
  | zero =>
    intro c i k n σ hcw hic hk hn hR
    refine g_ild4 hC dL_law_23 ?_
    refine g_ald0 hC dL_law_25 ?_
    refine g_slen hC hS dL_law_26 ?_
    refine g_bipush 7 hC dL_law_27 (by decide) ?_
    refine g_isub hC dL_law_29 ?_
    refine g_icmp_gt 1392 hC dL_law_30 (by decide) (fun _ => hEnd _ _ _ _ (by omega) (by omega)) (fun c30 => ?_)
    have hi : i + 7 ≤ L := Nat.not_lt.mp (fun h => c30 ((le_sub7 (by omega) (by omega)).mpr h))
    omega
  | succ w ih =>
    intro c i k n σ hcw hic hk hn hR
    refine g_ild4 hC dL_law_23 ?_
    refine g_ald0 hC dL_law_25 ?_
    refine g_slen hC hS dL_law_26 ?_
    refine g_bipush 7 hC dL_law_27 (by decide) ?_
    refine g_isub hC dL_law_29 ?_
    refine g_icmp_gt 1392 hC dL_law_30 (by decide) (fun _ => hEnd _ _ _ _ (by omega) (by omega)) (fun c30 => ?_)
    have hi : i + 7 ≤ L := Nat.not_lt.mp (fun h => c30 ((le_sub7 (by omega) (by omega)).mpr h))
    refine g_ald0 hC dL_law_33 ?_
    refine g_ild4 hC dL_law_34 ?_
    refine g_sld (j := i) hC hS rfl (by omega) (by omega) dL_law_36 ?_
    refine g_bipush 31 hC dL_law_37 (by decide) ?_
    refine g_iand hC dL_law_39 ?_
    have back : ∀ (k2 n2 : Nat) (σ2 : Mem), k2 ≤ k + 168 → n2 ≤ n + 844 → RS σ2 (shM 196 σ2) → G wL X k2 n2 1386 [some (.ref b), some (.ref (gA X 0)), some (.ref (gA X 196)), some (.ref (gA X 195)), some (.int (nI i)), none, none, none, none] [] σ2 := by
      intro k2 n2 σ2 h1 h2 h3
      refine g_inc4 7 hC dL_law_1386 (by decide) rfl ?_
      refine g_goto 23 hC dL_law_1389 (by decide) ?_
      rw [show nI i + 7 = nI (i + 7) from nI_add i 7]
      exact ih (c + 1) (i + 7) k2 n2 σ2 (by omega) (by omega) (by omega) (by omega) h3
    generalize xs i &&& 31 = v
    by_cases h0 : v.toInt = 0
    · refine g_tin (off := 84) 124 hC dL_law_40 (by omega) (by omega) (by rw [h0]; rfl) (by decide) ?_
      exact lc_take hst hC hZ hN hS hL hi (by omega) (by omega) hR back
    by_cases h1 : v.toInt = 1
    · refine g_tin (off := 164) 204 hC dL_law_40 (by omega) (by omega) (by rw [h1]; rfl) (by decide) ?_
      exact lc_flaw hst hC hZ hN hS hL hi (by omega) (by omega) hR back
    by_cases h2 : v.toInt = 2
    · refine g_tin (off := 268) 308 hC dL_law_40 (by omega) (by omega) (by rw [h2]; rfl) (by decide) ?_
      exact lc_cell hst hC hZ hN hS hL hi (by omega) (by omega) hR back
    by_cases h3 : v.toInt = 3
    · refine g_tin (off := 348) 388 hC dL_law_40 (by omega) (by omega) (by rw [h3]; rfl) (by decide) ?_
      exact lc_flawIn hst hC hZ hN hS hL hi (by omega) (by omega) hR back
    by_cases h4 : v.toInt = 4
    · refine g_tin (off := 428) 468 hC dL_law_40 (by omega) (by omega) (by rw [h4]; rfl) (by decide) ?_
      exact lc_saw hst hC hZ hN hS hL hi (by omega) (by omega) hR back
    by_cases h5 : v.toInt = 5
    · refine g_tin (off := 532) 572 hC dL_law_40 (by omega) (by omega) (by rw [h5]; rfl) (by decide) ?_
      exact lc_cut hst hC hZ hN hS hL hi (by omega) (by omega) hR back
    by_cases h6 : v.toInt = 6
    · refine g_tin (off := 636) 676 hC dL_law_40 (by omega) (by omega) (by rw [h6]; rfl) (by decide) ?_
      exact lc_polish hst hC hZ hN hS hL hi (by omega) (by omega) hR back
    by_cases h7 : v.toInt = 7
    · refine g_tin (off := 704) 744 hC dL_law_40 (by omega) (by omega) (by rw [h7]; rfl) (by decide) ?_
      exact lc_dress hst hC hZ hN hS hL hi (by omega) (by omega) hR back
    by_cases h8 : v.toInt = 8
    · refine g_tin (off := 717) 757 hC dL_law_40 (by omega) (by omega) (by rw [h8]; rfl) (by decide) ?_
      exact lc_stone hst hC hZ hN hS hL hi (by omega) (by omega) hR back
    by_cases h9 : v.toInt = 9
    · refine g_tin (off := 785) 825 hC dL_law_40 (by omega) (by omega) (by rw [h9]; rfl) (by decide) ?_
      exact lc_plane hst hC hZ hN hS hL hi (by omega) (by omega) hR back
    by_cases h10 : v.toInt = 10
    · refine g_tin (off := 865) 905 hC dL_law_40 (by omega) (by omega) (by rw [h10]; rfl) (by decide) ?_
      exact lc_angle hst hC hZ hN hS hL hi (by omega) (by omega) hR back
    by_cases h11 : v.toInt = 11
    · refine g_tin (off := 945) 985 hC dL_law_40 (by omega) (by omega) (by rw [h11]; rfl) (by decide) ?_
      exact lc_count hst hC hZ hN hS hL hi (by omega) (by omega) hR back
    by_cases h12 : v.toInt = 12
    · refine g_tin (off := 1001) 1041 hC dL_law_40 (by omega) (by omega) (by rw [h12]; rfl) (by decide) ?_
      exact lc_would hst hC hZ hN hS hL hi (by omega) (by omega) hR back
    by_cases h13 : v.toInt = 13
    · refine g_tin (off := 1119) 1159 hC dL_law_40 (by omega) (by omega) (by rw [h13]; rfl) (by decide) ?_
      exact lc_depth hst hC hZ hN hS hL hi (by omega) (by omega) hR back
    by_cases h14 : v.toInt = 14
    · refine g_tin (off := 1211) 1251 hC dL_law_40 (by omega) (by omega) (by rw [h14]; rfl) (by decide) ?_
      exact lc_rid hst hC hZ hN hS hL hi (by omega) (by omega) hR back
    by_cases h15 : v.toInt = 15
    · refine g_tin (off := 1291) 1331 hC dL_law_40 (by omega) (by omega) (by rw [h15]; rfl) (by decide) ?_
      exact lc_kept hst hC hZ hN hS hL hi (by omega) (by omega) hR back
    by_cases h16 : v.toInt = 16
    · refine g_tin (off := 1332) 1372 hC dL_law_40 (by omega) (by omega) (by rw [h16]; rfl) (by decide) ?_
      exact lc_digest hst hC hZ hN hS hL hi (by omega) (by omega) hR back
    refine g_tout 1386 hC dL_law_40 (by omega) (by decide) ?_
    exact back _ _ _ (by omega) (by omega) hR
