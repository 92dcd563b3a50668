set_option maxRecDepth 100000 in
set_option maxHeartbeats 4000000 in
theorem lc_dress {l : Launch} {X : gC} {b L i k n : Nat} {xs : Nat → Int32} {σ : Mem} (hst : l.stackTraces = false) (hC : gOk wL l X cL_law "GemCutLaw" 10 601024 7293033) (hZ : gZY X) (hN : gNcX X) (hS : gScr X b L xs) (hL : L ≤ 3584) (hi : i + 7 ≤ L) (hk : k + 168 ≤ 601024) (hn : n + 844 ≤ 7293033) (hR : RS σ (shM 196 σ)) (kk : ∀ (k2 n2 : Nat) (σ2 : Mem), k2 ≤ k + 168 → n2 ≤ n + 844 → RS σ2 (shM 196 σ2) → G wL X k2 n2 1386 [some (.ref b), some (.ref (gA X 0)), some (.ref (gA X 196)), some (.ref (gA X 195)), some (.int (nI i)), none, none, none, none] [] σ2) : G wL X k n 744 [some (.ref b), some (.ref (gA X 0)), some (.ref (gA X 196)), some (.ref (gA X 195)), some (.int (nI i)), none, none, none, none] [] σ := by
  refine g_ald1 hC dL_law_744 ?_
  refine g_eVI (o := 0) emb_x 0 hC (c_X5_dress l (mTh (shM 196 σ))) tw_2_30 ⟨tw_2_31, tw_2_32, tw_1_1, tw_2_33⟩ (by decide +kernel) ⟨by decide, by decide⟩ ⟨by omega, by omega⟩ rfl rfl rfl (gW_at wL _ _ (i := 0) (by decide)) (Nat.le_of_ble_eq_true rfl) rfl dL_law_745 ⟨RS_th hR, th_0 _⟩ (fun rr σ1 hw => ?_)
  rw [mDress_th] at hw
  show G wL X _ _ _ _ _ (ptM 0 195 σ σ1)
  refine g_ald2 hC dL_law_748 ?_
  refine g_eVI (o := 196) emb_m 0 hC (c_X6_dress l) tw_4_169 ⟨tw_4_170, tw_4_171, tw_1_7, tw_4_172⟩ (by decide +kernel) ⟨by decide, by decide⟩ ⟨by omega, by omega⟩ rfl rfl rfl (gW_at wL _ _ (i := 196) (by decide)) (Nat.le_of_ble_eq_true rfl) rfl dL_law_749 trivial (fun r2 τ1 hq => ?_)
  rw [sh_pt _ (by decide)] at hq
  show G wL X _ _ _ _ _ (ptM 196 5 (ptM 0 195 σ σ1) τ1)
  have s1 : RS (ptM 196 5 (ptM 0 195 σ σ1) τ1) (shM 196 (ptM 196 5 (ptM 0 195 σ σ1) τ1)) := RS_law hw.2.1 (fun id h => (ptM_out (by omega)).trans (ptM_in (o := 0) (n := 195) (show id < 195 by omega))) (by rw [hq.2]; exact Qf_rf _) (fun j h => (ptM_in (o := 196) (n := 5) h))
  refine g_icmp_eq 1386 hC dL_law_752 (by decide) (fun _ => ?_) (fun c => absurd (by rw [hw.1, hq.1]) c)
  exact kk _ _ _ (by omega) (by omega) s1
set_option maxRecDepth 100000 in
set_option maxHeartbeats 4000000 in
theorem lc_kept {l : Launch} {X : gC} {b L i k n : Nat} {xs : Nat → Int32} {σ : Mem} (hst : l.stackTraces = false) (hC : gOk wL l X cL_law "GemCutLaw" 10 601024 7293033) (hZ : gZY X) (hN : gNcX X) (hS : gScr X b L xs) (hL : L ≤ 3584) (hi : i + 7 ≤ L) (hk : k + 168 ≤ 601024) (hn : n + 844 ≤ 7293033) (hR : RS σ (shM 196 σ)) (kk : ∀ (k2 n2 : Nat) (σ2 : Mem), k2 ≤ k + 168 → n2 ≤ n + 844 → RS σ2 (shM 196 σ2) → G wL X k2 n2 1386 [some (.ref b), some (.ref (gA X 0)), some (.ref (gA X 196)), some (.ref (gA X 195)), some (.int (nI i)), none, none, none, none] [] σ2) : G wL X k n 1331 [some (.ref b), some (.ref (gA X 0)), some (.ref (gA X 196)), some (.ref (gA X 195)), some (.int (nI i)), none, none, none, none] [] σ := by
  refine g_ald1 hC dL_law_1331 ?_
  refine g_eVD (o := 0) emb_x 0 hC (c_X5_kept l (mTh (shM 196 σ))) tw_2_34 ⟨tw_2_35, tw_2_36, tw_1_1, tw_2_37⟩ (by decide +kernel) ⟨by decide, by decide⟩ ⟨by omega, by omega⟩ rfl rfl rfl (gW_at wL _ _ (i := 0) (by decide)) (Nat.le_of_ble_eq_true rfl) rfl dL_law_1332 (RS_th hR) (fun rr σ1 hw => ?_)
  obtain ⟨hw, rfl⟩ := hw
  rw [ptM_id]
  refine g_dst5 hC dL_law_1335 rfl ?_
  refine g_ald2 hC dL_law_1337 ?_
  refine g_eVD (o := 196) emb_m 0 hC (c_X6_kept l) tw_5_5 ⟨tw_5_6, tw_5_7, tw_1_7, tw_5_8⟩ (by decide +kernel) ⟨by decide, by decide⟩ ⟨by omega, by omega⟩ rfl rfl rfl (gW_at wL _ _ (i := 196) (by decide)) (Nat.le_of_ble_eq_true rfl) rfl dL_law_1338 hR.1 (fun r2 τ1 hq => ?_)
  obtain ⟨hq, rfl⟩ := hq
  have hv : r2 = rr := by rw [hw, hq]
  subst hv
  show G wL X _ _ _ _ _ (ptM 196 5 σ (mTh (shM 196 σ)))
  have s1 : RS (ptM 196 5 σ (mTh (shM 196 σ))) (shM 196 (ptM 196 5 σ (mTh (shM 196 σ)))) := RS_law (RS_th hR) (fun id h => ptM_out (by omega)) (Qf_rf _) (fun j h => (ptM_in (o := 196) (n := 5) h))
  refine g_dst7 hC dL_law_1341 rfl ?_
  refine g_dld5 hC dL_law_1343 ?_
  refine g_dld7 hC dL_law_1345 ?_
  refine g_dcmp hC dL_law_1347 ?_
  refine g_if_eq 1369 hC dL_law_1348 (by decide) (fun c => ?_) (fun c => ?_)
  · refine g_goto 1386 hC dL_law_1369 (by decide) ?_
    refine g_keep [true, true, true, true, true, false, false, false, false] ?_
    exact kk _ _ _ (by omega) (by omega) s1
  · refine g_dld5 hC dL_law_1351 ?_
    refine g_dld5 hC dL_law_1353 ?_
    refine g_dcmp hC dL_law_1355 ?_
    refine g_if_eq 1367 hC dL_law_1356 (by decide) (fun c2 => absurd c2 c) (fun _ => ?_)
    refine g_dld7 hC dL_law_1359 ?_
    refine g_dld7 hC dL_law_1361 ?_
    refine g_dcmp hC dL_law_1363 ?_
    refine g_if_ne 1369 hC dL_law_1364 (by decide) (fun _ => ?_) (fun c3 => absurd c3 c)
    refine g_goto 1386 hC dL_law_1369 (by decide) ?_
    refine g_keep [true, true, true, true, true, false, false, false, false] ?_
    exact kk _ _ _ (by omega) (by omega) s1
set_option maxRecDepth 100000 in
set_option maxHeartbeats 4000000 in
theorem lc_digest {l : Launch} {X : gC} {b L i k n : Nat} {xs : Nat → Int32} {σ : Mem} (hst : l.stackTraces = false) (hC : gOk wL l X cL_law "GemCutLaw" 10 601024 7293033) (hZ : gZY X) (hN : gNcX X) (hS : gScr X b L xs) (hL : L ≤ 3584) (hi : i + 7 ≤ L) (hk : k + 168 ≤ 601024) (hn : n + 844 ≤ 7293033) (hR : RS σ (shM 196 σ)) (kk : ∀ (k2 n2 : Nat) (σ2 : Mem), k2 ≤ k + 168 → n2 ≤ n + 844 → RS σ2 (shM 196 σ2) → G wL X k2 n2 1386 [some (.ref b), some (.ref (gA X 0)), some (.ref (gA X 196)), some (.ref (gA X 195)), some (.int (nI i)), none, none, none, none] [] σ2) : G wL X k n 1372 [some (.ref b), some (.ref (gA X 0)), some (.ref (gA X 196)), some (.ref (gA X 195)), some (.int (nI i)), none, none, none, none] [] σ := by
  refine g_ald1 hC dL_law_1372 ?_
  refine g_eVL (o := 0) emb_x 0 hC (c_X5_digest l (mTh (shM 196 σ))) tw_2_43 ⟨tw_2_44, tw_2_45, tw_1_1, tw_2_46⟩ (by decide +kernel) ⟨by decide, by decide⟩ ⟨by omega, by omega⟩ rfl rfl rfl (gW_at wL _ _ (i := 0) (by decide)) (Nat.le_of_ble_eq_true rfl) rfl dL_law_1373 (RS_th hR) (fun rr σ1 hw => ?_)
  obtain ⟨hw, rfl⟩ := hw
  rw [ptM_id]
  refine g_ald2 hC dL_law_1376 ?_
  refine g_eVL (o := 196) emb_m 0 hC (c_X6_digest l) tw_5_9 ⟨tw_5_10, tw_5_11, tw_1_7, tw_5_12⟩ (by decide +kernel) ⟨by decide, by decide⟩ ⟨by omega, by omega⟩ rfl rfl rfl (gW_at wL _ _ (i := 196) (by decide)) (Nat.le_of_ble_eq_true rfl) rfl dL_law_1377 hR.1 (fun r2 τ1 hq => ?_)
  obtain ⟨hq, rfl⟩ := hq
  show G wL X _ _ _ _ _ (ptM 196 5 σ (mTh (shM 196 σ)))
  have s1 : RS (ptM 196 5 σ (mTh (shM 196 σ))) (shM 196 (ptM 196 5 σ (mTh (shM 196 σ)))) := RS_law (RS_th hR) (fun id h => ptM_out (by omega)) (Qf_rf _) (fun j h => (ptM_in (o := 196) (n := 5) h))
  refine g_lcmp hC (by rw [hw, hq]) dL_law_1380 ?_
  refine g_if_eq 1386 hC dL_law_1381 (by decide) (fun _ => ?_) (fun c => absurd rfl c)
  exact kk _ _ _ (by omega) (by omega) s1
