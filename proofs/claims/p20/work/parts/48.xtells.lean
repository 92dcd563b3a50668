set_option maxRecDepth 100000 in
set_option maxHeartbeats 4000000 in
theorem c_X5_cell (l : Launch) (hst : l.stackTraces = false) (t : Mem) (x y z : Int32) : gXI wX l yX5_cell (.code yX5_cell cX5_cell 4 (some FieldType.int)) 7 1 6 (fun A => [.ref (A 0), .int x, .int y, .int z]) (fun τ => RS τ t ∧ t 0 0 = 0) (fun τ rr τ1 => xOk (mCell t x y z) rr τ1) (fun τ ex τ1 => xc1 (mCell t x y z) t ex ∧ RS τ1 t) := by
  refine gXI_of hst (by decide) (fun A => Nat.le_of_ble_eq_true rfl) ?_
  intro X τ hCX hP hE hX hThr
  have hCX : gOkX wX l X cX5_cell "GemCut" 7 1 6 := hCX
  have hC : gOk wX l X cX5_cell "GemCut" 7 1 6 := hCX.1
  show G wX X 0 0 0 [some (.ref (gA X 0)), some (.int x), some (.int y), some (.int z)] [] τ
  obtain ⟨hR, ht0⟩ := hP
  have hT := mTh_id ht0
  refine g_ald0 hC dX5_cell_0 ?_
  refine g_ild1 hC dX5_cell_1 ?_
  refine g_ild2 hC dX5_cell_2 ?_
  refine g_ild3 hC dX5_cell_3 ?_
  refine k_X5_wantCell  hCX tw_2_34 dX5_cell_4 (by decide) ⟨by omega, by omega⟩ (Nat.le_of_ble_eq_true rfl)  (fun hq => ?_) (fun ex σ1 hq => hX _ _ _ _ _ _ _ (by obtain ⟨e1, e2, e3⟩ := hq; exact ⟨⟨e1, (by unfold mCell; rw [hT, if_neg (fun h => by rw [holds_cell hR.1 hR.2.2.2.1, h] at e3; exact Bool.noConfusion e3)])⟩, by rw [e2]; exact hR⟩) (by omega) (by omega))
  have hc : sCell t x y z = true := by rw [← holds_cell hR.1 hR.2.2.2.1]; exact hq
  refine g_ald0 hC dX5_cell_7 ?_
  refine xg_GemCut_rough hC tw_2_11 dX5_cell_8 ?_
  refine g_ild1 hC dX5_cell_11 ?_
  refine g_ild2 hC dX5_cell_12 ?_
  refine g_ild3 hC dX5_cell_13 ?_
  refine k_X2_ownerAt  hC tw_2_107 dX5_cell_14 (by decide) ⟨by omega, by omega⟩ (Nat.le_of_ble_eq_true rfl) (Rb_RI hR.1 hR.2.2.2.1) ?_
  rw [pb_own hR hc]
  have hm : mCell t x y z = (t 1 (tn (sAt x y z)), t) := by unfold mCell; rw [hT, if_pos hc]
  exact hE _ _ _ _ _ _ dX5_cell_17 (by omega) (by omega) ⟨by rw [hm], by rw [hm]; exact hR, by rw [hm]; exact ht0⟩
set_option maxRecDepth 100000 in
set_option maxHeartbeats 4000000 in
theorem c_X5_flawIn (l : Launch) (hst : l.stackTraces = false) (t : Mem) (f s w : Int32) : gXI wX l yX5_flawIn (.code yX5_flawIn cX5_flawIn 4 (some FieldType.int)) 7 3 18 (fun A => [.ref (A 0), .int f, .int s, .int w]) (fun τ => RS τ t ∧ t 0 0 = 0) (fun τ rr τ1 => xOk (mFlawIn t f s w) rr τ1) (fun τ ex τ1 => xc1 (mFlawIn t f s w) t ex ∧ RS τ1 t) := by
  refine gXI_of hst (by decide) (fun A => Nat.le_of_ble_eq_true rfl) ?_
  intro X τ hCX hP hE hX hThr
  have hCX : gOkX wX l X cX5_flawIn "GemCut" 7 3 18 := hCX
  have hC : gOk wX l X cX5_flawIn "GemCut" 7 3 18 := hCX.1
  show G wX X 0 0 0 [some (.ref (gA X 0)), some (.int f), some (.int s), some (.int w)] [] τ
  obtain ⟨hR, ht0⟩ := hP
  have hT := mTh_id ht0
  refine g_ald0 hC dX5_flawIn_0 ?_
  refine g_ild1 hC dX5_flawIn_1 ?_
  refine k_X5_wantFlaw  hCX tw_2_112 dX5_flawIn_2 (by decide) ⟨by omega, by omega⟩ (Nat.le_of_ble_eq_true rfl)  (fun hq => ?_) (fun ex σ1 hq => hX _ _ _ _ _ _ _ (by obtain ⟨e1, e2, e3⟩ := hq; exact ⟨⟨e1, (by unfold mFlawIn; rw [hT, if_neg (fun h => not_rng e3 ((pb_fl hR).mp h.1))])⟩, by rw [e2]; exact hR⟩) (by omega) (by omega))
  have hfS := (pb_fl hR).mpr hq
  obtain ⟨fn, hf, hf10, rfl⟩ := pb_fl1 hR hq
  have hfn : tn (nI fn) = fn := nI_clamp (by omega)
  refine g_ald0 hC dX5_flawIn_5 ?_
  refine g_ild2 hC dX5_flawIn_6 ?_
  refine k_X5_wantStone  hCX tw_2_117 dX5_flawIn_7 (by decide) ⟨by omega, by omega⟩ (Nat.le_of_ble_eq_true rfl)  (fun hq => ?_) (fun ex σ1 hq => hX _ _ _ _ _ _ _ (by obtain ⟨e1, e2, e3⟩ := hq; exact ⟨⟨e1, (by unfold mFlawIn; rw [hT, if_neg (fun h => not_rng e3 ((pb_st hR).mp h.2.1))])⟩, by rw [e2]; exact hR⟩) (by omega) (by omega))
  have hsS := (pb_st hR).mpr hq
  obtain ⟨sn, hs, hs8, rfl⟩ := pb_st1 hR hq
  have hsn : tn (nI sn) = sn := nI_clamp (by omega)
  refine g_ild3 hC dX5_flawIn_10 ?_
  refine g_iconst 3 hC dX5_flawIn_11 (by decide) ?_
  refine k_X5_wantWhat  hCX tw_2_122 dX5_flawIn_12 (by decide) ⟨by omega, by omega⟩ (Nat.le_of_ble_eq_true rfl)  (fun hq => ?_) (fun ex σ1 hq => hX _ _ _ _ _ _ _ (by obtain ⟨e1, e2, e3⟩ := hq; exact ⟨⟨e1, (by unfold mFlawIn; rw [hT, if_neg (fun h => not_rng e3 ((wh_iff 3 (by decide) (by decide) (by decide)).mp h.2.2))])⟩, by rw [e2]; exact hR⟩) (by omega) (by omega))
  have hwS : sIn w 0 2 = true := (wh_iff 3 (by decide) (by decide) (by decide)).mpr hq
  obtain ⟨wn, hw, rfl⟩ := wh_1 3 (by decide) (by decide) hq
  have hwn : tn (nI wn) = wn := nI_clamp (by omega)
  refine g_ald0 hC dX5_flawIn_15 ?_
  refine g_ild1 hC dX5_flawIn_16 ?_
  refine g_ild2 hC dX5_flawIn_17 ?_
  refine g_ild3 hC dX5_flawIn_18 ?_
  refine k_X5_tellOfFlaw (t := t) (f := fn) (s := sn) (w := wn) hC tw_2_126 dX5_flawIn_19 (by decide) ⟨by omega, by omega⟩ (Nat.le_of_ble_eq_true rfl) ⟨hs, hR, hf, hw⟩ ?_
  have hm : mFlawIn t (nI fn) (nI sn) (nI wn) = (sFt t fn (nI sn) (nI wn), t) := by unfold mFlawIn; rw [hT, if_pos ⟨hfS, hsS, hwS⟩, hfn]
  exact hE _ _ _ _ _ _ dX5_flawIn_22 (by omega) (by omega) ⟨by rw [hm], by rw [hm]; exact hR, by rw [hm]; exact ht0⟩
set_option maxRecDepth 100000 in
set_option maxHeartbeats 4000000 in
theorem c_X5_stone (l : Launch) (hst : l.stackTraces = false) (t : Mem) (s w : Int32) : gXI wX l yX5_stone (.code yX5_stone cX5_stone 3 (some FieldType.int)) 7 2 12 (fun A => [.ref (A 0), .int s, .int w]) (fun τ => RS τ t ∧ t 0 0 = 0) (fun τ rr τ1 => xOk (mStone t s w) rr τ1) (fun τ ex τ1 => xc1 (mStone t s w) t ex ∧ RS τ1 t) := by
  refine gXI_of hst (by decide) (fun A => Nat.le_of_ble_eq_true rfl) ?_
  intro X τ hCX hP hE hX hThr
  have hCX : gOkX wX l X cX5_stone "GemCut" 7 2 12 := hCX
  have hC : gOk wX l X cX5_stone "GemCut" 7 2 12 := hCX.1
  show G wX X 0 0 0 [some (.ref (gA X 0)), some (.int s), some (.int w)] [] τ
  obtain ⟨hR, ht0⟩ := hP
  have hT := mTh_id ht0
  refine g_ald0 hC dX5_stone_0 ?_
  refine g_ild1 hC dX5_stone_1 ?_
  refine k_X5_wantStone  hCX tw_2_117 dX5_stone_2 (by decide) ⟨by omega, by omega⟩ (Nat.le_of_ble_eq_true rfl)  (fun hq => ?_) (fun ex σ1 hq => hX _ _ _ _ _ _ _ (by obtain ⟨e1, e2, e3⟩ := hq; exact ⟨⟨e1, (by unfold mStone; rw [hT, if_neg (fun h => not_rng e3 ((pb_st hR).mp h.1))])⟩, by rw [e2]; exact hR⟩) (by omega) (by omega))
  have hsS := (pb_st hR).mpr hq
  obtain ⟨sn, hs, hs8, rfl⟩ := pb_st1 hR hq
  have hsn : tn (nI sn) = sn := nI_clamp (by omega)
  refine g_ild2 hC dX5_stone_5 ?_
  refine g_bipush 9 hC dX5_stone_6 (by decide) ?_
  refine k_X5_wantWhat  hCX tw_2_122 dX5_stone_8 (by decide) ⟨by omega, by omega⟩ (Nat.le_of_ble_eq_true rfl)  (fun hq => ?_) (fun ex σ1 hq => hX _ _ _ _ _ _ _ (by obtain ⟨e1, e2, e3⟩ := hq; exact ⟨⟨e1, (by unfold mStone; rw [hT, if_neg (fun h => not_rng e3 ((wh_iff 9 (by decide) (by decide) (by decide)).mp h.2))])⟩, by rw [e2]; exact hR⟩) (by omega) (by omega))
  have hwS : sIn w 0 8 = true := (wh_iff 9 (by decide) (by decide) (by decide)).mpr hq
  obtain ⟨wn, hw, rfl⟩ := wh_1 9 (by decide) (by decide) hq
  have hwn : tn (nI wn) = wn := nI_clamp (by omega)
  refine g_ald0 hC dX5_stone_11 ?_
  refine g_ald0 hC dX5_stone_12 ?_
  refine xg_GemCut_stones hC tw_2_12 dX5_stone_13 ?_
  refine g_ild1 hC dX5_stone_16 ?_
  refine xl_stonesA sn hC rfl hs8 dX5_stone_17 ?_
  refine g_ild2 hC dX5_stone_18 ?_
  refine k_X5_tellOfStone (t := t) (s := sn) (w := wn) hC tw_3_11 dX5_stone_19 (by decide) ⟨by omega, by omega⟩ (Nat.le_of_ble_eq_true rfl) ⟨hs, hR, hw⟩ ?_
  have hm : mStone t (nI sn) (nI wn) = (sSt t sn wn, t) := by unfold mStone; rw [hT, if_pos ⟨hsS, hwS⟩, hsn, hwn]
  exact hE _ _ _ _ _ _ dX5_stone_22 (by omega) (by omega) ⟨by rw [hm], by rw [hm]; exact hR, by rw [hm]; exact ht0⟩
set_option maxRecDepth 100000 in
set_option maxHeartbeats 4000000 in
theorem c_X5_plane (l : Launch) (hst : l.stackTraces = false) (t : Mem) (s k w : Int32) : gXI wX l yX5_plane (.code yX5_plane cX5_plane 4 (some FieldType.int)) 7 3 18 (fun A => [.ref (A 0), .int s, .int k, .int w]) (fun τ => RS τ t ∧ t 0 0 = 0) (fun τ rr τ1 => xOk (mPlane t s k w) rr τ1) (fun τ ex τ1 => xc1 (mPlane t s k w) t ex ∧ RS τ1 t) := by
  refine gXI_of hst (by decide) (fun A => Nat.le_of_ble_eq_true rfl) ?_
  intro X τ hCX hP hE hX hThr
  have hCX : gOkX wX l X cX5_plane "GemCut" 7 3 18 := hCX
  have hC : gOk wX l X cX5_plane "GemCut" 7 3 18 := hCX.1
  show G wX X 0 0 0 [some (.ref (gA X 0)), some (.int s), some (.int k), some (.int w)] [] τ
  obtain ⟨hR, ht0⟩ := hP
  have hT := mTh_id ht0
  refine g_ald0 hC dX5_plane_0 ?_
  refine g_ild1 hC dX5_plane_1 ?_
  refine k_X5_wantStone  hCX tw_2_117 dX5_plane_2 (by decide) ⟨by omega, by omega⟩ (Nat.le_of_ble_eq_true rfl)  (fun hq => ?_) (fun ex σ1 hq => hX _ _ _ _ _ _ _ (by obtain ⟨e1, e2, e3⟩ := hq; exact ⟨⟨e1, (by unfold mPlane; rw [hT, if_neg (fun h => absurd h.1 (pb_pls (fun h => not_rng e3 ((pb_st hR).mp h))))])⟩, by rw [e2]; exact hR⟩) (by omega) (by omega))
  have hsS := (pb_st hR).mpr hq
  obtain ⟨sn, hs, hs8, rfl⟩ := pb_st1 hR hq
  have hsn : tn (nI sn) = sn := nI_clamp (by omega)
  refine g_ald0 hC dX5_plane_5 ?_
  refine g_ild1 hC dX5_plane_6 ?_
  refine g_ild2 hC dX5_plane_7 ?_
  refine k_X5_wantPlane (s := sn) hCX tw_2_233 dX5_plane_8 (by decide) ⟨by omega, by omega⟩ (Nat.le_of_ble_eq_true rfl) hs8 (fun hq => ?_) (fun ex σ1 hq => hX _ _ _ _ _ _ _ (by obtain ⟨e1, e2, e3⟩ := hq; exact ⟨⟨e1, (by unfold mPlane; rw [hT, if_neg (fun h => not_rng e3 ((pb_pl hR hs).mp h.1))])⟩, by rw [e2]; exact hR⟩) (by omega) (by omega))
  have hkS := (pb_pl hR hs).mpr hq
  obtain ⟨kn, hk, hk16, rfl⟩ := pb_pl1 hR hs hq
  have hkn : tn (nI kn) = kn := nI_clamp (by omega)
  refine g_ild3 hC dX5_plane_11 ?_
  refine g_bipush 6 hC dX5_plane_12 (by decide) ?_
  refine k_X5_wantWhat  hCX tw_2_122 dX5_plane_14 (by decide) ⟨by omega, by omega⟩ (Nat.le_of_ble_eq_true rfl)  (fun hq => ?_) (fun ex σ1 hq => hX _ _ _ _ _ _ _ (by obtain ⟨e1, e2, e3⟩ := hq; exact ⟨⟨e1, (by unfold mPlane; rw [hT, if_neg (fun h => not_rng e3 ((wh_iff 6 (by decide) (by decide) (by decide)).mp h.2))])⟩, by rw [e2]; exact hR⟩) (by omega) (by omega))
  have hwS : sIn w 0 5 = true := (wh_iff 6 (by decide) (by decide) (by decide)).mpr hq
  obtain ⟨wn, hw, rfl⟩ := wh_1 6 (by decide) (by decide) hq
  have hwn : tn (nI wn) = wn := nI_clamp (by omega)
  refine g_ald0 hC dX5_plane_17 ?_
  refine xg_GemCut_stones hC tw_2_12 dX5_plane_18 ?_
  refine g_ild1 hC dX5_plane_21 ?_
  refine xl_stonesA sn hC rfl hs8 dX5_plane_22 ?_
  refine xg_Stone_planes hC (by first | assumption | omega | exact xk_pl _ (by assumption) _ (by omega) | decide) tw_1_144 dX5_plane_23 ?_
  refine g_ild2 hC dX5_plane_26 ?_
  refine xl_Pls kn hC hs8 rfl (by omega) dX5_plane_27 ?_
  refine g_ild3 hC dX5_plane_28 ?_
  refine k_X1_tell (i := iPl sn kn) (w := wn) hC tw_3_48 dX5_plane_29 (by decide) ⟨by omega, by omega⟩ (Nat.le_of_ble_eq_true rfl) (xk_pl _ hs8 _ (by omega)) hw ?_
  rw [rs_tell hR hs hk hw]
  have hm : mPlane t (nI sn) (nI kn) (nI wn) = (sPt t sn kn wn, t) := by unfold mPlane; rw [hT, if_pos ⟨hkS, hwS⟩, hsn, hkn, hwn]
  exact hE _ _ _ _ _ _ dX5_plane_32 (by omega) (by omega) ⟨by rw [hm], by rw [hm]; exact hR, by rw [hm]; exact ht0⟩
set_option maxRecDepth 100000 in
set_option maxHeartbeats 4000000 in
theorem c_X5_count (l : Launch) (hst : l.stackTraces = false) (t : Mem) (w : Int32) : gXI wX l yX5_count (.code yX5_count cX5_count 2 (some FieldType.int)) 7 1 6 (fun A => [.ref (A 0), .int w]) (fun τ => RS τ t ∧ t 0 0 = 0) (fun τ rr τ1 => xOk (mCount t w) rr τ1) (fun τ ex τ1 => xc1 (mCount t w) t ex ∧ RS τ1 t) := by
  refine gXI_of hst (by decide) (fun A => Nat.le_of_ble_eq_true rfl) ?_
  intro X τ hCX hP hE hX hThr
  have hCX : gOkX wX l X cX5_count "GemCut" 7 1 6 := hCX
  have hC : gOk wX l X cX5_count "GemCut" 7 1 6 := hCX.1
  show G wX X 0 0 0 [some (.ref (gA X 0)), some (.int w)] [] τ
  obtain ⟨hR, ht0⟩ := hP
  have hT := mTh_id ht0
  refine g_ild1 hC dX5_count_0 ?_
  refine g_bipush 8 hC dX5_count_1 (by decide) ?_
  refine k_X5_wantWhat  hCX tw_2_122 dX5_count_3 (by decide) ⟨by omega, by omega⟩ (Nat.le_of_ble_eq_true rfl)  (fun hq => ?_) (fun ex σ1 hq => hX _ _ _ _ _ _ _ (by obtain ⟨e1, e2, e3⟩ := hq; exact ⟨⟨e1, (by unfold mCount; rw [hT, if_neg (fun h => not_rng e3 ((wh_iff 8 (by decide) (by decide) (by decide)).mp h))])⟩, by rw [e2]; exact hR⟩) (by omega) (by omega))
  have hwS : sIn w 0 7 = true := (wh_iff 8 (by decide) (by decide) (by decide)).mpr hq
  obtain ⟨wn, hw, rfl⟩ := wh_1 8 (by decide) (by decide) hq
  have hwn : tn (nI wn) = wn := nI_clamp (by omega)
  refine g_ald0 hC dX5_count_6 ?_
  refine g_ild1 hC dX5_count_7 ?_
  refine k_X5_tellCount (t := t) (w := wn) hC tw_3_56 dX5_count_8 (by decide) ⟨by omega, by omega⟩ (Nat.le_of_ble_eq_true rfl) ⟨hR, hw⟩ ?_
  have hm : mCount t (nI wn) = (sCt t wn, t) := by unfold mCount; rw [hT, if_pos hwS, hwn]
  exact hE _ _ _ _ _ _ dX5_count_11 (by omega) (by omega) ⟨by rw [hm], by rw [hm]; exact hR, by rw [hm]; exact ht0⟩
