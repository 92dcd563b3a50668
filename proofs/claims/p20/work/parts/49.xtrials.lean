set_option maxRecDepth 100000 in
set_option maxHeartbeats 4000000 in
theorem c_X5_would (l : Launch) (hst : l.stackTraces = false) (t : Mem) (s p q r d w : Int32) : gXI wX l yX5_would (.code yX5_would cX5_would 7 (some FieldType.int)) 7 4 24 (fun A => [.ref (A 0), .int s, .int p, .int q, .int r, .int d, .int w]) (fun τ => RS τ t ∧ t 0 0 = 0) (fun τ rr τ1 => xOk (mWould t s p q r d w) rr τ1) (fun τ ex τ1 => xc2 (mWould t s p q r d w) t ex ∧ RS τ1 t) := by
  refine gXI_of hst (by decide) (fun A => Nat.le_of_ble_eq_true rfl) ?_
  intro X τ hCX hP hE hX hThr
  have hCX : gOkX wX l X cX5_would "GemCut" 7 4 24 := hCX
  have hC : gOk wX l X cX5_would "GemCut" 7 4 24 := hCX.1
  show G wX X 0 0 0 [some (.ref (gA X 0)), some (.int s), some (.int p), some (.int q), some (.int r), some (.int d), some (.int w)] [] τ
  obtain ⟨hR, ht0⟩ := hP
  have hT := mTh_id ht0
  refine g_ald0 hC dX5_would_0 ?_
  refine g_ild1 hC dX5_would_1 ?_
  refine k_X5_wantStone  hCX tw_2_117 dX5_would_2 (by decide) ⟨by omega, by omega⟩ (Nat.le_of_ble_eq_true rfl)  (fun hq => ?_) (fun ex σ1 hq => hX _ _ _ _ _ _ _ (by obtain ⟨e1, e2, e3⟩ := hq; exact ⟨Or.inl ⟨e1, (by unfold mWould; rw [hT, if_neg (fun h => not_rng e3 ((pb_st hR).mp h.1))])⟩, by rw [e2]; exact hR⟩) (by omega) (by omega))
  have hsS := (pb_st hR).mpr hq
  obtain ⟨sn, hs, hs8, rfl⟩ := pb_st1 hR hq
  have hsn : tn (nI sn) = sn := nI_clamp (by omega)
  refine g_ild6 hC dX5_would_5 ?_
  refine g_iconst 4 hC dX5_would_7 (by decide) ?_
  refine k_X5_wantWhat  hCX tw_2_122 dX5_would_8 (by decide) ⟨by omega, by omega⟩ (Nat.le_of_ble_eq_true rfl)  (fun hq => ?_) (fun ex σ1 hq => hX _ _ _ _ _ _ _ (by obtain ⟨e1, e2, e3⟩ := hq; exact ⟨Or.inl ⟨e1, (by unfold mWould; rw [hT, if_neg (fun h => not_rng e3 ((wh_iff 4 (by decide) (by decide) (by decide)).mp h.2))])⟩, by rw [e2]; exact hR⟩) (by omega) (by omega))
  have hwS : sIn w 0 3 = true := (wh_iff 4 (by decide) (by decide) (by decide)).mpr hq
  obtain ⟨wn, hw, rfl⟩ := wh_1 4 (by decide) (by decide) hq
  have hwn : tn (nI wn) = wn := nI_clamp (by omega)
  refine g_ild2 hC dX5_would_11 ?_
  refine g_ild3 hC dX5_would_12 ?_
  refine g_ild4 hC dX5_would_13 ?_
  refine k_X5_wantSlope  hCX tw_2_138 dX5_would_15 (by decide) ⟨by omega, by omega⟩ (Nat.le_of_ble_eq_true rfl)  (fun hq => ?_) (fun ex σ1 hq => hX _ _ _ _ _ _ _ (by obtain ⟨e1, e2, e3⟩ := hq; exact ⟨Or.inr ⟨e1, (by unfold mWould; rw [hT, if_pos ⟨hsS, hwS⟩, if_neg (fun h => e3 (tilt_iff.mp h).1)])⟩, by rw [e2]; exact hR⟩) (by omega) (by omega))
  have hsl := hq
  have hS := slp_of hsl
  refine g_ild5 hC dX5_would_18 ?_
  refine k_X5_wantDepth  hCX tw_2_160 dX5_would_20 (by decide) ⟨by omega, by omega⟩ (Nat.le_of_ble_eq_true rfl)  (fun hq => ?_) (fun ex σ1 hq => hX _ _ _ _ _ _ _ (by obtain ⟨e1, e2, e3⟩ := hq; exact ⟨Or.inr ⟨e1, (by unfold mWould; rw [hT, if_pos ⟨hsS, hwS⟩, if_neg (fun h => by rw [(tilt_iff.mp h).2] at e3; exact Bool.noConfusion e3)])⟩, by rw [e2]; exact hR⟩) (by omega) (by omega))
  have htl : sTilt p q r d = true := tilt_iff.mpr ⟨hsl, hq⟩
  have hD : Dp d := by
    obtain ⟨-, -, -, ⟨h1, h2⟩, -⟩ := sTilt_int htl
    unfold Dp
    omega
  refine g_ald0 hC dX5_would_23 ?_
  refine xg_GemCut_trial hC tw_2_13 dX5_would_24 ?_
  refine g_ald0 hC dX5_would_27 ?_
  refine xg_GemCut_stones hC tw_2_12 dX5_would_28 ?_
  refine g_ild1 hC dX5_would_31 ?_
  refine xl_stonesA sn hC rfl hs8 dX5_would_32 ?_
  refine g_ild2 hC dX5_would_33 ?_
  refine g_ild3 hC dX5_would_34 ?_
  refine g_ild4 hC dX5_would_35 ?_
  refine k_X4_aim (t := t) (s := sn) hC tw_3_77 dX5_would_37 (by decide) ⟨by omega, by omega⟩ (Nat.le_of_ble_eq_true rfl) ⟨hs8, hs, hR, hS⟩ ?_
  intro σ1 hq
  have hR1 := RS_f9 hR hq.1
  have hA := hq.2
  refine g_ild6 hC dX5_would_40 ?_
  rcases (show wn = 0 ∨ wn = 1 ∨ wn = 2 ∨ wn = 3 by omega) with rfl | rfl | rfl | rfl
  · refine g_tin (off := 26) 68 hC dX5_would_42 (by decide) (by decide) (by decide) (by decide) ?_
    refine g_ald0 hC dX5_would_68 ?_
    refine xg_GemCut_trial hC tw_2_13 dX5_would_69 ?_
    refine g_ild5 hC dX5_would_72 ?_
    refine k_X4_lossAt (t := t) (s := sn) (p := p) (q := q) (r := r) hC tw_2_183 dX5_would_74 (by decide) ⟨by omega, by omega⟩ (Nat.le_of_ble_eq_true rfl) ⟨hs, hR1, hS, hA.1⟩ ?_
    have hm : mWould t (nI sn) p q r d (nI 0) = (nI (sTurn t (nI sn) p q r d), gLook t sn p q r d) := by
      have hv : sLook t sn p q r d 0 = nI (sTurn t (nI sn) p q r d) := rfl
      unfold mWould; rw [hT, if_pos ⟨hsS, hwS⟩, if_pos htl, hsn, show tn (nI 0) = 0 by decide, hv]
    exact hE _ _ _ _ _ _ dX5_would_77 (by omega) (by omega) ⟨by rw [hm], by rw [hm]; exact (RS_Qf hR1 (Qf_e (Qe_look hR.2.2.1 hs8 p q r d))), by rw [hm]; exact (by show gLook t sn p q r d 0 0 = 0; simp [gLook, ht0])⟩
  · refine g_tin (off := 36) 78 hC dX5_would_42 (by decide) (by decide) (by decide) (by decide) ?_
    refine g_ald0 hC dX5_would_78 ?_
    refine xg_GemCut_trial hC tw_2_13 dX5_would_79 ?_
    refine g_ild5 hC dX5_would_82 ?_
    refine k_X4_worthAt (t := t) (s := sn) (p := p) (q := q) (r := r) hC tw_3_87 dX5_would_84 (by decide) ⟨by omega, by omega⟩ (Nat.le_of_ble_eq_true rfl) ⟨hs, hR1, hS, hA, hD⟩ ?_
    have hm : mWould t (nI sn) p q r d (nI 1) = (sWorth (gMark t sn p q r d) sn, gLook t sn p q r d) := by
      have hv : sLook t sn p q r d 1 = sWorth (gMark t sn p q r d) sn := rfl
      unfold mWould; rw [hT, if_pos ⟨hsS, hwS⟩, if_pos htl, hsn, show tn (nI 1) = 1 by decide, hv]
    exact hE _ _ _ _ _ _ dX5_would_87 (by omega) (by omega) ⟨by rw [hm], by rw [hm]; exact (RS_Qf hR1 (Qf_e (Qe_look hR.2.2.1 hs8 p q r d))), by rw [hm]; exact (by show gLook t sn p q r d 0 0 = 0; simp [gLook, ht0])⟩
  · refine g_tin (off := 46) 88 hC dX5_would_42 (by decide) (by decide) (by decide) (by decide) ?_
    refine g_ald0 hC dX5_would_88 ?_
    refine xg_GemCut_trial hC tw_2_13 dX5_would_89 ?_
    refine g_ild5 hC dX5_would_92 ?_
    refine k_X4_openFlawsAt (t := t) (s := sn) (p := p) (q := q) (r := r) hC tw_3_114 dX5_would_94 (by decide) ⟨by omega, by omega⟩ (Nat.le_of_ble_eq_true rfl) ⟨hs, hR1, hS, hA, hD⟩ ?_
    have hm : mWould t (nI sn) p q r d (nI 2) = (nI (sFin (gMark t sn p q r d) (nI sn) 1), gLook t sn p q r d) := by
      have hv : sLook t sn p q r d 2 = nI (sFin (gMark t sn p q r d) (nI sn) 1) := rfl
      unfold mWould; rw [hT, if_pos ⟨hsS, hwS⟩, if_pos htl, hsn, show tn (nI 2) = 2 by decide, hv]
    exact hE _ _ _ _ _ _ dX5_would_97 (by omega) (by omega) ⟨by rw [hm], by rw [hm]; exact (RS_Qf hR1 (Qf_e (Qe_look hR.2.2.1 hs8 p q r d))), by rw [hm]; exact (by show gLook t sn p q r d 0 0 = 0; simp [gLook, ht0])⟩
  · refine g_tout 98 hC dX5_would_42 (by decide) (by decide) ?_
    refine g_ald0 hC dX5_would_98 ?_
    refine xg_GemCut_trial hC tw_2_13 dX5_would_99 ?_
    refine g_ild5 hC dX5_would_102 ?_
    refine k_X4_pairsAt (t := t) (s := sn) (p := p) (q := q) (r := r) hC tw_3_118 dX5_would_104 (by decide) ⟨by omega, by omega⟩ (Nat.le_of_ble_eq_true rfl) ⟨hs, hR1, hS, hA, hD⟩ ?_
    have hm : mWould t (nI sn) p q r d (nI 3) = (nI (sPairs (gMark t sn p q r d) sn), gLook t sn p q r d) := by
      have hv : sLook t sn p q r d 3 = nI (sPairs (gMark t sn p q r d) sn) := rfl
      unfold mWould; rw [hT, if_pos ⟨hsS, hwS⟩, if_pos htl, hsn, show tn (nI 3) = 3 by decide, hv]
    exact hE _ _ _ _ _ _ dX5_would_107 (by omega) (by omega) ⟨by rw [hm], by rw [hm]; exact (RS_Qf hR1 (Qf_e (Qe_look hR.2.2.1 hs8 p q r d))), by rw [hm]; exact (by show gLook t sn p q r d 0 0 = 0; simp [gLook, ht0])⟩
set_option maxRecDepth 100000 in
set_option maxHeartbeats 4000000 in
theorem c_X5_depth (l : Launch) (hst : l.stackTraces = false) (t : Mem) (s p q r : Int32) : gXI wX l yX5_depth (.code yX5_depth cX5_depth 5 (some FieldType.int)) 7 3 18 (fun A => [.ref (A 0), .int s, .int p, .int q, .int r]) (fun τ => RS τ t ∧ t 0 0 = 0) (fun τ rr τ1 => xOk (mDepth t s p q r) rr τ1) (fun τ ex τ1 => xc3 (mDepth t s p q r) t ex ∧ RS τ1 t) := by
  refine gXI_of hst (by decide) (fun A => Nat.le_of_ble_eq_true rfl) ?_
  intro X τ hCX hP hE hX hThr
  have hCX : gOkX wX l X cX5_depth "GemCut" 7 3 18 := hCX
  have hC : gOk wX l X cX5_depth "GemCut" 7 3 18 := hCX.1
  show G wX X 0 0 0 [some (.ref (gA X 0)), some (.int s), some (.int p), some (.int q), some (.int r)] [] τ
  obtain ⟨hR, ht0⟩ := hP
  have hT := mTh_id ht0
  refine g_ald0 hC dX5_depth_0 ?_
  refine g_ild1 hC dX5_depth_1 ?_
  refine k_X5_wantStone  hCX tw_2_117 dX5_depth_2 (by decide) ⟨by omega, by omega⟩ (Nat.le_of_ble_eq_true rfl)  (fun hq => ?_) (fun ex σ1 hq => hX _ _ _ _ _ _ _ (by obtain ⟨e1, e2, e3⟩ := hq; exact ⟨Or.inl ⟨e1, (by unfold mDepth; rw [hT, if_neg (fun h => not_rng e3 ((pb_st hR).mp h))])⟩, by rw [e2]; exact hR⟩) (by omega) (by omega))
  have hsS := (pb_st hR).mpr hq
  obtain ⟨sn, hs, hs8, rfl⟩ := pb_st1 hR hq
  have hsn : tn (nI sn) = sn := nI_clamp (by omega)
  refine g_ild2 hC dX5_depth_5 ?_
  refine g_ild3 hC dX5_depth_6 ?_
  refine g_ild4 hC dX5_depth_7 ?_
  refine k_X5_wantSlope  hCX tw_2_138 dX5_depth_9 (by decide) ⟨by omega, by omega⟩ (Nat.le_of_ble_eq_true rfl)  (fun hq => ?_) (fun ex σ1 hq => hX _ _ _ _ _ _ _ (by obtain ⟨e1, e2, e3⟩ := hq; exact ⟨Or.inr (Or.inl ⟨e1, (by unfold mDepth; rw [hT, if_pos hsS, if_neg (fun h => e3 (tilt_iff.mp h).1)])⟩), by rw [e2]; exact hR⟩) (by omega) (by omega))
  have hsl := hq
  have hS := slp_of hsl
  have htl : sTilt p q r 0 = true := tilt_iff.mpr ⟨hsl, by decide⟩
  refine g_ald0 hC dX5_depth_12 ?_
  refine xg_GemCut_stones hC tw_2_12 dX5_depth_13 ?_
  refine g_ild1 hC dX5_depth_16 ?_
  refine xl_stonesA sn hC rfl hs8 dX5_depth_17 ?_
  refine xg_Stone_weight hC (by first | assumption | omega | exact xk_pl _ (by assumption) _ (by omega) | decide) tw_1_149 dX5_depth_18 ?_
  rw [(hR.2.2.2.2.1 sn hs).1]
  refine g_if_ne 34 hC dX5_depth_21 (by decide) (fun c21 => ?_) (fun c21 => ?_)
  · refine g_ald0 hC dX5_depth_34 ?_
    refine xg_GemCut_trial hC tw_2_13 dX5_depth_35 ?_
    refine g_ald0 hC dX5_depth_38 ?_
    refine xg_GemCut_stones hC tw_2_12 dX5_depth_39 ?_
    refine g_ild1 hC dX5_depth_42 ?_
    refine xl_stonesA sn hC rfl hs8 dX5_depth_43 ?_
    refine g_ild2 hC dX5_depth_44 ?_
    refine g_ild3 hC dX5_depth_45 ?_
    refine g_ild4 hC dX5_depth_46 ?_
    refine k_X4_aim (t := t) (s := sn) hC tw_3_77 dX5_depth_48 (by decide) ⟨by omega, by omega⟩ (Nat.le_of_ble_eq_true rfl) ⟨hs8, hs, hR, hS⟩ ?_
    intro σ1 hq
    have hR1 := RS_f9 hR hq.1
    have hA := hq.2
    refine g_ald0 hC dX5_depth_51 ?_
    refine xg_GemCut_trial hC tw_2_13 dX5_depth_52 ?_
    refine k_X4_bestDepth (t := t) (s := sn) (p := p) (q := q) (r := r) hC tw_3_124 dX5_depth_55 (by decide) ⟨by omega, by omega⟩ (Nat.le_of_ble_eq_true rfl) ⟨hs, hR1, hS, hA, c21⟩ ?_
    have hm : mDepth t (nI sn) p q r = (sDep t sn p q r, t) := by unfold mDepth; rw [hT, if_pos hsS, if_pos htl, if_neg c21, hsn]
    exact hE _ _ _ _ _ _ dX5_depth_58 (by omega) (by omega) ⟨by rw [hm], by rw [hm]; exact hR1, by rw [hm]; exact ht0⟩
  · exact th_ise hCX hThr (show ("GemCut", 182, "nothing is left of the stone") ∈ SRl by decide) dX5_depth_24 dX5_depth_27 dX5_depth_28 dX5_depth_30 dX5_depth_33 (by decide) (Nat.le_of_ble_eq_true rfl) ⟨by omega, by omega⟩ ⟨by omega, by omega⟩ ⟨Or.inr (Or.inr ⟨rfl, by unfold mDepth; rw [hT, if_pos hsS, if_pos htl, if_pos c21]⟩), hR⟩
theorem ft_m1 {t : Mem} {f : Nat} {s : Int32} : sFt t f s 2 = -1 ↔ nI (sFc t f s false) = 0 := by
  unfold sFt
  rw [if_neg (show ¬ (2 : Int32) < 2 by decide)]
  by_cases h : nI (sFc t f s false) = 0
  · rw [if_pos h]; exact ⟨fun _ => h, fun _ => rfl⟩
  · rw [if_neg h]
    refine ⟨fun h2 => ?_, fun h2 => absurd h2 h⟩
    by_cases h3 : 0 < nI (sFc t f s true)
    · rw [if_pos h3] at h2; exact absurd h2 (by decide)
    · rw [if_neg h3] at h2; exact absurd h2 (by decide)
set_option maxRecDepth 100000 in
set_option maxHeartbeats 4000000 in
theorem c_X5_rid (l : Launch) (hst : l.stackTraces = false) (t : Mem) (f s w : Int32) : gXI wX l yX5_rid (.code yX5_rid cX5_rid 5 (some FieldType.int)) 7 3 18 (fun A => [.ref (A 0), .int f, .int s, .int w]) (fun τ => RS τ t ∧ t 0 0 = 0) (fun τ rr τ1 => xOk (mRid t f s w) rr τ1) (fun τ ex τ1 => xc1 (mRid t f s w) t ex ∧ RS τ1 t) := by
  refine gXI_of hst (by decide) (fun A => Nat.le_of_ble_eq_true rfl) ?_
  intro X τ hCX hP hE hX hThr
  have hCX : gOkX wX l X cX5_rid "GemCut" 7 3 18 := hCX
  have hC : gOk wX l X cX5_rid "GemCut" 7 3 18 := hCX.1
  show G wX X 0 0 0 [some (.ref (gA X 0)), some (.int f), some (.int s), some (.int w), none] [] τ
  obtain ⟨hR, ht0⟩ := hP
  have hT := mTh_id ht0
  refine g_ald0 hC dX5_rid_0 ?_
  refine g_ild1 hC dX5_rid_1 ?_
  refine k_X5_wantFlaw  hCX tw_2_112 dX5_rid_2 (by decide) ⟨by omega, by omega⟩ (Nat.le_of_ble_eq_true rfl)  (fun hq => ?_) (fun ex σ1 hq => hX _ _ _ _ _ _ _ (by obtain ⟨e1, e2, e3⟩ := hq; exact ⟨⟨e1, (by unfold mRid; rw [hT, if_neg (fun h => not_rng e3 ((pb_fl hR).mp h.1))])⟩, by rw [e2]; exact hR⟩) (by omega) (by omega))
  have hfS := (pb_fl hR).mpr hq
  obtain ⟨fn, hf, hf10, rfl⟩ := pb_fl1 hR hq
  have hfn : tn (nI fn) = fn := nI_clamp (by omega)
  refine g_ald0 hC dX5_rid_5 ?_
  refine g_ild2 hC dX5_rid_6 ?_
  refine k_X5_wantStone  hCX tw_2_117 dX5_rid_7 (by decide) ⟨by omega, by omega⟩ (Nat.le_of_ble_eq_true rfl)  (fun hq => ?_) (fun ex σ1 hq => hX _ _ _ _ _ _ _ (by obtain ⟨e1, e2, e3⟩ := hq; exact ⟨⟨e1, (by unfold mRid; rw [hT, if_neg (fun h => not_rng e3 ((pb_st hR).mp h.2.1))])⟩, by rw [e2]; exact hR⟩) (by omega) (by omega))
  have hsS := (pb_st hR).mpr hq
  obtain ⟨sn, hs, hs8, rfl⟩ := pb_st1 hR hq
  have hsn : tn (nI sn) = sn := nI_clamp (by omega)
  refine g_ild3 hC dX5_rid_10 ?_
  refine g_iconst 3 hC dX5_rid_11 (by decide) ?_
  refine k_X5_wantWhat  hCX tw_2_122 dX5_rid_12 (by decide) ⟨by omega, by omega⟩ (Nat.le_of_ble_eq_true rfl)  (fun hq => ?_) (fun ex σ1 hq => hX _ _ _ _ _ _ _ (by obtain ⟨e1, e2, e3⟩ := hq; exact ⟨⟨e1, (by unfold mRid; rw [hT, if_neg (fun h => not_rng e3 ((wh_iff 3 (by decide) (by decide) (by decide)).mp h.2.2))])⟩, by rw [e2]; exact hR⟩) (by omega) (by omega))
  have hwS : sIn w 0 2 = true := (wh_iff 3 (by decide) (by decide) (by decide)).mpr hq
  obtain ⟨wn, hw, rfl⟩ := wh_1 3 (by decide) (by decide) hq
  have hwn : tn (nI wn) = wn := nI_clamp (by omega)
  refine g_ald0 hC dX5_rid_15 ?_
  refine xg_GemCut_rough hC tw_2_11 dX5_rid_16 ?_
  refine xg_Rough_flaws hC tw_1_78 dX5_rid_19 ?_
  refine g_ild1 hC dX5_rid_22 ?_
  refine xl_flawsA fn hC rfl hf10 dX5_rid_23 ?_
  refine g_ast4 hC dX5_rid_24 rfl ?_
  refine g_ald4 hC dX5_rid_26 ?_
  refine g_ild2 hC dX5_rid_28 ?_
  refine k_X0_stateIn (f := fn) (s := sn) hC tw_2_130 dX5_rid_29 (by decide) ⟨by omega, by omega⟩ (Nat.le_of_ble_eq_true rfl) hf10 hs8 ?_
  rw [rs_state hR hf hs]
  refine g_iconst (-1) hC dX5_rid_32 (by decide) ?_
  refine g_icmp_ne 49 hC dX5_rid_33 (by decide) (fun c33 => ?_) (fun c33 => ?_)
  · refine g_ald0 hC dX5_rid_49 ?_
    refine xg_GemCut_trial hC tw_2_13 dX5_rid_50 ?_
    refine g_ald0 hC dX5_rid_53 ?_
    refine xg_GemCut_stones hC tw_2_12 dX5_rid_54 ?_
    refine g_ild2 hC dX5_rid_57 ?_
    refine xl_stonesA sn hC rfl hs8 dX5_rid_58 ?_
    refine g_ald4 hC dX5_rid_59 ?_
    refine g_ild3 hC dX5_rid_61 ?_
    refine k_X4_leastLoss (t := t) (s := sn) (f := fn) (w := wn) hC tw_3_137 dX5_rid_62 (by decide) ⟨by omega, by omega⟩ (Nat.le_of_ble_eq_true rfl) ⟨hs, hR, hf, (fun h => c33 (ft_m1.mpr h)), hw⟩ ?_
    intro rr σ1 hq
    have hR1 := RS_f9 hR hq.2
    have hm : mRid t (nI fn) (nI sn) (nI wn) = (rr, t) := by unfold mRid; rw [hT, if_pos ⟨hfS, hsS, hwS⟩, hfn, hsn, if_neg (fun h => c33 (ft_m1.mpr h)), hq.1]; rcases (show wn = 0 ∨ wn = 1 ∨ wn = 2 by omega) with rfl | rfl | rfl <;> rfl
    exact hE _ _ _ _ _ _ dX5_rid_65 (by omega) (by omega) ⟨by rw [hm], by rw [hm]; exact hR1, by rw [hm]; exact ht0⟩
  · refine g_ild3 hC dX5_rid_36 ?_
    refine g_iconst 1 hC dX5_rid_37 (by decide) ?_
    refine g_icmp_ne 47 hC dX5_rid_38 (by decide) (fun c38 => ?_) (fun c38 => ?_)
    · refine g_iconst (-1) hC dX5_rid_47 (by decide) ?_
      first
      | (have hm : mRid t (nI fn) (nI sn) (nI wn) = (-1000, t) := by unfold mRid; rw [hT, if_pos ⟨hfS, hsS, hwS⟩, hfn, if_pos (ft_m1.mp c33), if_pos (show nI wn = 1 by assumption)]
         exact hE _ _ _ _ _ _ dX5_rid_48 (by omega) (by omega) ⟨by rw [hm], by rw [hm]; exact hR, by rw [hm]; exact ht0⟩)
      | (have hm : mRid t (nI fn) (nI sn) (nI wn) = (-1, t) := by unfold mRid; rw [hT, if_pos ⟨hfS, hsS, hwS⟩, hfn, if_pos (ft_m1.mp c33), if_neg (show ¬ nI wn = 1 by assumption)]
         exact hE _ _ _ _ _ _ dX5_rid_48 (by omega) (by omega) ⟨by rw [hm], by rw [hm]; exact hR, by rw [hm]; exact ht0⟩)
    · refine g_sipush (-1000) hC dX5_rid_41 (by decide) ?_
      refine g_goto 48 hC dX5_rid_44 (by decide) ?_
      first
      | (have hm : mRid t (nI fn) (nI sn) (nI wn) = (-1000, t) := by unfold mRid; rw [hT, if_pos ⟨hfS, hsS, hwS⟩, hfn, if_pos (ft_m1.mp c33), if_pos (show nI wn = 1 by assumption)]
         exact hE _ _ _ _ _ _ dX5_rid_48 (by omega) (by omega) ⟨by rw [hm], by rw [hm]; exact hR, by rw [hm]; exact ht0⟩)
      | (have hm : mRid t (nI fn) (nI sn) (nI wn) = (-1, t) := by unfold mRid; rw [hT, if_pos ⟨hfS, hsS, hwS⟩, hfn, if_pos (ft_m1.mp c33), if_neg (show ¬ nI wn = 1 by assumption)]
         exact hE _ _ _ _ _ _ dX5_rid_48 (by omega) (by omega) ⟨by rw [hm], by rw [hm]; exact hR, by rw [hm]; exact ht0⟩)
