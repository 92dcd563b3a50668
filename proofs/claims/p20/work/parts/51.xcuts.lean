set_option maxRecDepth 100000 in
set_option maxHeartbeats 4000000 in
theorem c_X5_saw (l : Launch) (hst : l.stackTraces = false) (t : Mem) (s p q r d : Int32) : gXI wX l yX5_saw (.code yX5_saw cX5_saw 8 (some FieldType.int)) 7 4 24 (fun A => [.ref (A 0), .int s, .int p, .int q, .int r, .int d]) (fun τ => RS τ t ∧ t 0 0 = 0) (fun τ rr τ1 => xOk (mSaw t s p q r d) rr τ1) (fun τ ex τ1 => xc3 (mSaw t s p q r d) t ex ∧ RS τ1 t) := by
  refine gXI_of hst (by decide) (fun A => Nat.le_of_ble_eq_true rfl) ?_
  intro X τ hCX hP hE hX hThr
  have hCX : gOkX wX l X cX5_saw "GemCut" 7 4 24 := hCX
  have hC : gOk wX l X cX5_saw "GemCut" 7 4 24 := hCX.1
  show G wX X 0 0 0 [some (.ref (gA X 0)), some (.int s), some (.int p), some (.int q), some (.int r), some (.int d), none, none] [] τ
  obtain ⟨hR, ht0⟩ := hP
  have hT := mTh_id ht0
  refine g_ald0 hC dX5_saw_0 ?_
  refine g_ild1 hC dX5_saw_1 ?_
  refine k_X5_wantStone  hCX tw_2_117 dX5_saw_2 (by decide) ⟨by omega, by omega⟩ (Nat.le_of_ble_eq_true rfl)  (fun hq => ?_) (fun ex σ1 hq => hX _ _ _ _ _ _ _ (by obtain ⟨e1, e2, e3⟩ := hq; exact ⟨Or.inl ⟨e1, (by unfold mSaw; rw [hT, if_neg (fun h => not_rng e3 ((pb_st hR).mp h))])⟩, by rw [e2]; exact hR⟩) (by omega) (by omega))
  have hsS := (pb_st hR).mpr hq
  obtain ⟨sn, hs, hs8, rfl⟩ := pb_st1 hR hq
  have hsn : tn (nI sn) = sn := nI_clamp (by omega)
  refine g_ild2 hC dX5_saw_5 ?_
  refine g_ild3 hC dX5_saw_6 ?_
  refine g_ild4 hC dX5_saw_7 ?_
  refine k_X5_wantSlope  hCX tw_2_138 dX5_saw_9 (by decide) ⟨by omega, by omega⟩ (Nat.le_of_ble_eq_true rfl)  (fun hq => ?_) (fun ex σ1 hq => hX _ _ _ _ _ _ _ (by obtain ⟨e1, e2, e3⟩ := hq; exact ⟨Or.inr (Or.inl ⟨e1, (by unfold mSaw; rw [hT, if_pos hsS, if_neg (fun h => e3 (tilt_iff.mp h).1)])⟩), by rw [e2]; exact hR⟩) (by omega) (by omega))
  have hsl := hq
  have hS := slp_of hsl
  refine g_ild5 hC dX5_saw_12 ?_
  refine k_X5_wantDepth  hCX tw_2_160 dX5_saw_14 (by decide) ⟨by omega, by omega⟩ (Nat.le_of_ble_eq_true rfl)  (fun hq => ?_) (fun ex σ1 hq => hX _ _ _ _ _ _ _ (by obtain ⟨e1, e2, e3⟩ := hq; exact ⟨Or.inr (Or.inl ⟨e1, (by unfold mSaw; rw [hT, if_pos hsS, if_neg (fun h => by rw [(tilt_iff.mp h).2] at e3; exact Bool.noConfusion e3)])⟩), by rw [e2]; exact hR⟩) (by omega) (by omega))
  have htl : sTilt p q r d = true := tilt_iff.mpr ⟨hsl, hq⟩
  refine g_ald0 hC dX5_saw_17 ?_
  refine xg_GemCut_trial hC tw_2_13 dX5_saw_18 ?_
  refine g_ald0 hC dX5_saw_21 ?_
  refine xg_GemCut_stones hC tw_2_12 dX5_saw_22 ?_
  refine g_ild1 hC dX5_saw_25 ?_
  refine xl_stonesA sn hC rfl hs8 dX5_saw_26 ?_
  refine g_ild2 hC dX5_saw_27 ?_
  refine g_ild3 hC dX5_saw_28 ?_
  refine g_ild4 hC dX5_saw_29 ?_
  refine k_X4_level (t := t) (s := sn) hC tw_2_164 dX5_saw_31 (by decide) ⟨by omega, by omega⟩ (Nat.le_of_ble_eq_true rfl) ⟨hs8, hs, hR, hS⟩ ?_
  intro σ1 hv
  have hR1 := RS_f9 hR hv.1
  have hRb1 := hR1.2.2.2.1
  refine g_ald0 hC dX5_saw_34 ?_
  refine xg_GemCut_trial hC tw_2_13 dX5_saw_35 ?_
  refine g_ild5 hC dX5_saw_38 ?_
  refine k_X4_lossAt (t := t) (s := sn) (p := p) (q := q) (r := r) hC tw_2_183 dX5_saw_40 (by decide) ⟨by omega, by omega⟩ (Nat.le_of_ble_eq_true rfl) ⟨hs, hR1, hS, hv.2⟩ ?_
  refine g_ist6 hC dX5_saw_43 rfl ?_
  refine g_ald0 hC dX5_saw_45 ?_
  refine xg_GemCut_stoneCount hC tw_2_14 dX5_saw_46 ?_
  rw [pb_S hR1]
  refine g_bipush 8 hC dX5_saw_49 (by decide) ?_
  refine g_icmp_ge 73 hC dX5_saw_51 (by decide) (fun c51 => ?_) (fun c51 => ?_)
  · exact th_ise hCX hThr (show ("GemCut", 108, "there are 8 stones, or one of the two would be empty") ∈ SRl by decide) dX5_saw_73 dX5_saw_76 dX5_saw_77 dX5_saw_79 dX5_saw_82 (by decide) (Nat.le_of_ble_eq_true rfl) ⟨by omega, by omega⟩ ⟨by omega, by omega⟩ ⟨Or.inr (Or.inr ⟨rfl, by unfold mSaw; rw [hT, if_pos hsS, if_pos htl, if_pos (by first | exact Or.inl ((pb_8 hR.1).1 c51) | exact Or.inr (Or.inl c56) | exact Or.inr (Or.inr c70))]⟩), hR1⟩
  · refine g_ild6 hC dX5_saw_54 ?_
    refine g_if_eq 73 hC dX5_saw_56 (by decide) (fun c56 => ?_) (fun c56 => ?_)
    · exact th_ise hCX hThr (show ("GemCut", 108, "there are 8 stones, or one of the two would be empty") ∈ SRl by decide) dX5_saw_73 dX5_saw_76 dX5_saw_77 dX5_saw_79 dX5_saw_82 (by decide) (Nat.le_of_ble_eq_true rfl) ⟨by omega, by omega⟩ ⟨by omega, by omega⟩ ⟨Or.inr (Or.inr ⟨rfl, by unfold mSaw; rw [hT, if_pos hsS, if_pos htl, if_pos (by first | exact Or.inl ((pb_8 hR.1).1 c51) | exact Or.inr (Or.inl c56) | exact Or.inr (Or.inr c70))]⟩), hR1⟩
    · refine g_ild6 hC dX5_saw_59 ?_
      refine g_ald0 hC dX5_saw_61 ?_
      refine xg_GemCut_stones hC tw_2_12 dX5_saw_62 ?_
      refine g_ild1 hC dX5_saw_65 ?_
      refine xl_stonesA sn hC rfl hs8 dX5_saw_66 ?_
      refine xg_Stone_weight hC (by first | assumption | omega | exact xk_pl _ (by assumption) _ (by omega) | decide) tw_1_149 dX5_saw_67 ?_
      rw [(hR1.2.2.2.2.1 sn hs).1]
      refine g_icmp_ne 83 hC dX5_saw_70 (by decide) (fun c70 => ?_) (fun c70 => ?_)
      · have hm8 := (pb_8 hR.1).2 c51
        refine g_ald0 hC dX5_saw_83 ?_
        refine xg_GemCut_stoneCount hC tw_2_14 dX5_saw_84 ?_
        rw [pb_S hR1]
        refine g_ist7 hC dX5_saw_87 rfl ?_
        refine g_ald0 hC dX5_saw_89 ?_
        refine xg_GemCut_stones hC tw_2_12 dX5_saw_90 ?_
        refine g_ild7 hC dX5_saw_93 ?_
        refine xl_stonesA (nS t) hC rfl hm8.1 dX5_saw_95 ?_
        refine k_X3_dropPlanes (s := nS t) hC tw_1_203 dX5_saw_96 (by decide) ⟨by omega, by omega⟩ (Nat.le_of_ble_eq_true rfl) hm8.1 ?_
        refine g_ald0 hC dX5_saw_99 ?_
        refine g_dup hC dX5_saw_100 rfl ?_
        refine xg_GemCut_stoneCount hC tw_2_14 dX5_saw_101 ?_
        rw [show upd2 σ1 (iStone (nS t)) 2 0 0 3 = nI (nS t) from by rw [upd2_ni (show (0 : Nat) ≠ iStone (nS t) by unfold iStone; omega)]; exact pb_S hR1]
        refine g_iconst 1 hC dX5_saw_104 (by decide) ?_
        refine g_iadd hC dX5_saw_105 ?_
        rw [nI_1]
        refine xp_GemCut_stoneCount hC tw_2_14 dX5_saw_106 ?_
        refine g_ald0 hC dX5_saw_109 ?_
        refine xg_GemCut_trial hC tw_2_13 dX5_saw_110 ?_
        refine g_ild5 hC dX5_saw_113 ?_
        refine g_ild7 hC dX5_saw_115 ?_
        have g1 : (upd2 (upd2 σ1 (iStone (nS t)) 2 0) 0 3 (nI (nS t + 1))) 190 1 = nI sn := by rw [upd2_ni (by decide), upd2_ni (show (190 : Nat) ≠ iStone (nS t) by unfold iStone; omega)]; exact hv.2.1.1
        have g2 : (upd2 (upd2 σ1 (iStone (nS t)) 2 0) 0 3 (nI (nS t + 1))) (iStone sn) 0 = nI sn := by rw [upd2_ni (show iStone sn ≠ 0 by unfold iStone; omega), upd2_nj (by decide)]; exact hRb1.2.2.1 sn hs8
        have g3 : xSize (upd2 (upd2 σ1 (iStone (nS t)) 2 0) 0 3 (nI (nS t + 1))) = nI (NN t) := by
          show (upd2 (upd2 σ1 (iStone (nS t)) 2 0) 0 3 (nI (nS t + 1))) 1 0 * (upd2 (upd2 σ1 (iStone (nS t)) 2 0) 0 3 (nI (nS t + 1))) 1 1 * (upd2 (upd2 σ1 (iStone (nS t)) 2 0) 0 3 (nI (nS t + 1))) 1 2 = _
          rw [upd2_ni (by decide), upd2_ni (show (1 : Nat) ≠ iStone (nS t) by unfold iStone; omega)]
          exact (sv_size hR1).1
        refine k_X4_giveAbove (s := sn) (n := NN t) hC tw_2_210 dX5_saw_117 (by decide) ⟨by omega, by omega⟩ (Nat.le_of_ble_eq_true rfl) ⟨hs8, g1, g2, g3, (sv_size hR1).2⟩ ?_
        refine g_ald0 hC dX5_saw_120 ?_
        have hB := sw_Rb (p := p) (q := q) (r := r) (d := d) hR.1 hR.2.2.1 hRb1 hs hm8.1 hv.2.2.1
        obtain ⟨hM', hW', h6'⟩ := sw_RM (p := p) (q := q) (r := r) (d := d) ⟨hR.1, hR.2.1, hR.2.2.1⟩ hs hm8.1
        refine k_X5_survey (t := gSaw t sn p q r d) hC tw_1_207 dX5_saw_121 (by decide) ⟨by omega, by omega⟩ (Nat.le_of_ble_eq_true rfl) ⟨hM', hW', h6', hB⟩ ?_
        intro σ2 hq
        refine g_ild7 hC dX5_saw_124 ?_
        have hm : mSaw t (nI sn) p q r d = (nI (nS t), gSaw t sn p q r d) := by unfold mSaw gSaw; rw [hT, if_pos hsS, if_pos htl, if_neg (fun h => by rcases h with h | h | h; exact hm8.2 h; exact c56 h; exact c70 h), (MI_S hR.1).1, nI_1]
        exact hE _ _ _ _ _ _ dX5_saw_126 (by omega) (by omega) ⟨by rw [hm], by rw [hm]; exact ⟨hM', hW', h6', Rb_fr hM' h6' hB hq.1, hq.2⟩, by rw [hm]; exact (by show gSaw t sn p q r d 0 0 = 0; rw [sw_0 (by decide)]; exact ht0)⟩
      · exact th_ise hCX hThr (show ("GemCut", 108, "there are 8 stones, or one of the two would be empty") ∈ SRl by decide) dX5_saw_73 dX5_saw_76 dX5_saw_77 dX5_saw_79 dX5_saw_82 (by decide) (Nat.le_of_ble_eq_true rfl) ⟨by omega, by omega⟩ ⟨by omega, by omega⟩ ⟨Or.inr (Or.inr ⟨rfl, by unfold mSaw; rw [hT, if_pos hsS, if_pos htl, if_pos (by first | exact Or.inl ((pb_8 hR.1).1 c51) | exact Or.inr (Or.inl c56) | exact Or.inr (Or.inr c70))]⟩), hR1⟩
set_option maxRecDepth 100000 in
set_option maxHeartbeats 4000000 in
theorem c_X5_cut (l : Launch) (hst : l.stackTraces = false) (t : Mem) (s p q r d : Int32) : gXI wX l yX5_cut (.code yX5_cut cX5_cut 9 (some FieldType.int)) 7 4 24 (fun A => [.ref (A 0), .int s, .int p, .int q, .int r, .int d]) (fun τ => RS τ t ∧ t 0 0 = 0) (fun τ rr τ1 => xOk (mCut t s p q r d) rr τ1) (fun τ ex τ1 => xc3 (mCut t s p q r d) t ex ∧ RS τ1 t) := by
  refine gXI_of hst (by decide) (fun A => Nat.le_of_ble_eq_true rfl) ?_
  intro X τ hCX hP hE hX hThr
  have hCX : gOkX wX l X cX5_cut "GemCut" 7 4 24 := hCX
  have hC : gOk wX l X cX5_cut "GemCut" 7 4 24 := hCX.1
  show G wX X 0 0 0 [some (.ref (gA X 0)), some (.int s), some (.int p), some (.int q), some (.int r), some (.int d), none, none, none] [] τ
  obtain ⟨hR, ht0⟩ := hP
  have hT := mTh_id ht0
  refine g_ald0 hC dX5_cut_0 ?_
  refine g_ild1 hC dX5_cut_1 ?_
  refine k_X5_wantStone  hCX tw_2_117 dX5_cut_2 (by decide) ⟨by omega, by omega⟩ (Nat.le_of_ble_eq_true rfl)  (fun hq => ?_) (fun ex σ1 hq => hX _ _ _ _ _ _ _ (by obtain ⟨e1, e2, e3⟩ := hq; exact ⟨Or.inl ⟨e1, (by unfold mCut; rw [hT, if_neg (fun h => not_rng e3 ((pb_st hR).mp h))])⟩, by rw [e2]; exact hR⟩) (by omega) (by omega))
  have hsS := (pb_st hR).mpr hq
  obtain ⟨sn, hs, hs8, rfl⟩ := pb_st1 hR hq
  have hsn : tn (nI sn) = sn := nI_clamp (by omega)
  refine g_ild2 hC dX5_cut_5 ?_
  refine g_ild3 hC dX5_cut_6 ?_
  refine g_ild4 hC dX5_cut_7 ?_
  refine k_X5_wantSlope  hCX tw_2_138 dX5_cut_9 (by decide) ⟨by omega, by omega⟩ (Nat.le_of_ble_eq_true rfl)  (fun hq => ?_) (fun ex σ1 hq => hX _ _ _ _ _ _ _ (by obtain ⟨e1, e2, e3⟩ := hq; exact ⟨Or.inr (Or.inl ⟨e1, (by unfold mCut; rw [hT, if_pos hsS, if_neg (fun h => e3 (tilt_iff.mp h).1)])⟩), by rw [e2]; exact hR⟩) (by omega) (by omega))
  have hsl := hq
  have hS := slp_of hsl
  refine g_ild5 hC dX5_cut_12 ?_
  refine k_X5_wantDepth  hCX tw_2_160 dX5_cut_14 (by decide) ⟨by omega, by omega⟩ (Nat.le_of_ble_eq_true rfl)  (fun hq => ?_) (fun ex σ1 hq => hX _ _ _ _ _ _ _ (by obtain ⟨e1, e2, e3⟩ := hq; exact ⟨Or.inr (Or.inl ⟨e1, (by unfold mCut; rw [hT, if_pos hsS, if_neg (fun h => by rw [(tilt_iff.mp h).2] at e3; exact Bool.noConfusion e3)])⟩), by rw [e2]; exact hR⟩) (by omega) (by omega))
  have htl : sTilt p q r d = true := tilt_iff.mpr ⟨hsl, hq⟩
  refine g_ald0 hC dX5_cut_17 ?_
  refine xg_GemCut_stones hC tw_2_12 dX5_cut_18 ?_
  refine g_ild1 hC dX5_cut_21 ?_
  refine xl_stonesA sn hC rfl hs8 dX5_cut_22 ?_
  refine g_ast6 hC dX5_cut_23 rfl ?_
  refine g_ald0 hC dX5_cut_25 ?_
  refine xg_GemCut_trial hC tw_2_13 dX5_cut_26 ?_
  refine g_ald6 hC dX5_cut_29 ?_
  refine g_ild2 hC dX5_cut_31 ?_
  refine g_ild3 hC dX5_cut_32 ?_
  refine g_ild4 hC dX5_cut_33 ?_
  refine k_X4_level (t := t) (s := sn) hC tw_2_164 dX5_cut_35 (by decide) ⟨by omega, by omega⟩ (Nat.le_of_ble_eq_true rfl) ⟨hs8, hs, hR, hS⟩ ?_
  intro σ1 hv
  have hR1 := RS_f9 hR hv.1
  have hRb1 := hR1.2.2.2.1
  refine g_ald0 hC dX5_cut_38 ?_
  refine xg_GemCut_trial hC tw_2_13 dX5_cut_39 ?_
  refine g_ild5 hC dX5_cut_42 ?_
  refine k_X4_lossAt (t := t) (s := sn) (p := p) (q := q) (r := r) hC tw_2_183 dX5_cut_44 (by decide) ⟨by omega, by omega⟩ (Nat.le_of_ble_eq_true rfl) ⟨hs, hR1, hS, hv.2⟩ ?_
  refine g_ist7 hC dX5_cut_47 rfl ?_
  refine g_iconst 3 hC dX5_cut_49 (by decide) ?_
  refine g_ild7 hC dX5_cut_50 ?_
  refine g_imul hC dX5_cut_52 ?_
  refine g_ist8 hC dX5_cut_53 rfl ?_
  refine g_ald6 hC dX5_cut_55 ?_
  refine xg_Stone_planeCount hC (by first | assumption | omega | exact xk_pl _ (by assumption) _ (by omega) | decide) tw_1_147 dX5_cut_57 ?_
  rw [pb_P hR1 hs]
  refine g_bipush 16 hC dX5_cut_60 (by decide) ?_
  refine g_icmp_ge 74 hC dX5_cut_62 (by decide) (fun c62 => ?_) (fun c62 => ?_)
  · exact th_ise hCX hThr (show ("GemCut", 125, "it keeps 16 planes, or the wheel has not enough turns") ∈ SRl by decide) dX5_cut_74 dX5_cut_77 dX5_cut_78 dX5_cut_80 dX5_cut_83 (by decide) (Nat.le_of_ble_eq_true rfl) ⟨by omega, by omega⟩ ⟨by omega, by omega⟩ ⟨Or.inr (Or.inr ⟨rfl, by unfold mCut; rw [hT, if_pos hsS, if_pos htl, hsn, if_pos (by first | exact Or.inl ((pb_16 hR.1 hR.2.2.1 hs8).1 c62) | exact Or.inr (by rw [← hRb1.1.2.2.2.2.2.1]; exact Int32.not_le.mp c71))]⟩), hR1⟩
  · refine g_ild8 hC dX5_cut_65 ?_
    refine g_ald0 hC dX5_cut_67 ?_
    refine xg_GemCut_turns hC tw_2_15 dX5_cut_68 ?_
    refine g_icmp_le 84 hC dX5_cut_71 (by decide) (fun c71 => ?_) (fun c71 => ?_)
    · have h16 := (pb_16 hR.1 hR.2.2.1 hs8).2 c62
      refine g_ald6 hC dX5_cut_84 ?_
      refine g_ild2 hC dX5_cut_86 ?_
      refine g_ild3 hC dX5_cut_87 ?_
      refine g_ild4 hC dX5_cut_88 ?_
      refine g_ild5 hC dX5_cut_90 ?_
      refine k_X3_keep (s := sn) (n := nP t sn) hC tw_2_220 dX5_cut_92 (by decide) ⟨by omega, by omega⟩ (Nat.le_of_ble_eq_true rfl) hs8 ⟨h16.1, pb_P hR1 hs⟩ ?_
      refine g_ald0 hC dX5_cut_95 ?_
      refine xg_GemCut_trial hC tw_2_13 dX5_cut_96 ?_
      refine g_ild5 hC dX5_cut_99 ?_
      refine g_iconst (-1) hC dX5_cut_101 (by decide) ?_
      have kf : ∀ id j, id ≠ iPl sn (nP t sn) → ¬ (id = iStone sn ∧ j = 2) → (hKeep σ1 sn (nP t sn) p q r d) id j = σ1 id j := fun id j h1 h2 => by
        unfold hKeep
        by_cases h3 : id = iStone sn
        · have h4 : j ≠ 2 := fun h => h2 ⟨h3, h⟩
          rw [upd2_nj h4]; simp [hSet, h1]
        · rw [upd2_ni h3]; simp [hSet, h1]
      have g1 : (hKeep σ1 sn (nP t sn) p q r d) 190 1 = nI sn := by rw [kf 190 1 (by unfold iPl; omega) (by unfold iStone; omega)]; exact hv.2.1.1
      have g2 : (hKeep σ1 sn (nP t sn) p q r d) (iStone sn) 0 = nI sn := by rw [kf _ 0 (by unfold iPl iStone; omega) (by omega)]; exact hRb1.2.2.1 sn hs8
      have g3 : xSize (hKeep σ1 sn (nP t sn) p q r d) = nI (NN t) := by
        show (hKeep σ1 sn (nP t sn) p q r d) 1 0 * (hKeep σ1 sn (nP t sn) p q r d) 1 1 * (hKeep σ1 sn (nP t sn) p q r d) 1 2 = _
        rw [kf 1 0 (by unfold iPl; omega) (by unfold iStone; omega), kf 1 1 (by unfold iPl; omega) (by unfold iStone; omega), kf 1 2 (by unfold iPl; omega) (by unfold iStone; omega)]
        exact (sv_size hR1).1
      refine k_X4_giveAbove (s := sn) (n := NN t) hC tw_2_210 dX5_cut_102 (by decide) ⟨by omega, by omega⟩ (Nat.le_of_ble_eq_true rfl) ⟨hs8, g1, g2, g3, (sv_size hR1).2⟩ ?_
      refine g_ald0 hC dX5_cut_105 ?_
      refine g_ild8 hC dX5_cut_106 ?_
      refine k_X5_spend hC tw_2_225 dX5_cut_108 (by decide) ⟨by omega, by omega⟩ (Nat.le_of_ble_eq_true rfl) ?_
      refine g_ald0 hC dX5_cut_111 ?_
      have hB := ct_Rb (p := p) (q := q) (r := r) (d := d) (v := 3 * (nI (sTurn t (nI sn) p q r d))) hR.1 hR.2.2.1 hRb1 hs h16.1 hv.2.2.1 0
      obtain ⟨hM', hW', h6'⟩ := ct_RM (v := 3 * (nI (sTurn t (nI sn) p q r d))) ⟨hR.1, hR.2.1, hR.2.2.1⟩ hs h16.1 htl
      refine k_X5_survey (t := gCut t sn p q r d (3 * (nI (sTurn t (nI sn) p q r d)))) hC tw_1_207 dX5_cut_112 (by decide) ⟨by omega, by omega⟩ (Nat.le_of_ble_eq_true rfl) ⟨hM', hW', h6', hB⟩ ?_
      intro σ2 hq
      refine g_ild7 hC dX5_cut_115 ?_
      have hm : mCut t (nI sn) p q r d = ((nI (sTurn t (nI sn) p q r d)), gCut t sn p q r d (3 * (nI (sTurn t (nI sn) p q r d)))) := by unfold mCut gCut; rw [hT, if_pos hsS, if_pos htl, hsn, if_neg (fun h => by rcases h with h | h; exact h16.2 h; exact absurd c71 (Int32.not_le.mpr (by rw [hRb1.1.2.2.2.2.2.1]; exact h)))]
      exact hE _ _ _ _ _ _ dX5_cut_117 (by omega) (by omega) ⟨by rw [hm], by rw [hm]; exact ⟨hM', hW', h6', Rb_fr hM' h6' hB hq.1, hq.2⟩, by rw [hm]; exact ((ct_0 (s := sn) (p := p) (q := q) (r := r) (d := d) (v := 3 * (nI (sTurn t (nI sn) p q r d))) (by decide)).trans ht0)⟩
    · exact th_ise hCX hThr (show ("GemCut", 125, "it keeps 16 planes, or the wheel has not enough turns") ∈ SRl by decide) dX5_cut_74 dX5_cut_77 dX5_cut_78 dX5_cut_80 dX5_cut_83 (by decide) (Nat.le_of_ble_eq_true rfl) ⟨by omega, by omega⟩ ⟨by omega, by omega⟩ ⟨Or.inr (Or.inr ⟨rfl, by unfold mCut; rw [hT, if_pos hsS, if_pos htl, hsn, if_pos (by first | exact Or.inl ((pb_16 hR.1 hR.2.2.1 hs8).1 c62) | exact Or.inr (by rw [← hRb1.1.2.2.2.2.2.1]; exact Int32.not_le.mp c71))]⟩), hR1⟩
set_option maxRecDepth 100000 in
set_option maxHeartbeats 4000000 in
theorem c_X5_polish (l : Launch) (hst : l.stackTraces = false) (t : Mem) (s k : Int32) : gXI wX l yX5_polish (.code yX5_polish cX5_polish 5 (some FieldType.int)) 7 3 18 (fun A => [.ref (A 0), .int s, .int k]) (fun τ => RS τ t ∧ t 0 0 = 0) (fun τ rr τ1 => xOk (mPolish t s k) rr τ1) (fun τ ex τ1 => xcP (mPolish t s k) t ex ∧ RS τ1 t) := by
  refine gXI_of hst (by decide) (fun A => Nat.le_of_ble_eq_true rfl) ?_
  intro X τ hCX hP hE hX hThr
  have hCX : gOkX wX l X cX5_polish "GemCut" 7 3 18 := hCX
  have hC : gOk wX l X cX5_polish "GemCut" 7 3 18 := hCX.1
  show G wX X 0 0 0 [some (.ref (gA X 0)), some (.int s), some (.int k), none, none] [] τ
  obtain ⟨hR, ht0⟩ := hP
  have hT := mTh_id ht0
  refine g_ald0 hC dX5_polish_0 ?_
  refine g_ild1 hC dX5_polish_1 ?_
  refine k_X5_wantStone  hCX tw_2_117 dX5_polish_2 (by decide) ⟨by omega, by omega⟩ (Nat.le_of_ble_eq_true rfl)  (fun hq => ?_) (fun ex σ1 hq => hX _ _ _ _ _ _ _ (by obtain ⟨e1, e2, e3⟩ := hq; exact ⟨Or.inl ⟨e1, (by unfold mPolish; rw [hT, if_neg (fun h => absurd h (pb_pls (fun h => not_rng e3 ((pb_st hR).mp h))))])⟩, by rw [e2]; exact hR⟩) (by omega) (by omega))
  have hsS := (pb_st hR).mpr hq
  obtain ⟨sn, hs, hs8, rfl⟩ := pb_st1 hR hq
  have hsn : tn (nI sn) = sn := nI_clamp (by omega)
  refine g_ald0 hC dX5_polish_5 ?_
  refine g_ild1 hC dX5_polish_6 ?_
  refine g_ild2 hC dX5_polish_7 ?_
  refine k_X5_wantPlane (s := sn) hCX tw_2_233 dX5_polish_8 (by decide) ⟨by omega, by omega⟩ (Nat.le_of_ble_eq_true rfl) hs8 (fun hq => ?_) (fun ex σ1 hq => hX _ _ _ _ _ _ _ (by obtain ⟨e1, e2, e3⟩ := hq; exact ⟨Or.inl ⟨e1, (by unfold mPolish; rw [hT, if_neg (fun h => not_rng e3 ((pb_pl hR hs).mp h))])⟩, by rw [e2]; exact hR⟩) (by omega) (by omega))
  have hkS := (pb_pl hR hs).mpr hq
  obtain ⟨kn, hk, hk16, rfl⟩ := pb_pl1 hR hs hq
  have hkn : tn (nI kn) = kn := nI_clamp (by omega)
  refine g_ald0 hC dX5_polish_11 ?_
  refine xg_GemCut_stones hC tw_2_12 dX5_polish_12 ?_
  refine g_ild1 hC dX5_polish_15 ?_
  refine xl_stonesA sn hC rfl hs8 dX5_polish_16 ?_
  refine xg_Stone_planes hC (by first | assumption | omega | exact xk_pl _ (by assumption) _ (by omega) | decide) tw_1_144 dX5_polish_17 ?_
  refine g_ild2 hC dX5_polish_20 ?_
  refine xl_Pls kn hC hs8 rfl (by omega) dX5_polish_21 ?_
  refine g_ast3 hC dX5_polish_22 rfl ?_
  refine g_ald3 hC dX5_polish_23 ?_
  refine xg_Plane_touching hC (by first | assumption | omega | exact xk_pl _ (by assumption) _ (by omega) | decide) tw_1_123 dX5_polish_24 ?_
  rw [hR.2.2.2.2.2.1 sn kn hs hk]
  refine g_iconst 5 hC dX5_polish_27 (by decide) ?_
  refine g_iadd hC dX5_polish_28 ?_
  refine g_ist4 hC dX5_polish_29 rfl ?_
  refine g_ald3 hC dX5_polish_31 ?_
  refine k_X1_isFacet (i := iPl sn kn) hC tw_2_238 dX5_polish_32 (by decide) ⟨by omega, by omega⟩ (Nat.le_of_ble_eq_true rfl) (xk_pl _ hs8 _ (by omega)) ?_
  rw [rs_fct hR hs hk]
  refine g_if_eq 54 hC dX5_polish_35 (by decide) (fun c35 => ?_) (fun c35 => ?_)
  · exact th_ise hCX hThr (show ("GemCut", 154, "it is no facet now, or polished, or the wheel has not enough turns") ∈ SRl by decide) dX5_polish_54 dX5_polish_57 dX5_polish_58 dX5_polish_60 dX5_polish_63 (by decide) (Nat.le_of_ble_eq_true rfl) ⟨by omega, by omega⟩ ⟨by omega, by omega⟩ ⟨Or.inr ⟨rfl, by
        unfold mPolish
        rw [hT, if_pos hkS, hsn, hkn, if_pos (by first | exact Or.inl (fct_pos.mp (b2i_eq0.mp c35)) | exact Or.inr (Or.inl (((hR.2.1.2.2 sn kn hs hk).2).resolve_left c42)) | exact Or.inr (Or.inr (by rw [← hR.2.2.2.1.1.2.2.2.2.2.1]; exact Int32.not_le.mp c51)))]⟩, hR⟩
  · refine g_ald3 hC dX5_polish_38 ?_
    refine xg_Plane_polished hC (by first | assumption | omega | exact xk_pl _ (by assumption) _ (by omega) | decide) tw_1_119 dX5_polish_39 ?_
    rw [(hR.2.2.2.1.2.2.2.2.1 sn kn hs hk).2.2]
    refine g_if_ne 54 hC dX5_polish_42 (by decide) (fun c42 => ?_) (fun c42 => ?_)
    · exact th_ise hCX hThr (show ("GemCut", 154, "it is no facet now, or polished, or the wheel has not enough turns") ∈ SRl by decide) dX5_polish_54 dX5_polish_57 dX5_polish_58 dX5_polish_60 dX5_polish_63 (by decide) (Nat.le_of_ble_eq_true rfl) ⟨by omega, by omega⟩ ⟨by omega, by omega⟩ ⟨Or.inr ⟨rfl, by
          unfold mPolish
          rw [hT, if_pos hkS, hsn, hkn, if_pos (by first | exact Or.inl (fct_pos.mp (b2i_eq0.mp c35)) | exact Or.inr (Or.inl (((hR.2.1.2.2 sn kn hs hk).2).resolve_left c42)) | exact Or.inr (Or.inr (by rw [← hR.2.2.2.1.1.2.2.2.2.2.1]; exact Int32.not_le.mp c51)))]⟩, hR⟩
    · refine g_ild4 hC dX5_polish_45 ?_
      refine g_ald0 hC dX5_polish_47 ?_
      refine xg_GemCut_turns hC tw_2_15 dX5_polish_48 ?_
      refine g_icmp_le 64 hC dX5_polish_51 (by decide) (fun c51 => ?_) (fun c51 => ?_)
      · refine g_ald3 hC dX5_polish_64 ?_
        refine g_iconst 1 hC dX5_polish_65 (by decide) ?_
        refine xp_Plane_polished hC (xk_pl _ hs8 _ (by omega)) (by first | exact Or.inl rfl | exact Or.inr rfl | assumption) tw_1_119 dX5_polish_66 ?_
        refine g_ald0 hC dX5_polish_69 ?_
        refine g_ild4 hC dX5_polish_70 ?_
        refine k_X5_spend hC tw_2_225 dX5_polish_72 (by decide) ⟨by omega, by omega⟩ (Nat.le_of_ble_eq_true rfl) ?_
        refine g_ild4 hC dX5_polish_75 ?_
        have hm : mPolish t (nI sn) (nI kn) = ((nI (sTouch t sn kn) + 5), gPol t sn kn (nI (sTouch t sn kn) + 5)) := by unfold mPolish gPol; rw [hT, if_pos hkS, hsn, hkn, if_neg (fun h => by rcases h with h | h | h; exact c35 (b2i_eq0.mpr (fct_pos.mpr h)); exact absurd (c42.symm.trans h) (by decide); exact absurd c51 (Int32.not_le.mpr (by rw [hR.2.2.2.1.1.2.2.2.2.2.1]; exact h)))]
        exact hE _ _ _ _ _ _ dX5_polish_77 (by omega) (by omega) ⟨by rw [hm], by rw [hm]; exact (po_RS hR hs hk), by rw [hm]; exact ((po_0 (s := sn) (k := kn) (v := (nI (sTouch t sn kn) + 5)) (by decide)).trans ht0)⟩
      · exact th_ise hCX hThr (show ("GemCut", 154, "it is no facet now, or polished, or the wheel has not enough turns") ∈ SRl by decide) dX5_polish_54 dX5_polish_57 dX5_polish_58 dX5_polish_60 dX5_polish_63 (by decide) (Nat.le_of_ble_eq_true rfl) ⟨by omega, by omega⟩ ⟨by omega, by omega⟩ ⟨Or.inr ⟨rfl, by
            unfold mPolish
            rw [hT, if_pos hkS, hsn, hkn, if_pos (by first | exact Or.inl (fct_pos.mp (b2i_eq0.mp c35)) | exact Or.inr (Or.inl (((hR.2.1.2.2 sn kn hs hk).2).resolve_left c42)) | exact Or.inr (Or.inr (by rw [← hR.2.2.2.1.1.2.2.2.2.2.1]; exact Int32.not_le.mp c51)))]⟩, hR⟩
set_option maxRecDepth 100000 in
set_option maxHeartbeats 4000000 in
/-- X5_dress -/
theorem c_X5_dress (l : Launch) (t : Mem) : gMI wX l yX5_dress (.code yX5_dress cX5_dress 2 (some FieldType.int)) 1 0 0 (fun A => [.ref (A 0)]) (fun τ => RS τ t ∧ t 0 0 = 0) (fun τ rr τ1 => xOk (mDress t) rr τ1) := by
  refine gMI_of (by decide) (fun A => Nat.le_of_ble_eq_true rfl) ?_
  intro X τ hC hP hE
  have hC : gOk wX l X cX5_dress "GemCut" 1 0 0 := hC
  show G wX X 0 0 0 [some (.ref (gA X 0)), none] [] τ
  obtain ⟨hR, ht0⟩ := hP
  have hT := mTh_id ht0
  refine g_ald0 hC dX5_dress_0 ?_
  refine xg_GemCut_turns hC tw_2_15 dX5_dress_1 ?_
  refine g_ist1 hC dX5_dress_4 rfl ?_
  refine g_ald0 hC dX5_dress_5 ?_
  refine g_sipush 400 hC dX5_dress_6 (by decide) ?_
  refine xp_GemCut_turns hC tw_2_15 dX5_dress_9 ?_
  refine g_ild1 hC dX5_dress_12 ?_
  have hm : mDress t = (t 0 10, upd2 t 0 10 400) := by unfold mDress; rw [hT]
  exact hE _ _ _ _ _ _ dX5_dress_13 (by omega) (by omega) ⟨by rw [hm]; exact hR.2.2.2.1.1.2.2.2.2.2.1, by rw [hm]; exact dr_RS hR, by rw [hm]; show upd2 t 0 10 400 0 0 = 0; rw [upd2_nj (by decide)]; exact ht0⟩
theorem k_X5_dress {l : Launch} {X : gC} {cc : ByteArray} {own : String} {dd ca sa kc nc pc : Nat} {ls : List (Option Value)} {st : List Value} {σ : Mem} {idx : Nat} {t : Mem} (hC : gOk wX l X cc own dd ca sa) (hlk : Cond.methodLink own idx yX5_dress ∈ TB) (hd : decode cc pc = .ok (.invokevirtual idx, 3)) (hdd : 1 + 1 ≤ dd) (hfr : kc + 0 ≤ ca ∧ nc + 0 ≤ sa) (hrest : (st.map fun v => v.category).sum ≤ 8)  (hP : RS σ t ∧ t 0 0 = 0) (kk : ∀ (rr : Int32) (σ1 : Mem), xOk (mDress t) rr σ1 → G wX X kc nc (pc + 3) ls (.int rr :: st) σ1) : G wX X kc nc pc ls (.ref (gA X 0) :: st) σ := by
  exact g_cVI 0 hC (c_X5_dress l t) hlk ⟨tw_3_4, tw_3_5, tw_1_1, tw_3_6⟩ (by decide +kernel) ⟨hdd, by decide⟩ hfr rfl rfl rfl (gW_at wX _ _ (by decide)) hrest rfl hd hP kk
