set_option maxRecDepth 100000 in
set_option maxHeartbeats 4000000 in
theorem lc_angle {l : Launch} {X : gC} {b L i k n : Nat} {xs : Nat → Int32} {σ : Mem} (hst : l.stackTraces = false) (hC : gOk wL l X cL_law "GemCutLaw" 10 601024 7293033) (hZ : gZY X) (hN : gNcX X) (hS : gScr X b L xs) (hL : L ≤ 3584) (hi : i + 7 ≤ L) (hk : k + 168 ≤ 601024) (hn : n + 844 ≤ 7293033) (hR : RS σ (shM 196 σ)) (kk : ∀ (k2 n2 : Nat) (σ2 : Mem), k2 ≤ k + 168 → n2 ≤ n + 844 → RS σ2 (shM 196 σ2) → G wL X k2 n2 1386 [some (.ref b), some (.ref (gA X 0)), some (.ref (gA X 196)), some (.ref (gA X 195)), some (.int (nI i)), none, none, none, none] [] σ2) : G wL X k n 905 [some (.ref b), some (.ref (gA X 0)), some (.ref (gA X 196)), some (.ref (gA X 195)), some (.int (nI i)), none, none, none, none] [] σ := by
  have hNM := NM_of hR.1 hR.2.1
  refine g_ald1 hC dL_law_905 ?_
  refine g_ald0 hC dL_law_906 ?_
  refine g_ild4 hC dL_law_907 ?_
  refine g_iconst 1 hC dL_law_909 (by decide) ?_
  refine g_iadd hC dL_law_910 ?_
  refine g_sld (j := i + 1) hC hS (nI_add i 1) (by omega) (by omega) dL_law_911 ?_
  refine g_ald0 hC dL_law_912 ?_
  refine g_ild4 hC dL_law_913 ?_
  refine g_iconst 2 hC dL_law_915 (by decide) ?_
  refine g_iadd hC dL_law_916 ?_
  refine g_sld (j := i + 2) hC hS (nI_add i 2) (by omega) (by omega) dL_law_917 ?_
  refine g_ald0 hC dL_law_918 ?_
  refine g_ild4 hC dL_law_919 ?_
  refine g_iconst 3 hC dL_law_921 (by decide) ?_
  refine g_iadd hC dL_law_922 ?_
  refine g_sld (j := i + 3) hC hS (nI_add i 3) (by omega) (by omega) dL_law_923 ?_
  refine g_ald3 hC dL_law_924 ?_
  refine g_wSI (o := 0) emb_l 5 hC hZ hN (c_L_angle l hst (mTh (shM 196 σ)) (xs (i + 1)) (xs (i + 2)) (xs (i + 3))) tw_3_141 ⟨tw_3_142, tw_1_0, tw_3_143⟩ (by decide +kernel) ⟨by decide, by decide⟩ ⟨by omega, by omega⟩ rfl rfl (Nat.le_of_ble_eq_true rfl) rfl dL_law_925 ⟨RS_th hR, th_0 _⟩ (fun rr σ1 hw => ?_)
  rw [mAngle_th] at hw
  show G wL X _ _ _ _ _ (ptM 0 196 σ σ1)
  refine g_ist5 hC dL_law_928 rfl ?_
  refine g_ald2 hC dL_law_930 ?_
  refine g_ald0 hC dL_law_931 ?_
  refine g_ild4 hC dL_law_932 ?_
  refine g_iconst 1 hC dL_law_934 (by decide) ?_
  refine g_iadd hC dL_law_935 ?_
  refine g_sld (j := i + 1) hC hS (nI_add i 1) (by omega) (by omega) dL_law_936 ?_
  refine g_ald0 hC dL_law_937 ?_
  refine g_ild4 hC dL_law_938 ?_
  refine g_iconst 2 hC dL_law_940 (by decide) ?_
  refine g_iadd hC dL_law_941 ?_
  refine g_sld (j := i + 2) hC hS (nI_add i 2) (by omega) (by omega) dL_law_942 ?_
  refine g_ald0 hC dL_law_943 ?_
  refine g_ild4 hC dL_law_944 ?_
  refine g_iconst 3 hC dL_law_946 (by decide) ?_
  refine g_iadd hC dL_law_947 ?_
  refine g_sld (j := i + 3) hC hS (nI_add i 3) (by omega) (by omega) dL_law_948 ?_
  refine g_eVI (o := 196) emb_m 3 hC (c_X6_angle l (xs (i + 1)) (xs (i + 2)) (xs (i + 3))) tw_4_209 ⟨tw_4_210, tw_4_211, tw_1_7, tw_4_212⟩ (by decide +kernel) ⟨by decide, by decide⟩ ⟨by omega, by omega⟩ rfl rfl rfl (gW_at wL _ _ (i := 196) (by decide)) (Nat.le_of_ble_eq_true rfl) rfl dL_law_949 (by rw [sh_pt _ (by decide)]; exact ⟨hR.1, MZ_of hR.1 hR.2.1⟩) (fun r2 τ1 hq => ?_)
  rw [sh_pt _ (by decide)] at hq
  show G wL X _ _ _ _ _ (ptM 196 5 (ptM 0 196 σ σ1) τ1)
  obtain ⟨s1, s2, s3⟩ := lw_step (σ := σ) (τ1 := τ1) hw (by rw [hq.2]; exact Qf_rf _) (by rw [hq.2])
  generalize ptM 196 5 (ptM 0 196 σ σ1) τ1 = σ2 at s1 s2 s3 ⊢
  refine g_ist6 hC dL_law_952 rfl ?_
  refine g_ald2 hC dL_law_954 ?_
  refine g_eVI (o := 196) emb_m 0 hC (c_X6_thrown l) tw_4_59 ⟨tw_4_60, tw_4_61, tw_1_7, tw_4_62⟩ (by decide +kernel) ⟨by decide, by decide⟩ ⟨by omega, by omega⟩ rfl rfl rfl (gW_at wL _ _ (i := 196) (by decide)) (Nat.le_of_ble_eq_true rfl) rfl dL_law_955 trivial (fun r3 τ3 hq3 => ?_)
  obtain ⟨rfl, rfl⟩ := hq3
  rw [ptM_id, s2]
  refine g_ild5 hC dL_law_958 ?_
  refine g_icmp_eq 965 hC dL_law_960 (by decide) (fun _ => ?_) (fun c => absurd rfl c)
  refine g_ild5 hC dL_law_965 ?_
  refine g_if_ne 982 hC dL_law_967 (by decide) (fun c => ?_) (fun c => ?_)
  · refine g_goto 1386 hC dL_law_982 (by decide) ?_
    refine g_keep [true, true, true, true, true, false, false, false, false] ?_
    exact kk _ _ _ (by omega) (by omega) s1
  · refine g_ald3 hC dL_law_970 ?_
    refine g_iconst 0 hC dL_law_971 (by decide) ?_
    refine g_lald (i := 195) hC (by decide) (fun ρ => le_out _ ρ) dL_law_972 ?_
    refine g_ild6 hC dL_law_973 ?_
    refine g_i2l hC dL_law_975 ?_
    refine g_lcmp hC (by rw [s3 c, hq.1]) dL_law_976 ?_
    refine g_if_eq 982 hC dL_law_977 (by decide) (fun _ => ?_) (fun c => absurd rfl c)
    refine g_goto 1386 hC dL_law_982 (by decide) ?_
    refine g_keep [true, true, true, true, true, false, false, false, false] ?_
    exact kk _ _ _ (by omega) (by omega) s1
set_option maxRecDepth 100000 in
set_option maxHeartbeats 4000000 in
theorem lc_count {l : Launch} {X : gC} {b L i k n : Nat} {xs : Nat → Int32} {σ : Mem} (hst : l.stackTraces = false) (hC : gOk wL l X cL_law "GemCutLaw" 10 601024 7293033) (hZ : gZY X) (hN : gNcX X) (hS : gScr X b L xs) (hL : L ≤ 3584) (hi : i + 7 ≤ L) (hk : k + 168 ≤ 601024) (hn : n + 844 ≤ 7293033) (hR : RS σ (shM 196 σ)) (kk : ∀ (k2 n2 : Nat) (σ2 : Mem), k2 ≤ k + 168 → n2 ≤ n + 844 → RS σ2 (shM 196 σ2) → G wL X k2 n2 1386 [some (.ref b), some (.ref (gA X 0)), some (.ref (gA X 196)), some (.ref (gA X 195)), some (.int (nI i)), none, none, none, none] [] σ2) : G wL X k n 985 [some (.ref b), some (.ref (gA X 0)), some (.ref (gA X 196)), some (.ref (gA X 195)), some (.int (nI i)), none, none, none, none] [] σ := by
  have hNM := NM_of hR.1 hR.2.1
  refine g_ald1 hC dL_law_985 ?_
  refine g_ald0 hC dL_law_986 ?_
  refine g_ild4 hC dL_law_987 ?_
  refine g_iconst 1 hC dL_law_989 (by decide) ?_
  refine g_iadd hC dL_law_990 ?_
  refine g_sld (j := i + 1) hC hS (nI_add i 1) (by omega) (by omega) dL_law_991 ?_
  refine g_ald3 hC dL_law_992 ?_
  refine g_wSI (o := 0) emb_l 3 hC hZ hN (c_L_count l hst (mTh (shM 196 σ)) (xs (i + 1))) tw_3_156 ⟨tw_3_157, tw_1_0, tw_3_158⟩ (by decide +kernel) ⟨by decide, by decide⟩ ⟨by omega, by omega⟩ rfl rfl (Nat.le_of_ble_eq_true rfl) rfl dL_law_993 ⟨RS_th hR, th_0 _⟩ (fun rr σ1 hw => ?_)
  rw [mCount_th] at hw
  show G wL X _ _ _ _ _ (ptM 0 196 σ σ1)
  refine g_ist5 hC dL_law_996 rfl ?_
  refine g_ald2 hC dL_law_998 ?_
  refine g_ald0 hC dL_law_999 ?_
  refine g_ild4 hC dL_law_1000 ?_
  refine g_iconst 1 hC dL_law_1002 (by decide) ?_
  refine g_iadd hC dL_law_1003 ?_
  refine g_sld (j := i + 1) hC hS (nI_add i 1) (by omega) (by omega) dL_law_1004 ?_
  refine g_eVI (o := 196) emb_m 1 hC (c_X6_count l (xs (i + 1))) tw_4_217 ⟨tw_4_218, tw_4_219, tw_1_7, tw_4_220⟩ (by decide +kernel) ⟨by decide, by decide⟩ ⟨by omega, by omega⟩ rfl rfl rfl (gW_at wL _ _ (i := 196) (by decide)) (Nat.le_of_ble_eq_true rfl) rfl dL_law_1005 (by rw [sh_pt _ (by decide)]; exact hR.1) (fun r2 τ1 hq => ?_)
  rw [sh_pt _ (by decide)] at hq
  show G wL X _ _ _ _ _ (ptM 196 5 (ptM 0 196 σ σ1) τ1)
  obtain ⟨s1, s2, s3⟩ := lw_step (σ := σ) (τ1 := τ1) hw (by rw [hq.2]; exact Qf_rf _) (by rw [hq.2])
  generalize ptM 196 5 (ptM 0 196 σ σ1) τ1 = σ2 at s1 s2 s3 ⊢
  refine g_ist6 hC dL_law_1008 rfl ?_
  refine g_ald2 hC dL_law_1010 ?_
  refine g_eVI (o := 196) emb_m 0 hC (c_X6_thrown l) tw_4_59 ⟨tw_4_60, tw_4_61, tw_1_7, tw_4_62⟩ (by decide +kernel) ⟨by decide, by decide⟩ ⟨by omega, by omega⟩ rfl rfl rfl (gW_at wL _ _ (i := 196) (by decide)) (Nat.le_of_ble_eq_true rfl) rfl dL_law_1011 trivial (fun r3 τ3 hq3 => ?_)
  obtain ⟨rfl, rfl⟩ := hq3
  rw [ptM_id, s2]
  refine g_ild5 hC dL_law_1014 ?_
  refine g_icmp_eq 1021 hC dL_law_1016 (by decide) (fun _ => ?_) (fun c => absurd rfl c)
  refine g_ild5 hC dL_law_1021 ?_
  refine g_if_ne 1038 hC dL_law_1023 (by decide) (fun c => ?_) (fun c => ?_)
  · refine g_goto 1386 hC dL_law_1038 (by decide) ?_
    refine g_keep [true, true, true, true, true, false, false, false, false] ?_
    exact kk _ _ _ (by omega) (by omega) s1
  · refine g_ald3 hC dL_law_1026 ?_
    refine g_iconst 0 hC dL_law_1027 (by decide) ?_
    refine g_lald (i := 195) hC (by decide) (fun ρ => le_out _ ρ) dL_law_1028 ?_
    refine g_ild6 hC dL_law_1029 ?_
    refine g_i2l hC dL_law_1031 ?_
    refine g_lcmp hC (by rw [s3 c, hq.1]) dL_law_1032 ?_
    refine g_if_eq 1038 hC dL_law_1033 (by decide) (fun _ => ?_) (fun c => absurd rfl c)
    refine g_goto 1386 hC dL_law_1038 (by decide) ?_
    refine g_keep [true, true, true, true, true, false, false, false, false] ?_
    exact kk _ _ _ (by omega) (by omega) s1
set_option maxRecDepth 100000 in
set_option maxHeartbeats 4000000 in
theorem lc_would {l : Launch} {X : gC} {b L i k n : Nat} {xs : Nat → Int32} {σ : Mem} (hst : l.stackTraces = false) (hC : gOk wL l X cL_law "GemCutLaw" 10 601024 7293033) (hZ : gZY X) (hN : gNcX X) (hS : gScr X b L xs) (hL : L ≤ 3584) (hi : i + 7 ≤ L) (hk : k + 168 ≤ 601024) (hn : n + 844 ≤ 7293033) (hR : RS σ (shM 196 σ)) (kk : ∀ (k2 n2 : Nat) (σ2 : Mem), k2 ≤ k + 168 → n2 ≤ n + 844 → RS σ2 (shM 196 σ2) → G wL X k2 n2 1386 [some (.ref b), some (.ref (gA X 0)), some (.ref (gA X 196)), some (.ref (gA X 195)), some (.int (nI i)), none, none, none, none] [] σ2) : G wL X k n 1041 [some (.ref b), some (.ref (gA X 0)), some (.ref (gA X 196)), some (.ref (gA X 195)), some (.int (nI i)), none, none, none, none] [] σ := by
  have hNM := NM_of hR.1 hR.2.1
  refine g_ald1 hC dL_law_1041 ?_
  refine g_ald0 hC dL_law_1042 ?_
  refine g_ild4 hC dL_law_1043 ?_
  refine g_iconst 1 hC dL_law_1045 (by decide) ?_
  refine g_iadd hC dL_law_1046 ?_
  refine g_sld (j := i + 1) hC hS (nI_add i 1) (by omega) (by omega) dL_law_1047 ?_
  refine g_ald0 hC dL_law_1048 ?_
  refine g_ild4 hC dL_law_1049 ?_
  refine g_iconst 2 hC dL_law_1051 (by decide) ?_
  refine g_iadd hC dL_law_1052 ?_
  refine g_sld (j := i + 2) hC hS (nI_add i 2) (by omega) (by omega) dL_law_1053 ?_
  refine g_ald0 hC dL_law_1054 ?_
  refine g_ild4 hC dL_law_1055 ?_
  refine g_iconst 3 hC dL_law_1057 (by decide) ?_
  refine g_iadd hC dL_law_1058 ?_
  refine g_sld (j := i + 3) hC hS (nI_add i 3) (by omega) (by omega) dL_law_1059 ?_
  refine g_ald0 hC dL_law_1060 ?_
  refine g_ild4 hC dL_law_1061 ?_
  refine g_iconst 4 hC dL_law_1063 (by decide) ?_
  refine g_iadd hC dL_law_1064 ?_
  refine g_sld (j := i + 4) hC hS (nI_add i 4) (by omega) (by omega) dL_law_1065 ?_
  refine g_ald0 hC dL_law_1066 ?_
  refine g_ild4 hC dL_law_1067 ?_
  refine g_iconst 5 hC dL_law_1069 (by decide) ?_
  refine g_iadd hC dL_law_1070 ?_
  refine g_sld (j := i + 5) hC hS (nI_add i 5) (by omega) (by omega) dL_law_1071 ?_
  refine g_ald0 hC dL_law_1072 ?_
  refine g_ild4 hC dL_law_1073 ?_
  refine g_bipush 6 hC dL_law_1075 (by decide) ?_
  refine g_iadd hC dL_law_1077 ?_
  refine g_sld (j := i + 6) hC hS (nI_add i 6) (by omega) (by omega) dL_law_1078 ?_
  refine g_ald3 hC dL_law_1079 ?_
  refine g_wSI (o := 0) emb_l 8 hC hZ hN (c_L_would l hst (mTh (shM 196 σ)) (xs (i + 1)) (xs (i + 2)) (xs (i + 3)) (xs (i + 4)) (xs (i + 5)) (xs (i + 6))) tw_3_163 ⟨tw_3_164, tw_1_0, tw_3_165⟩ (by decide +kernel) ⟨by decide, by decide⟩ ⟨by omega, by omega⟩ rfl rfl (Nat.le_of_ble_eq_true rfl) rfl dL_law_1080 ⟨RS_th hR, th_0 _⟩ (fun rr σ1 hw => ?_)
  rw [mWould_th] at hw
  show G wL X _ _ _ _ _ (ptM 0 196 σ σ1)
  refine g_ist5 hC dL_law_1083 rfl ?_
  refine g_ald2 hC dL_law_1085 ?_
  refine g_ald0 hC dL_law_1086 ?_
  refine g_ild4 hC dL_law_1087 ?_
  refine g_iconst 1 hC dL_law_1089 (by decide) ?_
  refine g_iadd hC dL_law_1090 ?_
  refine g_sld (j := i + 1) hC hS (nI_add i 1) (by omega) (by omega) dL_law_1091 ?_
  refine g_ald0 hC dL_law_1092 ?_
  refine g_ild4 hC dL_law_1093 ?_
  refine g_iconst 2 hC dL_law_1095 (by decide) ?_
  refine g_iadd hC dL_law_1096 ?_
  refine g_sld (j := i + 2) hC hS (nI_add i 2) (by omega) (by omega) dL_law_1097 ?_
  refine g_ald0 hC dL_law_1098 ?_
  refine g_ild4 hC dL_law_1099 ?_
  refine g_iconst 3 hC dL_law_1101 (by decide) ?_
  refine g_iadd hC dL_law_1102 ?_
  refine g_sld (j := i + 3) hC hS (nI_add i 3) (by omega) (by omega) dL_law_1103 ?_
  refine g_ald0 hC dL_law_1104 ?_
  refine g_ild4 hC dL_law_1105 ?_
  refine g_iconst 4 hC dL_law_1107 (by decide) ?_
  refine g_iadd hC dL_law_1108 ?_
  refine g_sld (j := i + 4) hC hS (nI_add i 4) (by omega) (by omega) dL_law_1109 ?_
  refine g_ald0 hC dL_law_1110 ?_
  refine g_ild4 hC dL_law_1111 ?_
  refine g_iconst 5 hC dL_law_1113 (by decide) ?_
  refine g_iadd hC dL_law_1114 ?_
  refine g_sld (j := i + 5) hC hS (nI_add i 5) (by omega) (by omega) dL_law_1115 ?_
  refine g_ald0 hC dL_law_1116 ?_
  refine g_ild4 hC dL_law_1117 ?_
  refine g_bipush 6 hC dL_law_1119 (by decide) ?_
  refine g_iadd hC dL_law_1121 ?_
  refine g_sld (j := i + 6) hC hS (nI_add i 6) (by omega) (by omega) dL_law_1122 ?_
  refine g_eVI (o := 196) emb_m 6 hC (c_X6_would l (xs (i + 1)) (xs (i + 2)) (xs (i + 3)) (xs (i + 4)) (xs (i + 5)) (xs (i + 6))) tw_4_225 ⟨tw_4_226, tw_4_227, tw_1_7, tw_4_228⟩ (by decide +kernel) ⟨by decide, by decide⟩ ⟨by omega, by omega⟩ rfl rfl rfl (gW_at wL _ _ (i := 196) (by decide)) (Nat.le_of_ble_eq_true rfl) rfl dL_law_1123 (by rw [sh_pt _ (by decide)]; exact ⟨hR.1, hNM, hR.2.2.1⟩) (fun r2 τ1 hq => ?_)
  rw [sh_pt _ (by decide)] at hq
  show G wL X _ _ _ _ _ (ptM 196 5 (ptM 0 196 σ σ1) τ1)
  obtain ⟨s1, s2, s3⟩ := lw_step (σ := σ) (τ1 := τ1) hw (by rw [hq.2]; exact Qf_rf _) (by rw [hq.2])
  generalize ptM 196 5 (ptM 0 196 σ σ1) τ1 = σ2 at s1 s2 s3 ⊢
  refine g_ist6 hC dL_law_1126 rfl ?_
  refine g_ald2 hC dL_law_1128 ?_
  refine g_eVI (o := 196) emb_m 0 hC (c_X6_thrown l) tw_4_59 ⟨tw_4_60, tw_4_61, tw_1_7, tw_4_62⟩ (by decide +kernel) ⟨by decide, by decide⟩ ⟨by omega, by omega⟩ rfl rfl rfl (gW_at wL _ _ (i := 196) (by decide)) (Nat.le_of_ble_eq_true rfl) rfl dL_law_1129 trivial (fun r3 τ3 hq3 => ?_)
  obtain ⟨rfl, rfl⟩ := hq3
  rw [ptM_id, s2]
  refine g_ild5 hC dL_law_1132 ?_
  refine g_icmp_eq 1139 hC dL_law_1134 (by decide) (fun _ => ?_) (fun c => absurd rfl c)
  refine g_ild5 hC dL_law_1139 ?_
  refine g_if_ne 1156 hC dL_law_1141 (by decide) (fun c => ?_) (fun c => ?_)
  · refine g_goto 1386 hC dL_law_1156 (by decide) ?_
    refine g_keep [true, true, true, true, true, false, false, false, false] ?_
    exact kk _ _ _ (by omega) (by omega) s1
  · refine g_ald3 hC dL_law_1144 ?_
    refine g_iconst 0 hC dL_law_1145 (by decide) ?_
    refine g_lald (i := 195) hC (by decide) (fun ρ => le_out _ ρ) dL_law_1146 ?_
    refine g_ild6 hC dL_law_1147 ?_
    refine g_i2l hC dL_law_1149 ?_
    refine g_lcmp hC (by rw [s3 c, hq.1]) dL_law_1150 ?_
    refine g_if_eq 1156 hC dL_law_1151 (by decide) (fun _ => ?_) (fun c => absurd rfl c)
    refine g_goto 1386 hC dL_law_1156 (by decide) ?_
    refine g_keep [true, true, true, true, true, false, false, false, false] ?_
    exact kk _ _ _ (by omega) (by omega) s1
set_option maxRecDepth 100000 in
set_option maxHeartbeats 4000000 in
theorem lc_depth {l : Launch} {X : gC} {b L i k n : Nat} {xs : Nat → Int32} {σ : Mem} (hst : l.stackTraces = false) (hC : gOk wL l X cL_law "GemCutLaw" 10 601024 7293033) (hZ : gZY X) (hN : gNcX X) (hS : gScr X b L xs) (hL : L ≤ 3584) (hi : i + 7 ≤ L) (hk : k + 168 ≤ 601024) (hn : n + 844 ≤ 7293033) (hR : RS σ (shM 196 σ)) (kk : ∀ (k2 n2 : Nat) (σ2 : Mem), k2 ≤ k + 168 → n2 ≤ n + 844 → RS σ2 (shM 196 σ2) → G wL X k2 n2 1386 [some (.ref b), some (.ref (gA X 0)), some (.ref (gA X 196)), some (.ref (gA X 195)), some (.int (nI i)), none, none, none, none] [] σ2) : G wL X k n 1159 [some (.ref b), some (.ref (gA X 0)), some (.ref (gA X 196)), some (.ref (gA X 195)), some (.int (nI i)), none, none, none, none] [] σ := by
  have hNM := NM_of hR.1 hR.2.1
  refine g_ald1 hC dL_law_1159 ?_
  refine g_ald0 hC dL_law_1160 ?_
  refine g_ild4 hC dL_law_1161 ?_
  refine g_iconst 1 hC dL_law_1163 (by decide) ?_
  refine g_iadd hC dL_law_1164 ?_
  refine g_sld (j := i + 1) hC hS (nI_add i 1) (by omega) (by omega) dL_law_1165 ?_
  refine g_ald0 hC dL_law_1166 ?_
  refine g_ild4 hC dL_law_1167 ?_
  refine g_iconst 2 hC dL_law_1169 (by decide) ?_
  refine g_iadd hC dL_law_1170 ?_
  refine g_sld (j := i + 2) hC hS (nI_add i 2) (by omega) (by omega) dL_law_1171 ?_
  refine g_ald0 hC dL_law_1172 ?_
  refine g_ild4 hC dL_law_1173 ?_
  refine g_iconst 3 hC dL_law_1175 (by decide) ?_
  refine g_iadd hC dL_law_1176 ?_
  refine g_sld (j := i + 3) hC hS (nI_add i 3) (by omega) (by omega) dL_law_1177 ?_
  refine g_ald0 hC dL_law_1178 ?_
  refine g_ild4 hC dL_law_1179 ?_
  refine g_iconst 4 hC dL_law_1181 (by decide) ?_
  refine g_iadd hC dL_law_1182 ?_
  refine g_sld (j := i + 4) hC hS (nI_add i 4) (by omega) (by omega) dL_law_1183 ?_
  refine g_ald3 hC dL_law_1184 ?_
  refine g_wSI (o := 0) emb_l 6 hC hZ hN (c_L_depth l hst (mTh (shM 196 σ)) (xs (i + 1)) (xs (i + 2)) (xs (i + 3)) (xs (i + 4))) tw_3_212 ⟨tw_3_213, tw_1_0, tw_3_214⟩ (by decide +kernel) ⟨by decide, by decide⟩ ⟨by omega, by omega⟩ rfl rfl (Nat.le_of_ble_eq_true rfl) rfl dL_law_1185 ⟨RS_th hR, th_0 _⟩ (fun rr σ1 hw => ?_)
  rw [mDepth_th] at hw
  show G wL X _ _ _ _ _ (ptM 0 196 σ σ1)
  refine g_ist5 hC dL_law_1188 rfl ?_
  refine g_ald2 hC dL_law_1190 ?_
  refine g_ald0 hC dL_law_1191 ?_
  refine g_ild4 hC dL_law_1192 ?_
  refine g_iconst 1 hC dL_law_1194 (by decide) ?_
  refine g_iadd hC dL_law_1195 ?_
  refine g_sld (j := i + 1) hC hS (nI_add i 1) (by omega) (by omega) dL_law_1196 ?_
  refine g_ald0 hC dL_law_1197 ?_
  refine g_ild4 hC dL_law_1198 ?_
  refine g_iconst 2 hC dL_law_1200 (by decide) ?_
  refine g_iadd hC dL_law_1201 ?_
  refine g_sld (j := i + 2) hC hS (nI_add i 2) (by omega) (by omega) dL_law_1202 ?_
  refine g_ald0 hC dL_law_1203 ?_
  refine g_ild4 hC dL_law_1204 ?_
  refine g_iconst 3 hC dL_law_1206 (by decide) ?_
  refine g_iadd hC dL_law_1207 ?_
  refine g_sld (j := i + 3) hC hS (nI_add i 3) (by omega) (by omega) dL_law_1208 ?_
  refine g_ald0 hC dL_law_1209 ?_
  refine g_ild4 hC dL_law_1210 ?_
  refine g_iconst 4 hC dL_law_1212 (by decide) ?_
  refine g_iadd hC dL_law_1213 ?_
  refine g_sld (j := i + 4) hC hS (nI_add i 4) (by omega) (by omega) dL_law_1214 ?_
  refine g_eVI (o := 196) emb_m 4 hC (c_X6_depth l (xs (i + 1)) (xs (i + 2)) (xs (i + 3)) (xs (i + 4))) tw_4_233 ⟨tw_4_234, tw_4_235, tw_1_7, tw_4_236⟩ (by decide +kernel) ⟨by decide, by decide⟩ ⟨by omega, by omega⟩ rfl rfl rfl (gW_at wL _ _ (i := 196) (by decide)) (Nat.le_of_ble_eq_true rfl) rfl dL_law_1215 (by rw [sh_pt _ (by decide)]; exact ⟨hR.1, hNM, hR.2.2.1⟩) (fun r2 τ1 hq => ?_)
  rw [sh_pt _ (by decide)] at hq
  show G wL X _ _ _ _ _ (ptM 196 5 (ptM 0 196 σ σ1) τ1)
  obtain ⟨s1, s2, s3⟩ := lw_step (σ := σ) hw (Qf_e hq.2) (congrFun (hq.2.1 0 (by decide)) 0)
  generalize ptM 196 5 (ptM 0 196 σ σ1) τ1 = σ2 at s1 s2 s3 ⊢
  refine g_ist6 hC dL_law_1218 rfl ?_
  refine g_ald2 hC dL_law_1220 ?_
  refine g_eVI (o := 196) emb_m 0 hC (c_X6_thrown l) tw_4_59 ⟨tw_4_60, tw_4_61, tw_1_7, tw_4_62⟩ (by decide +kernel) ⟨by decide, by decide⟩ ⟨by omega, by omega⟩ rfl rfl rfl (gW_at wL _ _ (i := 196) (by decide)) (Nat.le_of_ble_eq_true rfl) rfl dL_law_1221 trivial (fun r3 τ3 hq3 => ?_)
  obtain ⟨rfl, rfl⟩ := hq3
  rw [ptM_id, s2]
  refine g_ild5 hC dL_law_1224 ?_
  refine g_icmp_eq 1231 hC dL_law_1226 (by decide) (fun _ => ?_) (fun c => absurd rfl c)
  refine g_ild5 hC dL_law_1231 ?_
  refine g_if_ne 1248 hC dL_law_1233 (by decide) (fun c => ?_) (fun c => ?_)
  · refine g_goto 1386 hC dL_law_1248 (by decide) ?_
    refine g_keep [true, true, true, true, true, false, false, false, false] ?_
    exact kk _ _ _ (by omega) (by omega) s1
  · refine g_ald3 hC dL_law_1236 ?_
    refine g_iconst 0 hC dL_law_1237 (by decide) ?_
    refine g_lald (i := 195) hC (by decide) (fun ρ => le_out _ ρ) dL_law_1238 ?_
    refine g_ild6 hC dL_law_1239 ?_
    refine g_i2l hC dL_law_1241 ?_
    refine g_lcmp hC (by rw [s3 c, hq.1]) dL_law_1242 ?_
    refine g_if_eq 1248 hC dL_law_1243 (by decide) (fun _ => ?_) (fun c => absurd rfl c)
    refine g_goto 1386 hC dL_law_1248 (by decide) ?_
    refine g_keep [true, true, true, true, true, false, false, false, false] ?_
    exact kk _ _ _ (by omega) (by omega) s1
set_option maxRecDepth 100000 in
set_option maxHeartbeats 4000000 in
theorem lc_rid {l : Launch} {X : gC} {b L i k n : Nat} {xs : Nat → Int32} {σ : Mem} (hst : l.stackTraces = false) (hC : gOk wL l X cL_law "GemCutLaw" 10 601024 7293033) (hZ : gZY X) (hN : gNcX X) (hS : gScr X b L xs) (hL : L ≤ 3584) (hi : i + 7 ≤ L) (hk : k + 168 ≤ 601024) (hn : n + 844 ≤ 7293033) (hR : RS σ (shM 196 σ)) (kk : ∀ (k2 n2 : Nat) (σ2 : Mem), k2 ≤ k + 168 → n2 ≤ n + 844 → RS σ2 (shM 196 σ2) → G wL X k2 n2 1386 [some (.ref b), some (.ref (gA X 0)), some (.ref (gA X 196)), some (.ref (gA X 195)), some (.int (nI i)), none, none, none, none] [] σ2) : G wL X k n 1251 [some (.ref b), some (.ref (gA X 0)), some (.ref (gA X 196)), some (.ref (gA X 195)), some (.int (nI i)), none, none, none, none] [] σ := by
  have hNM := NM_of hR.1 hR.2.1
  refine g_ald1 hC dL_law_1251 ?_
  refine g_ald0 hC dL_law_1252 ?_
  refine g_ild4 hC dL_law_1253 ?_
  refine g_iconst 1 hC dL_law_1255 (by decide) ?_
  refine g_iadd hC dL_law_1256 ?_
  refine g_sld (j := i + 1) hC hS (nI_add i 1) (by omega) (by omega) dL_law_1257 ?_
  refine g_ald0 hC dL_law_1258 ?_
  refine g_ild4 hC dL_law_1259 ?_
  refine g_iconst 2 hC dL_law_1261 (by decide) ?_
  refine g_iadd hC dL_law_1262 ?_
  refine g_sld (j := i + 2) hC hS (nI_add i 2) (by omega) (by omega) dL_law_1263 ?_
  refine g_ald0 hC dL_law_1264 ?_
  refine g_ild4 hC dL_law_1265 ?_
  refine g_iconst 3 hC dL_law_1267 (by decide) ?_
  refine g_iadd hC dL_law_1268 ?_
  refine g_sld (j := i + 3) hC hS (nI_add i 3) (by omega) (by omega) dL_law_1269 ?_
  refine g_ald3 hC dL_law_1270 ?_
  refine g_wSI (o := 0) emb_l 5 hC hZ hN (c_L_rid l hst (mTh (shM 196 σ)) (xs (i + 1)) (xs (i + 2)) (xs (i + 3))) tw_3_229 ⟨tw_3_230, tw_1_0, tw_3_231⟩ (by decide +kernel) ⟨by decide, by decide⟩ ⟨by omega, by omega⟩ rfl rfl (Nat.le_of_ble_eq_true rfl) rfl dL_law_1271 ⟨RS_th hR, th_0 _⟩ (fun rr σ1 hw => ?_)
  rw [mRid_th] at hw
  show G wL X _ _ _ _ _ (ptM 0 196 σ σ1)
  refine g_ist5 hC dL_law_1274 rfl ?_
  refine g_ald2 hC dL_law_1276 ?_
  refine g_ald0 hC dL_law_1277 ?_
  refine g_ild4 hC dL_law_1278 ?_
  refine g_iconst 1 hC dL_law_1280 (by decide) ?_
  refine g_iadd hC dL_law_1281 ?_
  refine g_sld (j := i + 1) hC hS (nI_add i 1) (by omega) (by omega) dL_law_1282 ?_
  refine g_ald0 hC dL_law_1283 ?_
  refine g_ild4 hC dL_law_1284 ?_
  refine g_iconst 2 hC dL_law_1286 (by decide) ?_
  refine g_iadd hC dL_law_1287 ?_
  refine g_sld (j := i + 2) hC hS (nI_add i 2) (by omega) (by omega) dL_law_1288 ?_
  refine g_ald0 hC dL_law_1289 ?_
  refine g_ild4 hC dL_law_1290 ?_
  refine g_iconst 3 hC dL_law_1292 (by decide) ?_
  refine g_iadd hC dL_law_1293 ?_
  refine g_sld (j := i + 3) hC hS (nI_add i 3) (by omega) (by omega) dL_law_1294 ?_
  refine g_eVI (o := 196) emb_m 3 hC (c_X6_rid l (xs (i + 1)) (xs (i + 2)) (xs (i + 3))) tw_5_1 ⟨tw_5_2, tw_5_3, tw_1_7, tw_5_4⟩ (by decide +kernel) ⟨by decide, by decide⟩ ⟨by omega, by omega⟩ rfl rfl rfl (gW_at wL _ _ (i := 196) (by decide)) (Nat.le_of_ble_eq_true rfl) rfl dL_law_1295 (by rw [sh_pt _ (by decide)]; exact ⟨hR.1, hNM, hR.2.2.1⟩) (fun r2 τ1 hq => ?_)
  rw [sh_pt _ (by decide)] at hq
  show G wL X _ _ _ _ _ (ptM 196 5 (ptM 0 196 σ σ1) τ1)
  obtain ⟨s1, s2, s3⟩ := lw_step (σ := σ) hw (Qf_e hq.2) (congrFun (hq.2.1 0 (by decide)) 0)
  generalize ptM 196 5 (ptM 0 196 σ σ1) τ1 = σ2 at s1 s2 s3 ⊢
  refine g_ist6 hC dL_law_1298 rfl ?_
  refine g_ald2 hC dL_law_1300 ?_
  refine g_eVI (o := 196) emb_m 0 hC (c_X6_thrown l) tw_4_59 ⟨tw_4_60, tw_4_61, tw_1_7, tw_4_62⟩ (by decide +kernel) ⟨by decide, by decide⟩ ⟨by omega, by omega⟩ rfl rfl rfl (gW_at wL _ _ (i := 196) (by decide)) (Nat.le_of_ble_eq_true rfl) rfl dL_law_1301 trivial (fun r3 τ3 hq3 => ?_)
  obtain ⟨rfl, rfl⟩ := hq3
  rw [ptM_id, s2]
  refine g_ild5 hC dL_law_1304 ?_
  refine g_icmp_eq 1311 hC dL_law_1306 (by decide) (fun _ => ?_) (fun c => absurd rfl c)
  refine g_ild5 hC dL_law_1311 ?_
  refine g_if_ne 1328 hC dL_law_1313 (by decide) (fun c => ?_) (fun c => ?_)
  · refine g_goto 1386 hC dL_law_1328 (by decide) ?_
    refine g_keep [true, true, true, true, true, false, false, false, false] ?_
    exact kk _ _ _ (by omega) (by omega) s1
  · refine g_ald3 hC dL_law_1316 ?_
    refine g_iconst 0 hC dL_law_1317 (by decide) ?_
    refine g_lald (i := 195) hC (by decide) (fun ρ => le_out _ ρ) dL_law_1318 ?_
    refine g_ild6 hC dL_law_1319 ?_
    refine g_i2l hC dL_law_1321 ?_
    refine g_lcmp hC (by rw [s3 c, hq.1]) dL_law_1322 ?_
    refine g_if_eq 1328 hC dL_law_1323 (by decide) (fun _ => ?_) (fun c => absurd rfl c)
    refine g_goto 1386 hC dL_law_1328 (by decide) ?_
    refine g_keep [true, true, true, true, true, false, false, false, false] ?_
    exact kk _ _ _ (by omega) (by omega) s1
