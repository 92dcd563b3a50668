set_option maxRecDepth 100000 in
set_option maxHeartbeats 4000000 in
theorem c_X5_wantDepth (l : Launch) (hst : l.stackTraces = false) (d : Int32) : gXV wX l yX5_wantDepth (.code yX5_wantDepth cX5_wantDepth 1 none) 6 1 6 (fun A => [.int d]) (fun τ => True) (fun τ τ1 => τ1 = τ ∧ sIn d (-100) 100 = true) (fun τ ex τ1 => ex = "java/lang/IllegalArgumentException" ∧ τ1 = τ ∧ sIn d (-100) 100 = false) := by
  refine gXV_of hst (by decide) (fun A => Nat.le_of_ble_eq_true rfl) ?_
  intro X τ hCX hP hE hX hThr
  have hCX : gOkX wX l X cX5_wantDepth "GemCut" 6 1 6 := hCX
  have hC : gOk wX l X cX5_wantDepth "GemCut" 6 1 6 := hCX.1
  show G wX X 0 0 0 [some (.int d)] [] τ
  refine g_ild0 hC dX5_wantDepth_0 ?_
  refine g_bipush (-100) hC dX5_wantDepth_1 (by decide) ?_
  refine g_icmp_lt 12 hC dX5_wantDepth_3 (by decide) (fun c3 => ?_) (fun c3 => ?_)
  · exact th_iae hCX hThr (show ("GemCut", 237, "d is not -100 to 100") ∈ SRl by decide) dX5_wantDepth_12 dX5_wantDepth_15 dX5_wantDepth_16 dX5_wantDepth_18 dX5_wantDepth_21 (by decide) (Nat.le_of_ble_eq_true rfl) ⟨by omega, by omega⟩ ⟨by omega, by omega⟩ ⟨rfl, rfl, by simp only [sIn, Bool.and_eq_false_iff, decide_eq_false_iff_not]; first | exact Or.inl (Int32.not_le.mpr (by assumption)) | exact Or.inr (Int32.not_le.mpr (by assumption)) | (simp_all [Int32.not_le, Int32.not_lt])⟩
  · refine g_ild0 hC dX5_wantDepth_6 ?_
    refine g_bipush 100 hC dX5_wantDepth_7 (by decide) ?_
    refine g_icmp_le 22 hC dX5_wantDepth_9 (by decide) (fun c9 => ?_) (fun c9 => ?_)
    · exact hE _ _ _ _ _ dX5_wantDepth_22 (by omega) (by omega) ⟨rfl, by simp only [sIn, Bool.and_eq_true, decide_eq_true_eq]; simp_all [Int32.not_le, Int32.not_lt]⟩
    · exact th_iae hCX hThr (show ("GemCut", 237, "d is not -100 to 100") ∈ SRl by decide) dX5_wantDepth_12 dX5_wantDepth_15 dX5_wantDepth_16 dX5_wantDepth_18 dX5_wantDepth_21 (by decide) (Nat.le_of_ble_eq_true rfl) ⟨by omega, by omega⟩ ⟨by omega, by omega⟩ ⟨rfl, rfl, by simp only [sIn, Bool.and_eq_false_iff, decide_eq_false_iff_not]; first | exact Or.inl (Int32.not_le.mpr (by assumption)) | exact Or.inr (Int32.not_le.mpr (by assumption)) | (simp_all [Int32.not_le, Int32.not_lt])⟩
