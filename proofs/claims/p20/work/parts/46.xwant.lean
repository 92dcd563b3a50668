set_option maxRecDepth 100000 in
set_option maxHeartbeats 4000000 in
theorem c_X5_wantDepth (l : Launch) (hst : l.stackTraces = false) (d : Int32) : gXV wX l yX5_wantDepth (.code yX5_wantDepth cX5_wantDepth 1 none) 6 1 6 (fun A => [.int d]) (fun τ => True) (fun τ τ1 => τ1 = τ ∧ sIn d (-100) 100 = true) (fun τ ex τ1 => ex = "java/lang/IllegalArgumentException" ∧ τ1 = τ ∧ sIn d (-100) 100 = false) := by
  refine gXV_of hst (by decide) (fun A => Nat.le_of_ble_eq_true rfl) ?_
  intro X τ hCX hP hE hX hThr
  have hCX : gOkX wX l X cX5_wantDepth "GemCut" 6 1 6 := hCX
  have hC : gOk wX l X cX5_wantDepth "GemCut" 6 1 6 := hCX.1
  show G wX X 0 0 0 [some (.int d)] [] τ
  refine g_ild0 hC dX5_wantDepth_0 ?_
  refine g_bipush (-100) hC dX5_wantDepth_1 (by decide) ?_
  refine g_icmp_lt 12 hC dX5_wantDepth_3 (by decide) (fun c3 => ?_) (fun c3 => ?_)
  · exact th_iae hCX hThr (show ("GemCut", 237, "d is not -100 to 100") ∈ SRl by decide) dX5_wantDepth_12 dX5_wantDepth_15 dX5_wantDepth_16 dX5_wantDepth_18 dX5_wantDepth_21 (by decide) (Nat.le_of_ble_eq_true rfl) ⟨by omega, by omega⟩ ⟨by omega, by omega⟩ ⟨rfl, rfl, by simp only [sIn, Bool.and_eq_false_iff, decide_eq_false_iff_not]; first | exact Or.inl (Int32.not_le.mpr (by assumption)) | exact Or.inr (Int32.not_le.mpr (by assumption)) | (simp_all [Int32.not_le, Int32.not_lt])⟩
  · refine g_ild0 hC dX5_wantDepth_6 ?_
    refine g_bipush 100 hC dX5_wantDepth_7 (by decide) ?_
    refine g_icmp_le 22 hC dX5_wantDepth_9 (by decide) (fun c9 => ?_) (fun c9 => ?_)
    · exact hE _ _ _ _ _ dX5_wantDepth_22 (by omega) (by omega) ⟨rfl, by simp only [sIn, Bool.and_eq_true, decide_eq_true_eq]; simp_all [Int32.not_le, Int32.not_lt]⟩
    · exact th_iae hCX hThr (show ("GemCut", 237, "d is not -100 to 100") ∈ SRl by decide) dX5_wantDepth_12 dX5_wantDepth_15 dX5_wantDepth_16 dX5_wantDepth_18 dX5_wantDepth_21 (by decide) (Nat.le_of_ble_eq_true rfl) ⟨by omega, by omega⟩ ⟨by omega, by omega⟩ ⟨rfl, rfl, by simp only [sIn, Bool.and_eq_false_iff, decide_eq_false_iff_not]; first | exact Or.inl (Int32.not_le.mpr (by assumption)) | exact Or.inr (Int32.not_le.mpr (by assumption)) | (simp_all [Int32.not_le, Int32.not_lt])⟩
set_option maxRecDepth 100000 in
set_option maxHeartbeats 4000000 in
/-- X5_isSide -/
theorem c_X5_isSide (l : Launch) (v : Int32) : gMZ wX l yX5_isSide (.code yX5_isSide cX5_isSide 1 (some FieldType.boolean)) 0 0 0 (fun A => [.int v]) (fun τ => True) (fun τ rr τ1 => rr = b2i (sIn v 1 10) ∧ τ1 = τ) := by
  refine gMZ_of (by decide) (fun A => Nat.le_of_ble_eq_true rfl) ?_
  intro X τ hC hP hE
  have hC : gOk wX l X cX5_isSide "GemCut" 0 0 0 := hC
  show G wX X 0 0 0 [some (.int v)] [] τ
  refine g_ild0 hC dX5_isSide_0 ?_
  refine g_iconst 1 hC dX5_isSide_1 (by decide) ?_
  refine g_icmp_lt 15 hC dX5_isSide_2 (by decide) (fun c2 => ?_) (fun c2 => ?_)
  · refine g_iconst 0 hC dX5_isSide_15 (by decide) ?_
    exact hE _ _ _ _ _ _ dX5_isSide_16 (Nat.le_refl _) (Nat.le_refl _) (by first | exact Or.inl rfl | exact Or.inr rfl | exact b2i_01 _) ⟨by first | (simp only [sIn]; simp_all [b2i, Int32.not_le, Int32.not_lt]; done) | (unfold sIn; rw [decide_eq_false (Int32.not_le.mpr (by assumption)), Bool.false_and]; rfl), rfl⟩
  · refine g_ild0 hC dX5_isSide_5 ?_
    refine g_bipush 10 hC dX5_isSide_6 (by decide) ?_
    refine g_icmp_gt 15 hC dX5_isSide_8 (by decide) (fun c8 => ?_) (fun c8 => ?_)
    · refine g_iconst 0 hC dX5_isSide_15 (by decide) ?_
      exact hE _ _ _ _ _ _ dX5_isSide_16 (Nat.le_refl _) (Nat.le_refl _) (by first | exact Or.inl rfl | exact Or.inr rfl | exact b2i_01 _) ⟨by first | (simp only [sIn]; simp_all [b2i, Int32.not_le, Int32.not_lt]; done) | (unfold sIn; rw [decide_eq_false (Int32.not_le.mpr (by assumption)), Bool.false_and]; rfl), rfl⟩
    · refine g_iconst 1 hC dX5_isSide_11 (by decide) ?_
      refine g_goto 16 hC dX5_isSide_12 (by decide) ?_
      exact hE _ _ _ _ _ _ dX5_isSide_16 (Nat.le_refl _) (Nat.le_refl _) (by first | exact Or.inl rfl | exact Or.inr rfl | exact b2i_01 _) ⟨by first | (simp only [sIn]; simp_all [b2i, Int32.not_le, Int32.not_lt]; done) | (unfold sIn; rw [decide_eq_false (Int32.not_le.mpr (by assumption)), Bool.false_and]; rfl), rfl⟩
theorem k_X5_isSide {l : Launch} {X : gC} {cc : ByteArray} {own : String} {dd ca sa kc nc pc : Nat} {ls : List (Option Value)} {st : List Value} {σ : Mem} {idx : Nat} {v : Int32} (hC : gOk wX l X cc own dd ca sa) (hlk : Cond.methodLink own idx yX5_isSide ∈ TB) (hd : decode cc pc = .ok (.invokestatic idx, 3)) (hdd : 0 + 1 ≤ dd) (hfr : kc + 0 ≤ ca ∧ nc + 0 ≤ sa) (hrest : (st.map fun v => v.category).sum ≤ 8)   (kk : G wX X kc nc (pc + 3) ls (.int (b2i (sIn v 1 10)) :: st) (σ)) : G wX X kc nc pc ls (.int v :: st) σ := by
  exact g_cSZ 1 hC (c_X5_isSide l v) hlk ⟨tw_3_174, tw_1_1, tw_3_175⟩ (by decide +kernel) ⟨hdd, by decide⟩ hfr rfl rfl hrest rfl hd trivial (fun rr σ1 hq => by obtain ⟨rfl, rfl⟩ := hq; exact kk)
set_option maxRecDepth 100000 in
set_option maxHeartbeats 4000000 in
/-- X5_isSteepness -/
theorem c_X5_isSteepness (l : Launch) (v : Int32) : gMZ wX l yX5_isSteepness (.code yX5_isSteepness cX5_isSteepness 1 (some FieldType.boolean)) 0 0 0 (fun A => [.int v]) (fun τ => True) (fun τ rr τ1 => rr = b2i (sIn v (-3) 3) ∧ τ1 = τ) := by
  refine gMZ_of (by decide) (fun A => Nat.le_of_ble_eq_true rfl) ?_
  intro X τ hC hP hE
  have hC : gOk wX l X cX5_isSteepness "GemCut" 0 0 0 := hC
  show G wX X 0 0 0 [some (.int v)] [] τ
  refine g_ild0 hC dX5_isSteepness_0 ?_
  refine g_bipush (-3) hC dX5_isSteepness_1 (by decide) ?_
  refine g_icmp_lt 15 hC dX5_isSteepness_3 (by decide) (fun c3 => ?_) (fun c3 => ?_)
  · refine g_iconst 0 hC dX5_isSteepness_15 (by decide) ?_
    exact hE _ _ _ _ _ _ dX5_isSteepness_16 (Nat.le_refl _) (Nat.le_refl _) (by first | exact Or.inl rfl | exact Or.inr rfl | exact b2i_01 _) ⟨by first | (simp only [sIn]; simp_all [b2i, Int32.not_le, Int32.not_lt]; done) | (unfold sIn; rw [decide_eq_false (Int32.not_le.mpr (by assumption)), Bool.false_and]; rfl), rfl⟩
  · refine g_ild0 hC dX5_isSteepness_6 ?_
    refine g_iconst 3 hC dX5_isSteepness_7 (by decide) ?_
    refine g_icmp_gt 15 hC dX5_isSteepness_8 (by decide) (fun c8 => ?_) (fun c8 => ?_)
    · refine g_iconst 0 hC dX5_isSteepness_15 (by decide) ?_
      exact hE _ _ _ _ _ _ dX5_isSteepness_16 (Nat.le_refl _) (Nat.le_refl _) (by first | exact Or.inl rfl | exact Or.inr rfl | exact b2i_01 _) ⟨by first | (simp only [sIn]; simp_all [b2i, Int32.not_le, Int32.not_lt]; done) | (unfold sIn; rw [decide_eq_false (Int32.not_le.mpr (by assumption)), Bool.false_and]; rfl), rfl⟩
    · refine g_iconst 1 hC dX5_isSteepness_11 (by decide) ?_
      refine g_goto 16 hC dX5_isSteepness_12 (by decide) ?_
      exact hE _ _ _ _ _ _ dX5_isSteepness_16 (Nat.le_refl _) (Nat.le_refl _) (by first | exact Or.inl rfl | exact Or.inr rfl | exact b2i_01 _) ⟨by first | (simp only [sIn]; simp_all [b2i, Int32.not_le, Int32.not_lt]; done) | (unfold sIn; rw [decide_eq_false (Int32.not_le.mpr (by assumption)), Bool.false_and]; rfl), rfl⟩
theorem k_X5_isSteepness {l : Launch} {X : gC} {cc : ByteArray} {own : String} {dd ca sa kc nc pc : Nat} {ls : List (Option Value)} {st : List Value} {σ : Mem} {idx : Nat} {v : Int32} (hC : gOk wX l X cc own dd ca sa) (hlk : Cond.methodLink own idx yX5_isSteepness ∈ TB) (hd : decode cc pc = .ok (.invokestatic idx, 3)) (hdd : 0 + 1 ≤ dd) (hfr : kc + 0 ≤ ca ∧ nc + 0 ≤ sa) (hrest : (st.map fun v => v.category).sum ≤ 8)   (kk : G wX X kc nc (pc + 3) ls (.int (b2i (sIn v (-3) 3)) :: st) (σ)) : G wX X kc nc pc ls (.int v :: st) σ := by
  exact g_cSZ 1 hC (c_X5_isSteepness l v) hlk ⟨tw_2_142, tw_1_1, tw_2_143⟩ (by decide +kernel) ⟨hdd, by decide⟩ hfr rfl rfl hrest rfl hd trivial (fun rr σ1 hq => by obtain ⟨rfl, rfl⟩ := hq; exact kk)
set_option maxRecDepth 100000 in
set_option maxHeartbeats 4000000 in
theorem c_X5_wantStone (l : Launch) (hst : l.stackTraces = false) (s : Int32) : gXV wX l yX5_wantStone (.code yX5_wantStone cX5_wantStone 2 none) 6 1 6 (fun A => [.ref (A 0), .int s]) (fun τ => True) (fun τ τ1 => τ1 = τ ∧ (0 ≤ s ∧ s < τ 0 3)) (fun τ ex τ1 => ex = "java/lang/IndexOutOfBoundsException" ∧ τ1 = τ ∧ (s < 0 ∨ τ 0 3 ≤ s)) := by
  refine gXV_of hst (by decide) (fun A => Nat.le_of_ble_eq_true rfl) ?_
  intro X τ hCX hP hE hX hThr
  have hCX : gOkX wX l X cX5_wantStone "GemCut" 6 1 6 := hCX
  have hC : gOk wX l X cX5_wantStone "GemCut" 6 1 6 := hCX.1
  show G wX X 0 0 0 [some (.ref (gA X 0)), some (.int s)] [] τ
  refine g_ild1 hC dX5_wantStone_0 ?_
  refine g_if_lt 12 hC dX5_wantStone_1 (by decide) (fun c1 => ?_) (fun c1 => ?_)
  · exact th_ioo hCX hThr (show ("GemCut", 226, "there is no such stone") ∈ SRl by decide) dX5_wantStone_12 dX5_wantStone_15 dX5_wantStone_16 dX5_wantStone_18 dX5_wantStone_21 (by decide) (Nat.le_of_ble_eq_true rfl) ⟨by omega, by omega⟩ ⟨by omega, by omega⟩ ⟨rfl, rfl, by simp_all [Int32.not_le, Int32.not_lt]⟩
  · refine g_ild1 hC dX5_wantStone_4 ?_
    refine g_ald0 hC dX5_wantStone_5 ?_
    refine xg_GemCut_stoneCount hC tw_2_14 dX5_wantStone_6 ?_
    refine g_icmp_lt 22 hC dX5_wantStone_9 (by decide) (fun c9 => ?_) (fun c9 => ?_)
    · exact hE _ _ _ _ _ dX5_wantStone_22 (by omega) (by omega) ⟨rfl, by simp_all [Int32.not_le, Int32.not_lt]⟩
    · exact th_ioo hCX hThr (show ("GemCut", 226, "there is no such stone") ∈ SRl by decide) dX5_wantStone_12 dX5_wantStone_15 dX5_wantStone_16 dX5_wantStone_18 dX5_wantStone_21 (by decide) (Nat.le_of_ble_eq_true rfl) ⟨by omega, by omega⟩ ⟨by omega, by omega⟩ ⟨rfl, rfl, by simp_all [Int32.not_le, Int32.not_lt]⟩
set_option maxRecDepth 100000 in
set_option maxHeartbeats 4000000 in
theorem c_X5_wantFlaw (l : Launch) (hst : l.stackTraces = false) (f : Int32) : gXV wX l yX5_wantFlaw (.code yX5_wantFlaw cX5_wantFlaw 2 none) 6 1 6 (fun A => [.ref (A 0), .int f]) (fun τ => True) (fun τ τ1 => τ1 = τ ∧ (0 ≤ f ∧ f < τ 1 6)) (fun τ ex τ1 => ex = "java/lang/IndexOutOfBoundsException" ∧ τ1 = τ ∧ (f < 0 ∨ τ 1 6 ≤ f)) := by
  refine gXV_of hst (by decide) (fun A => Nat.le_of_ble_eq_true rfl) ?_
  intro X τ hCX hP hE hX hThr
  have hCX : gOkX wX l X cX5_wantFlaw "GemCut" 6 1 6 := hCX
  have hC : gOk wX l X cX5_wantFlaw "GemCut" 6 1 6 := hCX.1
  show G wX X 0 0 0 [some (.ref (gA X 0)), some (.int f)] [] τ
  refine g_ild1 hC dX5_wantFlaw_0 ?_
  refine g_if_lt 15 hC dX5_wantFlaw_1 (by decide) (fun c1 => ?_) (fun c1 => ?_)
  · exact th_ioo hCX hThr (show ("GemCut", 224, "there is no such flaw") ∈ SRl by decide) dX5_wantFlaw_15 dX5_wantFlaw_18 dX5_wantFlaw_19 dX5_wantFlaw_21 dX5_wantFlaw_24 (by decide) (Nat.le_of_ble_eq_true rfl) ⟨by omega, by omega⟩ ⟨by omega, by omega⟩ ⟨rfl, rfl, by simp_all [Int32.not_le, Int32.not_lt]⟩
  · refine g_ild1 hC dX5_wantFlaw_4 ?_
    refine g_ald0 hC dX5_wantFlaw_5 ?_
    refine xg_GemCut_rough hC tw_2_11 dX5_wantFlaw_6 ?_
    refine xg_Rough_flawCount hC tw_1_80 dX5_wantFlaw_9 ?_
    refine g_icmp_lt 25 hC dX5_wantFlaw_12 (by decide) (fun c12 => ?_) (fun c12 => ?_)
    · exact hE _ _ _ _ _ dX5_wantFlaw_25 (by omega) (by omega) ⟨rfl, by simp_all [Int32.not_le, Int32.not_lt]⟩
    · exact th_ioo hCX hThr (show ("GemCut", 224, "there is no such flaw") ∈ SRl by decide) dX5_wantFlaw_15 dX5_wantFlaw_18 dX5_wantFlaw_19 dX5_wantFlaw_21 dX5_wantFlaw_24 (by decide) (Nat.le_of_ble_eq_true rfl) ⟨by omega, by omega⟩ ⟨by omega, by omega⟩ ⟨rfl, rfl, by simp_all [Int32.not_le, Int32.not_lt]⟩
set_option maxRecDepth 100000 in
set_option maxHeartbeats 4000000 in
theorem c_X5_wantWhat (l : Launch) (hst : l.stackTraces = false) (w n : Int32) : gXV wX l yX5_wantWhat (.code yX5_wantWhat cX5_wantWhat 2 none) 6 1 6 (fun A => [.int w, .int n]) (fun τ => True) (fun τ τ1 => τ1 = τ ∧ (0 ≤ w ∧ w < n)) (fun τ ex τ1 => ex = "java/lang/IndexOutOfBoundsException" ∧ τ1 = τ ∧ (w < 0 ∨ n ≤ w)) := by
  refine gXV_of hst (by decide) (fun A => Nat.le_of_ble_eq_true rfl) ?_
  intro X τ hCX hP hE hX hThr
  have hCX : gOkX wX l X cX5_wantWhat "GemCut" 6 1 6 := hCX
  have hC : gOk wX l X cX5_wantWhat "GemCut" 6 1 6 := hCX.1
  show G wX X 0 0 0 [some (.int w), some (.int n)] [] τ
  refine g_ild0 hC dX5_wantWhat_0 ?_
  refine g_if_lt 9 hC dX5_wantWhat_1 (by decide) (fun c1 => ?_) (fun c1 => ?_)
  · exact th_ioo hCX hThr (show ("GemCut", 230, "there is no such what") ∈ SRl by decide) dX5_wantWhat_9 dX5_wantWhat_12 dX5_wantWhat_13 dX5_wantWhat_15 dX5_wantWhat_18 (by decide) (Nat.le_of_ble_eq_true rfl) ⟨by omega, by omega⟩ ⟨by omega, by omega⟩ ⟨rfl, rfl, by simp_all [Int32.not_le, Int32.not_lt, b2i]⟩
  · refine g_ild0 hC dX5_wantWhat_4 ?_
    refine g_ild1 hC dX5_wantWhat_5 ?_
    refine g_icmp_lt 19 hC dX5_wantWhat_6 (by decide) (fun c6 => ?_) (fun c6 => ?_)
    · exact hE _ _ _ _ _ dX5_wantWhat_19 (by omega) (by omega) ⟨rfl, by simp_all [Int32.not_le, Int32.not_lt, b2i]⟩
    · exact th_ioo hCX hThr (show ("GemCut", 230, "there is no such what") ∈ SRl by decide) dX5_wantWhat_9 dX5_wantWhat_12 dX5_wantWhat_13 dX5_wantWhat_15 dX5_wantWhat_18 (by decide) (Nat.le_of_ble_eq_true rfl) ⟨by omega, by omega⟩ ⟨by omega, by omega⟩ ⟨rfl, rfl, by simp_all [Int32.not_le, Int32.not_lt, b2i]⟩
set_option maxRecDepth 100000 in
set_option maxHeartbeats 4000000 in
theorem c_X5_wantCell (l : Launch) (hst : l.stackTraces = false) (x y z : Int32) : gXV wX l yX5_wantCell (.code yX5_wantCell cX5_wantCell 4 none) 6 1 6 (fun A => [.ref (A 0), .int x, .int y, .int z]) (fun τ => True) (fun τ τ1 => τ1 = τ ∧ xHolds τ x y z = true) (fun τ ex τ1 => ex = "java/lang/IndexOutOfBoundsException" ∧ τ1 = τ ∧ xHolds τ x y z = false) := by
  refine gXV_of hst (by decide) (fun A => Nat.le_of_ble_eq_true rfl) ?_
  intro X τ hCX hP hE hX hThr
  have hCX : gOkX wX l X cX5_wantCell "GemCut" 6 1 6 := hCX
  have hC : gOk wX l X cX5_wantCell "GemCut" 6 1 6 := hCX.1
  show G wX X 0 0 0 [some (.ref (gA X 0)), some (.int x), some (.int y), some (.int z)] [] τ
  refine g_ald0 hC dX5_wantCell_0 ?_
  refine xg_GemCut_rough hC tw_2_11 dX5_wantCell_1 ?_
  refine g_ild1 hC dX5_wantCell_4 ?_
  refine g_ild2 hC dX5_wantCell_5 ?_
  refine g_ild3 hC dX5_wantCell_6 ?_
  refine k_X2_holds hC tw_2_38 dX5_wantCell_7 (by decide) ⟨by omega, by omega⟩ (Nat.le_of_ble_eq_true rfl) ?_
  refine g_if_ne 23 hC dX5_wantCell_10 (by decide) (fun c10 => ?_) (fun c10 => ?_)
  · exact hE _ _ _ _ _ dX5_wantCell_23 (by omega) (by omega) ⟨rfl, by simp_all [Int32.not_le, Int32.not_lt, b2i]⟩
  · exact th_ioo hCX hThr (show ("GemCut", 221, "there is no such cell in the rough") ∈ SRl by decide) dX5_wantCell_13 dX5_wantCell_16 dX5_wantCell_17 dX5_wantCell_19 dX5_wantCell_22 (by decide) (Nat.le_of_ble_eq_true rfl) ⟨by omega, by omega⟩ ⟨by omega, by omega⟩ ⟨rfl, rfl, by simp_all [Int32.not_le, Int32.not_lt, b2i]⟩
set_option maxRecDepth 100000 in
set_option maxHeartbeats 4000000 in
theorem c_X5_wantPlane (l : Launch) (hst : l.stackTraces = false) (s : Nat) (k : Int32) : gXV wX l yX5_wantPlane (.code yX5_wantPlane cX5_wantPlane 3 none) 6 1 6 (fun A => [.ref (A 0), .int (nI s), .int k]) (fun τ => s < 8) (fun τ τ1 => τ1 = τ ∧ (0 ≤ k ∧ k < τ (iStone s) 2)) (fun τ ex τ1 => ex = "java/lang/IndexOutOfBoundsException" ∧ τ1 = τ ∧ (k < 0 ∨ τ (iStone s) 2 ≤ k)) := by
  refine gXV_of hst (by decide) (fun A => Nat.le_of_ble_eq_true rfl) ?_
  intro X τ hCX hP hE hX hThr
  have hCX : gOkX wX l X cX5_wantPlane "GemCut" 6 1 6 := hCX
  have hC : gOk wX l X cX5_wantPlane "GemCut" 6 1 6 := hCX.1
  show G wX X 0 0 0 [some (.ref (gA X 0)), some (.int (nI s)), some (.int k)] [] τ
  refine g_ild2 hC dX5_wantPlane_0 ?_
  refine g_if_lt 17 hC dX5_wantPlane_1 (by decide) (fun c1 => ?_) (fun c1 => ?_)
  · exact th_ioo hCX hThr (show ("GemCut", 228, "the stone keeps no such plane") ∈ SRl by decide) dX5_wantPlane_17 dX5_wantPlane_20 dX5_wantPlane_21 dX5_wantPlane_23 dX5_wantPlane_26 (by decide) (Nat.le_of_ble_eq_true rfl) ⟨by omega, by omega⟩ ⟨by omega, by omega⟩ ⟨rfl, rfl, by simp_all [Int32.not_le, Int32.not_lt, b2i]⟩
  · refine g_ild2 hC dX5_wantPlane_4 ?_
    refine g_ald0 hC dX5_wantPlane_5 ?_
    refine xg_GemCut_stones hC tw_2_12 dX5_wantPlane_6 ?_
    refine g_ild1 hC dX5_wantPlane_9 ?_
    refine xl_stonesA s hC rfl hP dX5_wantPlane_10 ?_
    refine xg_Stone_planeCount hC (by first | assumption | omega | exact xk_pl _ (by assumption) _ (by omega) | decide) tw_1_147 dX5_wantPlane_11 ?_
    refine g_icmp_lt 27 hC dX5_wantPlane_14 (by decide) (fun c14 => ?_) (fun c14 => ?_)
    · exact hE _ _ _ _ _ dX5_wantPlane_27 (by omega) (by omega) ⟨rfl, by simp_all [Int32.not_le, Int32.not_lt, b2i]⟩
    · exact th_ioo hCX hThr (show ("GemCut", 228, "the stone keeps no such plane") ∈ SRl by decide) dX5_wantPlane_17 dX5_wantPlane_20 dX5_wantPlane_21 dX5_wantPlane_23 dX5_wantPlane_26 (by decide) (Nat.le_of_ble_eq_true rfl) ⟨by omega, by omega⟩ ⟨by omega, by omega⟩ ⟨rfl, rfl, by simp_all [Int32.not_le, Int32.not_lt, b2i]⟩
set_option maxRecDepth 100000 in
set_option maxHeartbeats 4000000 in
theorem c_X5_wantSlope (l : Launch) (hst : l.stackTraces = false) (p q r : Int32) : gXV wX l yX5_wantSlope (.code yX5_wantSlope cX5_wantSlope 3 none) 6 1 6 (fun A => [.int p, .int q, .int r]) (fun τ => True) (fun τ τ1 => τ1 = τ ∧ (sIn p (-3) 3 = true ∧ sIn q (-3) 3 = true ∧ sIn r (-3) 3 = true ∧ ¬ (p = 0 ∧ q = 0 ∧ r = 0))) (fun τ ex τ1 => ex = "java/lang/IllegalArgumentException" ∧ τ1 = τ ∧ ¬ (sIn p (-3) 3 = true ∧ sIn q (-3) 3 = true ∧ sIn r (-3) 3 = true ∧ ¬ (p = 0 ∧ q = 0 ∧ r = 0))) := by
  refine gXV_of hst (by decide) (fun A => Nat.le_of_ble_eq_true rfl) ?_
  intro X τ hCX hP hE hX hThr
  have hCX : gOkX wX l X cX5_wantSlope "GemCut" 6 1 6 := hCX
  have hC : gOk wX l X cX5_wantSlope "GemCut" 6 1 6 := hCX.1
  show G wX X 0 0 0 [some (.int p), some (.int q), some (.int r)] [] τ
  refine g_ild0 hC dX5_wantSlope_0 ?_
  refine k_X5_isSteepness hC tw_2_141 dX5_wantSlope_1 (by decide) ⟨by omega, by omega⟩ (Nat.le_of_ble_eq_true rfl) ?_
  refine g_if_eq 33 hC dX5_wantSlope_4 (by decide) (fun c4 => ?_) (fun c4 => ?_)
  · exact th_iae hCX hThr (show ("GemCut", 235, "p, q or r is not -3 to 3, or all are 0") ∈ SRl by decide) dX5_wantSlope_33 dX5_wantSlope_36 dX5_wantSlope_37 dX5_wantSlope_39 dX5_wantSlope_42 (by decide) (Nat.le_of_ble_eq_true rfl) ⟨by omega, by omega⟩ ⟨by omega, by omega⟩ ⟨rfl, rfl, by simp_all [Int32.not_le, Int32.not_lt, b2i]⟩
  · refine g_ild1 hC dX5_wantSlope_7 ?_
    refine k_X5_isSteepness hC tw_2_141 dX5_wantSlope_8 (by decide) ⟨by omega, by omega⟩ (Nat.le_of_ble_eq_true rfl) ?_
    refine g_if_eq 33 hC dX5_wantSlope_11 (by decide) (fun c11 => ?_) (fun c11 => ?_)
    · exact th_iae hCX hThr (show ("GemCut", 235, "p, q or r is not -3 to 3, or all are 0") ∈ SRl by decide) dX5_wantSlope_33 dX5_wantSlope_36 dX5_wantSlope_37 dX5_wantSlope_39 dX5_wantSlope_42 (by decide) (Nat.le_of_ble_eq_true rfl) ⟨by omega, by omega⟩ ⟨by omega, by omega⟩ ⟨rfl, rfl, by simp_all [Int32.not_le, Int32.not_lt, b2i]⟩
    · refine g_ild2 hC dX5_wantSlope_14 ?_
      refine k_X5_isSteepness hC tw_2_141 dX5_wantSlope_15 (by decide) ⟨by omega, by omega⟩ (Nat.le_of_ble_eq_true rfl) ?_
      refine g_if_eq 33 hC dX5_wantSlope_18 (by decide) (fun c18 => ?_) (fun c18 => ?_)
      · exact th_iae hCX hThr (show ("GemCut", 235, "p, q or r is not -3 to 3, or all are 0") ∈ SRl by decide) dX5_wantSlope_33 dX5_wantSlope_36 dX5_wantSlope_37 dX5_wantSlope_39 dX5_wantSlope_42 (by decide) (Nat.le_of_ble_eq_true rfl) ⟨by omega, by omega⟩ ⟨by omega, by omega⟩ ⟨rfl, rfl, by simp_all [Int32.not_le, Int32.not_lt, b2i]⟩
      · refine g_ild0 hC dX5_wantSlope_21 ?_
        refine g_if_ne 43 hC dX5_wantSlope_22 (by decide) (fun c22 => ?_) (fun c22 => ?_)
        · exact hE _ _ _ _ _ dX5_wantSlope_43 (by omega) (by omega) ⟨rfl, by simp_all [Int32.not_le, Int32.not_lt, b2i]⟩
        · refine g_ild1 hC dX5_wantSlope_25 ?_
          refine g_if_ne 43 hC dX5_wantSlope_26 (by decide) (fun c26 => ?_) (fun c26 => ?_)
          · exact hE _ _ _ _ _ dX5_wantSlope_43 (by omega) (by omega) ⟨rfl, by simp_all [Int32.not_le, Int32.not_lt, b2i]⟩
          · refine g_ild2 hC dX5_wantSlope_29 ?_
            refine g_if_ne 43 hC dX5_wantSlope_30 (by decide) (fun c30 => ?_) (fun c30 => ?_)
            · exact hE _ _ _ _ _ dX5_wantSlope_43 (by omega) (by omega) ⟨rfl, by simp_all [Int32.not_le, Int32.not_lt, b2i]⟩
            · exact th_iae hCX hThr (show ("GemCut", 235, "p, q or r is not -3 to 3, or all are 0") ∈ SRl by decide) dX5_wantSlope_33 dX5_wantSlope_36 dX5_wantSlope_37 dX5_wantSlope_39 dX5_wantSlope_42 (by decide) (Nat.le_of_ble_eq_true rfl) ⟨by omega, by omega⟩ ⟨by omega, by omega⟩ ⟨rfl, rfl, by simp_all [Int32.not_le, Int32.not_lt, b2i]⟩
