/-! for the public methods that change something -/
theorem side_nI {v : Int32} (h : sIn v 1 10 = true) : ∃ a, (1 ≤ a ∧ a ≤ 10) ∧ v = nI a := by
  simp only [sIn, Bool.and_eq_true, decide_eq_true_eq] at h
  obtain ⟨h1, h2⟩ := h
  obtain ⟨j, hj, rfl⟩ := nI_of (x := v) (fun h3 => by
    rw [Int32.lt_iff_toInt_lt, show ((0 : Int32)).toInt = 0 by decide] at h3
    rw [Int32.le_iff_toInt_le, show ((1 : Int32)).toInt = 1 by decide] at h1
    omega)
  exact ⟨j, ⟨(nI_leI (a := 1) (by omega) hj).mp h1, (nI_leI (b := 10) hj (by omega)).mp h2⟩, rfl⟩
theorem rng_lo {v lo hi : Int32} (a b : Nat) (ha : a < 100) (hb : b < 100) (e1 : lo = nI a) (e2 : hi = nI b) (h1 : ¬ v < lo) (h2 : v ≤ hi) : ∃ j, a ≤ j ∧ j ≤ b ∧ v = nI j := by
  subst e1; subst e2
  obtain ⟨j, hj, rfl⟩ := nI_of (x := v) (fun h3 => h1 (by
    rw [Int32.lt_iff_toInt_lt, show ((0 : Int32)).toInt = 0 by decide] at h3
    rw [Int32.lt_iff_toInt_lt, nI_toInt (by omega)]
    omega))
  have h4 : ¬ j < a := fun hh => h1 ((nI_ltI hj (by omega)).mpr hh)
  exact ⟨j, by omega, (nI_leI hj (by omega)).mp h2, rfl⟩
theorem cell_nI {t : Mem} (hM : MI t) {x y z : Int32} (h : sCell t x y z = true) : ∃ a b c, a < nC t ∧ b < nR t ∧ c < nL t ∧ x = nI a ∧ y = nI b ∧ z = nI c := by
  obtain ⟨⟨e1, a1, a2⟩, ⟨e2, b1, b2⟩, ⟨e3, d1, d2⟩⟩ := MI_C hM
  simp only [sCell, Bool.and_eq_true, e1, e2, e3] at h
  obtain ⟨⟨h1, h2⟩, h3⟩ := h
  obtain ⟨j1, p1, f1⟩ := (sIn_nI a1 (by omega)).mp h1
  obtain ⟨j2, p2, f2⟩ := (sIn_nI b1 (by omega)).mp h2
  obtain ⟨j3, p3, f3⟩ := (sIn_nI d1 (by omega)).mp h3
  exact ⟨j1, j2, j3, p1, p2, p3, f1, f2, f3⟩
theorem sv_size {σ t : Mem} (hR : RS σ t) : xSize σ = nI (NN t) ∧ NN t ≤ 1000 := by
  obtain ⟨⟨e1, a1, a2⟩, ⟨e2, b1, b2⟩, ⟨e3, d1, d2⟩⟩ := MI_C hR.1
  have hb := hR.2.2.2.1.1
  constructor
  · show σ 1 0 * σ 1 1 * σ 1 2 = _
    rw [hb.1, hb.2.1, hb.2.2.1, e1, e2, e3, nI_mul', nI_mul']; rfl
  · unfold NN
    exact Nat.mul_le_mul (Nat.mul_le_mul a2 b2) d2
theorem pb_8 {t : Mem} (hM : MI t) : (8 ≤ nI (nS t) → t 0 7 = 8) ∧ (¬ 8 ≤ nI (nS t) → nS t < 8 ∧ ¬ t 0 7 = 8) := by
  obtain ⟨h1, h2, h3⟩ := MI_S hM
  rw [h1]
  refine ⟨fun h => ?_, fun h => ?_⟩
  · have := (nI_leI (a := 8) (by omega) (by omega)).mp h
    rw [show nS t = 8 by omega]; decide
  · have h4 : ¬ 8 ≤ nS t := fun hh => h ((nI_leI (a := 8) (by omega) (by omega)).mpr hh)
    exact ⟨by omega, fun hh => h4 (Nat.le_of_eq ((nI_eq (a := 8) (by omega) (by omega)).mp hh.symm))⟩
theorem pb_16 {t : Mem} (hM : MI t) (h6 : M16 t) {s : Nat} (hs : s < 8) : (16 ≤ nI (nP t s) → t 4 s = 16) ∧ (¬ 16 ≤ nI (nP t s) → nP t s < 16 ∧ ¬ t 4 s = 16) := by
  obtain ⟨h1, h2⟩ := MI_P hM hs
  have h3 := h6 s hs
  rw [h1]
  refine ⟨fun h => ?_, fun h => ?_⟩
  · have := (nI_leI (a := 16) (by omega) (by omega)).mp h
    rw [show nP t s = 16 by omega]; decide
  · have h4 : ¬ 16 ≤ nP t s := fun hh => h ((nI_leI (a := 16) (by omega) (by omega)).mpr hh)
    exact ⟨by omega, fun hh => h4 (Nat.le_of_eq ((nI_eq (a := 16) (by omega) (by omega)).mp hh.symm))⟩
theorem pb_10 {t : Mem} (hM : MI t) : (nI (nF t) < 10 → nF t < 10 ∧ ¬ t 0 5 = 10) ∧ (¬ nI (nF t) < 10 → t 0 5 = 10) := by
  obtain ⟨h1, h2⟩ := MI_F hM
  rw [h1]
  refine ⟨fun h => ?_, fun h => ?_⟩
  · have h4 := (nI_ltI (b := 10) (by omega) (by omega)).mp h
    exact ⟨h4, fun hh => by have := (nI_eq (b := 10) (by omega) (by omega)).mp hh; omega⟩
  · have h4 : ¬ nF t < 10 := fun hh => h ((nI_ltI (b := 10) (by omega) (by omega)).mpr hh)
    rw [show nF t = 10 by omega]; decide
theorem fct_pos {t : Mem} {s k : Nat} : sFacet t s k = false ↔ nI (sTouch t s k) = 0 := by
  have h1 : sTouch t s k ≤ 1000 := cnt_le _ _
  unfold sFacet
  rw [decide_eq_false_iff_not, nI_pos0 h1]
  constructor
  · intro h; rw [show sTouch t s k = 0 by omega]; decide
  · intro h
    have := (nI_eq (b := 0) (show sTouch t s k < 2 ^ 31 by omega) (by omega)).mp h
    omega

set_option maxRecDepth 100000 in
set_option maxHeartbeats 4000000 in
theorem c_X5_take (l : Launch) (hst : l.stackTraces = false) (t : Mem) (co ro la : Int32) : gXI wX l yX5_take (.code yX5_take cX5_take 4 (some FieldType.int)) 7 1 6 (fun A => [.ref (A 0), .int co, .int ro, .int la]) (fun τ => RS τ t ∧ t 0 0 = 0) (fun τ rr τ1 => xOk (mTake t co ro la) rr τ1) (fun τ ex τ1 => xcT (mTake t co ro la) t ex ∧ RS τ1 t) := by
  refine gXI_of hst (by decide) (fun A => Nat.le_of_ble_eq_true rfl) ?_
  intro X τ hCX hP hE hX hThr
  have hCX : gOkX wX l X cX5_take "GemCut" 7 1 6 := hCX
  have hC : gOk wX l X cX5_take "GemCut" 7 1 6 := hCX.1
  show G wX X 0 0 0 [some (.ref (gA X 0)), some (.int co), some (.int ro), some (.int la)] [] τ
  obtain ⟨hR, ht0⟩ := hP
  have hT := mTh_id ht0
  refine g_ild1 hC dX5_take_0 ?_
  refine k_X5_isSide hC tw_3_173 dX5_take_1 (by decide) ⟨by omega, by omega⟩ (Nat.le_of_ble_eq_true rfl) ?_
  refine g_if_eq 21 hC dX5_take_4 (by decide) (fun c4 => ?_) (fun c4 => ?_)
  · exact th_iae hCX hThr (show ("GemCut", 44, "a side of the rough is not 1 to 10") ∈ SRl by decide) dX5_take_21 dX5_take_24 dX5_take_25 dX5_take_27 dX5_take_30 (by decide) (Nat.le_of_ble_eq_true rfl) ⟨by omega, by omega⟩ ⟨by omega, by omega⟩ ⟨⟨rfl, by (try simp only [ne_eq, b2i_eq0, Bool.not_eq_false, Int32.not_le, Int32.not_lt, Int32.zero_sub] at c4); unfold mTake; rw [hT, if_neg (fun h => by simp_all)]⟩, hR⟩
  · refine g_ild2 hC dX5_take_7 ?_
    refine k_X5_isSide hC tw_3_173 dX5_take_8 (by decide) ⟨by omega, by omega⟩ (Nat.le_of_ble_eq_true rfl) ?_
    refine g_if_eq 21 hC dX5_take_11 (by decide) (fun c11 => ?_) (fun c11 => ?_)
    · exact th_iae hCX hThr (show ("GemCut", 44, "a side of the rough is not 1 to 10") ∈ SRl by decide) dX5_take_21 dX5_take_24 dX5_take_25 dX5_take_27 dX5_take_30 (by decide) (Nat.le_of_ble_eq_true rfl) ⟨by omega, by omega⟩ ⟨by omega, by omega⟩ ⟨⟨rfl, by (try simp only [ne_eq, b2i_eq0, Bool.not_eq_false, Int32.not_le, Int32.not_lt, Int32.zero_sub] at c4 c11); unfold mTake; rw [hT, if_neg (fun h => by simp_all)]⟩, hR⟩
    · refine g_ild3 hC dX5_take_14 ?_
      refine k_X5_isSide hC tw_3_173 dX5_take_15 (by decide) ⟨by omega, by omega⟩ (Nat.le_of_ble_eq_true rfl) ?_
      refine g_if_ne 31 hC dX5_take_18 (by decide) (fun c18 => ?_) (fun c18 => ?_)
      · (try simp only [ne_eq, b2i_eq0, Bool.not_eq_false] at c4 c11 c18)
        obtain ⟨a, ha, rfl⟩ := side_nI c4
        obtain ⟨b, hb, rfl⟩ := side_nI c11
        obtain ⟨d, hd, rfl⟩ := side_nI c18
        have hB := beg_RM hR.1 hR.2.2.1 ha hb hd
        refine g_ald0 hC dX5_take_31 ?_
        refine g_ild1 hC dX5_take_32 ?_
        refine g_ild2 hC dX5_take_33 ?_
        refine g_ild3 hC dX5_take_34 ?_
        refine k_X5_beginRough (t := gBegin t (nI a) (nI b) (nI d)) (co := a) (ro := b) (la := d) hC tw_1_191 dX5_take_35 (by decide) ⟨by omega, by omega⟩ (Nat.le_of_ble_eq_true rfl) ⟨hB.1.1, hB.1.2.1, hB.1.2.2, hB.2, ⟨ha.2, hb.2, hd.2⟩, Nat.mul_le_mul (Nat.mul_le_mul ha.2 hb.2) hd.2, hR.2.2.2.1.2.2.1⟩ ?_
        intro σ1 hR1
        refine g_ald0 hC dX5_take_38 ?_
        refine xg_GemCut_rough hC tw_2_11 dX5_take_39 ?_
        refine k_X2_size hC tw_3_60 dX5_take_42 (by decide) ⟨by omega, by omega⟩ (Nat.le_of_ble_eq_true rfl) ?_
        have hm : mTake t (nI a) (nI b) (nI d) = (nI a * nI b * nI d, gBegin t (nI a) (nI b) (nI d)) := by unfold mTake; rw [hT, if_pos ⟨c4, c11, c18⟩]
        exact hE _ _ _ _ _ _ dX5_take_45 (by omega) (by omega) ⟨by rw [hm]; show σ1 1 0 * σ1 1 1 * σ1 1 2 = _; rw [hR1.2.2.2.1.1.1, hR1.2.2.2.1.1.2.1, hR1.2.2.2.1.1.2.2.1, hB.2.1, hB.2.2.1, hB.2.2.2.1], by rw [hm]; exact hR1, by rw [hm]; exact (by show gBegin t (nI a) (nI b) (nI d) 0 0 = 0; simp [gBegin, gCells, upd2, ht0])⟩
      · exact th_iae hCX hThr (show ("GemCut", 44, "a side of the rough is not 1 to 10") ∈ SRl by decide) dX5_take_21 dX5_take_24 dX5_take_25 dX5_take_27 dX5_take_30 (by decide) (Nat.le_of_ble_eq_true rfl) ⟨by omega, by omega⟩ ⟨by omega, by omega⟩ ⟨⟨rfl, by (try simp only [ne_eq, b2i_eq0, Bool.not_eq_false, Int32.not_le, Int32.not_lt, Int32.zero_sub] at c4 c11 c18); unfold mTake; rw [hT, if_neg (fun h => by simp_all)]⟩, hR⟩
set_option maxRecDepth 100000 in
set_option maxHeartbeats 4000000 in
theorem c_X5_flaw (l : Launch) (hst : l.stackTraces = false) (t : Mem) (x y z ra se : Int32) : gXI wX l yX5_flaw (.code yX5_flaw cX5_flaw 6 (some FieldType.int)) 7 2 12 (fun A => [.ref (A 0), .int x, .int y, .int z, .int ra, .int se]) (fun τ => RS τ t ∧ t 0 0 = 0) (fun τ rr τ1 => xOk (mFlaw t x y z ra se) rr τ1) (fun τ ex τ1 => xc3 (mFlaw t x y z ra se) t ex ∧ RS τ1 t) := by
  refine gXI_of hst (by decide) (fun A => Nat.le_of_ble_eq_true rfl) ?_
  intro X τ hCX hP hE hX hThr
  have hCX : gOkX wX l X cX5_flaw "GemCut" 7 2 12 := hCX
  have hC : gOk wX l X cX5_flaw "GemCut" 7 2 12 := hCX.1
  show G wX X 0 0 0 [some (.ref (gA X 0)), some (.int x), some (.int y), some (.int z), some (.int ra), some (.int se)] [] τ
  obtain ⟨hR, ht0⟩ := hP
  have hT := mTh_id ht0
  refine g_ald0 hC dX5_flaw_0 ?_
  refine g_ild1 hC dX5_flaw_1 ?_
  refine g_ild2 hC dX5_flaw_2 ?_
  refine g_ild3 hC dX5_flaw_3 ?_
  refine k_X5_wantCell  hCX tw_2_34 dX5_flaw_4 (by decide) ⟨by omega, by omega⟩ (Nat.le_of_ble_eq_true rfl)  (fun hq => ?_) (fun ex σ1 hq => hX _ _ _ _ _ _ _ (by obtain ⟨e1, e2, e3⟩ := hq; exact ⟨Or.inl ⟨e1, (by unfold mFlaw; rw [hT, if_neg (fun h => by rw [holds_cell hR.1 hR.2.2.2.1, h] at e3; exact Bool.noConfusion e3)])⟩, by rw [e2]; exact hR⟩) (by omega) (by omega))
  have hc : sCell t x y z = true := by rw [← holds_cell hR.1 hR.2.2.2.1]; exact hq
  refine g_ild4 hC dX5_flaw_7 ?_
  refine g_if_lt 31 hC dX5_flaw_9 (by decide) (fun c9 => ?_) (fun c9 => ?_)
  · exact th_iae hCX hThr (show ("GemCut", 56, "radius is not 0 to 3, or severity is not 1 to 9") ∈ SRl by decide) dX5_flaw_31 dX5_flaw_34 dX5_flaw_35 dX5_flaw_37 dX5_flaw_40 (by decide) (Nat.le_of_ble_eq_true rfl) ⟨by omega, by omega⟩ ⟨by omega, by omega⟩ ⟨Or.inr (Or.inl ⟨rfl, by unfold mFlaw; rw [hT, if_pos hc, if_neg (fun h => by
        simp only [sIn, Bool.and_eq_true, decide_eq_true_eq] at h
        first | exact absurd c9 (Int32.not_lt.mpr h.1.1) | exact absurd c15 (Int32.not_lt.mpr h.1.2) | exact absurd c21 (Int32.not_lt.mpr h.2.1) | exact absurd h.2.2 c28)]⟩), hR⟩
  · refine g_ild4 hC dX5_flaw_12 ?_
    refine g_iconst 3 hC dX5_flaw_14 (by decide) ?_
    refine g_icmp_gt 31 hC dX5_flaw_15 (by decide) (fun c15 => ?_) (fun c15 => ?_)
    · exact th_iae hCX hThr (show ("GemCut", 56, "radius is not 0 to 3, or severity is not 1 to 9") ∈ SRl by decide) dX5_flaw_31 dX5_flaw_34 dX5_flaw_35 dX5_flaw_37 dX5_flaw_40 (by decide) (Nat.le_of_ble_eq_true rfl) ⟨by omega, by omega⟩ ⟨by omega, by omega⟩ ⟨Or.inr (Or.inl ⟨rfl, by unfold mFlaw; rw [hT, if_pos hc, if_neg (fun h => by
          simp only [sIn, Bool.and_eq_true, decide_eq_true_eq] at h
          first | exact absurd c9 (Int32.not_lt.mpr h.1.1) | exact absurd c15 (Int32.not_lt.mpr h.1.2) | exact absurd c21 (Int32.not_lt.mpr h.2.1) | exact absurd h.2.2 c28)]⟩), hR⟩
    · refine g_ild5 hC dX5_flaw_18 ?_
      refine g_iconst 1 hC dX5_flaw_20 (by decide) ?_
      refine g_icmp_lt 31 hC dX5_flaw_21 (by decide) (fun c21 => ?_) (fun c21 => ?_)
      · exact th_iae hCX hThr (show ("GemCut", 56, "radius is not 0 to 3, or severity is not 1 to 9") ∈ SRl by decide) dX5_flaw_31 dX5_flaw_34 dX5_flaw_35 dX5_flaw_37 dX5_flaw_40 (by decide) (Nat.le_of_ble_eq_true rfl) ⟨by omega, by omega⟩ ⟨by omega, by omega⟩ ⟨Or.inr (Or.inl ⟨rfl, by unfold mFlaw; rw [hT, if_pos hc, if_neg (fun h => by
            simp only [sIn, Bool.and_eq_true, decide_eq_true_eq] at h
            first | exact absurd c9 (Int32.not_lt.mpr h.1.1) | exact absurd c15 (Int32.not_lt.mpr h.1.2) | exact absurd c21 (Int32.not_lt.mpr h.2.1) | exact absurd h.2.2 c28)]⟩), hR⟩
      · refine g_ild5 hC dX5_flaw_24 ?_
        refine g_bipush 9 hC dX5_flaw_26 (by decide) ?_
        refine g_icmp_le 41 hC dX5_flaw_28 (by decide) (fun c28 => ?_) (fun c28 => ?_)
        · have hrs : sIn ra 0 3 = true ∧ sIn se 1 9 = true := by
            simp only [sIn, Bool.and_eq_true, decide_eq_true_eq]
            exact ⟨⟨Int32.not_lt.mp c9, Int32.not_lt.mp c15⟩, Int32.not_lt.mp c21, c28⟩
          refine g_ald0 hC dX5_flaw_41 ?_
          refine xg_GemCut_rough hC tw_2_11 dX5_flaw_42 ?_
          refine xg_Rough_flawCount hC tw_1_80 dX5_flaw_45 ?_
          rw [pb_F hR]
          refine g_bipush 10 hC dX5_flaw_48 (by decide) ?_
          refine g_icmp_lt 63 hC dX5_flaw_50 (by decide) (fun c50 => ?_) (fun c50 => ?_)
          · have h10 := (pb_10 hR.1).1 c50
            have hRb := hR.2.2.2.1.1
            obtain ⟨⟨hC1, -, hC1b⟩, ⟨hC2, -, hC2b⟩, ⟨hC3, -, hC3b⟩⟩ := MI_C hR.1
            obtain ⟨a, b, d, ha, hb, hd, rfl, rfl, rfl⟩ := cell_nI hR.1 hc
            obtain ⟨e, -, he, rfl⟩ := rng_lo 0 3 (by decide) (by decide) (by decide) (by decide) c9 (Int32.not_lt.mp c15)
            obtain ⟨g, hg1, hg2, rfl⟩ := rng_lo 1 9 (by decide) (by decide) (by decide) (by decide) c21 c28
            refine g_ald0 hC dX5_flaw_63 ?_
            refine xg_GemCut_rough hC tw_2_11 dX5_flaw_64 ?_
            refine g_ild1 hC dX5_flaw_67 ?_
            refine g_ild2 hC dX5_flaw_68 ?_
            refine g_ild3 hC dX5_flaw_69 ?_
            refine g_ild4 hC dX5_flaw_70 ?_
            refine g_ild5 hC dX5_flaw_72 ?_
            refine k_X2_addFlaw (f := nF t) (co := nC t) (ro := nR t) (la := nL t) (x := a) (y := b) (z := d) (r := e) (v := g) hC tw_3_211 dX5_flaw_74 (by decide) ⟨by omega, by omega⟩ (Nat.le_of_ble_eq_true rfl) ⟨h10.1, hRb.1.trans hC1, hRb.2.1.trans hC2, hRb.2.2.1.trans hC3, pb_F hR, ha, hb, hd, hC1b, hC2b, hC3b, by omega⟩ ?_
            intro σ1 hq
            have hR1 := fw_RS hR h10.1 ha hb hd he (⟨hg1, hg2⟩) hq
            have hf1 : σ1 1 6 = nI (nF t + 1) := by rw [hR1.2.2.2.1.1.2.2.2.1]; exact (fw_nF hR.1 h10.1).1
            refine g_ald0 hC dX5_flaw_77 ?_
            refine xg_GemCut_rough hC tw_2_11 dX5_flaw_78 ?_
            refine xg_Rough_flawCount hC tw_1_80 dX5_flaw_81 ?_
            rw [hf1]
            refine g_iconst 1 hC dX5_flaw_84 (by decide) ?_
            refine g_isub hC dX5_flaw_85 ?_
            rw [nI_pred]
            have hm : mFlaw t (nI a) (nI b) (nI d) (nI e) (nI g) = (nI (nF t), gFlaw t (nI a) (nI b) (nI d) (nI e) (nI g)) := by unfold mFlaw; rw [hT, if_pos hc, if_pos hrs, if_neg h10.2, (MI_F hR.1).1]
            exact hE _ _ _ _ _ _ dX5_flaw_86 (by omega) (by omega) ⟨by rw [hm], by rw [hm]; exact hR1, by rw [hm]; exact (by show gFlaw t (nI a) (nI b) (nI d) (nI e) (nI g) 0 0 = 0; simp [gFlaw, ht0])⟩
          · exact th_ise hCX hThr (show ("GemCut", 64, "there are 10 flaws") ∈ SRl by decide) dX5_flaw_53 dX5_flaw_56 dX5_flaw_57 dX5_flaw_59 dX5_flaw_62 (by decide) (Nat.le_of_ble_eq_true rfl) ⟨by omega, by omega⟩ ⟨by omega, by omega⟩ ⟨Or.inr (Or.inr ⟨rfl, by unfold mFlaw; rw [hT, if_pos hc, if_pos hrs, if_pos ((pb_10 hR.1).2 c50)]⟩), hR⟩
        · exact th_iae hCX hThr (show ("GemCut", 56, "radius is not 0 to 3, or severity is not 1 to 9") ∈ SRl by decide) dX5_flaw_31 dX5_flaw_34 dX5_flaw_35 dX5_flaw_37 dX5_flaw_40 (by decide) (Nat.le_of_ble_eq_true rfl) ⟨by omega, by omega⟩ ⟨by omega, by omega⟩ ⟨Or.inr (Or.inl ⟨rfl, by unfold mFlaw; rw [hT, if_pos hc, if_neg (fun h => by
              simp only [sIn, Bool.and_eq_true, decide_eq_true_eq] at h
              first | exact absurd c9 (Int32.not_lt.mpr h.1.1) | exact absurd c15 (Int32.not_lt.mpr h.1.2) | exact absurd c21 (Int32.not_lt.mpr h.2.1) | exact absurd h.2.2 c28)]⟩), hR⟩
