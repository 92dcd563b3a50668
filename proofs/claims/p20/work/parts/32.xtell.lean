/-! what is told of the class's stones and flaws -/
section TL
variable {τ t : Mem}
theorem rs_fct (h : RS τ t) {s k : Nat} (hs : s < nS t) (hk : k < nP t s) : xFct τ (iPl s k) = sFacet t s k := by
  unfold xFct sFacet
  rw [h.2.2.2.2.2.1 s k hs hk]
theorem rs_facets (h : RS τ t) {s : Nat} (hs : s < nS t) (po : Bool) : cnt (xFacP τ s po) (nP t s) = sFacets t s po := by
  refine cnt_congr _ (fun k hk => ?_)
  unfold xFacP pFacets
  rw [rs_fct h hs hk, (h.2.2.2.1.2.2.2.2.1 s k hs hk).2.2]
  congr 1
  rcases (h.2.1.2.2 s k hs hk).2 with e | e <;> rw [e] <;> cases po <;> decide
theorem rs_opp (h : RS τ t) {s a b : Nat} (hs : s < nS t) (ha : a < nP t s) (hb : b < nP t s) : xOpp τ (iPl s a) (iPl s b) = sOpp t s b a 3 :=
  opp_at (fun w hw => (h.2.2.2.1.2.2.2.2.1 s a hs ha).1 w (by omega)) (fun w hw => (h.2.2.2.1.2.2.2.2.1 s b hs hb).1 w (by omega))
theorem rs_pairs (h : RS τ t) {s : Nat} (hs : s < nS t) : xPairs τ s (nP t s) = sPairs t s := by
  unfold sPairs
  rw [tri]
  refine sumN_congr _ (fun a ha => cnt_congr _ (fun j hj => ?_))
  unfold xPairP pPair
  rw [rs_fct h hs ha, rs_fct h hs (show a + 1 + j < nP t s by omega), rs_opp h hs ha (by omega)]
  cases sFacet t s a <;> cases sFacet t s (a + 1 + j) <;> simp
theorem rs_state (h : RS τ t) {f s : Nat} (hf : f < nF t) (hs : s < nS t) : xState τ f s = sFt t f (nI s) 2 := by
  obtain ⟨e1, e2⟩ := h.2.2.2.2.2.2.2 f s hf hs
  unfold xState sFt
  rw [e1, e2, if_neg (show ¬ (2 : Int32) < 2 by decide)]
theorem rs_pts (h : RS τ t) {k : Nat} (s : Int32) (hk : k < nF t) : sPts t s k + xPts τ k (sFt t k s 2) = sPts t s (k + 1) := by
  show _ = sPts t s k + _
  congr 1
  unfold xPts
  rw [(h.2.2.2.1.2.2.2.2.2 k hk).1]
theorem rs_pc (h : RS τ t) {s : Nat} (hs : s < nS t) : τ (iStone s) 2 = nI (nP t s) := by
  rw [h.2.2.2.1.2.2.2.1 s hs]; exact (MI_P h.1 (by have := (MI_S h.1).2.2; omega)).1
theorem rs_nm (h : RS τ t) {s : Nat} (hs : s < nS t) : τ (iStone s) 0 = nI s := h.2.2.2.1.2.2.1 s (by have := (MI_S h.1).2.2; omega)
theorem rs_tell (h : RS τ t) {s k w : Nat} (hs : s < nS t) (hk : k < nP t s) (hw : w < 6) : xTell τ (iPl s k) w = sPt t s k w := by
  obtain ⟨b1, b2, b3⟩ := h.2.2.2.1.2.2.2.2.1 s k hs hk
  have b4 := h.2.2.2.2.2.1 s k hs hk
  rcases (show w = 0 ∨ w = 1 ∨ w = 2 ∨ w = 3 ∨ w = 4 ∨ w = 5 by omega) with rfl | rfl | rfl | rfl | rfl | rfl
  · exact b1 0 (by decide)
  · exact b1 1 (by decide)
  · exact b1 2 (by decide)
  · exact b1 3 (by decide)
  · exact b4
  · show b2i (!(τ (iPl s k) 5 == 0)) = sPl t s k 4
    rw [b3]
    rcases (h.2.1.2.2 s k hs hk).2 with e | e <;> rw [e] <;> decide
theorem sCtv_1 (k : Nat) : sCtv t 1 k = nI (sWt t (nI k)) := rfl
theorem sumI_s (g : Nat → Int32) (n : Nat) : sumI g n + g n = sumI g (n + 1) := rfl
end TL

set_option maxRecDepth 100000 in
set_option maxHeartbeats 4000000 in
/-- X5_flawsOfState -/
theorem c_X5_flawsOfState (l : Launch) (t : Mem) (s : Nat) (how : Int32) : gMI wX l yX5_flawsOfState (.code yX5_flawsOfState cX5_flawsOfState 5 (some FieldType.int)) 1 0 0 (fun A => [.ref (A 0), .int (nI s), .int how]) (fun τ => s < nS t ∧ RS τ t) (fun τ rr τ1 => rr = nI (sFin t (nI s) how) ∧ τ1 = τ) := by
  refine gMI_of (by decide) (fun A => Nat.le_of_ble_eq_true rfl) ?_
  intro X τ hC hP hE
  have hC : gOk wX l X cX5_flawsOfState "GemCut" 1 0 0 := hC
  show G wX X 0 0 0 [some (.ref (gA X 0)), some (.int (nI s)), some (.int how), none, none] [] τ
  obtain ⟨hs, hRS⟩ := hP
  have hM : MI t := hRS.1
  have hs8 : s < 8 := Nat.lt_of_lt_of_le hs (MI_S hM).2.2
  have hn16 : nP t s ≤ 16 := hRS.2.2.1 s hs8
  have hRb := hRS.2.2.2.1
  obtain ⟨hF1, hF2⟩ := MI_F hM
  have hfc : τ 1 6 = nI (nF t) := by rw [hRb.1.2.2.2.1]; exact hF1
  have lp : ∀ (m k : Nat), k + m = (nF t) → G wX X 0 0 5 [some (.ref (gA X 0)), some (.int (nI s)), some (.int how), some (.int (nI (cnt (pFin t (nI s) how) k))), some (.int (nI k))] [] (τ) := by
    intro m
    induction m with
    | zero =>
      intro k hk 
      have hk : k = (nF t) := by omega
      subst hk
      refine g_ild4 hC dX5_flawsOfState_5 ?_
      refine g_ald0 hC dX5_flawsOfState_7 ?_
      refine xg_GemCut_rough hC tw_2_11 dX5_flawsOfState_8 ?_
      refine xg_Rough_flawCount hC tw_1_80 dX5_flawsOfState_11 ?_
      refine g_icmp_ge 44 hC dX5_flawsOfState_14 (by decide) (fun c14 => ?_) (fun c14 => absurd (by rw [hfc]; exact nI_le (by omega) (by omega)) c14)
      refine g_ild3 hC dX5_flawsOfState_44 ?_
      exact hE _ _ _ _ _ _ dX5_flawsOfState_45 (Nat.le_refl _) (Nat.le_refl _) ⟨by rfl, rfl⟩
    | succ m ih =>
      intro k hk 
      refine g_ild4 hC dX5_flawsOfState_5 ?_
      refine g_ald0 hC dX5_flawsOfState_7 ?_
      refine xg_GemCut_rough hC tw_2_11 dX5_flawsOfState_8 ?_
      refine xg_Rough_flawCount hC tw_1_80 dX5_flawsOfState_11 ?_
      refine g_icmp_ge 44 hC dX5_flawsOfState_14 (by decide) (fun c14 => absurd c14 (by rw [hfc]; exact nI_ge (by omega) (by omega))) (fun c14 => ?_)
      refine g_ald0 hC dX5_flawsOfState_17 ?_
      refine xg_GemCut_rough hC tw_2_11 dX5_flawsOfState_18 ?_
      refine xg_Rough_flaws hC tw_1_78 dX5_flawsOfState_21 ?_
      refine g_ild4 hC dX5_flawsOfState_24 ?_
      refine xl_flawsA k hC rfl (by omega) dX5_flawsOfState_26 ?_
      refine g_ild1 hC dX5_flawsOfState_27 ?_
      refine k_X0_stateIn (f := k) (s := s) hC tw_2_130 dX5_flawsOfState_28 (by decide) ⟨by omega, by omega⟩ (Nat.le_of_ble_eq_true rfl) (by omega) hs8 ?_
      rw [rs_state hRS (by omega) hs]
      refine g_ild2 hC dX5_flawsOfState_31 ?_
      refine g_icmp_ne 38 hC dX5_flawsOfState_32 (by decide) (fun c32 => ?_) (fun c32 => ?_)
      · refine g_inc4 1 hC dX5_flawsOfState_38 (by decide) rfl ?_
        refine g_goto 5 hC dX5_flawsOfState_41 (by decide) ?_
        first
        | (rw [cnt_s1 (P := (pFin t (nI s) how)) (by unfold pFin; rw [c32]; simp), nI_1]; exact ih (k + 1) (by omega))
        | (rw [show nI (cnt (pFin t (nI s) how) k) = nI (cnt (pFin t (nI s) how) (k + 1)) by rw [cnt_f (by unfold pFin; simpa using c32)], nI_1]; exact ih (k + 1) (by omega))
      · refine g_inc3 1 hC dX5_flawsOfState_35 (by decide) rfl ?_
        refine g_inc4 1 hC dX5_flawsOfState_38 (by decide) rfl ?_
        refine g_goto 5 hC dX5_flawsOfState_41 (by decide) ?_
        first
        | (rw [cnt_s1 (P := (pFin t (nI s) how)) (by unfold pFin; rw [c32]; simp), nI_1]; exact ih (k + 1) (by omega))
        | (rw [show nI (cnt (pFin t (nI s) how) k) = nI (cnt (pFin t (nI s) how) (k + 1)) by rw [cnt_f (by unfold pFin; simpa using c32)], nI_1]; exact ih (k + 1) (by omega))
  refine g_iconst 0 hC dX5_flawsOfState_0 (by decide) ?_
  refine g_ist3 hC dX5_flawsOfState_1 rfl ?_
  refine g_iconst 0 hC dX5_flawsOfState_2 (by decide) ?_
  refine g_ist4 hC dX5_flawsOfState_3 rfl ?_
  exact lp (nF t) 0 (by omega)
theorem k_X5_flawsOfState {l : Launch} {X : gC} {cc : ByteArray} {own : String} {dd ca sa kc nc pc : Nat} {ls : List (Option Value)} {st : List Value} {σ : Mem} {idx : Nat} {t : Mem} {s : Nat} {how : Int32} (hC : gOk wX l X cc own dd ca sa) (hlk : Cond.methodLink own idx yX5_flawsOfState ∈ TB) (hd : decode cc pc = .ok (.invokevirtual idx, 3)) (hdd : 1 + 1 ≤ dd) (hfr : kc + 0 ≤ ca ∧ nc + 0 ≤ sa) (hrest : (st.map fun v => v.category).sum ≤ 8)  (hP : s < nS t ∧ RS σ t) (kk : G wX X kc nc (pc + 3) ls (.int (nI (sFin t (nI s) how)) :: st) (σ)) : G wX X kc nc pc ls (.int how :: .int (nI s) :: .ref (gA X 0) :: st) σ := by
  exact g_cVI 2 hC (c_X5_flawsOfState l t s how) hlk ⟨tw_3_30, tws_1_12, tw_1_1, tw_3_31⟩ (by decide +kernel) ⟨hdd, by decide⟩ hfr rfl rfl rfl (gW_at wX _ _ (by decide)) hrest rfl hd hP (fun rr σ1 hq => by obtain ⟨rfl, rfl⟩ := hq; exact kk)
set_option maxRecDepth 100000 in
set_option maxHeartbeats 4000000 in
/-- X5_worthOf -/
theorem c_X5_worthOf (l : Launch) (t : Mem) (s : Nat) : gMI wX l yX5_worthOf (.code yX5_worthOf cX5_worthOf 5 (some FieldType.int)) 2 0 0 (fun A => [.ref (A 0), .ref (A (iStone s))]) (fun τ => s < nS t ∧ RS τ t) (fun τ rr τ1 => rr = sWorth t s ∧ τ1 = τ) := by
  refine gMI_of (by decide) (fun A => Nat.le_of_ble_eq_true rfl) ?_
  intro X τ hC hP hE
  have hC : gOk wX l X cX5_worthOf "GemCut" 2 0 0 := hC
  show G wX X 0 0 0 [some (.ref (gA X 0)), some (.ref (gA X (iStone s))), none, none, none] [] τ
  obtain ⟨hs, hRS⟩ := hP
  have hM : MI t := hRS.1
  have hs8 : s < 8 := Nat.lt_of_lt_of_le hs (MI_S hM).2.2
  have hn16 : nP t s ≤ 16 := hRS.2.2.1 s hs8
  have hRb := hRS.2.2.2.1
  obtain ⟨hF1, hF2⟩ := MI_F hM
  have hfc : τ 1 6 = nI (nF t) := by rw [hRb.1.2.2.2.1]; exact hF1
  have lp : ∀ (m k : Nat), k + m = (nF t) → G wX X 0 0 4 [some (.ref (gA X 0)), some (.ref (gA X (iStone s))), some (.int (sPts t (nI s) k)), some (.int (nI k)), none] [] (τ) := by
    intro m
    induction m with
    | zero =>
      intro k hk 
      have hk : k = (nF t) := by omega
      subst hk
      refine g_ild3 hC dX5_worthOf_4 ?_
      refine g_ald0 hC dX5_worthOf_5 ?_
      refine xg_GemCut_rough hC tw_2_11 dX5_worthOf_6 ?_
      refine xg_Rough_flawCount hC tw_1_80 dX5_worthOf_9 ?_
      refine g_icmp_ge 49 hC dX5_worthOf_12 (by decide) (fun c12 => ?_) (fun c12 => absurd (by rw [hfc]; exact nI_le (by omega) (by omega)) c12)
      refine g_ald1 hC dX5_worthOf_49 ?_
      refine xg_Stone_weight hC (by first | assumption | omega | exact xk_pl _ (by assumption) _ (by omega) | decide) tw_1_149 dX5_worthOf_50 ?_
      rw [(hRS.2.2.2.2.1 s hs).1]
      refine g_ild2 hC dX5_worthOf_53 ?_
      refine g_ald1 hC dX5_worthOf_54 ?_
      refine g_iconst 1 hC dX5_worthOf_55 (by decide) ?_
      refine k_X3_facets (s := s) (n := nP t s) (po := true) hC tw_3_15 dX5_worthOf_56 (by decide) ⟨by omega, by omega⟩ (Nat.le_of_ble_eq_true rfl) hs8 ⟨hn16, rs_pc hRS hs⟩ ?_
      rw [rs_facets hRS hs]
      refine g_ald1 hC dX5_worthOf_59 ?_
      refine k_X3_oppositePairs (s := s) (n := nP t s) hC tw_3_20 dX5_worthOf_60 (by decide) ⟨by omega, by omega⟩ (Nat.le_of_ble_eq_true rfl) hs8 ⟨hn16, rs_pc hRS hs⟩ ?_
      rw [rs_pairs hRS hs]
      refine k_X5_worthBy hC tw_3_40 dX5_worthOf_63 (by decide) ⟨by omega, by omega⟩ (Nat.le_of_ble_eq_true rfl) ?_
      exact hE _ _ _ _ _ _ dX5_worthOf_66 (Nat.le_refl _) (Nat.le_refl _) ⟨by exact (sWorth_by t s).symm, rfl⟩
    | succ m ih =>
      intro k hk 
      refine g_ild3 hC dX5_worthOf_4 ?_
      refine g_ald0 hC dX5_worthOf_5 ?_
      refine xg_GemCut_rough hC tw_2_11 dX5_worthOf_6 ?_
      refine xg_Rough_flawCount hC tw_1_80 dX5_worthOf_9 ?_
      refine g_icmp_ge 49 hC dX5_worthOf_12 (by decide) (fun c12 => absurd c12 (by rw [hfc]; exact nI_ge (by omega) (by omega))) (fun c12 => ?_)
      refine g_ald0 hC dX5_worthOf_15 ?_
      refine xg_GemCut_rough hC tw_2_11 dX5_worthOf_16 ?_
      refine xg_Rough_flaws hC tw_1_78 dX5_worthOf_19 ?_
      refine g_ild3 hC dX5_worthOf_22 ?_
      refine xl_flawsA k hC rfl (by omega) dX5_worthOf_23 ?_
      refine g_ast4 hC dX5_worthOf_24 rfl ?_
      refine g_ild2 hC dX5_worthOf_26 ?_
      refine g_ald4 hC dX5_worthOf_27 ?_
      refine g_ald4 hC dX5_worthOf_29 ?_
      refine g_ald1 hC dX5_worthOf_31 ?_
      refine xg_Stone_number hC (by first | assumption | omega | exact xk_pl _ (by assumption) _ (by omega) | decide) tw_1_141 dX5_worthOf_32 ?_
      rw [rs_nm hRS hs]
      refine k_X0_stateIn (f := k) (s := s) hC tw_2_130 dX5_worthOf_35 (by decide) ⟨by omega, by omega⟩ (Nat.le_of_ble_eq_true rfl) (by omega) hs8 ?_
      rw [rs_state hRS (by omega) hs]
      refine k_X0_pointsIf (f := k) hC tw_3_36 dX5_worthOf_38 (by decide) ⟨by omega, by omega⟩ (Nat.le_of_ble_eq_true rfl) (by omega) (sFt_rng _ _ _) ?_
      refine g_iadd hC dX5_worthOf_41 ?_
      refine g_ist2 hC dX5_worthOf_42 rfl ?_
      refine g_inc3 1 hC dX5_worthOf_43 (by decide) rfl ?_
      refine g_goto 4 hC dX5_worthOf_46 (by decide) ?_
      refine g_keep [true, true, true, true, false] ?_
      rw [rs_pts hRS _ (by omega), nI_1]
      exact ih (k + 1) (by omega)
  refine g_iconst 0 hC dX5_worthOf_0 (by decide) ?_
  refine g_ist2 hC dX5_worthOf_1 rfl ?_
  refine g_iconst 0 hC dX5_worthOf_2 (by decide) ?_
  refine g_ist3 hC dX5_worthOf_3 rfl ?_
  exact lp (nF t) 0 (by omega)
theorem k_X5_worthOf {l : Launch} {X : gC} {cc : ByteArray} {own : String} {dd ca sa kc nc pc : Nat} {ls : List (Option Value)} {st : List Value} {σ : Mem} {idx : Nat} {t : Mem} {s : Nat} (hC : gOk wX l X cc own dd ca sa) (hlk : Cond.methodLink own idx yX5_worthOf ∈ TB) (hd : decode cc pc = .ok (.invokevirtual idx, 3)) (hdd : 2 + 1 ≤ dd) (hfr : kc + 0 ≤ ca ∧ nc + 0 ≤ sa) (hrest : (st.map fun v => v.category).sum ≤ 8)  (hP : s < nS t ∧ RS σ t) (kk : G wX X kc nc (pc + 3) ls (.int (sWorth t s) :: st) (σ)) : G wX X kc nc pc ls (.ref (gA X (iStone s)) :: .ref (gA X 0) :: st) σ := by
  exact g_cVI 1 hC (c_X5_worthOf l t s) hlk ⟨tw_3_34, tws_1_13, tw_1_1, tw_3_35⟩ (by decide +kernel) ⟨hdd, by decide⟩ hfr rfl rfl rfl (gW_at wX _ _ (by decide)) hrest rfl hd hP (fun rr σ1 hq => by obtain ⟨rfl, rfl⟩ := hq; exact kk)
set_option maxRecDepth 100000 in
set_option maxHeartbeats 4000000 in
/-- X5_tellOfStone -/
theorem c_X5_tellOfStone (l : Launch) (t : Mem) (s w : Nat) : gMI wX l yX5_tellOfStone (.code yX5_tellOfStone cX5_tellOfStone 3 (some FieldType.int)) 3 0 0 (fun A => [.ref (A 0), .ref (A (iStone s)), .int (nI w)]) (fun τ => s < nS t ∧ RS τ t ∧ w < 9) (fun τ rr τ1 => rr = sSt t s w ∧ τ1 = τ) := by
  refine gMI_of (by decide) (fun A => Nat.le_of_ble_eq_true rfl) ?_
  intro X τ hC hP hE
  have hC : gOk wX l X cX5_tellOfStone "GemCut" 3 0 0 := hC
  show G wX X 0 0 0 [some (.ref (gA X 0)), some (.ref (gA X (iStone s))), some (.int (nI w))] [] τ
  obtain ⟨hs, hRS, hw9⟩ := hP
  have hM : MI t := hRS.1
  have hs8 : s < 8 := Nat.lt_of_lt_of_le hs (MI_S hM).2.2
  have hn16 : nP t s ≤ 16 := hRS.2.2.1 s hs8
  have hRb := hRS.2.2.2.1
  obtain ⟨hF1, hF2⟩ := MI_F hM
  have hfc : τ 1 6 = nI (nF t) := by rw [hRb.1.2.2.2.1]; exact hF1
  refine g_ild2 hC dX5_tellOfStone_0 ?_
  rcases (show w = 0 ∨ w = 1 ∨ w = 2 ∨ w = 3 ∨ w = 4 ∨ w = 5 ∨ w = 6 ∨ w = 7 ∨ w = 8 by omega) with rfl | rfl | rfl | rfl | rfl | rfl | rfl | rfl | rfl
  · refine g_tin (off := 47) 48 hC dX5_tellOfStone_1 (by decide) (by decide) (by decide) (by decide) ?_
    refine g_ald1 hC dX5_tellOfStone_48 ?_
    refine xg_Stone_weight hC (by first | assumption | omega | exact xk_pl _ (by assumption) _ (by omega) | decide) tw_1_149 dX5_tellOfStone_49 ?_
    exact hE _ _ _ _ _ _ dX5_tellOfStone_52 (Nat.le_refl _) (Nat.le_refl _) ⟨by exact (hRS.2.2.2.2.1 s hs).1, rfl⟩
  · refine g_tin (off := 52) 53 hC dX5_tellOfStone_1 (by decide) (by decide) (by decide) (by decide) ?_
    refine g_ald1 hC dX5_tellOfStone_53 ?_
    refine xg_Stone_planeCount hC (by first | assumption | omega | exact xk_pl _ (by assumption) _ (by omega) | decide) tw_1_147 dX5_tellOfStone_54 ?_
    exact hE _ _ _ _ _ _ dX5_tellOfStone_57 (Nat.le_refl _) (Nat.le_refl _) ⟨by exact hRb.2.2.2.1 s hs, rfl⟩
  · refine g_tin (off := 57) 58 hC dX5_tellOfStone_1 (by decide) (by decide) (by decide) (by decide) ?_
    refine g_ald1 hC dX5_tellOfStone_58 ?_
    refine g_iconst 0 hC dX5_tellOfStone_59 (by decide) ?_
    refine k_X3_facets (s := s) (n := nP t s) (po := false) hC tw_3_15 dX5_tellOfStone_60 (by decide) ⟨by omega, by omega⟩ (Nat.le_of_ble_eq_true rfl) hs8 ⟨hn16, rs_pc hRS hs⟩ ?_
    exact hE _ _ _ _ _ _ dX5_tellOfStone_63 (Nat.le_refl _) (Nat.le_refl _) ⟨by rw [rs_facets hRS hs]; rfl, rfl⟩
  · refine g_tin (off := 63) 64 hC dX5_tellOfStone_1 (by decide) (by decide) (by decide) (by decide) ?_
    refine g_ald1 hC dX5_tellOfStone_64 ?_
    refine g_iconst 1 hC dX5_tellOfStone_65 (by decide) ?_
    refine k_X3_facets (s := s) (n := nP t s) (po := true) hC tw_3_15 dX5_tellOfStone_66 (by decide) ⟨by omega, by omega⟩ (Nat.le_of_ble_eq_true rfl) hs8 ⟨hn16, rs_pc hRS hs⟩ ?_
    exact hE _ _ _ _ _ _ dX5_tellOfStone_69 (Nat.le_refl _) (Nat.le_refl _) ⟨by rw [rs_facets hRS hs]; rfl, rfl⟩
  · refine g_tin (off := 69) 70 hC dX5_tellOfStone_1 (by decide) (by decide) (by decide) (by decide) ?_
    refine g_ald1 hC dX5_tellOfStone_70 ?_
    refine k_X3_oppositePairs (s := s) (n := nP t s) hC tw_3_20 dX5_tellOfStone_71 (by decide) ⟨by omega, by omega⟩ (Nat.le_of_ble_eq_true rfl) hs8 ⟨hn16, rs_pc hRS hs⟩ ?_
    exact hE _ _ _ _ _ _ dX5_tellOfStone_74 (Nat.le_refl _) (Nat.le_refl _) ⟨by rw [rs_pairs hRS hs]; rfl, rfl⟩
  · refine g_tin (off := 74) 75 hC dX5_tellOfStone_1 (by decide) (by decide) (by decide) (by decide) ?_
    refine g_ald0 hC dX5_tellOfStone_75 ?_
    refine g_ald1 hC dX5_tellOfStone_76 ?_
    refine xg_Stone_number hC (by first | assumption | omega | exact xk_pl _ (by assumption) _ (by omega) | decide) tw_1_141 dX5_tellOfStone_77 ?_
    rw [rs_nm hRS hs]
    refine g_iconst 1 hC dX5_tellOfStone_80 (by decide) ?_
    refine k_X5_flawsOfState (t := t) (s := s) hC tw_3_28 dX5_tellOfStone_81 (by decide) ⟨by omega, by omega⟩ (Nat.le_of_ble_eq_true rfl) ⟨hs, hRS⟩ ?_
    exact hE _ _ _ _ _ _ dX5_tellOfStone_84 (Nat.le_refl _) (Nat.le_refl _) ⟨by rfl, rfl⟩
  · refine g_tin (off := 84) 85 hC dX5_tellOfStone_1 (by decide) (by decide) (by decide) (by decide) ?_
    refine g_ald0 hC dX5_tellOfStone_85 ?_
    refine g_ald1 hC dX5_tellOfStone_86 ?_
    refine xg_Stone_number hC (by first | assumption | omega | exact xk_pl _ (by assumption) _ (by omega) | decide) tw_1_141 dX5_tellOfStone_87 ?_
    rw [rs_nm hRS hs]
    refine g_iconst 0 hC dX5_tellOfStone_90 (by decide) ?_
    refine k_X5_flawsOfState (t := t) (s := s) hC tw_3_28 dX5_tellOfStone_91 (by decide) ⟨by omega, by omega⟩ (Nat.le_of_ble_eq_true rfl) ⟨hs, hRS⟩ ?_
    exact hE _ _ _ _ _ _ dX5_tellOfStone_94 (Nat.le_refl _) (Nat.le_refl _) ⟨by rfl, rfl⟩
  · refine g_tin (off := 94) 95 hC dX5_tellOfStone_1 (by decide) (by decide) (by decide) (by decide) ?_
    refine g_ald0 hC dX5_tellOfStone_95 ?_
    refine g_ald1 hC dX5_tellOfStone_96 ?_
    refine k_X5_worthOf (t := t) (s := s) hC tw_3_32 dX5_tellOfStone_97 (by decide) ⟨by omega, by omega⟩ (Nat.le_of_ble_eq_true rfl) ⟨hs, hRS⟩ ?_
    exact hE _ _ _ _ _ _ dX5_tellOfStone_100 (Nat.le_refl _) (Nat.le_refl _) ⟨by rfl, rfl⟩
  · refine g_tout 101 hC dX5_tellOfStone_1 (by decide) (by decide) ?_
    refine g_ald1 hC dX5_tellOfStone_101 ?_
    refine xg_Stone_bareCells hC (by first | assumption | omega | exact xk_pl _ (by assumption) _ (by omega) | decide) tw_1_152 dX5_tellOfStone_102 ?_
    exact hE _ _ _ _ _ _ dX5_tellOfStone_105 (Nat.le_refl _) (Nat.le_refl _) ⟨by exact (hRS.2.2.2.2.1 s hs).2, rfl⟩
theorem k_X5_tellOfStone {l : Launch} {X : gC} {cc : ByteArray} {own : String} {dd ca sa kc nc pc : Nat} {ls : List (Option Value)} {st : List Value} {σ : Mem} {idx : Nat} {t : Mem} {s w : Nat} (hC : gOk wX l X cc own dd ca sa) (hlk : Cond.methodLink own idx yX5_tellOfStone ∈ TB) (hd : decode cc pc = .ok (.invokevirtual idx, 3)) (hdd : 3 + 1 ≤ dd) (hfr : kc + 0 ≤ ca ∧ nc + 0 ≤ sa) (hrest : (st.map fun v => v.category).sum ≤ 8)  (hP : s < nS t ∧ RS σ t ∧ w < 9) (kk : G wX X kc nc (pc + 3) ls (.int (sSt t s w) :: st) (σ)) : G wX X kc nc pc ls (.int (nI w) :: .ref (gA X (iStone s)) :: .ref (gA X 0) :: st) σ := by
  exact g_cVI 2 hC (c_X5_tellOfStone l t s w) hlk ⟨tw_3_13, tws_1_11, tw_1_1, tw_3_14⟩ (by decide +kernel) ⟨hdd, by decide⟩ hfr rfl rfl rfl (gW_at wX _ _ (by decide)) hrest rfl hd hP (fun rr σ1 hq => by obtain ⟨rfl, rfl⟩ := hq; exact kk)
set_option maxRecDepth 100000 in
set_option maxHeartbeats 4000000 in
/-- X5_tellOfFlaw -/
theorem c_X5_tellOfFlaw (l : Launch) (t : Mem) (f s w : Nat) : gMI wX l yX5_tellOfFlaw (.code yX5_tellOfFlaw cX5_tellOfFlaw 5 (some FieldType.int)) 1 0 0 (fun A => [.ref (A 0), .int (nI f), .int (nI s), .int (nI w)]) (fun τ => s < nS t ∧ RS τ t ∧ f < nF t ∧ w < 3) (fun τ rr τ1 => rr = sFt t f (nI s) (nI w) ∧ τ1 = τ) := by
  refine gMI_of (by decide) (fun A => Nat.le_of_ble_eq_true rfl) ?_
  intro X τ hC hP hE
  have hC : gOk wX l X cX5_tellOfFlaw "GemCut" 1 0 0 := hC
  show G wX X 0 0 0 [some (.ref (gA X 0)), some (.int (nI f)), some (.int (nI s)), some (.int (nI w)), none] [] τ
  obtain ⟨hs, hRS, hf, hw9⟩ := hP
  have hM : MI t := hRS.1
  have hs8 : s < 8 := Nat.lt_of_lt_of_le hs (MI_S hM).2.2
  have hn16 : nP t s ≤ 16 := hRS.2.2.1 s hs8
  have hRb := hRS.2.2.2.1
  obtain ⟨hF1, hF2⟩ := MI_F hM
  have hfc : τ 1 6 = nI (nF t) := by rw [hRb.1.2.2.2.1]; exact hF1
  have hf10 : f < 10 := Nat.lt_of_lt_of_le hf hF2
  refine g_ald0 hC dX5_tellOfFlaw_0 ?_
  refine xg_GemCut_rough hC tw_2_11 dX5_tellOfFlaw_1 ?_
  refine xg_Rough_flaws hC tw_1_78 dX5_tellOfFlaw_4 ?_
  refine g_ild1 hC dX5_tellOfFlaw_7 ?_
  refine xl_flawsA f hC rfl hf10 dX5_tellOfFlaw_8 ?_
  refine g_ast4 hC dX5_tellOfFlaw_9 rfl ?_
  refine g_ild3 hC dX5_tellOfFlaw_11 ?_
  rcases (show w = 0 ∨ w = 1 ∨ w = 2 by omega) with rfl | rfl | rfl
  · refine g_look (off := 28) 40 hC dX5_tellOfFlaw_12 (by decide) (by decide) (by decide) ?_
    refine g_ald4 hC dX5_tellOfFlaw_40 ?_
    refine xg_Flaw_cellsIn hC (by first | assumption | omega | exact xk_pl _ (by assumption) _ (by omega) | decide) tw_1_43 dX5_tellOfFlaw_42 ?_
    refine g_ild2 hC dX5_tellOfFlaw_45 ?_
    refine xl_FI s hC (by first | assumption | omega | exact xk_pl _ (by assumption) _ (by omega) | decide) rfl hs8 dX5_tellOfFlaw_46 ?_
    exact hE _ _ _ _ _ _ dX5_tellOfFlaw_47 (Nat.le_refl _) (Nat.le_refl _) ⟨by exact (hRS.2.2.2.2.2.2.2 f s hf hs).1, rfl⟩
  · refine g_look (off := 36) 48 hC dX5_tellOfFlaw_12 (by decide) (by decide) (by decide) ?_
    refine g_ald4 hC dX5_tellOfFlaw_48 ?_
    refine xg_Flaw_bareIn hC (by first | assumption | omega | exact xk_pl _ (by assumption) _ (by omega) | decide) tw_1_45 dX5_tellOfFlaw_50 ?_
    refine g_ild2 hC dX5_tellOfFlaw_53 ?_
    refine xl_FB s hC (by first | assumption | omega | exact xk_pl _ (by assumption) _ (by omega) | decide) rfl hs8 dX5_tellOfFlaw_54 ?_
    exact hE _ _ _ _ _ _ dX5_tellOfFlaw_55 (Nat.le_refl _) (Nat.le_refl _) ⟨by exact (hRS.2.2.2.2.2.2.2 f s hf hs).2, rfl⟩
  · refine g_look (off := 44) 56 hC dX5_tellOfFlaw_12 (by decide) (by decide) (by decide) ?_
    refine g_ald4 hC dX5_tellOfFlaw_56 ?_
    refine g_ild2 hC dX5_tellOfFlaw_58 ?_
    refine k_X0_stateIn (f := f) (s := s) hC tw_2_130 dX5_tellOfFlaw_59 (by decide) ⟨by omega, by omega⟩ (Nat.le_of_ble_eq_true rfl) hf10 hs8 ?_
    rw [rs_state hRS hf hs]
    exact hE _ _ _ _ _ _ dX5_tellOfFlaw_62 (Nat.le_refl _) (Nat.le_refl _) ⟨by rfl, rfl⟩
theorem k_X5_tellOfFlaw {l : Launch} {X : gC} {cc : ByteArray} {own : String} {dd ca sa kc nc pc : Nat} {ls : List (Option Value)} {st : List Value} {σ : Mem} {idx : Nat} {t : Mem} {f s w : Nat} (hC : gOk wX l X cc own dd ca sa) (hlk : Cond.methodLink own idx yX5_tellOfFlaw ∈ TB) (hd : decode cc pc = .ok (.invokevirtual idx, 3)) (hdd : 1 + 1 ≤ dd) (hfr : kc + 0 ≤ ca ∧ nc + 0 ≤ sa) (hrest : (st.map fun v => v.category).sum ≤ 8)  (hP : s < nS t ∧ RS σ t ∧ f < nF t ∧ w < 3) (kk : G wX X kc nc (pc + 3) ls (.int (sFt t f (nI s) (nI w)) :: st) (σ)) : G wX X kc nc pc ls (.int (nI w) :: .int (nI s) :: .int (nI f) :: .ref (gA X 0) :: st) σ := by
  exact g_cVI 3 hC (c_X5_tellOfFlaw l t f s w) hlk ⟨tw_2_128, tws_1_7, tw_1_1, tw_2_129⟩ (by decide +kernel) ⟨hdd, by decide⟩ hfr rfl rfl rfl (gW_at wX _ _ (by decide)) hrest rfl hd hP (fun rr σ1 hq => by obtain ⟨rfl, rfl⟩ := hq; exact kk)
set_option maxRecDepth 100000 in
set_option maxHeartbeats 4000000 in
/-- X5_cellsOfStones -/
theorem c_X5_cellsOfStones (l : Launch) (t : Mem) : gMI wX l yX5_cellsOfStones (.code yX5_cellsOfStones cX5_cellsOfStones 3 (some FieldType.int)) 0 0 0 (fun A => [.ref (A 0)]) (fun τ => RS τ t) (fun τ rr τ1 => rr = sumI (sCtv t 1) (nS t) ∧ τ1 = τ) := by
  refine gMI_of (by decide) (fun A => Nat.le_of_ble_eq_true rfl) ?_
  intro X τ hC hP hE
  have hC : gOk wX l X cX5_cellsOfStones "GemCut" 0 0 0 := hC
  show G wX X 0 0 0 [some (.ref (gA X 0)), none, none] [] τ
  have hRS := hP
  have hM : MI t := hRS.1
  have hRb := hRS.2.2.2.1
  obtain ⟨hS1, hS2, hS3⟩ := MI_S hM
  have hsc : τ 0 3 = nI (nS t) := by rw [hRb.1.2.2.2.2.1]; exact hS1
  have lp : ∀ (m k : Nat), k + m = (nS t) → G wX X 0 0 4 [some (.ref (gA X 0)), some (.int (sumI (sCtv t 1) k)), some (.int (nI k))] [] (τ) := by
    intro m
    induction m with
    | zero =>
      intro k hk 
      have hk : k = (nS t) := by omega
      subst hk
      refine g_ild2 hC dX5_cellsOfStones_4 ?_
      refine g_ald0 hC dX5_cellsOfStones_5 ?_
      refine xg_GemCut_stoneCount hC tw_2_14 dX5_cellsOfStones_6 ?_
      refine g_icmp_ge 30 hC dX5_cellsOfStones_9 (by decide) (fun c9 => ?_) (fun c9 => absurd (by rw [hsc]; exact nI_le (by omega) (by omega)) c9)
      refine g_ild1 hC dX5_cellsOfStones_30 ?_
      exact hE _ _ _ _ _ _ dX5_cellsOfStones_31 (Nat.le_refl _) (Nat.le_refl _) ⟨by rfl, rfl⟩
    | succ m ih =>
      intro k hk 
      refine g_ild2 hC dX5_cellsOfStones_4 ?_
      refine g_ald0 hC dX5_cellsOfStones_5 ?_
      refine xg_GemCut_stoneCount hC tw_2_14 dX5_cellsOfStones_6 ?_
      refine g_icmp_ge 30 hC dX5_cellsOfStones_9 (by decide) (fun c9 => absurd c9 (by rw [hsc]; exact nI_ge (by omega) (by omega))) (fun c9 => ?_)
      refine g_ild1 hC dX5_cellsOfStones_12 ?_
      refine g_ald0 hC dX5_cellsOfStones_13 ?_
      refine xg_GemCut_stones hC tw_2_12 dX5_cellsOfStones_14 ?_
      refine g_ild2 hC dX5_cellsOfStones_17 ?_
      refine xl_stonesA k hC rfl (by omega) dX5_cellsOfStones_18 ?_
      refine xg_Stone_weight hC (by first | assumption | omega | exact xk_pl _ (by assumption) _ (by omega) | decide) tw_1_149 dX5_cellsOfStones_19 ?_
      rw [(hRS.2.2.2.2.1 k (by omega)).1]
      refine g_iadd hC dX5_cellsOfStones_22 ?_
      refine g_ist1 hC dX5_cellsOfStones_23 rfl ?_
      refine g_inc2 1 hC dX5_cellsOfStones_24 (by decide) rfl ?_
      refine g_goto 4 hC dX5_cellsOfStones_27 (by decide) ?_
      rw [nI_1, show sumI (sCtv t 1) k + nI (sWt t (nI k)) = sumI (sCtv t 1) (k + 1) from rfl]
      exact ih (k + 1) (by omega)
  refine g_iconst 0 hC dX5_cellsOfStones_0 (by decide) ?_
  refine g_ist1 hC dX5_cellsOfStones_1 rfl ?_
  refine g_iconst 0 hC dX5_cellsOfStones_2 (by decide) ?_
  refine g_ist2 hC dX5_cellsOfStones_3 rfl ?_
  exact lp (nS t) 0 (by omega)
theorem k_X5_cellsOfStones {l : Launch} {X : gC} {cc : ByteArray} {own : String} {dd ca sa kc nc pc : Nat} {ls : List (Option Value)} {st : List Value} {σ : Mem} {idx : Nat} {t : Mem} (hC : gOk wX l X cc own dd ca sa) (hlk : Cond.methodLink own idx yX5_cellsOfStones ∈ TB) (hd : decode cc pc = .ok (.invokevirtual idx, 3)) (hdd : 0 + 1 ≤ dd) (hfr : kc + 0 ≤ ca ∧ nc + 0 ≤ sa) (hrest : (st.map fun v => v.category).sum ≤ 8)  (hP : RS σ t) (kk : G wX X kc nc (pc + 3) ls (.int (sumI (sCtv t 1) (nS t)) :: st) (σ)) : G wX X kc nc pc ls (.ref (gA X 0) :: st) σ := by
  exact g_cVI 0 hC (c_X5_cellsOfStones l t) hlk ⟨tw_3_63, tws_1_15, tw_1_1, tw_3_64⟩ (by decide +kernel) ⟨hdd, by decide⟩ hfr rfl rfl rfl (gW_at wX _ _ (by decide)) hrest rfl hd hP (fun rr σ1 hq => by obtain ⟨rfl, rfl⟩ := hq; exact kk)
set_option maxRecDepth 100000 in
set_option maxHeartbeats 4000000 in
/-- X5_stonesLeft -/
theorem c_X5_stonesLeft (l : Launch) (t : Mem) : gMI wX l yX5_stonesLeft (.code yX5_stonesLeft cX5_stonesLeft 3 (some FieldType.int)) 0 0 0 (fun A => [.ref (A 0)]) (fun τ => RS τ t) (fun τ rr τ1 => rr = sumI (sCtv t 3) (nS t) ∧ τ1 = τ) := by
  refine gMI_of (by decide) (fun A => Nat.le_of_ble_eq_true rfl) ?_
  intro X τ hC hP hE
  have hC : gOk wX l X cX5_stonesLeft "GemCut" 0 0 0 := hC
  show G wX X 0 0 0 [some (.ref (gA X 0)), none, none] [] τ
  have hRS := hP
  have hM : MI t := hRS.1
  have hRb := hRS.2.2.2.1
  obtain ⟨hS1, hS2, hS3⟩ := MI_S hM
  have hsc : τ 0 3 = nI (nS t) := by rw [hRb.1.2.2.2.2.1]; exact hS1
  have lp : ∀ (m k : Nat), k + m = (nS t) → G wX X 0 0 4 [some (.ref (gA X 0)), some (.int (sumI (sCtv t 3) k)), some (.int (nI k))] [] (τ) := by
    intro m
    induction m with
    | zero =>
      intro k hk 
      have hk : k = (nS t) := by omega
      subst hk
      refine g_ild2 hC dX5_stonesLeft_4 ?_
      refine g_ald0 hC dX5_stonesLeft_5 ?_
      refine xg_GemCut_stoneCount hC tw_2_14 dX5_stonesLeft_6 ?_
      refine g_icmp_ge 33 hC dX5_stonesLeft_9 (by decide) (fun c9 => ?_) (fun c9 => absurd (by rw [hsc]; exact nI_le (by omega) (by omega)) c9)
      refine g_ild1 hC dX5_stonesLeft_33 ?_
      exact hE _ _ _ _ _ _ dX5_stonesLeft_34 (Nat.le_refl _) (Nat.le_refl _) ⟨by rfl, rfl⟩
    | succ m ih =>
      intro k hk 
      refine g_ild2 hC dX5_stonesLeft_4 ?_
      refine g_ald0 hC dX5_stonesLeft_5 ?_
      refine xg_GemCut_stoneCount hC tw_2_14 dX5_stonesLeft_6 ?_
      refine g_icmp_ge 33 hC dX5_stonesLeft_9 (by decide) (fun c9 => absurd c9 (by rw [hsc]; exact nI_ge (by omega) (by omega))) (fun c9 => ?_)
      refine g_ald0 hC dX5_stonesLeft_12 ?_
      refine xg_GemCut_stones hC tw_2_12 dX5_stonesLeft_13 ?_
      refine g_ild2 hC dX5_stonesLeft_16 ?_
      refine xl_stonesA k hC rfl (by omega) dX5_stonesLeft_17 ?_
      refine xg_Stone_weight hC (by first | assumption | omega | exact xk_pl _ (by assumption) _ (by omega) | decide) tw_1_149 dX5_stonesLeft_18 ?_
      rw [(hRS.2.2.2.2.1 k (by omega)).1]
      refine g_if_le 27 hC dX5_stonesLeft_21 (by decide) (fun c21 => ?_) (fun c21 => ?_)
      · refine g_inc2 1 hC dX5_stonesLeft_27 (by decide) rfl ?_
        refine g_goto 4 hC dX5_stonesLeft_30 (by decide) ?_
        first
        | (rw [show sumI (sCtv t 3) k + 1 = sumI (sCtv t 3) (k + 1) by rw [← sumI_s]; show _ = _ + b2i (decide (0 < nI (sWt t (nI k)))); rw [decide_eq_true (Int32.not_le.mp c21)]; rfl, nI_1]; exact ih (k + 1) (by omega))
        | (rw [show sumI (sCtv t 3) k = sumI (sCtv t 3) (k + 1) by rw [← sumI_s]; show _ = _ + b2i (decide (0 < nI (sWt t (nI k)))); rw [decide_eq_false (Int32.not_lt.mpr c21)]; exact (Int32.add_zero _).symm, nI_1]; exact ih (k + 1) (by omega))
      · refine g_inc1 1 hC dX5_stonesLeft_24 (by decide) rfl ?_
        refine g_inc2 1 hC dX5_stonesLeft_27 (by decide) rfl ?_
        refine g_goto 4 hC dX5_stonesLeft_30 (by decide) ?_
        first
        | (rw [show sumI (sCtv t 3) k + 1 = sumI (sCtv t 3) (k + 1) by rw [← sumI_s]; show _ = _ + b2i (decide (0 < nI (sWt t (nI k)))); rw [decide_eq_true (Int32.not_le.mp c21)]; rfl, nI_1]; exact ih (k + 1) (by omega))
        | (rw [show sumI (sCtv t 3) k = sumI (sCtv t 3) (k + 1) by rw [← sumI_s]; show _ = _ + b2i (decide (0 < nI (sWt t (nI k)))); rw [decide_eq_false (Int32.not_lt.mpr c21)]; exact (Int32.add_zero _).symm, nI_1]; exact ih (k + 1) (by omega))
  refine g_iconst 0 hC dX5_stonesLeft_0 (by decide) ?_
  refine g_ist1 hC dX5_stonesLeft_1 rfl ?_
  refine g_iconst 0 hC dX5_stonesLeft_2 (by decide) ?_
  refine g_ist2 hC dX5_stonesLeft_3 rfl ?_
  exact lp (nS t) 0 (by omega)
theorem k_X5_stonesLeft {l : Launch} {X : gC} {cc : ByteArray} {own : String} {dd ca sa kc nc pc : Nat} {ls : List (Option Value)} {st : List Value} {σ : Mem} {idx : Nat} {t : Mem} (hC : gOk wX l X cc own dd ca sa) (hlk : Cond.methodLink own idx yX5_stonesLeft ∈ TB) (hd : decode cc pc = .ok (.invokevirtual idx, 3)) (hdd : 0 + 1 ≤ dd) (hfr : kc + 0 ≤ ca ∧ nc + 0 ≤ sa) (hrest : (st.map fun v => v.category).sum ≤ 8)  (hP : RS σ t) (kk : G wX X kc nc (pc + 3) ls (.int (sumI (sCtv t 3) (nS t)) :: st) (σ)) : G wX X kc nc pc ls (.ref (gA X 0) :: st) σ := by
  exact g_cVI 0 hC (c_X5_stonesLeft l t) hlk ⟨tw_3_67, tws_2_0, tw_1_1, tw_3_68⟩ (by decide +kernel) ⟨hdd, by decide⟩ hfr rfl rfl rfl (gW_at wX _ _ (by decide)) hrest rfl hd hP (fun rr σ1 hq => by obtain ⟨rfl, rfl⟩ := hq; exact kk)
set_option maxRecDepth 100000 in
set_option maxHeartbeats 4000000 in
/-- X5_worthOfStones -/
theorem c_X5_worthOfStones (l : Launch) (t : Mem) : gMI wX l yX5_worthOfStones (.code yX5_worthOfStones cX5_worthOfStones 3 (some FieldType.int)) 3 0 0 (fun A => [.ref (A 0)]) (fun τ => RS τ t) (fun τ rr τ1 => rr = sumI (sCtv t 6) (nS t) ∧ τ1 = τ) := by
  refine gMI_of (by decide) (fun A => Nat.le_of_ble_eq_true rfl) ?_
  intro X τ hC hP hE
  have hC : gOk wX l X cX5_worthOfStones "GemCut" 3 0 0 := hC
  show G wX X 0 0 0 [some (.ref (gA X 0)), none, none] [] τ
  have hRS := hP
  have hM : MI t := hRS.1
  have hRb := hRS.2.2.2.1
  obtain ⟨hS1, hS2, hS3⟩ := MI_S hM
  have hsc : τ 0 3 = nI (nS t) := by rw [hRb.1.2.2.2.2.1]; exact hS1
  have lp : ∀ (m k : Nat), k + m = (nS t) → G wX X 0 0 4 [some (.ref (gA X 0)), some (.int (sumI (sCtv t 6) k)), some (.int (nI k))] [] (τ) := by
    intro m
    induction m with
    | zero =>
      intro k hk 
      have hk : k = (nS t) := by omega
      subst hk
      refine g_ild2 hC dX5_worthOfStones_4 ?_
      refine g_ald0 hC dX5_worthOfStones_5 ?_
      refine xg_GemCut_stoneCount hC tw_2_14 dX5_worthOfStones_6 ?_
      refine g_icmp_ge 31 hC dX5_worthOfStones_9 (by decide) (fun c9 => ?_) (fun c9 => absurd (by rw [hsc]; exact nI_le (by omega) (by omega)) c9)
      refine g_ild1 hC dX5_worthOfStones_31 ?_
      exact hE _ _ _ _ _ _ dX5_worthOfStones_32 (Nat.le_refl _) (Nat.le_refl _) ⟨by rfl, rfl⟩
    | succ m ih =>
      intro k hk 
      refine g_ild2 hC dX5_worthOfStones_4 ?_
      refine g_ald0 hC dX5_worthOfStones_5 ?_
      refine xg_GemCut_stoneCount hC tw_2_14 dX5_worthOfStones_6 ?_
      refine g_icmp_ge 31 hC dX5_worthOfStones_9 (by decide) (fun c9 => absurd c9 (by rw [hsc]; exact nI_ge (by omega) (by omega))) (fun c9 => ?_)
      refine g_ild1 hC dX5_worthOfStones_12 ?_
      refine g_ald0 hC dX5_worthOfStones_13 ?_
      refine g_ald0 hC dX5_worthOfStones_14 ?_
      refine xg_GemCut_stones hC tw_2_12 dX5_worthOfStones_15 ?_
      refine g_ild2 hC dX5_worthOfStones_18 ?_
      refine xl_stonesA k hC rfl (by omega) dX5_worthOfStones_19 ?_
      refine k_X5_worthOf (t := t) (s := k) hC tw_3_32 dX5_worthOfStones_20 (by decide) ⟨by omega, by omega⟩ (Nat.le_of_ble_eq_true rfl) ⟨by omega, hRS⟩ ?_
      refine g_iadd hC dX5_worthOfStones_23 ?_
      refine g_ist1 hC dX5_worthOfStones_24 rfl ?_
      refine g_inc2 1 hC dX5_worthOfStones_25 (by decide) rfl ?_
      refine g_goto 4 hC dX5_worthOfStones_28 (by decide) ?_
      rw [nI_1, show sumI (sCtv t 6) k + sWorth t k = sumI (sCtv t 6) (k + 1) from rfl]
      exact ih (k + 1) (by omega)
  refine g_iconst 0 hC dX5_worthOfStones_0 (by decide) ?_
  refine g_ist1 hC dX5_worthOfStones_1 rfl ?_
  refine g_iconst 0 hC dX5_worthOfStones_2 (by decide) ?_
  refine g_ist2 hC dX5_worthOfStones_3 rfl ?_
  exact lp (nS t) 0 (by omega)
theorem k_X5_worthOfStones {l : Launch} {X : gC} {cc : ByteArray} {own : String} {dd ca sa kc nc pc : Nat} {ls : List (Option Value)} {st : List Value} {σ : Mem} {idx : Nat} {t : Mem} (hC : gOk wX l X cc own dd ca sa) (hlk : Cond.methodLink own idx yX5_worthOfStones ∈ TB) (hd : decode cc pc = .ok (.invokevirtual idx, 3)) (hdd : 3 + 1 ≤ dd) (hfr : kc + 0 ≤ ca ∧ nc + 0 ≤ sa) (hrest : (st.map fun v => v.category).sum ≤ 8)  (hP : RS σ t) (kk : G wX X kc nc (pc + 3) ls (.int (sumI (sCtv t 6) (nS t)) :: st) (σ)) : G wX X kc nc pc ls (.ref (gA X 0) :: st) σ := by
  exact g_cVI 0 hC (c_X5_worthOfStones l t) hlk ⟨tw_3_71, tws_2_1, tw_1_1, tw_3_72⟩ (by decide +kernel) ⟨hdd, by decide⟩ hfr rfl rfl rfl (gW_at wX _ _ (by decide)) hrest rfl hd hP (fun rr σ1 hq => by obtain ⟨rfl, rfl⟩ := hq; exact kk)
set_option maxRecDepth 100000 in
set_option maxHeartbeats 4000000 in
/-- X5_tellCount -/
theorem c_X5_tellCount (l : Launch) (t : Mem) (w : Nat) : gMI wX l yX5_tellCount (.code yX5_tellCount cX5_tellCount 2 (some FieldType.int)) 4 0 0 (fun A => [.ref (A 0), .int (nI w)]) (fun τ => RS τ t ∧ w < 8) (fun τ rr τ1 => rr = sCt t w ∧ τ1 = τ) := by
  refine gMI_of (by decide) (fun A => Nat.le_of_ble_eq_true rfl) ?_
  intro X τ hC hP hE
  have hC : gOk wX l X cX5_tellCount "GemCut" 4 0 0 := hC
  show G wX X 0 0 0 [some (.ref (gA X 0)), some (.int (nI w))] [] τ
  obtain ⟨hRS, hw8⟩ := hP
  have hM : MI t := hRS.1
  have hRb := hRS.2.2.2.1
  obtain ⟨hS1, hS2, hS3⟩ := MI_S hM
  have hsc : τ 0 3 = nI (nS t) := by rw [hRb.1.2.2.2.2.1]; exact hS1
  refine g_ild1 hC dX5_tellCount_0 ?_
  rcases (show w = 0 ∨ w = 1 ∨ w = 2 ∨ w = 3 ∨ w = 4 ∨ w = 5 ∨ w = 6 ∨ w = 7 by omega) with rfl | rfl | rfl | rfl | rfl | rfl | rfl | rfl
  · refine g_tin (off := 43) 44 hC dX5_tellCount_1 (by decide) (by decide) (by decide) (by decide) ?_
    refine g_ald0 hC dX5_tellCount_44 ?_
    refine xg_GemCut_rough hC tw_2_11 dX5_tellCount_45 ?_
    refine k_X2_size hC tw_3_60 dX5_tellCount_48 (by decide) ⟨by omega, by omega⟩ (Nat.le_of_ble_eq_true rfl) ?_
    exact hE _ _ _ _ _ _ dX5_tellCount_51 (Nat.le_refl _) (Nat.le_refl _) ⟨by show τ 1 0 * τ 1 1 * τ 1 2 = _; rw [hRb.1.1, hRb.1.2.1, hRb.1.2.2.1]; rfl, rfl⟩
  · refine g_tin (off := 51) 52 hC dX5_tellCount_1 (by decide) (by decide) (by decide) (by decide) ?_
    refine g_ald0 hC dX5_tellCount_52 ?_
    refine k_X5_cellsOfStones (t := t) hC tw_3_61 dX5_tellCount_53 (by decide) ⟨by omega, by omega⟩ (Nat.le_of_ble_eq_true rfl) hRS ?_
    exact hE _ _ _ _ _ _ dX5_tellCount_56 (Nat.le_refl _) (Nat.le_refl _) ⟨by rfl, rfl⟩
  · refine g_tin (off := 56) 57 hC dX5_tellCount_1 (by decide) (by decide) (by decide) (by decide) ?_
    refine g_ald0 hC dX5_tellCount_57 ?_
    refine xg_GemCut_stoneCount hC tw_2_14 dX5_tellCount_58 ?_
    exact hE _ _ _ _ _ _ dX5_tellCount_61 (Nat.le_refl _) (Nat.le_refl _) ⟨by exact hRb.1.2.2.2.2.1, rfl⟩
  · refine g_tin (off := 61) 62 hC dX5_tellCount_1 (by decide) (by decide) (by decide) (by decide) ?_
    refine g_ald0 hC dX5_tellCount_62 ?_
    refine k_X5_stonesLeft (t := t) hC tw_3_65 dX5_tellCount_63 (by decide) ⟨by omega, by omega⟩ (Nat.le_of_ble_eq_true rfl) hRS ?_
    exact hE _ _ _ _ _ _ dX5_tellCount_66 (Nat.le_refl _) (Nat.le_refl _) ⟨by rfl, rfl⟩
  · refine g_tin (off := 66) 67 hC dX5_tellCount_1 (by decide) (by decide) (by decide) (by decide) ?_
    refine g_ald0 hC dX5_tellCount_67 ?_
    refine xg_GemCut_rough hC tw_2_11 dX5_tellCount_68 ?_
    refine xg_Rough_flawCount hC tw_1_80 dX5_tellCount_71 ?_
    exact hE _ _ _ _ _ _ dX5_tellCount_74 (Nat.le_refl _) (Nat.le_refl _) ⟨by exact hRb.1.2.2.2.1, rfl⟩
  · refine g_tin (off := 74) 75 hC dX5_tellCount_1 (by decide) (by decide) (by decide) (by decide) ?_
    refine g_ald0 hC dX5_tellCount_75 ?_
    refine xg_GemCut_turns hC tw_2_15 dX5_tellCount_76 ?_
    exact hE _ _ _ _ _ _ dX5_tellCount_79 (Nat.le_refl _) (Nat.le_refl _) ⟨by exact hRb.1.2.2.2.2.2.1, rfl⟩
  · refine g_tin (off := 79) 80 hC dX5_tellCount_1 (by decide) (by decide) (by decide) (by decide) ?_
    refine g_ald0 hC dX5_tellCount_80 ?_
    refine k_X5_worthOfStones (t := t) hC tw_3_69 dX5_tellCount_81 (by decide) ⟨by omega, by omega⟩ (Nat.le_of_ble_eq_true rfl) hRS ?_
    exact hE _ _ _ _ _ _ dX5_tellCount_84 (Nat.le_refl _) (Nat.le_refl _) ⟨by rfl, rfl⟩
  · refine g_tout 85 hC dX5_tellCount_1 (by decide) (by decide) ?_
    refine g_ald0 hC dX5_tellCount_85 ?_
    refine xg_GemCut_spent hC tw_2_16 dX5_tellCount_86 ?_
    exact hE _ _ _ _ _ _ dX5_tellCount_89 (Nat.le_refl _) (Nat.le_refl _) ⟨by exact hRb.1.2.2.2.2.2.2, rfl⟩
theorem k_X5_tellCount {l : Launch} {X : gC} {cc : ByteArray} {own : String} {dd ca sa kc nc pc : Nat} {ls : List (Option Value)} {st : List Value} {σ : Mem} {idx : Nat} {t : Mem} {w : Nat} (hC : gOk wX l X cc own dd ca sa) (hlk : Cond.methodLink own idx yX5_tellCount ∈ TB) (hd : decode cc pc = .ok (.invokevirtual idx, 3)) (hdd : 4 + 1 ≤ dd) (hfr : kc + 0 ≤ ca ∧ nc + 0 ≤ sa) (hrest : (st.map fun v => v.category).sum ≤ 8)  (hP : RS σ t ∧ w < 8) (kk : G wX X kc nc (pc + 3) ls (.int (sCt t w) :: st) (σ)) : G wX X kc nc pc ls (.int (nI w) :: .ref (gA X 0) :: st) σ := by
  exact g_cVI 1 hC (c_X5_tellCount l t w) hlk ⟨tw_3_58, tws_1_14, tw_1_1, tw_3_59⟩ (by decide +kernel) ⟨hdd, by decide⟩ hfr rfl rfl rfl (gW_at wX _ _ (by decide)) hrest rfl hd hP (fun rr σ1 hq => by obtain ⟨rfl, rfl⟩ := hq; exact kk)
