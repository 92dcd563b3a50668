set_option maxRecDepth 100000 in
set_option maxHeartbeats 4000000 in
/-- X4_polishedAt -/
theorem c_X4_polishedAt (l : Launch) (t : Mem) (s : Nat) (p q r d : Int32) : gMI wX l yX4_polishedAt (.code yX4_polishedAt cX4_polishedAt 4 (some FieldType.int)) 0 0 0 (fun A => [.ref (A 190), .int d]) (fun τ => s < nS t ∧ RS τ t ∧ Slp p q r ∧ Am t s p q r τ ∧ Dp d) (fun τ rr τ1 => rr = nI (sFacets (gMark t s p q r d) s true) ∧ τ1 = τ) := by
  refine gMI_of (by decide) (fun A => Nat.le_of_ble_eq_true rfl) ?_
  intro X τ hC hP hE
  have hC : gOk wX l X cX4_polishedAt "GemCut$Trial" 0 0 0 := hC
  show G wX X 0 0 0 [some (.ref (gA X 190)), some (.int d), none, none] [] τ
  have hP9 := hP
  obtain ⟨hs, hRS, hSl, hAm, hD⟩ := hP
  have hM : MI t := hRS.1
  have hW : MW t := hRS.2.1
  have h6 : M16 t := hRS.2.2.1
  have hs8 : s < 8 := Nat.lt_of_lt_of_le hs (MI_S hM).2.2
  have hn16 : nP t s ≤ 16 := h6 s hs8
  have hRb := hRS.2.2.2.1
  have hps : (τ 190 1).toNatClampNeg = s := by rw [hAm.1.1.1]; exact nI_clamp (by omega)
  have hpc : τ (iStone s) 2 = nI (nP t s) := by rw [hRb.2.2.2.1 s hs]; exact (MI_P hM hs8).1
  have lp : ∀ (m k : Nat), k + m = (nP t s) → G wX X 0 0 4 [some (.ref (gA X 190)), some (.int d), some (.int (nI (cnt (pFacets (gMark t s p q r d) s true) k))), some (.int (nI k))] [] (τ) := by
    intro m
    induction m with
    | zero =>
      intro k hk 
      have hk : k = (nP t s) := by omega
      subst hk
      refine g_ild3 hC dX4_polishedAt_4 ?_
      refine g_ald0 hC dX4_polishedAt_5 ?_
      refine xg_Trial_piece hC tw_1_173 dX4_polishedAt_6 ?_
      rw [hps]
      refine xg_Stone_planeCount hC (by first | assumption | omega | exact xk_pl _ (by assumption) _ (by omega) | decide) tw_1_146 dX4_polishedAt_9 ?_
      refine g_icmp_ge 49 hC dX4_polishedAt_12 (by decide) (fun c12 => ?_) (fun c12 => absurd (by rw [hpc]; exact nI_le (by omega) (by omega)) c12)
      refine g_ild2 hC dX4_polishedAt_49 ?_
      exact hE _ _ _ _ _ _ dX4_polishedAt_50 (Nat.le_refl _) (Nat.le_refl _) ⟨by rw [mk_facets hM h6 hs8], rfl⟩
    | succ m ih =>
      intro k hk 
      have hfl := fl_facet hM hW h6 hs8 hSl hD hAm (show k < nP t s by omega)
      have hpf : pFacets (gMark t s p q r d) s true k = (sFacet (gMark t s p q r d) s k && !(sPl t s k 4 == 0)) := by unfold pFacets; rw [mk_pol hM hW h6 hs (by omega)]; simp
      refine g_ild3 hC dX4_polishedAt_4 ?_
      refine g_ald0 hC dX4_polishedAt_5 ?_
      refine xg_Trial_piece hC tw_1_173 dX4_polishedAt_6 ?_
      rw [hps]
      refine xg_Stone_planeCount hC (by first | assumption | omega | exact xk_pl _ (by assumption) _ (by omega) | decide) tw_1_146 dX4_polishedAt_9 ?_
      refine g_icmp_ge 49 hC dX4_polishedAt_12 (by decide) (fun c12 => absurd c12 (by rw [hpc]; exact nI_ge (by omega) (by omega))) (fun c12 => ?_)
      refine g_ald0 hC dX4_polishedAt_15 ?_
      refine xg_Trial_floors hC tw_1_177 dX4_polishedAt_16 ?_
      refine g_ild3 hC dX4_polishedAt_19 ?_
      refine xl_floors k hC rfl (by omega) dX4_polishedAt_20 ?_
      refine g_ild1 hC dX4_polishedAt_21 ?_
      refine g_icmp_gt 43 hC dX4_polishedAt_22 (by decide) (fun c22 => ?_) (fun c22 => ?_)
      · refine g_inc3 1 hC dX4_polishedAt_43 (by decide) rfl ?_
        refine g_goto 4 hC dX4_polishedAt_46 (by decide) ?_
        first
        | (rw [cnt_s1 (P := (pFacets (gMark t s p q r d) s true)) (by rw [hpf, hfl.mp (Int32.not_lt.mp c22)]; simpa using c37), nI_1]; exact ih (k + 1) (by omega))
        | (rw [show nI (cnt (pFacets (gMark t s p q r d) s true) k) = nI (cnt (pFacets (gMark t s p q r d) s true) (k + 1)) by rw [cnt_f (by rw [hpf, c37]; simp)], nI_1]; exact ih (k + 1) (by omega))
        | (rw [show nI (cnt (pFacets (gMark t s p q r d) s true) k) = nI (cnt (pFacets (gMark t s p q r d) s true) (k + 1)) by rw [cnt_f (by rw [hpf, Bool.eq_false_iff.mpr (fun q9 => absurd (hfl.mpr q9) (Int32.not_le.mpr c22)), Bool.false_and])], nI_1]; exact ih (k + 1) (by omega))
      · refine g_ald0 hC dX4_polishedAt_25 ?_
        refine xg_Trial_piece hC tw_1_173 dX4_polishedAt_26 ?_
        rw [hps]
        refine xg_Stone_planes hC (by first | assumption | omega | exact xk_pl _ (by assumption) _ (by omega) | decide) tw_1_143 dX4_polishedAt_29 ?_
        refine g_ild3 hC dX4_polishedAt_32 ?_
        refine xl_Pls k hC (by first | assumption | omega | exact xk_pl _ (by assumption) _ (by omega) | decide) rfl (by omega) dX4_polishedAt_33 ?_
        refine xg_Plane_polished hC (by first | assumption | omega | exact xk_pl _ (by assumption) _ (by omega) | decide) tw_1_120 dX4_polishedAt_34 ?_
        rw [(hRb.2.2.2.2.1 s k hs (by omega)).2.2]
        refine g_if_eq 43 hC dX4_polishedAt_37 (by decide) (fun c37 => ?_) (fun c37 => ?_)
        · refine g_inc3 1 hC dX4_polishedAt_43 (by decide) rfl ?_
          refine g_goto 4 hC dX4_polishedAt_46 (by decide) ?_
          first
          | (rw [cnt_s1 (P := (pFacets (gMark t s p q r d) s true)) (by rw [hpf, hfl.mp (Int32.not_lt.mp c22)]; simpa using c37), nI_1]; exact ih (k + 1) (by omega))
          | (rw [show nI (cnt (pFacets (gMark t s p q r d) s true) k) = nI (cnt (pFacets (gMark t s p q r d) s true) (k + 1)) by rw [cnt_f (by rw [hpf, c37]; simp)], nI_1]; exact ih (k + 1) (by omega))
          | (rw [show nI (cnt (pFacets (gMark t s p q r d) s true) k) = nI (cnt (pFacets (gMark t s p q r d) s true) (k + 1)) by rw [cnt_f (by rw [hpf, Bool.eq_false_iff.mpr (fun q9 => absurd (hfl.mpr q9) (Int32.not_le.mpr c22)), Bool.false_and])], nI_1]; exact ih (k + 1) (by omega))
        · refine g_inc2 1 hC dX4_polishedAt_40 (by decide) rfl ?_
          refine g_inc3 1 hC dX4_polishedAt_43 (by decide) rfl ?_
          refine g_goto 4 hC dX4_polishedAt_46 (by decide) ?_
          first
          | (rw [cnt_s1 (P := (pFacets (gMark t s p q r d) s true)) (by rw [hpf, hfl.mp (Int32.not_lt.mp c22)]; simpa using c37), nI_1]; exact ih (k + 1) (by omega))
          | (rw [show nI (cnt (pFacets (gMark t s p q r d) s true) k) = nI (cnt (pFacets (gMark t s p q r d) s true) (k + 1)) by rw [cnt_f (by rw [hpf, c37]; simp)], nI_1]; exact ih (k + 1) (by omega))
          | (rw [show nI (cnt (pFacets (gMark t s p q r d) s true) k) = nI (cnt (pFacets (gMark t s p q r d) s true) (k + 1)) by rw [cnt_f (by rw [hpf, Bool.eq_false_iff.mpr (fun q9 => absurd (hfl.mpr q9) (Int32.not_le.mpr c22)), Bool.false_and])], nI_1]; exact ih (k + 1) (by omega))
  refine g_iconst 0 hC dX4_polishedAt_0 (by decide) ?_
  refine g_ist2 hC dX4_polishedAt_1 rfl ?_
  refine g_iconst 0 hC dX4_polishedAt_2 (by decide) ?_
  refine g_ist3 hC dX4_polishedAt_3 rfl ?_
  exact lp (nP t s) 0 (by omega)
theorem k_X4_polishedAt {l : Launch} {X : gC} {cc : ByteArray} {own : String} {dd ca sa kc nc pc : Nat} {ls : List (Option Value)} {st : List Value} {σ : Mem} {idx : Nat} {t : Mem} {s : Nat} {p q r d : Int32} (hC : gOk wX l X cc own dd ca sa) (hlk : Cond.methodLink own idx yX4_polishedAt ∈ TB) (hd : decode cc pc = .ok (.invokevirtual idx, 3)) (hdd : 0 + 1 ≤ dd) (hfr : kc + 0 ≤ ca ∧ nc + 0 ≤ sa) (hrest : (st.map fun v => v.category).sum ≤ 8)  (hP : s < nS t ∧ RS σ t ∧ Slp p q r ∧ Am t s p q r σ ∧ Dp d) (kk : G wX X kc nc (pc + 3) ls (.int (nI (sFacets (gMark t s p q r d) s true)) :: st) (σ)) : G wX X kc nc pc ls (.int d :: .ref (gA X 190) :: st) σ := by
  exact g_cVI 1 hC (c_X4_polishedAt l t s p q r d) hlk ⟨tw_3_190, tw_3_191, tw_1_6, tw_3_192⟩ (by decide +kernel) ⟨hdd, by decide⟩ hfr rfl rfl rfl (rv_Trial _ _) hrest rfl hd hP (fun rr σ1 hq => by obtain ⟨rfl, rfl⟩ := hq; exact kk)
set_option maxRecDepth 100000 in
set_option maxHeartbeats 4000000 in
/-- X4_laterOpposites -/
theorem c_X4_laterOpposites (l : Launch) (t : Mem) (s a : Nat) (p q r d : Int32) : gMI wX l yX4_laterOpposites (.code yX4_laterOpposites cX4_laterOpposites 5 (some FieldType.int)) 1 0 0 (fun A => [.ref (A 190), .int (nI a), .int d]) (fun τ => s < nS t ∧ RS τ t ∧ Slp p q r ∧ Am t s p q r τ ∧ Dp d ∧ a < nP t s) (fun τ rr τ1 => rr = nI (cnt (fun j => sFacet (gMark t s p q r d) s (a + 1 + j) && sOpp t s (a + 1 + j) a 3) (nP t s - (a + 1))) ∧ τ1 = τ) := by
  refine gMI_of (by decide) (fun A => Nat.le_of_ble_eq_true rfl) ?_
  intro X τ hC hP hE
  have hC : gOk wX l X cX4_laterOpposites "GemCut$Trial" 1 0 0 := hC
  show G wX X 0 0 0 [some (.ref (gA X 190)), some (.int (nI a)), some (.int d), none, none] [] τ
  have hP9 := hP
  obtain ⟨hs, hRS, hSl, hAm, hD, ha⟩ := hP
  have hM : MI t := hRS.1
  have hW : MW t := hRS.2.1
  have h6 : M16 t := hRS.2.2.1
  have hs8 : s < 8 := Nat.lt_of_lt_of_le hs (MI_S hM).2.2
  have hn16 : nP t s ≤ 16 := h6 s hs8
  have hRb := hRS.2.2.2.1
  have hps : (τ 190 1).toNatClampNeg = s := by rw [hAm.1.1.1]; exact nI_clamp (by omega)
  have hpc : τ (iStone s) 2 = nI (nP t s) := by rw [hRb.2.2.2.1 s hs]; exact (MI_P hM hs8).1
  have lp : ∀ (m k : Nat), k + m = (nP t s - (a + 1)) → G wX X 0 0 7 [some (.ref (gA X 190)), some (.int (nI a)), some (.int d), some (.int (nI (cnt (fun j => sFacet (gMark t s p q r d) s (a + 1 + j) && sOpp t s (a + 1 + j) a 3) k))), some (.int (nI (a + 1 + k)))] [] (τ) := by
    intro m
    induction m with
    | zero =>
      intro k hk 
      have hk : k = (nP t s - (a + 1)) := by omega
      subst hk
      refine g_ild4 hC dX4_laterOpposites_7 ?_
      refine g_ald0 hC dX4_laterOpposites_9 ?_
      refine xg_Trial_piece hC tw_1_173 dX4_laterOpposites_10 ?_
      rw [hps]
      refine xg_Stone_planeCount hC (by first | assumption | omega | exact xk_pl _ (by assumption) _ (by omega) | decide) tw_1_146 dX4_laterOpposites_13 ?_
      refine g_icmp_ge 64 hC dX4_laterOpposites_16 (by decide) (fun c16 => ?_) (fun c16 => absurd (by rw [hpc]; exact nI_le (by omega) (by omega)) c16)
      refine g_ild3 hC dX4_laterOpposites_64 ?_
      exact hE _ _ _ _ _ _ dX4_laterOpposites_65 (Nat.le_refl _) (Nat.le_refl _) ⟨by rfl, rfl⟩
    | succ m ih =>
      intro k hk 
      have hfl := fl_facet hM hW h6 hs8 hSl hD hAm (show a + 1 + k < nP t s by omega)
      have hopp : xOpp τ (iPl s a) (iPl s (a + 1 + k)) = sOpp t s (a + 1 + k) a 3 := opp_at (fun w hw => (hRb.2.2.2.2.1 s a hs (by omega)).1 w (by omega)) (fun w hw => (hRb.2.2.2.2.1 s (a + 1 + k) hs (by omega)).1 w (by omega))
      refine g_ild4 hC dX4_laterOpposites_7 ?_
      refine g_ald0 hC dX4_laterOpposites_9 ?_
      refine xg_Trial_piece hC tw_1_173 dX4_laterOpposites_10 ?_
      rw [hps]
      refine xg_Stone_planeCount hC (by first | assumption | omega | exact xk_pl _ (by assumption) _ (by omega) | decide) tw_1_146 dX4_laterOpposites_13 ?_
      refine g_icmp_ge 64 hC dX4_laterOpposites_16 (by decide) (fun c16 => absurd c16 (by rw [hpc]; exact nI_ge (by omega) (by omega))) (fun c16 => ?_)
      refine g_ald0 hC dX4_laterOpposites_19 ?_
      refine xg_Trial_floors hC tw_1_177 dX4_laterOpposites_20 ?_
      refine g_ild4 hC dX4_laterOpposites_23 ?_
      refine xl_floors (a + 1 + k) hC rfl (by omega) dX4_laterOpposites_25 ?_
      refine g_ild2 hC dX4_laterOpposites_26 ?_
      refine g_icmp_gt 58 hC dX4_laterOpposites_27 (by decide) (fun c27 => ?_) (fun c27 => ?_)
      · refine g_inc4 1 hC dX4_laterOpposites_58 (by decide) rfl ?_
        refine g_goto 7 hC dX4_laterOpposites_61 (by decide) ?_
        first
        | (rw [cnt_s1 (P := (fun j => sFacet (gMark t s p q r d) s (a + 1 + j) && sOpp t s (a + 1 + j) a 3)) (by show (_ && _) = true; rw [hfl.mp (Int32.not_lt.mp c27), b2i_ne0.mp c52]; rfl), nI_1]; exact ih (k + 1) (by omega))
        | (rw [show nI (cnt (fun j => sFacet (gMark t s p q r d) s (a + 1 + j) && sOpp t s (a + 1 + j) a 3) k) = nI (cnt (fun j => sFacet (gMark t s p q r d) s (a + 1 + j) && sOpp t s (a + 1 + j) a 3) (k + 1)) by rw [cnt_f (P := (fun j => sFacet (gMark t s p q r d) s (a + 1 + j) && sOpp t s (a + 1 + j) a 3)) (by show (_ && _) = false; rw [b2i_eq0.mp c52, Bool.and_false])], nI_1]; exact ih (k + 1) (by omega))
        | (rw [show nI (cnt (fun j => sFacet (gMark t s p q r d) s (a + 1 + j) && sOpp t s (a + 1 + j) a 3) k) = nI (cnt (fun j => sFacet (gMark t s p q r d) s (a + 1 + j) && sOpp t s (a + 1 + j) a 3) (k + 1)) by rw [cnt_f (P := (fun j => sFacet (gMark t s p q r d) s (a + 1 + j) && sOpp t s (a + 1 + j) a 3)) (by show (_ && _) = false; rw [Bool.eq_false_iff.mpr (fun q9 => absurd (hfl.mpr q9) (Int32.not_le.mpr c27)), Bool.false_and])], nI_1]; exact ih (k + 1) (by omega))
      · refine g_ald0 hC dX4_laterOpposites_30 ?_
        refine xg_Trial_piece hC tw_1_173 dX4_laterOpposites_31 ?_
        rw [hps]
        refine xg_Stone_planes hC (by first | assumption | omega | exact xk_pl _ (by assumption) _ (by omega) | decide) tw_1_143 dX4_laterOpposites_34 ?_
        refine g_ild1 hC dX4_laterOpposites_37 ?_
        refine xl_Pls _ hC (by first | assumption | omega | exact xk_pl _ (by assumption) _ (by omega) | decide) rfl (by omega) dX4_laterOpposites_38 ?_
        refine g_ald0 hC dX4_laterOpposites_39 ?_
        refine xg_Trial_piece hC tw_1_173 dX4_laterOpposites_40 ?_
        rw [hps]
        refine xg_Stone_planes hC (by first | assumption | omega | exact xk_pl _ (by assumption) _ (by omega) | decide) tw_1_143 dX4_laterOpposites_43 ?_
        refine g_ild4 hC dX4_laterOpposites_46 ?_
        refine xl_Pls (a + 1 + k) hC (by first | assumption | omega | exact xk_pl _ (by assumption) _ (by omega) | decide) rfl (by omega) dX4_laterOpposites_48 ?_
        refine k_X1_isOpposite (i := iPl s a) (j := iPl s (a + 1 + k)) hC tw_3_201 dX4_laterOpposites_49 (by decide) ⟨by omega, by omega⟩ (Nat.le_of_ble_eq_true rfl) (xk_pl s hs8 a (by omega)) (xk_pl s hs8 (a + 1 + k) (by omega)) ?_
        rw [hopp]
        refine g_if_eq 58 hC dX4_laterOpposites_52 (by decide) (fun c52 => ?_) (fun c52 => ?_)
        · refine g_inc4 1 hC dX4_laterOpposites_58 (by decide) rfl ?_
          refine g_goto 7 hC dX4_laterOpposites_61 (by decide) ?_
          first
          | (rw [cnt_s1 (P := (fun j => sFacet (gMark t s p q r d) s (a + 1 + j) && sOpp t s (a + 1 + j) a 3)) (by show (_ && _) = true; rw [hfl.mp (Int32.not_lt.mp c27), b2i_ne0.mp c52]; rfl), nI_1]; exact ih (k + 1) (by omega))
          | (rw [show nI (cnt (fun j => sFacet (gMark t s p q r d) s (a + 1 + j) && sOpp t s (a + 1 + j) a 3) k) = nI (cnt (fun j => sFacet (gMark t s p q r d) s (a + 1 + j) && sOpp t s (a + 1 + j) a 3) (k + 1)) by rw [cnt_f (P := (fun j => sFacet (gMark t s p q r d) s (a + 1 + j) && sOpp t s (a + 1 + j) a 3)) (by show (_ && _) = false; rw [b2i_eq0.mp c52, Bool.and_false])], nI_1]; exact ih (k + 1) (by omega))
          | (rw [show nI (cnt (fun j => sFacet (gMark t s p q r d) s (a + 1 + j) && sOpp t s (a + 1 + j) a 3) k) = nI (cnt (fun j => sFacet (gMark t s p q r d) s (a + 1 + j) && sOpp t s (a + 1 + j) a 3) (k + 1)) by rw [cnt_f (P := (fun j => sFacet (gMark t s p q r d) s (a + 1 + j) && sOpp t s (a + 1 + j) a 3)) (by show (_ && _) = false; rw [Bool.eq_false_iff.mpr (fun q9 => absurd (hfl.mpr q9) (Int32.not_le.mpr c27)), Bool.false_and])], nI_1]; exact ih (k + 1) (by omega))
        · refine g_inc3 1 hC dX4_laterOpposites_55 (by decide) rfl ?_
          refine g_inc4 1 hC dX4_laterOpposites_58 (by decide) rfl ?_
          refine g_goto 7 hC dX4_laterOpposites_61 (by decide) ?_
          first
          | (rw [cnt_s1 (P := (fun j => sFacet (gMark t s p q r d) s (a + 1 + j) && sOpp t s (a + 1 + j) a 3)) (by show (_ && _) = true; rw [hfl.mp (Int32.not_lt.mp c27), b2i_ne0.mp c52]; rfl), nI_1]; exact ih (k + 1) (by omega))
          | (rw [show nI (cnt (fun j => sFacet (gMark t s p q r d) s (a + 1 + j) && sOpp t s (a + 1 + j) a 3) k) = nI (cnt (fun j => sFacet (gMark t s p q r d) s (a + 1 + j) && sOpp t s (a + 1 + j) a 3) (k + 1)) by rw [cnt_f (P := (fun j => sFacet (gMark t s p q r d) s (a + 1 + j) && sOpp t s (a + 1 + j) a 3)) (by show (_ && _) = false; rw [b2i_eq0.mp c52, Bool.and_false])], nI_1]; exact ih (k + 1) (by omega))
          | (rw [show nI (cnt (fun j => sFacet (gMark t s p q r d) s (a + 1 + j) && sOpp t s (a + 1 + j) a 3) k) = nI (cnt (fun j => sFacet (gMark t s p q r d) s (a + 1 + j) && sOpp t s (a + 1 + j) a 3) (k + 1)) by rw [cnt_f (P := (fun j => sFacet (gMark t s p q r d) s (a + 1 + j) && sOpp t s (a + 1 + j) a 3)) (by show (_ && _) = false; rw [Bool.eq_false_iff.mpr (fun q9 => absurd (hfl.mpr q9) (Int32.not_le.mpr c27)), Bool.false_and])], nI_1]; exact ih (k + 1) (by omega))
  refine g_iconst 0 hC dX4_laterOpposites_0 (by decide) ?_
  refine g_ist3 hC dX4_laterOpposites_1 rfl ?_
  refine g_ild1 hC dX4_laterOpposites_2 ?_
  refine g_iconst 1 hC dX4_laterOpposites_3 (by decide) ?_
  refine g_iadd hC dX4_laterOpposites_4 ?_
  refine g_ist4 hC dX4_laterOpposites_5 rfl ?_
  rw [nI_1]
  exact lp (nP t s - (a + 1)) 0 (by omega)
theorem k_X4_laterOpposites {l : Launch} {X : gC} {cc : ByteArray} {own : String} {dd ca sa kc nc pc : Nat} {ls : List (Option Value)} {st : List Value} {σ : Mem} {idx : Nat} {t : Mem} {s a : Nat} {p q r d : Int32} (hC : gOk wX l X cc own dd ca sa) (hlk : Cond.methodLink own idx yX4_laterOpposites ∈ TB) (hd : decode cc pc = .ok (.invokevirtual idx, 3)) (hdd : 1 + 1 ≤ dd) (hfr : kc + 0 ≤ ca ∧ nc + 0 ≤ sa) (hrest : (st.map fun v => v.category).sum ≤ 8)  (hP : s < nS t ∧ RS σ t ∧ Slp p q r ∧ Am t s p q r σ ∧ Dp d ∧ a < nP t s) (kk : G wX X kc nc (pc + 3) ls (.int (nI (cnt (fun j => sFacet (gMark t s p q r d) s (a + 1 + j) && sOpp t s (a + 1 + j) a 3) (nP t s - (a + 1)))) :: st) (σ)) : G wX X kc nc pc ls (.int d :: .int (nI a) :: .ref (gA X 190) :: st) σ := by
  exact g_cVI 2 hC (c_X4_laterOpposites l t s a p q r d) hlk ⟨tw_3_204, tws_2_4, tw_1_6, tw_3_205⟩ (by decide +kernel) ⟨hdd, by decide⟩ hfr rfl rfl rfl (rv_Trial _ _) hrest rfl hd hP (fun rr σ1 hq => by obtain ⟨rfl, rfl⟩ := hq; exact kk)
