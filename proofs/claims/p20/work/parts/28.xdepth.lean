set_option maxRecDepth 100000 in
set_option maxHeartbeats 4000000 in
/-- X4_polishedAt -/
theorem c_X4_polishedAt (l : Launch) (t : Mem) (s : Nat) (p q r d : Int32) : gMI wX l yX4_polishedAt (.code yX4_polishedAt cX4_polishedAt 4 (some FieldType.int)) 0 0 0 (fun A => [.ref (A 190), .int d]) (fun τ => s < nS t ∧ RS τ t ∧ Slp p q r ∧ Am t s p q r τ ∧ Dp d) (fun τ rr τ1 => rr = nI (sFacets (gMark t s p q r d) s true) ∧ τ1 = τ) := by
  refine gMI_of (by decide) (fun A => Nat.le_of_ble_eq_true rfl) ?_
  intro X τ hC hP hE
  have hC : gOk wX l X cX4_polishedAt "GemCut$Trial" 0 0 0 := hC
  show G wX X 0 0 0 [some (.ref (gA X 190)), some (.int d), none, none] [] τ
  have hP9 := hP
  obtain ⟨hs, hRS, hSl, hAm, hD⟩ := hP
  have hM : MI t := hRS.1
  have hW : MW t := hRS.2.1
  have h6 : M16 t := hRS.2.2.1
  have hs8 : s < 8 := Nat.lt_of_lt_of_le hs (MI_S hM).2.2
  have hn16 : nP t s ≤ 16 := h6 s hs8
  have hRb := hRS.2.2.2.1
  have hps : (τ 190 1).toNatClampNeg = s := by rw [hAm.1.1.1]; exact nI_clamp (by omega)
  have hpc : τ (iStone s) 2 = nI (nP t s) := by rw [hRb.2.2.2.1 s hs]; exact (MI_P hM hs8).1
  have lp : ∀ (m k : Nat), k + m = (nP t s) → G wX X 0 0 4 [some (.ref (gA X 190)), some (.int d), some (.int (nI (cnt (pFacets (gMark t s p q r d) s true) k))), some (.int (nI k))] [] (τ) := by
    intro m
    induction m with
    | zero =>
      intro k hk 
      have hk : k = (nP t s) := by omega
      subst hk
      refine g_ild3 hC dX4_polishedAt_4 ?_
      refine g_ald0 hC dX4_polishedAt_5 ?_
      refine xg_Trial_piece hC tw_1_173 dX4_polishedAt_6 ?_
      rw [hps]
      refine xg_Stone_planeCount hC (by first | assumption | omega | exact xk_pl _ (by assumption) _ (by omega) | decide) tw_1_146 dX4_polishedAt_9 ?_
      refine g_icmp_ge 49 hC dX4_polishedAt_12 (by decide) (fun c12 => ?_) (fun c12 => absurd (by rw [hpc]; exact nI_le (by omega) (by omega)) c12)
      refine g_ild2 hC dX4_polishedAt_49 ?_
      exact hE _ _ _ _ _ _ dX4_polishedAt_50 (Nat.le_refl _) (Nat.le_refl _) ⟨by rw [mk_facets hM h6 hs8], rfl⟩
    | succ m ih =>
      intro k hk 
      have hfl := fl_facet hM hW h6 hs8 hSl hD hAm (show k < nP t s by omega)
      have hpf : pFacets (gMark t s p q r d) s true k = (sFacet (gMark t s p q r d) s k && !(sPl t s k 4 == 0)) := by unfold pFacets; rw [mk_pol hM hW h6 hs (by omega)]; simp
      refine g_ild3 hC dX4_polishedAt_4 ?_
      refine g_ald0 hC dX4_polishedAt_5 ?_
      refine xg_Trial_piece hC tw_1_173 dX4_polishedAt_6 ?_
      rw [hps]
      refine xg_Stone_planeCount hC (by first | assumption | omega | exact xk_pl _ (by assumption) _ (by omega) | decide) tw_1_146 dX4_polishedAt_9 ?_
      refine g_icmp_ge 49 hC dX4_polishedAt_12 (by decide) (fun c12 => absurd c12 (by rw [hpc]; exact nI_ge (by omega) (by omega))) (fun c12 => ?_)
      refine g_ald0 hC dX4_polishedAt_15 ?_
      refine xg_Trial_floors hC tw_1_177 dX4_polishedAt_16 ?_
      refine g_ild3 hC dX4_polishedAt_19 ?_
      refine xl_floors k hC rfl (by omega) dX4_polishedAt_20 ?_
      refine g_ild1 hC dX4_polishedAt_21 ?_
      refine g_icmp_gt 43 hC dX4_polishedAt_22 (by decide) (fun c22 => ?_) (fun c22 => ?_)
      · refine g_inc3 1 hC dX4_polishedAt_43 (by decide) rfl ?_
        refine g_goto 4 hC dX4_polishedAt_46 (by decide) ?_
        first
        | (rw [cnt_s1 (P := (pFacets (gMark t s p q r d) s true)) (by rw [hpf, hfl.mp (Int32.not_lt.mp c22)]; simpa using c37), nI_1]; exact ih (k + 1) (by omega))
        | (rw [show nI (cnt (pFacets (gMark t s p q r d) s true) k) = nI (cnt (pFacets (gMark t s p q r d) s true) (k + 1)) by rw [cnt_f (by rw [hpf, c37]; simp)], nI_1]; exact ih (k + 1) (by omega))
        | (rw [show nI (cnt (pFacets (gMark t s p q r d) s true) k) = nI (cnt (pFacets (gMark t s p q r d) s true) (k + 1)) by rw [cnt_f (by rw [hpf, Bool.eq_false_iff.mpr (fun q9 => absurd (hfl.mpr q9) (Int32.not_le.mpr c22)), Bool.false_and])], nI_1]; exact ih (k + 1) (by omega))
      · refine g_ald0 hC dX4_polishedAt_25 ?_
        refine xg_Trial_piece hC tw_1_173 dX4_polishedAt_26 ?_
        rw [hps]
        refine xg_Stone_planes hC (by first | assumption | omega | exact xk_pl _ (by assumption) _ (by omega) | decide) tw_1_143 dX4_polishedAt_29 ?_
        refine g_ild3 hC dX4_polishedAt_32 ?_
        refine xl_Pls k hC (by first | assumption | omega | exact xk_pl _ (by assumption) _ (by omega) | decide) rfl (by omega) dX4_polishedAt_33 ?_
        refine xg_Plane_polished hC (by first | assumption | omega | exact xk_pl _ (by assumption) _ (by omega) | decide) tw_1_120 dX4_polishedAt_34 ?_
        rw [(hRb.2.2.2.2.1 s k hs (by omega)).2.2]
        refine g_if_eq 43 hC dX4_polishedAt_37 (by decide) (fun c37 => ?_) (fun c37 => ?_)
        · refine g_inc3 1 hC dX4_polishedAt_43 (by decide) rfl ?_
          refine g_goto 4 hC dX4_polishedAt_46 (by decide) ?_
          first
          | (rw [cnt_s1 (P := (pFacets (gMark t s p q r d) s true)) (by rw [hpf, hfl.mp (Int32.not_lt.mp c22)]; simpa using c37), nI_1]; exact ih (k + 1) (by omega))
          | (rw [show nI (cnt (pFacets (gMark t s p q r d) s true) k) = nI (cnt (pFacets (gMark t s p q r d) s true) (k + 1)) by rw [cnt_f (by rw [hpf, c37]; simp)], nI_1]; exact ih (k + 1) (by omega))
          | (rw [show nI (cnt (pFacets (gMark t s p q r d) s true) k) = nI (cnt (pFacets (gMark t s p q r d) s true) (k + 1)) by rw [cnt_f (by rw [hpf, Bool.eq_false_iff.mpr (fun q9 => absurd (hfl.mpr q9) (Int32.not_le.mpr c22)), Bool.false_and])], nI_1]; exact ih (k + 1) (by omega))
        · refine g_inc2 1 hC dX4_polishedAt_40 (by decide) rfl ?_
          refine g_inc3 1 hC dX4_polishedAt_43 (by decide) rfl ?_
          refine g_goto 4 hC dX4_polishedAt_46 (by decide) ?_
          first
          | (rw [cnt_s1 (P := (pFacets (gMark t s p q r d) s true)) (by rw [hpf, hfl.mp (Int32.not_lt.mp c22)]; simpa using c37), nI_1]; exact ih (k + 1) (by omega))
          | (rw [show nI (cnt (pFacets (gMark t s p q r d) s true) k) = nI (cnt (pFacets (gMark t s p q r d) s true) (k + 1)) by rw [cnt_f (by rw [hpf, c37]; simp)], nI_1]; exact ih (k + 1) (by omega))
          | (rw [show nI (cnt (pFacets (gMark t s p q r d) s true) k) = nI (cnt (pFacets (gMark t s p q r d) s true) (k + 1)) by rw [cnt_f (by rw [hpf, Bool.eq_false_iff.mpr (fun q9 => absurd (hfl.mpr q9) (Int32.not_le.mpr c22)), Bool.false_and])], nI_1]; exact ih (k + 1) (by omega))
  refine g_iconst 0 hC dX4_polishedAt_0 (by decide) ?_
  refine g_ist2 hC dX4_polishedAt_1 rfl ?_
  refine g_iconst 0 hC dX4_polishedAt_2 (by decide) ?_
  refine g_ist3 hC dX4_polishedAt_3 rfl ?_
  exact lp (nP t s) 0 (by omega)
theorem k_X4_polishedAt {l : Launch} {X : gC} {cc : ByteArray} {own : String} {dd ca sa kc nc pc : Nat} {ls : List (Option Value)} {st : List Value} {σ : Mem} {idx : Nat} {t : Mem} {s : Nat} {p q r d : Int32} (hC : gOk wX l X cc own dd ca sa) (hlk : Cond.methodLink own idx yX4_polishedAt ∈ TB) (hd : decode cc pc = .ok (.invokevirtual idx, 3)) (hdd : 0 + 1 ≤ dd) (hfr : kc + 0 ≤ ca ∧ nc + 0 ≤ sa) (hrest : (st.map fun v => v.category).sum ≤ 8)  (hP : s < nS t ∧ RS σ t ∧ Slp p q r ∧ Am t s p q r σ ∧ Dp d) (kk : G wX X kc nc (pc + 3) ls (.int (nI (sFacets (gMark t s p q r d) s true)) :: st) (σ)) : G wX X kc nc pc ls (.int d :: .ref (gA X 190) :: st) σ := by
  exact g_cVI 1 hC (c_X4_polishedAt l t s p q r d) hlk ⟨tw_3_97, tw_3_98, tw_1_6, tw_3_99⟩ (by decide +kernel) ⟨hdd, by decide⟩ hfr rfl rfl rfl (rv_Trial _ _) hrest rfl hd hP (fun rr σ1 hq => by obtain ⟨rfl, rfl⟩ := hq; exact kk)
set_option maxRecDepth 100000 in
set_option maxHeartbeats 4000000 in
/-- X4_laterOpposites -/
theorem c_X4_laterOpposites (l : Launch) (t : Mem) (s a : Nat) (p q r d : Int32) : gMI wX l yX4_laterOpposites (.code yX4_laterOpposites cX4_laterOpposites 5 (some FieldType.int)) 1 0 0 (fun A => [.ref (A 190), .int (nI a), .int d]) (fun τ => s < nS t ∧ RS τ t ∧ Slp p q r ∧ Am t s p q r τ ∧ Dp d ∧ a < nP t s) (fun τ rr τ1 => rr = nI (cnt (fun j => sFacet (gMark t s p q r d) s (a + 1 + j) && sOpp t s (a + 1 + j) a 3) (nP t s - (a + 1))) ∧ τ1 = τ) := by
  refine gMI_of (by decide) (fun A => Nat.le_of_ble_eq_true rfl) ?_
  intro X τ hC hP hE
  have hC : gOk wX l X cX4_laterOpposites "GemCut$Trial" 1 0 0 := hC
  show G wX X 0 0 0 [some (.ref (gA X 190)), some (.int (nI a)), some (.int d), none, none] [] τ
  have hP9 := hP
  obtain ⟨hs, hRS, hSl, hAm, hD, ha⟩ := hP
  have hM : MI t := hRS.1
  have hW : MW t := hRS.2.1
  have h6 : M16 t := hRS.2.2.1
  have hs8 : s < 8 := Nat.lt_of_lt_of_le hs (MI_S hM).2.2
  have hn16 : nP t s ≤ 16 := h6 s hs8
  have hRb := hRS.2.2.2.1
  have hps : (τ 190 1).toNatClampNeg = s := by rw [hAm.1.1.1]; exact nI_clamp (by omega)
  have hpc : τ (iStone s) 2 = nI (nP t s) := by rw [hRb.2.2.2.1 s hs]; exact (MI_P hM hs8).1
  have lp : ∀ (m k : Nat), k + m = (nP t s - (a + 1)) → G wX X 0 0 7 [some (.ref (gA X 190)), some (.int (nI a)), some (.int d), some (.int (nI (cnt (fun j => sFacet (gMark t s p q r d) s (a + 1 + j) && sOpp t s (a + 1 + j) a 3) k))), some (.int (nI (a + 1 + k)))] [] (τ) := by
    intro m
    induction m with
    | zero =>
      intro k hk 
      have hk : k = (nP t s - (a + 1)) := by omega
      subst hk
      refine g_ild4 hC dX4_laterOpposites_7 ?_
      refine g_ald0 hC dX4_laterOpposites_9 ?_
      refine xg_Trial_piece hC tw_1_173 dX4_laterOpposites_10 ?_
      rw [hps]
      refine xg_Stone_planeCount hC (by first | assumption | omega | exact xk_pl _ (by assumption) _ (by omega) | decide) tw_1_146 dX4_laterOpposites_13 ?_
      refine g_icmp_ge 64 hC dX4_laterOpposites_16 (by decide) (fun c16 => ?_) (fun c16 => absurd (by rw [hpc]; exact nI_le (by omega) (by omega)) c16)
      refine g_ild3 hC dX4_laterOpposites_64 ?_
      exact hE _ _ _ _ _ _ dX4_laterOpposites_65 (Nat.le_refl _) (Nat.le_refl _) ⟨by rfl, rfl⟩
    | succ m ih =>
      intro k hk 
      have hfl := fl_facet hM hW h6 hs8 hSl hD hAm (show a + 1 + k < nP t s by omega)
      have hopp : xOpp τ (iPl s a) (iPl s (a + 1 + k)) = sOpp t s (a + 1 + k) a 3 := opp_at (fun w hw => (hRb.2.2.2.2.1 s a hs (by omega)).1 w (by omega)) (fun w hw => (hRb.2.2.2.2.1 s (a + 1 + k) hs (by omega)).1 w (by omega))
      refine g_ild4 hC dX4_laterOpposites_7 ?_
      refine g_ald0 hC dX4_laterOpposites_9 ?_
      refine xg_Trial_piece hC tw_1_173 dX4_laterOpposites_10 ?_
      rw [hps]
      refine xg_Stone_planeCount hC (by first | assumption | omega | exact xk_pl _ (by assumption) _ (by omega) | decide) tw_1_146 dX4_laterOpposites_13 ?_
      refine g_icmp_ge 64 hC dX4_laterOpposites_16 (by decide) (fun c16 => absurd c16 (by rw [hpc]; exact nI_ge (by omega) (by omega))) (fun c16 => ?_)
      refine g_ald0 hC dX4_laterOpposites_19 ?_
      refine xg_Trial_floors hC tw_1_177 dX4_laterOpposites_20 ?_
      refine g_ild4 hC dX4_laterOpposites_23 ?_
      refine xl_floors (a + 1 + k) hC rfl (by omega) dX4_laterOpposites_25 ?_
      refine g_ild2 hC dX4_laterOpposites_26 ?_
      refine g_icmp_gt 58 hC dX4_laterOpposites_27 (by decide) (fun c27 => ?_) (fun c27 => ?_)
      · refine g_inc4 1 hC dX4_laterOpposites_58 (by decide) rfl ?_
        refine g_goto 7 hC dX4_laterOpposites_61 (by decide) ?_
        first
        | (rw [cnt_s1 (P := (fun j => sFacet (gMark t s p q r d) s (a + 1 + j) && sOpp t s (a + 1 + j) a 3)) (by show (_ && _) = true; rw [hfl.mp (Int32.not_lt.mp c27), b2i_ne0.mp c52]; rfl), nI_1]; exact ih (k + 1) (by omega))
        | (rw [show nI (cnt (fun j => sFacet (gMark t s p q r d) s (a + 1 + j) && sOpp t s (a + 1 + j) a 3) k) = nI (cnt (fun j => sFacet (gMark t s p q r d) s (a + 1 + j) && sOpp t s (a + 1 + j) a 3) (k + 1)) by rw [cnt_f (P := (fun j => sFacet (gMark t s p q r d) s (a + 1 + j) && sOpp t s (a + 1 + j) a 3)) (by show (_ && _) = false; rw [b2i_eq0.mp c52, Bool.and_false])], nI_1]; exact ih (k + 1) (by omega))
        | (rw [show nI (cnt (fun j => sFacet (gMark t s p q r d) s (a + 1 + j) && sOpp t s (a + 1 + j) a 3) k) = nI (cnt (fun j => sFacet (gMark t s p q r d) s (a + 1 + j) && sOpp t s (a + 1 + j) a 3) (k + 1)) by rw [cnt_f (P := (fun j => sFacet (gMark t s p q r d) s (a + 1 + j) && sOpp t s (a + 1 + j) a 3)) (by show (_ && _) = false; rw [Bool.eq_false_iff.mpr (fun q9 => absurd (hfl.mpr q9) (Int32.not_le.mpr c27)), Bool.false_and])], nI_1]; exact ih (k + 1) (by omega))
      · refine g_ald0 hC dX4_laterOpposites_30 ?_
        refine xg_Trial_piece hC tw_1_173 dX4_laterOpposites_31 ?_
        rw [hps]
        refine xg_Stone_planes hC (by first | assumption | omega | exact xk_pl _ (by assumption) _ (by omega) | decide) tw_1_143 dX4_laterOpposites_34 ?_
        refine g_ild1 hC dX4_laterOpposites_37 ?_
        refine xl_Pls _ hC (by first | assumption | omega | exact xk_pl _ (by assumption) _ (by omega) | decide) rfl (by omega) dX4_laterOpposites_38 ?_
        refine g_ald0 hC dX4_laterOpposites_39 ?_
        refine xg_Trial_piece hC tw_1_173 dX4_laterOpposites_40 ?_
        rw [hps]
        refine xg_Stone_planes hC (by first | assumption | omega | exact xk_pl _ (by assumption) _ (by omega) | decide) tw_1_143 dX4_laterOpposites_43 ?_
        refine g_ild4 hC dX4_laterOpposites_46 ?_
        refine xl_Pls (a + 1 + k) hC (by first | assumption | omega | exact xk_pl _ (by assumption) _ (by omega) | decide) rfl (by omega) dX4_laterOpposites_48 ?_
        refine k_X1_isOpposite (i := iPl s a) (j := iPl s (a + 1 + k)) hC tw_3_108 dX4_laterOpposites_49 (by decide) ⟨by omega, by omega⟩ (Nat.le_of_ble_eq_true rfl) (xk_pl s hs8 a (by omega)) (xk_pl s hs8 (a + 1 + k) (by omega)) ?_
        rw [hopp]
        refine g_if_eq 58 hC dX4_laterOpposites_52 (by decide) (fun c52 => ?_) (fun c52 => ?_)
        · refine g_inc4 1 hC dX4_laterOpposites_58 (by decide) rfl ?_
          refine g_goto 7 hC dX4_laterOpposites_61 (by decide) ?_
          first
          | (rw [cnt_s1 (P := (fun j => sFacet (gMark t s p q r d) s (a + 1 + j) && sOpp t s (a + 1 + j) a 3)) (by show (_ && _) = true; rw [hfl.mp (Int32.not_lt.mp c27), b2i_ne0.mp c52]; rfl), nI_1]; exact ih (k + 1) (by omega))
          | (rw [show nI (cnt (fun j => sFacet (gMark t s p q r d) s (a + 1 + j) && sOpp t s (a + 1 + j) a 3) k) = nI (cnt (fun j => sFacet (gMark t s p q r d) s (a + 1 + j) && sOpp t s (a + 1 + j) a 3) (k + 1)) by rw [cnt_f (P := (fun j => sFacet (gMark t s p q r d) s (a + 1 + j) && sOpp t s (a + 1 + j) a 3)) (by show (_ && _) = false; rw [b2i_eq0.mp c52, Bool.and_false])], nI_1]; exact ih (k + 1) (by omega))
          | (rw [show nI (cnt (fun j => sFacet (gMark t s p q r d) s (a + 1 + j) && sOpp t s (a + 1 + j) a 3) k) = nI (cnt (fun j => sFacet (gMark t s p q r d) s (a + 1 + j) && sOpp t s (a + 1 + j) a 3) (k + 1)) by rw [cnt_f (P := (fun j => sFacet (gMark t s p q r d) s (a + 1 + j) && sOpp t s (a + 1 + j) a 3)) (by show (_ && _) = false; rw [Bool.eq_false_iff.mpr (fun q9 => absurd (hfl.mpr q9) (Int32.not_le.mpr c27)), Bool.false_and])], nI_1]; exact ih (k + 1) (by omega))
        · refine g_inc3 1 hC dX4_laterOpposites_55 (by decide) rfl ?_
          refine g_inc4 1 hC dX4_laterOpposites_58 (by decide) rfl ?_
          refine g_goto 7 hC dX4_laterOpposites_61 (by decide) ?_
          first
          | (rw [cnt_s1 (P := (fun j => sFacet (gMark t s p q r d) s (a + 1 + j) && sOpp t s (a + 1 + j) a 3)) (by show (_ && _) = true; rw [hfl.mp (Int32.not_lt.mp c27), b2i_ne0.mp c52]; rfl), nI_1]; exact ih (k + 1) (by omega))
          | (rw [show nI (cnt (fun j => sFacet (gMark t s p q r d) s (a + 1 + j) && sOpp t s (a + 1 + j) a 3) k) = nI (cnt (fun j => sFacet (gMark t s p q r d) s (a + 1 + j) && sOpp t s (a + 1 + j) a 3) (k + 1)) by rw [cnt_f (P := (fun j => sFacet (gMark t s p q r d) s (a + 1 + j) && sOpp t s (a + 1 + j) a 3)) (by show (_ && _) = false; rw [b2i_eq0.mp c52, Bool.and_false])], nI_1]; exact ih (k + 1) (by omega))
          | (rw [show nI (cnt (fun j => sFacet (gMark t s p q r d) s (a + 1 + j) && sOpp t s (a + 1 + j) a 3) k) = nI (cnt (fun j => sFacet (gMark t s p q r d) s (a + 1 + j) && sOpp t s (a + 1 + j) a 3) (k + 1)) by rw [cnt_f (P := (fun j => sFacet (gMark t s p q r d) s (a + 1 + j) && sOpp t s (a + 1 + j) a 3)) (by show (_ && _) = false; rw [Bool.eq_false_iff.mpr (fun q9 => absurd (hfl.mpr q9) (Int32.not_le.mpr c27)), Bool.false_and])], nI_1]; exact ih (k + 1) (by omega))
  refine g_iconst 0 hC dX4_laterOpposites_0 (by decide) ?_
  refine g_ist3 hC dX4_laterOpposites_1 rfl ?_
  refine g_ild1 hC dX4_laterOpposites_2 ?_
  refine g_iconst 1 hC dX4_laterOpposites_3 (by decide) ?_
  refine g_iadd hC dX4_laterOpposites_4 ?_
  refine g_ist4 hC dX4_laterOpposites_5 rfl ?_
  rw [nI_1]
  exact lp (nP t s - (a + 1)) 0 (by omega)
theorem k_X4_laterOpposites {l : Launch} {X : gC} {cc : ByteArray} {own : String} {dd ca sa kc nc pc : Nat} {ls : List (Option Value)} {st : List Value} {σ : Mem} {idx : Nat} {t : Mem} {s a : Nat} {p q r d : Int32} (hC : gOk wX l X cc own dd ca sa) (hlk : Cond.methodLink own idx yX4_laterOpposites ∈ TB) (hd : decode cc pc = .ok (.invokevirtual idx, 3)) (hdd : 1 + 1 ≤ dd) (hfr : kc + 0 ≤ ca ∧ nc + 0 ≤ sa) (hrest : (st.map fun v => v.category).sum ≤ 8)  (hP : s < nS t ∧ RS σ t ∧ Slp p q r ∧ Am t s p q r σ ∧ Dp d ∧ a < nP t s) (kk : G wX X kc nc (pc + 3) ls (.int (nI (cnt (fun j => sFacet (gMark t s p q r d) s (a + 1 + j) && sOpp t s (a + 1 + j) a 3) (nP t s - (a + 1)))) :: st) (σ)) : G wX X kc nc pc ls (.int d :: .int (nI a) :: .ref (gA X 190) :: st) σ := by
  exact g_cVI 2 hC (c_X4_laterOpposites l t s a p q r d) hlk ⟨tw_3_111, tws_2_3, tw_1_6, tw_3_112⟩ (by decide +kernel) ⟨hdd, by decide⟩ hfr rfl rfl rfl (rv_Trial _ _) hrest rfl hd hP (fun rr σ1 hq => by obtain ⟨rfl, rfl⟩ := hq; exact kk)
/-! the pairs, the flaws and the worth behind a mark -/
section MQ
variable {τ : Mem} {s : Nat} {p q r d : Int32}
def gPr (τ : Mem) (s : Nat) (p q r d : Int32) (b : Nat) : Nat := (if pPair (gMark τ s p q r d) s (nP τ s) b = true then 1 else 0) + cnt (fun j => pPair (gMark τ s p q r d) s (b + 1 + j) b) (nP τ s - (b + 1))
theorem gPr_all (hM : MI τ) (h6 : M16 τ) (hs : s < 8) : sPairs (gMark τ s p q r d) s = sumN (gPr τ s p q r d) (nP τ s) := by
  unfold sPairs
  rw [nP_mark hM h6 hs]
  exact tri_s (pPair (gMark τ s p q r d) s) (nP τ s)
theorem mk_opp (hM : MI τ) (h6 : M16 τ) (hs : s < 8) {a b : Nat} (ha : a < nP τ s) (hb : b < nP τ s) : sOpp (gMark τ s p q r d) s a b 3 = sOpp τ s a b 3 := by
  simp only [sOpp, allB]
  rw [mk_pl hM h6 hs ha (by decide), mk_pl hM h6 hs ha (by decide), mk_pl hM h6 hs ha (by decide), mk_pl hM h6 hs hb (by decide), mk_pl hM h6 hs hb (by decide), mk_pl hM h6 hs hb (by decide)]
theorem gPr_1 (hM : MI τ) (hW : MW τ) (h6 : M16 τ) (hs : s < 8) (hSl : Slp p q r) (hd : Dp d) {b : Nat} (hb : b < nP τ s) (hf : sFacet (gMark τ s p q r d) s b = true) :
    gPr τ s p q r d b = (if (wF τ s p q r d && sOpp (gMark τ s p q r d) s (nP τ s) b 3) = true then 1 else 0) + cnt (fun j => sFacet (gMark τ s p q r d) s (b + 1 + j) && sOpp τ s (b + 1 + j) b 3) (nP τ s - (b + 1)) := by
  unfold gPr
  have e1 : pPair (gMark τ s p q r d) s (nP τ s) b = (wF τ s p q r d && sOpp (gMark τ s p q r d) s (nP τ s) b 3) := by
    unfold pPair
    rw [mk_facetN hM hW h6 hs hSl hd, hf, Bool.and_true, Bool.and_comm]
  rw [e1]
  congr 1
  refine cnt_congr _ (fun j hj => ?_)
  unfold pPair
  rw [mk_opp hM h6 hs (by omega) hb, hf, Bool.and_true, Bool.and_comm]
theorem gPr_0 {b : Nat} (hf : sFacet (gMark τ s p q r d) s b = false) : gPr τ s p q r d b = 0 := by
  unfold gPr
  rw [if_neg (by unfold pPair; rw [hf, Bool.and_false]; decide), cnt_zero _ (fun j _ => by unfold pPair; rw [hf, Bool.and_false])]
def fA (τ : Mem) (s : Nat) (p q r d : Int32) (i : Nat) : Bool := own τ s i && decide (zh τ p q r i ≤ d.toInt)
def fB (τ : Mem) (s : Nat) (p q r d : Int32) (i : Nat) : Bool := fA τ s p q r d i && (sSurf τ (CI τ i) || decide (d.toInt < zh τ p q r i + zR p q r))
theorem mk_fc (hM : MI τ) (hW : MW τ) (hs : s < 8) (hSl : Slp p q r) (f : Nat) (op : Bool) : sFc (gMark τ s p q r d) f (nI s) op = cnt (fun i => sFlawed τ f (CI τ i) && (if op = true then fB τ s p q r d i else fA τ s p q r d i)) (NN τ) := by
  unfold sFc
  have e : cnt (pFc (gMark τ s p q r d) f (nI s) op) 1000 = cnt (fun c => τ 1 c == nI s && decide (sHgt c p q r ≤ d) && sFlawed τ f c && (!op || sSurf (gMark τ s p q r d) c)) 1000 := cnt_congr _ (fun c hc => by unfold pFc; rw [mk_1 hc hs, mk_flawed])
  rw [e, ← box_cnt hM hW _ (fun c h => by rw [h, m1_nI (by omega)]; simp only [Bool.false_and])]
  refine cnt_congr _ (fun i hi => ?_)
  rw [hgt_le hM hSl hi]
  unfold fB fA own
  by_cases ho : own τ s i = true
  · by_cases hz : zh τ p q r i ≤ d.toInt
    · rw [mk_surf hM hs hSl hi ho hz]
      unfold own at ho
      rw [ho, decide_eq_true hz]
      cases op <;> simp
    · rw [decide_eq_false hz]
      cases op <;> simp
  · unfold own at ho
    rw [Bool.eq_false_iff.mpr ho]
    cases op <;> simp
def stA (A : Nat → Bool) (k : Nat) : Int32 := if cnt A k = 0 then -1 else 0
theorem st_val (hM : MI τ) (hW : MW τ) (hs : s < 8) (hSl : Slp p q r) {f m : Nat} {g : Nat → Nat} (hm : m ≤ 63)
    (hc : ∀ P : Nat → Bool, cnt (fun k => P (g k)) m = cnt (fun i => sFlawed τ f (CI τ i) && P i) (NN τ)) :
    sFt (gMark τ s p q r d) f (nI s) 2 = if cnt (fun k => fA τ s p q r d (g k)) m = 0 then -1 else if 0 < cnt (fun k => fB τ s p q r d (g k)) m then 1 else 0 := by
  unfold sFt
  rw [if_neg (by decide), mk_fc hM hW hs hSl f false, mk_fc hM hW hs hSl f true]
  simp only [if_true, Bool.false_eq_true, if_false]
  rw [← hc (fA τ s p q r d), ← hc (fB τ s p q r d)]
  have b1 : cnt (fun k => fA τ s p q r d (g k)) m ≤ 1000 := Nat.le_trans (cnt_le _ _) (by omega)
  have b2 : cnt (fun k => fB τ s p q r d (g k)) m ≤ 1000 := Nat.le_trans (cnt_le _ _) (by omega)
  have z1 : (nI (cnt (fun k => fA τ s p q r d (g k)) m) = 0) ↔ cnt (fun k => fA τ s p q r d (g k)) m = 0 := by
    rw [show (0 : Int32) = nI 0 by decide]; exact ⟨fun h => nI_inj (by omega) (by omega) h, fun h => by rw [h]⟩
  have z2 := nI_pos0 b2
  simp only [z1, z2]
theorem st_one {v : Int32} {A B : Nat → Bool} {m k : Nat} (h : v = if cnt A m = 0 then -1 else if 0 < cnt B m then 1 else 0) (hk : k < m) (hA : A k = true) (hB : B k = true) : (1 : Int32) = v := by
  have h1 : 0 < cnt A m := (cnt_pos m).mpr ⟨k, hk, hA⟩
  have h2 : 0 < cnt B m := (cnt_pos m).mpr ⟨k, hk, hB⟩
  rw [h, if_neg (by omega), if_pos h2]
theorem st_end {v : Int32} {A B : Nat → Bool} {m : Nat} (h : v = if cnt A m = 0 then -1 else if 0 < cnt B m then 1 else 0) (hB : cnt B m = 0) : stA A m = v := by
  rw [h, if_neg (show ¬ 0 < cnt B m by omega)]; rfl
theorem stA_t {A : Nat → Bool} {k : Nat} (h : A k = true) : (0 : Int32) = stA A (k + 1) := by unfold stA; rw [cnt_t h, if_neg (by omega)]
theorem stA_f {A : Nat → Bool} {k : Nat} (h : A k = false) : stA A k = stA A (k + 1) := by unfold stA; rw [cnt_f h]
theorem sFt_rng (τ : Mem) (f : Nat) (s : Int32) : sFt τ f s 2 = 0 ∨ sFt τ f s 2 = 1 ∨ sFt τ f s 2 = -1 := by
  unfold sFt
  rw [if_neg (by decide)]
  split
  · exact Or.inr (Or.inr rfl)
  · split
    · exact Or.inr (Or.inl rfl)
    · exact Or.inl rfl
def wBy (w po pl pr : Int32) : Int32 := if w = 0 then 0 else (w * w / 10 + 10 * w) * jmax 10 (100 - po) / 100 + 25 * pl + 40 * pr
theorem sWorth_by (τ : Mem) (s : Nat) : sWorth τ s = wBy (nI (sWt τ (nI s))) (sPts τ (nI s) (nF τ)) (nI (sFacets τ s true)) (nI (sPairs τ s)) := rfl
end MQ

set_option maxRecDepth 100000 in
set_option maxHeartbeats 4000000 in
/-- X4_pairsAt -/
theorem c_X4_pairsAt (l : Launch) (t : Mem) (s : Nat) (p q r d : Int32) : gMI wX l yX4_pairsAt (.code yX4_pairsAt cX4_pairsAt 5 (some FieldType.int)) 3 0 0 (fun A => [.ref (A 190), .int d]) (fun τ => s < nS t ∧ RS τ t ∧ Slp p q r ∧ Am t s p q r τ ∧ Dp d) (fun τ rr τ1 => rr = nI (sPairs (gMark t s p q r d) s) ∧ τ1 = τ) := by
  refine gMI_of (by decide) (fun A => Nat.le_of_ble_eq_true rfl) ?_
  intro X τ hC hP hE
  have hC : gOk wX l X cX4_pairsAt "GemCut$Trial" 3 0 0 := hC
  show G wX X 0 0 0 [some (.ref (gA X 190)), some (.int d), none, none, none] [] τ
  have hP9 := hP
  obtain ⟨hs, hRS, hSl, hAm, hD⟩ := hP
  have hM : MI t := hRS.1
  have hW : MW t := hRS.2.1
  have h6 : M16 t := hRS.2.2.1
  have hs8 : s < 8 := Nat.lt_of_lt_of_le hs (MI_S hM).2.2
  have hn16 : nP t s ≤ 16 := h6 s hs8
  have hRb := hRS.2.2.2.1
  have hps : (τ 190 1).toNatClampNeg = s := by rw [hAm.1.1.1]; exact nI_clamp (by omega)
  have hpc : τ (iStone s) 2 = nI (nP t s) := by rw [hRb.2.2.2.1 s hs]; exact (MI_P hM hs8).1
  have lp : ∀ (m k : Nat), k + m = (nP t s) → G wX X 0 0 11 [some (.ref (gA X 190)), some (.int d), some (.int (b2i (wF t s p q r d))), some (.int (nI (sumN (gPr t s p q r d) k))), some (.int (nI k))] [] (τ) := by
    intro m
    induction m with
    | zero =>
      intro k hk 
      have hk : k = (nP t s) := by omega
      subst hk
      refine g_ild4 hC dX4_pairsAt_11 ?_
      refine g_ald0 hC dX4_pairsAt_13 ?_
      refine xg_Trial_piece hC tw_1_173 dX4_pairsAt_14 ?_
      rw [hps]
      refine xg_Stone_planeCount hC (by first | assumption | omega | exact xk_pl _ (by assumption) _ (by omega) | decide) tw_1_146 dX4_pairsAt_17 ?_
      refine g_icmp_ge 82 hC dX4_pairsAt_20 (by decide) (fun c20 => ?_) (fun c20 => absurd (by rw [hpc]; exact nI_le (by omega) (by omega)) c20)
      refine g_ild3 hC dX4_pairsAt_82 ?_
      exact hE _ _ _ _ _ _ dX4_pairsAt_83 (Nat.le_refl _) (Nat.le_refl _) ⟨by rw [gPr_all hM h6 hs8], rfl⟩
    | succ m ih =>
      intro k hk 
      have hfl := fl_facet hM hW h6 hs8 hSl hD hAm (show k < nP t s by omega)
      have hopp : xOpp τ (iPl s k) 191 = sOpp (gMark t s p q r d) s (nP t s) k 3 := opp_at (fun w hw => by rw [mk_pl hM h6 hs8 (by omega) (by omega)]; exact (hRb.2.2.2.2.1 s k hs (by omega)).1 w (by omega)) (fun w hw => by
        rw [mk_plN hM h6 hs8 (by omega)]
        have h191 := hAm.1.1
        rcases (show w = 0 ∨ w = 1 ∨ w = 2 by omega) with rfl | rfl | rfl
        · exact h191.2.1
        · exact h191.2.2.1
        · exact h191.2.2.2.1)
      have hG1 := gPr_1 hM hW h6 hs8 hSl hD (b := k) (by omega)
      refine g_ild4 hC dX4_pairsAt_11 ?_
      refine g_ald0 hC dX4_pairsAt_13 ?_
      refine xg_Trial_piece hC tw_1_173 dX4_pairsAt_14 ?_
      rw [hps]
      refine xg_Stone_planeCount hC (by first | assumption | omega | exact xk_pl _ (by assumption) _ (by omega) | decide) tw_1_146 dX4_pairsAt_17 ?_
      refine g_icmp_ge 82 hC dX4_pairsAt_20 (by decide) (fun c20 => absurd c20 (by rw [hpc]; exact nI_ge (by omega) (by omega))) (fun c20 => ?_)
      refine g_ald0 hC dX4_pairsAt_23 ?_
      refine xg_Trial_floors hC tw_1_177 dX4_pairsAt_24 ?_
      refine g_ild4 hC dX4_pairsAt_27 ?_
      refine xl_floors k hC rfl (by omega) dX4_pairsAt_29 ?_
      refine g_ild1 hC dX4_pairsAt_30 ?_
      refine g_icmp_gt 76 hC dX4_pairsAt_31 (by decide) (fun c31 => ?_) (fun c31 => ?_)
      · refine g_inc4 1 hC dX4_pairsAt_76 (by decide) rfl ?_
        refine g_goto 11 hC dX4_pairsAt_79 (by decide) ?_
        first
        | (rw [show nI (sumN (gPr t s p q r d) k) + 1 + nI (cnt (fun j => sFacet (gMark t s p q r d) s (k + 1 + j) && sOpp t s (k + 1 + j) k 3) (nP t s - (k + 1))) = nI (sumN (gPr t s p q r d) (k + 1)) by simp only [sumN]; rw [hG1 (hfl.mp (Int32.not_lt.mp c31)), if_pos (by rw [b2i_ne0.mp c36, b2i_ne0.mp c56]; rfl)]; rw [nI_1, nI_add, Nat.add_assoc], nI_1]; exact ih (k + 1) (by omega))
        | (rw [show nI (sumN (gPr t s p q r d) k) + 0 + nI (cnt (fun j => sFacet (gMark t s p q r d) s (k + 1 + j) && sOpp t s (k + 1 + j) k 3) (nP t s - (k + 1))) = nI (sumN (gPr t s p q r d) (k + 1)) by simp only [sumN]; rw [hG1 (hfl.mp (Int32.not_lt.mp c31)), if_neg (by rw [b2i_eq0.mp c56, Bool.and_false]; decide)]; rw [Int32.add_zero, nI_add, Nat.zero_add], nI_1]; exact ih (k + 1) (by omega))
        | (rw [show nI (sumN (gPr t s p q r d) k) + 0 + nI (cnt (fun j => sFacet (gMark t s p q r d) s (k + 1 + j) && sOpp t s (k + 1 + j) k 3) (nP t s - (k + 1))) = nI (sumN (gPr t s p q r d) (k + 1)) by simp only [sumN]; rw [hG1 (hfl.mp (Int32.not_lt.mp c31)), if_neg (by rw [b2i_eq0.mp c36, Bool.false_and]; decide)]; rw [Int32.add_zero, nI_add, Nat.zero_add], nI_1]; exact ih (k + 1) (by omega))
        | (rw [show nI (sumN (gPr t s p q r d) k) = nI (sumN (gPr t s p q r d) (k + 1)) by simp only [sumN]; rw [gPr_0 (Bool.eq_false_iff.mpr (fun q9 => absurd (hfl.mpr q9) (Int32.not_le.mpr c31))), Nat.add_zero], nI_1]; exact ih (k + 1) (by omega))
      · refine g_ild3 hC dX4_pairsAt_34 ?_
        refine g_ild2 hC dX4_pairsAt_35 ?_
        refine g_if_eq 63 hC dX4_pairsAt_36 (by decide) (fun c36 => ?_) (fun c36 => ?_)
        · refine g_iconst 0 hC dX4_pairsAt_63 (by decide) ?_
          refine g_iadd hC dX4_pairsAt_64 ?_
          refine g_ist3 hC dX4_pairsAt_65 rfl ?_
          refine g_ild3 hC dX4_pairsAt_66 ?_
          refine g_ald0 hC dX4_pairsAt_67 ?_
          refine g_ild4 hC dX4_pairsAt_68 ?_
          refine g_ild1 hC dX4_pairsAt_70 ?_
          refine k_X4_laterOpposites (t := t) (s := s) (a := k) (p := p) (q := q) (r := r) (d := d) hC tw_3_109 dX4_pairsAt_71 (by decide) ⟨by omega, by omega⟩ (Nat.le_of_ble_eq_true rfl) ⟨hs, hRS, hSl, hAm, hD, by omega⟩ ?_
          refine g_iadd hC dX4_pairsAt_74 ?_
          refine g_ist3 hC dX4_pairsAt_75 rfl ?_
          refine g_inc4 1 hC dX4_pairsAt_76 (by decide) rfl ?_
          refine g_goto 11 hC dX4_pairsAt_79 (by decide) ?_
          first
          | (rw [show nI (sumN (gPr t s p q r d) k) + 1 + nI (cnt (fun j => sFacet (gMark t s p q r d) s (k + 1 + j) && sOpp t s (k + 1 + j) k 3) (nP t s - (k + 1))) = nI (sumN (gPr t s p q r d) (k + 1)) by simp only [sumN]; rw [hG1 (hfl.mp (Int32.not_lt.mp c31)), if_pos (by rw [b2i_ne0.mp c36, b2i_ne0.mp c56]; rfl)]; rw [nI_1, nI_add, Nat.add_assoc], nI_1]; exact ih (k + 1) (by omega))
          | (rw [show nI (sumN (gPr t s p q r d) k) + 0 + nI (cnt (fun j => sFacet (gMark t s p q r d) s (k + 1 + j) && sOpp t s (k + 1 + j) k 3) (nP t s - (k + 1))) = nI (sumN (gPr t s p q r d) (k + 1)) by simp only [sumN]; rw [hG1 (hfl.mp (Int32.not_lt.mp c31)), if_neg (by rw [b2i_eq0.mp c56, Bool.and_false]; decide)]; rw [Int32.add_zero, nI_add, Nat.zero_add], nI_1]; exact ih (k + 1) (by omega))
          | (rw [show nI (sumN (gPr t s p q r d) k) + 0 + nI (cnt (fun j => sFacet (gMark t s p q r d) s (k + 1 + j) && sOpp t s (k + 1 + j) k 3) (nP t s - (k + 1))) = nI (sumN (gPr t s p q r d) (k + 1)) by simp only [sumN]; rw [hG1 (hfl.mp (Int32.not_lt.mp c31)), if_neg (by rw [b2i_eq0.mp c36, Bool.false_and]; decide)]; rw [Int32.add_zero, nI_add, Nat.zero_add], nI_1]; exact ih (k + 1) (by omega))
          | (rw [show nI (sumN (gPr t s p q r d) k) = nI (sumN (gPr t s p q r d) (k + 1)) by simp only [sumN]; rw [gPr_0 (Bool.eq_false_iff.mpr (fun q9 => absurd (hfl.mpr q9) (Int32.not_le.mpr c31))), Nat.add_zero], nI_1]; exact ih (k + 1) (by omega))
        · refine g_ald0 hC dX4_pairsAt_39 ?_
          refine xg_Trial_piece hC tw_1_173 dX4_pairsAt_40 ?_
          rw [hps]
          refine xg_Stone_planes hC (by first | assumption | omega | exact xk_pl _ (by assumption) _ (by omega) | decide) tw_1_143 dX4_pairsAt_43 ?_
          refine g_ild4 hC dX4_pairsAt_46 ?_
          refine xl_Pls k hC (by first | assumption | omega | exact xk_pl _ (by assumption) _ (by omega) | decide) rfl (by omega) dX4_pairsAt_48 ?_
          refine g_ald0 hC dX4_pairsAt_49 ?_
          refine xg_Trial_tried hC tw_1_174 dX4_pairsAt_50 ?_
          refine k_X1_isOpposite (i := iPl s k) (j := 191) hC tw_3_108 dX4_pairsAt_53 (by decide) ⟨by omega, by omega⟩ (Nat.le_of_ble_eq_true rfl) (xk_pl s hs8 k (by omega)) xk_tried ?_
          rw [hopp]
          refine g_if_eq 63 hC dX4_pairsAt_56 (by decide) (fun c56 => ?_) (fun c56 => ?_)
          · refine g_iconst 0 hC dX4_pairsAt_63 (by decide) ?_
            refine g_iadd hC dX4_pairsAt_64 ?_
            refine g_ist3 hC dX4_pairsAt_65 rfl ?_
            refine g_ild3 hC dX4_pairsAt_66 ?_
            refine g_ald0 hC dX4_pairsAt_67 ?_
            refine g_ild4 hC dX4_pairsAt_68 ?_
            refine g_ild1 hC dX4_pairsAt_70 ?_
            refine k_X4_laterOpposites (t := t) (s := s) (a := k) (p := p) (q := q) (r := r) (d := d) hC tw_3_109 dX4_pairsAt_71 (by decide) ⟨by omega, by omega⟩ (Nat.le_of_ble_eq_true rfl) ⟨hs, hRS, hSl, hAm, hD, by omega⟩ ?_
            refine g_iadd hC dX4_pairsAt_74 ?_
            refine g_ist3 hC dX4_pairsAt_75 rfl ?_
            refine g_inc4 1 hC dX4_pairsAt_76 (by decide) rfl ?_
            refine g_goto 11 hC dX4_pairsAt_79 (by decide) ?_
            first
            | (rw [show nI (sumN (gPr t s p q r d) k) + 1 + nI (cnt (fun j => sFacet (gMark t s p q r d) s (k + 1 + j) && sOpp t s (k + 1 + j) k 3) (nP t s - (k + 1))) = nI (sumN (gPr t s p q r d) (k + 1)) by simp only [sumN]; rw [hG1 (hfl.mp (Int32.not_lt.mp c31)), if_pos (by rw [b2i_ne0.mp c36, b2i_ne0.mp c56]; rfl)]; rw [nI_1, nI_add, Nat.add_assoc], nI_1]; exact ih (k + 1) (by omega))
            | (rw [show nI (sumN (gPr t s p q r d) k) + 0 + nI (cnt (fun j => sFacet (gMark t s p q r d) s (k + 1 + j) && sOpp t s (k + 1 + j) k 3) (nP t s - (k + 1))) = nI (sumN (gPr t s p q r d) (k + 1)) by simp only [sumN]; rw [hG1 (hfl.mp (Int32.not_lt.mp c31)), if_neg (by rw [b2i_eq0.mp c56, Bool.and_false]; decide)]; rw [Int32.add_zero, nI_add, Nat.zero_add], nI_1]; exact ih (k + 1) (by omega))
            | (rw [show nI (sumN (gPr t s p q r d) k) + 0 + nI (cnt (fun j => sFacet (gMark t s p q r d) s (k + 1 + j) && sOpp t s (k + 1 + j) k 3) (nP t s - (k + 1))) = nI (sumN (gPr t s p q r d) (k + 1)) by simp only [sumN]; rw [hG1 (hfl.mp (Int32.not_lt.mp c31)), if_neg (by rw [b2i_eq0.mp c36, Bool.false_and]; decide)]; rw [Int32.add_zero, nI_add, Nat.zero_add], nI_1]; exact ih (k + 1) (by omega))
            | (rw [show nI (sumN (gPr t s p q r d) k) = nI (sumN (gPr t s p q r d) (k + 1)) by simp only [sumN]; rw [gPr_0 (Bool.eq_false_iff.mpr (fun q9 => absurd (hfl.mpr q9) (Int32.not_le.mpr c31))), Nat.add_zero], nI_1]; exact ih (k + 1) (by omega))
          · refine g_iconst 1 hC dX4_pairsAt_59 (by decide) ?_
            refine g_goto 64 hC dX4_pairsAt_60 (by decide) ?_
            refine g_iadd hC dX4_pairsAt_64 ?_
            refine g_ist3 hC dX4_pairsAt_65 rfl ?_
            refine g_ild3 hC dX4_pairsAt_66 ?_
            refine g_ald0 hC dX4_pairsAt_67 ?_
            refine g_ild4 hC dX4_pairsAt_68 ?_
            refine g_ild1 hC dX4_pairsAt_70 ?_
            refine k_X4_laterOpposites (t := t) (s := s) (a := k) (p := p) (q := q) (r := r) (d := d) hC tw_3_109 dX4_pairsAt_71 (by decide) ⟨by omega, by omega⟩ (Nat.le_of_ble_eq_true rfl) ⟨hs, hRS, hSl, hAm, hD, by omega⟩ ?_
            refine g_iadd hC dX4_pairsAt_74 ?_
            refine g_ist3 hC dX4_pairsAt_75 rfl ?_
            refine g_inc4 1 hC dX4_pairsAt_76 (by decide) rfl ?_
            refine g_goto 11 hC dX4_pairsAt_79 (by decide) ?_
            first
            | (rw [show nI (sumN (gPr t s p q r d) k) + 1 + nI (cnt (fun j => sFacet (gMark t s p q r d) s (k + 1 + j) && sOpp t s (k + 1 + j) k 3) (nP t s - (k + 1))) = nI (sumN (gPr t s p q r d) (k + 1)) by simp only [sumN]; rw [hG1 (hfl.mp (Int32.not_lt.mp c31)), if_pos (by rw [b2i_ne0.mp c36, b2i_ne0.mp c56]; rfl)]; rw [nI_1, nI_add, Nat.add_assoc], nI_1]; exact ih (k + 1) (by omega))
            | (rw [show nI (sumN (gPr t s p q r d) k) + 0 + nI (cnt (fun j => sFacet (gMark t s p q r d) s (k + 1 + j) && sOpp t s (k + 1 + j) k 3) (nP t s - (k + 1))) = nI (sumN (gPr t s p q r d) (k + 1)) by simp only [sumN]; rw [hG1 (hfl.mp (Int32.not_lt.mp c31)), if_neg (by rw [b2i_eq0.mp c56, Bool.and_false]; decide)]; rw [Int32.add_zero, nI_add, Nat.zero_add], nI_1]; exact ih (k + 1) (by omega))
            | (rw [show nI (sumN (gPr t s p q r d) k) + 0 + nI (cnt (fun j => sFacet (gMark t s p q r d) s (k + 1 + j) && sOpp t s (k + 1 + j) k 3) (nP t s - (k + 1))) = nI (sumN (gPr t s p q r d) (k + 1)) by simp only [sumN]; rw [hG1 (hfl.mp (Int32.not_lt.mp c31)), if_neg (by rw [b2i_eq0.mp c36, Bool.false_and]; decide)]; rw [Int32.add_zero, nI_add, Nat.zero_add], nI_1]; exact ih (k + 1) (by omega))
            | (rw [show nI (sumN (gPr t s p q r d) k) = nI (sumN (gPr t s p q r d) (k + 1)) by simp only [sumN]; rw [gPr_0 (Bool.eq_false_iff.mpr (fun q9 => absurd (hfl.mpr q9) (Int32.not_le.mpr c31))), Nat.add_zero], nI_1]; exact ih (k + 1) (by omega))
  refine g_ald0 hC dX4_pairsAt_0 ?_
  refine g_ild1 hC dX4_pairsAt_1 ?_
  refine k_X4_wouldBeFacet (t := t) (s := s) (p := p) (q := q) (r := r) (d := d) hC tw_3_104 dX4_pairsAt_2 (by decide) ⟨by omega, by omega⟩ (Nat.le_of_ble_eq_true rfl) ⟨hs, hRS, hSl, hAm.1⟩ ?_
  refine g_ist2 hC dX4_pairsAt_5 rfl ?_
  refine g_iconst 0 hC dX4_pairsAt_6 (by decide) ?_
  refine g_ist3 hC dX4_pairsAt_7 rfl ?_
  refine g_iconst 0 hC dX4_pairsAt_8 (by decide) ?_
  refine g_ist4 hC dX4_pairsAt_9 rfl ?_
  exact lp (nP t s) 0 (by omega)
theorem k_X4_pairsAt {l : Launch} {X : gC} {cc : ByteArray} {own : String} {dd ca sa kc nc pc : Nat} {ls : List (Option Value)} {st : List Value} {σ : Mem} {idx : Nat} {t : Mem} {s : Nat} {p q r d : Int32} (hC : gOk wX l X cc own dd ca sa) (hlk : Cond.methodLink own idx yX4_pairsAt ∈ TB) (hd : decode cc pc = .ok (.invokevirtual idx, 3)) (hdd : 3 + 1 ≤ dd) (hfr : kc + 0 ≤ ca ∧ nc + 0 ≤ sa) (hrest : (st.map fun v => v.category).sum ≤ 8)  (hP : s < nS t ∧ RS σ t ∧ Slp p q r ∧ Am t s p q r σ ∧ Dp d) (kk : G wX X kc nc (pc + 3) ls (.int (nI (sPairs (gMark t s p q r d) s)) :: st) (σ)) : G wX X kc nc pc ls (.int d :: .ref (gA X 190) :: st) σ := by
  exact g_cVI 1 hC (c_X4_pairsAt l t s p q r d) hlk ⟨tw_3_101, tw_3_102, tw_1_6, tw_3_103⟩ (by decide +kernel) ⟨hdd, by decide⟩ hfr rfl rfl rfl (rv_Trial _ _) hrest rfl hd hP (fun rr σ1 hq => by obtain ⟨rfl, rfl⟩ := hq; exact kk)
set_option maxRecDepth 100000 in
set_option maxHeartbeats 4000000 in
/-- X4_stateAt -/
theorem c_X4_stateAt (l : Launch) (t : Mem) (s f : Nat) (p q r d : Int32) : gMI wX l yX4_stateAt (.code yX4_stateAt cX4_stateAt 6 (some FieldType.int)) 0 0 0 (fun A => [.ref (A 190), .ref (A (iFlaw f)), .int d]) (fun τ => s < nS t ∧ RS τ t ∧ Slp p q r ∧ Am t s p q r τ ∧ Dp d ∧ f < nF t) (fun τ rr τ1 => rr = sFt (gMark t s p q r d) f (nI s) 2 ∧ τ1 = τ) := by
  refine gMI_of (by decide) (fun A => Nat.le_of_ble_eq_true rfl) ?_
  intro X τ hC hP hE
  have hC : gOk wX l X cX4_stateAt "GemCut$Trial" 0 0 0 := hC
  show G wX X 0 0 0 [some (.ref (gA X 190)), some (.ref (gA X (iFlaw f))), some (.int d), none, none, none] [] τ
  have hP9 := hP
  obtain ⟨hs, hRS, hSl, hAm, hD, hf⟩ := hP
  have hM : MI t := hRS.1
  have hW : MW t := hRS.2.1
  have h6 : M16 t := hRS.2.2.1
  have hs8 : s < 8 := Nat.lt_of_lt_of_le hs (MI_S hM).2.2
  have hn16 : nP t s ≤ 16 := h6 s hs8
  have hRb := hRS.2.2.2.1
  have hps : (τ 190 1).toNatClampNeg = s := by rw [hAm.1.1.1]; exact nI_clamp (by omega)
  have hpc : τ (iStone s) 2 = nI (nP t s) := by rw [hRb.2.2.2.1 s hs]; exact (MI_P hM hs8).1
  have hf10 : f < 10 := Nat.lt_of_lt_of_le hf (MI_F hM).2
  obtain ⟨d1, m, d2, d3, d4, d5⟩ := hRb.2.2.2.2.2 f hf
  have hv := st_val (d := d) hM hW hs8 hSl (g := fun k => (τ (iFlaw f + 1) k).toNatClampNeg) d2 d5
  have lp : ∀ (m9 k : Nat), k + m9 = m → cnt (fun k => fB t s p q r d (τ (iFlaw f + 1) k).toNatClampNeg) k = 0 → G wX X 0 0 5 [some (.ref (gA X 190)), some (.ref (gA X (iFlaw f))), some (.int d), some (.int (stA (fun k => fA t s p q r d (τ (iFlaw f + 1) k).toNatClampNeg) k)), some (.int (nI k)), none] [] (τ) := by
    intro m9
    induction m9 with
    | zero =>
      intro k hk hB0
      have hk : k = m := by omega
      rw [hk] at hB0 ⊢
      refine g_ild4 hC dX4_stateAt_5 ?_
      refine g_ald1 hC dX4_stateAt_7 ?_
      refine xg_Flaw_cellCount hC (by first | assumption | omega | exact xk_pl _ (by assumption) _ (by omega) | decide) tw_1_41 dX4_stateAt_8 ?_
      refine g_icmp_ge 96 hC dX4_stateAt_11 (by decide) (fun c11 => ?_) (fun c11 => absurd (by rw [d3]; exact nI_le (by omega) (by omega)) c11)
      refine g_ild3 hC dX4_stateAt_96 ?_
      exact hE _ _ _ _ _ _ dX4_stateAt_97 (Nat.le_refl _) (Nat.le_refl _) ⟨st_end hv hB0, rfl⟩
    | succ m9 ih =>
      intro k hk hB0
      obtain ⟨i, hi, hcv⟩ := d4 k (by omega)
      have hN9 := (vol_rng (MI_C hM).1.2 (MI_C hM).2.1.2 (MI_C hM).2.2.2).2
      have hN8 : NN t ≤ 1000 := hN9
      have hce : (τ (iFlaw f + 1) k).toNatClampNeg = i := by rw [hcv]; exact nI_clamp (by omega)
      have hz := zh_rng hM hSl hi
      have hzr := reach_rng hSl
      have hAe : (fun k => fA t s p q r d (τ (iFlaw f + 1) k).toNatClampNeg) k = (own t s i && decide (zh t p q r i ≤ d.toInt)) := by show fA _ _ _ _ _ _ _ = _; rw [hce]; rfl
      have hBe : (fun k => fB t s p q r d (τ (iFlaw f + 1) k).toNatClampNeg) k = ((fun k => fA t s p q r d (τ (iFlaw f + 1) k).toNatClampNeg) k && (sSurf t (CI t i) || decide (d.toInt < zh t p q r i + zR p q r))) := by show fB _ _ _ _ _ _ _ = _; rw [hce, fB]; show _ = (fA _ _ _ _ _ _ _ && _); rw [hce]
      have hbr : t 1 (CI t i) = nI s → τ 3 i = b2i (sSurf t (CI t i)) := fun h => hRS.2.2.2.2.2.2.1 i hi ⟨s, hs, h⟩
      refine g_ild4 hC dX4_stateAt_5 ?_
      refine g_ald1 hC dX4_stateAt_7 ?_
      refine xg_Flaw_cellCount hC (by first | assumption | omega | exact xk_pl _ (by assumption) _ (by omega) | decide) tw_1_41 dX4_stateAt_8 ?_
      refine g_icmp_ge 96 hC dX4_stateAt_11 (by decide) (fun c11 => absurd c11 (by rw [d3]; exact nI_ge (by omega) (by omega))) (fun c11 => ?_)
      refine g_ald1 hC dX4_stateAt_14 ?_
      refine xg_Flaw_cells hC (by first | assumption | omega | exact xk_pl _ (by assumption) _ (by omega) | decide) tw_1_39 dX4_stateAt_15 ?_
      refine g_ild4 hC dX4_stateAt_18 ?_
      refine xl_FC k hC (by first | assumption | omega | exact xk_pl _ (by assumption) _ (by omega) | decide) rfl (by omega) dX4_stateAt_20 ?_
      rw [hcv]
      refine g_ist5 hC dX4_stateAt_21 rfl ?_
      refine g_ald0 hC dX4_stateAt_23 ?_
      refine xg_Trial_rough hC tw_1_172 dX4_stateAt_24 ?_
      refine xg_Rough_owner hC tw_1_69 dX4_stateAt_27 ?_
      refine g_ild5 hC dX4_stateAt_30 ?_
      refine xl_owner i hC rfl (by omega) dX4_stateAt_32 ?_
      rw [hRb.2.1 i hi]
      refine g_ald0 hC dX4_stateAt_33 ?_
      refine xg_Trial_piece hC tw_1_173 dX4_stateAt_34 ?_
      rw [hps]
      refine xg_Stone_number hC (by first | assumption | omega | exact xk_pl _ (by assumption) _ (by omega) | decide) tw_1_140 dX4_stateAt_37 ?_
      rw [hRb.2.2.1 s hs8]
      refine g_icmp_ne 90 hC dX4_stateAt_40 (by decide) (fun c40 => ?_) (fun c40 => ?_)
      · refine g_inc4 1 hC dX4_stateAt_90 (by decide) rfl ?_
        refine g_goto 5 hC dX4_stateAt_93 (by decide) ?_
        first
        | (have hA : (fun k => fA t s p q r d (τ (iFlaw f + 1) k).toNatClampNeg) k = true := by rw [hAe, show own t s i = true by unfold own; rw [c40]; simp, decide_eq_true ((le_iI (by omega)).mp (Int32.not_lt.mp c51))]; rfl
           have hB : (fun k => fB t s p q r d (τ (iFlaw f + 1) k).toNatClampNeg) k = false := by rw [hBe, show sSurf t (CI t i) = false from b2i_eq0.mp (by rw [← hbr c40]; simpa using c64), decide_eq_false (fun q9 => absurd ((lt_iI (by omega)).mpr q9) (Int32.not_lt.mpr c83)), Bool.or_false, Bool.and_false]
           refine g_keep [true, true, true, true, true, false] ?_
           rw [nI_1, show (0 : Int32) = stA (fun k => fA t s p q r d (τ (iFlaw f + 1) k).toNatClampNeg) (k + 1) from stA_t hA]
           exact ih (k + 1) (by omega) (by rw [cnt_f (P := (fun k => fB t s p q r d (τ (iFlaw f + 1) k).toNatClampNeg)) hB]; exact hB0))
        | (have hA : (fun k => fA t s p q r d (τ (iFlaw f + 1) k).toNatClampNeg) k = false := by rw [hAe, decide_eq_false (fun q9 => absurd ((le_iI (by omega)).mpr q9) (Int32.not_le.mpr c51)), Bool.and_false]
           refine g_keep [true, true, true, true, true, false] ?_
           rw [nI_1, show stA (fun k => fA t s p q r d (τ (iFlaw f + 1) k).toNatClampNeg) k = stA (fun k => fA t s p q r d (τ (iFlaw f + 1) k).toNatClampNeg) (k + 1) from stA_f hA]
           have hB : (fun k => fB t s p q r d (τ (iFlaw f + 1) k).toNatClampNeg) k = false := by rw [hBe, hA, Bool.false_and]
           exact ih (k + 1) (by omega) (by rw [cnt_f (P := (fun k => fB t s p q r d (τ (iFlaw f + 1) k).toNatClampNeg)) hB]; exact hB0))
        | (have hA : (fun k => fA t s p q r d (τ (iFlaw f + 1) k).toNatClampNeg) k = false := by rw [hAe, show own t s i = false by unfold own; simpa using c40]; rfl
           refine g_keep [true, true, true, true, true, false] ?_
           rw [nI_1, show stA (fun k => fA t s p q r d (τ (iFlaw f + 1) k).toNatClampNeg) k = stA (fun k => fA t s p q r d (τ (iFlaw f + 1) k).toNatClampNeg) (k + 1) from stA_f hA]
           have hB : (fun k => fB t s p q r d (τ (iFlaw f + 1) k).toNatClampNeg) k = false := by rw [hBe, hA, Bool.false_and]
           exact ih (k + 1) (by omega) (by rw [cnt_f (P := (fun k => fB t s p q r d (τ (iFlaw f + 1) k).toNatClampNeg)) hB]; exact hB0))
      · refine g_ald0 hC dX4_stateAt_43 ?_
        refine xg_Trial_heights hC tw_1_175 dX4_stateAt_44 ?_
        refine g_ild5 hC dX4_stateAt_47 ?_
        refine xl_heights i hC rfl (by omega) dX4_stateAt_49 ?_
        rw [hAm.1.2.1 i hi]
        refine g_ild2 hC dX4_stateAt_50 ?_
        refine g_icmp_gt 90 hC dX4_stateAt_51 (by decide) (fun c51 => ?_) (fun c51 => ?_)
        · refine g_inc4 1 hC dX4_stateAt_90 (by decide) rfl ?_
          refine g_goto 5 hC dX4_stateAt_93 (by decide) ?_
          first
          | (have hA : (fun k => fA t s p q r d (τ (iFlaw f + 1) k).toNatClampNeg) k = true := by rw [hAe, show own t s i = true by unfold own; rw [c40]; simp, decide_eq_true ((le_iI (by omega)).mp (Int32.not_lt.mp c51))]; rfl
             have hB : (fun k => fB t s p q r d (τ (iFlaw f + 1) k).toNatClampNeg) k = false := by rw [hBe, show sSurf t (CI t i) = false from b2i_eq0.mp (by rw [← hbr c40]; simpa using c64), decide_eq_false (fun q9 => absurd ((lt_iI (by omega)).mpr q9) (Int32.not_lt.mpr c83)), Bool.or_false, Bool.and_false]
             refine g_keep [true, true, true, true, true, false] ?_
             rw [nI_1, show (0 : Int32) = stA (fun k => fA t s p q r d (τ (iFlaw f + 1) k).toNatClampNeg) (k + 1) from stA_t hA]
             exact ih (k + 1) (by omega) (by rw [cnt_f (P := (fun k => fB t s p q r d (τ (iFlaw f + 1) k).toNatClampNeg)) hB]; exact hB0))
          | (have hA : (fun k => fA t s p q r d (τ (iFlaw f + 1) k).toNatClampNeg) k = false := by rw [hAe, decide_eq_false (fun q9 => absurd ((le_iI (by omega)).mpr q9) (Int32.not_le.mpr c51)), Bool.and_false]
             refine g_keep [true, true, true, true, true, false] ?_
             rw [nI_1, show stA (fun k => fA t s p q r d (τ (iFlaw f + 1) k).toNatClampNeg) k = stA (fun k => fA t s p q r d (τ (iFlaw f + 1) k).toNatClampNeg) (k + 1) from stA_f hA]
             have hB : (fun k => fB t s p q r d (τ (iFlaw f + 1) k).toNatClampNeg) k = false := by rw [hBe, hA, Bool.false_and]
             exact ih (k + 1) (by omega) (by rw [cnt_f (P := (fun k => fB t s p q r d (τ (iFlaw f + 1) k).toNatClampNeg)) hB]; exact hB0))
          | (have hA : (fun k => fA t s p q r d (τ (iFlaw f + 1) k).toNatClampNeg) k = false := by rw [hAe, show own t s i = false by unfold own; simpa using c40]; rfl
             refine g_keep [true, true, true, true, true, false] ?_
             rw [nI_1, show stA (fun k => fA t s p q r d (τ (iFlaw f + 1) k).toNatClampNeg) k = stA (fun k => fA t s p q r d (τ (iFlaw f + 1) k).toNatClampNeg) (k + 1) from stA_f hA]
             have hB : (fun k => fB t s p q r d (τ (iFlaw f + 1) k).toNatClampNeg) k = false := by rw [hBe, hA, Bool.false_and]
             exact ih (k + 1) (by omega) (by rw [cnt_f (P := (fun k => fB t s p q r d (τ (iFlaw f + 1) k).toNatClampNeg)) hB]; exact hB0))
        · refine g_ald0 hC dX4_stateAt_54 ?_
          refine xg_Trial_rough hC tw_1_172 dX4_stateAt_55 ?_
          refine xg_Rough_bare hC tw_1_74 dX4_stateAt_58 ?_
          refine g_ild5 hC dX4_stateAt_61 ?_
          refine xl_bare i hC rfl (by omega) dX4_stateAt_63 ?_
          refine g_if_ne 86 hC dX4_stateAt_64 (by decide) (fun c64 => ?_) (fun c64 => ?_)
          · refine g_iconst 1 hC dX4_stateAt_86 (by decide) ?_
            have hA : (fun k => fA t s p q r d (τ (iFlaw f + 1) k).toNatClampNeg) k = true := by rw [hAe, show own t s i = true by unfold own; rw [c40]; simp, decide_eq_true ((le_iI (by omega)).mp (Int32.not_lt.mp c51))]; rfl
            have hB : (fun k => fB t s p q r d (τ (iFlaw f + 1) k).toNatClampNeg) k = true := by first | (rw [hBe, hA, show sSurf t (CI t i) = true from b2i_ne0.mp (by rw [← hbr c40]; exact c64)]; rfl) | (rw [hBe, hA, decide_eq_true ((lt_iI (by omega)).mp (Int32.not_le.mp c83)), Bool.or_true]; rfl)
            exact hE _ _ _ _ _ _ dX4_stateAt_87 (Nat.le_refl _) (Nat.le_refl _) ⟨st_one hv (show k < m by omega) hA hB, rfl⟩
          · refine g_ald0 hC dX4_stateAt_67 ?_
            refine xg_Trial_heights hC tw_1_175 dX4_stateAt_68 ?_
            refine g_ild5 hC dX4_stateAt_71 ?_
            refine xl_heights i hC rfl (by omega) dX4_stateAt_73 ?_
            rw [hAm.1.2.1 i hi]
            refine g_ald0 hC dX4_stateAt_74 ?_
            refine xg_Trial_tried hC tw_1_174 dX4_stateAt_75 ?_
            refine xg_Plane_reach hC xk_tried tw_1_116 dX4_stateAt_78 ?_
            rw [hAm.1.1.2.2.2.2]
            refine g_iadd hC dX4_stateAt_81 ?_
            rw [reach_iI, iI_add]
            refine g_ild2 hC dX4_stateAt_82 ?_
            refine g_icmp_le 88 hC dX4_stateAt_83 (by decide) (fun c83 => ?_) (fun c83 => ?_)
            · refine g_iconst 0 hC dX4_stateAt_88 (by decide) ?_
              refine g_ist3 hC dX4_stateAt_89 rfl ?_
              refine g_inc4 1 hC dX4_stateAt_90 (by decide) rfl ?_
              refine g_goto 5 hC dX4_stateAt_93 (by decide) ?_
              first
              | (have hA : (fun k => fA t s p q r d (τ (iFlaw f + 1) k).toNatClampNeg) k = true := by rw [hAe, show own t s i = true by unfold own; rw [c40]; simp, decide_eq_true ((le_iI (by omega)).mp (Int32.not_lt.mp c51))]; rfl
                 have hB : (fun k => fB t s p q r d (τ (iFlaw f + 1) k).toNatClampNeg) k = false := by rw [hBe, show sSurf t (CI t i) = false from b2i_eq0.mp (by rw [← hbr c40]; simpa using c64), decide_eq_false (fun q9 => absurd ((lt_iI (by omega)).mpr q9) (Int32.not_lt.mpr c83)), Bool.or_false, Bool.and_false]
                 refine g_keep [true, true, true, true, true, false] ?_
                 rw [nI_1, show (0 : Int32) = stA (fun k => fA t s p q r d (τ (iFlaw f + 1) k).toNatClampNeg) (k + 1) from stA_t hA]
                 exact ih (k + 1) (by omega) (by rw [cnt_f (P := (fun k => fB t s p q r d (τ (iFlaw f + 1) k).toNatClampNeg)) hB]; exact hB0))
              | (have hA : (fun k => fA t s p q r d (τ (iFlaw f + 1) k).toNatClampNeg) k = false := by rw [hAe, decide_eq_false (fun q9 => absurd ((le_iI (by omega)).mpr q9) (Int32.not_le.mpr c51)), Bool.and_false]
                 refine g_keep [true, true, true, true, true, false] ?_
                 rw [nI_1, show stA (fun k => fA t s p q r d (τ (iFlaw f + 1) k).toNatClampNeg) k = stA (fun k => fA t s p q r d (τ (iFlaw f + 1) k).toNatClampNeg) (k + 1) from stA_f hA]
                 have hB : (fun k => fB t s p q r d (τ (iFlaw f + 1) k).toNatClampNeg) k = false := by rw [hBe, hA, Bool.false_and]
                 exact ih (k + 1) (by omega) (by rw [cnt_f (P := (fun k => fB t s p q r d (τ (iFlaw f + 1) k).toNatClampNeg)) hB]; exact hB0))
              | (have hA : (fun k => fA t s p q r d (τ (iFlaw f + 1) k).toNatClampNeg) k = false := by rw [hAe, show own t s i = false by unfold own; simpa using c40]; rfl
                 refine g_keep [true, true, true, true, true, false] ?_
                 rw [nI_1, show stA (fun k => fA t s p q r d (τ (iFlaw f + 1) k).toNatClampNeg) k = stA (fun k => fA t s p q r d (τ (iFlaw f + 1) k).toNatClampNeg) (k + 1) from stA_f hA]
                 have hB : (fun k => fB t s p q r d (τ (iFlaw f + 1) k).toNatClampNeg) k = false := by rw [hBe, hA, Bool.false_and]
                 exact ih (k + 1) (by omega) (by rw [cnt_f (P := (fun k => fB t s p q r d (τ (iFlaw f + 1) k).toNatClampNeg)) hB]; exact hB0))
            · refine g_iconst 1 hC dX4_stateAt_86 (by decide) ?_
              have hA : (fun k => fA t s p q r d (τ (iFlaw f + 1) k).toNatClampNeg) k = true := by rw [hAe, show own t s i = true by unfold own; rw [c40]; simp, decide_eq_true ((le_iI (by omega)).mp (Int32.not_lt.mp c51))]; rfl
              have hB : (fun k => fB t s p q r d (τ (iFlaw f + 1) k).toNatClampNeg) k = true := by first | (rw [hBe, hA, show sSurf t (CI t i) = true from b2i_ne0.mp (by rw [← hbr c40]; exact c64)]; rfl) | (rw [hBe, hA, decide_eq_true ((lt_iI (by omega)).mp (Int32.not_le.mp c83)), Bool.or_true]; rfl)
              exact hE _ _ _ _ _ _ dX4_stateAt_87 (Nat.le_refl _) (Nat.le_refl _) ⟨st_one hv (show k < m by omega) hA hB, rfl⟩
  refine g_iconst (-1) hC dX4_stateAt_0 (by decide) ?_
  refine g_ist3 hC dX4_stateAt_1 rfl ?_
  refine g_iconst 0 hC dX4_stateAt_2 (by decide) ?_
  refine g_ist4 hC dX4_stateAt_3 rfl ?_
  exact lp m 0 (by omega) rfl
theorem k_X4_stateAt {l : Launch} {X : gC} {cc : ByteArray} {own : String} {dd ca sa kc nc pc : Nat} {ls : List (Option Value)} {st : List Value} {σ : Mem} {idx : Nat} {t : Mem} {s f : Nat} {p q r d : Int32} (hC : gOk wX l X cc own dd ca sa) (hlk : Cond.methodLink own idx yX4_stateAt ∈ TB) (hd : decode cc pc = .ok (.invokevirtual idx, 3)) (hdd : 0 + 1 ≤ dd) (hfr : kc + 0 ≤ ca ∧ nc + 0 ≤ sa) (hrest : (st.map fun v => v.category).sum ≤ 8)  (hP : s < nS t ∧ RS σ t ∧ Slp p q r ∧ Am t s p q r σ ∧ Dp d ∧ f < nF t) (kk : G wX X kc nc (pc + 3) ls (.int (sFt (gMark t s p q r d) f (nI s) 2) :: st) (σ)) : G wX X kc nc pc ls (.int d :: .ref (gA X (iFlaw f)) :: .ref (gA X 190) :: st) σ := by
  exact g_cVI 2 hC (c_X4_stateAt l t s f p q r d) hlk ⟨tw_3_92, tw_3_93, tw_1_6, tw_3_94⟩ (by decide +kernel) ⟨hdd, by decide⟩ hfr rfl rfl rfl (rv_Trial _ _) hrest rfl hd hP (fun rr σ1 hq => by obtain ⟨rfl, rfl⟩ := hq; exact kk)
