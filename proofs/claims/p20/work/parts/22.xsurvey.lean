/-! the survey as a whole -/
theorem box_cnt {τ : Mem} (hM : MI τ) (hW : MW τ) (P : Nat → Bool) (hP : ∀ k, τ 1 k = -1 → P k = false) : cnt (fun i => P (CI τ i)) (NN τ) = cnt P 1000 := by
  obtain ⟨⟨-, hC⟩, ⟨-, hR⟩, ⟨-, hL⟩⟩ := MI_C hM
  exact cnt_box P hC hR hL (fun x y z hx hy hz ho => hP _ ((hW.1 x y z hx hy hz).2 ho))
theorem m1_nI {s : Nat} (h : s < 2 ^ 31) : ((-1 : Int32) == nI s) = false := by simpa using fun e => nI_nm1 h e.symm
theorem box_wt {τ : Mem} (hM : MI τ) (hW : MW τ) {s : Nat} (hs : s < 8) : cnt (fun i => pWt τ (nI s) (CI τ i)) (NN τ) = sWt τ (nI s) := box_cnt hM hW (pWt τ (nI s)) (fun k hk => by unfold pWt; rw [hk]; exact m1_nI (by omega))
theorem box_sf {τ : Mem} (hM : MI τ) (hW : MW τ) {s : Nat} (hs : s < 8) : cnt (fun i => pSf τ (nI s) (CI τ i)) (NN τ) = cnt (pSf τ (nI s)) 1000 := box_cnt hM hW (pSf τ (nI s)) (fun k hk => by unfold pSf; rw [hk, m1_nI (by omega), Bool.false_and])
theorem box_tc {τ : Mem} (hM : MI τ) (hW : MW τ) {s k : Nat} (hs : s < 8) : cnt (fun i => pTouch τ s k (CI τ i)) (NN τ) = sTouch τ s k := box_cnt hM hW (pTouch τ s k) (fun k hk => by unfold pTouch; rw [hk, m1_nI (by omega), Bool.false_and])
theorem box_fc {τ : Mem} (hM : MI τ) (hW : MW τ) {f s : Nat} (hs : s < 8) (op : Bool) : cnt (fun i => pFc τ f (nI s) op (CI τ i)) (NN τ) = sFc τ f (nI s) op := box_cnt hM hW (pFc τ f (nI s) op) (fun k hk => by unfold pFc; rw [hk, m1_nI (by omega), Bool.false_and, Bool.false_and])
def Zf (τ σ0 : Mem) (n : Nat) (σ : Mem) : Prop := Fr σ0 σ ∧ ∀ s, s < n → σ (iStone s) 3 = 0 ∧ σ (iStone s) 4 = 0 ∧ ∀ k, k < nP τ s → σ (iPl s k) 6 = 0
theorem Zf_step {τ σ0 σ : Mem} {n : Nat} (h : Zf τ σ0 n σ) (hn : n < 8) (hp : ∀ s, s < 8 → nP τ s ≤ 16) : Zf τ σ0 (n + 1) (hForget σ n (nP τ n)) := by
  refine ⟨Fr_forget h.1 hn (hp n hn), fun s hs => ?_⟩
  by_cases e : s = n
  · subst e
    refine ⟨by simp [hForget], by simp [hForget], fun k hk => ?_⟩
    have := (pl_in (s := s) (k := k) (n := nP τ s)).mpr hk
    have hp9 := hp s hn
    unfold hForget
    rw [if_neg (fun q => pl_ne_st s k s (by omega) q.1), if_pos ⟨this.1, this.2, rfl⟩]
  · obtain ⟨h1, h2, h3⟩ := h.2 s (by omega)
    have hp9 := hp n hn
    have hps := hp s (by omega)
    refine ⟨?_, ?_, fun k hk => ?_⟩
    · unfold hForget
      rw [if_neg (fun q => e (st_inj.mp q.1)), if_neg (fun q => by have := q.2.2; omega)]
      exact h1
    · unfold hForget
      rw [if_neg (fun q => e (st_inj.mp q.1)), if_neg (fun q => by have := q.2.2; omega)]
      exact h2
    · unfold hForget
      rw [if_neg (fun q => pl_ne_st s k n (by omega) q.1), if_neg (fun q => e (by unfold iPl at q; omega))]
      exact h3 k hk
theorem Iv_0 {τ σ0 σ : Mem} (h : Zf τ σ0 (nS τ) σ) : Iv τ σ0 0 σ :=
  ⟨h.1, fun s hs => ⟨by rw [(h.2 s hs).1]; exact nI_0.symm, by rw [(h.2 s hs).2.1]; exact nI_0.symm⟩, fun s k hs hk => by rw [(h.2 s hs).2.2 k hk]; exact nI_0.symm, fun i hi => absurd hi (by omega)⟩
def Jv (τ σ0 : Mem) (n : Nat) (σ : Mem) : Prop := Iv τ σ0 (NN τ) σ ∧ ∀ f s, f < n → s < nS τ → σ (iFlaw f + 2) s = nI (sFc τ f (nI s) false) ∧ σ (iFlaw f + 3) s = nI (sFc τ f (nI s) true)
theorem Jv_step {τ σ0 σ : Mem} {f m : Nat} (hM : MI τ) (hW : MW τ) (hb : Rb σ τ) (h : Jv τ σ0 f σ) (hf : f < nF τ)
    (hc : ∀ P : Nat → Bool, cnt (fun k => P (σ (iFlaw f + 1) k).toNatClampNeg) m = cnt (fun i => sFlawed τ f (CI τ i) && P i) (NN τ)) : Jv τ σ0 (f + 1) (hFs σ f m) := by
  have hF := (MI_F hM).2
  have hS := (MI_S hM).2.2
  have lo : ∀ id, id ≠ iFlaw f + 2 → id ≠ iFlaw f + 3 → hFs σ f m id = σ id := fun id h1 h2 => fs_low h1 h2
  have own : ∀ i, i < NN τ → σ 2 i = τ 1 (CI τ i) := hb.2.1
  obtain ⟨⟨h1, h2, h3, h4⟩, h5⟩ := h
  refine ⟨⟨fun id j hv => ?_, fun s hs => ?_, fun s k hs hk => ?_, fun i hi hl => ?_⟩, fun g s hg hs => ?_⟩
  · rw [lo id (fun e => hv (by rw [e]; exact vpF2 (by omega) j)) (fun e => hv (by rw [e]; exact vpF3 (by omega) j))]
    exact h1 id j hv
  · rw [lo _ (by unfold iStone iFlaw; omega) (by unfold iStone iFlaw; omega)]; exact h2 s hs
  · rw [lo _ (by unfold iPl iFlaw; omega) (by unfold iPl iFlaw; omega)]; exact h3 s k hs hk
  · rw [lo _ (by unfold iFlaw; omega) (by unfold iFlaw; omega)]; exact h4 i hi hl
  · by_cases e : g = f
    · subst e
      have e23 : ¬ iFlaw g + 3 = iFlaw g + 2 := by omega
      have hs8 : s < 8 := by omega
      constructor
      · simp only [hFs, hs8, and_self, if_true]
        congr 1
        unfold pF2 fcl
        rw [hc (fun i => σ 2 i == nI s), ← box_fc hM hW hs8 false]
        refine cnt_congr _ (fun i hi => ?_)
        unfold pFc
        rw [own i hi, Bool.and_comm]
        simp
      · simp only [hFs, hs8, and_self, if_true, e23, false_and, if_false]
        congr 1
        unfold pF3 fcl
        rw [hc (fun i => σ 2 i == nI s && !(σ 3 i == 0)), ← box_fc hM hW hs8 true]
        refine cnt_congr _ (fun i hi => ?_)
        unfold pFc
        rw [own i hi]
        by_cases ho : τ 1 (CI τ i) = nI s
        · have hl := h4 i hi ⟨s, hs, ho⟩
          rw [hl, ho]
          cases sSurf τ (CI τ i) <;> simp [b2i]
        · have : (τ 1 (CI τ i) == nI s) = false := by simpa using ho
          rw [this]
          simp
    · rw [lo _ (by unfold iFlaw; omega) (by unfold iFlaw; omega), lo _ (by unfold iFlaw; omega) (by unfold iFlaw; omega)]
      exact h5 g s (by omega) hs
theorem Sv_of {τ σ0 σ : Mem} (hM : MI τ) (hW : MW τ) (h : Jv τ σ0 (nF τ) σ) : Sv σ τ := by
  obtain ⟨⟨h1, h2, h3, h4⟩, h5⟩ := h
  have hS := (MI_S hM).2.2
  refine ⟨fun s hs => ?_, fun s k hs hk => ?_, h4, h5⟩
  · rw [← box_wt hM hW (show s < 8 by omega), ← box_sf hM hW (show s < 8 by omega)]; exact h2 s hs
  · rw [← box_tc hM hW (show s < 8 by omega)]; exact h3 s k hs hk
theorem ix_mod {x y z C R : Nat} (hx : x < C) (hy : y < R) : ((z * R + y) * C + x) % C = x ∧ ((z * R + y) * C + x) / C % R = y ∧ ((z * R + y) * C + x) / C / R = z := by
  have hC : 0 < C := by omega
  have hR : 0 < R := by omega
  have h1 : ((z * R + y) * C + x) / C = z * R + y := by
    rw [Nat.mul_comm, Nat.mul_add_div hC, Nat.div_eq_of_lt hx, Nat.add_zero]
  refine ⟨?_, ?_, ?_⟩
  · rw [Nat.mul_comm, Nat.mul_add_mod, Nat.mod_eq_of_lt hx]
  · rw [h1, Nat.mul_comm, Nat.mul_add_mod, Nat.mod_eq_of_lt hy]
  · rw [h1, Nat.mul_comm, Nat.mul_add_div hR, Nat.div_eq_of_lt hy, Nat.add_zero]

set_option maxRecDepth 100000 in
set_option maxHeartbeats 4000000 in
/-- X5_survey -/
theorem c_X5_survey (l : Launch) (t : Mem) : gMV wX l yX5_survey (.code yX5_survey cX5_survey 5 none) 4 0 0 (fun A => [.ref (A 0)]) (fun τ => MI t ∧ MW t ∧ M16 t ∧ Rb τ t) (fun τ τ1 => Fr τ τ1 ∧ Sv τ1 t) := by
  refine gMV_of (by decide) (fun A => Nat.le_of_ble_eq_true rfl) ?_
  intro X τ hC hP hE
  have hC : gOk wX l X cX5_survey "GemCut" 4 0 0 := hC
  show G wX X 0 0 0 [some (.ref (gA X 0)), none, none, none, none] [] τ
  obtain ⟨hM, hW, h6, hb⟩ := hP
  obtain ⟨⟨hC1, hC2, hC3⟩, ⟨hR1, hR2, hR3⟩, ⟨hL1, hL2, hL3⟩⟩ := MI_C hM
  obtain ⟨hF1, hF2⟩ := MI_F hM
  obtain ⟨hS1, hS2, hS3⟩ := MI_S hM
  have hN := vol_rng (MI_C hM).1.2 (MI_C hM).2.1.2 (MI_C hM).2.2.2
  have hN' : NN t ≤ 1000 := hN.2
  have lpf : ∀ (m f : Nat) (σ : Mem), f + m = nF t → Jv t τ f σ → G wX X 0 0 100 [some (.ref (gA X 0)), some (.int (nI (NN t))), some (.int (nI f)), none, none] [] (σ) := by
    intro m
    induction m with
    | zero =>
      intro f σ hf hI
      have hf : f = nF t := by omega
      (try rw [hf] at hI); rw [hf]
      have hRb : Rb σ t := Rb_fr hM h6 hb hI.1.1
      obtain ⟨⟨a1, a2, a3, a4, a5, -, -⟩, b2, -, b4, b5, b6⟩ := hRb
      have hS9 : σ 0 3 = nI (nS t) := by rw [a5]; exact hS1
      have hF9 : σ 1 6 = nI (nF t) := by rw [a4]; exact hF1
      have hC9 : σ 1 0 = nI (nC t) := by rw [a1]; exact hC1
      have hR9 : σ 1 1 = nI (nR t) := by rw [a2]; exact hR1
      have hL9 : σ 1 2 = nI (nL t) := by rw [a3]; exact hL1
      refine g_ild2 hC dX5_survey_100 ?_
      refine g_ald0 hC dX5_survey_101 ?_
      refine xg_GemCut_rough hC tw_2_11 dX5_survey_102 ?_
      refine xg_Rough_flawCount hC tw_1_80 dX5_survey_105 ?_
      refine g_icmp_ge 133 hC dX5_survey_108 (by decide) (fun c108 => ?_) (fun c108 => absurd (by rw [hF9]; exact nI_le (by omega) (by omega)) c108)
      exact hE _ _ _ _ _ dX5_survey_133 (Nat.le_refl _) (Nat.le_refl _) ⟨hI.1.1, Sv_of hM hW hI⟩
    | succ m ihf =>
      intro f σ hf hI
      have hRb : Rb σ t := Rb_fr hM h6 hb hI.1.1
      obtain ⟨⟨a1, a2, a3, a4, a5, -, -⟩, b2, -, b4, b5, b6⟩ := hRb
      have hS9 : σ 0 3 = nI (nS t) := by rw [a5]; exact hS1
      have hF9 : σ 1 6 = nI (nF t) := by rw [a4]; exact hF1
      have hC9 : σ 1 0 = nI (nC t) := by rw [a1]; exact hC1
      have hR9 : σ 1 1 = nI (nR t) := by rw [a2]; exact hR1
      have hL9 : σ 1 2 = nI (nL t) := by rw [a3]; exact hL1
      refine g_ild2 hC dX5_survey_100 ?_
      refine g_ald0 hC dX5_survey_101 ?_
      refine xg_GemCut_rough hC tw_2_11 dX5_survey_102 ?_
      refine xg_Rough_flawCount hC tw_1_80 dX5_survey_105 ?_
      refine g_icmp_ge 133 hC dX5_survey_108 (by decide) (fun c108 => absurd c108 (by rw [hF9]; exact nI_ge (by omega) (by omega))) (fun c108 => ?_)
      refine g_ald0 hC dX5_survey_111 ?_
      refine xg_GemCut_rough hC tw_2_11 dX5_survey_112 ?_
      refine xg_Rough_flaws hC tw_1_78 dX5_survey_115 ?_
      refine g_ild2 hC dX5_survey_118 ?_
      refine xl_flawsA f hC rfl (by omega) dX5_survey_119 ?_
      refine g_ald0 hC dX5_survey_120 ?_
      refine xg_GemCut_rough hC tw_2_11 dX5_survey_121 ?_
      obtain ⟨-, m9, d2, d3, d4, d5⟩ := b6 f (by omega)
      refine k_X0_survey (f := f) (m := m9) hC tw_2_7 dX5_survey_124 (by decide) ⟨by omega, by omega⟩ (Nat.le_of_ble_eq_true rfl) (by omega) ⟨d2, d3, fun q hq => by obtain ⟨i, hi, he⟩ := d4 q hq; exact ⟨i, by omega, he⟩⟩ ?_
      refine g_inc2 1 hC dX5_survey_127 (by decide) rfl ?_
      refine g_goto 100 hC dX5_survey_130 (by decide) ?_
      rw [nI_1]
      exact ihf (f + 1) _ (by omega) (Jv_step hM hW (Rb_fr hM h6 hb hI.1.1) hI (by omega) d5)
  have lpz : ∀ (m z : Nat) (σ : Mem), z + m = nL t → Iv t τ ((z * nR t + 0) * nC t + 0) σ → G wX X 0 0 29 [some (.ref (gA X 0)), some (.int (nI ((z * nR t + 0) * nC t + 0))), some (.int (nI z)), none, none] [] (σ) := by
    intro m
    induction m with
    | zero =>
      intro z σ hz hI
      have hz : z = nL t := by omega
      (try rw [hz] at hI); rw [hz]
      have hRb : Rb σ t := Rb_fr hM h6 hb hI.1
      obtain ⟨⟨a1, a2, a3, a4, a5, -, -⟩, b2, -, b4, b5, b6⟩ := hRb
      have hS9 : σ 0 3 = nI (nS t) := by rw [a5]; exact hS1
      have hF9 : σ 1 6 = nI (nF t) := by rw [a4]; exact hF1
      have hC9 : σ 1 0 = nI (nC t) := by rw [a1]; exact hC1
      have hR9 : σ 1 1 = nI (nR t) := by rw [a2]; exact hR1
      have hL9 : σ 1 2 = nI (nL t) := by rw [a3]; exact hL1
      refine g_ild2 hC dX5_survey_29 ?_
      refine g_ald0 hC dX5_survey_30 ?_
      refine xg_GemCut_rough hC tw_2_11 dX5_survey_31 ?_
      refine xg_Rough_layers hC tw_1_67 dX5_survey_34 ?_
      refine g_icmp_ge 98 hC dX5_survey_37 (by decide) (fun c37 => ?_) (fun c37 => absurd (by rw [hL9]; exact nI_le (by omega) (by omega)) c37)
      refine g_iconst 0 hC dX5_survey_98 (by decide) ?_
      refine g_ist2 hC dX5_survey_99 rfl ?_
      have e9 : (nL t * nR t + 0) * nC t + 0 = NN t := by unfold NN; rw [Nat.add_zero, Nat.add_zero, Nat.mul_comm, Nat.mul_comm (nL t), Nat.mul_assoc]
      rw [e9] at hI ⊢
      exact lpf (nF t) 0 σ (by omega) ⟨hI, fun f s hf => absurd hf (by omega)⟩
    | succ m ihz =>
      intro z σ hz hI
      have hRb : Rb σ t := Rb_fr hM h6 hb hI.1
      obtain ⟨⟨a1, a2, a3, a4, a5, -, -⟩, b2, -, b4, b5, b6⟩ := hRb
      have hS9 : σ 0 3 = nI (nS t) := by rw [a5]; exact hS1
      have hF9 : σ 1 6 = nI (nF t) := by rw [a4]; exact hF1
      have hC9 : σ 1 0 = nI (nC t) := by rw [a1]; exact hC1
      have hR9 : σ 1 1 = nI (nR t) := by rw [a2]; exact hR1
      have hL9 : σ 1 2 = nI (nL t) := by rw [a3]; exact hL1
      have lpy : ∀ (m y : Nat) (σ : Mem), y + m = nR t → Iv t τ ((z * nR t + y) * nC t + 0) σ → G wX X 0 0 42 [some (.ref (gA X 0)), some (.int (nI ((z * nR t + y) * nC t + 0))), some (.int (nI z)), some (.int (nI y)), none] [] (σ) := by
        intro m
        induction m with
        | zero =>
          intro y σ hy hI
          have hy : y = nR t := by omega
          (try rw [hy] at hI); rw [hy]
          have hRb : Rb σ t := Rb_fr hM h6 hb hI.1
          obtain ⟨⟨a1, a2, a3, a4, a5, -, -⟩, b2, -, b4, b5, b6⟩ := hRb
          have hS9 : σ 0 3 = nI (nS t) := by rw [a5]; exact hS1
          have hF9 : σ 1 6 = nI (nF t) := by rw [a4]; exact hF1
          have hC9 : σ 1 0 = nI (nC t) := by rw [a1]; exact hC1
          have hR9 : σ 1 1 = nI (nR t) := by rw [a2]; exact hR1
          have hL9 : σ 1 2 = nI (nL t) := by rw [a3]; exact hL1
          refine g_ild3 hC dX5_survey_42 ?_
          refine g_ald0 hC dX5_survey_43 ?_
          refine xg_GemCut_rough hC tw_2_11 dX5_survey_44 ?_
          refine xg_Rough_rows hC tw_1_64 dX5_survey_47 ?_
          refine g_icmp_ge 92 hC dX5_survey_50 (by decide) (fun c50 => ?_) (fun c50 => absurd (by rw [hR9]; exact nI_le (by omega) (by omega)) c50)
          refine g_inc2 1 hC dX5_survey_92 (by decide) rfl ?_
          refine g_goto 29 hC dX5_survey_95 (by decide) ?_
          refine g_keep [true, true, true, false, false] ?_
          rw [nI_1]
          have e9 : (z * nR t + nR t) * nC t + 0 = ((z + 1) * nR t + 0) * nC t + 0 := by rw [Nat.add_mul z 1, Nat.one_mul, Nat.add_zero (z * nR t + nR t)]
          rw [e9] at hI ⊢
          exact ihz (z + 1) σ (by omega) hI
        | succ m ihy =>
          intro y σ hy hI
          have hRb : Rb σ t := Rb_fr hM h6 hb hI.1
          obtain ⟨⟨a1, a2, a3, a4, a5, -, -⟩, b2, -, b4, b5, b6⟩ := hRb
          have hS9 : σ 0 3 = nI (nS t) := by rw [a5]; exact hS1
          have hF9 : σ 1 6 = nI (nF t) := by rw [a4]; exact hF1
          have hC9 : σ 1 0 = nI (nC t) := by rw [a1]; exact hC1
          have hR9 : σ 1 1 = nI (nR t) := by rw [a2]; exact hR1
          have hL9 : σ 1 2 = nI (nL t) := by rw [a3]; exact hL1
          have lpx : ∀ (m x : Nat) (σ : Mem), x + m = nC t → Iv t τ ((z * nR t + y) * nC t + x) σ → G wX X 0 0 56 [some (.ref (gA X 0)), some (.int (nI ((z * nR t + y) * nC t + x))), some (.int (nI z)), some (.int (nI y)), some (.int (nI x))] [] (σ) := by
            intro m
            induction m with
            | zero =>
              intro x σ hx hI
              have hx : x = nC t := by omega
              (try rw [hx] at hI); rw [hx]
              have hRb : Rb σ t := Rb_fr hM h6 hb hI.1
              obtain ⟨⟨a1, a2, a3, a4, a5, -, -⟩, b2, -, b4, b5, b6⟩ := hRb
              have hS9 : σ 0 3 = nI (nS t) := by rw [a5]; exact hS1
              have hF9 : σ 1 6 = nI (nF t) := by rw [a4]; exact hF1
              have hC9 : σ 1 0 = nI (nC t) := by rw [a1]; exact hC1
              have hR9 : σ 1 1 = nI (nR t) := by rw [a2]; exact hR1
              have hL9 : σ 1 2 = nI (nL t) := by rw [a3]; exact hL1
              refine g_ild4 hC dX5_survey_56 ?_
              refine g_ald0 hC dX5_survey_58 ?_
              refine xg_GemCut_rough hC tw_2_11 dX5_survey_59 ?_
              refine xg_Rough_columns hC tw_1_61 dX5_survey_62 ?_
              refine g_icmp_ge 86 hC dX5_survey_65 (by decide) (fun c65 => ?_) (fun c65 => absurd (by rw [hC9]; exact nI_le (by omega) (by omega)) c65)
              refine g_inc3 1 hC dX5_survey_86 (by decide) rfl ?_
              refine g_goto 42 hC dX5_survey_89 (by decide) ?_
              refine g_keep [true, true, true, true, false] ?_
              rw [nI_1]
              have e9 : (z * nR t + y) * nC t + nC t = (z * nR t + (y + 1)) * nC t + 0 := by rw [Nat.add_zero, ← Nat.add_assoc (z * nR t), Nat.add_mul _ 1, Nat.one_mul]
              rw [e9] at hI ⊢
              exact ihy (y + 1) σ (by omega) hI
            | succ m ihx =>
              intro x σ hx hI
              have hRb : Rb σ t := Rb_fr hM h6 hb hI.1
              obtain ⟨⟨a1, a2, a3, a4, a5, -, -⟩, b2, -, b4, b5, b6⟩ := hRb
              have hS9 : σ 0 3 = nI (nS t) := by rw [a5]; exact hS1
              have hF9 : σ 1 6 = nI (nF t) := by rw [a4]; exact hF1
              have hC9 : σ 1 0 = nI (nC t) := by rw [a1]; exact hC1
              have hR9 : σ 1 1 = nI (nR t) := by rw [a2]; exact hR1
              have hL9 : σ 1 2 = nI (nL t) := by rw [a3]; exact hL1
              refine g_ild4 hC dX5_survey_56 ?_
              refine g_ald0 hC dX5_survey_58 ?_
              refine xg_GemCut_rough hC tw_2_11 dX5_survey_59 ?_
              refine xg_Rough_columns hC tw_1_61 dX5_survey_62 ?_
              refine g_icmp_ge 86 hC dX5_survey_65 (by decide) (fun c65 => absurd c65 (by rw [hC9]; exact nI_ge (by omega) (by omega))) (fun c65 => ?_)
              refine g_ald0 hC dX5_survey_68 ?_
              refine g_ild1 hC dX5_survey_69 ?_
              refine g_ild4 hC dX5_survey_70 ?_
              refine g_ild3 hC dX5_survey_72 ?_
              refine g_ild2 hC dX5_survey_73 ?_
              obtain ⟨d1, d2, d3⟩ := ix_mod (z := z) (show x < nC t by omega) (show y < nR t by omega)
              refine k_X5_surveyCell (t := t) (u := τ) (x := x) (y := y) (z := z) hC tw_1_215 dX5_survey_74 (by decide) ⟨by omega, by omega⟩ (Nat.le_of_ble_eq_true rfl) ⟨hM, h6, hb, by unfold NN; exact box_lt (by omega) (by omega) (by omega), hI, d1, d2, d3⟩ ?_
              intro σ1 hq
              refine g_inc1 1 hC dX5_survey_77 (by decide) rfl ?_
              refine g_inc4 1 hC dX5_survey_80 (by decide) rfl ?_
              refine g_goto 56 hC dX5_survey_83 (by decide) ?_
              rw [nI_1, nI_1]
              exact ihx (x + 1) σ1 (by omega) hq
          refine g_ild3 hC dX5_survey_42 ?_
          refine g_ald0 hC dX5_survey_43 ?_
          refine xg_GemCut_rough hC tw_2_11 dX5_survey_44 ?_
          refine xg_Rough_rows hC tw_1_64 dX5_survey_47 ?_
          refine g_icmp_ge 92 hC dX5_survey_50 (by decide) (fun c50 => absurd c50 (by rw [hR9]; exact nI_ge (by omega) (by omega))) (fun c50 => ?_)
          refine g_iconst 0 hC dX5_survey_53 (by decide) ?_
          refine g_ist4 hC dX5_survey_54 rfl ?_
          exact lpx (nC t) 0 σ (by omega) hI
      refine g_ild2 hC dX5_survey_29 ?_
      refine g_ald0 hC dX5_survey_30 ?_
      refine xg_GemCut_rough hC tw_2_11 dX5_survey_31 ?_
      refine xg_Rough_layers hC tw_1_67 dX5_survey_34 ?_
      refine g_icmp_ge 98 hC dX5_survey_37 (by decide) (fun c37 => absurd c37 (by rw [hL9]; exact nI_ge (by omega) (by omega))) (fun c37 => ?_)
      refine g_iconst 0 hC dX5_survey_40 (by decide) ?_
      refine g_ist3 hC dX5_survey_41 rfl ?_
      exact lpy (nR t) 0 σ (by omega) hI
  have lps : ∀ (m s : Nat) (σ : Mem), s + m = nS t → Zf t τ s σ → G wX X 0 0 2 [some (.ref (gA X 0)), some (.int (nI s)), none, none, none] [] (σ) := by
    intro m
    induction m with
    | zero =>
      intro s σ hs hI
      have hs : s = nS t := by omega
      (try rw [hs] at hI); rw [hs]
      have hRb : Rb σ t := Rb_fr hM h6 hb hI.1
      obtain ⟨⟨a1, a2, a3, a4, a5, -, -⟩, b2, -, b4, b5, b6⟩ := hRb
      have hS9 : σ 0 3 = nI (nS t) := by rw [a5]; exact hS1
      have hF9 : σ 1 6 = nI (nF t) := by rw [a4]; exact hF1
      have hC9 : σ 1 0 = nI (nC t) := by rw [a1]; exact hC1
      have hR9 : σ 1 1 = nI (nR t) := by rw [a2]; exact hR1
      have hL9 : σ 1 2 = nI (nL t) := by rw [a3]; exact hL1
      refine g_ild1 hC dX5_survey_2 ?_
      refine g_ald0 hC dX5_survey_3 ?_
      refine xg_GemCut_stoneCount hC tw_2_14 dX5_survey_4 ?_
      refine g_icmp_ge 25 hC dX5_survey_7 (by decide) (fun c7 => ?_) (fun c7 => absurd (by rw [hS9]; exact nI_le (by omega) (by omega)) c7)
      refine g_iconst 0 hC dX5_survey_25 (by decide) ?_
      refine g_ist1 hC dX5_survey_26 rfl ?_
      refine g_iconst 0 hC dX5_survey_27 (by decide) ?_
      refine g_ist2 hC dX5_survey_28 rfl ?_
      refine g_keep [true, true, true, false, false] ?_
      have e9 : (0 * nR t + 0) * nC t + 0 = 0 := by rw [Nat.zero_mul, Nat.zero_mul]
      have h9 := lpz (nL t) 0 σ (by omega) (by rw [e9]; exact Iv_0 hI)
      rw [e9] at h9
      exact h9
    | succ m ihs =>
      intro s σ hs hI
      have hRb : Rb σ t := Rb_fr hM h6 hb hI.1
      obtain ⟨⟨a1, a2, a3, a4, a5, -, -⟩, b2, -, b4, b5, b6⟩ := hRb
      have hS9 : σ 0 3 = nI (nS t) := by rw [a5]; exact hS1
      have hF9 : σ 1 6 = nI (nF t) := by rw [a4]; exact hF1
      have hC9 : σ 1 0 = nI (nC t) := by rw [a1]; exact hC1
      have hR9 : σ 1 1 = nI (nR t) := by rw [a2]; exact hR1
      have hL9 : σ 1 2 = nI (nL t) := by rw [a3]; exact hL1
      refine g_ild1 hC dX5_survey_2 ?_
      refine g_ald0 hC dX5_survey_3 ?_
      refine xg_GemCut_stoneCount hC tw_2_14 dX5_survey_4 ?_
      refine g_icmp_ge 25 hC dX5_survey_7 (by decide) (fun c7 => absurd c7 (by rw [hS9]; exact nI_ge (by omega) (by omega))) (fun c7 => ?_)
      refine g_ald0 hC dX5_survey_10 ?_
      refine xg_GemCut_stones hC tw_2_12 dX5_survey_11 ?_
      refine g_ild1 hC dX5_survey_14 ?_
      refine xl_stonesA s hC rfl (by omega) dX5_survey_15 ?_
      refine k_X3_forgetCells (s := s) (n := nP t s) hC tw_1_211 dX5_survey_16 (by decide) ⟨by omega, by omega⟩ (Nat.le_of_ble_eq_true rfl) (by omega) ⟨h6 s (by omega), by rw [b4 s (by omega)]; exact (MI_P hM (by omega)).1⟩ ?_
      refine g_inc1 1 hC dX5_survey_19 (by decide) rfl ?_
      refine g_goto 2 hC dX5_survey_22 (by decide) ?_
      rw [nI_1]
      exact ihs (s + 1) _ (by omega) (Zf_step hI (by omega) h6)
  refine g_iconst 0 hC dX5_survey_0 (by decide) ?_
  refine g_ist1 hC dX5_survey_1 rfl ?_
  exact lps (nS t) 0 τ (by omega) ⟨Fr.rf τ, fun s hs => absurd hs (by omega)⟩
theorem k_X5_survey {l : Launch} {X : gC} {cc : ByteArray} {own : String} {dd ca sa kc nc pc : Nat} {ls : List (Option Value)} {st : List Value} {σ : Mem} {idx : Nat} {t : Mem} (hC : gOk wX l X cc own dd ca sa) (hlk : Cond.methodLink own idx yX5_survey ∈ TB) (hd : decode cc pc = .ok (.invokevirtual idx, 3)) (hdd : 4 + 1 ≤ dd) (hfr : kc + 0 ≤ ca ∧ nc + 0 ≤ sa) (hrest : (st.map fun v => v.category).sum ≤ 8)  (hP : MI t ∧ MW t ∧ M16 t ∧ Rb σ t) (kk : ∀ (σ1 : Mem), Fr σ σ1 ∧ Sv σ1 t → G wX X kc nc (pc + 3) ls st σ1) : G wX X kc nc pc ls (.ref (gA X 0) :: st) σ := by
  exact g_cVV 0 hC (c_X5_survey l t) hlk ⟨tw_1_209, tws_1_1, tw_1_1, tw_1_210⟩ (by decide +kernel) ⟨hdd, by decide⟩ hfr rfl rfl rfl (gW_at wX _ _ (by decide)) hrest rfl hd hP kk
