/-! what the law's checks rest on, in pure words -/
section FX
variable {t : Mem} {s : Nat} {p q r d : Int32}
theorem fx_own (hM : MI t) (hW : MW t) {k : Nat} (hk : k < 1000) : t 1 k = -1 ∨ ∃ a, a < nS t ∧ t 1 k = nI a := by
  have e : k = k % 10 + 10 * (k / 10 % 10 + 10 * (k / 100)) := by omega
  have h := hW.1 (k % 10) (k / 10 % 10) (k / 100) (by omega) (by omega) (by omega)
  rw [← e] at h
  by_cases hb : k % 10 < nC t ∧ k / 10 % 10 < nR t ∧ k / 100 < nL t
  · exact h.1 hb
  · exact Or.inl (h.2 hb)
theorem fx_ne {a b : Nat} (ha : a < 100) (hb : b < 100) (h : a ≠ b) : ¬ nI a = nI b := fun e => h ((nI_eq (by omega) (by omega)).mp e)
theorem fx_m1 {a : Nat} (ha : a < 100) : ¬ (-1 : Int32) = nI a := fun e => nI_nm1 (by omega) e.symm
theorem fx_m2 {a : Nat} (ha : a < 100) : ¬ (-2 : Int32) = nI a := fun e => by
  have h1 : (-2 : Int32).toInt = (nI a).toInt := by rw [e]
  rw [nI_toInt (by omega), show (-2 : Int32).toInt = -2 by decide] at h1
  omega
theorem fx_le : sTurn t (nI s) p q r d ≤ sWt t (nI s) := cnt_imp (fun k h => by simp only [pTurn, Bool.and_eq_true] at h; exact h.1) 1000
theorem fx_w (s : Int32) : sWt t s ≤ 1000 := cnt_le _ _
theorem fx_t (s : Int32) : sTurn t s p q r d ≤ 1000 := cnt_le _ _
theorem sumN_one {g g' : Nat → Nat} {s e : Nat} : ∀ n, s < n → (∀ k, k < n → k ≠ s → g' k = g k) → g' s + e = g s → sumN g' n + e = sumN g n := by
  intro n
  induction n with
  | zero => intro h; omega
  | succ n ih =>
    intro h h1 h2
    simp only [sumN]
    by_cases hn : s = n
    · subst hn
      rw [sumN_congr s (fun k hk => h1 k (by omega) (by omega))]
      omega
    · rw [h1 n (by omega) (fun e => hn e.symm)]
      have := ih (by omega) (fun k hk hne => h1 k (by omega) hne) h2
      omega
/-! the best depth is no worse than one that takes some and leaves some -/
theorem sB_inv (hM : MI t) (hW : MW t) (h6 : M16 t) (hs : s < 8) : ∀ n : Nat, n ≤ 163 →
    (∀ k : Nat, k < n → wI t s p q r (iI ((k : Int) - 81)) = true → sWorth (gMark t s p q r (iI ((k : Int) - 81))) s ≤ (sB t s p q r n).2) ∧
    ((sB t s p q r n = (0, 0) ∧ ∀ k : Nat, k < n → ¬ wI t s p q r (iI ((k : Int) - 81)) = true) ∨ ∃ k : Nat, k < n ∧ wI t s p q r (iI ((k : Int) - 81)) = true ∧ (sB t s p q r n).1 = iI ((k : Int) - 81) ∧ (sB t s p q r n).2 = sWorth (gMark t s p q r (iI ((k : Int) - 81))) s) := by
  intro n
  induction n with
  | zero => intro _; exact ⟨fun k hk => absurd hk (by omega), Or.inl ⟨rfl, fun k hk => absurd hk (by omega)⟩⟩
  | succ n ih =>
    intro hn
    obtain ⟨h1, h2⟩ := ih (by omega)
    have e : sB t s p q r (n + 1) = if wI t s p q r (iI ((n : Int) - 81)) = true ∧ ¬ sWorth (gMark t s p q r (iI ((n : Int) - 81))) s < (sB t s p q r n).2 then (iI ((n : Int) - 81), sWorth (gMark t s p q r (iI ((n : Int) - 81))) s) else sB t s p q r n := rfl
    by_cases hc : wI t s p q r (iI ((n : Int) - 81)) = true ∧ ¬ sWorth (gMark t s p q r (iI ((n : Int) - 81))) s < (sB t s p q r n).2
    · rw [if_pos hc] at e
      rw [e]
      refine ⟨fun k hk hw => ?_, Or.inr ⟨n, by omega, hc.1, rfl, rfl⟩⟩
      rcases Nat.lt_or_ge k n with qq | qq
      · exact Int32.le_trans (h1 k qq hw) (Int32.not_lt.mp hc.2)
      · obtain rfl : k = n := by omega
        exact Int32.le_refl _
    · rw [if_neg hc] at e
      rw [e]
      refine ⟨fun k hk hw => ?_, ?_⟩
      · rcases Nat.lt_or_ge k n with qq | qq
        · exact h1 k qq hw
        · obtain rfl : k = n := by omega
          have h3 : sWorth (gMark t s p q r (iI ((k : Int) - 81))) s < (sB t s p q r k).2 := Decidable.byContradiction (fun h4 => hc ⟨hw, h4⟩)
          exact Int32.le_of_lt h3
      · rcases h2 with ⟨h3, h4⟩ | ⟨k, h3, h4⟩
        · refine Or.inl ⟨h3, fun k hk hw => ?_⟩
          rcases Nat.lt_or_ge k n with qq | qq
          · exact h4 k qq hw
          · obtain rfl : k = n := by omega
            refine hc ⟨hw, ?_⟩
            rw [h3]
            exact Int32.not_lt.mpr (look_nn hM hW h6 hs p q r _)
        · exact Or.inr ⟨k, by omega, h4⟩
theorem fx_dep (hM : MI t) (hW : MW t) (h6 : M16 t) (hs : s < 8) (hSl : Slp p q r) (hw : ¬ nI (sWt t (nI s)) = 0) : -81 ≤ (sDep t s p q r).toInt ∧ (sDep t s p q r).toInt ≤ 81 := by
  rw [← sB_dep hM hW h6 hs hSl hw]
  rcases (sB_inv hM hW h6 hs (p := p) (q := q) (r := r) 163 (by omega)).2 with ⟨h, -⟩ | ⟨k, hk, -, e, -⟩
  · rw [h]; decide
  · rw [e, iI_toInt (by omega) (by omega)]; omega
theorem fx_best (hM : MI t) (hW : MW t) (h6 : M16 t) (hs : s < 8) (hSl : Slp p q r) (h1 : 0 < sTurn t (nI s) p q r d) (h2 : sTurn t (nI s) p q r d < sWt t (nI s)) : sWorth (gMark t s p q r d) s ≤ sWorth (gMark t s p q r (sDep t s p q r)) s := by
  have hw : ¬ nI (sWt t (nI s)) = 0 := nI_ne0 (by omega) (by have := fx_w (t := t) (nI s); omega)
  obtain ⟨L, H, l1, l2, l3, e1, e2, hL, hH, ha⟩ := ends_int hSl hw
  obtain ⟨c, hc, hc2⟩ := (cnt_pos 1000).mp h1
  simp only [pTurn, Bool.and_eq_true, beq_iff_eq, decide_eq_true_eq] at hc2
  have hz : ∀ k, sHgt k p q r = iI (zHgt k p.toInt q.toInt r.toInt) := fun k => sHgt_z
  have hrg : ∀ k, k < 1000 → -81 ≤ zHgt k p.toInt q.toInt r.toInt ∧ zHgt k p.toInt q.toInt r.toInt ≤ 81 := fun k hk => zHgt_rng hk hSl.1 hSl.2.1 hSl.2.2
  have g1 : d.toInt < zHgt c p.toInt q.toInt r.toInt := by
    have := hc2.2
    rw [hz, Int32.lt_iff_toInt_lt, iI_toInt (by have := hrg c hc; omega) (by have := hrg c hc; omega)] at this
    exact this
  have g2 : ∃ c2, c2 < 1000 ∧ t 1 c2 = nI s ∧ zHgt c2 p.toInt q.toInt r.toInt ≤ d.toInt := by
    refine Classical.byContradiction (fun hn => ?_)
    have e : sTurn t (nI s) p q r d = sWt t (nI s) := cnt_congr 1000 (fun k hk => by
      unfold pTurn
      by_cases ho : t 1 k = nI s
      · have h3 : d < sHgt k p q r := by
          rw [hz, Int32.lt_iff_toInt_lt, iI_toInt (by have := hrg k hk; omega) (by have := hrg k hk; omega)]
          exact Int.not_le.mp (fun h4 => hn ⟨k, hk, ho, h4⟩)
        simp [h3]
      · simp [ho])
    omega
  obtain ⟨c2, hc3, ho2, g3⟩ := g2
  have b1 := ha c hc hc2.1
  have b2 := ha c2 hc3 ho2
  obtain ⟨D, hD⟩ : ∃ D, D = d.toInt := ⟨_, rfl⟩
  have hd : d = iI D := by rw [hD]; exact iI_of d
  have hwi : wI t s p q r (iI D) = true := (wI_spec hM hW hs (by omega) hL hH ha).mpr (by omega)
  have hk : (((D + 81).toNat : Nat) : Int) - 81 = D := by omega
  have h3 := (sB_inv hM hW h6 hs (p := p) (q := q) (r := r) 163 (by omega)).1 (D + 81).toNat (by omega) (by rw [hk]; exact hwi)
  rw [hk, ← hd] at h3
  rcases (sB_inv hM hW h6 hs (p := p) (q := q) (r := r) 163 (by omega)).2 with ⟨-, h4⟩ | ⟨k, hk2, hk3, e3, e4⟩
  · exact absurd (by rw [hk]; exact hwi) (h4 (D + 81).toNat (by omega))
  · rw [← sB_dep hM hW h6 hs hSl hw, e3]
    rw [e4] at h3
    exact h3
/-! sawing -/
theorem fx_saw1 (k : Nat) (hk : k < 1000) : gSaw t s p q r d 1 k = if pTurn t (nI s) p q r d k = true then nI (nS t) else t 1 k := by
  rw [sw_1]; simp [gTurn, hk]
theorem fx_saw_new (hM : MI t) (hW : MW t) : sWt (gSaw t s p q r d) (nI (nS t)) = sTurn t (nI s) p q r d := by
  refine cnt_congr 1000 (fun k hk => ?_)
  rw [fx_saw1 k hk]
  have hS := (MI_S hM).2.2
  by_cases h : pTurn t (nI s) p q r d k = true
  · rw [if_pos h, h]; simp
  · rw [if_neg h]
    have h9 : pTurn t (nI s) p q r d k = false := by simpa using h
    rw [h9]
    rcases fx_own hM hW hk with e | ⟨a, ha, e⟩
    · rw [e]; simpa using fx_m1 (show nS t < 100 by omega)
    · rw [e]; simpa using fx_ne (show a < 100 by omega) (show nS t < 100 by omega) (by omega)
theorem fx_saw_old (hM : MI t) (hs : s < nS t) : sWt (gSaw t s p q r d) (nI s) + sTurn t (nI s) p q r d = sWt t (nI s) := by
  have hS := (MI_S hM).2.2
  refine (cnt_add 1000 (fun k hk => ?_)).symm
  rw [fx_saw1 k hk]
  by_cases h : pTurn t (nI s) p q r d k = true
  · have h2 : t 1 k = nI s := by simp only [pTurn, Bool.and_eq_true, beq_iff_eq] at h; exact h.1
    have h3 : ¬ nI (nS t) = nI s := fx_ne (by omega) (by omega) (by omega)
    rw [if_pos h, h, h2]
    simp [h3]
  · have h9 : pTurn t (nI s) p q r d k = false := by simpa using h
    rw [if_neg h, h9]; simp
theorem fx_saw_oth (hM : MI t) (hs : s < nS t) {a : Nat} (ha : a < nS t) (hne : a ≠ s) : sWt (gSaw t s p q r d) (nI a) = sWt t (nI a) := by
  have hS := (MI_S hM).2.2
  refine cnt_congr 1000 (fun k hk => ?_)
  rw [fx_saw1 k hk]
  by_cases h : pTurn t (nI s) p q r d k = true
  · have h2 : t 1 k = nI s := by simp only [pTurn, Bool.and_eq_true, beq_iff_eq] at h; exact h.1
    have h3 : ¬ nI (nS t) = nI a := fx_ne (by omega) (by omega) (by omega)
    have h4 : ¬ nI s = nI a := fx_ne (by omega) (by omega) (fun e => hne e.symm)
    rw [if_pos h, h2, beq_eq_false_iff_ne.mpr h3, beq_eq_false_iff_ne.mpr h4]
  · rw [if_neg h]
theorem fx_saw_all (hM : MI t) (hW : MW t) (hs : s < nS t) (hm : nS t < 8) : sCt (gSaw t s p q r d) 1 = sCt t 1 := by
  rw [sCt_1, sCt_1, sw_nS (by omega)]
  show nI (sumN _ (nS t) + sWt (gSaw t s p q r d) (nI (nS t))) = _
  rw [fx_saw_new hM hW, sumN_one (g := fun s => sWt t (nI s)) (s := s) (nS t) hs (fun k hk hne => fx_saw_oth hM hs hk hne) (fx_saw_old hM hs)]
/-! cutting -/
theorem fx_cut1 {v : Int32} (k : Nat) (hk : k < 1000) : gCut t s p q r d v 1 k = if pTurn t (nI s) p q r d k = true then -1 else t 1 k := by
  rw [ct_1]; simp [gTurn, hk]
theorem fx_cut_wt {v : Int32} (hs : s < 8) : sWt (gCut t s p q r d v) (nI s) + sTurn t (nI s) p q r d = sWt t (nI s) := by
  refine (cnt_add 1000 (fun k hk => ?_)).symm
  rw [fx_cut1 k hk]
  by_cases h : pTurn t (nI s) p q r d k = true
  · have h2 : t 1 k = nI s := by simp only [pTurn, Bool.and_eq_true, beq_iff_eq] at h; exact h.1
    rw [if_pos h, h, h2]
    have h3 := fx_m1 (show s < 100 by omega)
    simp [h3]
  · have h9 : pTurn t (nI s) p q r d k = false := by simpa using h
    rw [if_neg h, h9]; simp
theorem fx_cut_oth {v : Int32} (hs : s < 8) {a : Nat} (ha : a < 8) (hne : a ≠ s) : sWt (gCut t s p q r d v) (nI a) = sWt t (nI a) := by
  refine cnt_congr 1000 (fun k hk => ?_)
  rw [fx_cut1 k hk]
  by_cases h : pTurn t (nI s) p q r d k = true
  · have h2 : t 1 k = nI s := by simp only [pTurn, Bool.and_eq_true, beq_iff_eq] at h; exact h.1
    have h3 := fx_m1 (show a < 100 by omega)
    have h4 : ¬ nI s = nI a := fx_ne (by omega) (by omega) (fun e => hne e.symm)
    rw [if_pos h, h2, beq_eq_false_iff_ne.mpr h3, beq_eq_false_iff_ne.mpr h4]
  · rw [if_neg h]
theorem fx_cut_all {v : Int32} (hM : MI t) (hs : s < nS t) : sCt (gCut t s p q r d v) 1 = sCt t 1 - nI (sTurn t (nI s) p q r d) := by
  have hS := (MI_S hM).2.2
  rw [sCt_1, sCt_1, ct_nS]
  have := sumN_one (g := fun s => sWt t (nI s)) (g' := fun a => sWt (gCut t s p q r d v) (nI a)) (s := s) (e := sTurn t (nI s) p q r d) (nS t) hs (fun k hk hne => fx_cut_oth (by omega) (by omega) hne) (fx_cut_wt (by omega))
  rw [← this, pk_sub (by omega)]
  congr 1
  omega
theorem fx_cut_no {v : Int32} (hs : s < 8) : sTurn (gCut t s p q r d v) (nI s) p q r d = 0 := by
  refine cnt_zero 1000 (fun k hk => ?_)
  unfold pTurn
  rw [fx_cut1 k hk]
  by_cases h : pTurn t (nI s) p q r d k = true
  · rw [if_pos h]
    have h3 := fx_m1 (show s < 100 by omega)
    simp [h3]
  · rw [if_neg h]
    unfold pTurn at h
    simpa using h
/-- alike for one stone -/
def Qm (s : Nat) (t t' : Mem) : Prop := (∀ j, j ≠ 10 ∧ j ≠ 11 → t' 0 j = t 0 j) ∧ (∀ k, k < 1000 → (t' 1 k == nI s) = (t 1 k == nI s)) ∧ t' 2 = t 2 ∧ t' 3 = t 3 ∧ t' 4 = t 4
end FX
section QM
variable {t t' : Mem} {s : Nat}
theorem Qm_cell (h : Qm s t t') (x y z : Int32) : sCell t' x y z = sCell t x y z := by unfold sCell; rw [h.1 1 (by decide), h.1 2 (by decide), h.1 3 (by decide)]
theorem Qm_of (hM : MI t) (h : Qm s t t') (x y z : Int32) : sOf t' x y z (nI s) = sOf t x y z (nI s) := by
  unfold sOf
  rw [Qm_cell h]
  by_cases hc : sCell t x y z = true
  · obtain ⟨a, b, c, ha, hb, hcc, rfl, rfl, rfl⟩ := sCell_nI hM hc
    rw [hc, sAt_nI, nI_clamp (by omega), h.2.1 _ (by omega)]
  · have h9 : sCell t x y z = false := by simpa using hc
    rw [h9, Bool.false_and, Bool.false_and]
theorem Qm_surf (hM : MI t) (h : Qm s t t') {k : Nat} (h1 : t 1 k = nI s) (h2 : t' 1 k = nI s) : sSurf t' k = sSurf t k := by
  unfold sSurf; simp only [h1, h2, Qm_of hM h]
theorem Qm_fl (h : Qm s t t') (f w : Nat) : sFl t' f w = sFl t f w := by unfold sFl; rw [h.2.2.1]
theorem Qm_flawed (h : Qm s t t') (f k : Nat) : sFlawed t' f k = sFlawed t f k := by unfold sFlawed; rw [Qm_fl h, Qm_fl h, Qm_fl h, Qm_fl h]
theorem Qm_wt (h : Qm s t t') : sWt t' (nI s) = sWt t (nI s) := cnt_congr 1000 (fun k hk => h.2.1 k hk)
theorem Qm_fc (hM : MI t) (h : Qm s t t') (f : Nat) (op : Bool) : sFc t' f (nI s) op = sFc t f (nI s) op := by
  refine cnt_congr 1000 (fun k hk => ?_)
  unfold pFc
  rw [h.2.1 k hk, Qm_flawed h]
  by_cases ho : t 1 k = nI s
  · have ho2 : t' 1 k = nI s := by have := h.2.1 k hk; rw [ho] at this; simpa using this
    rw [Qm_surf hM h ho ho2]
  · have h9 : (t 1 k == nI s) = false := by simpa using ho
    rw [h9]; rfl
theorem Qm_ft (hM : MI t) (h : Qm s t t') (f : Nat) (w : Int32) : sFt t' f (nI s) w = sFt t f (nI s) w := by unfold sFt; rw [Qm_fc hM h, Qm_fc hM h, Qm_fc hM h]
theorem Qm_nF (h : Qm s t t') : nF t' = nF t := by unfold nF; rw [h.1 5 (by decide)]
theorem Qm_nP (h : Qm s t t') (a : Nat) : nP t' a = nP t a := by unfold nP; rw [h.2.2.2.2]
theorem Qm_fin (hM : MI t) (h : Qm s t t') (how : Int32) : sFin t' (nI s) how = sFin t (nI s) how := by
  unfold sFin; rw [Qm_nF h]
  exact cnt_congr _ (fun f _ => by unfold pFin; rw [Qm_ft hM h])
theorem Qm_pts (hM : MI t) (h : Qm s t t') (n : Nat) : sPts t' (nI s) n = sPts t (nI s) n := by
  unfold sPts
  exact sumI_congr _ (fun f _ => by rw [Qm_ft hM h, Qm_fl h])
theorem Qm_pl (h : Qm s t t') (a k w : Nat) : sPl t' a k w = sPl t a k w := by unfold sPl; rw [h.2.2.2.1]
theorem Qm_touch (h : Qm s t t') (k : Nat) : sTouch t' s k = sTouch t s k := by
  refine cnt_congr 1000 (fun c hc => ?_)
  unfold pTouch sMost
  rw [h.2.1 c hc]
  simp only [Qm_pl h]
theorem Qm_facet (h : Qm s t t') (k : Nat) : sFacet t' s k = sFacet t s k := by unfold sFacet; rw [Qm_touch h]
theorem Qm_facets (h : Qm s t t') (po : Bool) : sFacets t' s po = sFacets t s po := by
  unfold sFacets; rw [Qm_nP h]
  exact cnt_congr _ (fun k _ => by unfold pFacets; rw [Qm_facet h, Qm_pl h])
theorem Qm_pairs (h : Qm s t t') : sPairs t' s = sPairs t s := by
  unfold sPairs; rw [Qm_nP h]
  refine sumN_congr _ (fun a _ => cnt_congr _ (fun b _ => ?_))
  unfold pPair sOpp
  rw [Qm_facet h, Qm_facet h]
  simp only [Qm_pl h]
theorem Qm_worth (hM : MI t) (h : Qm s t t') : sWorth t' s = sWorth t s := by
  rw [sWorth_by, sWorth_by, Qm_wt h, Qm_pts hM h, Qm_facets h, Qm_pairs h, Qm_nF h]
theorem Qm_cut {p q r d v : Int32} (hs : s < 8) : Qm s (gMark t s p q r d) (gCut t s p q r d v) := by
  refine ⟨fun j hj => ?_, fun k hk => ?_, ?_, ?_, ?_⟩
  · rw [ct_0 hj, mk_0]
  · have e : gMark t s p q r d 1 k = if pTurn t (nI s) p q r d k = true then -2 else t 1 k := by simp [gMark, gPut, gTurn, hk]
    rw [fx_cut1 k hk, e]
    have h1 := fx_m1 (show s < 100 by omega)
    have h2 := fx_m2 (show s < 100 by omega)
    by_cases h : pTurn t (nI s) p q r d k = true
    · rw [if_pos h, if_pos h, beq_eq_false_iff_ne.mpr h1, beq_eq_false_iff_ne.mpr h2]
    · rw [if_neg h, if_neg h]
  · funext j; rw [ct_2, mk_2]
  · funext j; simp [gCut, gMark, gSpend, gPut, gTurn, upd2, nP_turn]
  · funext j; simp [gCut, gMark, gSpend, gPut, gTurn, upd2]
end QM
