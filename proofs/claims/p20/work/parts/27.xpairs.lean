/-! the planes behind a mark -/
section MP
variable {τ : Mem} {s : Nat} {p q r d : Int32}
theorem sPl_turn (a b c : Nat) (t e : Int32) (n : Nat) : sPl (gTurn τ t p q r d e n) a b c = sPl τ a b c := by simp [sPl, gTurn]
theorem mk_pl (hM : MI τ) (h6 : M16 τ) (hs : s < 8) {k w : Nat} (hk : k < nP τ s) (hw : w < 5) : sPl (gMark τ s p q r d) s k w = sPl τ s k w := by
  have := h6 s hs
  unfold gMark
  rw [sPl_put (by rw [nP_turn]; exact this) p q r d (by omega) hw, nP_turn, if_neg (fun h => by omega), sPl_turn]
theorem mk_plN (hM : MI τ) (h6 : M16 τ) (hs : s < 8) {w : Nat} (hw : w < 5) : sPl (gMark τ s p q r d) s (nP τ s) w = gRow5 p q r d 0 w := by
  have := h6 s hs
  unfold gMark
  rw [sPl_put (by rw [nP_turn]; exact this) p q r d (by omega) hw, nP_turn, if_pos ⟨rfl, rfl⟩]
theorem mk_touch (hM : MI τ) (h6 : M16 τ) (hs : s < 8) {k c : Nat} (hk : k < nP τ s) (hc : c < 1000) : pTouch (gMark τ s p q r d) s k c = (pTouch τ s k c && decide (sHgt c p q r ≤ d)) := by
  unfold pTouch sMost
  rw [mk_1 hc hs, mk_pl hM h6 hs hk (by decide), mk_pl hM h6 hs hk (by decide), mk_pl hM h6 hs hk (by decide), mk_pl hM h6 hs hk (by decide)]
  exact Bool.and_right_comm _ _ _
theorem mk_touchN (hM : MI τ) (h6 : M16 τ) (hs : s < 8) {c : Nat} (hc : c < 1000) : pTouch (gMark τ s p q r d) s (nP τ s) c = (τ 1 c == nI s && decide (sHgt c p q r ≤ d) && decide (d < sHgt c p q r + xReach p q r)) := by
  unfold pTouch sMost
  rw [mk_1 hc hs, mk_plN hM h6 hs (by decide), mk_plN hM h6 hs (by decide), mk_plN hM h6 hs (by decide), mk_plN hM h6 hs (by decide)]
  rfl
theorem nI_pos0 {a : Nat} (h : a ≤ 1000) : (0 < nI a) ↔ 0 < a := by
  rw [show (0 : Int32) = nI 0 by decide, nI_ltI (by omega) (by omega)]
theorem pT_m1 {k c : Nat} (hs : s < 8) (h : τ 1 c = -1) : pTouch τ s k c = false := by unfold pTouch; rw [h, m1_nI (by omega), Bool.false_and]
theorem hgt_zh (i : Nat) : sHgt (CI τ i) p q r = iI (zh τ p q r i) := sHgt_z
theorem hgt_le (hM : MI τ) (hSl : Slp p q r) {i : Nat} (hi : i < NN τ) : decide (sHgt (CI τ i) p q r ≤ d) = decide (zh τ p q r i ≤ d.toInt) := by
  have := zh_rng hM hSl hi
  rw [hgt_zh, decide_eq_decide, le_iI (by omega)]
theorem mk_facet (hM : MI τ) (hW : MW τ) (h6 : M16 τ) (hs : s < 8) (hSl : Slp p q r) {k : Nat} (hk : k < nP τ s) : sFacet (gMark τ s p q r d) s k = true ↔ ∃ i, i < NN τ ∧ pTouch τ s k (CI τ i) = true ∧ zh τ p q r i ≤ d.toInt := by
  unfold sFacet sTouch
  rw [decide_eq_true_eq, nI_pos0 (cnt_le _ _)]
  have e : cnt (pTouch (gMark τ s p q r d) s k) 1000 = cnt (fun i => pTouch τ s k (CI τ i) && decide (sHgt (CI τ i) p q r ≤ d)) (NN τ) := by
    rw [box_cnt hM hW (fun c => pTouch τ s k c && decide (sHgt c p q r ≤ d)) (fun c h => by rw [pT_m1 hs h, Bool.false_and])]
    exact cnt_congr _ (fun c hc => mk_touch hM h6 hs hk hc)
  rw [e, cnt_pos]
  constructor
  · rintro ⟨i, hi, h⟩
    rw [hgt_le hM hSl hi, Bool.and_eq_true, decide_eq_true_eq] at h
    exact ⟨i, hi, h⟩
  · rintro ⟨i, hi, h1, h2⟩
    exact ⟨i, hi, by rw [hgt_le hM hSl hi, h1, decide_eq_true h2]; rfl⟩
theorem d_reach (hSl : Slp p q r) (hd : Dp d) : (d - xReach p q r).toInt = d.toInt - zR p q r := by
  have := reach_rng hSl
  unfold Dp at hd
  rw [reach_iI]
  conv => lhs; rw [iI_of d, iI_sub]
  exact iI_toInt (by omega) (by omega)
theorem mk_facetN (hM : MI τ) (hW : MW τ) (h6 : M16 τ) (hs : s < 8) (hSl : Slp p q r) (hd : Dp d) : sFacet (gMark τ s p q r d) s (nP τ s) = wF τ s p q r d := by
  have hm := reach_rng hSl
  have e : cnt (pTouch (gMark τ s p q r d) s (nP τ s)) 1000 = cnt (fun i => own τ s i && decide (sHgt (CI τ i) p q r ≤ d) && decide (d < sHgt (CI τ i) p q r + xReach p q r)) (NN τ) := by
    unfold own
    rw [box_cnt hM hW (fun c => τ 1 c == nI s && decide (sHgt c p q r ≤ d) && decide (d < sHgt c p q r + xReach p q r)) (fun c h => by rw [h, m1_nI (by omega), Bool.false_and, Bool.false_and])]
    exact cnt_congr _ (fun c hc => mk_touchN hM h6 hs hc)
  have e2 : cLe τ s p q r d.toInt = cLe τ s p q r (d.toInt - zR p q r) + cnt (fun i => own τ s i && decide (sHgt (CI τ i) p q r ≤ d) && decide (d < sHgt (CI τ i) p q r + xReach p q r)) (NN τ) := by
    refine cnt_add _ (fun i hi => ?_)
    have hz := zh_rng hM hSl hi
    rw [hgt_le hM hSl hi, hgt_zh, reach_iI, iI_add, show decide (d < iI (zh τ p q r i + zR p q r)) = decide (d.toInt < zh τ p q r i + zR p q r) from decide_eq_decide.mpr (lt_iI (by omega))]
    cases own τ s i
    · exact ⟨rfl, rfl⟩
    · simp only [Bool.true_and]
      by_cases h1 : zh τ p q r i ≤ d.toInt - zR p q r
      · rw [decide_eq_true (show zh τ p q r i ≤ d.toInt by omega), decide_eq_true h1, decide_eq_false (show ¬ d.toInt < zh τ p q r i + zR p q r by omega)]; exact ⟨rfl, rfl⟩
      · rw [decide_eq_false h1, decide_eq_true (show d.toInt < zh τ p q r i + zR p q r by omega)]
        simp
  unfold wF sFacet sTouch
  rw [e, d_reach hSl hd, decide_eq_decide, nI_pos0 (show cnt _ (NN τ) ≤ 1000 from Nat.le_trans (cnt_le _ _) (vol_rng (MI_C hM).1.2 (MI_C hM).2.1.2 (MI_C hM).2.2.2).2)]
  omega
theorem fl_facet {σ : Mem} (hM : MI τ) (hW : MW τ) (h6 : M16 τ) (hs : s < 8) (hSl : Slp p q r) (hd : Dp d) (hA : Am τ s p q r σ) {k : Nat} (hk : k < nP τ s) : σ 194 k ≤ d ↔ sFacet (gMark τ s p q r d) s k = true := by
  obtain ⟨w, w1, w2, w3, w4⟩ := hA.2 k hk
  unfold Dp at hd
  rw [w3, le_iI (by omega), mk_facet hM hW h6 hs hSl hk]
  exact w4 d.toInt (by omega)
theorem mk_wt (hM : MI τ) (hW : MW τ) (hs : s < 8) (hSl : Slp p q r) : sWt (gMark τ s p q r d) (nI s) = cLe τ s p q r d.toInt := by
  unfold sWt cLe own
  rw [show cnt (fun i => τ 1 (CI τ i) == nI s && decide (zh τ p q r i ≤ d.toInt)) (NN τ) = cnt (fun i => τ 1 (CI τ i) == nI s && decide (sHgt (CI τ i) p q r ≤ d)) (NN τ) from cnt_congr _ (fun i hi => by rw [hgt_le hM hSl hi])]
  rw [box_cnt hM hW (fun c => τ 1 c == nI s && decide (sHgt c p q r ≤ d)) (fun c h => by rw [h, m1_nI (by omega), Bool.false_and])]
  exact cnt_congr _ (fun c hc => mk_1 hc hs)
theorem mk_facets (hM : MI τ) (h6 : M16 τ) (hs : s < 8) : sFacets (gMark τ s p q r d) s true = cnt (pFacets (gMark τ s p q r d) s true) (nP τ s) := by
  unfold sFacets
  rw [nP_mark hM h6 hs]
  refine cnt_f ?_
  unfold pFacets
  rw [mk_plN hM h6 hs (by decide)]
  simp [gRow5]
theorem mk_pol (hM : MI τ) (hW : MW τ) (h6 : M16 τ) (hs : s < nS τ) {k : Nat} (hk : k < nP τ s) : (sPl (gMark τ s p q r d) s k 4 == 1) = !(sPl τ s k 4 == 0) := by
  rw [mk_pl hM h6 (by have := (MI_S hM).2.2; omega) hk (by decide)]
  rcases (hW.2.2 s k hs hk).2 with h | h <;> rw [h] <;> decide
end MP
/-! pairs -/
theorem tri (F : Nat → Nat → Bool) : ∀ n, sumN (fun a => cnt (F a) a) n = sumN (fun b => cnt (fun j => F (b + 1 + j) b) (n - (b + 1))) n := by
  have add : ∀ (f g : Nat → Nat) n, sumN (fun k => f k + g k) n = sumN f n + sumN g n := by
    intro f g n
    induction n with
    | zero => rfl
    | succ n ih => simp only [sumN, ih]; omega
  intro n
  induction n with
  | zero => rfl
  | succ n ih =>
    simp only [sumN]
    rw [ih, show n + 1 - (n + 1) = 0 by omega]
    have e : sumN (fun b => cnt (fun j => F (b + 1 + j) b) (n + 1 - (b + 1))) n = sumN (fun b => cnt (fun j => F (b + 1 + j) b) (n - (b + 1)) + (if F n b = true then 1 else 0)) n := by
      refine sumN_congr _ (fun b hb => ?_)
      rw [show n + 1 - (b + 1) = (n - (b + 1)) + 1 by omega]
      simp only [cnt, show b + 1 + (n - (b + 1)) = n by omega]
    rw [e, add, ← cnt_sum]
    rfl
theorem tri_s (F : Nat → Nat → Bool) (n : Nat) : sumN (fun a => cnt (F a) a) (n + 1) = sumN (fun b => (if F n b = true then 1 else 0) + cnt (fun j => F (b + 1 + j) b) (n - (b + 1))) n := by
  rw [tri]
  simp only [sumN]
  rw [show n + 1 - (n + 1) = 0 by omega]
  simp only [cnt, Nat.add_zero]
  refine sumN_congr _ (fun b hb => ?_)
  rw [show n + 1 - (b + 1) = (n - (b + 1)) + 1 by omega]
  simp only [cnt, show b + 1 + (n - (b + 1)) = n by omega]
  omega
theorem neg_sym (x y : Int32) : (x == 0 - y) = (y == 0 - x) := by
  rw [Bool.eq_iff_iff, beq_iff_eq, beq_iff_eq]
  have : ∀ a b : Int32, a = 0 - b → b = 0 - a := fun a b h => by rw [h, Int32.zero_sub, Int32.zero_sub, Int32.neg_neg]
  exact ⟨this x y, this y x⟩
theorem opp_at {σ τ : Mem} {s a b i j : Nat} (ha : ∀ w, w < 3 → σ i w = sPl τ s a w) (hb : ∀ w, w < 3 → σ j w = sPl τ s b w) : xOpp σ i j = sOpp τ s b a 3 := by
  unfold xOpp sOpp
  simp only [allB, Bool.true_and]
  rw [ha 0 (by decide), ha 1 (by decide), ha 2 (by decide), hb 0 (by decide), hb 1 (by decide), hb 2 (by decide), neg_sym, neg_sym (sPl τ s a 1), neg_sym (sPl τ s a 2)]

