/-! a flaw told -/
theorem dst_le (a b : Nat) : dst a b ≤ a + b := by unfold dst; omega
theorem jabs_dst {a b : Nat} (ha : a < 1000) (hb : b < 1000) : jabs (nI a - nI b) = nI (dst a b) := by
  unfold jabs dst
  rw [nI_iI, nI_iI, iI_sub, show (0 : Int32) = iI 0 by decide, iI_sub, nI_iI]
  have hq : (iI 0 ≤ iI ((a : Int) - b)) ↔ (0 : Int) ≤ (a : Int) - b := iI_le (by omega) (by omega)
  by_cases h : (0 : Int) ≤ (a : Int) - b
  · rw [if_pos (hq.mpr h)]; congr 1; omega
  · rw [if_neg (fun q => h (hq.mp q))]; congr 1; omega
section FL
variable {t : Mem} {x y z ra se : Int32}
theorem fw_0 {j : Nat} (h : j ≠ 5) : gFlaw t x y z ra se 0 j = t 0 j := by simp [gFlaw, h]
theorem fw_1 : gFlaw t x y z ra se 1 = t 1 := by funext j; simp [gFlaw]
theorem fw_3 : gFlaw t x y z ra se 3 = t 3 := by funext j; simp [gFlaw]
theorem fw_4 : gFlaw t x y z ra se 4 = t 4 := by funext j; simp [gFlaw]
theorem fw_old {f w : Nat} (hf : f < nF t) (hw : w < 5) : sFl (gFlaw t x y z ra se) f w = sFl t f w := by
  unfold sFl gFlaw
  rw [if_pos rfl, if_neg (by omega)]
theorem fw_new {w : Nat} (hw : w < 5) : sFl (gFlaw t x y z ra se) (nF t) w = gRow5 x y z ra se w := by
  unfold sFl gFlaw
  rw [if_pos rfl, if_pos (by omega), Nat.add_sub_cancel_left]
theorem fw_nF (hM : MI t) (h : nF t < 10) : gFlaw t x y z ra se 0 5 = nI (nF t + 1) ∧ nF (gFlaw t x y z ra se) = nF t + 1 := by
  have e : gFlaw t x y z ra se 0 5 = nI (nF t + 1) := by
    have : gFlaw t x y z ra se 0 5 = t 0 5 + 1 := by simp [gFlaw]
    rw [this, (MI_F hM).1, nI_1]
  exact ⟨e, by show (gFlaw t x y z ra se 0 5).toNatClampNeg = nF t + 1; rw [e]; exact nI_clamp (by omega)⟩
theorem fw_nC : nC (gFlaw t x y z ra se) = nC t := by unfold nC; rw [fw_0 (by decide)]
theorem fw_nR : nR (gFlaw t x y z ra se) = nR t := by unfold nR; rw [fw_0 (by decide)]
theorem fw_nL : nL (gFlaw t x y z ra se) = nL t := by unfold nL; rw [fw_0 (by decide)]
theorem fw_nS : nS (gFlaw t x y z ra se) = nS t := by unfold nS; rw [fw_0 (by decide)]
theorem fw_nP (s : Nat) : nP (gFlaw t x y z ra se) s = nP t s := by unfold nP; rw [fw_4]
theorem fw_NN : NN (gFlaw t x y z ra se) = NN t := by unfold NN; rw [fw_nC, fw_nR, fw_nL]
theorem fw_CI (i : Nat) : CI (gFlaw t x y z ra se) i = CI t i := by unfold CI; rw [fw_nC, fw_nR]
theorem fw_cell (a b c : Int32) : sCell (gFlaw t x y z ra se) a b c = sCell t a b c := by unfold sCell; rw [fw_0 (by decide), fw_0 (by decide), fw_0 (by decide)]
theorem fw_of (a b c s : Int32) : sOf (gFlaw t x y z ra se) a b c s = sOf t a b c s := by unfold sOf; rw [fw_cell, fw_1]
theorem fw_surf (k : Nat) : sSurf (gFlaw t x y z ra se) k = sSurf t k := by unfold sSurf; simp only [fw_of, fw_1]
theorem fw_pl (s k w : Nat) : sPl (gFlaw t x y z ra se) s k w = sPl t s k w := by unfold sPl; rw [fw_3]
theorem fw_fl {f : Nat} (hf : f < nF t) (k : Nat) : sFlawed (gFlaw t x y z ra se) f k = sFlawed t f k := by unfold sFlawed; rw [fw_old hf (by decide), fw_old hf (by decide), fw_old hf (by decide), fw_old hf (by decide)]
end FL
theorem fw_RM {t : Mem} (h : RM t) {x y z ra se : Nat} (hf : nF t < 10) (hx : x < nC t) (hy : y < nR t) (hz : z < nL t) (hr : ra ≤ 3) (hs : 1 ≤ se ∧ se ≤ 9) : RM (gFlaw t (nI x) (nI y) (nI z) (nI ra) (nI se)) := by
  obtain ⟨hM, hW, h6⟩ := h
  obtain ⟨e1, e2⟩ := fw_nF (x := nI x) (y := nI y) (z := nI z) (ra := nI ra) (se := nI se) hM hf
  refine ⟨⟨?_, ?_, ?_, ⟨nF t + 1, by omega, e1⟩, ?_, ?_⟩, ⟨fun a b c ha hb hc => ?_, fun f hf2 => ?_, fun s k hs2 hk => ?_⟩, fun s hs2 => ?_⟩
  · rw [fw_0 (by decide)]; exact hM.1
  · rw [fw_0 (by decide)]; exact hM.2.1
  · rw [fw_0 (by decide)]; exact hM.2.2.1
  · rw [fw_0 (by decide)]; exact hM.2.2.2.2.1
  · rw [fw_4]; exact hM.2.2.2.2.2
  · rw [fw_1, fw_nC, fw_nR, fw_nL, fw_nS]; exact hW.1 a b c ha hb hc
  · rw [e2] at hf2
    rw [fw_nC, fw_nR, fw_nL]
    by_cases e : f = nF t
    · subst e
      rw [fw_new (by decide), fw_new (by decide), fw_new (by decide), fw_new (by decide), fw_new (by decide)]
      exact ⟨⟨x, hx, rfl⟩, ⟨y, hy, rfl⟩, ⟨z, hz, rfl⟩, ⟨ra, hr, rfl⟩, ⟨se, hs.1, hs.2, rfl⟩⟩
    · have hf3 : f < nF t := by omega
      rw [fw_old hf3 (by decide), fw_old hf3 (by decide), fw_old hf3 (by decide), fw_old hf3 (by decide), fw_old hf3 (by decide)]
      exact hW.2.1 f hf3
  · rw [fw_nS] at hs2
    rw [fw_nP] at hk
    rw [fw_pl, fw_pl, fw_pl, fw_pl, fw_pl]
    exact hW.2.2 s k hs2 hk
  · rw [fw_nP]; exact h6 s hs2
theorem fw_bx {t : Mem} (hM : MI t) {x y z ra se : Nat} (hx : x < nC t) (hy : y < nR t) (hz : z < nL t) (hr : ra ≤ 3) {i : Nat} (hi : i < NN t) : sFlawed (gFlaw t (nI x) (nI y) (nI z) (nI ra) (nI se)) (nF t) (CI t i) = bx (nC t) (nR t) x y z ra i := by
  obtain ⟨⟨-, -, hC⟩, ⟨-, -, hR⟩, ⟨-, -, hL⟩⟩ := MI_C hM
  obtain ⟨b1, b2, b3, e1, e2, e3, -⟩ := CI_xyz hM hi
  unfold sFlawed bx
  rw [fw_new (by decide), fw_new (by decide), fw_new (by decide), fw_new (by decide), e1, e2, e3]
  show decide (jabs (nI (i % nC t) - nI x) + jabs (nI (i / nC t % nR t) - nI y) + jabs (nI (i / nC t / nR t) - nI z) ≤ nI ra) = _
  rw [jabs_dst (by omega) (by omega), jabs_dst (by omega) (by omega), jabs_dst (by omega) (by omega), nI_add, nI_add, decide_eq_decide]
  have q1 := dst_le (i % nC t) x
  have q2 := dst_le (i / nC t % nR t) y
  have q3 := dst_le (i / nC t / nR t) z
  exact nI_leI (by omega) (by omega)
theorem fw_RS {τ τ1 t : Mem} (h : RS τ t) {x y z ra se : Nat} (hf : nF t < 10) (hx : x < nC t) (hy : y < nR t) (hz : z < nL t) (hr : ra ≤ 3) (hs : 1 ≤ se ∧ se ≤ 9) (hA : AQ τ (nF t) se (nC t) (nR t) (nL t) x y z ra τ1) :
    RS τ1 (gFlaw t (nI x) (nI y) (nI z) (nI ra) (nI se)) := by
  obtain ⟨hM, hW, h6, ⟨⟨a1, a2, a3, a4, a5, a6, a7⟩, b2, b3, b4, b5, b6⟩, c1, c2, c3, c4⟩ := h
  obtain ⟨g1, g2, g3, g4, m, g5, g6, g7, g8⟩ := hA
  obtain ⟨hM', hW', h6'⟩ := fw_RM ⟨hM, hW, h6⟩ hf hx hy hz hr hs
  obtain ⟨e1, e2⟩ := fw_nF (x := nI x) (y := nI y) (z := nI z) (ra := nI ra) (se := nI se) hM hf
  have hS := (MI_S hM).2.2
  have lo : ∀ id j, (id < 5 ∨ 45 ≤ id) → ¬ (id = 1 ∧ j = 6) → τ1 id j = τ id j := fun id j h1 h2 => g1 id j (by unfold iFlaw; omega) (by unfold iFlaw; omega) (by unfold iFlaw; omega) (by unfold iFlaw; omega) h2
  have lf : ∀ f a j, f < nF t → a < 4 → τ1 (iFlaw f + a) j = τ (iFlaw f + a) j := fun f a j h1 h2 => g1 _ j (by unfold iFlaw; omega) (by unfold iFlaw; omega) (by unfold iFlaw; omega) (by unfold iFlaw; omega) (by unfold iFlaw; omega)
  have l0 : ∀ f j, f < nF t → τ1 (iFlaw f) j = τ (iFlaw f) j := fun f j h1 => lf f 0 j h1 (by decide)
  refine ⟨hM', hW', h6', ⟨⟨?_, ?_, ?_, ?_, ?_, ?_, ?_⟩, fun i hi => ?_, fun s hs2 => ?_, fun s hs2 => ?_, fun s k hs2 hk => ?_, fun f hf2 => ?_⟩, fun s hs2 => ?_, fun s k hs2 hk => ?_, fun i hi hl => ?_, fun f s hf2 hs2 => ?_⟩
  · rw [lo 1 0 (by decide) (by decide), fw_0 (by decide)]; exact a1
  · rw [lo 1 1 (by decide) (by decide), fw_0 (by decide)]; exact a2
  · rw [lo 1 2 (by decide) (by decide), fw_0 (by decide)]; exact a3
  · rw [g2, e1]
  · rw [lo 0 3 (by decide) (by decide), fw_0 (by decide)]; exact a5
  · rw [lo 0 4 (by decide) (by decide), fw_0 (by decide)]; exact a6
  · rw [lo 0 5 (by decide) (by decide), fw_0 (by decide)]; exact a7
  · rw [fw_NN] at hi
    rw [lo 2 i (by decide) (by omega), fw_1, fw_CI]; exact b2 i hi
  · rw [lo _ _ (by unfold iStone; omega) (by unfold iStone; omega)]; exact b3 s hs2
  · rw [fw_nS] at hs2
    rw [lo _ _ (by unfold iStone; omega) (by unfold iStone; omega), fw_4]; exact b4 s hs2
  · rw [fw_nS] at hs2
    rw [fw_nP] at hk
    obtain ⟨d1, d2, d3⟩ := b5 s k hs2 hk
    refine ⟨fun w hw => ?_, ?_, ?_⟩
    · rw [lo _ _ (by unfold iPl; omega) (by unfold iPl; omega), fw_pl]; exact d1 w hw
    · rw [lo _ _ (by unfold iPl; omega) (by unfold iPl; omega)]; unfold sMost; rw [fw_pl, fw_pl, fw_pl]; exact d2
    · rw [lo _ _ (by unfold iPl; omega) (by unfold iPl; omega), fw_pl]; exact d3
  · rw [e2] at hf2
    by_cases e : f = nF t
    · subst e
      refine ⟨by rw [fw_new (by decide)]; exact g3, m, g5, g6, fun k hk => ?_, fun P => ?_⟩
      · rw [fw_NN]; exact g7 k hk
      · rw [g8 P, fw_NN]
        exact cnt_congr _ (fun i hi => by rw [fw_CI, fw_bx hM hx hy hz hr hi])
    · have hf3 : f < nF t := by omega
      obtain ⟨d1, m', d2, d3, d4, d5⟩ := b6 f hf3
      refine ⟨by rw [fw_old hf3 (by decide), l0 f _ hf3]; exact d1, m', d2, by rw [l0 f _ hf3]; exact d3, fun k hk => by rw [fw_NN, lf f 1 _ hf3 (by decide)]; exact d4 k hk, fun P => ?_⟩
      have e9 : τ1 (iFlaw f + 1) = τ (iFlaw f + 1) := by funext k; exact lf f 1 k hf3 (by decide)
      rw [e9, d5 P, fw_NN]
      exact cnt_congr _ (fun i hi => by rw [fw_CI, fw_fl hf3])
  · rw [fw_nS] at hs2
    rw [lo _ _ (by unfold iStone; omega) (by unfold iStone; omega), lo _ _ (by unfold iStone; omega) (by unfold iStone; omega)]
    have e3 : sWt (gFlaw t (nI x) (nI y) (nI z) (nI ra) (nI se)) (nI s) = sWt t (nI s) := by unfold sWt; rw [fw_1]
    have e4 : pSf (gFlaw t (nI x) (nI y) (nI z) (nI ra) (nI se)) (nI s) = pSf t (nI s) := by funext k; unfold pSf; rw [fw_1, fw_surf]
    rw [e3, e4]; exact c1 s hs2
  · rw [fw_nS] at hs2
    rw [fw_nP] at hk
    rw [lo _ _ (by unfold iPl; omega) (by unfold iPl; omega)]
    have e3 : sTouch (gFlaw t (nI x) (nI y) (nI z) (nI ra) (nI se)) s k = sTouch t s k := cnt_congr _ (fun c _ => by unfold pTouch sMost; rw [fw_1, fw_pl, fw_pl, fw_pl, fw_pl])
    rw [e3]; exact c2 s k hs2 hk
  · rw [fw_NN] at hi
    rw [fw_nS, fw_1, fw_CI] at hl
    rw [lo 3 i (by decide) (by omega), fw_CI, fw_surf]; exact c3 i hi hl
  · rw [e2] at hf2
    rw [fw_nS] at hs2
    by_cases e : f = nF t
    · subst e
      obtain ⟨k1, k2⟩ := g4 s (by omega)
      rw [k1, k2]
      have key : ∀ op, sFc (gFlaw t (nI x) (nI y) (nI z) (nI ra) (nI se)) (nF t) (nI s) op = cnt (fun i => bx (nC t) (nR t) x y z ra i && (τ 2 i == nI s && (!op || sSurf t (CI t i)))) (NN t) := by
        intro op
        have e5 : sFc (gFlaw t (nI x) (nI y) (nI z) (nI ra) (nI se)) (nF t) (nI s) op = cnt (fun c => t 1 c == nI s && sFlawed (gFlaw t (nI x) (nI y) (nI z) (nI ra) (nI se)) (nF t) c && (!op || sSurf t c)) 1000 := cnt_congr _ (fun c _ => by unfold pFc; rw [fw_1, fw_surf])
        rw [e5, ← box_cnt hM hW _ (fun c hc => by rw [hc, m1_nI (by omega)]; simp only [Bool.false_and])]
        refine cnt_congr _ (fun i hi => ?_)
        rw [fw_bx hM hx hy hz hr hi, b2 i hi]
        cases bx (nC t) (nR t) x y z ra i <;> cases t 1 (CI t i) == nI s <;> rfl
      rw [key false, key true]
      refine ⟨?_, ?_⟩
      · congr 1
        exact cnt_congr _ (fun i hi => by simp)
      · congr 1
        refine cnt_congr _ (fun i hi => ?_)
        by_cases ho : τ 2 i = nI s
        · rw [c3 i hi ⟨s, hs2, by rw [← b2 i hi]; exact ho⟩, ho]
          cases sSurf t (CI t i) <;> simp [b2i]
        · have : (τ 2 i == nI s) = false := by simpa using ho
          rw [this]; simp
    · have hf3 : f < nF t := by omega
      rw [lf f 2 _ hf3 (by decide), lf f 3 _ hf3 (by decide)]
      have key : ∀ op, sFc (gFlaw t (nI x) (nI y) (nI z) (nI ra) (nI se)) f (nI s) op = sFc t f (nI s) op := fun op => cnt_congr _ (fun c _ => by unfold pFc; rw [fw_1, fw_surf, fw_fl hf3])
      rw [key, key]; exact c4 f s hf3 hs2

