/-! memories that are alike for the class -/
def Qf (t t' : Mem) : Prop := (∀ j, j ≠ 0 → t' 0 j = t 0 j) ∧ t' 1 = t 1 ∧ t' 2 = t 2 ∧ t' 4 = t 4 ∧ ∀ s k w, s < 8 → k < nP t s → w < 5 → sPl t' s k w = sPl t s k w
theorem Qf_e {t t' : Mem} (h : Qe t t') : Qf t t' := ⟨fun j _ => by rw [h.1 0 (by decide)], h.1 1 (by decide), h.1 2 (by decide), h.2.1, h.2.2⟩
theorem Qf_th (t : Mem) (v : Int32) : Qf t (upd2 t 0 0 v) := ⟨fun j h => upd2_nj h _, upd2_ni (by decide), upd2_ni (by decide), upd2_ni (by decide), fun s k w _ _ _ => by unfold sPl; rw [upd2_ni (by decide)]⟩
section QF
variable {t t' : Mem}
theorem Qf_nP (h : Qf t t') (s : Nat) : nP t' s = nP t s := by unfold nP; rw [h.2.2.2.1]
theorem Qf_nS (h : Qf t t') : nS t' = nS t := by unfold nS; rw [h.1 7 (by decide)]
theorem Qf_nF (h : Qf t t') : nF t' = nF t := by unfold nF; rw [h.1 5 (by decide)]
theorem Qf_nC (h : Qf t t') : nC t' = nC t := by unfold nC; rw [h.1 1 (by decide)]
theorem Qf_nR (h : Qf t t') : nR t' = nR t := by unfold nR; rw [h.1 2 (by decide)]
theorem Qf_nL (h : Qf t t') : nL t' = nL t := by unfold nL; rw [h.1 3 (by decide)]
theorem Qf_NN (h : Qf t t') : NN t' = NN t := by unfold NN; rw [Qf_nC h, Qf_nR h, Qf_nL h]
theorem Qf_CI (h : Qf t t') (i : Nat) : CI t' i = CI t i := by unfold CI; rw [Qf_nC h, Qf_nR h]
theorem Qf_sCell (h : Qf t t') (x y z : Int32) : sCell t' x y z = sCell t x y z := by unfold sCell; rw [h.1 1 (by decide), h.1 2 (by decide), h.1 3 (by decide)]
theorem Qf_sOf (h : Qf t t') (x y z s : Int32) : sOf t' x y z s = sOf t x y z s := by unfold sOf; rw [Qf_sCell h, h.2.1]
theorem Qf_sSurf (h : Qf t t') (k : Nat) : sSurf t' k = sSurf t k := by unfold sSurf; simp only [Qf_sOf h, h.2.1]
theorem Qf_sFl (h : Qf t t') (f w : Nat) : sFl t' f w = sFl t f w := by unfold sFl; rw [h.2.2.1]
theorem Qf_sFlawed (h : Qf t t') (f k : Nat) : sFlawed t' f k = sFlawed t f k := by unfold sFlawed; rw [Qf_sFl h, Qf_sFl h, Qf_sFl h, Qf_sFl h]
theorem Qf_sWt (h : Qf t t') (s : Int32) : sWt t' s = sWt t s := by unfold sWt; rw [h.2.1]
theorem Qf_pSf (h : Qf t t') (s : Int32) : pSf t' s = pSf t s := by funext k; unfold pSf; rw [h.2.1, Qf_sSurf h]
theorem Qf_sMost (h : Qf t t') {s k : Nat} (hs : s < 8) (hk : k < nP t s) : sMost t' s k = sMost t s k := by unfold sMost; rw [h.2.2.2.2 s k 0 hs hk (by decide), h.2.2.2.2 s k 1 hs hk (by decide), h.2.2.2.2 s k 2 hs hk (by decide)]
theorem Qf_sTouch (h : Qf t t') {s k : Nat} (hs : s < 8) (hk : k < nP t s) : sTouch t' s k = sTouch t s k := by
  unfold sTouch
  refine cnt_congr _ (fun c _ => ?_)
  unfold pTouch
  rw [h.2.1, Qf_sMost h hs hk, h.2.2.2.2 s k 0 hs hk (by decide), h.2.2.2.2 s k 1 hs hk (by decide), h.2.2.2.2 s k 2 hs hk (by decide), h.2.2.2.2 s k 3 hs hk (by decide)]
theorem Qf_sFc (h : Qf t t') (f : Nat) (s : Int32) (op : Bool) : sFc t' f s op = sFc t f s op := by
  unfold sFc
  refine cnt_congr _ (fun c _ => ?_)
  unfold pFc
  rw [h.2.1, Qf_sFlawed h, Qf_sSurf h]
theorem Qf_MI (h : Qf t t') (hM : MI t) : MI t' := by
  unfold MI at hM ⊢
  rw [h.1 1 (by decide), h.1 2 (by decide), h.1 3 (by decide), h.1 5 (by decide), h.1 7 (by decide), h.2.2.2.1]
  exact hM
theorem Qf_M16 (h : Qf t t') (h6 : M16 t) : M16 t' := fun s hs => by rw [Qf_nP h]; exact h6 s hs
theorem Qf_MW (h : Qf t t') (hM : MI t) (hW : MW t) : MW t' := by
  have hS := (MI_S hM).2.2
  refine ⟨fun x y z hx hy hz => ?_, fun f hf => ?_, fun s k hs hk => ?_⟩
  · rw [Qf_nC h, Qf_nR h, Qf_nL h, Qf_nS h, h.2.1]; exact hW.1 x y z hx hy hz
  · rw [Qf_nF h] at hf
    rw [Qf_nC h, Qf_nR h, Qf_nL h, Qf_sFl h, Qf_sFl h, Qf_sFl h, Qf_sFl h, Qf_sFl h]; exact hW.2.1 f hf
  · rw [Qf_nS h] at hs
    rw [Qf_nP h] at hk
    have hs8 : s < 8 := by omega
    rw [h.2.2.2.2 s k 0 hs8 hk (by decide), h.2.2.2.2 s k 1 hs8 hk (by decide), h.2.2.2.2 s k 2 hs8 hk (by decide), h.2.2.2.2 s k 3 hs8 hk (by decide), h.2.2.2.2 s k 4 hs8 hk (by decide)]
    exact hW.2.2 s k hs hk
theorem RS_Qf {σ : Mem} (hR : RS σ t) (h : Qf t t') : RS σ t' := by
  obtain ⟨hM, hW, h6, ⟨⟨a1, a2, a3, a4, a5, a6, a7⟩, b2, b3, b4, b5, b6⟩, c1, c2, c3, c4⟩ := hR
  have hS := (MI_S hM).2.2
  refine ⟨Qf_MI h hM, Qf_MW h hM hW, Qf_M16 h h6, ⟨⟨?_, ?_, ?_, ?_, ?_, ?_, ?_⟩, fun i hi => ?_, b3, fun s hs => ?_, fun s k hs hk => ?_, fun f hf => ?_⟩, fun s hs => ?_, fun s k hs hk => ?_, fun i hi hl => ?_, fun f s hf hs => ?_⟩
  · rw [h.1 1 (by decide)]; exact a1
  · rw [h.1 2 (by decide)]; exact a2
  · rw [h.1 3 (by decide)]; exact a3
  · rw [h.1 5 (by decide)]; exact a4
  · rw [h.1 7 (by decide)]; exact a5
  · rw [h.1 10 (by decide)]; exact a6
  · rw [h.1 11 (by decide)]; exact a7
  · rw [Qf_NN h] at hi; rw [Qf_CI h, h.2.1]; exact b2 i hi
  · rw [Qf_nS h] at hs; rw [h.2.2.2.1]; exact b4 s hs
  · rw [Qf_nS h] at hs
    rw [Qf_nP h] at hk
    have hs8 : s < 8 := by omega
    obtain ⟨d1, d2, d3⟩ := b5 s k hs hk
    exact ⟨fun w hw => by rw [h.2.2.2.2 s k w hs8 hk (by omega)]; exact d1 w hw, by rw [Qf_sMost h hs8 hk]; exact d2, by rw [h.2.2.2.2 s k 4 hs8 hk (by decide)]; exact d3⟩
  · rw [Qf_nF h] at hf
    obtain ⟨d1, m, d2, d3, d4, d5⟩ := b6 f hf
    refine ⟨by rw [Qf_sFl h]; exact d1, m, d2, d3, fun k hk => by rw [Qf_NN h]; exact d4 k hk, fun P => ?_⟩
    rw [d5 P, Qf_NN h]
    exact cnt_congr _ (fun i _ => by rw [Qf_sFlawed h, Qf_CI h])
  · rw [Qf_nS h] at hs; rw [Qf_sWt h, Qf_pSf h]; exact c1 s hs
  · rw [Qf_nS h] at hs
    rw [Qf_nP h] at hk
    rw [Qf_sTouch h (by omega) hk]; exact c2 s k hs hk
  · rw [Qf_NN h] at hi
    rw [Qf_CI h, Qf_sSurf h]
    refine c3 i hi ?_
    obtain ⟨s, hs, he⟩ := hl
    exact ⟨s, by rw [Qf_nS h] at hs; exact hs, by rw [Qf_CI h, h.2.1] at he; exact he⟩
  · rw [Qf_nF h] at hf
    rw [Qf_nS h] at hs
    rw [Qf_sFc h, Qf_sFc h]; exact c4 f s hf hs
end QF
/-! what follows of a memory as it can be -/
theorem NM_of {t : Mem} (hM : MI t) (hW : MW t) : NM t := fun k hk e => by
  have e2 : k = k % 10 + 10 * (k / 10 % 10 + 10 * (k / 100)) := by omega
  have h := hW.1 (k % 10) (k / 10 % 10) (k / 100) (by omega) (by omega) (by omega)
  rw [← e2, e] at h
  by_cases hb : k % 10 < nC t ∧ k / 10 % 10 < nR t ∧ k / 100 < nL t
  · rcases h.1 hb with q | ⟨s, hs, q⟩
    · exact absurd q (by decide)
    · have hs2 := (MI_S hM).2.2
      have h1 : (-2 : Int32).toInt = (nI s).toInt := by rw [q]
      rw [nI_toInt (by omega), show (-2 : Int32).toInt = -2 by decide] at h1
      omega
  · exact absurd (h.2 hb) (by decide)

