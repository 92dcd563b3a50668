/-! memories that are alike but for the turns and the polish -/
def Qs (t t' : Mem) : Prop := (∀ j, j ≠ 0 ∧ j ≠ 10 ∧ j ≠ 11 → t' 0 j = t 0 j) ∧ t' 1 = t 1 ∧ t' 2 = t 2 ∧ t' 4 = t 4 ∧ ∀ s k w, s < 8 → k < nP t s → w < 4 → sPl t' s k w = sPl t s k w
section QS
variable {t t' : Mem}
theorem Qs_nP (h : Qs t t') (s : Nat) : nP t' s = nP t s := by unfold nP; rw [h.2.2.2.1]
theorem Qs_nS (h : Qs t t') : nS t' = nS t := by unfold nS; rw [h.1 7 (by decide)]
theorem Qs_nF (h : Qs t t') : nF t' = nF t := by unfold nF; rw [h.1 5 (by decide)]
theorem Qs_nC (h : Qs t t') : nC t' = nC t := by unfold nC; rw [h.1 1 (by decide)]
theorem Qs_nR (h : Qs t t') : nR t' = nR t := by unfold nR; rw [h.1 2 (by decide)]
theorem Qs_nL (h : Qs t t') : nL t' = nL t := by unfold nL; rw [h.1 3 (by decide)]
theorem Qs_NN (h : Qs t t') : NN t' = NN t := by unfold NN; rw [Qs_nC h, Qs_nR h, Qs_nL h]
theorem Qs_CI (h : Qs t t') (i : Nat) : CI t' i = CI t i := by unfold CI; rw [Qs_nC h, Qs_nR h]
theorem Qs_sCell (h : Qs t t') (x y z : Int32) : sCell t' x y z = sCell t x y z := by unfold sCell; rw [h.1 1 (by decide), h.1 2 (by decide), h.1 3 (by decide)]
theorem Qs_sOf (h : Qs t t') (x y z s : Int32) : sOf t' x y z s = sOf t x y z s := by unfold sOf; rw [Qs_sCell h, h.2.1]
theorem Qs_sSurf (h : Qs t t') (k : Nat) : sSurf t' k = sSurf t k := by unfold sSurf; simp only [Qs_sOf h, h.2.1]
theorem Qs_sFl (h : Qs t t') (f w : Nat) : sFl t' f w = sFl t f w := by unfold sFl; rw [h.2.2.1]
theorem Qs_sFlawed (h : Qs t t') (f k : Nat) : sFlawed t' f k = sFlawed t f k := by unfold sFlawed; rw [Qs_sFl h, Qs_sFl h, Qs_sFl h, Qs_sFl h]
theorem Qs_sWt (h : Qs t t') (s : Int32) : sWt t' s = sWt t s := by unfold sWt; rw [h.2.1]
theorem Qs_pSf (h : Qs t t') (s : Int32) : pSf t' s = pSf t s := by funext k; unfold pSf; rw [h.2.1, Qs_sSurf h]
theorem Qs_sMost (h : Qs t t') {s k : Nat} (hs : s < 8) (hk : k < nP t s) : sMost t' s k = sMost t s k := by unfold sMost; rw [h.2.2.2.2 s k 0 hs hk (by decide), h.2.2.2.2 s k 1 hs hk (by decide), h.2.2.2.2 s k 2 hs hk (by decide)]
theorem Qs_sTouch (h : Qs t t') {s k : Nat} (hs : s < 8) (hk : k < nP t s) : sTouch t' s k = sTouch t s k := by
  unfold sTouch
  refine cnt_congr _ (fun c _ => ?_)
  unfold pTouch
  rw [h.2.1, Qs_sMost h hs hk, h.2.2.2.2 s k 0 hs hk (by decide), h.2.2.2.2 s k 1 hs hk (by decide), h.2.2.2.2 s k 2 hs hk (by decide), h.2.2.2.2 s k 3 hs hk (by decide)]
theorem Qs_sFc (h : Qs t t') (f : Nat) (s : Int32) (op : Bool) : sFc t' f s op = sFc t f s op := by
  unfold sFc
  refine cnt_congr _ (fun c _ => ?_)
  unfold pFc
  rw [h.2.1, Qs_sFlawed h, Qs_sSurf h]
theorem Qs_MI (h : Qs t t') (hM : MI t) : MI t' := by
  unfold MI at hM ⊢
  rw [h.1 1 (by decide), h.1 2 (by decide), h.1 3 (by decide), h.1 5 (by decide), h.1 7 (by decide), h.2.2.2.1]
  exact hM
theorem Qs_M16 (h : Qs t t') (h6 : M16 t) : M16 t' := fun s hs => by rw [Qs_nP h]; exact h6 s hs
end QS
theorem Sv_Qs {σ σ' t t' : Mem} (hR : RS σ t) (h : Qs t t') (hs : ∀ s, s < 8 → σ' (iStone s) 3 = σ (iStone s) 3 ∧ σ' (iStone s) 4 = σ (iStone s) 4) (hp : ∀ s k, s < 8 → k < 16 → σ' (iPl s k) 6 = σ (iPl s k) 6) (h3 : σ' 3 = σ 3) (hf : ∀ f, f < 10 → σ' (iFlaw f + 2) = σ (iFlaw f + 2) ∧ σ' (iFlaw f + 3) = σ (iFlaw f + 3)) : Sv σ' t' := by
  obtain ⟨hM, hW, h6, hb, c1, c2, c3, c4⟩ := hR
  have hS := (MI_S hM).2.2
  have hF := (MI_F hM).2
  refine ⟨fun s hs2 => ?_, fun s k hs2 hk => ?_, fun i hi hl => ?_, fun f s hf2 hs2 => ?_⟩
  · rw [Qs_nS h] at hs2
    rw [(hs s (by omega)).1, (hs s (by omega)).2, Qs_sWt h, Qs_pSf h]; exact c1 s hs2
  · rw [Qs_nS h] at hs2
    rw [Qs_nP h] at hk
    have := h6 s (by omega)
    rw [hp s k (by omega) (by omega), Qs_sTouch h (by omega) hk]; exact c2 s k hs2 hk
  · rw [Qs_NN h] at hi
    rw [h3, Qs_CI h, Qs_sSurf h]
    refine c3 i hi ?_
    obtain ⟨s, hs2, he⟩ := hl
    exact ⟨s, by rw [Qs_nS h] at hs2; exact hs2, by rw [Qs_CI h, h.2.1] at he; exact he⟩
  · rw [Qs_nF h] at hf2
    rw [Qs_nS h] at hs2
    rw [(hf f (by omega)).1, (hf f (by omega)).2, Qs_sFc h, Qs_sFc h]; exact c4 f s hf2 hs2
theorem po_Qs {t : Mem} (h6 : M16 t) {s k : Nat} {v : Int32} (hk : k < 17) : Qs t (gPol t s k v) :=
  ⟨fun j hj => po_0 hj.2, po_id (by decide) (by decide), po_id (by decide) (by decide), po_id (by decide) (by decide), fun a b w ha hb hw => by
    have := h6 a ha
    rw [po_pl hk (by omega) (by omega), if_neg (by omega)]⟩
theorem po_RS {σ t : Mem} (h : RS σ t) {s k : Nat} {v : Int32} (hs : s < nS t) (hk : k < nP t s) :
    RS (upd2 (upd2 (upd2 σ (iPl s k) 5 1) 0 4 (upd2 σ (iPl s k) 5 1 0 4 - v)) 0 5 (upd2 σ (iPl s k) 5 1 0 5 + v)) (gPol t s k v) := by
  have h0 := h
  obtain ⟨hM, hW, h6, ⟨⟨a1, a2, a3, a4, a5, a6, a7⟩, b2, b3, b4, b5, b6⟩, -⟩ := h
  have hS := (MI_S hM).2.2
  have hF := (MI_F hM).2
  have hn := h6 s (by omega)
  obtain ⟨hM', hW', h6'⟩ := po_RM (v := v) ⟨hM, hW, h6⟩ hs hk
  have hQ := po_Qs (s := s) (k := k) (v := v) h6 (by omega)
  have u : ∀ id j, id ≠ 0 → ¬ (id = iPl s k ∧ j = 5) → upd2 (upd2 (upd2 σ (iPl s k) 5 1) 0 4 (upd2 σ (iPl s k) 5 1 0 4 - v)) 0 5 (upd2 σ (iPl s k) 5 1 0 5 + v) id j = σ id j := fun id j h1 h2 => by
    rw [upd2_ni h1, upd2_ni h1]
    unfold upd2
    by_cases e : id = iPl s k
    · rw [if_pos e, if_neg (fun g => h2 ⟨e, g⟩)]
    · rw [if_neg e]
  have p0 : iPl s k ≠ 0 := by unfold iPl; omega
  have z0 : upd2 σ (iPl s k) 5 1 0 = σ 0 := upd2_ni (by omega)
  have lf : ∀ f a j, f < 10 → a < 4 → upd2 (upd2 (upd2 σ (iPl s k) 5 1) 0 4 (upd2 σ (iPl s k) 5 1 0 4 - v)) 0 5 (upd2 σ (iPl s k) 5 1 0 5 + v) (iFlaw f + a) j = σ (iFlaw f + a) j := fun f a j h1 h2 => u _ _ (by unfold iFlaw; omega) (by unfold iFlaw iPl; omega)
  refine ⟨hM', hW', h6', ⟨⟨?_, ?_, ?_, ?_, ?_, ?_, ?_⟩, fun i hi => ?_, fun a ha => ?_, fun a ha => ?_, fun a b ha hb => ?_, fun f hf => ?_⟩, Sv_Qs h0 hQ ?_ ?_ ?_ ?_⟩
  · rw [u 1 0 (by decide) (by omega), po_0 (by decide)]; exact a1
  · rw [u 1 1 (by decide) (by omega), po_0 (by decide)]; exact a2
  · rw [u 1 2 (by decide) (by omega), po_0 (by decide)]; exact a3
  · rw [u 1 6 (by decide) (by omega), po_0 (by decide)]; exact a4
  · rw [upd2_nj (by decide), upd2_nj (by decide), z0, po_0 (by decide)]; exact a5
  · rw [upd2_nj (by decide), upd2_at, z0, po_10, a6]
  · rw [upd2_at, z0, po_11, a7]
  · rw [Qs_NN hQ] at hi
    rw [u 2 i (by decide) (by unfold iPl; omega), hQ.2.1, Qs_CI hQ]; exact b2 i hi
  · rw [u _ _ (by unfold iStone; omega) (by omega)]; exact b3 a ha
  · rw [Qs_nS hQ] at ha
    rw [u _ _ (by unfold iStone; omega) (by omega), hQ.2.2.2.1]; exact b4 a ha
  · rw [Qs_nS hQ] at ha
    rw [Qs_nP hQ] at hb
    have hb16 := h6 a (by omega)
    obtain ⟨d1, d2, d3⟩ := b5 a b ha hb
    refine ⟨fun w hw => ?_, ?_, ?_⟩
    · rw [u _ _ (by unfold iPl; omega) (by omega), hQ.2.2.2.2 a b w (by omega) hb (by omega)]; exact d1 w hw
    · rw [u _ _ (by unfold iPl; omega) (by omega), Qs_sMost hQ (by omega) hb]; exact d2
    · rw [po_pl (by omega) (by omega) (by decide)]
      by_cases e : a = s ∧ b = k
      · obtain ⟨rfl, rfl⟩ := e
        rw [if_pos ⟨rfl, rfl, rfl⟩, upd2_ni p0, upd2_ni p0, upd2_at]
      · rw [if_neg (fun g => e ⟨g.1, g.2.1⟩), u _ _ (by unfold iPl; omega) (fun g => e ((pl_inj (by omega) (by omega)).mp g.1))]; exact d3
  · rw [Qs_nF hQ] at hf
    obtain ⟨d1, m, d2, d3, d4, d5⟩ := b6 f hf
    have e1 : upd2 (upd2 (upd2 σ (iPl s k) 5 1) 0 4 (upd2 σ (iPl s k) 5 1 0 4 - v)) 0 5 (upd2 σ (iPl s k) 5 1 0 5 + v) (iFlaw f + 1) = σ (iFlaw f + 1) := by funext j; exact lf f 1 j (by omega) (by decide)
    refine ⟨?_, m, d2, ?_, fun q hq => ?_, fun P => ?_⟩
    · rw [Qs_sFl hQ]; exact (lf f 0 0 (by omega) (by decide)).trans d1
    · exact (lf f 0 2 (by omega) (by decide)).trans d3
    · rw [e1, Qs_NN hQ]; exact d4 q hq
    · rw [e1, d5 P, Qs_NN hQ]
      exact cnt_congr _ (fun i _ => by rw [Qs_sFlawed hQ, Qs_CI hQ])
  · exact fun a ha => ⟨u _ _ (by unfold iStone; omega) (by omega), u _ _ (by unfold iStone; omega) (by omega)⟩
  · exact fun a b ha hb => u _ _ (by unfold iPl; omega) (by omega)
  · funext j; exact u 3 j (by decide) (by unfold iPl; omega)
  · exact fun f hf => ⟨by funext j; exact lf f 2 j hf (by decide), by funext j; exact lf f 3 j hf (by decide)⟩
theorem dr_RS {σ t : Mem} (h : RS σ t) : RS (upd2 σ 0 4 400) (upd2 t 0 10 400) := by
  have h0 := h
  obtain ⟨hM, hW, h6, ⟨⟨a1, a2, a3, a4, a5, a6, a7⟩, b2, b3, b4, b5, b6⟩, -⟩ := h
  have e0 : ∀ j, j ≠ 10 → upd2 t 0 10 400 0 j = t 0 j := fun j hj => upd2_nj hj _
  have ei : ∀ i, i ≠ 0 → upd2 t 0 10 400 i = t i := fun i hi => upd2_ni hi
  have ep : ∀ a b w, sPl (upd2 t 0 10 400) a b w = sPl t a b w := fun a b w => by unfold sPl; rw [ei 3 (by decide)]
  have hQ : Qs t (upd2 t 0 10 400) := ⟨fun j hj => e0 j hj.2.1, ei 1 (by decide), ei 2 (by decide), ei 4 (by decide), fun a b w _ _ _ => ep a b w⟩
  have u : ∀ id, id ≠ 0 → upd2 σ 0 4 400 id = σ id := fun id hi => upd2_ni hi
  have hW' : MW (upd2 t 0 10 400) := by
    refine ⟨fun x y z hx hy hz => ?_, fun f hf => ?_, fun a b ha hb => ?_⟩
    · rw [Qs_nC hQ, Qs_nR hQ, Qs_nL hQ, Qs_nS hQ, hQ.2.1]; exact hW.1 x y z hx hy hz
    · rw [Qs_nF hQ] at hf
      rw [Qs_nC hQ, Qs_nR hQ, Qs_nL hQ, Qs_sFl hQ, Qs_sFl hQ, Qs_sFl hQ, Qs_sFl hQ, Qs_sFl hQ]; exact hW.2.1 f hf
    · rw [Qs_nS hQ] at ha
      rw [Qs_nP hQ] at hb
      simp only [ep]; exact hW.2.2 a b ha hb
  refine ⟨Qs_MI hQ hM, hW', Qs_M16 hQ h6, ⟨⟨?_, ?_, ?_, ?_, ?_, ?_, ?_⟩, fun i hi => ?_, fun a ha => ?_, fun a ha => ?_, fun a b ha hb => ?_, fun f hf => ?_⟩, Sv_Qs h0 hQ ?_ ?_ ?_ ?_⟩
  · rw [u 1 (by decide), e0 1 (by decide)]; exact a1
  · rw [u 1 (by decide), e0 2 (by decide)]; exact a2
  · rw [u 1 (by decide), e0 3 (by decide)]; exact a3
  · rw [u 1 (by decide), e0 5 (by decide)]; exact a4
  · rw [upd2_nj (by decide), e0 7 (by decide)]; exact a5
  · rw [upd2_at, upd2_at]
  · rw [upd2_nj (by decide), e0 11 (by decide)]; exact a7
  · rw [Qs_NN hQ] at hi
    rw [u 2 (by decide), hQ.2.1, Qs_CI hQ]; exact b2 i hi
  · rw [u _ (by unfold iStone; omega)]; exact b3 a ha
  · rw [Qs_nS hQ] at ha
    rw [u _ (by unfold iStone; omega), hQ.2.2.2.1]; exact b4 a ha
  · rw [Qs_nS hQ] at ha
    rw [Qs_nP hQ] at hb
    rw [u _ (by unfold iPl; omega)]
    unfold sMost
    simp only [ep]
    exact b5 a b ha hb
  · rw [Qs_nF hQ] at hf
    rw [u _ (by unfold iFlaw; omega), u _ (by unfold iFlaw; omega), Qs_sFl hQ, Qs_NN hQ]
    obtain ⟨d1, m, d2, d3, d4, d5⟩ := b6 f hf
    exact ⟨d1, m, d2, d3, d4, fun P => (d5 P).trans (cnt_congr _ (fun i _ => by rw [Qs_sFlawed hQ, Qs_CI hQ]))⟩
  · exact fun a ha => ⟨by rw [u _ (by unfold iStone; omega)], by rw [u _ (by unfold iStone; omega)]⟩
  · exact fun a b ha hb => by rw [u _ (by unfold iPl; omega)]
  · exact u 3 (by decide)
  · exact fun f hf => ⟨u _ (by unfold iFlaw; omega), u _ (by unfold iFlaw; omega)⟩

