/-! the saw -/
def gSaw (t : Mem) (s : Nat) (p q r d : Int32) : Mem := upd2 (upd2 (gTurn t (nI s) p q r d (nI (nS t)) 1000) 4 (nS t) 0) 0 7 (nI (nS t + 1))
section SW
variable {t : Mem} {s : Nat} {p q r d : Int32}
theorem sw_0 {j : Nat} (h : j ≠ 7) : gSaw t s p q r d 0 j = t 0 j := by simp [gSaw, gTurn, upd2, h]
theorem sw_7 : gSaw t s p q r d 0 7 = nI (nS t + 1) := by simp [gSaw, upd2]
theorem sw_1 : gSaw t s p q r d 1 = gTurn t (nI s) p q r d (nI (nS t)) 1000 1 := by funext j; simp [gSaw, upd2]
theorem sw_2 : gSaw t s p q r d 2 = t 2 := by funext j; simp [gSaw, gTurn, upd2]
theorem sw_3 : gSaw t s p q r d 3 = t 3 := by funext j; simp [gSaw, gTurn, upd2]
theorem sw_4 (a : Nat) : gSaw t s p q r d 4 a = if a = nS t then 0 else t 4 a := by
  by_cases h : a = nS t
  · simp [gSaw, upd2, h]
  · simp [gSaw, gTurn, upd2, h]
theorem sw_nS (h : nS t ≤ 8) : nS (gSaw t s p q r d) = nS t + 1 := by
  show (gSaw t s p q r d 0 7).toNatClampNeg = nS t + 1
  rw [sw_7]; exact nI_clamp (by omega)
theorem sw_nP (a : Nat) : nP (gSaw t s p q r d) a = if a = nS t then 0 else nP t a := by
  unfold nP
  rw [sw_4]
  by_cases h : a = nS t
  · rw [if_pos h, if_pos h]; decide
  · rw [if_neg h, if_neg h]
theorem sw_pl (a k w : Nat) : sPl (gSaw t s p q r d) a k w = sPl t a k w := by unfold sPl; rw [sw_3]
theorem sw_nC : nC (gSaw t s p q r d) = nC t := by unfold nC; rw [sw_0 (by decide)]
theorem sw_nR : nR (gSaw t s p q r d) = nR t := by unfold nR; rw [sw_0 (by decide)]
theorem sw_nL : nL (gSaw t s p q r d) = nL t := by unfold nL; rw [sw_0 (by decide)]
theorem sw_nF : nF (gSaw t s p q r d) = nF t := by unfold nF; rw [sw_0 (by decide)]
theorem sw_NN : NN (gSaw t s p q r d) = NN t := by unfold NN; rw [sw_nC, sw_nR, sw_nL]
theorem sw_CI (i : Nat) : CI (gSaw t s p q r d) i = CI t i := by unfold CI; rw [sw_nC, sw_nR]
theorem sw_sFl (f w : Nat) : sFl (gSaw t s p q r d) f w = sFl t f w := by unfold sFl; rw [sw_2]
theorem sw_sFlawed (f k : Nat) : sFlawed (gSaw t s p q r d) f k = sFlawed t f k := by unfold sFlawed; rw [sw_sFl, sw_sFl, sw_sFl, sw_sFl]
theorem sw_RM (h : RM t) (hs : s < nS t) (hm : nS t < 8) : RM (gSaw t s p q r d) := by
  obtain ⟨hM, hW, h6⟩ := h
  have e7 := sw_nS (s := s) (p := p) (q := q) (r := r) (d := d) (show nS t ≤ 8 by omega)
  refine ⟨⟨?_, ?_, ?_, ?_, ⟨nS t + 1, by omega, by omega, sw_7⟩, fun a ha => ?_⟩, ⟨fun x y z hx hy hz => ?_, fun f hf => ?_, fun a k ha hk => ?_⟩, fun a ha => ?_⟩
  · rw [sw_0 (by decide)]; exact hM.1
  · rw [sw_0 (by decide)]; exact hM.2.1
  · rw [sw_0 (by decide)]; exact hM.2.2.1
  · rw [sw_0 (by decide)]; exact hM.2.2.2.1
  · rw [sw_4]
    by_cases e : a = nS t
    · rw [if_pos e]; exact ⟨0, by omega, nI_0.symm⟩
    · rw [if_neg e]; exact hM.2.2.2.2.2 a ha
  · rw [sw_nC, sw_nR, sw_nL, e7, sw_1]
    obtain ⟨h1, h2⟩ := hW.1 x y z hx hy hz
    rcases tu_1 (t := t) (s := nI s) (p := p) (q := q) (r := r) (d := d) (v := nI (nS t)) (c := x + 10 * (y + 10 * z)) (by omega) with e | ⟨e, e2⟩
    · rw [e]
      refine ⟨fun hb => ?_, h2⟩
      rcases h1 hb with g | ⟨a, ha, g⟩
      · exact Or.inl g
      · exact Or.inr ⟨a, by omega, g⟩
    · rw [e]
      refine ⟨fun _ => Or.inr ⟨nS t, by omega, rfl⟩, fun hb => ?_⟩
      have := h2 hb
      rw [e2] at this
      exact absurd this (nI_nm1 (by omega))
  · rw [sw_nF] at hf
    rw [sw_nC, sw_nR, sw_nL, sw_sFl, sw_sFl, sw_sFl, sw_sFl, sw_sFl]; exact hW.2.1 f hf
  · rw [e7] at ha
    rw [sw_nP] at hk
    rw [sw_pl, sw_pl, sw_pl, sw_pl, sw_pl]
    by_cases e : a = nS t
    · rw [if_pos e] at hk; omega
    · rw [if_neg e] at hk; exact hW.2.2 a k (by omega) hk
  · rw [sw_nP]
    by_cases e : a = nS t
    · rw [if_pos e]; omega
    · rw [if_neg e]; exact h6 a ha
end SW
theorem sw_Rb {σ t : Mem} {s : Nat} {p q r d : Int32} (hM : MI t) (h6 : M16 t) (hb : Rb σ t) (hs : s < nS t) (hm : nS t < 8) (hh : ∀ i, i < NN t → σ 192 i = iI (zh t p q r i)) :
    Rb (hGv (upd2 (upd2 σ (iStone (nS t)) 2 0) 0 3 (nI (nS t + 1))) s d (nI (nS t)) (NN t)) (gSaw t s p q r d) := by
  have hF := (MI_F hM).2
  have e7 := sw_nS (t := t) (s := s) (p := p) (q := q) (r := r) (d := d) (show nS t ≤ 8 by omega)
  obtain ⟨⟨a1, a2, a3, a4, a5, a6, a7⟩, b2, b3, b4, b5, b6⟩ := hb
  have u0 : ∀ id, id ≠ 0 → id ≠ iStone (nS t) → upd2 (upd2 σ (iStone (nS t)) 2 0) 0 3 (nI (nS t + 1)) id = σ id := fun id h1 h2 => by rw [upd2_ni h1, upd2_ni h2]
  have v0 : ∀ id, id ≠ 0 → id ≠ 2 → id ≠ iStone (nS t) → hGv (upd2 (upd2 σ (iStone (nS t)) 2 0) 0 3 (nI (nS t + 1))) s d (nI (nS t)) (NN t) id = σ id := fun id h1 h2 h3 => by rw [gv_id h2, u0 id h1 h3]
  refine ⟨⟨?_, ?_, ?_, ?_, ?_, ?_, ?_⟩, fun i hi => ?_, fun a ha => ?_, fun a ha => ?_, fun a k ha hk => ?_, fun f hf => ?_⟩
  · rw [v0 1 (by decide) (by decide) (by unfold iStone; omega), sw_0 (by decide)]; exact a1
  · rw [v0 1 (by decide) (by decide) (by unfold iStone; omega), sw_0 (by decide)]; exact a2
  · rw [v0 1 (by decide) (by decide) (by unfold iStone; omega), sw_0 (by decide)]; exact a3
  · rw [v0 1 (by decide) (by decide) (by unfold iStone; omega), sw_0 (by decide)]; exact a4
  · rw [gv_id (by decide), upd2_at, sw_7]
  · rw [gv_id (by decide), upd2_nj (by decide), upd2_ni (by unfold iStone; omega), sw_0 (by decide)]; exact a6
  · rw [gv_id (by decide), upd2_nj (by decide), upd2_ni (by unfold iStone; omega), sw_0 (by decide)]; exact a7
  · rw [sw_NN] at hi
    rw [sw_1, sw_CI]
    exact gv_own hM (fun i hi => by rw [u0 2 (by decide) (by unfold iStone; omega)]; exact b2 i hi) (fun i hi => by rw [u0 192 (by decide) (by unfold iStone; omega)]; exact hh i hi) hi
  · rw [gv_id (by unfold iStone; omega), upd2_ni (by unfold iStone; omega), upd2_nj (by decide)]; exact b3 a ha
  · rw [e7] at ha
    rw [sw_4, gv_id (by unfold iStone; omega), upd2_ni (by unfold iStone; omega)]
    by_cases e : a = nS t
    · rw [if_pos e, e, upd2_at]
    · rw [if_neg e, upd2_ni (fun g => e (st_inj.mp g))]; exact b4 a (by omega)
  · rw [e7] at ha
    rw [sw_nP] at hk
    by_cases e : a = nS t
    · rw [if_pos e] at hk; omega
    · rw [if_neg e] at hk
      have := h6 a (by omega)
      rw [v0 _ (by unfold iPl; omega) (by unfold iPl; omega) (pl_ne_st a k (nS t) (by omega))]
      unfold sMost
      rw [sw_pl, sw_pl, sw_pl, sw_pl]
      obtain ⟨d1, d2, d3⟩ := b5 a k (by omega) hk
      exact ⟨fun w hw => by rw [sw_pl]; exact d1 w hw, d2, d3⟩
  · rw [sw_nF] at hf
    obtain ⟨d1, m, d2, d3, d4, d5⟩ := b6 f hf
    have f0 := v0 (iFlaw f) (by unfold iFlaw; omega) (by unfold iFlaw; omega) (by unfold iFlaw iStone; omega)
    have f1 := v0 (iFlaw f + 1) (by unfold iFlaw; omega) (by unfold iFlaw; omega) (by unfold iFlaw iStone; omega)
    refine ⟨?_, m, d2, ?_, fun k hk => ?_, fun P => ?_⟩
    · rw [sw_sFl, f0]; exact d1
    · rw [f0]; exact d3
    · rw [f1, sw_NN]; exact d4 k hk
    · rw [f1, d5 P, sw_NN]
      exact cnt_congr _ (fun i _ => by rw [sw_sFlawed, sw_CI])
/-! dressing and polishing: nothing is counted anew -/
def gPol (t : Mem) (s k : Nat) (v : Int32) : Mem := gSpend (upd2 t 3 (5 * (17 * s + k) + 4) 1) v
section PO
variable {t : Mem} {s k : Nat} {v : Int32}
theorem po_0 {j : Nat} (h : j ≠ 10 ∧ j ≠ 11) : gPol t s k v 0 j = t 0 j := by simp [gPol, gSpend, upd2, h.1, h.2]
theorem po_10 : gPol t s k v 0 10 = t 0 10 - v := by simp [gPol, gSpend, upd2]
theorem po_11 : gPol t s k v 0 11 = t 0 11 + v := by simp [gPol, gSpend, upd2]
theorem po_id {i : Nat} (h0 : i ≠ 0) (h3 : i ≠ 3) : gPol t s k v i = t i := by funext j; simp [gPol, gSpend, upd2, h0, h3]
theorem po_pl (hk : k < 17) {a b w : Nat} (hb : b < 17) (hw : w < 5) : sPl (gPol t s k v) a b w = if a = s ∧ b = k ∧ w = 4 then 1 else sPl t a b w := by
  have e : sPl (gPol t s k v) a b w = upd2 t 3 (5 * (17 * s + k) + 4) 1 3 (5 * (17 * a + b) + w) := by simp [sPl, gPol, gSpend, upd2]
  rw [e]
  by_cases h : a = s ∧ b = k ∧ w = 4
  · obtain ⟨rfl, rfl, rfl⟩ := h
    rw [if_pos ⟨rfl, rfl, rfl⟩, upd2_at]
  · rw [if_neg h, upd2_nj (by omega)]; rfl
end PO
theorem po_RM {t : Mem} {s k : Nat} {v : Int32} (h : RM t) (hs : s < nS t) (hk : k < nP t s) : RM (gPol t s k v) := by
  obtain ⟨hM, hW, h6⟩ := h
  have hS := (MI_S hM).2.2
  have hk17 : k < 17 := by have := h6 s (by omega); omega
  have eP : ∀ a, nP (gPol t s k v) a = nP t a := fun a => by unfold nP; rw [po_id (by decide) (by decide)]
  refine ⟨⟨?_, ?_, ?_, ?_, ?_, fun a ha => ?_⟩, ⟨fun x y z hx hy hz => ?_, fun f hf => ?_, fun a b ha hb => ?_⟩, fun a ha => by rw [eP]; exact h6 a ha⟩
  · rw [po_0 (by decide)]; exact hM.1
  · rw [po_0 (by decide)]; exact hM.2.1
  · rw [po_0 (by decide)]; exact hM.2.2.1
  · rw [po_0 (by decide)]; exact hM.2.2.2.1
  · rw [po_0 (by decide)]; exact hM.2.2.2.2.1
  · rw [po_id (by decide) (by decide)]; exact hM.2.2.2.2.2 a ha
  · unfold nC nR nL nS
    rw [po_id (i := 1) (by decide) (by decide), po_0 (by decide), po_0 (by decide), po_0 (by decide), po_0 (by decide)]; exact hW.1 x y z hx hy hz
  · unfold nF at hf
    rw [po_0 (by decide)] at hf
    unfold nC nR nL sFl
    rw [po_id (i := 2) (by decide) (by decide), po_0 (by decide), po_0 (by decide), po_0 (by decide)]; exact hW.2.1 f hf
  · unfold nS at ha
    rw [po_0 (by decide)] at ha
    have ha' : a < nS t := ha
    rw [eP] at hb
    have hb17 : b < 17 := by have := h6 a (by omega); omega
    rw [po_pl hk17 hb17 (by decide), po_pl hk17 hb17 (by decide), po_pl hk17 hb17 (by decide), po_pl hk17 hb17 (by decide), po_pl hk17 hb17 (by decide)]
    rw [if_neg (fun g => absurd g.2.2 (by decide)), if_neg (fun g => absurd g.2.2 (by decide)), if_neg (fun g => absurd g.2.2 (by decide)), if_neg (fun g => absurd g.2.2 (by decide))]
    obtain ⟨h1, h2⟩ := hW.2.2 a b ha' hb
    refine ⟨h1, ?_⟩
    by_cases e : a = s ∧ b = k ∧ 4 = 4
    · rw [if_pos e]; exact Or.inr rfl
    · rw [if_neg e]; exact h2

