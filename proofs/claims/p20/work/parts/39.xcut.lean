/-! a turn -/
theorem gv_own {σ t : Mem} {s : Nat} {p q r d v : Int32} (hM : MI t) (hb : ∀ i, i < NN t → σ 2 i = t 1 (CI t i)) (hh : ∀ i, i < NN t → σ 192 i = iI (zh t p q r i)) {i : Nat} (hi : i < NN t) :
    hGv σ s d v (NN t) 2 i = gTurn t (nI s) p q r d v 1000 1 (CI t i) := by
  obtain ⟨-, -, -, -, -, -, hc⟩ := CI_xyz hM hi
  have e : sHgt (CI t i) p q r = iI (zh t p q r i) := sHgt_z
  unfold hGv gTurn pTurn
  rw [hb i hi, hh i hi, e]
  by_cases h : t 1 (CI t i) = nI s ∧ d < iI (zh t p q r i)
  · rw [if_pos ⟨rfl, hi, h⟩, if_pos ⟨rfl, hc, by simp [h.1, h.2]⟩]
  · rw [if_neg (fun g => h g.2.2), if_neg (fun g => h (by simpa using g.2.2))]
theorem tu_0 {t : Mem} {s p q r d v : Int32} {n : Nat} {id : Nat} (h : id ≠ 1) : gTurn t s p q r d v n id = t id := by funext j; simp [gTurn, h]
theorem tu_1 {t : Mem} {s p q r d v : Int32} {c : Nat} (h : c < 1000) : gTurn t s p q r d v 1000 1 c = t 1 c ∨ (gTurn t s p q r d v 1000 1 c = v ∧ t 1 c = s) := by
  unfold gTurn pTurn
  by_cases hp : (t 1 c == s && decide (d < sHgt c p q r)) = true
  · rw [if_pos ⟨rfl, h, hp⟩]
    exact Or.inr ⟨rfl, by simp only [Bool.and_eq_true, beq_iff_eq] at hp; exact hp.1⟩
  · rw [if_neg (fun g => hp g.2.2)]; exact Or.inl rfl
/-! the cut -/
def gCut (t : Mem) (s : Nat) (p q r d v : Int32) : Mem := gSpend (gPut (gTurn t (nI s) p q r d (-1) 1000) s p q r d) v
section CT
variable {t : Mem} {s : Nat} {p q r d v : Int32}
theorem ct_0 {j : Nat} (h : j ≠ 10 ∧ j ≠ 11) : gCut t s p q r d v 0 j = t 0 j := by simp [gCut, gSpend, gPut, gTurn, upd2, h.1, h.2]
theorem ct_10 : gCut t s p q r d v 0 10 = t 0 10 - v := by simp [gCut, gSpend, gPut, gTurn, upd2]
theorem ct_11 : gCut t s p q r d v 0 11 = t 0 11 + v := by simp [gCut, gSpend, gPut, gTurn, upd2]
theorem ct_1 : gCut t s p q r d v 1 = gTurn t (nI s) p q r d (-1) 1000 1 := by funext j; simp [gCut, gSpend, gPut, upd2]
theorem ct_2 : gCut t s p q r d v 2 = t 2 := by funext j; simp [gCut, gSpend, gPut, gTurn, upd2]
theorem ct_4 {a : Nat} : gCut t s p q r d v 4 a = if a = s then t 4 s + 1 else t 4 a := by simp [gCut, gSpend, gPut, gTurn, upd2]
theorem ct_pl (h6 : M16 t) (hs : s < 8) {s2 k w : Nat} (hk : k < 17) (hw : w < 5) : sPl (gCut t s p q r d v) s2 k w = if s2 = s ∧ k = nP t s then gRow5 p q r d 0 w else sPl t s2 k w := by
  have e : sPl (gCut t s p q r d v) s2 k w = sPl (gPut (gTurn t (nI s) p q r d (-1) 1000) s p q r d) s2 k w := by unfold sPl gCut gSpend; rw [upd2_ni (by decide), upd2_ni (by decide)]
  rw [e, sPl_put (by rw [nP_turn]; exact h6 s hs) p q r d hk hw, nP_turn, sPl_turn]
theorem ct_nP (hM : MI t) (h6 : M16 t) (hs : s < 8) (a : Nat) : nP (gCut t s p q r d v) a = if a = s then nP t s + 1 else nP t a := by
  unfold nP
  rw [ct_4]
  by_cases e : a = s
  · rw [if_pos e, if_pos e, (MI_P hM hs).1, nI_1]
    have := h6 s hs
    have e2 : (nI (nP t s)).toNatClampNeg = nP t s := nI_clamp (by omega)
    rw [e2]
    exact nI_clamp (by omega)
  · rw [if_neg e, if_neg e]
theorem ct_nC : nC (gCut t s p q r d v) = nC t := by unfold nC; rw [ct_0 (by decide)]
theorem ct_nR : nR (gCut t s p q r d v) = nR t := by unfold nR; rw [ct_0 (by decide)]
theorem ct_nL : nL (gCut t s p q r d v) = nL t := by unfold nL; rw [ct_0 (by decide)]
theorem ct_nS : nS (gCut t s p q r d v) = nS t := by unfold nS; rw [ct_0 (by decide)]
theorem ct_nF : nF (gCut t s p q r d v) = nF t := by unfold nF; rw [ct_0 (by decide)]
theorem ct_NN : NN (gCut t s p q r d v) = NN t := by unfold NN; rw [ct_nC, ct_nR, ct_nL]
theorem ct_CI (i : Nat) : CI (gCut t s p q r d v) i = CI t i := by unfold CI; rw [ct_nC, ct_nR]
theorem ct_sFl (f w : Nat) : sFl (gCut t s p q r d v) f w = sFl t f w := by unfold sFl; rw [ct_2]
theorem ct_sFlawed (f k : Nat) : sFlawed (gCut t s p q r d v) f k = sFlawed t f k := by unfold sFlawed; rw [ct_sFl, ct_sFl, ct_sFl, ct_sFl]
theorem ct_RM (h : RM t) (hs : s < nS t) (hn : nP t s < 16) (ht : sTilt p q r d = true) : RM (gCut t s p q r d v) := by
  obtain ⟨hM, hW, h6⟩ := h
  have hS := (MI_S hM).2.2
  have hs8 : s < 8 := by omega
  refine ⟨⟨?_, ?_, ?_, ?_, ?_, fun a ha => ?_⟩, ⟨fun x y z hx hy hz => ?_, fun f hf => ?_, fun a k ha hk => ?_⟩, fun a ha => ?_⟩
  · rw [ct_0 (by decide)]; exact hM.1
  · rw [ct_0 (by decide)]; exact hM.2.1
  · rw [ct_0 (by decide)]; exact hM.2.2.1
  · rw [ct_0 (by decide)]; exact hM.2.2.2.1
  · rw [ct_0 (by decide)]; exact hM.2.2.2.2.1
  · rw [ct_4]
    by_cases e : a = s
    · rw [if_pos e]; exact ⟨nP t s + 1, by omega, by rw [(MI_P hM hs8).1, nI_1]⟩
    · rw [if_neg e]; exact hM.2.2.2.2.2 a ha
  · rw [ct_nC, ct_nR, ct_nL, ct_nS, ct_1]
    obtain ⟨h1, h2⟩ := hW.1 x y z hx hy hz
    rcases tu_1 (t := t) (s := nI s) (p := p) (q := q) (r := r) (d := d) (v := -1) (c := x + 10 * (y + 10 * z)) (by omega) with e | ⟨e, e2⟩
    · rw [e]; exact ⟨h1, h2⟩
    · rw [e]; exact ⟨fun _ => Or.inl rfl, fun _ => rfl⟩
  · rw [ct_nF] at hf
    rw [ct_nC, ct_nR, ct_nL, ct_sFl, ct_sFl, ct_sFl, ct_sFl, ct_sFl]; exact hW.2.1 f hf
  · rw [ct_nS] at ha
    rw [ct_nP hM h6 hs8] at hk
    have hk17 : k < 17 := by
      have := h6 a (by omega)
      split at hk <;> omega
    rw [ct_pl h6 hs8 hk17 (by decide), ct_pl h6 hs8 hk17 (by decide), ct_pl h6 hs8 hk17 (by decide), ct_pl h6 hs8 hk17 (by decide), ct_pl h6 hs8 hk17 (by decide)]
    by_cases e : a = s ∧ k = nP t s
    · rw [if_pos e, if_pos e, if_pos e, if_pos e, if_pos e]
      exact ⟨ht, Or.inl rfl⟩
    · rw [if_neg e, if_neg e, if_neg e, if_neg e, if_neg e]
      refine hW.2.2 a k ha ?_
      by_cases e2 : a = s
      · rw [if_pos e2] at hk; subst e2; omega
      · rw [if_neg e2] at hk; exact hk
  · rw [ct_nP hM h6 hs8]
    by_cases e : a = s
    · rw [if_pos e]; omega
    · rw [if_neg e]; exact h6 a ha
end CT
theorem ct_Rb {σ t : Mem} {s : Nat} {p q r d v : Int32} (hM : MI t) (h6 : M16 t) (hb : Rb σ t) (hs : s < nS t) (hn : nP t s < 16) (hh : ∀ i, i < NN t → σ 192 i = iI (zh t p q r i)) (y : Int32) :
    Rb (upd2 (upd2 (hGv (hKeep σ s (nP t s) p q r d) s d (-1) (NN t)) 0 4 (hGv (hKeep σ s (nP t s) p q r d) s d (-1) (NN t) 0 4 - v)) 0 5 (hGv (hKeep σ s (nP t s) p q r d) s d (-1) (NN t) 0 5 + v)) (gCut t s p q r d v) := by
  have hS := (MI_S hM).2.2
  have hs8 : s < 8 := by omega
  have hF := (MI_F hM).2
  obtain ⟨⟨a1, a2, a3, a4, a5, a6, a7⟩, b2, b3, b4, b5, b6⟩ := hb
  have k0 : ∀ id, id ≠ iPl s (nP t s) → id ≠ iStone s → hKeep σ s (nP t s) p q r d id = σ id := fun id h1 h2 => by
    unfold hKeep
    rw [upd2_ni h2]
    funext j
    unfold hSet
    rw [if_neg h1]
  have u0 : ∀ id, id ≠ 0 → id ≠ 2 → upd2 (upd2 (hGv (hKeep σ s (nP t s) p q r d) s d (-1) (NN t)) 0 4 (hGv (hKeep σ s (nP t s) p q r d) s d (-1) (NN t) 0 4 - v)) 0 5 (hGv (hKeep σ s (nP t s) p q r d) s d (-1) (NN t) 0 5 + v) id = hKeep σ s (nP t s) p q r d id := fun id h1 h2 => by
    rw [upd2_ni h1, upd2_ni h1, gv_id h2]
  have g0 : hGv (hKeep σ s (nP t s) p q r d) s d (-1) (NN t) 0 = σ 0 := by rw [gv_id (by decide), k0 0 (by unfold iPl; omega) (by unfold iStone; omega)]
  have st : ∀ a, a < 8 → iStone a ≠ 0 ∧ iStone a ≠ 2 ∧ ∀ k, k < 16 → iStone a ≠ iPl s k := fun a _ => ⟨by unfold iStone; omega, by unfold iStone; omega, fun k hk => fun e => pl_ne_st s k a hk e.symm⟩
  have pl : ∀ a k, iPl a k ≠ 0 ∧ iPl a k ≠ 2 := fun a k => ⟨by unfold iPl; omega, by unfold iPl; omega⟩
  have fl : ∀ f w, f < 10 → w < 4 → upd2 (upd2 (hGv (hKeep σ s (nP t s) p q r d) s d (-1) (NN t)) 0 4 (hGv (hKeep σ s (nP t s) p q r d) s d (-1) (NN t) 0 4 - v)) 0 5 (hGv (hKeep σ s (nP t s) p q r d) s d (-1) (NN t) 0 5 + v) (iFlaw f + w) = σ (iFlaw f + w) := fun f w h1 h2 => by
    rw [u0 _ (by unfold iFlaw; omega) (by unfold iFlaw; omega), k0 _ (by unfold iFlaw iPl; omega) (by unfold iFlaw iStone; omega)]
  refine ⟨⟨?_, ?_, ?_, ?_, ?_, ?_, ?_⟩, fun i hi => ?_, fun a ha => ?_, fun a ha => ?_, fun a k ha hk => ?_, fun f hf => ?_⟩
  · rw [u0 1 (by decide) (by decide), k0 1 (by unfold iPl; omega) (by unfold iStone; omega), ct_0 (by decide)]; exact a1
  · rw [u0 1 (by decide) (by decide), k0 1 (by unfold iPl; omega) (by unfold iStone; omega), ct_0 (by decide)]; exact a2
  · rw [u0 1 (by decide) (by decide), k0 1 (by unfold iPl; omega) (by unfold iStone; omega), ct_0 (by decide)]; exact a3
  · rw [u0 1 (by decide) (by decide), k0 1 (by unfold iPl; omega) (by unfold iStone; omega), ct_0 (by decide)]; exact a4
  · rw [upd2_nj (by decide), upd2_nj (by decide), g0, ct_0 (by decide)]; exact a5
  · rw [upd2_nj (by decide), upd2_at, g0, ct_10, a6]
  · rw [upd2_at, g0, ct_11, a7]
  · rw [ct_NN] at hi
    rw [upd2_ni (by decide), upd2_ni (by decide), ct_1, ct_CI]
    exact gv_own hM (fun i hi => by rw [k0 2 (by unfold iPl; omega) (by unfold iStone; omega)]; exact b2 i hi) (fun i hi => by rw [k0 192 (by unfold iPl; omega) (by unfold iStone; omega)]; exact hh i hi) hi
  · obtain ⟨c1, c2, c3⟩ := st a ha
    rw [u0 _ c1 c2]
    unfold hKeep
    rw [upd2_nj (by decide)]
    unfold hSet
    rw [if_neg (c3 _ hn)]
    exact b3 a ha
  · rw [ct_nS] at ha
    obtain ⟨c1, c2, c3⟩ := st a (by omega)
    rw [u0 _ c1 c2, ct_4]
    by_cases e : a = s
    · rw [if_pos e, e]
      unfold hKeep
      rw [upd2_at, (MI_P hM hs8).1, nI_1]
    · rw [if_neg e, k0 _ (c3 _ hn) (fun g => e (st_inj.mp g))]
      exact b4 a ha
  · rw [ct_nS] at ha
    rw [ct_nP hM h6 hs8] at hk
    have hk16 : k < 16 := by
      have := h6 a (by omega)
      by_cases e2 : a = s
      · rw [if_pos e2] at hk; omega
      · rw [if_neg e2] at hk; omega
    obtain ⟨c1, c2⟩ := pl a k
    rw [u0 _ c1 c2]
    unfold sMost
    rw [ct_pl h6 hs8 (by omega) (by decide), ct_pl h6 hs8 (by omega) (by decide), ct_pl h6 hs8 (by omega) (by decide), ct_pl h6 hs8 (by omega) (by decide)]
    by_cases e : a = s ∧ k = nP t s
    · obtain ⟨rfl, rfl⟩ := e
      have kk : ∀ w, hKeep σ a (nP t a) p q r d (iPl a (nP t a)) w = hSet σ (iPl a (nP t a)) p q r d (iPl a (nP t a)) w := fun w => by
        unfold hKeep; rw [upd2_ni (pl_ne_st a (nP t a) a hn)]
      refine ⟨fun w hw => ?_, ?_, ?_⟩
      · rw [kk, ct_pl h6 hs8 (by omega) (by omega), if_pos ⟨rfl, rfl⟩]
        rcases (show w = 0 ∨ w = 1 ∨ w = 2 ∨ w = 3 by omega) with rfl | rfl | rfl | rfl <;> simp [hSet, gRow5]
      · rw [kk, if_pos ⟨rfl, rfl⟩, if_pos ⟨rfl, rfl⟩, if_pos ⟨rfl, rfl⟩]
        simp [hSet, gRow5, xReach]
      · rw [kk, if_pos ⟨rfl, rfl⟩]
        simp [hSet, gRow5]
    · have hk2 : k < nP t a := by
        by_cases e2 : a = s
        · rw [if_pos e2] at hk; subst e2; omega
        · rw [if_neg e2] at hk; exact hk
      rw [if_neg e, if_neg e, if_neg e, if_neg e, k0 _ (fun g => e ((pl_inj hk16 hn).mp g)) (pl_ne_st a k s hk16)]
      obtain ⟨d1, d2, d3⟩ := b5 a k ha hk2
      exact ⟨fun w hw => by rw [ct_pl h6 hs8 (by omega) (by omega), if_neg e]; exact d1 w hw, d2, d3⟩
  · rw [ct_nF] at hf
    obtain ⟨d1, m, d2, d3, d4, d5⟩ := b6 f hf
    have f0 := fl f 0 (by omega) (by decide)
    have f1 := fl f 1 (by omega) (by decide)
    refine ⟨?_, m, d2, ?_, fun k hk => ?_, fun P => ?_⟩
    · rw [ct_sFl]; exact (congrFun f0 0).trans d1
    · exact (congrFun f0 2).trans d3
    · rw [f1, ct_NN]; exact d4 k hk
    · rw [f1, d5 P, ct_NN]
      exact cnt_congr _ (fun i _ => by rw [ct_sFlawed, ct_CI])

