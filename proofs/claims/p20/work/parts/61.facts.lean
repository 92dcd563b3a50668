/-! polishing, surfaces, flaws, ways to be rid of one, sums -/
theorem cnt_imp' {P Q : Nat → Bool} : ∀ n, (∀ k, k < n → P k = true → Q k = true) → cnt P n ≤ cnt Q n := by
  intro n
  induction n with
  | zero => intro _; exact Nat.le_refl _
  | succ n ih =>
    intro h
    have h1 := ih (fun k hk => h k (by omega))
    by_cases hp : P n = true
    · rw [cnt_t hp, cnt_t (h n (by omega) hp)]; omega
    · have h9 : P n = false := by simpa using hp
      rw [cnt_f h9]
      simp only [cnt]; omega
section FY
variable {t : Mem} {s : Nat} {p q r d : Int32}
theorem cnt_one {P Q : Nat → Bool} {k : Nat} : ∀ n, k < n → (∀ j, j < n → j ≠ k → Q j = P j) → P k = false → Q k = true → cnt Q n = cnt P n + 1 := by
  intro n
  induction n with
  | zero => intro h; omega
  | succ n ih =>
    intro h h1 h2 h3
    by_cases hn : k = n
    · subst hn
      rw [cnt_t h3, cnt_f h2, cnt_congr k (fun j hj => h1 j (by omega) (by omega))]
    · have := ih (by omega) (fun j hj hne => h1 j (by omega) hne) h2 h3
      simp only [cnt, h1 n (by omega) (fun e => hn e.symm), this]
      omega
theorem fx_po_facet (hM : MI t) (h6 : M16 t) (hs : s < nS t) {k j : Nat} {v : Int32} (hk : k < nP t s) (hj : j < nP t s) : sFacet (gPol t s k v) s j = sFacet t s j := by
  have hS := (MI_S hM).2.2
  have h16 := h6 s (by omega)
  unfold sFacet; rw [Qs_sTouch (po_Qs h6 (by omega)) (by omega) hj]
theorem fx_po_facets (hM : MI t) (h6 : M16 t) (hs : s < nS t) {k : Nat} {v : Int32} (hk : k < nP t s) (hf : sFacet t s k = true) (h0 : sPl t s k 4 = 0) : sFacets (gPol t s k v) s true = sFacets t s true + 1 := by
  have hS := (MI_S hM).2.2
  have h16 := h6 s (by omega)
  unfold sFacets
  rw [Qs_nP (po_Qs h6 (by omega))]
  refine cnt_one (nP t s) hk (fun j hj hne => ?_) ?_ ?_
  · unfold pFacets
    rw [fx_po_facet hM h6 hs hk hj, po_pl (by omega) (by omega) (by omega), if_neg (fun h => hne h.2.1)]
  · unfold pFacets; rw [h0]; simp
  · unfold pFacets
    rw [fx_po_facet hM h6 hs hk hk, po_pl (by omega) (by omega) (by omega), if_pos ⟨rfl, rfl, rfl⟩, hf]; rfl
theorem fx_po_pairs (hM : MI t) (h6 : M16 t) (hs : s < nS t) {k : Nat} {v : Int32} (hk : k < nP t s) : sPairs (gPol t s k v) s = sPairs t s := by
  have hS := (MI_S hM).2.2
  have h16 := h6 s (by omega)
  unfold sPairs
  rw [Qs_nP (po_Qs h6 (by omega))]
  refine sumN_congr _ (fun a ha => cnt_congr _ (fun b hb => ?_))
  unfold pPair
  rw [fx_po_facet hM h6 hs hk ha, fx_po_facet hM h6 hs hk (by omega)]
  simp only [sOpp, allB]
  rw [po_pl (by omega) (by omega) (by omega), po_pl (by omega) (by omega) (by omega), po_pl (by omega) (by omega) (by omega), po_pl (by omega) (by omega) (by omega), po_pl (by omega) (by omega) (by omega), po_pl (by omega) (by omega) (by omega)]
  simp
theorem fx_po_worth (hM : MI t) (h6 : M16 t) (hs : s < nS t) {k : Nat} {v : Int32} (hk : k < nP t s) (hf : sFacet t s k = true) (h0 : sPl t s k 4 = 0) : sWorth (gPol t s k v) s = sWorth t s + 25 := by
  have hS := (MI_S hM).2.2
  have h16 := h6 s (by omega)
  have hQ := po_Qs (t := t) (s := s) (k := k) (v := v) h6 (by omega)
  have hpos : 0 < sWt t (nI s) := by
    unfold sFacet at hf
    rw [decide_eq_true_eq, nI_pos0 (show sTouch t s k ≤ 1000 from cnt_le _ _)] at hf
    obtain ⟨c, hc, hp⟩ := (cnt_pos 1000).mp hf
    refine (cnt_pos 1000).mpr ⟨c, hc, ?_⟩
    simp only [pTouch, Bool.and_eq_true] at hp
    exact hp.1
  have hpt : sPts (gPol t s k v) (nI s) (nF t) = sPts t (nI s) (nF t) := by
    unfold sPts
    refine sumI_congr _ (fun f _ => ?_)
    have e : sFt (gPol t s k v) f (nI s) 2 = sFt t f (nI s) 2 := by unfold sFt; rw [Qs_sFc hQ, Qs_sFc hQ, Qs_sFc hQ]
    rw [e, Qs_sFl hQ]
  rw [sWorth_by, sWorth_by, Qs_sWt hQ, Qs_nF hQ, hpt, fx_po_facets hM h6 hs hk hf h0, fx_po_pairs hM h6 hs hk]
  unfold wBy
  have hne : ¬ nI (sWt t (nI s)) = 0 := nI_ne0 hpos (by have := fx_w (t := t) (nI s); omega)
  rw [if_neg hne, if_neg hne, nI_succ]
  generalize (nI (sWt t (nI s)) * nI (sWt t (nI s)) / 10 + 10 * nI (sWt t (nI s))) * jmax 10 (100 - sPts t (nI s) (nF t)) / 100 = A
  generalize nI (sFacets t s true) = B
  generalize (40 : Int32) * nI (sPairs t s) = C
  rw [Int32.mul_add, Int32.mul_one, Int32.add_assoc, Int32.add_assoc, Int32.add_assoc, Int32.add_comm 25 C, Int32.add_assoc]
/-! surfaces, facets, flaws -/
theorem fx_surf_le : cnt (pSf t (nI s)) 1000 ≤ sWt t (nI s) := cnt_imp (fun k h => by simp only [pSf, Bool.and_eq_true] at h; exact h.1) 1000
theorem fx_surf_pos (hM : MI t) (h : 0 < sWt t (nI s)) : 0 < cnt (pSf t (nI s)) 1000 := by
  obtain ⟨k0, hk0, h0⟩ := (cnt_pos 1000).mp h
  obtain ⟨k, ⟨hk, hb⟩, hmin⟩ := pk_least (fun k => k < 1000 ∧ (t 1 k == nI s) = true) ⟨k0, hk0, h0⟩
  refine (cnt_pos 1000).mpr ⟨k, hk, ?_⟩
  have ho : t 1 k = nI s := by simpa using hb
  have hf : sOf t (kx k - 1) (ky k) (kz k) (t 1 k) = false := by
    unfold sOf
    by_cases hc : sCell t (kx k - 1) (ky k) (kz k) = true
    · rw [hc, Bool.true_and]
      by_cases h9 : k % 10 = 0
      · exfalso
        obtain ⟨⟨c, c1, c2, c3⟩, -⟩ := hM
        simp only [sCell, Bool.and_eq_true] at hc
        have h1 := hc.1.1
        unfold kx at h1
        rw [h9, c3] at h1
        simp only [sIn, Bool.and_eq_true, decide_eq_true_eq] at h1
        exact absurd h1.1 (by decide)
      · have e : kx k - 1 = nI (k % 10 - 1) := by unfold kx; exact nI_sub1 _ (by omega)
        unfold ky kz
        rw [e, sAt_nI, nI_clamp (by omega), show k % 10 - 1 + 10 * (k / 10 % 10 + 10 * (k / 100)) = k - 1 by omega, ho]
        have h2 := hmin (k - 1) (by omega)
        by_cases h3 : t 1 (k - 1) = nI s
        · exact absurd ⟨by omega, by simp [h3]⟩ h2
        · simpa using h3
    · have h9 : sCell t (kx k - 1) (ky k) (kz k) = false := by simpa using hc
      rw [h9, Bool.false_and]
  unfold pSf sSurf
  rw [hf, ho]
  simp
theorem fx_fct : sFacets t s true ≤ sFacets t s false := cnt_imp (fun k h => by simp only [pFacets, Bool.and_eq_true] at h; simp [pFacets, h.1]) _
theorem fx_fct2 : sFacets t s false ≤ nP t s := cnt_le _ _
theorem fx_fin : sFin t (nI s) 1 + sFin t (nI s) 0 ≤ nF t := by
  have h := cnt_add (P := pFin t (nI s) 1) (Q := pFin t (nI s) 0) (R := fun f => pFin t (nI s) 1 f || pFin t (nI s) 0 f) (nF t) (fun k _ => ⟨rfl, by
    unfold pFin
    by_cases e : sFt t k (nI s) 2 = 1
    · rw [e]; decide
    · have h9 : (sFt t k (nI s) 2 == 1) = false := by simpa using e
      rw [h9]; rfl⟩)
  unfold sFin
  rw [← h]; exact cnt_le _ _
theorem fx_fc (f : Nat) : sFc t f (nI s) true ≤ sFc t f (nI s) false := cnt_imp (fun k h => by
  simp only [pFc, Bool.and_eq_true] at h
  simp only [pFc, Bool.and_eq_true, Bool.not_false, Bool.true_or, and_true]
  exact h.1) 1000
theorem fx_fc1 (f : Nat) (op : Bool) : sFc t f (nI s) op ≤ 1000 := cnt_le _ _
/-- what flawIn tells of a flaw -/
theorem fx_ft0 (f : Nat) : sFt t f (nI s) 0 = nI (sFc t f (nI s) false) := rfl
theorem fx_ft1 (f : Nat) : sFt t f (nI s) 1 = nI (sFc t f (nI s) true) := rfl
theorem fx_ft2 (f : Nat) : sFt t f (nI s) 2 = if nI (sFc t f (nI s) false) = 0 then -1 else if 0 < nI (sFc t f (nI s) true) then 1 else 0 := by
  unfold sFt; rw [if_neg (by decide)]
theorem fx_pts (f : Nat) : sPts t (nI s) (f + 1) = sPts t (nI s) f + (if nI (sFc t f (nI s) false) = 0 then 0 else (if 0 < nI (sFc t f (nI s) true) then 6 else 2) * sFl t f 4) := by
  have e : sPts t (nI s) (f + 1) = sPts t (nI s) f + (if sFt t f (nI s) 2 = 1 then 6 * sFl t f 4 else if sFt t f (nI s) 2 = 0 then 2 * sFl t f 4 else 0) := rfl
  rw [e, fx_ft2]
  congr 1
  by_cases h1 : nI (sFc t f (nI s) false) = 0
  · rw [if_pos h1, if_pos h1, if_neg (by decide), if_neg (by decide)]
  · rw [if_neg h1, if_neg h1]
    by_cases h2 : 0 < nI (sFc t f (nI s) true)
    · rw [if_pos h2, if_pos h2, if_pos rfl]
    · rw [if_neg h2, if_neg h2, if_neg (by decide), if_pos rfl]
/-! the ways to be rid of a flaw -/
theorem rid_inv (f : Nat) : ∀ n, n ≤ 27 → n = 0 ∨ ∃ k, k < n ∧ k ≠ 13 ∧ sRidS t f s n = (nI k, sRidD t f s k, sRidL t f s k) := by
  intro n
  induction n with
  | zero => intro _; exact Or.inl rfl
  | succ n ih =>
    intro hn
    right
    have e : sRidS t f s (n + 1) = if n = 13 then sRidS t f s n else if sRidL t f s n < (sRidS t f s n).2.2 then (nI n, sRidD t f s n, sRidL t f s n) else sRidS t f s n := rfl
    rcases ih (by omega) with rfl | ⟨k, h1, h2, h3⟩
    · refine ⟨0, by omega, by omega, ?_⟩
      rw [e, if_neg (by omega), if_pos]
      show nI (sTurn t _ _ _ _ _) < 1001
      rw [show (1001 : Int32) = nI 1001 by decide]
      exact nI_lt (Nat.lt_of_le_of_lt (fx_t _) (by omega)) (by decide)
    · by_cases h13 : n = 13
      · exact ⟨k, by omega, h2, by rw [e, if_pos h13]; exact h3⟩
      · by_cases hl : sRidL t f s n < (sRidS t f s n).2.2
        · exact ⟨n, by omega, h13, by rw [e, if_neg h13, if_pos hl]⟩
        · exact ⟨k, by omega, h2, by rw [e, if_neg h13, if_neg hl]; exact h3⟩
def rTi (k : Nat) : Bool := k == 13 || (sTilt (rP k) (rQ k) (rR k) 0 && (nI k / 9 - 1 == rP k) && (nI k / 3 - nI k / 3 / 3 * 3 - 1 == rQ k) && (nI k - nI k / 3 * 3 - 1 == rR k))
theorem rTi_all : ∀ k, k < 27 → rTi k = true := by decide +kernel
theorem tilt_d {d' : Int32} (h : sTilt p q r d = true) (hd : -100 ≤ d'.toInt ∧ d'.toInt ≤ 100) : sTilt p q r d' = true := by
  unfold sTilt at h ⊢
  simp only [Bool.and_eq_true] at h ⊢
  refine ⟨h.1, ?_⟩
  rw [show (-100 : Int32) = iI (-100) by decide, show (100 : Int32) = iI 100 by decide]
  exact (sIn_int (by omega) (by omega)).mpr hd
theorem tilt_slp (h : sTilt p q r d = true) : Slp p q r := by
  obtain ⟨a, b, c, -⟩ := sTilt_int h
  exact ⟨a, b, c⟩
/-- the plane and the depth that rid tells -/
theorem fx_rid {f : Nat} (hw : ¬ nI (sFc t f (nI s) false) = 0) : ∃ k, k < 27 ∧ k ≠ 13 ∧ (sRidS t f s 27).1 = nI k ∧ sTilt (rP k) (rQ k) (rR k) (sRidS t f s 27).2.1 = true ∧ (sRidS t f s 27).2.2 = nI (sTurn t (nI s) (rP k) (rQ k) (rR k) (sRidS t f s 27).2.1) ∧ nI (sFc t f (nI s) false) ≤ (sRidS t f s 27).2.2 := by
  rcases rid_inv (t := t) (s := s) f 27 (by omega) with h | ⟨k, h1, h2, h3⟩
  · omega
  · rw [h3]
    have ht : sTilt (rP k) (rQ k) (rR k) 0 = true := by
      have := rTi_all k h1
      unfold rTi at this
      simp only [Bool.or_eq_true, beq_iff_eq, Bool.and_eq_true] at this
      rcases this with h | h
      · exact absurd h h2
      · exact h.1.1.1
    have hSl := tilt_slp ht
    have hpos : 0 < sFc t f (nI s) false := by
      rcases Nat.eq_zero_or_pos (sFc t f (nI s) false) with h | h
      · exact absurd (by rw [h]; exact nI_0) hw
      · exact h
    obtain ⟨c, hc, hc2⟩ := (cnt_pos 1000).mp hpos
    have hc3 : (t 1 c == nI s && sEC t (some f) c) = true := by simpa [sEC, pFc] using hc2
    rcases sEndS_spec t (nI s) (sEC t (some f)) (rP k) (rQ k) (rR k) false 1000 with ⟨-, -, h⟩ | ⟨-, ⟨a, ha1, ha2, ha3⟩, ha4⟩
    · exact absurd hc3 (h c hc)
    · have ra := zHgt_rng ha1 hSl.1 hSl.2.1 hSl.2.2
      have e1 : sRidD t f s k = iI (zHgt a (rP k).toInt (rQ k).toInt (rR k).toInt - 1) := by
        unfold sRidD sEnd
        rw [ha3, sHgt_z, show (1 : Int32) = iI 1 by decide, iI_sub]
      have e2 : (sRidD t f s k).toInt = zHgt a (rP k).toInt (rQ k).toInt (rR k).toInt - 1 := by rw [e1]; exact iI_toInt (by omega) (by omega)
      refine ⟨k, h1, h2, rfl, tilt_d ht (by rw [e2]; omega), rfl, ?_⟩
      show _ ≤ nI (sTurn t (nI s) (rP k) (rQ k) (rR k) (sRidD t f s k))
      refine nI_le (cnt_imp' 1000 (fun c2 hc4 h4 => ?_)) (Nat.lt_of_le_of_lt (fx_t _) (by omega))
      simp only [pFc, Bool.not_false, Bool.true_or, Bool.and_true, Bool.and_eq_true, beq_iff_eq] at h4
      have h5 := ha4 c2 hc4 (by simp [sEC, h4.1, h4.2])
      simp only [Bool.false_eq_true, if_false] at h5
      have rc := zHgt_rng hc4 hSl.1 hSl.2.1 hSl.2.2
      rw [ha3, sHgt_z, sHgt_z, iI_le (by omega) (by omega)] at h5
      have h6 : sRidD t f s k < sHgt c2 (rP k) (rQ k) (rR k) := by
        rw [e1, sHgt_z, iI_lt (by omega) (by omega)]
        omega
      simp only [pTurn, h4.1, beq_self_eq_true, h6, decide_true, Bool.and_self]
/-! sums over the rough in the law's order -/
theorem sumN_swap (g : Nat → Nat → Nat) (m : Nat) : ∀ n, sumN (fun a => sumN (fun b => g a b) m) n = sumN (fun b => sumN (fun a => g a b) n) m := by
  have add : ∀ (f h : Nat → Nat) (n : Nat), sumN (fun k => f k + h k) n = sumN f n + sumN h n := by
    intro f h n
    induction n with
    | zero => rfl
    | succ n ih => simp only [sumN, ih]; omega
  intro n
  induction n with
  | zero => exact (sumN_zero (g := fun b => sumN (fun a => g a b) 0) m (fun _ _ => rfl)).symm
  | succ n ih =>
    have e : (fun b => sumN (fun a => g a b) (n + 1)) = (fun b => sumN (fun a => g a b) n + g n b) := rfl
    rw [e, add, ← ih]
    rfl
def wSum (t : Mem) (j : Nat) (n : Nat) : Nat := sumN (fun x => sumN (fun y => cnt (fun z => t 1 (x + 10 * (y + 10 * z)) == nI j) (nL t)) (nR t)) n
theorem fx_wts (hM : MI t) (hW : MW t) {j : Nat} (hj : j < 8) : wSum t j (nC t) = sWt t (nI j) := by
  obtain ⟨⟨hC1, hC2, hC3⟩, ⟨hR1, hR2, hR3⟩, ⟨hL1, hL2, hL3⟩⟩ := MI_C hM
  have h1 : sWt t (nI j) = cnt (fun i => t 1 (CI t i) == nI j) (NN t) := (box_cnt hM hW (fun k => t 1 k == nI j) (fun k h => by simp only [h]; exact m1_nI (by omega))).symm
  have h2 : cnt (fun i => t 1 (CI t i) == nI j) (NN t) = sumN (fun z => sumN (fun y => cnt (fun x => t 1 (x + 10 * (y + 10 * z)) == nI j) (nC t)) (nR t)) (nL t) := by
    unfold NN
    rw [Nat.mul_assoc, cnt_blk, sumN_blk]
    refine sumN_congr _ (fun z hz => sumN_congr _ (fun y hy => cnt_congr _ (fun x hx => ?_)))
    unfold CI
    rw [bI_at hx hy]
  rw [h1, h2]
  unfold wSum
  have c : ∀ (P : Nat → Bool) (n : Nat), cnt P n = sumN (fun k => if P k = true then 1 else 0) n := cnt_sum
  simp only [c]
  rw [sumN_swap (fun x y => sumN (fun z => if (t 1 (x + 10 * (y + 10 * z)) == nI j) = true then 1 else 0) (nL t)) (nR t) (nC t)]
  have e1 : ∀ y, sumN (fun x => sumN (fun z => if (t 1 (x + 10 * (y + 10 * z)) == nI j) = true then 1 else 0) (nL t)) (nC t) = sumN (fun z => sumN (fun x => if (t 1 (x + 10 * (y + 10 * z)) == nI j) = true then 1 else 0) (nC t)) (nL t) := fun y => sumN_swap (fun x z => if (t 1 (x + 10 * (y + 10 * z)) == nI j) = true then 1 else 0) (nL t) (nC t)
  simp only [e1]
  exact sumN_swap (fun y z => sumN (fun x => if (t 1 (x + 10 * (y + 10 * z)) == nI j) = true then 1 else 0) (nC t)) (nL t) (nR t)
end FY
