/-! the reference's steps keep what it can be -/
def sqc (a b c : Nat) : Bool := (a == 3 && b == 3 && c == 3) || (fun (v : Int32) => decide (0 < v) && decide (v < 28)) (0 + (nI a - 3) * (nI a - 3) + (nI b - 3) * (nI b - 3) + (nI c - 3) * (nI c - 3))
theorem sqc_all : ∀ a, a < 7 → ∀ b, b < 7 → ∀ c, c < 7 → sqc a b c = true := by decide +kernel
theorem sq_pos {p q r d : Int32} (h : sTilt p q r d = true) : ∃ n, 1 ≤ n ∧ n < 28 ∧ 0 + p * p + q * q + r * r = nI n := by
  obtain ⟨hp, hq, hr, -, hz⟩ := sTilt_int h
  obtain ⟨a, ha, rfl, -⟩ := slp_nat hp
  obtain ⟨b, hb, rfl, -⟩ := slp_nat hq
  obtain ⟨c, hc, rfl, -⟩ := slp_nat hr
  have hh := sqc_all a ha b hb c hc
  unfold sqc at hh
  simp only [Bool.or_eq_true, Bool.and_eq_true, beq_iff_eq, decide_eq_true_eq] at hh
  rcases hh with ⟨⟨rfl, rfl⟩, rfl⟩ | ⟨h1, h2⟩
  · exact absurd ⟨by decide, by decide, by decide⟩ hz
  · have h3 := (toInt_lt _ _).mp h1
    have h4 := (toInt_lt _ _).mp h2
    rw [show (0 : Int32).toInt = 0 by decide] at h3
    rw [show (28 : Int32).toInt = 28 by decide] at h4
    generalize 0 + (nI a - 3) * (nI a - 3) + (nI b - 3) * (nI b - 3) + (nI c - 3) * (nI c - 3) = v at h3 h4 ⊢
    exact ⟨v.toInt.toNat, by omega, by omega, by conv => lhs; rw [iI_of v]
                                                 exact iI_nat (by omega)⟩
theorem MZ_of {t : Mem} (hM : MI t) (hW : MW t) : MZ t := fun s a b hs ha hb => by
  obtain ⟨n, h1, h2, e1⟩ := sq_pos (hW.2.2 s a hs ha).1
  obtain ⟨m, h3, h4, e2⟩ := sq_pos (hW.2.2 s b hs hb).1
  have f1 : sProd t s a a = nI n := e1
  have f2 : sProd t s b b = nI m := e2
  rw [f1, f2, nI_mul']
  have h5 : n * m ≤ 27 * 27 := Nat.mul_le_mul (by omega) (by omega)
  have h6 : 1 ≤ n * m := Nat.mul_le_mul h1 h3
  exact fun e => absurd (nI_inj (by omega) (by decide) (e.trans nI_0.symm)) (by omega)
/-- all that the reference's calls ask of its memory -/
def RM (t : Mem) : Prop := MI t ∧ MW t ∧ M16 t
theorem beg_cell {t : Mem} {co ro la : Nat} (hc : 1 ≤ co ∧ co ≤ 10) (hr : 1 ≤ ro ∧ ro ≤ 10) (hl : 1 ≤ la ∧ la ≤ 10) {k : Nat} (hk : k < 1000) : gBegin t (nI co) (nI ro) (nI la) 1 k = if k % 10 < co ∧ k / 10 % 10 < ro ∧ k / 100 < la then 0 else -1 := by
  have e : gBegin t (nI co) (nI ro) (nI la) 1 k = gCells (upd2 (upd2 (upd2 t 0 1 (nI co)) 0 2 (nI ro)) 0 3 (nI la)) 1000 1 k := by
    unfold gBegin
    simp [upd2]
  rw [e]
  unfold gCells
  rw [if_pos ⟨rfl, hk⟩]
  have hin : ∀ (v n : Nat), v < 10 → 1 ≤ n → n ≤ 10 → (sIn (nI v) 0 (nI n - 1) = true ↔ v < n) := fun v n hv h1 h2 => by
    rw [sIn_nI h1 (by omega)]
    constructor
    · rintro ⟨j, hj, hh⟩
      have := nI_inj (by omega) (by omega) hh
      omega
    · intro h; exact ⟨v, h, rfl⟩
  have h3 : sCell (upd2 (upd2 (upd2 t 0 1 (nI co)) 0 2 (nI ro)) 0 3 (nI la)) (kx k) (ky k) (kz k) = true ↔ (k % 10 < co ∧ k / 10 % 10 < ro ∧ k / 100 < la) := by
    have e1 : upd2 (upd2 (upd2 t 0 1 (nI co)) 0 2 (nI ro)) 0 3 (nI la) 0 1 = nI co := by simp [upd2]
    have e2 : upd2 (upd2 (upd2 t 0 1 (nI co)) 0 2 (nI ro)) 0 3 (nI la) 0 2 = nI ro := by simp [upd2]
    have e3 : upd2 (upd2 (upd2 t 0 1 (nI co)) 0 2 (nI ro)) 0 3 (nI la) 0 3 = nI la := by simp [upd2]
    unfold sCell kx ky kz
    rw [e1, e2, e3, Bool.and_eq_true, Bool.and_eq_true, hin _ _ (by omega) hc.1 hc.2, hin _ _ (by omega) hr.1 hr.2, hin _ _ (by omega) hl.1 hl.2, and_assoc]
  by_cases hb : k % 10 < co ∧ k / 10 % 10 < ro ∧ k / 100 < la
  · rw [if_pos hb, if_pos (h3.mpr hb)]
  · rw [if_neg hb, if_neg (fun q => hb (h3.mp q))]
theorem beg_RM {t : Mem} (hM : MI t) (h6 : M16 t) {co ro la : Nat} (hc : 1 ≤ co ∧ co ≤ 10) (hr : 1 ≤ ro ∧ ro ≤ 10) (hl : 1 ≤ la ∧ la ≤ 10) : RM (gBegin t (nI co) (nI ro) (nI la)) ∧ Fsh (gBegin t (nI co) (nI ro) (nI la)) co ro la := by
  have v1 : gBegin t (nI co) (nI ro) (nI la) 0 1 = nI co := by simp [gBegin, upd2, gCells]
  have v2 : gBegin t (nI co) (nI ro) (nI la) 0 2 = nI ro := by simp [gBegin, upd2, gCells]
  have v3 : gBegin t (nI co) (nI ro) (nI la) 0 3 = nI la := by simp [gBegin, upd2, gCells]
  have v5 : gBegin t (nI co) (nI ro) (nI la) 0 5 = 0 := by simp [gBegin, upd2]
  have v7 : gBegin t (nI co) (nI ro) (nI la) 0 7 = 1 := by simp [gBegin, upd2]
  have v10 : gBegin t (nI co) (nI ro) (nI la) 0 10 = 400 := by simp [gBegin, upd2]
  have v11 : gBegin t (nI co) (nI ro) (nI la) 0 11 = 0 := by simp [gBegin, upd2]
  have v40 : gBegin t (nI co) (nI ro) (nI la) 4 0 = 0 := by simp [gBegin, upd2]
  have v4 : ∀ s, s ≠ 0 → gBegin t (nI co) (nI ro) (nI la) 4 s = t 4 s := fun s hs => by simp [gBegin, upd2, gCells, hs]
  have eC : nC (gBegin t (nI co) (nI ro) (nI la)) = co := by unfold nC; rw [v1]; exact nI_clamp (by omega)
  have eR : nR (gBegin t (nI co) (nI ro) (nI la)) = ro := by unfold nR; rw [v2]; exact nI_clamp (by omega)
  have eL : nL (gBegin t (nI co) (nI ro) (nI la)) = la := by unfold nL; rw [v3]; exact nI_clamp (by omega)
  have eF : nF (gBegin t (nI co) (nI ro) (nI la)) = 0 := by unfold nF; rw [v5]; decide
  have eS : nS (gBegin t (nI co) (nI ro) (nI la)) = 1 := by unfold nS; rw [v7]; decide
  have eP : nP (gBegin t (nI co) (nI ro) (nI la)) 0 = 0 := by unfold nP; rw [v40]; decide
  refine ⟨⟨⟨⟨co, hc.1, hc.2, v1⟩, ⟨ro, hr.1, hr.2, v2⟩, ⟨la, hl.1, hl.2, v3⟩, ⟨0, by omega, v5⟩, ⟨1, by omega, by omega, v7⟩, fun s hs => ?_⟩, ⟨fun x y z hx hy hz => ?_, fun f hf => ?_, fun s k hs hk => ?_⟩, fun s hs => ?_⟩, v1, v2, v3, v5, v7, v40, v10, v11, fun i hi => ?_⟩
  · by_cases e : s = 0
    · subst e; exact ⟨0, by omega, v40⟩
    · rw [v4 s e]; exact hM.2.2.2.2.2 s hs
  · have e := beg_cell (t := t) hc hr hl (k := x + 10 * (y + 10 * z)) (by omega)
    rw [show (x + 10 * (y + 10 * z)) % 10 = x by omega, show (x + 10 * (y + 10 * z)) / 10 % 10 = y by omega, show (x + 10 * (y + 10 * z)) / 100 = z by omega] at e
    rw [eC, eR, eL, eS, e]
    exact ⟨fun h => Or.inr ⟨0, by omega, by rw [if_pos h]; decide⟩, fun h => if_neg h⟩
  · rw [eF] at hf; omega
  · rw [eS] at hs
    obtain rfl : s = 0 := by omega
    rw [eP] at hk; omega
  · by_cases e : s = 0
    · subst e; rw [eP]; omega
    · have := h6 s hs
      unfold nP at this ⊢
      rw [v4 s e]; exact this
  · have hC : 0 < co := by omega
    have hR : 0 < ro := by omega
    have b1 : i % co < co := Nat.mod_lt _ hC
    have b2 : i / co % ro < ro := Nat.mod_lt _ hR
    have b3 : i / co / ro < la := by rw [Nat.div_div_eq_div_mul]; exact Nat.div_lt_of_lt_mul hi
    unfold bI
    have e := beg_cell (t := t) hc hr hl (k := i % co + 10 * (i / co % ro + 10 * (i / co / ro))) (by omega)
    rw [e, if_pos]
    omega

