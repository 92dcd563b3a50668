/-! the best depth -/
theorem nI_div {a b : Nat} (ha : a < 2 ^ 31) (hb : b < 2 ^ 31) : nI a / nI b = nI (a / b) := by
  rw [← Int32.toInt_inj, Int32.toInt_div, nI_toInt ha, nI_toInt hb, nI_toInt (Nat.lt_of_le_of_lt (Nat.div_le_self a b) ha)]
  rw [show (Int.tdiv (a : Int) (b : Int)) = ((a / b : Nat) : Int) from rfl]
  have h := Nat.lt_of_le_of_lt (Nat.div_le_self a b) ha
  generalize a / b = c at h ⊢
  exact Int.bmod_eq_of_le (by omega) (by omega)
theorem jmax_nI (P : Nat) (h : P ≤ 10000) : ∃ m, m ≤ 100 ∧ jmax 10 (100 - nI P) = nI m := by
  have e : (100 : Int32) - nI P = iI (100 - P) := by rw [nI_iI, show (100 : Int32) = iI 100 by decide, iI_sub]
  unfold jmax
  rw [e]
  by_cases hc : (10 : Int32) < iI (100 - P)
  · rw [if_pos hc]
    have h2 : (10 : Int) < 100 - P := by
      have h3 := (toInt_lt _ _).mp hc
      rw [iI_toInt (by omega) (by omega), show (10 : Int32).toInt = 10 by decide] at h3
      exact h3
    exact ⟨100 - P, by omega, by rw [nI_iI]; congr 1; omega⟩
  · rw [if_neg hc]; exact ⟨10, by omega, by decide⟩
theorem wBy_nn {W P F Q : Nat} (hW : W ≤ 1000) (hP : P ≤ 10000) (hF : F ≤ 1000) (hQ : Q ≤ 1000) : ∃ v, v < 2 ^ 31 ∧ wBy (nI W) (nI P) (nI F) (nI Q) = nI v := by
  obtain ⟨m, hm, em⟩ := jmax_nI P hP
  unfold wBy
  by_cases h0 : nI W = 0
  · rw [if_pos h0]; exact ⟨0, by decide, by decide⟩
  · rw [if_neg h0, em, show (10 : Int32) = nI 10 by decide, show (100 : Int32) = nI 100 by decide, show (25 : Int32) = nI 25 by decide, show (40 : Int32) = nI 40 by decide, nI_mul']
    have h1 : W * W ≤ 1000 * 1000 := Nat.mul_le_mul hW hW
    have h2 : W * W / 10 ≤ 100000 := by omega
    rw [nI_div (by omega) (by omega), nI_mul', nI_add, nI_mul']
    have h3 : (W * W / 10 + 10 * W) * m ≤ 110000 * 100 := Nat.mul_le_mul (by omega) hm
    rw [nI_div (by omega) (by omega), nI_mul', nI_mul', nI_add, nI_add]
    exact ⟨_, by omega, rfl⟩
theorem pts_nI {τ : Mem} (hM : MI τ) (hW : MW τ) (s : Int32) {σ : Mem} (h4 : ∀ f, sFl σ f 4 = sFl τ f 4) : ∀ k, k ≤ nF τ → ∃ P, P ≤ 54 * k ∧ sPts σ s k = nI P := by
  intro k
  induction k with
  | zero => intro _; exact ⟨0, by omega, nI_0.symm⟩
  | succ k ih =>
    intro hk
    obtain ⟨P, hP, e⟩ := ih (by omega)
    obtain ⟨-, -, -, -, a, ha1, ha2, ha⟩ := hW.2.1 k (by omega)
    have e2 : sPts σ s (k + 1) = sPts σ s k + (if sFt σ k s 2 = 1 then 6 * sFl σ k 4 else if sFt σ k s 2 = 0 then 2 * sFl σ k 4 else 0) := rfl
    rw [e2, e, h4 k, ha]
    split
    · exact ⟨P + 6 * a, by omega, by rw [show (6 : Int32) = nI 6 by decide, nI_mul', nI_add]⟩
    · split
      · exact ⟨P + 2 * a, by omega, by rw [show (2 : Int32) = nI 2 by decide, nI_mul', nI_add]⟩
      · exact ⟨P, by omega, Int32.add_zero _⟩
theorem sumN_le' (g : Nat → Nat) (B : Nat) : ∀ n, (∀ k, k < n → g k ≤ B) → sumN g n ≤ B * n := by
  intro n
  induction n with
  | zero => intro _; simp [sumN]
  | succ n ih => intro h; have := ih (fun k hk => h k (by omega)); have := h n (by omega); simp only [sumN, Nat.mul_succ]; omega
theorem worth_nn {τ σ : Mem} (hM : MI τ) (hW : MW τ) {s : Nat} (hnF : nF σ = nF τ) (h4 : ∀ f, sFl σ f 4 = sFl τ f 4) (hn : nP σ s ≤ 17) : ∃ v, v < 2 ^ 31 ∧ sWorth σ s = nI v := by
  obtain ⟨P, hP, e⟩ := pts_nI hM hW (nI s) h4 (nF τ) (Nat.le_refl _)
  have hF := (MI_F hM).2
  rw [sWorth_by, hnF, e]
  have h17 : sPairs σ s ≤ 17 * nP σ s := sumN_le' _ 17 _ (fun k hk => Nat.le_trans (cnt_le _ _) (by omega))
  have hf : sFacets σ s true ≤ nP σ s := cnt_le _ _
  exact wBy_nn (cnt_le _ _) (by omega) (by omega) (by omega)
theorem look_nn {τ : Mem} (hM : MI τ) (hW : MW τ) (h6 : M16 τ) {s : Nat} (hs : s < 8) (p q r d : Int32) : 0 ≤ sWorth (gMark τ s p q r d) s := by
  obtain ⟨v, hv, e⟩ := worth_nn (σ := gMark τ s p q r d) hM hW (s := s) mk_nF (fun f => by unfold sFl; exact mk_2 _) (by rw [nP_mark hM h6 hs]; have := h6 s hs; omega)
  rw [e, show (0 : Int32) = nI 0 by decide]
  exact nI_le (by omega) hv
def sB (τ : Mem) (s : Nat) (p q r : Int32) : Nat → Int32 × Int32
  | 0 => (0, 0)
  | k + 1 => if wI τ s p q r (iI ((k : Int) - 81)) = true ∧ ¬ sWorth (gMark τ s p q r (iI ((k : Int) - 81))) s < (sB τ s p q r k).2 then (iI ((k : Int) - 81), sWorth (gMark τ s p q r (iI ((k : Int) - 81))) s) else sB τ s p q r k
theorem cLe_box {τ : Mem} (hM : MI τ) (hW : MW τ) {s : Nat} (hs : s < 8) (p q r : Int32) (D : Int) : cLe τ s p q r D = cnt (fun c => τ 1 c == nI s && decide (zHgt c p.toInt q.toInt r.toInt ≤ D)) 1000 :=
  box_cnt hM hW (fun c => τ 1 c == nI s && decide (zHgt c p.toInt q.toInt r.toInt ≤ D)) (fun c h => by rw [h, m1_nI (by omega), Bool.false_and])
theorem ends_int {τ : Mem} {s : Nat} {p q r : Int32} (hSl : Slp p q r) (hw : ¬ nI (sWt τ (nI s)) = 0) :
    ∃ L H : Int, -81 ≤ L ∧ L ≤ H ∧ H ≤ 81 ∧ sLo τ s p q r = iI L ∧ sHi τ s p q r = iI H ∧
      (∃ c, c < 1000 ∧ τ 1 c = nI s ∧ zHgt c p.toInt q.toInt r.toInt = L) ∧ (∃ c, c < 1000 ∧ τ 1 c = nI s ∧ zHgt c p.toInt q.toInt r.toInt = H) ∧
      ∀ c, c < 1000 → τ 1 c = nI s → L ≤ zHgt c p.toInt q.toInt r.toInt ∧ zHgt c p.toInt q.toInt r.toInt ≤ H := by
  have hpos : 0 < sWt τ (nI s) := by
    rcases Nat.eq_zero_or_pos (sWt τ (nI s)) with h | h
    · exact absurd (by rw [h]; exact nI_0) hw
    · exact h
  obtain ⟨k1, hk1, hk2⟩ := (cnt_pos 1000).mp hpos
  have hk3 : (τ 1 k1 == nI s && sEC τ none k1) = true := by simpa [sEC, pWt] using hk2
  rcases sEndS_spec τ (nI s) (sEC τ none) p q r false 1000 with ⟨-, -, h⟩ | ⟨-, ⟨a, ha1, ha2, ha3⟩, ha4⟩
  · exact absurd hk3 (h k1 hk1)
  · rcases sEndS_spec τ (nI s) (sEC τ none) p q r true 1000 with ⟨-, -, h⟩ | ⟨-, ⟨b, hb1, hb2, hb3⟩, hb4⟩
    · exact absurd hk3 (h k1 hk1)
    · have ra := zHgt_rng ha1 hSl.1 hSl.2.1 hSl.2.2
      have rb := zHgt_rng hb1 hSl.1 hSl.2.1 hSl.2.2
      have oa : τ 1 a = nI s := by simpa [sEC] using ha2
      have ob : τ 1 b = nI s := by simpa [sEC] using hb2
      have all : ∀ c, c < 1000 → τ 1 c = nI s → zHgt a p.toInt q.toInt r.toInt ≤ zHgt c p.toInt q.toInt r.toInt ∧ zHgt c p.toInt q.toInt r.toInt ≤ zHgt b p.toInt q.toInt r.toInt := by
        intro c hc ho
        have rc := zHgt_rng hc hSl.1 hSl.2.1 hSl.2.2
        have h5 := ha4 c hc (by simp [sEC, ho])
        have h6 := hb4 c hc (by simp [sEC, ho])
        simp only [Bool.false_eq_true, if_false] at h5
        simp only [if_true] at h6
        rw [ha3, sHgt_z, sHgt_z, iI_le (by omega) (by omega)] at h5
        rw [hb3, sHgt_z, sHgt_z, iI_le (by omega) (by omega)] at h6
        exact ⟨h5, h6⟩
      refine ⟨_, _, ra.1, (all b hb1 ob).1, rb.2, ?_, ?_, ⟨a, ha1, oa, rfl⟩, ⟨b, hb1, ob, rfl⟩, all⟩
      · unfold sLo sEnd; rw [ha3, sHgt_z]
      · unfold sHi sEnd; rw [hb3, sHgt_z]
theorem wI_spec {τ : Mem} (hM : MI τ) (hW : MW τ) {s : Nat} (hs : s < 8) {p q r : Int32} {L H D : Int} (hD : -100 ≤ D ∧ D ≤ 100)
    (hL : ∃ c, c < 1000 ∧ τ 1 c = nI s ∧ zHgt c p.toInt q.toInt r.toInt = L) (hH : ∃ c, c < 1000 ∧ τ 1 c = nI s ∧ zHgt c p.toInt q.toInt r.toInt = H)
    (ha : ∀ c, c < 1000 → τ 1 c = nI s → L ≤ zHgt c p.toInt q.toInt r.toInt ∧ zHgt c p.toInt q.toInt r.toInt ≤ H) : wI τ s p q r (iI D) = true ↔ L ≤ D ∧ D ≤ H := by
  have e1 : (iI D).toInt = D := iI_toInt (by omega) (by omega)
  have e2 : (iI D - 1).toInt = D - 1 := by rw [show (1 : Int32) = iI 1 by decide, iI_sub]; exact iI_toInt (by omega) (by omega)
  unfold wI
  rw [e1, e2, Bool.and_eq_true, decide_eq_true_eq, decide_eq_true_eq, cLe_box hM hW hs, cLe_box hM hW hs, cnt_pos]
  have e3 : sWt τ (nI s) = cnt (fun c => τ 1 c == nI s && decide (zHgt c p.toInt q.toInt r.toInt ≤ D - 1)) 1000 + cnt (fun c => τ 1 c == nI s && decide (D ≤ zHgt c p.toInt q.toInt r.toInt)) 1000 := by
    refine cnt_add _ (fun c hc => ?_)
    cases τ 1 c == nI s
    · exact ⟨rfl, rfl⟩
    · simp only [Bool.true_and]
      by_cases h : zHgt c p.toInt q.toInt r.toInt ≤ D - 1
      · rw [decide_eq_true h, decide_eq_false (by omega)]; exact ⟨rfl, rfl⟩
      · rw [decide_eq_false h, decide_eq_true (by omega)]; exact ⟨rfl, rfl⟩
  have e4 : cnt (fun c => τ 1 c == nI s && decide (zHgt c p.toInt q.toInt r.toInt ≤ D - 1)) 1000 < sWt τ (nI s) ↔ ∃ c, c < 1000 ∧ (τ 1 c == nI s && decide (D ≤ zHgt c p.toInt q.toInt r.toInt)) = true := by
    rw [← cnt_pos]; omega
  rw [e4]
  constructor
  · rintro ⟨⟨c, hc, h1⟩, ⟨c2, hc2, h2⟩⟩
    simp only [Bool.and_eq_true, beq_iff_eq, decide_eq_true_eq] at h1 h2
    have g1 := ha c hc h1.1
    have g2 := ha c2 hc2 h2.1
    omega
  · rintro ⟨h1, h2⟩
    obtain ⟨c, hc, ho, hz⟩ := hL
    obtain ⟨c2, hc2, ho2, hz2⟩ := hH
    exact ⟨⟨c, hc, by simp only [ho, beq_self_eq_true, Bool.true_and, decide_eq_true_eq]; omega⟩, ⟨c2, hc2, by simp only [ho2, beq_self_eq_true, Bool.true_and, decide_eq_true_eq]; omega⟩⟩
theorem sB_dep {τ : Mem} (hM : MI τ) (hW : MW τ) (h6 : M16 τ) {s : Nat} (hs : s < 8) {p q r : Int32} (hSl : Slp p q r) (hw : ¬ nI (sWt τ (nI s)) = 0) : (sB τ s p q r 163).1 = sDep τ s p q r := by
  obtain ⟨L, H, h1, h2, h3, e1, e2, hL, hH, ha⟩ := ends_int hSl hw
  have wi : ∀ D, -100 ≤ D ∧ D ≤ 100 → (wI τ s p q r (iI D) = true ↔ L ≤ D ∧ D ≤ H) := fun D hD => wI_spec hM hW hs hD hL hH ha
  have p1 : ∀ k : Nat, (k : Int) ≤ L + 81 → sB τ s p q r k = (0, 0) := by
    intro k
    induction k with
    | zero => intro _; rfl
    | succ k ih =>
      intro hk
      have := ih (by omega)
      rw [sB, this, if_neg]
      rintro ⟨g, -⟩
      have := (wi _ (by omega)).mp g
      omega
  have lk : ∀ i : Nat, (i : Int) ≤ 200 → iI (L + i) = sLo τ s p q r + nI i := fun i _ => by rw [e1, nI_iI, iI_add]
  have p2 : ∀ i : Nat, (i : Int) ≤ H - L → sB τ s p q r ((L + 81).toNat + (i + 1)) = sDepS τ s p q r (sLo τ s p q r) (i + 1) := by
    intro i
    induction i with
    | zero =>
      intro hi
      have hd : (((L + 81).toNat : Nat) : Int) - 81 = L + (0 : Nat) := by omega
      show sB τ s p q r ((L + 81).toNat + 1) = _
      rw [sB, p1 _ (by omega), hd, sDepS]
      have hnn := look_nn hM hW h6 hs p q r (iI (L + (0 : Nat)))
      rw [if_pos ⟨(wi _ (by omega)).mpr (by omega), Int32.not_lt.mpr hnn⟩, if_neg, lk 0 (by omega)]
      · rfl
      · rw [← lk 0 (by omega)]
        show ¬ sWorth (gMark τ s p q r (iI (L + (0 : Nat)))) s < -1
        rw [Int32.not_lt]
        exact Int32.le_trans (by decide) hnn
    | succ i ih =>
      intro hi
      have hd : (((L + 81).toNat + (i + 1) : Nat) : Int) - 81 = L + ((i + 1 : Nat) : Int) := by omega
      show sB τ s p q r ((L + 81).toNat + (i + 1) + 1) = _
      have eD : sDepS τ s p q r (sLo τ s p q r) (i + 1 + 1) = if sLook τ s p q r (sLo τ s p q r + nI (i + 1)) 1 < (sDepS τ s p q r (sLo τ s p q r) (i + 1)).2 then sDepS τ s p q r (sLo τ s p q r) (i + 1) else (sLo τ s p q r + nI (i + 1), sLook τ s p q r (sLo τ s p q r + nI (i + 1)) 1) := rfl
      rw [sB, ih (by omega), hd, eD, ← lk (i + 1) (by omega)]
      have hwi := (wi (L + ((i + 1 : Nat) : Int)) (by omega)).mpr (by omega)
      show _ = if sWorth (gMark τ s p q r (iI (L + ((i + 1 : Nat) : Int)))) s < _ then _ else (_, sWorth (gMark τ s p q r (iI (L + ((i + 1 : Nat) : Int)))) s)
      by_cases hc : sWorth (gMark τ s p q r (iI (L + ((i + 1 : Nat) : Int)))) s < (sDepS τ s p q r (sLo τ s p q r) (i + 1)).2
      · rw [if_neg (fun g => g.2 hc), if_pos hc]
      · rw [if_pos ⟨hwi, hc⟩, if_neg hc]
  have p3 : ∀ j : Nat, (H + 82).toNat + j ≤ 163 → sB τ s p q r ((H + 82).toNat + j) = sB τ s p q r (H + 82).toNat := by
    intro j
    induction j with
    | zero => intro _; rfl
    | succ j ih =>
      intro hj
      show sB τ s p q r ((H + 82).toNat + j + 1) = _
      rw [sB, if_neg, ih (by omega)]
      rintro ⟨g, -⟩
      have := (wi _ (by omega)).mp g
      omega
  have e3 : 163 = (H + 82).toNat + (81 - H).toNat := by omega
  rw [e3, p3 _ (by omega), show (H + 82).toNat = (L + 81).toNat + ((H - L).toNat + 1) by omega, p2 _ (by omega)]
  unfold sDep
  rw [e1, e2, iI_toInt (by omega) (by omega), iI_toInt (by omega) (by omega), show (H - L + 1).toNat = (H - L).toNat + 1 by omega]
theorem dk_s (k : Nat) : iI ((k : Int) - 81) + 1 = iI (((k + 1 : Nat) : Int) - 81) := by
  rw [show (1 : Int32) = iI 1 by decide, iI_add]; congr 1; omega
theorem dk_gt {k : Nat} (h : k < 1000) : (81 : Int32) < iI ((k : Int) - 81) ↔ 162 < k := by
  rw [show (81 : Int32) = iI 81 by decide, iI_lt (by omega) (by omega)]; omega

set_option maxRecDepth 100000 in
set_option maxHeartbeats 4000000 in
/-- X4_bestDepth -/
theorem c_X4_bestDepth (l : Launch) (t : Mem) (s : Nat) (p q r : Int32) : gMI wX l yX4_bestDepth (.code yX4_bestDepth cX4_bestDepth 5 (some FieldType.int)) 5 0 0 (fun A => [.ref (A 190)]) (fun τ => s < nS t ∧ RS τ t ∧ Slp p q r ∧ Am t s p q r τ ∧ ¬ nI (sWt t (nI s)) = 0) (fun τ rr τ1 => rr = sDep t s p q r ∧ τ1 = τ) := by
  refine gMI_of (by decide) (fun A => Nat.le_of_ble_eq_true rfl) ?_
  intro X τ hC hP hE
  have hC : gOk wX l X cX4_bestDepth "GemCut$Trial" 5 0 0 := hC
  show G wX X 0 0 0 [some (.ref (gA X 190)), none, none, none, none] [] τ
  have hP9 := hP
  obtain ⟨hs, hRS, hSl, hAm, hD⟩ := hP
  have hM : MI t := hRS.1
  have hW : MW t := hRS.2.1
  have h6 : M16 t := hRS.2.2.1
  have hs8 : s < 8 := Nat.lt_of_lt_of_le hs (MI_S hM).2.2
  have hn16 : nP t s ≤ 16 := h6 s hs8
  have hRb := hRS.2.2.2.1
  have hps : (τ 190 1).toNatClampNeg = s := by rw [hAm.1.1.1]; exact nI_clamp (by omega)
  have hpc : τ (iStone s) 2 = nI (nP t s) := by rw [hRb.2.2.2.1 s hs]; exact (MI_P hM hs8).1
  have lp : ∀ (m k : Nat), k + m = 163 → G wX X 0 0 7 [some (.ref (gA X 190)), some (.int (sB t s p q r k).1), some (.int (sB t s p q r k).2), some (.int (iI ((k : Int) - 81))), none] [] (τ) := by
    intro m
    induction m with
    | zero =>
      intro k hk 
      have hk : k = 163 := by omega
      subst hk
      refine g_ild3 hC dX4_bestDepth_7 ?_
      refine g_bipush 81 hC dX4_bestDepth_8 (by decide) ?_
      refine g_icmp_gt 45 hC dX4_bestDepth_10 (by decide) (fun c10 => ?_) (fun c10 => absurd ((dk_gt (by omega)).mpr (by omega)) c10)
      refine g_ild1 hC dX4_bestDepth_45 ?_
      exact hE _ _ _ _ _ _ dX4_bestDepth_46 (Nat.le_refl _) (Nat.le_refl _) ⟨by exact sB_dep hM hW h6 hs8 hSl hD, rfl⟩
    | succ m ih =>
      intro k hk 
      refine g_ild3 hC dX4_bestDepth_7 ?_
      refine g_bipush 81 hC dX4_bestDepth_8 (by decide) ?_
      refine g_icmp_gt 45 hC dX4_bestDepth_10 (by decide) (fun c10 => absurd c10 (fun q9 => absurd ((dk_gt (by omega)).mp q9) (by omega))) (fun c10 => ?_)
      refine g_ald0 hC dX4_bestDepth_13 ?_
      refine g_ild3 hC dX4_bestDepth_14 ?_
      refine k_X4_isWithin (t := t) (s := s) (p := p) (q := q) (r := r) (d := iI ((k : Int) - 81)) hC tw_3_128 dX4_bestDepth_15 (by decide) ⟨by omega, by omega⟩ (Nat.le_of_ble_eq_true rfl) ⟨hs, hRS, hSl, hAm.1⟩ ?_
      refine g_if_eq 39 hC dX4_bestDepth_18 (by decide) (fun c18 => ?_) (fun c18 => ?_)
      · refine g_inc3 1 hC dX4_bestDepth_39 (by decide) rfl ?_
        refine g_goto 7 hC dX4_bestDepth_42 (by decide) ?_
        first
        | (have e9 : sB t s p q r (k + 1) = (iI ((k : Int) - 81), sWorth (gMark t s p q r (iI ((k : Int) - 81))) s) := by rw [sB, if_pos ⟨b2i_ne0.mp c18, c31⟩]
           have h9 := ih (k + 1) (by omega)
           rw [e9] at h9
           refine g_keep [true, true, true, true, false] ?_
           rw [dk_s]
           exact h9)
        | (have e9 : sB t s p q r (k + 1) = sB t s p q r k := by rw [sB, if_neg (fun g => g.2 c31)]
           have h9 := ih (k + 1) (by omega)
           rw [e9] at h9
           refine g_keep [true, true, true, true, false] ?_
           rw [dk_s]
           exact h9)
        | (have e9 : sB t s p q r (k + 1) = sB t s p q r k := by rw [sB, if_neg (fun g => absurd g.1 (by rw [b2i_eq0.mp c18]; decide))]
           have h9 := ih (k + 1) (by omega)
           rw [e9] at h9
           refine g_keep [true, true, true, true, false] ?_
           rw [dk_s]
           exact h9)
      · refine g_ald0 hC dX4_bestDepth_21 ?_
        refine g_ild3 hC dX4_bestDepth_22 ?_
        refine k_X4_worthAt (t := t) (s := s) (p := p) (q := q) (r := r) (d := iI ((k : Int) - 81)) hC tw_3_132 dX4_bestDepth_23 (by decide) ⟨by omega, by omega⟩ (Nat.le_of_ble_eq_true rfl) ⟨hs, hRS, hSl, hAm, by unfold Dp; rw [iI_toInt (by omega) (by omega)]; omega⟩ ?_
        refine g_ist4 hC dX4_bestDepth_26 rfl ?_
        refine g_ild4 hC dX4_bestDepth_28 ?_
        refine g_ild2 hC dX4_bestDepth_30 ?_
        refine g_icmp_lt 39 hC dX4_bestDepth_31 (by decide) (fun c31 => ?_) (fun c31 => ?_)
        · refine g_inc3 1 hC dX4_bestDepth_39 (by decide) rfl ?_
          refine g_goto 7 hC dX4_bestDepth_42 (by decide) ?_
          first
          | (have e9 : sB t s p q r (k + 1) = (iI ((k : Int) - 81), sWorth (gMark t s p q r (iI ((k : Int) - 81))) s) := by rw [sB, if_pos ⟨b2i_ne0.mp c18, c31⟩]
             have h9 := ih (k + 1) (by omega)
             rw [e9] at h9
             refine g_keep [true, true, true, true, false] ?_
             rw [dk_s]
             exact h9)
          | (have e9 : sB t s p q r (k + 1) = sB t s p q r k := by rw [sB, if_neg (fun g => g.2 c31)]
             have h9 := ih (k + 1) (by omega)
             rw [e9] at h9
             refine g_keep [true, true, true, true, false] ?_
             rw [dk_s]
             exact h9)
          | (have e9 : sB t s p q r (k + 1) = sB t s p q r k := by rw [sB, if_neg (fun g => absurd g.1 (by rw [b2i_eq0.mp c18]; decide))]
             have h9 := ih (k + 1) (by omega)
             rw [e9] at h9
             refine g_keep [true, true, true, true, false] ?_
             rw [dk_s]
             exact h9)
        · refine g_ild3 hC dX4_bestDepth_34 ?_
          refine g_ist1 hC dX4_bestDepth_35 rfl ?_
          refine g_ild4 hC dX4_bestDepth_36 ?_
          refine g_ist2 hC dX4_bestDepth_38 rfl ?_
          refine g_inc3 1 hC dX4_bestDepth_39 (by decide) rfl ?_
          refine g_goto 7 hC dX4_bestDepth_42 (by decide) ?_
          first
          | (have e9 : sB t s p q r (k + 1) = (iI ((k : Int) - 81), sWorth (gMark t s p q r (iI ((k : Int) - 81))) s) := by rw [sB, if_pos ⟨b2i_ne0.mp c18, c31⟩]
             have h9 := ih (k + 1) (by omega)
             rw [e9] at h9
             refine g_keep [true, true, true, true, false] ?_
             rw [dk_s]
             exact h9)
          | (have e9 : sB t s p q r (k + 1) = sB t s p q r k := by rw [sB, if_neg (fun g => g.2 c31)]
             have h9 := ih (k + 1) (by omega)
             rw [e9] at h9
             refine g_keep [true, true, true, true, false] ?_
             rw [dk_s]
             exact h9)
          | (have e9 : sB t s p q r (k + 1) = sB t s p q r k := by rw [sB, if_neg (fun g => absurd g.1 (by rw [b2i_eq0.mp c18]; decide))]
             have h9 := ih (k + 1) (by omega)
             rw [e9] at h9
             refine g_keep [true, true, true, true, false] ?_
             rw [dk_s]
             exact h9)
  refine g_iconst 0 hC dX4_bestDepth_0 (by decide) ?_
  refine g_ist1 hC dX4_bestDepth_1 rfl ?_
  refine g_iconst 0 hC dX4_bestDepth_2 (by decide) ?_
  refine g_ist2 hC dX4_bestDepth_3 rfl ?_
  refine g_bipush (-81) hC dX4_bestDepth_4 (by decide) ?_
  refine g_ist3 hC dX4_bestDepth_6 rfl ?_
  exact lp 163 0 (by omega)
theorem k_X4_bestDepth {l : Launch} {X : gC} {cc : ByteArray} {own : String} {dd ca sa kc nc pc : Nat} {ls : List (Option Value)} {st : List Value} {σ : Mem} {idx : Nat} {t : Mem} {s : Nat} {p q r : Int32} (hC : gOk wX l X cc own dd ca sa) (hlk : Cond.methodLink own idx yX4_bestDepth ∈ TB) (hd : decode cc pc = .ok (.invokevirtual idx, 3)) (hdd : 5 + 1 ≤ dd) (hfr : kc + 0 ≤ ca ∧ nc + 0 ≤ sa) (hrest : (st.map fun v => v.category).sum ≤ 8)  (hP : s < nS t ∧ RS σ t ∧ Slp p q r ∧ Am t s p q r σ ∧ ¬ nI (sWt t (nI s)) = 0) (kk : G wX X kc nc (pc + 3) ls (.int (sDep t s p q r) :: st) (σ)) : G wX X kc nc pc ls (.ref (gA X 190) :: st) σ := by
  exact g_cVI 0 hC (c_X4_bestDepth l t s p q r) hlk ⟨tw_3_125, tw_3_126, tw_1_6, tw_3_127⟩ (by decide +kernel) ⟨hdd, by decide⟩ hfr rfl rfl rfl (rv_Trial _ _) hrest rfl hd hP (fun rr σ1 hq => by obtain ⟨rfl, rfl⟩ := hq; exact kk)
