/-! a trial's floors -/
def hLow (σ : Mem) (s m : Nat) (h x y z : Int32) : Mem := fun id j => if id = 194 ∧ j < m then (if (decide (h < σ 194 j) && xTch σ (iPl s j) x y z) = true then h else σ 194 j) else σ id j
theorem low_0 (σ : Mem) (s : Nat) (h x y z : Int32) : hLow σ s 0 h x y z = σ := by funext id j; simp [hLow]
theorem low_id {σ : Mem} {s m : Nat} {h x y z : Int32} {id : Nat} (hi : id ≠ 194) : hLow σ s m h x y z id = σ id := by funext j; simp [hLow, hi]
theorem low_at {σ : Mem} {s m : Nat} {h x y z : Int32} : hLow σ s m h x y z 194 m = σ 194 m := by simp [hLow]
theorem low_t {σ : Mem} {s m : Nat} {h x y z : Int32} (h1 : h < σ 194 m) (h2 : xTch σ (iPl s m) x y z = true) : upd2 (hLow σ s m h x y z) 194 m h = hLow σ s (m + 1) h x y z := by
  funext id j
  unfold upd2 hLow
  by_cases hi : id = 194
  · subst hi
    by_cases hj : j = m
    · subst hj; simp [h1, h2]
    · by_cases hlt : j < m
      · simp [hlt, hj, show j < m + 1 by omega]
      · simp [hlt, hj, show ¬ j < m + 1 by omega]
  · simp [hi]
theorem low_f {σ : Mem} {s m : Nat} {h x y z : Int32} (h1 : (decide (h < σ 194 m) && xTch σ (iPl s m) x y z) = false) : hLow σ s m h x y z = hLow σ s (m + 1) h x y z := by
  funext id j
  unfold hLow
  by_cases hi : id = 194
  · subst hi
    by_cases hj : j = m
    · subst hj; simp [h1]
    · by_cases hlt : j < m
      · simp [hlt, show j < m + 1 by omega]
      · simp [hlt, show ¬ j < m + 1 by omega]
  · simp [hi]
def Flr (τ : Mem) (s : Nat) (p q r : Int32) (n : Nat) (σ : Mem) : Prop := ∀ k, k < nP τ s → ∃ w : Int, -81 ≤ w ∧ w ≤ 1000 ∧ σ 194 k = iI w ∧ ∀ d : Int, d < 1000 → (w ≤ d ↔ ∃ i, i < n ∧ pTouch τ s k (CI τ i) = true ∧ zh τ p q r i ≤ d)
def AI (τ u : Mem) (s : Nat) (p q r : Int32) (n : Nat) (σ : Mem) : Prop := F9 u σ ∧ Lv τ s p q r σ ∧ Flr τ s p q r n σ
/-- aimed -/
def Am (τ : Mem) (s : Nat) (p q r : Int32) (σ : Mem) : Prop := Lv τ s p q r σ ∧ Flr τ s p q r (NN τ) σ
theorem Lv_194 {τ σ σ' : Mem} {s : Nat} {p q r : Int32} (h : Lv τ s p q r σ) (he : ∀ id, id ≠ 194 → σ' id = σ id) : Lv τ s p q r σ' := by
  obtain ⟨⟨h1, h2, h3, h4, h5⟩, h6, h7⟩ := h
  exact ⟨⟨by rw [he 190 (by decide)]; exact h1, by rw [he 191 (by decide)]; exact h2, by rw [he 191 (by decide)]; exact h3, by rw [he 191 (by decide)]; exact h4, by rw [he 191 (by decide)]; exact h5⟩, fun i hi => by rw [he 192 (by decide)]; exact h6 i hi, fun i hi => by rw [he 193 (by decide)]; exact h7 i hi⟩
def Z4 (τ u : Mem) (s : Nat) (p q r : Int32) (k : Nat) (σ : Mem) : Prop := F9 u σ ∧ Lv τ s p q r σ ∧ ∀ j, j < k → σ 194 j = iI 1000
theorem Z4_s {τ u σ : Mem} {s k : Nat} {p q r : Int32} (h : Z4 τ u s p q r k σ) : Z4 τ u s p q r (k + 1) (upd2 σ 194 k 1000) :=
  ⟨F9_up h.1 (by decide) _, Lv_194 h.2.1 (fun id hi => upd2_ni hi), fun j hj => by
    by_cases e : j = k
    · subst e; rw [upd2_at]; decide
    · rw [upd2_nj e]; exact h.2.2 j (by omega)⟩
theorem AI_0 {τ u σ : Mem} {s : Nat} {p q r : Int32} (hn : nP τ s ≤ 16) (h : Z4 τ u s p q r 16 σ) : AI τ u s p q r 0 σ :=
  ⟨h.1, h.2.1, fun k hk => ⟨1000, by decide, by decide, h.2.2 k (by omega), fun d hd => ⟨fun q => absurd q (by omega), fun ⟨i, hi, _⟩ => absurd hi (by omega)⟩⟩⟩
theorem AI_no {τ u σ : Mem} {s n : Nat} {p q r : Int32} (h : AI τ u s p q r n σ) (ho : own τ s n = false) : AI τ u s p q r (n + 1) σ := by
  refine ⟨h.1, h.2.1, fun k hk => ?_⟩
  obtain ⟨w, w1, w2, w3, w4⟩ := h.2.2 k hk
  refine ⟨w, w1, w2, w3, fun d hd => (w4 d hd).trans ⟨fun ⟨i, hi, ht⟩ => ⟨i, by omega, ht⟩, fun ⟨i, hi, ht⟩ => ⟨i, ?_, ht⟩⟩⟩
  by_cases e : i = n
  · subst e
    unfold own at ho
    unfold pTouch at ht
    rw [ho, Bool.false_and] at ht
    exact absurd ht.1 (by decide)
  · omega
theorem AI_yes {τ u σ : Mem} {s n : Nat} {p q r x y z : Int32} (hM : MI τ) (hSl : Slp p q r) (hn : n < NN τ) (h : AI τ u s p q r n σ) (ht : ∀ k, k < nP τ s → xTch σ (iPl s k) x y z = pTouch τ s k (CI τ n)) : AI τ u s p q r (n + 1) (hLow σ s (nP τ s) (iI (zh τ p q r n)) x y z) := by
  have hz := zh_rng hM hSl hn
  refine ⟨fun id j hi => by rw [low_id (by omega)]; exact h.1 id j hi, Lv_194 h.2.1 (fun id hi => low_id hi), fun k hk => ?_⟩
  obtain ⟨w, w1, w2, w3, w4⟩ := h.2.2 k hk
  have e : hLow σ s (nP τ s) (iI (zh τ p q r n)) x y z 194 k = if (decide (zh τ p q r n < w) && pTouch τ s k (CI τ n)) = true then iI (zh τ p q r n) else iI w := by
    unfold hLow
    rw [if_pos ⟨rfl, hk⟩, w3, ht k hk]
    simp only [iI_lt (show -2147483648 ≤ zh τ p q r n ∧ zh τ p q r n < 2147483648 by omega) (show -2147483648 ≤ w ∧ w < 2147483648 by omega)]
  rw [e]
  by_cases hc : (decide (zh τ p q r n < w) && pTouch τ s k (CI τ n)) = true
  · rw [if_pos hc]
    simp only [Bool.and_eq_true, decide_eq_true_eq] at hc
    refine ⟨zh τ p q r n, hz.1, by omega, rfl, fun d hd => ⟨fun q => ⟨n, by omega, hc.2, q⟩, fun ⟨i, hi, h1, h2⟩ => ?_⟩⟩
    by_cases e2 : i = n
    · subst e2; exact h2
    · have := (w4 d hd).mpr ⟨i, by omega, h1, h2⟩
      omega
  · rw [if_neg hc]
    simp only [Bool.and_eq_true, decide_eq_true_eq] at hc
    refine ⟨w, w1, w2, rfl, fun d hd => (w4 d hd).trans ⟨fun ⟨i, hi, h1⟩ => ⟨i, by omega, h1⟩, fun ⟨i, hi, h1, h2⟩ => ?_⟩⟩
    by_cases e2 : i = n
    · subst e2
      have : w ≤ d := by
        rcases Int.lt_or_le (zh τ p q r i) w with g | g
        · exact absurd ⟨g, h1⟩ hc
        · omega
      exact (w4 d hd).mp this
    · exact ⟨i, by omega, h1, h2⟩
theorem tch_at {σ τ : Mem} (hM : MI τ) (h : Rb σ τ) {n : Nat} (hn : n < NN τ) {s k x y z : Nat} (hs : s < nS τ) (hk : k < nP τ s) (d1 : n % nC τ = x) (d2 : n / nC τ % nR τ = y) (d3 : n / nC τ / nR τ = z) (ho : τ 1 (CI τ n) = nI s) : xTch σ (iPl s k) (nI x) (nI y) (nI z) = pTouch τ s k (CI τ n) := by
  have e := tch_touch hM h hn hs hk
  rw [d1, d2, d3] at e
  unfold pTouch
  rw [e, ho]
  simp

set_option maxRecDepth 100000 in
set_option maxHeartbeats 4000000 in
/-- X4_lowerFloors -/
theorem c_X4_lowerFloors (l : Launch) (s m : Nat) (h x y z : Int32) : gMV wX l yX4_lowerFloors (.code yX4_lowerFloors cX4_lowerFloors 6 none) 2 0 0 (fun A => [.ref (A 190), .int h, .int x, .int y, .int z]) (fun τ => s < 8 ∧ τ 190 1 = nI s ∧ m ≤ 16 ∧ τ (iStone s) 2 = nI m) (fun τ τ1 => τ1 = hLow τ s m h x y z) := by
  refine gMV_of (by decide) (fun A => Nat.le_of_ble_eq_true rfl) ?_
  intro X τ hC hP hE
  have hC : gOk wX l X cX4_lowerFloors "GemCut$Trial" 2 0 0 := hC
  show G wX X 0 0 0 [some (.ref (gA X 190)), some (.int h), some (.int x), some (.int y), some (.int z), none] [] τ
  obtain ⟨hs, hp1, hm1, hm2⟩ := hP
  have lp : ∀ (m9 k : Nat), k + m9 = m → G wX X 0 0 3 [some (.ref (gA X 190)), some (.int h), some (.int x), some (.int y), some (.int z), some (.int (nI k))] [] (hLow τ s k h x y z) := by
    intro m9
    induction m9 with
    | zero =>
      intro k hk 
      have hk : k = m := by omega
      have hps : (hLow τ s k h x y z 190 1).toNatClampNeg = s := by rw [low_id (by decide), hp1]; exact nI_clamp (by omega)
      have hpc : hLow τ s k h x y z (iStone s) 2 = nI m := by rw [low_id (by unfold iStone; omega)]; exact hm2
      have htc : xTch (hLow τ s k h x y z) (iPl s k) x y z = xTch τ (iPl s k) x y z := by unfold xTch xHgt; rw [low_id (by unfold iPl; omega)]
      rw [hk] at hpc hps ⊢
      refine g_ild5 hC dX4_lowerFloors_3 ?_
      refine g_ald0 hC dX4_lowerFloors_5 ?_
      refine xg_Trial_piece hC tw_1_173 dX4_lowerFloors_6 ?_
      rw [hps]
      refine xg_Stone_planeCount hC (by first | assumption | omega | exact xk_pl _ (by assumption) _ (by omega) | decide) tw_1_146 dX4_lowerFloors_9 ?_
      refine g_icmp_ge 60 hC dX4_lowerFloors_12 (by decide) (fun c12 => ?_) (fun c12 => absurd (by rw [hpc]; exact nI_le (by omega) (by omega)) c12)
      exact hE _ _ _ _ _ dX4_lowerFloors_60 (Nat.le_refl _) (Nat.le_refl _) rfl
    | succ m9 ih =>
      intro k hk
      have hps : (hLow τ s k h x y z 190 1).toNatClampNeg = s := by rw [low_id (by decide), hp1]; exact nI_clamp (by omega)
      have hpc : hLow τ s k h x y z (iStone s) 2 = nI m := by rw [low_id (by unfold iStone; omega)]; exact hm2
      have htc : xTch (hLow τ s k h x y z) (iPl s k) x y z = xTch τ (iPl s k) x y z := by unfold xTch xHgt; rw [low_id (by unfold iPl; omega)]
      refine g_ild5 hC dX4_lowerFloors_3 ?_
      refine g_ald0 hC dX4_lowerFloors_5 ?_
      refine xg_Trial_piece hC tw_1_173 dX4_lowerFloors_6 ?_
      rw [hps]
      refine xg_Stone_planeCount hC (by first | assumption | omega | exact xk_pl _ (by assumption) _ (by omega) | decide) tw_1_146 dX4_lowerFloors_9 ?_
      refine g_icmp_ge 60 hC dX4_lowerFloors_12 (by decide) (fun c12 => absurd c12 (by rw [hpc]; exact nI_ge (by omega) (by omega))) (fun c12 => ?_)
      refine g_ild1 hC dX4_lowerFloors_15 ?_
      refine g_ald0 hC dX4_lowerFloors_16 ?_
      refine xg_Trial_floors hC tw_1_177 dX4_lowerFloors_17 ?_
      refine g_ild5 hC dX4_lowerFloors_20 ?_
      refine xl_floors k hC rfl (by omega) dX4_lowerFloors_22 ?_
      rw [low_at]
      refine g_icmp_ge 54 hC dX4_lowerFloors_23 (by decide) (fun c23 => ?_) (fun c23 => ?_)
      · refine g_inc5 1 hC dX4_lowerFloors_54 (by decide) rfl ?_
        refine g_goto 3 hC dX4_lowerFloors_57 (by decide) ?_
        first
        | (rw [nI_1, low_t (Int32.not_le.mp c23) (by rw [← htc]; exact b2i_ne0.mp c43)]; exact ih (k + 1) (by omega))
        | (rw [nI_1, low_f (by rw [← htc, b2i_eq0.mp c43, Bool.and_false])]; exact ih (k + 1) (by omega))
        | (rw [nI_1, low_f (by rw [decide_eq_false (Int32.not_lt.mpr c23), Bool.false_and])]; exact ih (k + 1) (by omega))
      · refine g_ald0 hC dX4_lowerFloors_26 ?_
        refine xg_Trial_piece hC tw_1_173 dX4_lowerFloors_27 ?_
        rw [hps]
        refine xg_Stone_planes hC (by first | assumption | omega | exact xk_pl _ (by assumption) _ (by omega) | decide) tw_1_143 dX4_lowerFloors_30 ?_
        refine g_ild5 hC dX4_lowerFloors_33 ?_
        refine xl_Pls k hC (by first | assumption | omega | exact xk_pl _ (by assumption) _ (by omega) | decide) rfl (by omega) dX4_lowerFloors_35 ?_
        refine g_ild2 hC dX4_lowerFloors_36 ?_
        refine g_ild3 hC dX4_lowerFloors_37 ?_
        refine g_ild4 hC dX4_lowerFloors_38 ?_
        refine k_X1_touches (i := iPl s k) hC tw_3_86 dX4_lowerFloors_40 (by decide) ⟨by omega, by omega⟩ (Nat.le_of_ble_eq_true rfl) (xk_pl s hs k (by omega)) ?_
        refine g_if_eq 54 hC dX4_lowerFloors_43 (by decide) (fun c43 => ?_) (fun c43 => ?_)
        · refine g_inc5 1 hC dX4_lowerFloors_54 (by decide) rfl ?_
          refine g_goto 3 hC dX4_lowerFloors_57 (by decide) ?_
          first
          | (rw [nI_1, low_t (Int32.not_le.mp c23) (by rw [← htc]; exact b2i_ne0.mp c43)]; exact ih (k + 1) (by omega))
          | (rw [nI_1, low_f (by rw [← htc, b2i_eq0.mp c43, Bool.and_false])]; exact ih (k + 1) (by omega))
          | (rw [nI_1, low_f (by rw [decide_eq_false (Int32.not_lt.mpr c23), Bool.false_and])]; exact ih (k + 1) (by omega))
        · refine g_ald0 hC dX4_lowerFloors_46 ?_
          refine xg_Trial_floors hC tw_1_177 dX4_lowerFloors_47 ?_
          refine g_ild5 hC dX4_lowerFloors_50 ?_
          refine g_ild1 hC dX4_lowerFloors_52 ?_
          refine xs_floors _ hC rfl (by omega) dX4_lowerFloors_53 ?_
          refine g_inc5 1 hC dX4_lowerFloors_54 (by decide) rfl ?_
          refine g_goto 3 hC dX4_lowerFloors_57 (by decide) ?_
          first
          | (rw [nI_1, low_t (Int32.not_le.mp c23) (by rw [← htc]; exact b2i_ne0.mp c43)]; exact ih (k + 1) (by omega))
          | (rw [nI_1, low_f (by rw [← htc, b2i_eq0.mp c43, Bool.and_false])]; exact ih (k + 1) (by omega))
          | (rw [nI_1, low_f (by rw [decide_eq_false (Int32.not_lt.mpr c23), Bool.false_and])]; exact ih (k + 1) (by omega))
  refine g_iconst 0 hC dX4_lowerFloors_0 (by decide) ?_
  refine g_ist5 hC dX4_lowerFloors_1 rfl ?_
  have h0 := lp m 0 (by omega)
  rw [low_0] at h0
  exact h0
theorem k_X4_lowerFloors {l : Launch} {X : gC} {cc : ByteArray} {own : String} {dd ca sa kc nc pc : Nat} {ls : List (Option Value)} {st : List Value} {σ : Mem} {idx : Nat} {s m : Nat} {h x y z : Int32} (hC : gOk wX l X cc own dd ca sa) (hlk : Cond.methodLink own idx yX4_lowerFloors ∈ TB) (hd : decode cc pc = .ok (.invokevirtual idx, 3)) (hdd : 2 + 1 ≤ dd) (hfr : kc + 0 ≤ ca ∧ nc + 0 ≤ sa) (hrest : (st.map fun v => v.category).sum ≤ 8)  (hP : s < 8 ∧ σ 190 1 = nI s ∧ m ≤ 16 ∧ σ (iStone s) 2 = nI m) (kk : G wX X kc nc (pc + 3) ls st (hLow σ s m h x y z)) : G wX X kc nc pc ls (.int z :: .int y :: .int x :: .int h :: .ref (gA X 190) :: st) σ := by
  exact g_cVV 4 hC (c_X4_lowerFloors l s m h x y z) hlk ⟨tw_3_84, tws_2_2, tw_1_6, tw_3_85⟩ (by decide +kernel) ⟨hdd, by decide⟩ hfr rfl rfl rfl (rv_Trial _ _) hrest rfl hd hP (fun σ1 hq => by subst hq; exact kk)
set_option maxRecDepth 100000 in
set_option maxHeartbeats 4000000 in
/-- X4_aim -/
theorem c_X4_aim (l : Launch) (t : Mem) (s : Nat) (p q r : Int32) : gMV wX l yX4_aim (.code yX4_aim cX4_aim 9 none) 3 0 0 (fun A => [.ref (A 190), .ref (A (iStone s)), .int p, .int q, .int r]) (fun τ => s < 8 ∧ s < nS t ∧ RS τ t ∧ Slp p q r) (fun τ τ1 => F9 τ τ1 ∧ Am t s p q r τ1) := by
  refine gMV_of (by decide) (fun A => Nat.le_of_ble_eq_true rfl) ?_
  intro X τ hC hP hE
  have hC : gOk wX l X cX4_aim "GemCut$Trial" 3 0 0 := hC
  show G wX X 0 0 0 [some (.ref (gA X 190)), some (.ref (gA X (iStone s))), some (.int p), some (.int q), some (.int r), none, none, none, none] [] τ
  obtain ⟨hs8, hs, hRS, hSl⟩ := hP
  have hn16 := hRS.2.2.1 s hs8
  have hM : MI t := hRS.1
  obtain ⟨⟨hC1, hC2, hC3⟩, ⟨hR1, hR2, hR3⟩, ⟨hL1, hL2, hL3⟩⟩ := MI_C hM
  obtain ⟨hF1, hF2⟩ := MI_F hM
  obtain ⟨hS1, hS2, hS3⟩ := MI_S hM
  have hN' : NN t ≤ 1000 := (vol_rng (MI_C hM).1.2 (MI_C hM).2.1.2 (MI_C hM).2.2.2).2
  have lpz : ∀ (m z : Nat) (σ : Mem), z + m = nL t → AI t τ s p q r ((z * nR t + 0) * nC t + 0) σ → G wX X 0 0 41 [some (.ref (gA X 190)), some (.ref (gA X (iStone s))), some (.int p), some (.int q), some (.int r), some (.int (nI ((z * nR t + 0) * nC t + 0))), some (.int (nI z)), none, none] [] (σ) := by
    intro m
    induction m with
    | zero =>
      intro z σ hz hI
      have hz : z = nL t := by omega
      (try rw [hz] at hI); rw [hz]
      obtain ⟨-, -, -, hRb, -⟩ := RS_f9 hRS hI.1
      obtain ⟨⟨a1, a2, a3, a4, a5, -, -⟩, b2, b3, b4, b5, b6⟩ := hRb
      have hC9 : σ 1 0 = nI (nC t) := by rw [a1]; exact hC1
      have hR9 : σ 1 1 = nI (nR t) := by rw [a2]; exact hR1
      have hL9 : σ 1 2 = nI (nL t) := by rw [a3]; exact hL1
      refine g_ild6 hC dX4_aim_41 ?_
      refine g_ald0 hC dX4_aim_43 ?_
      refine xg_Trial_rough hC tw_1_172 dX4_aim_44 ?_
      refine xg_Rough_layers hC tw_1_66 dX4_aim_47 ?_
      refine g_icmp_ge 141 hC dX4_aim_50 (by decide) (fun c50 => ?_) (fun c50 => absurd (by rw [hL9]; exact nI_le (by omega) (by omega)) c50)
      have e9 : (nL t * nR t + 0) * nC t + 0 = NN t := by unfold NN; rw [Nat.add_zero, Nat.add_zero, Nat.mul_comm, Nat.mul_comm (nL t), Nat.mul_assoc]
      rw [e9] at hI ⊢
      exact hE _ _ _ _ _ dX4_aim_141 (Nat.le_refl _) (Nat.le_refl _) ⟨hI.1, hI.2⟩
    | succ m ihz =>
      intro z σ hz hI
      obtain ⟨-, -, -, hRb, -⟩ := RS_f9 hRS hI.1
      obtain ⟨⟨a1, a2, a3, a4, a5, -, -⟩, b2, b3, b4, b5, b6⟩ := hRb
      have hC9 : σ 1 0 = nI (nC t) := by rw [a1]; exact hC1
      have hR9 : σ 1 1 = nI (nR t) := by rw [a2]; exact hR1
      have hL9 : σ 1 2 = nI (nL t) := by rw [a3]; exact hL1
      have lpy : ∀ (m y : Nat) (σ : Mem), y + m = nR t → AI t τ s p q r ((z * nR t + y) * nC t + 0) σ → G wX X 0 0 56 [some (.ref (gA X 190)), some (.ref (gA X (iStone s))), some (.int p), some (.int q), some (.int r), some (.int (nI ((z * nR t + y) * nC t + 0))), some (.int (nI z)), some (.int (nI y)), none] [] (σ) := by
        intro m
        induction m with
        | zero =>
          intro y σ hy hI
          have hy : y = nR t := by omega
          (try rw [hy] at hI); rw [hy]
          obtain ⟨-, -, -, hRb, -⟩ := RS_f9 hRS hI.1
          obtain ⟨⟨a1, a2, a3, a4, a5, -, -⟩, b2, b3, b4, b5, b6⟩ := hRb
          have hC9 : σ 1 0 = nI (nC t) := by rw [a1]; exact hC1
          have hR9 : σ 1 1 = nI (nR t) := by rw [a2]; exact hR1
          have hL9 : σ 1 2 = nI (nL t) := by rw [a3]; exact hL1
          refine g_ild7 hC dX4_aim_56 ?_
          refine g_ald0 hC dX4_aim_58 ?_
          refine xg_Trial_rough hC tw_1_172 dX4_aim_59 ?_
          refine xg_Rough_rows hC tw_1_63 dX4_aim_62 ?_
          refine g_icmp_ge 135 hC dX4_aim_65 (by decide) (fun c65 => ?_) (fun c65 => absurd (by rw [hR9]; exact nI_le (by omega) (by omega)) c65)
          refine g_inc6 1 hC dX4_aim_135 (by decide) rfl ?_
          refine g_goto 41 hC dX4_aim_138 (by decide) ?_
          refine g_keep [true, true, true, true, true, true, true, false, false] ?_
          rw [nI_1]
          have e9 : (z * nR t + nR t) * nC t + 0 = ((z + 1) * nR t + 0) * nC t + 0 := by rw [Nat.add_mul z 1, Nat.one_mul, Nat.add_zero (z * nR t + nR t)]
          rw [e9] at hI ⊢
          exact ihz (z + 1) σ (by omega) hI
        | succ m ihy =>
          intro y σ hy hI
          obtain ⟨-, -, -, hRb, -⟩ := RS_f9 hRS hI.1
          obtain ⟨⟨a1, a2, a3, a4, a5, -, -⟩, b2, b3, b4, b5, b6⟩ := hRb
          have hC9 : σ 1 0 = nI (nC t) := by rw [a1]; exact hC1
          have hR9 : σ 1 1 = nI (nR t) := by rw [a2]; exact hR1
          have hL9 : σ 1 2 = nI (nL t) := by rw [a3]; exact hL1
          have lpx : ∀ (m x : Nat) (σ : Mem), x + m = nC t → AI t τ s p q r ((z * nR t + y) * nC t + x) σ → G wX X 0 0 71 [some (.ref (gA X 190)), some (.ref (gA X (iStone s))), some (.int p), some (.int q), some (.int r), some (.int (nI ((z * nR t + y) * nC t + x))), some (.int (nI z)), some (.int (nI y)), some (.int (nI x))] [] (σ) := by
            intro m
            induction m with
            | zero =>
              intro x σ hx hI
              have hx : x = nC t := by omega
              (try rw [hx] at hI); rw [hx]
              have hRb' := (RS_f9 hRS hI.1).2.2.2.1
              obtain ⟨-, -, -, hRb, -⟩ := RS_f9 hRS hI.1
              obtain ⟨⟨a1, a2, a3, a4, a5, -, -⟩, b2, b3, b4, b5, b6⟩ := hRb
              have hC9 : σ 1 0 = nI (nC t) := by rw [a1]; exact hC1
              have hR9 : σ 1 1 = nI (nR t) := by rw [a2]; exact hR1
              have hL9 : σ 1 2 = nI (nL t) := by rw [a3]; exact hL1
              refine g_ild8 hC dX4_aim_71 ?_
              refine g_ald0 hC dX4_aim_73 ?_
              refine xg_Trial_rough hC tw_1_172 dX4_aim_74 ?_
              refine xg_Rough_columns hC tw_1_60 dX4_aim_77 ?_
              refine g_icmp_ge 129 hC dX4_aim_80 (by decide) (fun c80 => ?_) (fun c80 => absurd (by rw [hC9]; exact nI_le (by omega) (by omega)) c80)
              refine g_inc7 1 hC dX4_aim_129 (by decide) rfl ?_
              refine g_goto 56 hC dX4_aim_132 (by decide) ?_
              refine g_keep [true, true, true, true, true, true, true, true, false] ?_
              rw [nI_1]
              have e9 : (z * nR t + y) * nC t + nC t = (z * nR t + (y + 1)) * nC t + 0 := by rw [Nat.add_zero, ← Nat.add_assoc (z * nR t), Nat.add_mul _ 1, Nat.one_mul]
              rw [e9] at hI ⊢
              exact ihy (y + 1) σ (by omega) hI
            | succ m ihx =>
              intro x σ hx hI
              have hRb' := (RS_f9 hRS hI.1).2.2.2.1
              obtain ⟨-, -, -, hRb, -⟩ := RS_f9 hRS hI.1
              obtain ⟨⟨a1, a2, a3, a4, a5, -, -⟩, b2, b3, b4, b5, b6⟩ := hRb
              have hC9 : σ 1 0 = nI (nC t) := by rw [a1]; exact hC1
              have hR9 : σ 1 1 = nI (nR t) := by rw [a2]; exact hR1
              have hL9 : σ 1 2 = nI (nL t) := by rw [a3]; exact hL1
              have hlt : ((z * nR t + y) * nC t + x) < NN t := by unfold NN; exact box_lt (by omega) (by omega) (by omega)
              obtain ⟨d1, d2, d3⟩ := ix_mod (z := z) (show x < nC t by omega) (show y < nR t by omega)
              have ho9 : σ 2 ((z * nR t + y) * nC t + x) = t 1 (CI t ((z * nR t + y) * nC t + x)) := b2 _ hlt
              have hps : (σ 190 1).toNatClampNeg = s := by rw [hI.2.1.1.1]; exact nI_clamp (by omega)
              have hh9 : σ 192 ((z * nR t + y) * nC t + x) = iI (zh t p q r ((z * nR t + y) * nC t + x)) := hI.2.1.2.1 _ hlt
              refine g_ild8 hC dX4_aim_71 ?_
              refine g_ald0 hC dX4_aim_73 ?_
              refine xg_Trial_rough hC tw_1_172 dX4_aim_74 ?_
              refine xg_Rough_columns hC tw_1_60 dX4_aim_77 ?_
              refine g_icmp_ge 129 hC dX4_aim_80 (by decide) (fun c80 => absurd c80 (by rw [hC9]; exact nI_ge (by omega) (by omega))) (fun c80 => ?_)
              refine g_ald0 hC dX4_aim_83 ?_
              refine xg_Trial_rough hC tw_1_172 dX4_aim_84 ?_
              refine xg_Rough_owner hC tw_1_69 dX4_aim_87 ?_
              refine g_ild5 hC dX4_aim_90 ?_
              refine xl_owner ((z * nR t + y) * nC t + x) hC rfl (by omega) dX4_aim_92 ?_
              rw [ho9]
              refine g_ald0 hC dX4_aim_93 ?_
              refine xg_Trial_piece hC tw_1_173 dX4_aim_94 ?_
              rw [hps]
              refine xg_Stone_number hC (by first | assumption | omega | exact xk_pl _ (by assumption) _ (by omega) | decide) tw_1_140 dX4_aim_97 ?_
              rw [b3 s hs8]
              refine g_icmp_ne 120 hC dX4_aim_100 (by decide) (fun c100 => ?_) (fun c100 => ?_)
              · refine g_inc5 1 hC dX4_aim_120 (by decide) rfl ?_
                refine g_inc8 1 hC dX4_aim_123 (by decide) rfl ?_
                refine g_goto 71 hC dX4_aim_126 (by decide) ?_
                rw [nI_1, nI_1]
                first
                | exact ihx (x + 1) _ (by omega) (AI_yes hM hSl hlt hI (fun k hk => tch_at hM hRb' hlt hs hk d1 d2 d3 c100))
                | exact ihx (x + 1) σ (by omega) (AI_no hI (by unfold own; simpa using c100))
              · refine g_ald0 hC dX4_aim_103 ?_
                refine g_ald0 hC dX4_aim_104 ?_
                refine xg_Trial_heights hC tw_1_175 dX4_aim_105 ?_
                refine g_ild5 hC dX4_aim_108 ?_
                refine xl_heights ((z * nR t + y) * nC t + x) hC rfl (by omega) dX4_aim_110 ?_
                rw [hh9]
                refine g_ild8 hC dX4_aim_111 ?_
                refine g_ild7 hC dX4_aim_113 ?_
                refine g_ild6 hC dX4_aim_115 ?_
                refine k_X4_lowerFloors (s := s) (m := nP t s) hC tw_3_82 dX4_aim_117 (by decide) ⟨by omega, by omega⟩ (Nat.le_of_ble_eq_true rfl) ⟨hs8, hI.2.1.1.1, hn16, by rw [b4 s hs]; exact (MI_P hM hs8).1⟩ ?_
                refine g_inc5 1 hC dX4_aim_120 (by decide) rfl ?_
                refine g_inc8 1 hC dX4_aim_123 (by decide) rfl ?_
                refine g_goto 71 hC dX4_aim_126 (by decide) ?_
                rw [nI_1, nI_1]
                first
                | exact ihx (x + 1) _ (by omega) (AI_yes hM hSl hlt hI (fun k hk => tch_at hM hRb' hlt hs hk d1 d2 d3 c100))
                | exact ihx (x + 1) σ (by omega) (AI_no hI (by unfold own; simpa using c100))
          refine g_ild7 hC dX4_aim_56 ?_
          refine g_ald0 hC dX4_aim_58 ?_
          refine xg_Trial_rough hC tw_1_172 dX4_aim_59 ?_
          refine xg_Rough_rows hC tw_1_63 dX4_aim_62 ?_
          refine g_icmp_ge 135 hC dX4_aim_65 (by decide) (fun c65 => absurd c65 (by rw [hR9]; exact nI_ge (by omega) (by omega))) (fun c65 => ?_)
          refine g_iconst 0 hC dX4_aim_68 (by decide) ?_
          refine g_ist8 hC dX4_aim_69 rfl ?_
          exact lpx (nC t) 0 σ (by omega) hI
      refine g_ild6 hC dX4_aim_41 ?_
      refine g_ald0 hC dX4_aim_43 ?_
      refine xg_Trial_rough hC tw_1_172 dX4_aim_44 ?_
      refine xg_Rough_layers hC tw_1_66 dX4_aim_47 ?_
      refine g_icmp_ge 141 hC dX4_aim_50 (by decide) (fun c50 => absurd c50 (by rw [hL9]; exact nI_ge (by omega) (by omega))) (fun c50 => ?_)
      refine g_iconst 0 hC dX4_aim_53 (by decide) ?_
      refine g_ist7 hC dX4_aim_54 rfl ?_
      exact lpy (nR t) 0 σ (by omega) hI
  have lpk : ∀ (m k : Nat) (σ : Mem), k + m = 16 → Z4 t τ s p q r k σ → G wX X 0 0 12 [some (.ref (gA X 190)), some (.ref (gA X (iStone s))), some (.int p), some (.int q), some (.int r), some (.int (nI k)), none, none, none] [] (σ) := by
    intro m
    induction m with
    | zero =>
      intro k σ hk hI
      have hk : k = 16 := by omega
      (try rw [hk] at hI); rw [hk]
      refine g_ild5 hC dX4_aim_12 ?_
      refine g_bipush 16 hC dX4_aim_14 (by decide) ?_
      refine g_icmp_ge 35 hC dX4_aim_16 (by decide) (fun c16 => ?_) (fun c16 => absurd (lit_le (show (16 : Int32) = nI 16 by decide) (by omega) (by omega)) c16)
      refine g_iconst 0 hC dX4_aim_35 (by decide) ?_
      refine g_ist5 hC dX4_aim_36 rfl ?_
      refine g_iconst 0 hC dX4_aim_38 (by decide) ?_
      refine g_ist6 hC dX4_aim_39 rfl ?_
      refine g_keep [true, true, true, true, true, true, true, false, false] ?_
      have e9 : (0 * nR t + 0) * nC t + 0 = 0 := by rw [Nat.zero_mul, Nat.zero_mul]
      have h9 := lpz (nL t) 0 σ (by omega) (by rw [e9]; exact AI_0 hn16 hI)
      rw [e9] at h9
      exact h9
    | succ m ihk =>
      intro k σ hk hI
      refine g_ild5 hC dX4_aim_12 ?_
      refine g_bipush 16 hC dX4_aim_14 (by decide) ?_
      refine g_icmp_ge 35 hC dX4_aim_16 (by decide) (fun c16 => absurd c16 (lit_nle (show (16 : Int32) = nI 16 by decide) (by omega) (by omega))) (fun c16 => ?_)
      refine g_ald0 hC dX4_aim_19 ?_
      refine xg_Trial_floors hC tw_1_177 dX4_aim_20 ?_
      refine g_ild5 hC dX4_aim_23 ?_
      refine g_sipush 1000 hC dX4_aim_25 (by decide) ?_
      refine xs_floors k hC rfl (by omega) dX4_aim_28 ?_
      refine g_inc5 1 hC dX4_aim_29 (by decide) rfl ?_
      refine g_goto 12 hC dX4_aim_32 (by decide) ?_
      rw [nI_1]
      exact ihk (k + 1) _ (by omega) (Z4_s hI)
  refine g_ald0 hC dX4_aim_0 ?_
  refine g_ald1 hC dX4_aim_1 ?_
  refine g_ild2 hC dX4_aim_2 ?_
  refine g_ild3 hC dX4_aim_3 ?_
  refine g_ild4 hC dX4_aim_4 ?_
  refine k_X4_level (t := t) (s := s) hC tw_3_81 dX4_aim_6 (by decide) ⟨by omega, by omega⟩ (Nat.le_of_ble_eq_true rfl) ⟨hs8, hs, hRS, hSl⟩ ?_
  intro σ1 hq
  refine g_iconst 0 hC dX4_aim_9 (by decide) ?_
  refine g_ist5 hC dX4_aim_10 rfl ?_
  exact lpk 16 0 σ1 (by omega) ⟨hq.1, hq.2, fun j hj => absurd hj (by omega)⟩
theorem k_X4_aim {l : Launch} {X : gC} {cc : ByteArray} {own : String} {dd ca sa kc nc pc : Nat} {ls : List (Option Value)} {st : List Value} {σ : Mem} {idx : Nat} {t : Mem} {s : Nat} {p q r : Int32} (hC : gOk wX l X cc own dd ca sa) (hlk : Cond.methodLink own idx yX4_aim ∈ TB) (hd : decode cc pc = .ok (.invokevirtual idx, 3)) (hdd : 3 + 1 ≤ dd) (hfr : kc + 0 ≤ ca ∧ nc + 0 ≤ sa) (hrest : (st.map fun v => v.category).sum ≤ 8)  (hP : s < 8 ∧ s < nS t ∧ RS σ t ∧ Slp p q r) (kk : ∀ (σ1 : Mem), F9 σ σ1 ∧ Am t s p q r σ1 → G wX X kc nc (pc + 3) ls st σ1) : G wX X kc nc pc ls (.int r :: .int q :: .int p :: .ref (gA X (iStone s)) :: .ref (gA X 190) :: st) σ := by
  exact g_cVV 4 hC (c_X4_aim l t s p q r) hlk ⟨tw_3_78, tw_3_79, tw_1_6, tw_3_80⟩ (by decide +kernel) ⟨hdd, by decide⟩ hfr rfl rfl rfl (rv_Trial _ _) hrest rfl hd hP kk
