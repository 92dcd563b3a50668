/-! a trial's floors -/
def hLow (σ : Mem) (s m : Nat) (h x y z : Int32) : Mem := fun id j => if id = 194 ∧ j < m then (if (decide (h < σ 194 j) && xTch σ (iPl s j) x y z) = true then h else σ 194 j) else σ id j
theorem low_0 (σ : Mem) (s : Nat) (h x y z : Int32) : hLow σ s 0 h x y z = σ := by funext id j; simp [hLow]
theorem low_id {σ : Mem} {s m : Nat} {h x y z : Int32} {id : Nat} (hi : id ≠ 194) : hLow σ s m h x y z id = σ id := by funext j; simp [hLow, hi]
theorem low_at {σ : Mem} {s m : Nat} {h x y z : Int32} : hLow σ s m h x y z 194 m = σ 194 m := by simp [hLow]
theorem low_t {σ : Mem} {s m : Nat} {h x y z : Int32} (h1 : h < σ 194 m) (h2 : xTch σ (iPl s m) x y z = true) : upd2 (hLow σ s m h x y z) 194 m h = hLow σ s (m + 1) h x y z := by
  funext id j
  unfold upd2 hLow
  by_cases hi : id = 194
  · subst hi
    by_cases hj : j = m
    · subst hj; simp [h1, h2]
    · by_cases hlt : j < m
      · simp [hlt, hj, show j < m + 1 by omega]
      · simp [hlt, hj, show ¬ j < m + 1 by omega]
  · simp [hi]
theorem low_f {σ : Mem} {s m : Nat} {h x y z : Int32} (h1 : (decide (h < σ 194 m) && xTch σ (iPl s m) x y z) = false) : hLow σ s m h x y z = hLow σ s (m + 1) h x y z := by
  funext id j
  unfold hLow
  by_cases hi : id = 194
  · subst hi
    by_cases hj : j = m
    · subst hj; simp [h1]
    · by_cases hlt : j < m
      · simp [hlt, show j < m + 1 by omega]
      · simp [hlt, show ¬ j < m + 1 by omega]
  · simp [hi]
def Flr (τ : Mem) (s : Nat) (p q r : Int32) (n : Nat) (σ : Mem) : Prop := ∀ k, k < nP τ s → ∃ w : Int, -81 ≤ w ∧ w ≤ 1000 ∧ σ 194 k = iI w ∧ ∀ d : Int, d < 1000 → (w ≤ d ↔ ∃ i, i < n ∧ pTouch τ s k (CI τ i) = true ∧ zh τ p q r i ≤ d)
def AI (τ u : Mem) (s : Nat) (p q r : Int32) (n : Nat) (σ : Mem) : Prop := F9 u σ ∧ Lv τ s p q r σ ∧ Flr τ s p q r n σ
/-- aimed -/
def Am (τ : Mem) (s : Nat) (p q r : Int32) (σ : Mem) : Prop := Lv τ s p q r σ ∧ Flr τ s p q r (NN τ) σ
theorem Lv_194 {τ σ σ' : Mem} {s : Nat} {p q r : Int32} (h : Lv τ s p q r σ) (he : ∀ id, id ≠ 194 → σ' id = σ id) : Lv τ s p q r σ' := by
  obtain ⟨⟨h1, h2, h3, h4, h5⟩, h6, h7⟩ := h
  exact ⟨⟨by rw [he 190 (by decide)]; exact h1, by rw [he 191 (by decide)]; exact h2, by rw [he 191 (by decide)]; exact h3, by rw [he 191 (by decide)]; exact h4, by rw [he 191 (by decide)]; exact h5⟩, fun i hi => by rw [he 192 (by decide)]; exact h6 i hi, fun i hi => by rw [he 193 (by decide)]; exact h7 i hi⟩
def Z4 (τ u : Mem) (s : Nat) (p q r : Int32) (k : Nat) (σ : Mem) : Prop := F9 u σ ∧ Lv τ s p q r σ ∧ ∀ j, j < k → σ 194 j = iI 1000
theorem Z4_s {τ u σ : Mem} {s k : Nat} {p q r : Int32} (h : Z4 τ u s p q r k σ) : Z4 τ u s p q r (k + 1) (upd2 σ 194 k 1000) :=
  ⟨F9_up h.1 (by decide) _, Lv_194 h.2.1 (fun id hi => upd2_ni hi), fun j hj => by
    by_cases e : j = k
    · subst e; rw [upd2_at]; decide
    · rw [upd2_nj e]; exact h.2.2 j (by omega)⟩
theorem AI_0 {τ u σ : Mem} {s : Nat} {p q r : Int32} (hn : nP τ s ≤ 16) (h : Z4 τ u s p q r 16 σ) : AI τ u s p q r 0 σ :=
  ⟨h.1, h.2.1, fun k hk => ⟨1000, by decide, by decide, h.2.2 k (by omega), fun d hd => ⟨fun q => absurd q (by omega), fun ⟨i, hi, _⟩ => absurd hi (by omega)⟩⟩⟩
theorem AI_no {τ u σ : Mem} {s n : Nat} {p q r : Int32} (h : AI τ u s p q r n σ) (ho : own τ s n = false) : AI τ u s p q r (n + 1) σ := by
  refine ⟨h.1, h.2.1, fun k hk => ?_⟩
  obtain ⟨w, w1, w2, w3, w4⟩ := h.2.2 k hk
  refine ⟨w, w1, w2, w3, fun d hd => (w4 d hd).trans ⟨fun ⟨i, hi, ht⟩ => ⟨i, by omega, ht⟩, fun ⟨i, hi, ht⟩ => ⟨i, ?_, ht⟩⟩⟩
  by_cases e : i = n
  · subst e
    unfold own at ho
    unfold pTouch at ht
    rw [ho, Bool.false_and] at ht
    exact absurd ht.1 (by decide)
  · omega
theorem AI_yes {τ u σ : Mem} {s n : Nat} {p q r x y z : Int32} (hM : MI τ) (hSl : Slp p q r) (hn : n < NN τ) (h : AI τ u s p q r n σ) (ht : ∀ k, k < nP τ s → xTch σ (iPl s k) x y z = pTouch τ s k (CI τ n)) : AI τ u s p q r (n + 1) (hLow σ s (nP τ s) (iI (zh τ p q r n)) x y z) := by
  have hz := zh_rng hM hSl hn
  refine ⟨fun id j hi => by rw [low_id (by omega)]; exact h.1 id j hi, Lv_194 h.2.1 (fun id hi => low_id hi), fun k hk => ?_⟩
  obtain ⟨w, w1, w2, w3, w4⟩ := h.2.2 k hk
  have e : hLow σ s (nP τ s) (iI (zh τ p q r n)) x y z 194 k = if (decide (zh τ p q r n < w) && pTouch τ s k (CI τ n)) = true then iI (zh τ p q r n) else iI w := by
    unfold hLow
    rw [if_pos ⟨rfl, hk⟩, w3, ht k hk]
    simp only [iI_lt (show -2147483648 ≤ zh τ p q r n ∧ zh τ p q r n < 2147483648 by omega) (show -2147483648 ≤ w ∧ w < 2147483648 by omega)]
  rw [e]
  by_cases hc : (decide (zh τ p q r n < w) && pTouch τ s k (CI τ n)) = true
  · rw [if_pos hc]
    simp only [Bool.and_eq_true, decide_eq_true_eq] at hc
    refine ⟨zh τ p q r n, hz.1, by omega, rfl, fun d hd => ⟨fun q => ⟨n, by omega, hc.2, q⟩, fun ⟨i, hi, h1, h2⟩ => ?_⟩⟩
    by_cases e2 : i = n
    · subst e2; exact h2
    · have := (w4 d hd).mpr ⟨i, by omega, h1, h2⟩
      omega
  · rw [if_neg hc]
    simp only [Bool.and_eq_true, decide_eq_true_eq] at hc
    refine ⟨w, w1, w2, rfl, fun d hd => (w4 d hd).trans ⟨fun ⟨i, hi, h1⟩ => ⟨i, by omega, h1⟩, fun ⟨i, hi, h1, h2⟩ => ?_⟩⟩
    by_cases e2 : i = n
    · subst e2
      have : w ≤ d := by
        rcases Int.lt_or_le (zh τ p q r i) w with g | g
        · exact absurd ⟨g, h1⟩ hc
        · omega
      exact (w4 d hd).mp this
    · exact ⟨i, by omega, h1, h2⟩

set_option maxRecDepth 100000 in
set_option maxHeartbeats 4000000 in
/-- X4_lowerFloors -/
theorem c_X4_lowerFloors (l : Launch) (s m : Nat) (h x y z : Int32) : gMV wX l yX4_lowerFloors (.code yX4_lowerFloors cX4_lowerFloors 6 none) 2 0 0 (fun A => [.ref (A 190), .int h, .int x, .int y, .int z]) (fun τ => s < 8 ∧ τ 190 1 = nI s ∧ m ≤ 16 ∧ τ (iStone s) 2 = nI m) (fun τ τ1 => τ1 = hLow τ s m h x y z) := by
  refine gMV_of (by decide) (fun A => Nat.le_of_ble_eq_true rfl) ?_
  intro X τ hC hP hE
  have hC : gOk wX l X cX4_lowerFloors "GemCut$Trial" 2 0 0 := hC
  show G wX X 0 0 0 [some (.ref (gA X 190)), some (.int h), some (.int x), some (.int y), some (.int z), none] [] τ
  obtain ⟨hs, hp1, hm1, hm2⟩ := hP
  have lp : ∀ (m9 k : Nat), k + m9 = m → G wX X 0 0 3 [some (.ref (gA X 190)), some (.int h), some (.int x), some (.int y), some (.int z), some (.int (nI k))] [] (hLow τ s k h x y z) := by
    intro m9
    induction m9 with
    | zero =>
      intro k hk 
      have hk : k = m := by omega
      have hps : (hLow τ s k h x y z 190 1).toNatClampNeg = s := by rw [low_id (by decide), hp1]; exact nI_clamp (by omega)
      have hpc : hLow τ s k h x y z (iStone s) 2 = nI m := by rw [low_id (by unfold iStone; omega)]; exact hm2
      have htc : xTch (hLow τ s k h x y z) (iPl s k) x y z = xTch τ (iPl s k) x y z := by unfold xTch xHgt; rw [low_id (by unfold iPl; omega)]
      rw [hk] at hpc hps ⊢
      refine g_ild5 hC dX4_lowerFloors_3 ?_
      refine g_ald0 hC dX4_lowerFloors_5 ?_
      refine xg_Trial_piece hC tw_1_173 dX4_lowerFloors_6 ?_
      rw [hps]
      refine xg_Stone_planeCount hC (by first | assumption | omega | exact xk_pl _ (by assumption) _ (by omega) | decide) tw_1_146 dX4_lowerFloors_9 ?_
      refine g_icmp_ge 60 hC dX4_lowerFloors_12 (by decide) (fun c12 => ?_) (fun c12 => absurd (by rw [hpc]; exact nI_le (by omega) (by omega)) c12)
      exact hE _ _ _ _ _ dX4_lowerFloors_60 (Nat.le_refl _) (Nat.le_refl _) rfl
    | succ m9 ih =>
      intro k hk
      have hps : (hLow τ s k h x y z 190 1).toNatClampNeg = s := by rw [low_id (by decide), hp1]; exact nI_clamp (by omega)
      have hpc : hLow τ s k h x y z (iStone s) 2 = nI m := by rw [low_id (by unfold iStone; omega)]; exact hm2
      have htc : xTch (hLow τ s k h x y z) (iPl s k) x y z = xTch τ (iPl s k) x y z := by unfold xTch xHgt; rw [low_id (by unfold iPl; omega)]
      refine g_ild5 hC dX4_lowerFloors_3 ?_
      refine g_ald0 hC dX4_lowerFloors_5 ?_
      refine xg_Trial_piece hC tw_1_173 dX4_lowerFloors_6 ?_
      rw [hps]
      refine xg_Stone_planeCount hC (by first | assumption | omega | exact xk_pl _ (by assumption) _ (by omega) | decide) tw_1_146 dX4_lowerFloors_9 ?_
      refine g_icmp_ge 60 hC dX4_lowerFloors_12 (by decide) (fun c12 => absurd c12 (by rw [hpc]; exact nI_ge (by omega) (by omega))) (fun c12 => ?_)
      refine g_ild1 hC dX4_lowerFloors_15 ?_
      refine g_ald0 hC dX4_lowerFloors_16 ?_
      refine xg_Trial_floors hC tw_1_177 dX4_lowerFloors_17 ?_
      refine g_ild5 hC dX4_lowerFloors_20 ?_
      refine xl_floors k hC rfl (by omega) dX4_lowerFloors_22 ?_
      rw [low_at]
      refine g_icmp_ge 54 hC dX4_lowerFloors_23 (by decide) (fun c23 => ?_) (fun c23 => ?_)
      · refine g_inc5 1 hC dX4_lowerFloors_54 (by decide) rfl ?_
        refine g_goto 3 hC dX4_lowerFloors_57 (by decide) ?_
        first
        | (rw [nI_1, low_t (Int32.not_le.mp c23) (by rw [← htc]; exact b2i_ne0.mp c43)]; exact ih (k + 1) (by omega))
        | (rw [nI_1, low_f (by rw [← htc, b2i_eq0.mp c43, Bool.and_false])]; exact ih (k + 1) (by omega))
        | (rw [nI_1, low_f (by rw [decide_eq_false (Int32.not_lt.mpr c23), Bool.false_and])]; exact ih (k + 1) (by omega))
      · refine g_ald0 hC dX4_lowerFloors_26 ?_
        refine xg_Trial_piece hC tw_1_173 dX4_lowerFloors_27 ?_
        rw [hps]
        refine xg_Stone_planes hC (by first | assumption | omega | exact xk_pl _ (by assumption) _ (by omega) | decide) tw_1_143 dX4_lowerFloors_30 ?_
        refine g_ild5 hC dX4_lowerFloors_33 ?_
        refine xl_Pls k hC (by first | assumption | omega | exact xk_pl _ (by assumption) _ (by omega) | decide) rfl (by omega) dX4_lowerFloors_35 ?_
        refine g_ild2 hC dX4_lowerFloors_36 ?_
        refine g_ild3 hC dX4_lowerFloors_37 ?_
        refine g_ild4 hC dX4_lowerFloors_38 ?_
        refine k_X1_touches (i := iPl s k) hC tw_3_179 dX4_lowerFloors_40 (by decide) ⟨by omega, by omega⟩ (Nat.le_of_ble_eq_true rfl) (xk_pl s hs k (by omega)) ?_
        refine g_if_eq 54 hC dX4_lowerFloors_43 (by decide) (fun c43 => ?_) (fun c43 => ?_)
        · refine g_inc5 1 hC dX4_lowerFloors_54 (by decide) rfl ?_
          refine g_goto 3 hC dX4_lowerFloors_57 (by decide) ?_
          first
          | (rw [nI_1, low_t (Int32.not_le.mp c23) (by rw [← htc]; exact b2i_ne0.mp c43)]; exact ih (k + 1) (by omega))
          | (rw [nI_1, low_f (by rw [← htc, b2i_eq0.mp c43, Bool.and_false])]; exact ih (k + 1) (by omega))
          | (rw [nI_1, low_f (by rw [decide_eq_false (Int32.not_lt.mpr c23), Bool.false_and])]; exact ih (k + 1) (by omega))
        · refine g_ald0 hC dX4_lowerFloors_46 ?_
          refine xg_Trial_floors hC tw_1_177 dX4_lowerFloors_47 ?_
          refine g_ild5 hC dX4_lowerFloors_50 ?_
          refine g_ild1 hC dX4_lowerFloors_52 ?_
          refine xs_floors _ hC rfl (by omega) dX4_lowerFloors_53 ?_
          refine g_inc5 1 hC dX4_lowerFloors_54 (by decide) rfl ?_
          refine g_goto 3 hC dX4_lowerFloors_57 (by decide) ?_
          first
          | (rw [nI_1, low_t (Int32.not_le.mp c23) (by rw [← htc]; exact b2i_ne0.mp c43)]; exact ih (k + 1) (by omega))
          | (rw [nI_1, low_f (by rw [← htc, b2i_eq0.mp c43, Bool.and_false])]; exact ih (k + 1) (by omega))
          | (rw [nI_1, low_f (by rw [decide_eq_false (Int32.not_lt.mpr c23), Bool.false_and])]; exact ih (k + 1) (by omega))
  refine g_iconst 0 hC dX4_lowerFloors_0 (by decide) ?_
  refine g_ist5 hC dX4_lowerFloors_1 rfl ?_
  have h0 := lp m 0 (by omega)
  rw [low_0] at h0
  exact h0
theorem k_X4_lowerFloors {l : Launch} {X : gC} {cc : ByteArray} {own : String} {dd ca sa kc nc pc : Nat} {ls : List (Option Value)} {st : List Value} {σ : Mem} {idx : Nat} {s m : Nat} {h x y z : Int32} (hC : gOk wX l X cc own dd ca sa) (hlk : Cond.methodLink own idx yX4_lowerFloors ∈ TB) (hd : decode cc pc = .ok (.invokevirtual idx, 3)) (hdd : 2 + 1 ≤ dd) (hfr : kc + 0 ≤ ca ∧ nc + 0 ≤ sa) (hrest : (st.map fun v => v.category).sum ≤ 8)  (hP : s < 8 ∧ σ 190 1 = nI s ∧ m ≤ 16 ∧ σ (iStone s) 2 = nI m) (kk : G wX X kc nc (pc + 3) ls st (hLow σ s m h x y z)) : G wX X kc nc pc ls (.int z :: .int y :: .int x :: .int h :: .ref (gA X 190) :: st) σ := by
  exact g_cVV 4 hC (c_X4_lowerFloors l s m h x y z) hlk ⟨tw_3_177, tws_2_3, tw_1_6, tw_3_178⟩ (by decide +kernel) ⟨hdd, by decide⟩ hfr rfl rfl rfl (rv_Trial _ _) hrest rfl hd hP (fun σ1 hq => by subst hq; exact kk)
