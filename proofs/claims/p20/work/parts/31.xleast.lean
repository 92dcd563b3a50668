/-! a flaw's least loss -/
theorem box_ix {τ : Mem} (hM : MI τ) (hW : MW τ) {c s : Nat} (hc : c < 1000) (hs : s < 8) (h : τ 1 c = nI s) : ∃ i, i < NN τ ∧ CI τ i = c := by
  obtain ⟨⟨-, hC⟩, ⟨-, hR⟩, ⟨-, hL⟩⟩ := MI_C hM
  have e : c = c % 10 + 10 * (c / 10 % 10 + 10 * (c / 100)) := by omega
  have hw := hW.1 (c % 10) (c / 10 % 10) (c / 100) (by omega) (by omega) (by omega)
  rw [← e] at hw
  by_cases hb : c % 10 < nC τ ∧ c / 10 % 10 < nR τ ∧ c / 100 < nL τ
  · refine ⟨(c / 100 * nR τ + c / 10 % 10) * nC τ + c % 10, box_lt hb.1 hb.2.1 hb.2.2, ?_⟩
    rw [CI_at hb.1 hb.2.1]
    exact e.symm
  · have h2 := hw.2 hb
    rw [h] at h2
    exact absurd h2 (nI_nm1 (by omega))
theorem list_mem {τ : Mem} {f m : Nat} {g : Nat → Nat} (hc : ∀ P : Nat → Bool, cnt (fun k => P (g k)) m = cnt (fun i => sFlawed τ f (CI τ i) && P i) (NN τ)) {i : Nat} : (∃ k, k < m ∧ g k = i) ↔ (i < NN τ ∧ sFlawed τ f (CI τ i) = true) := by
  have h := hc (fun j => j == i)
  have h1 := cnt_pos (P := fun k => g k == i) m
  have h2 := cnt_pos (P := fun j => sFlawed τ f (CI τ j) && j == i) (NN τ)
  constructor
  · rintro ⟨k, hk, e⟩
    have : 0 < cnt (fun k => g k == i) m := h1.mpr ⟨k, hk, by simp [e]⟩
    rw [h] at this
    obtain ⟨j, hj, e2⟩ := h2.mp this
    simp only [Bool.and_eq_true, beq_iff_eq] at e2
    obtain ⟨e3, rfl⟩ := e2
    exact ⟨hj, e3⟩
  · rintro ⟨hi, e⟩
    have : 0 < cnt (fun j => sFlawed τ f (CI τ j) && j == i) (NN τ) := h2.mpr ⟨i, hi, by simp [e]⟩
    rw [← h] at this
    obtain ⟨k, hk, e2⟩ := h1.mp this
    exact ⟨k, hk, by simpa using e2⟩
def lw (τ : Mem) (s : Nat) (p q r : Int32) (g : Nat → Nat) : Nat → Int
  | 0 => 81
  | k + 1 => if own τ s (g k) = true ∧ zh τ p q r (g k) < lw τ s p q r g k then zh τ p q r (g k) else lw τ s p q r g k
theorem lw_spec (τ : Mem) (s : Nat) (p q r : Int32) (g : Nat → Nat) : ∀ n, lw τ s p q r g n ≤ 81 ∧ (∀ k, k < n → own τ s (g k) = true → lw τ s p q r g n ≤ zh τ p q r (g k)) ∧ (lw τ s p q r g n = 81 ∨ ∃ k, k < n ∧ own τ s (g k) = true ∧ zh τ p q r (g k) = lw τ s p q r g n) := by
  intro n
  induction n with
  | zero => exact ⟨Int.le_refl _, fun k hk => absurd hk (by omega), Or.inl rfl⟩
  | succ n ih =>
    obtain ⟨h1, h2, h3⟩ := ih
    rw [lw]
    by_cases hc : own τ s (g n) = true ∧ zh τ p q r (g n) < lw τ s p q r g n
    · rw [if_pos hc]
      refine ⟨by omega, fun k hk ho => ?_, Or.inr ⟨n, by omega, hc.1, rfl⟩⟩
      rcases Nat.lt_or_ge k n with y | y
      · have := h2 k y ho; omega
      · obtain rfl : k = n := by omega
        exact Int.le_refl _
    · rw [if_neg hc]
      refine ⟨h1, fun k hk ho => ?_, ?_⟩
      · rcases Nat.lt_or_ge k n with y | y
        · exact h2 k y ho
        · obtain rfl : k = n := by omega
          rcases Int.lt_or_le (zh τ p q r (g k)) (lw τ s p q r g k) with x | x
          · exact absurd ⟨ho, x⟩ hc
          · exact x
      · rcases h3 with h | ⟨k, hk, h⟩
        · exact Or.inl h
        · exact Or.inr ⟨k, by omega, h⟩
theorem lw_end {τ : Mem} (hM : MI τ) (hW : MW τ) {s f m : Nat} (hs : s < 8) {p q r : Int32} (hSl : Slp p q r) {g : Nat → Nat}
    (hc : ∀ P : Nat → Bool, cnt (fun k => P (g k)) m = cnt (fun i => sFlawed τ f (CI τ i) && P i) (NN τ)) (hw : ¬ nI (sFc τ f (nI s) false) = 0) : iI (lw τ s p q r g m) = sEnd τ (nI s) (some f) p q r false := by
  obtain ⟨l1, l2, l3⟩ := lw_spec τ s p q r g m
  have hpos : 0 < sFc τ f (nI s) false := by
    rcases Nat.eq_zero_or_pos (sFc τ f (nI s) false) with h | h
    · exact absurd (by rw [h]; exact nI_0) hw
    · exact h
  obtain ⟨k1, hk1, hk2⟩ := (cnt_pos 1000).mp hpos
  have hk3 : (τ 1 k1 == nI s && sEC τ (some f) k1) = true := by simpa [sEC, pFc] using hk2
  unfold sEnd
  rcases sEndS_spec τ (nI s) (sEC τ (some f)) p q r false 1000 with ⟨-, -, h⟩ | ⟨-, ⟨a, ha1, ha2, ha3⟩, ha4⟩
  · exact absurd hk3 (h k1 hk1)
  · rw [ha3, sHgt_z]
    have ra := zHgt_rng ha1 hSl.1 hSl.2.1 hSl.2.2
    simp only [Bool.and_eq_true, beq_iff_eq, sEC] at ha2
    obtain ⟨i, hi, ei⟩ := box_ix hM hW ha1 hs ha2.1
    obtain ⟨k, hk, ek⟩ := (list_mem hc).mpr ⟨hi, by rw [ei]; exact ha2.2⟩
    have o1 : own τ s (g k) = true := by unfold own; rw [ek, ei, ha2.1]; simp
    have z1 : zh τ p q r (g k) = zHgt a p.toInt q.toInt r.toInt := by unfold zh; rw [ek, ei]
    have g1 := l2 k hk o1
    have g2 : zHgt a p.toInt q.toInt r.toInt ≤ lw τ s p q r g m := by
      rcases l3 with h | ⟨j, hj, oj, zj⟩
      · omega
      · obtain ⟨hn, hfl⟩ := (list_mem hc).mp ⟨j, hj, rfl⟩
        have hcn := (CI_xyz hM hn).2.2.2.2.2.2
        have ho : τ 1 (CI τ (g j)) = nI s := by simpa [own] using oj
        have h5 := ha4 (CI τ (g j)) hcn (by simp [sEC, ho, hfl])
        simp only [Bool.false_eq_true, if_false] at h5
        have rj := zHgt_rng hcn hSl.1 hSl.2.1 hSl.2.2
        rw [ha3, sHgt_z, sHgt_z, iI_le (by omega) (by omega)] at h5
        rw [← zj]
        exact h5
    congr 1
    omega
theorem r_slp : ∀ k, k < 27 → ((-3 ≤ (rP k).toInt ∧ (rP k).toInt ≤ 3) ∧ (-3 ≤ (rQ k).toInt ∧ (rQ k).toInt ≤ 3) ∧ (-3 ≤ (rR k).toInt ∧ (rR k).toInt ≤ 3)) := by decide +kernel
theorem r_13 : ∀ k, k < 27 → rP k = 0 → rQ k = 0 → rR k = 0 → k = 13 := by decide +kernel
theorem r_n13 {k : Nat} (h : k = 13) : rP k = 0 ∧ rQ k = 0 ∧ rR k = 0 := by subst h; decide +kernel
def rdp (τ : Mem) (f s k : Nat) : Int32 := if k = 0 then -1000 else (sRidS τ f s k).2.1
theorem rid_t {τ : Mem} {f s k : Nat} (h : k ≠ 13) (hl : sRidL τ f s k < (sRidS τ f s k).2.2) : sRidS τ f s (k + 1) = (nI k, sRidD τ f s k, sRidL τ f s k) := by rw [sRidS, if_neg h, if_pos hl]
theorem rid_f {τ : Mem} {f s k : Nat} (hl : k = 13 ∨ ¬ sRidL τ f s k < (sRidS τ f s k).2.2) : sRidS τ f s (k + 1) = sRidS τ f s k ∧ rdp τ f s (k + 1) = rdp τ f s k := by
  have e : sRidS τ f s (k + 1) = sRidS τ f s k := by
    rw [sRidS]
    by_cases h : k = 13
    · rw [if_pos h]
    · rw [if_neg h, if_neg (hl.resolve_left h)]
  refine ⟨e, ?_⟩
  unfold rdp
  rw [if_neg (by omega), e]
  by_cases h0 : k = 0
  · exfalso
    subst h0
    rcases hl with h | h
    · exact absurd h (by decide)
    · refine h ?_
      show nI (sTurn τ _ _ _ _ _) < 1001
      rw [show (1001 : Int32) = nI 1001 by decide]
      have : sTurn τ (nI s) (rP 0) (rQ 0) (rR 0) (sRidD τ f s 0) ≤ 1000 := cnt_le _ _
      exact nI_lt (by omega) (by decide)
  · rw [if_neg h0]

set_option maxRecDepth 100000 in
set_option maxHeartbeats 4000000 in
/-- X4_lowestOf -/
theorem c_X4_lowestOf (l : Launch) (t : Mem) (s f : Nat) (p q r : Int32) : gMI wX l yX4_lowestOf (.code yX4_lowestOf cX4_lowestOf 5 (some FieldType.int)) 1 0 0 (fun A => [.ref (A 190), .ref (A (iFlaw f))]) (fun τ => s < nS t ∧ RS τ t ∧ Slp p q r ∧ Lv t s p q r τ ∧ f < nF t ∧ ¬ nI (sFc t f (nI s) false) = 0) (fun τ rr τ1 => rr = sEnd t (nI s) (some f) p q r false ∧ τ1 = τ) := by
  refine gMI_of (by decide) (fun A => Nat.le_of_ble_eq_true rfl) ?_
  intro X τ hC hP hE
  have hC : gOk wX l X cX4_lowestOf "GemCut$Trial" 1 0 0 := hC
  show G wX X 0 0 0 [some (.ref (gA X 190)), some (.ref (gA X (iFlaw f))), none, none, none] [] τ
  obtain ⟨hs, hRS, hSl, hLv, hf, hw⟩ := hP
  have hM : MI t := hRS.1
  have hW : MW t := hRS.2.1
  have hs8 : s < 8 := Nat.lt_of_lt_of_le hs (MI_S hM).2.2
  have hf10 : f < 10 := Nat.lt_of_lt_of_le hf (MI_F hM).2
  have hRb := hRS.2.2.2.1
  have hps : (τ 190 1).toNatClampNeg = s := by rw [hLv.1.1]; exact nI_clamp (by omega)
  obtain ⟨d1, m, d2, d3, d4, d5⟩ := hRb.2.2.2.2.2 f hf
  have hN8 : NN t ≤ 1000 := (vol_rng (MI_C hM).1.2 (MI_C hM).2.1.2 (MI_C hM).2.2.2).2
  have lp : ∀ (m9 k : Nat), k + m9 = m → G wX X 0 0 5 [some (.ref (gA X 190)), some (.ref (gA X (iFlaw f))), some (.int (iI (lw t s p q r (fun k => (τ (iFlaw f + 1) k).toNatClampNeg) k))), some (.int (nI k)), none] [] (τ) := by
    intro m9
    induction m9 with
    | zero =>
      intro k hk 
      have hk : k = m := by omega
      rw [hk]
      refine g_ild3 hC dX4_lowestOf_5 ?_
      refine g_ald1 hC dX4_lowestOf_6 ?_
      refine xg_Flaw_cellCount hC (by first | assumption | omega | exact xk_pl _ (by assumption) _ (by omega) | decide) tw_1_41 dX4_lowestOf_7 ?_
      refine g_icmp_ge 59 hC dX4_lowestOf_10 (by decide) (fun c10 => ?_) (fun c10 => absurd (by rw [d3]; exact nI_le (by omega) (by omega)) c10)
      refine g_ild2 hC dX4_lowestOf_59 ?_
      exact hE _ _ _ _ _ _ dX4_lowestOf_60 (Nat.le_refl _) (Nat.le_refl _) ⟨by exact lw_end hM hW hs8 hSl d5 hw, rfl⟩
    | succ m9 ih =>
      intro k hk 
      obtain ⟨i, hi, hcv⟩ := d4 k (by omega)
      have hce : (τ (iFlaw f + 1) k).toNatClampNeg = i := by rw [hcv]; exact nI_clamp (by omega)
      have hz := zh_rng hM hSl hi
      have hlw := lw_spec t s p q r (fun k => (τ (iFlaw f + 1) k).toNatClampNeg) k
      have hlw2 : -81 ≤ lw t s p q r (fun k => (τ (iFlaw f + 1) k).toNatClampNeg) k := by
        rcases hlw.2.2 with h | ⟨j, hj, oj, zj⟩
        · omega
        · rw [← zj]
          obtain ⟨i2, hi2, hc2⟩ := d4 j (by omega)
          rw [show (τ (iFlaw f + 1) j).toNatClampNeg = i2 by rw [hc2]; exact nI_clamp (by omega)]
          exact (zh_rng hM hSl hi2).1
      refine g_ild3 hC dX4_lowestOf_5 ?_
      refine g_ald1 hC dX4_lowestOf_6 ?_
      refine xg_Flaw_cellCount hC (by first | assumption | omega | exact xk_pl _ (by assumption) _ (by omega) | decide) tw_1_41 dX4_lowestOf_7 ?_
      refine g_icmp_ge 59 hC dX4_lowestOf_10 (by decide) (fun c10 => absurd c10 (by rw [d3]; exact nI_ge (by omega) (by omega))) (fun c10 => ?_)
      refine g_ald1 hC dX4_lowestOf_13 ?_
      refine xg_Flaw_cells hC (by first | assumption | omega | exact xk_pl _ (by assumption) _ (by omega) | decide) tw_1_39 dX4_lowestOf_14 ?_
      refine g_ild3 hC dX4_lowestOf_17 ?_
      refine xl_FC k hC (by first | assumption | omega | exact xk_pl _ (by assumption) _ (by omega) | decide) rfl (by omega) dX4_lowestOf_18 ?_
      rw [hcv]
      refine g_ist4 hC dX4_lowestOf_19 rfl ?_
      refine g_ald0 hC dX4_lowestOf_21 ?_
      refine xg_Trial_rough hC tw_1_172 dX4_lowestOf_22 ?_
      refine xg_Rough_owner hC tw_1_69 dX4_lowestOf_25 ?_
      refine g_ild4 hC dX4_lowestOf_28 ?_
      refine xl_owner i hC rfl (by omega) dX4_lowestOf_30 ?_
      rw [hRb.2.1 i hi]
      refine g_ald0 hC dX4_lowestOf_31 ?_
      refine xg_Trial_piece hC tw_1_173 dX4_lowestOf_32 ?_
      rw [hps]
      refine xg_Stone_number hC (by first | assumption | omega | exact xk_pl _ (by assumption) _ (by omega) | decide) tw_1_140 dX4_lowestOf_35 ?_
      rw [hRb.2.2.1 s hs8]
      refine g_icmp_ne 53 hC dX4_lowestOf_38 (by decide) (fun c38 => ?_) (fun c38 => ?_)
      · refine g_inc3 1 hC dX4_lowestOf_53 (by decide) rfl ?_
        refine g_goto 5 hC dX4_lowestOf_56 (by decide) ?_
        first
        | (have e9 : (if iI (zh t p q r i) < iI (lw t s p q r (fun k => (τ (iFlaw f + 1) k).toNatClampNeg) k) then iI (zh t p q r i) else iI (lw t s p q r (fun k => (τ (iFlaw f + 1) k).toNatClampNeg) k)) = iI (lw t s p q r (fun k => (τ (iFlaw f + 1) k).toNatClampNeg) (k + 1)) := by
             rw [lw]
             simp only [hce]
             have ho : own t s i = true := by unfold own; rw [c38]; simp
             by_cases hc : zh t p q r i < lw t s p q r (fun k => (τ (iFlaw f + 1) k).toNatClampNeg) k
             · rw [if_pos ((iI_lt (by omega) (by omega)).mpr hc), if_pos ⟨ho, hc⟩]
             · rw [if_neg (fun q9 => hc ((iI_lt (by omega) (by omega)).mp q9)), if_neg (fun q9 => hc q9.2)]
           refine g_keep [true, true, true, true, false] ?_
           rw [nI_1, e9]
           exact ih (k + 1) (by omega))
        | (have e9 : lw t s p q r (fun k => (τ (iFlaw f + 1) k).toNatClampNeg) (k + 1) = lw t s p q r (fun k => (τ (iFlaw f + 1) k).toNatClampNeg) k := by
             rw [lw]
             simp only [hce]
             rw [if_neg (fun q9 => absurd q9.1 (by unfold own; simpa using c38))]
           have h9 := ih (k + 1) (by omega)
           rw [e9] at h9
           refine g_keep [true, true, true, true, false] ?_
           rw [nI_1]
           exact h9)
      · refine g_ild2 hC dX4_lowestOf_41 ?_
        refine g_ald0 hC dX4_lowestOf_42 ?_
        refine xg_Trial_heights hC tw_1_175 dX4_lowestOf_43 ?_
        refine g_ild4 hC dX4_lowestOf_46 ?_
        refine xl_heights i hC rfl (by omega) dX4_lowestOf_48 ?_
        rw [hLv.2.1 i hi]
        refine g_mmin hC (by first | assumption | omega | exact xk_pl _ (by assumption) _ (by omega) | decide) tw_2_191 (Nat.le_of_ble_eq_true rfl) ⟨by omega, by omega⟩ dX4_lowestOf_49 ?_
        refine g_ist2 hC dX4_lowestOf_52 rfl ?_
        refine g_inc3 1 hC dX4_lowestOf_53 (by decide) rfl ?_
        refine g_goto 5 hC dX4_lowestOf_56 (by decide) ?_
        first
        | (have e9 : (if iI (zh t p q r i) < iI (lw t s p q r (fun k => (τ (iFlaw f + 1) k).toNatClampNeg) k) then iI (zh t p q r i) else iI (lw t s p q r (fun k => (τ (iFlaw f + 1) k).toNatClampNeg) k)) = iI (lw t s p q r (fun k => (τ (iFlaw f + 1) k).toNatClampNeg) (k + 1)) := by
             rw [lw]
             simp only [hce]
             have ho : own t s i = true := by unfold own; rw [c38]; simp
             by_cases hc : zh t p q r i < lw t s p q r (fun k => (τ (iFlaw f + 1) k).toNatClampNeg) k
             · rw [if_pos ((iI_lt (by omega) (by omega)).mpr hc), if_pos ⟨ho, hc⟩]
             · rw [if_neg (fun q9 => hc ((iI_lt (by omega) (by omega)).mp q9)), if_neg (fun q9 => hc q9.2)]
           refine g_keep [true, true, true, true, false] ?_
           rw [nI_1, e9]
           exact ih (k + 1) (by omega))
        | (have e9 : lw t s p q r (fun k => (τ (iFlaw f + 1) k).toNatClampNeg) (k + 1) = lw t s p q r (fun k => (τ (iFlaw f + 1) k).toNatClampNeg) k := by
             rw [lw]
             simp only [hce]
             rw [if_neg (fun q9 => absurd q9.1 (by unfold own; simpa using c38))]
           have h9 := ih (k + 1) (by omega)
           rw [e9] at h9
           refine g_keep [true, true, true, true, false] ?_
           rw [nI_1]
           exact h9)
  refine g_bipush 81 hC dX4_lowestOf_0 (by decide) ?_
  refine g_ist2 hC dX4_lowestOf_2 rfl ?_
  refine g_iconst 0 hC dX4_lowestOf_3 (by decide) ?_
  refine g_ist3 hC dX4_lowestOf_4 rfl ?_
  exact lp m 0 (by omega)
theorem k_X4_lowestOf {l : Launch} {X : gC} {cc : ByteArray} {own : String} {dd ca sa kc nc pc : Nat} {ls : List (Option Value)} {st : List Value} {σ : Mem} {idx : Nat} {t : Mem} {s f : Nat} {p q r : Int32} (hC : gOk wX l X cc own dd ca sa) (hlk : Cond.methodLink own idx yX4_lowestOf ∈ TB) (hd : decode cc pc = .ok (.invokevirtual idx, 3)) (hdd : 1 + 1 ≤ dd) (hfr : kc + 0 ≤ ca ∧ nc + 0 ≤ sa) (hrest : (st.map fun v => v.category).sum ≤ 8)  (hP : s < nS t ∧ RS σ t ∧ Slp p q r ∧ Lv t s p q r σ ∧ f < nF t ∧ ¬ nI (sFc t f (nI s) false) = 0) (kk : G wX X kc nc (pc + 3) ls (.int (sEnd t (nI s) (some f) p q r false) :: st) (σ)) : G wX X kc nc pc ls (.ref (gA X (iFlaw f)) :: .ref (gA X 190) :: st) σ := by
  exact g_cVI 1 hC (c_X4_lowestOf l t s f p q r) hlk ⟨tw_3_143, tws_2_5, tw_1_6, tw_3_144⟩ (by decide +kernel) ⟨hdd, by decide⟩ hfr rfl rfl rfl (rv_Trial _ _) hrest rfl hd hP (fun rr σ1 hq => by obtain ⟨rfl, rfl⟩ := hq; exact kk)
set_option maxRecDepth 100000 in
set_option maxHeartbeats 4000000 in
/-- X4_leastLoss -/
theorem c_X4_leastLoss (l : Launch) (t : Mem) (s f w : Nat) : gMI wX l yX4_leastLoss (.code yX4_leastLoss cX4_leastLoss 12 (some FieldType.int)) 3 0 0 (fun A => [.ref (A 190), .ref (A (iStone s)), .ref (A (iFlaw f)), .int (nI w)]) (fun τ => s < nS t ∧ RS τ t ∧ f < nF t ∧ ¬ nI (sFc t f (nI s) false) = 0 ∧ w < 3) (fun τ rr τ1 => rr = (if w = 0 then (sRidS t f s 27).1 else if w = 1 then (sRidS t f s 27).2.1 else (sRidS t f s 27).2.2) ∧ F9 τ τ1) := by
  refine gMI_of (by decide) (fun A => Nat.le_of_ble_eq_true rfl) ?_
  intro X τ hC hP hE
  have hC : gOk wX l X cX4_leastLoss "GemCut$Trial" 3 0 0 := hC
  show G wX X 0 0 0 [some (.ref (gA X 190)), some (.ref (gA X (iStone s))), some (.ref (gA X (iFlaw f))), some (.int (nI w)), none, none, none, none, none, none, none, none] [] τ
  obtain ⟨hs, hRS, hf, hw, hw3⟩ := hP
  have hM : MI t := hRS.1
  have hs8 : s < 8 := Nat.lt_of_lt_of_le hs (MI_S hM).2.2
  have hf10 : f < 10 := Nat.lt_of_lt_of_le hf (MI_F hM).2
  have lpk : ∀ (m k : Nat) (σ : Mem), k + m = 27 → F9 τ σ → G wX X 0 0 16 [some (.ref (gA X 190)), some (.ref (gA X (iStone s))), some (.ref (gA X (iFlaw f))), some (.int (nI w)), some (.int (sRidS t f s k).1), some (.int (rdp t f s k)), some (.int (sRidS t f s k).2.2), some (.int (nI k)), none, none, none, none] [] (σ) := by
    intro m
    induction m with
    | zero =>
      intro k σ hk hI
      have hk : k = 27 := by omega
      (try rw [hk] at hI); rw [hk]
      refine g_ild7 hC dX4_leastLoss_16 ?_
      refine g_bipush 27 hC dX4_leastLoss_18 (by decide) ?_
      refine g_icmp_ge 118 hC dX4_leastLoss_20 (by decide) (fun c20 => ?_) (fun c20 => absurd (lit_le (show (27 : Int32) = nI 27 by decide) (by omega) (by omega)) c20)
      refine g_ild3 hC dX4_leastLoss_118 ?_
      rcases (show w = 0 ∨ w = 1 ∨ w = 2 by omega) with rfl | rfl | rfl
      · refine g_look (off := 25) 144 hC dX4_leastLoss_119 (by decide) (by decide) (by decide) ?_
        refine g_ild4 hC dX4_leastLoss_144 ?_
        exact hE _ _ _ _ _ _ dX4_leastLoss_146 (Nat.le_refl _) (Nat.le_refl _) ⟨by first | rfl | (simp [rdp]), hI⟩
      · refine g_look (off := 28) 147 hC dX4_leastLoss_119 (by decide) (by decide) (by decide) ?_
        refine g_ild5 hC dX4_leastLoss_147 ?_
        exact hE _ _ _ _ _ _ dX4_leastLoss_149 (Nat.le_refl _) (Nat.le_refl _) ⟨by first | rfl | (simp [rdp]), hI⟩
      · refine g_look (off := 31) 150 hC dX4_leastLoss_119 (by decide) (by decide) (by decide) ?_
        refine g_ild6 hC dX4_leastLoss_150 ?_
        exact hE _ _ _ _ _ _ dX4_leastLoss_152 (Nat.le_refl _) (Nat.le_refl _) ⟨by first | rfl | (simp [rdp]), hI⟩
    | succ m ihk =>
      intro k σ hk hI
      have hSk : Slp (rP k) (rQ k) (rR k) := r_slp k (by omega)
      refine g_ild7 hC dX4_leastLoss_16 ?_
      refine g_bipush 27 hC dX4_leastLoss_18 (by decide) ?_
      refine g_icmp_ge 118 hC dX4_leastLoss_20 (by decide) (fun c20 => absurd c20 (lit_nle (show (27 : Int32) = nI 27 by decide) (by omega) (by omega))) (fun c20 => ?_)
      refine g_ild7 hC dX4_leastLoss_23 ?_
      refine g_bipush 9 hC dX4_leastLoss_25 (by decide) ?_
      refine g_idiv hC dX4_leastLoss_27 (by decide) ?_
      refine g_iconst 1 hC dX4_leastLoss_28 (by decide) ?_
      refine g_isub hC dX4_leastLoss_29 ?_
      refine g_ist8 hC dX4_leastLoss_30 rfl ?_
      refine g_ild7 hC dX4_leastLoss_32 ?_
      refine g_iconst 3 hC dX4_leastLoss_34 (by decide) ?_
      refine g_idiv hC dX4_leastLoss_35 (by decide) ?_
      refine g_iconst 3 hC dX4_leastLoss_36 (by decide) ?_
      refine g_irem hC dX4_leastLoss_37 (by decide) ?_
      refine g_iconst 1 hC dX4_leastLoss_38 (by decide) ?_
      refine g_isub hC dX4_leastLoss_39 ?_
      refine g_ist9 hC dX4_leastLoss_40 rfl ?_
      refine g_ild7 hC dX4_leastLoss_42 ?_
      refine g_iconst 3 hC dX4_leastLoss_44 (by decide) ?_
      refine g_irem hC dX4_leastLoss_45 (by decide) ?_
      refine g_iconst 1 hC dX4_leastLoss_46 (by decide) ?_
      refine g_isub hC dX4_leastLoss_47 ?_
      refine g_ist10 hC dX4_leastLoss_48 rfl ?_
      refine g_ild8 hC dX4_leastLoss_50 ?_
      refine g_if_ne 65 hC dX4_leastLoss_52 (by decide) (fun c52 => ?_) (fun c52 => ?_)
      · refine g_ald0 hC dX4_leastLoss_65 ?_
        refine g_ald1 hC dX4_leastLoss_66 ?_
        refine g_ild8 hC dX4_leastLoss_67 ?_
        refine g_ild9 hC dX4_leastLoss_69 ?_
        refine g_ild10 hC dX4_leastLoss_71 ?_
        refine k_X4_level (t := t) (s := s) hC tw_3_81 dX4_leastLoss_73 (by decide) ⟨by omega, by omega⟩ (Nat.le_of_ble_eq_true rfl) ⟨hs8, hs, RS_f9 hRS hI, hSk⟩ ?_
        intro σ1 hq
        have hR1 := RS_f9 (RS_f9 hRS hI) hq.1
        refine g_ald0 hC dX4_leastLoss_76 ?_
        refine g_ald2 hC dX4_leastLoss_77 ?_
        refine k_X4_lowestOf (t := t) (s := s) (f := f) (p := rP k) (q := rQ k) (r := rR k) hC tw_3_141 dX4_leastLoss_78 (by decide) ⟨by omega, by omega⟩ (Nat.le_of_ble_eq_true rfl) ⟨hs, hR1, hSk, hq.2, hf, hw⟩ ?_
        refine g_iconst 1 hC dX4_leastLoss_81 (by decide) ?_
        refine g_isub hC dX4_leastLoss_82 ?_
        refine g_ist11 hC dX4_leastLoss_83 rfl ?_
        refine g_ald0 hC dX4_leastLoss_85 ?_
        refine g_ild11 hC dX4_leastLoss_86 ?_
        refine k_X4_lossAt (t := t) (s := s) (p := rP k) (q := rQ k) (r := rR k) (d := sRidD t f s k) hC tw_3_145 dX4_leastLoss_88 (by decide) ⟨by omega, by omega⟩ (Nat.le_of_ble_eq_true rfl) ⟨hs, hR1, hSk, hq.2⟩ ?_
        refine g_ild6 hC dX4_leastLoss_91 ?_
        refine g_icmp_ge 112 hC dX4_leastLoss_93 (by decide) (fun c93 => ?_) (fun c93 => ?_)
        · refine g_inc7 1 hC dX4_leastLoss_112 (by decide) rfl ?_
          refine g_goto 16 hC dX4_leastLoss_115 (by decide) ?_
          first
          | (have e9 := rid_t (fun q9 => by have g9 := r_n13 q9; first | exact c52 g9.1 | exact c57 g9.2.1 | exact c62 g9.2.2) (Int32.not_le.mp c93)
             have e8 : rdp t f s (k + 1) = sRidD t f s k := by rw [rdp, if_neg (by omega), e9]
             have h9 := ihk (k + 1) σ1 (by omega) (F9_tr hI hq.1)
             rw [e8, e9] at h9
             refine g_keep [true, true, true, true, true, true, true, true, false, false, false, false] ?_
             rw [nI_1]
             exact h9)
          | (have e9 := rid_f (τ := t) (f := f) (s := s) (k := k) (Or.inr (Int32.not_lt.mpr c93))
             have h9 := ihk (k + 1) σ1 (by omega) (F9_tr hI hq.1)
             rw [e9.1, e9.2] at h9
             refine g_keep [true, true, true, true, true, true, true, true, false, false, false, false] ?_
             rw [nI_1]
             exact h9)
          | (have e9 := rid_f (τ := t) (f := f) (s := s) (k := k) (Or.inl (r_13 k (by omega) c52 c57 c62))
             have h9 := ihk (k + 1) σ (by omega) hI
             rw [e9.1, e9.2] at h9
             refine g_keep [true, true, true, true, true, true, true, true, false, false, false, false] ?_
             rw [nI_1]
             exact h9)
        · refine g_ild7 hC dX4_leastLoss_96 ?_
          refine g_ist4 hC dX4_leastLoss_98 rfl ?_
          refine g_ild11 hC dX4_leastLoss_100 ?_
          refine g_ist5 hC dX4_leastLoss_102 rfl ?_
          refine g_ald0 hC dX4_leastLoss_104 ?_
          refine g_ild11 hC dX4_leastLoss_105 ?_
          refine k_X4_lossAt (t := t) (s := s) (p := rP k) (q := rQ k) (r := rR k) (d := sRidD t f s k) hC tw_3_145 dX4_leastLoss_107 (by decide) ⟨by omega, by omega⟩ (Nat.le_of_ble_eq_true rfl) ⟨hs, hR1, hSk, hq.2⟩ ?_
          refine g_ist6 hC dX4_leastLoss_110 rfl ?_
          refine g_inc7 1 hC dX4_leastLoss_112 (by decide) rfl ?_
          refine g_goto 16 hC dX4_leastLoss_115 (by decide) ?_
          first
          | (have e9 := rid_t (fun q9 => by have g9 := r_n13 q9; first | exact c52 g9.1 | exact c57 g9.2.1 | exact c62 g9.2.2) (Int32.not_le.mp c93)
             have e8 : rdp t f s (k + 1) = sRidD t f s k := by rw [rdp, if_neg (by omega), e9]
             have h9 := ihk (k + 1) σ1 (by omega) (F9_tr hI hq.1)
             rw [e8, e9] at h9
             refine g_keep [true, true, true, true, true, true, true, true, false, false, false, false] ?_
             rw [nI_1]
             exact h9)
          | (have e9 := rid_f (τ := t) (f := f) (s := s) (k := k) (Or.inr (Int32.not_lt.mpr c93))
             have h9 := ihk (k + 1) σ1 (by omega) (F9_tr hI hq.1)
             rw [e9.1, e9.2] at h9
             refine g_keep [true, true, true, true, true, true, true, true, false, false, false, false] ?_
             rw [nI_1]
             exact h9)
          | (have e9 := rid_f (τ := t) (f := f) (s := s) (k := k) (Or.inl (r_13 k (by omega) c52 c57 c62))
             have h9 := ihk (k + 1) σ (by omega) hI
             rw [e9.1, e9.2] at h9
             refine g_keep [true, true, true, true, true, true, true, true, false, false, false, false] ?_
             rw [nI_1]
             exact h9)
      · refine g_ild9 hC dX4_leastLoss_55 ?_
        refine g_if_ne 65 hC dX4_leastLoss_57 (by decide) (fun c57 => ?_) (fun c57 => ?_)
        · refine g_ald0 hC dX4_leastLoss_65 ?_
          refine g_ald1 hC dX4_leastLoss_66 ?_
          refine g_ild8 hC dX4_leastLoss_67 ?_
          refine g_ild9 hC dX4_leastLoss_69 ?_
          refine g_ild10 hC dX4_leastLoss_71 ?_
          refine k_X4_level (t := t) (s := s) hC tw_3_81 dX4_leastLoss_73 (by decide) ⟨by omega, by omega⟩ (Nat.le_of_ble_eq_true rfl) ⟨hs8, hs, RS_f9 hRS hI, hSk⟩ ?_
          intro σ1 hq
          have hR1 := RS_f9 (RS_f9 hRS hI) hq.1
          refine g_ald0 hC dX4_leastLoss_76 ?_
          refine g_ald2 hC dX4_leastLoss_77 ?_
          refine k_X4_lowestOf (t := t) (s := s) (f := f) (p := rP k) (q := rQ k) (r := rR k) hC tw_3_141 dX4_leastLoss_78 (by decide) ⟨by omega, by omega⟩ (Nat.le_of_ble_eq_true rfl) ⟨hs, hR1, hSk, hq.2, hf, hw⟩ ?_
          refine g_iconst 1 hC dX4_leastLoss_81 (by decide) ?_
          refine g_isub hC dX4_leastLoss_82 ?_
          refine g_ist11 hC dX4_leastLoss_83 rfl ?_
          refine g_ald0 hC dX4_leastLoss_85 ?_
          refine g_ild11 hC dX4_leastLoss_86 ?_
          refine k_X4_lossAt (t := t) (s := s) (p := rP k) (q := rQ k) (r := rR k) (d := sRidD t f s k) hC tw_3_145 dX4_leastLoss_88 (by decide) ⟨by omega, by omega⟩ (Nat.le_of_ble_eq_true rfl) ⟨hs, hR1, hSk, hq.2⟩ ?_
          refine g_ild6 hC dX4_leastLoss_91 ?_
          refine g_icmp_ge 112 hC dX4_leastLoss_93 (by decide) (fun c93 => ?_) (fun c93 => ?_)
          · refine g_inc7 1 hC dX4_leastLoss_112 (by decide) rfl ?_
            refine g_goto 16 hC dX4_leastLoss_115 (by decide) ?_
            first
            | (have e9 := rid_t (fun q9 => by have g9 := r_n13 q9; first | exact c52 g9.1 | exact c57 g9.2.1 | exact c62 g9.2.2) (Int32.not_le.mp c93)
               have e8 : rdp t f s (k + 1) = sRidD t f s k := by rw [rdp, if_neg (by omega), e9]
               have h9 := ihk (k + 1) σ1 (by omega) (F9_tr hI hq.1)
               rw [e8, e9] at h9
               refine g_keep [true, true, true, true, true, true, true, true, false, false, false, false] ?_
               rw [nI_1]
               exact h9)
            | (have e9 := rid_f (τ := t) (f := f) (s := s) (k := k) (Or.inr (Int32.not_lt.mpr c93))
               have h9 := ihk (k + 1) σ1 (by omega) (F9_tr hI hq.1)
               rw [e9.1, e9.2] at h9
               refine g_keep [true, true, true, true, true, true, true, true, false, false, false, false] ?_
               rw [nI_1]
               exact h9)
            | (have e9 := rid_f (τ := t) (f := f) (s := s) (k := k) (Or.inl (r_13 k (by omega) c52 c57 c62))
               have h9 := ihk (k + 1) σ (by omega) hI
               rw [e9.1, e9.2] at h9
               refine g_keep [true, true, true, true, true, true, true, true, false, false, false, false] ?_
               rw [nI_1]
               exact h9)
          · refine g_ild7 hC dX4_leastLoss_96 ?_
            refine g_ist4 hC dX4_leastLoss_98 rfl ?_
            refine g_ild11 hC dX4_leastLoss_100 ?_
            refine g_ist5 hC dX4_leastLoss_102 rfl ?_
            refine g_ald0 hC dX4_leastLoss_104 ?_
            refine g_ild11 hC dX4_leastLoss_105 ?_
            refine k_X4_lossAt (t := t) (s := s) (p := rP k) (q := rQ k) (r := rR k) (d := sRidD t f s k) hC tw_3_145 dX4_leastLoss_107 (by decide) ⟨by omega, by omega⟩ (Nat.le_of_ble_eq_true rfl) ⟨hs, hR1, hSk, hq.2⟩ ?_
            refine g_ist6 hC dX4_leastLoss_110 rfl ?_
            refine g_inc7 1 hC dX4_leastLoss_112 (by decide) rfl ?_
            refine g_goto 16 hC dX4_leastLoss_115 (by decide) ?_
            first
            | (have e9 := rid_t (fun q9 => by have g9 := r_n13 q9; first | exact c52 g9.1 | exact c57 g9.2.1 | exact c62 g9.2.2) (Int32.not_le.mp c93)
               have e8 : rdp t f s (k + 1) = sRidD t f s k := by rw [rdp, if_neg (by omega), e9]
               have h9 := ihk (k + 1) σ1 (by omega) (F9_tr hI hq.1)
               rw [e8, e9] at h9
               refine g_keep [true, true, true, true, true, true, true, true, false, false, false, false] ?_
               rw [nI_1]
               exact h9)
            | (have e9 := rid_f (τ := t) (f := f) (s := s) (k := k) (Or.inr (Int32.not_lt.mpr c93))
               have h9 := ihk (k + 1) σ1 (by omega) (F9_tr hI hq.1)
               rw [e9.1, e9.2] at h9
               refine g_keep [true, true, true, true, true, true, true, true, false, false, false, false] ?_
               rw [nI_1]
               exact h9)
            | (have e9 := rid_f (τ := t) (f := f) (s := s) (k := k) (Or.inl (r_13 k (by omega) c52 c57 c62))
               have h9 := ihk (k + 1) σ (by omega) hI
               rw [e9.1, e9.2] at h9
               refine g_keep [true, true, true, true, true, true, true, true, false, false, false, false] ?_
               rw [nI_1]
               exact h9)
        · refine g_ild10 hC dX4_leastLoss_60 ?_
          refine g_if_eq 112 hC dX4_leastLoss_62 (by decide) (fun c62 => ?_) (fun c62 => ?_)
          · refine g_inc7 1 hC dX4_leastLoss_112 (by decide) rfl ?_
            refine g_goto 16 hC dX4_leastLoss_115 (by decide) ?_
            first
            | (have e9 := rid_t (fun q9 => by have g9 := r_n13 q9; first | exact c52 g9.1 | exact c57 g9.2.1 | exact c62 g9.2.2) (Int32.not_le.mp c93)
               have e8 : rdp t f s (k + 1) = sRidD t f s k := by rw [rdp, if_neg (by omega), e9]
               have h9 := ihk (k + 1) σ1 (by omega) (F9_tr hI hq.1)
               rw [e8, e9] at h9
               refine g_keep [true, true, true, true, true, true, true, true, false, false, false, false] ?_
               rw [nI_1]
               exact h9)
            | (have e9 := rid_f (τ := t) (f := f) (s := s) (k := k) (Or.inr (Int32.not_lt.mpr c93))
               have h9 := ihk (k + 1) σ1 (by omega) (F9_tr hI hq.1)
               rw [e9.1, e9.2] at h9
               refine g_keep [true, true, true, true, true, true, true, true, false, false, false, false] ?_
               rw [nI_1]
               exact h9)
            | (have e9 := rid_f (τ := t) (f := f) (s := s) (k := k) (Or.inl (r_13 k (by omega) c52 c57 c62))
               have h9 := ihk (k + 1) σ (by omega) hI
               rw [e9.1, e9.2] at h9
               refine g_keep [true, true, true, true, true, true, true, true, false, false, false, false] ?_
               rw [nI_1]
               exact h9)
          · refine g_ald0 hC dX4_leastLoss_65 ?_
            refine g_ald1 hC dX4_leastLoss_66 ?_
            refine g_ild8 hC dX4_leastLoss_67 ?_
            refine g_ild9 hC dX4_leastLoss_69 ?_
            refine g_ild10 hC dX4_leastLoss_71 ?_
            refine k_X4_level (t := t) (s := s) hC tw_3_81 dX4_leastLoss_73 (by decide) ⟨by omega, by omega⟩ (Nat.le_of_ble_eq_true rfl) ⟨hs8, hs, RS_f9 hRS hI, hSk⟩ ?_
            intro σ1 hq
            have hR1 := RS_f9 (RS_f9 hRS hI) hq.1
            refine g_ald0 hC dX4_leastLoss_76 ?_
            refine g_ald2 hC dX4_leastLoss_77 ?_
            refine k_X4_lowestOf (t := t) (s := s) (f := f) (p := rP k) (q := rQ k) (r := rR k) hC tw_3_141 dX4_leastLoss_78 (by decide) ⟨by omega, by omega⟩ (Nat.le_of_ble_eq_true rfl) ⟨hs, hR1, hSk, hq.2, hf, hw⟩ ?_
            refine g_iconst 1 hC dX4_leastLoss_81 (by decide) ?_
            refine g_isub hC dX4_leastLoss_82 ?_
            refine g_ist11 hC dX4_leastLoss_83 rfl ?_
            refine g_ald0 hC dX4_leastLoss_85 ?_
            refine g_ild11 hC dX4_leastLoss_86 ?_
            refine k_X4_lossAt (t := t) (s := s) (p := rP k) (q := rQ k) (r := rR k) (d := sRidD t f s k) hC tw_3_145 dX4_leastLoss_88 (by decide) ⟨by omega, by omega⟩ (Nat.le_of_ble_eq_true rfl) ⟨hs, hR1, hSk, hq.2⟩ ?_
            refine g_ild6 hC dX4_leastLoss_91 ?_
            refine g_icmp_ge 112 hC dX4_leastLoss_93 (by decide) (fun c93 => ?_) (fun c93 => ?_)
            · refine g_inc7 1 hC dX4_leastLoss_112 (by decide) rfl ?_
              refine g_goto 16 hC dX4_leastLoss_115 (by decide) ?_
              first
              | (have e9 := rid_t (fun q9 => by have g9 := r_n13 q9; first | exact c52 g9.1 | exact c57 g9.2.1 | exact c62 g9.2.2) (Int32.not_le.mp c93)
                 have e8 : rdp t f s (k + 1) = sRidD t f s k := by rw [rdp, if_neg (by omega), e9]
                 have h9 := ihk (k + 1) σ1 (by omega) (F9_tr hI hq.1)
                 rw [e8, e9] at h9
                 refine g_keep [true, true, true, true, true, true, true, true, false, false, false, false] ?_
                 rw [nI_1]
                 exact h9)
              | (have e9 := rid_f (τ := t) (f := f) (s := s) (k := k) (Or.inr (Int32.not_lt.mpr c93))
                 have h9 := ihk (k + 1) σ1 (by omega) (F9_tr hI hq.1)
                 rw [e9.1, e9.2] at h9
                 refine g_keep [true, true, true, true, true, true, true, true, false, false, false, false] ?_
                 rw [nI_1]
                 exact h9)
              | (have e9 := rid_f (τ := t) (f := f) (s := s) (k := k) (Or.inl (r_13 k (by omega) c52 c57 c62))
                 have h9 := ihk (k + 1) σ (by omega) hI
                 rw [e9.1, e9.2] at h9
                 refine g_keep [true, true, true, true, true, true, true, true, false, false, false, false] ?_
                 rw [nI_1]
                 exact h9)
            · refine g_ild7 hC dX4_leastLoss_96 ?_
              refine g_ist4 hC dX4_leastLoss_98 rfl ?_
              refine g_ild11 hC dX4_leastLoss_100 ?_
              refine g_ist5 hC dX4_leastLoss_102 rfl ?_
              refine g_ald0 hC dX4_leastLoss_104 ?_
              refine g_ild11 hC dX4_leastLoss_105 ?_
              refine k_X4_lossAt (t := t) (s := s) (p := rP k) (q := rQ k) (r := rR k) (d := sRidD t f s k) hC tw_3_145 dX4_leastLoss_107 (by decide) ⟨by omega, by omega⟩ (Nat.le_of_ble_eq_true rfl) ⟨hs, hR1, hSk, hq.2⟩ ?_
              refine g_ist6 hC dX4_leastLoss_110 rfl ?_
              refine g_inc7 1 hC dX4_leastLoss_112 (by decide) rfl ?_
              refine g_goto 16 hC dX4_leastLoss_115 (by decide) ?_
              first
              | (have e9 := rid_t (fun q9 => by have g9 := r_n13 q9; first | exact c52 g9.1 | exact c57 g9.2.1 | exact c62 g9.2.2) (Int32.not_le.mp c93)
                 have e8 : rdp t f s (k + 1) = sRidD t f s k := by rw [rdp, if_neg (by omega), e9]
                 have h9 := ihk (k + 1) σ1 (by omega) (F9_tr hI hq.1)
                 rw [e8, e9] at h9
                 refine g_keep [true, true, true, true, true, true, true, true, false, false, false, false] ?_
                 rw [nI_1]
                 exact h9)
              | (have e9 := rid_f (τ := t) (f := f) (s := s) (k := k) (Or.inr (Int32.not_lt.mpr c93))
                 have h9 := ihk (k + 1) σ1 (by omega) (F9_tr hI hq.1)
                 rw [e9.1, e9.2] at h9
                 refine g_keep [true, true, true, true, true, true, true, true, false, false, false, false] ?_
                 rw [nI_1]
                 exact h9)
              | (have e9 := rid_f (τ := t) (f := f) (s := s) (k := k) (Or.inl (r_13 k (by omega) c52 c57 c62))
                 have h9 := ihk (k + 1) σ (by omega) hI
                 rw [e9.1, e9.2] at h9
                 refine g_keep [true, true, true, true, true, true, true, true, false, false, false, false] ?_
                 rw [nI_1]
                 exact h9)
  refine g_iconst (-1) hC dX4_leastLoss_0 (by decide) ?_
  refine g_ist4 hC dX4_leastLoss_1 rfl ?_
  refine g_sipush (-1000) hC dX4_leastLoss_3 (by decide) ?_
  refine g_ist5 hC dX4_leastLoss_6 rfl ?_
  refine g_sipush 1001 hC dX4_leastLoss_8 (by decide) ?_
  refine g_ist6 hC dX4_leastLoss_11 rfl ?_
  refine g_iconst 0 hC dX4_leastLoss_13 (by decide) ?_
  refine g_ist7 hC dX4_leastLoss_14 rfl ?_
  exact lpk 27 0 τ (by omega) (F9.rf τ)
theorem k_X4_leastLoss {l : Launch} {X : gC} {cc : ByteArray} {own : String} {dd ca sa kc nc pc : Nat} {ls : List (Option Value)} {st : List Value} {σ : Mem} {idx : Nat} {t : Mem} {s f w : Nat} (hC : gOk wX l X cc own dd ca sa) (hlk : Cond.methodLink own idx yX4_leastLoss ∈ TB) (hd : decode cc pc = .ok (.invokevirtual idx, 3)) (hdd : 3 + 1 ≤ dd) (hfr : kc + 0 ≤ ca ∧ nc + 0 ≤ sa) (hrest : (st.map fun v => v.category).sum ≤ 8)  (hP : s < nS t ∧ RS σ t ∧ f < nF t ∧ ¬ nI (sFc t f (nI s) false) = 0 ∧ w < 3) (kk : ∀ (rr : Int32) (σ1 : Mem), rr = (if w = 0 then (sRidS t f s 27).1 else if w = 1 then (sRidS t f s 27).2.1 else (sRidS t f s 27).2.2) ∧ F9 σ σ1 → G wX X kc nc (pc + 3) ls (.int rr :: st) σ1) : G wX X kc nc pc ls (.int (nI w) :: .ref (gA X (iFlaw f)) :: .ref (gA X (iStone s)) :: .ref (gA X 190) :: st) σ := by
  exact g_cVI 3 hC (c_X4_leastLoss l t s f w) hlk ⟨tw_3_138, tw_3_139, tw_1_6, tw_3_140⟩ (by decide +kernel) ⟨hdd, by decide⟩ hfr rfl rfl rfl (rv_Trial _ _) hrest rfl hd hP kk
