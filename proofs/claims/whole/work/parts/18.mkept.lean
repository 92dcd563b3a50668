/-! a quotient of two whole numbers is a number -/
theorem fp_asm (s : Bool) (e t : Nat) (h : (e ≤ 2046 ∧ t < 2 ^ 52) ∨ (e = 2047 ∧ t = 0)) : vf_n64 (UInt64.ofNat (FP.Core.assemble FP.Core.b64 s e t)) := by
  unfold vf_n64
  rw [UInt64.le_iff_toNat_le, UInt64.toNat_and, UInt64.toNat_ofNat']
  rw [show (9223372036854775807 : UInt64).toNat = 2 ^ 63 - 1 from rfl, Nat.and_two_pow_sub_one_eq_mod]
  rw [show (9218868437227405312 : UInt64).toNat = 9218868437227405312 from rfl]
  rw [show FP.Core.assemble FP.Core.b64 s e t = (s.toNat * 2048 + e) * 4503599627370496 + t from rfl]
  have hs : s.toNat = 0 ∨ s.toNat = 1 := by cases s <;> simp
  rcases hs with hs | hs <;> rw [hs] <;> omega
theorem fp_settle (s : Bool) (c : Nat) (q : Int) : vf_n64 (UInt64.ofNat (FP.Core.encode FP.Core.b64 (FP.Core.settle FP.Core.b64 s c q))) := by
  have hb : ∀ c q, c < 2 ^ 53 → vf_n64 (UInt64.ofNat (FP.Core.encode FP.Core.b64 (FP.Core.bound FP.Core.b64 s c q))) := by
    intro c q hc
    unfold FP.Core.bound
    by_cases hq : q ≤ FP.Core.b64.qmax
    · rw [if_pos hq]
      have hq2 : q ≤ 971 := hq
      show vf_n64 (UInt64.ofNat (if c < FP.Core.b64.tails then _ else _))
      by_cases hc2 : c < FP.Core.b64.tails
      · rw [if_pos hc2]
        have hc3 : c < 4503599627370496 := hc2
        exact fp_asm s 0 c (Or.inl ⟨by omega, by omega⟩)
      · rw [if_neg hc2]
        have hc3 : ¬ c < 4503599627370496 := hc2
        refine fp_asm s _ _ (Or.inl ⟨?_, ?_⟩)
        · have : (q - FP.Core.b64.qmin) = q + 1074 := by rw [show FP.Core.b64.qmin = -1074 from rfl]; omega
          rw [this]
          omega
        · rw [show FP.Core.b64.tails = 4503599627370496 from rfl]
          omega
    · rw [if_neg hq]
      exact fp_asm s _ 0 (Or.inr ⟨rfl, rfl⟩)
  unfold FP.Core.settle
  by_cases hc : c < 2 ^ FP.Core.b64.p
  · rw [if_pos hc]
    exact hb c q hc
  · rw [if_neg hc]
    exact hb _ _ (by rw [show FP.Core.b64.tails = 4503599627370496 from rfl]; omega)
def fpFin (d : FP.Core.Datum) (z : Bool) : Bool := match d with
  | .fin _ c _ => z || decide (c ≠ 0)
  | _ => false
theorem fp_div {x y : UInt64} (hx : fpFin (FP.Core.decode FP.Core.b64 x.toNat) true = true) (hy : fpFin (FP.Core.decode FP.Core.b64 y.toNat) false = true) : vf_n64 (FP.ddiv x y) := by
  show vf_n64 (UInt64.ofNat (FP.Core.encode FP.Core.b64 (FP.Core.quotient FP.Core.b64 (FP.Core.decode FP.Core.b64 x.toNat) (FP.Core.decode FP.Core.b64 y.toNat))))
  generalize FP.Core.decode FP.Core.b64 x.toNat = dx at hx ⊢
  generalize FP.Core.decode FP.Core.b64 y.toNat = dy at hy ⊢
  cases dx with
  | nan => cases hx
  | inf s => cases hx
  | fin s c q =>
    cases dy with
    | nan => cases hy
    | inf s => cases hy
    | fin t d r =>
      have hd : d ≠ 0 := by simpa [fpFin] using hy
      show vf_n64 (UInt64.ofNat (FP.Core.encode FP.Core.b64 (if d = 0 then _ else FP.Core.roundRatio FP.Core.b64 (s != t) c d (q - r))))
      rw [if_neg hd]
      unfold FP.Core.roundRatio
      by_cases hc : c = 0
      · rw [if_pos hc]
        exact fp_asm _ 0 0 (Or.inl ⟨by omega, by omega⟩)
      · rw [if_neg hc]
        exact fp_settle _ _ _
theorem fp_num' : ∀ a, a < 9 → ∀ b, b < 1000 → fpFin (FP.Core.decode FP.Core.b64 (FP.i2d (nI (1000 * a + b))).toNat) true = true := by decide +kernel
theorem fp_num (n : Nat) (h : n < 8001) : fpFin (FP.Core.decode FP.Core.b64 (FP.i2d (nI n)).toNat) true = true := by
  have := fp_num' (n / 1000) (by omega) (n % 1000) (by omega)
  rwa [show 1000 * (n / 1000) + n % 1000 = n by omega] at this
theorem fp_den : ∀ n, n < 1001 → n ≠ 0 → fpFin (FP.Core.decode FP.Core.b64 (FP.i2d (nI n)).toNat) false = true := by decide +kernel
theorem sumI_nI (g : Nat → Nat) : ∀ n, sumI (fun s => nI (g s)) n = nI (sumN g n) := by
  intro n
  induction n with
  | zero => rfl
  | succ n ih => simp only [sumI, sumN, ih, nI_add]
theorem sumN_le (g : Nat → Nat) (B : Nat) (h : ∀ k, g k ≤ B) : ∀ n, sumN g n ≤ B * n := by
  intro n
  induction n with
  | zero => simp [sumN]
  | succ n ih =>
    have := h n
    simp only [sumN]
    rw [Nat.mul_succ]
    omega
theorem sCt_1 (τ : Mem) : sCt τ 1 = nI (sumN (fun s => sWt τ (nI s)) (nS τ)) := by
  rw [← sumI_nI]
  rfl
theorem sCt_0 {τ : Mem} (hM : MI τ) : sCt τ 0 = nI (nC τ * nR τ * nL τ) := by
  obtain ⟨⟨hC1, hC2, hC3⟩, ⟨hR1, hR2, hR3⟩, ⟨hL1, hL2, hL3⟩⟩ := MI_C hM
  show τ 0 1 * τ 0 2 * τ 0 3 = _
  rw [hC1, hR1, hL1, nI_mul', nI_mul']
theorem vol_rng {a b c : Nat} (ha : 1 ≤ a ∧ a ≤ 10) (hb : 1 ≤ b ∧ b ≤ 10) (hc : 1 ≤ c ∧ c ≤ 10) : 1 ≤ a * b * c ∧ a * b * c ≤ 1000 := by
  have h1 : 1 ≤ a * b := Nat.mul_pos ha.1 hb.1
  have h2 : a * b ≤ 10 * 10 := Nat.mul_le_mul ha.2 hb.2
  exact ⟨Nat.mul_pos h1 hc.1, Nat.mul_le_mul h2 hc.2⟩
theorem kept_num {τ : Mem} (hM : MI τ) : vf_n64 (FP.ddiv (FP.i2d (sCt τ 1)) (FP.i2d (sCt τ 0))) := by
  obtain ⟨⟨hC1, hC2, hC3⟩, ⟨hR1, hR2, hR3⟩, ⟨hL1, hL2, hL3⟩⟩ := MI_C hM
  obtain ⟨-, hS2, hS3⟩ := MI_S hM
  rw [sCt_1, sCt_0 hM]
  have h1 := sumN_le (fun s => sWt τ (nI s)) 1000 (fun k => cnt_le _ 1000) (nS τ)
  have h2 := vol_rng ⟨hC2, hC3⟩ ⟨hR2, hR3⟩ ⟨hL2, hL3⟩
  exact fp_div (fp_num _ (by omega)) (fp_den _ (by omega) (by omega))

set_option maxRecDepth 100000 in
set_option maxHeartbeats 4000000 in
/-- X6_kept -/
theorem c_X6_kept (l : Launch) : gMD wM l yX6_kept (.code yX6_kept cX6_kept 1 (some FieldType.double)) 8 0 0 (fun A => [.ref (A 0)]) (fun τ => MI τ) (fun τ rr τ1 => rr = FP.ddiv (FP.i2d (sCt (mTh τ) 1)) (FP.i2d (sCt (mTh τ) 0)) ∧ τ1 = mTh τ) := by
  refine gMD_of (by decide) (fun A => Nat.le_of_ble_eq_true rfl) ?_
  intro X τ hC hP hE
  have hC : gOk wM l X cX6_kept "GemCutModel" 8 0 0 := hC
  show G wM X 0 0 0 [some (.ref (gA X 0))] [] τ
  have hM : MI (mTh τ) := MI_th hP 0
  refine g_ald0 hC dX6_kept_0 ?_
  refine g_iconst 0 hC dX6_kept_1 (by decide) ?_
  refine mp_Model_thrown hC tw_4_22 dX6_kept_2 ?_
  refine g_ald0 hC dX6_kept_5 ?_
  refine g_iconst 1 hC dX6_kept_6 (by decide) ?_
  refine k_X6_counted (w := 1) hC tw_4_221 dX6_kept_7 (by decide) ⟨by omega, by omega⟩ (Nat.le_of_ble_eq_true rfl) ⟨hM, by decide⟩ ?_
  refine g_i2d hC dX6_kept_10 ?_
  refine g_ald0 hC dX6_kept_11 ?_
  refine g_iconst 0 hC dX6_kept_12 (by decide) ?_
  refine k_X6_counted (w := 0) hC tw_4_221 dX6_kept_13 (by decide) ⟨by omega, by omega⟩ (Nat.le_of_ble_eq_true rfl) ⟨hM, by decide⟩ ?_
  refine g_i2d hC dX6_kept_16 ?_
  refine g_ddiv hC dX6_kept_17 (kept_num hM) ?_
  exact hE _ _ _ _ _ _ dX6_kept_18 (Nat.le_refl _) (Nat.le_refl _) ⟨rfl, rfl⟩
theorem k_X6_kept {l : Launch} {X : gC} {cc : ByteArray} {own : String} {dd ca sa kc nc pc : Nat} {ls : List (Option Value)} {st : List Value} {σ : Mem} {idx : Nat}  (hC : gOk wM l X cc own dd ca sa) (hlk : Cond.methodLink own idx yX6_kept ∈ TB) (hd : decode cc pc = .ok (.invokevirtual idx, 3)) (hdd : 8 + 1 ≤ dd) (hf : kc + 0 ≤ ca ∧ nc + 0 ≤ sa) (hrest : (st.map fun v => v.category).sum ≤ 8)  (hP : MI σ) (kk : G wM X kc nc (pc + 3) ls (.double (FP.ddiv (FP.i2d (sCt (mTh σ) 1)) (FP.i2d (sCt (mTh σ) 0))) :: st) (mTh σ)) : G wM X kc nc pc ls (.ref (gA X 0) :: st) σ := by
  exact g_cVD 0 hC (c_X6_kept l) hlk ⟨tw_5_6, tw_5_7, tw_1_7, tw_5_8⟩ (by decide +kernel) ⟨hdd, by decide⟩ hf rfl rfl rfl (gW_at wM _ _ (by decide)) hrest rfl hd hP (fun rr σ1 hq => by obtain ⟨rfl, rfl⟩ := hq; exact kk)
set_option maxRecDepth 100000 in
set_option maxHeartbeats 4000000 in
/-- X6_flaw -/
theorem c_X6_flaw (l : Launch) (x y z ra se : Int32) : gMI wM l yX6_flaw (.code yX6_flaw cX6_flaw 7 (some FieldType.int)) 2 1 5 (fun A => [.ref (A 0), .int x, .int y, .int z, .int ra, .int se]) (fun τ => MI τ) (fun τ rr τ1 => rr = (mFlaw τ x y z ra se).1 ∧ τ1 = (mFlaw τ x y z ra se).2) := by
  refine gMI_of (by decide) (fun A => Nat.le_of_ble_eq_true rfl) ?_
  intro X τ hC hP hE
  have hC : gOk wM l X cX6_flaw "GemCutModel" 2 1 5 := hC
  show G wM X 0 0 0 [some (.ref (gA X 0)), some (.int x), some (.int y), some (.int z), some (.int ra), some (.int se), none] [] τ
  refine g_ald0 hC dX6_flaw_0 ?_
  refine g_iconst 0 hC dX6_flaw_1 (by decide) ?_
  refine mp_Model_thrown hC tw_4_22 dX6_flaw_2 ?_
  refine g_ald0 hC dX6_flaw_5 ?_
  refine g_ild1 hC dX6_flaw_6 ?_
  refine g_ild2 hC dX6_flaw_7 ?_
  refine g_ild3 hC dX6_flaw_8 ?_
  refine k_X6_isCell hC tw_4_15 dX6_flaw_9 (by decide) ⟨by omega, by omega⟩ (Nat.le_of_ble_eq_true rfl) ?_
  refine g_if_ne 21 hC dX6_flaw_12 (by decide) (fun c12 => ?_) (fun c12 => ?_)
  · refine g_ild4 hC dX6_flaw_21 ?_
    refine g_iconst 0 hC dX6_flaw_23 (by decide) ?_
    refine g_iconst 3 hC dX6_flaw_24 (by decide) ?_
    refine k_X6_isIn hC tw_4_19 dX6_flaw_25 (by decide) ⟨by omega, by omega⟩ (Nat.le_of_ble_eq_true rfl) ?_
    refine g_if_eq 42 hC dX6_flaw_28 (by decide) (fun c28 => ?_) (fun c28 => ?_)
    · refine g_ald0 hC dX6_flaw_42 ?_
      refine g_iconst 2 hC dX6_flaw_43 (by decide) ?_
      refine k_X6_fail hC tw_4_67 dX6_flaw_44 (by decide) ⟨by omega, by omega⟩ (Nat.le_of_ble_eq_true rfl) ?_
      (try simp only [ne_eq, b2i_eq0, Bool.not_eq_false, Int32.not_le, Int32.not_lt, Int32.zero_sub] at c12 c28)
      exact hE _ _ _ _ _ _ dX6_flaw_47 (by omega) (by omega) ⟨by simp [mFlaw, c12, c28], by simp [mFlaw, c12, c28]⟩
    · refine g_ild5 hC dX6_flaw_31 ?_
      refine g_iconst 1 hC dX6_flaw_33 (by decide) ?_
      refine g_bipush 9 hC dX6_flaw_34 (by decide) ?_
      refine k_X6_isIn hC tw_4_19 dX6_flaw_36 (by decide) ⟨by omega, by omega⟩ (Nat.le_of_ble_eq_true rfl) ?_
      refine g_if_ne 48 hC dX6_flaw_39 (by decide) (fun c39 => ?_) (fun c39 => ?_)
      · refine g_ald0 hC dX6_flaw_48 ?_
        refine mg_Model_flaws hC tw_4_27 dX6_flaw_49 ?_
        refine g_bipush 10 hC dX6_flaw_52 (by decide) ?_
        refine g_icmp_ne 63 hC dX6_flaw_54 (by decide) (fun c54 => ?_) (fun c54 => ?_)
        · (try simp only [ne_eq, b2i_eq0, Bool.not_eq_false, Int32.not_le, Int32.not_lt, Int32.zero_sub] at c12 c28 c39 c54)
          have hM : MI (mTh τ) := MI_th hP 0
          obtain ⟨hF1, hF2⟩ := MI_F hM
          have hF3 : nF (mTh τ) < 10 := by
            rcases Nat.lt_or_ge (nF (mTh τ)) 10 with h | h
            · exact h
            · have h10 : (mTh τ) 0 5 = 10 := by rw [hF1, show nF (mTh τ) = 10 by omega]; decide
              exact absurd h10 c54
          refine g_iconst 5 hC dX6_flaw_63 (by decide) ?_
          refine g_newM hC dX6_flaw_64 ⟨by decide, by decide⟩ (fun X1 hC1 hA1 hdrop => ?_)
          rw [← hA1 0 (by decide)]
          refine g_dup hC1 dX6_flaw_66 rfl ?_
          refine g_iconst 0 hC1 dX6_flaw_67 (by decide) ?_
          refine g_ild1 hC1 dX6_flaw_68 ?_
          refine ns_tmp 0 hC1 (by decide) (by decide) dX6_flaw_69 ?_
          refine g_dup hC1 dX6_flaw_70 rfl ?_
          refine g_iconst 1 hC1 dX6_flaw_71 (by decide) ?_
          refine g_ild2 hC1 dX6_flaw_72 ?_
          refine ns_tmp 1 hC1 (by decide) (by decide) dX6_flaw_73 ?_
          refine g_dup hC1 dX6_flaw_74 rfl ?_
          refine g_iconst 2 hC1 dX6_flaw_75 (by decide) ?_
          refine g_ild3 hC1 dX6_flaw_76 ?_
          refine ns_tmp 2 hC1 (by decide) (by decide) dX6_flaw_77 ?_
          refine g_dup hC1 dX6_flaw_78 rfl ?_
          refine g_iconst 3 hC1 dX6_flaw_79 (by decide) ?_
          refine g_ild4 hC1 dX6_flaw_80 ?_
          refine ns_tmp 3 hC1 (by decide) (by decide) dX6_flaw_82 ?_
          refine g_dup hC1 dX6_flaw_83 rfl ?_
          refine g_iconst 4 hC1 dX6_flaw_84 (by decide) ?_
          refine g_ild5 hC1 dX6_flaw_85 ?_
          refine ns_tmp 4 hC1 (by decide) (by decide) dX6_flaw_87 ?_
          refine g_ast6 hC1 dX6_flaw_88 rfl ?_
          refine g_ald6 hC1 dX6_flaw_90 ?_
          refine g_iconst 0 hC1 dX6_flaw_92 (by decide) ?_
          refine g_ald0 hC1 dX6_flaw_93 ?_
          refine ng_Model_flawTable hC1 tw_4_28 dX6_flaw_94 ?_
          refine g_iconst 5 hC1 dX6_flaw_97 (by decide) ?_
          refine g_ald0 hC1 dX6_flaw_98 ?_
          refine ng_Model_flaws hC1 tw_4_27 dX6_flaw_99 ?_
          refine g_imul hC1 dX6_flaw_102 ?_
          refine g_iconst 5 hC1 dX6_flaw_103 (by decide) ?_
          refine g_copy5 (i := 5) (j := 2) (M := 50) (dp := 5 * nF (mTh τ)) hC1 (by decide) tw_4_75 (by decide) (by decide) (ne_tmp _ _) (ne_flawTable _ _) (fidx hF1) (by omega) (by decide) (ne_flawTable _ _) (Nat.le_of_ble_eq_true rfl) dX6_flaw_104 ?_
          refine g_ald0 hC1 dX6_flaw_107 ?_
          refine g_dup hC1 dX6_flaw_108 rfl ?_
          refine ng_Model_flaws hC1 tw_4_27 dX6_flaw_109 ?_
          refine g_iconst 1 hC1 dX6_flaw_112 (by decide) ?_
          refine g_iadd hC1 dX6_flaw_113 ?_
          refine np_Model_flaws hC1 tw_4_27 dX6_flaw_114 ?_
          refine g_ald0 hC1 dX6_flaw_117 ?_
          refine ng_Model_flaws hC1 tw_4_27 dX6_flaw_118 ?_
          refine g_iconst 1 hC1 dX6_flaw_121 (by decide) ?_
          refine g_isub hC1 dX6_flaw_122 ?_
          refine hdrop _ _ _ _ _ _ ?_
          rw [hA1 0 (by decide)]
          refine g_mem (gFlaw (mTh τ) x y z ra se) (fun i hi => ?_) (hE _ _ _ _ _ _ dX6_flaw_123 (by decide) (by decide) ⟨?_, ?_⟩)
          · have hi5 : i < 5 := hi
            funext j
            match i, hi5 with
            | 0, _ =>
              by_cases hj : j = 5
              · subst hj; simp [gFlaw, upd2, updR, upd5]
              · simp [gFlaw, upd2, updR, upd5, hj]
            | 1, _ => simp [gFlaw, upd2, updR, upd5]
            | 2, _ =>
              simp only [gFlaw, upd2, updR, upd5, va_cpy]
              by_cases hj : 5 * nF (mTh τ) ≤ j ∧ j < 5 * nF (mTh τ) + 5
              · obtain ⟨t, ht, rfl⟩ : ∃ t, t < 5 ∧ j = 5 * nF (mTh τ) + t := ⟨j - 5 * nF (mTh τ), by omega, by omega⟩
                rw [Nat.add_sub_cancel_left]
                match t, ht with
                | 0, _ => simp [gRow5, va_cpy, upd2, upd5]
                | 1, _ => simp [gRow5, va_cpy, upd2, upd5]
                | 2, _ => simp [gRow5, va_cpy, upd2, upd5]
                | 3, _ => simp [gRow5, va_cpy, upd2, upd5]
                | 4, _ => simp [gRow5, va_cpy, upd2, upd5]
              · have hj2 : ¬ (5 * nF (upd2 τ 0 0 0) ≤ j ∧ j < 5 * nF (upd2 τ 0 0 0) + 5) := hj
                simp [hj2, va_cpy, upd2, upd5]
            | 3, _ => simp [gFlaw, upd2, updR, upd5]
            | 4, _ => simp [gFlaw, upd2, updR, upd5]
          · rw [mFlaw, if_pos c12, if_pos (And.intro c28 c39), if_neg c54]
            show (mTh τ) 0 5 + 1 - 1 = (mTh τ) 0 5
            rw [hF1, nI_1, nI_pred]
          · rw [mFlaw, if_pos c12, if_pos (And.intro c28 c39), if_neg c54]
        · refine g_ald0 hC dX6_flaw_57 ?_
          refine g_iconst 3 hC dX6_flaw_58 (by decide) ?_
          refine k_X6_fail hC tw_4_67 dX6_flaw_59 (by decide) ⟨by omega, by omega⟩ (Nat.le_of_ble_eq_true rfl) ?_
          (try simp only [ne_eq, b2i_eq0, Bool.not_eq_false, Int32.not_le, Int32.not_lt, Int32.zero_sub] at c12 c28 c39 c54)
          exact hE _ _ _ _ _ _ dX6_flaw_62 (by omega) (by omega) ⟨by simp [mFlaw, c12, c28, c39, c54], by simp [mFlaw, c12, c28, c39, c54]⟩
      · refine g_ald0 hC dX6_flaw_42 ?_
        refine g_iconst 2 hC dX6_flaw_43 (by decide) ?_
        refine k_X6_fail hC tw_4_67 dX6_flaw_44 (by decide) ⟨by omega, by omega⟩ (Nat.le_of_ble_eq_true rfl) ?_
        (try simp only [ne_eq, b2i_eq0, Bool.not_eq_false, Int32.not_le, Int32.not_lt, Int32.zero_sub] at c12 c28 c39)
        exact hE _ _ _ _ _ _ dX6_flaw_47 (by omega) (by omega) ⟨by simp [mFlaw, c12, c28, c39], by simp [mFlaw, c12, c28, c39]⟩
  · refine g_ald0 hC dX6_flaw_15 ?_
    refine g_iconst 1 hC dX6_flaw_16 (by decide) ?_
    refine k_X6_fail hC tw_4_67 dX6_flaw_17 (by decide) ⟨by omega, by omega⟩ (Nat.le_of_ble_eq_true rfl) ?_
    (try simp only [ne_eq, b2i_eq0, Bool.not_eq_false, Int32.not_le, Int32.not_lt, Int32.zero_sub] at c12)
    exact hE _ _ _ _ _ _ dX6_flaw_20 (by omega) (by omega) ⟨by simp [mFlaw, c12], by simp [mFlaw, c12]⟩
theorem k_X6_flaw {l : Launch} {X : gC} {cc : ByteArray} {own : String} {dd ca sa kc nc pc : Nat} {ls : List (Option Value)} {st : List Value} {σ : Mem} {idx : Nat} {x y z ra se : Int32} (hC : gOk wM l X cc own dd ca sa) (hlk : Cond.methodLink own idx yX6_flaw ∈ TB) (hd : decode cc pc = .ok (.invokevirtual idx, 3)) (hdd : 2 + 1 ≤ dd) (hf : kc + 1 ≤ ca ∧ nc + 5 ≤ sa) (hrest : (st.map fun v => v.category).sum ≤ 8)  (hP : MI σ) (kk : G wM X (kc + 1) (nc + 5) (pc + 3) ls (.int ((mFlaw σ x y z ra se).1) :: st) ((mFlaw σ x y z ra se).2)) : G wM X kc nc pc ls (.int se :: .int ra :: .int z :: .int y :: .int x :: .ref (gA X 0) :: st) σ := by
  exact g_cVI 5 hC (c_X6_flaw l x y z ra se) hlk ⟨tw_4_72, tw_4_73, tw_1_7, tw_4_74⟩ (by decide +kernel) ⟨hdd, by decide⟩ hf rfl rfl rfl (gW_at wM _ _ (by decide)) hrest rfl hd hP (fun rr σ1 hq => by obtain ⟨rfl, rfl⟩ := hq; exact kk)
