set_option maxRecDepth 100000 in
set_option maxHeartbeats 4000000 in
/-- X6_stoneTold -/
theorem c_X6_stoneTold (l : Launch) (s w : Nat) : gMI wM l yX6_stoneTold (.code yX6_stoneTold cX6_stoneTold 5 (some FieldType.int)) 7 0 0 (fun A => [.ref (A 0), .int (nI s), .int (nI w)]) (fun τ => s < 8 ∧ MI τ ∧ w < 9) (fun τ rr τ1 => rr = sSt τ s w ∧ τ1 = τ) := by
  refine gMI_of (by decide) (fun A => Nat.le_of_ble_eq_true rfl) ?_
  intro X τ hC hP hE
  have hC : gOk wM l X cX6_stoneTold "GemCutModel" 7 0 0 := hC
  show G wM X 0 0 0 [some (.ref (gA X 0)), some (.int (nI s)), some (.int (nI w)), none, none] [] τ
  obtain ⟨hs, hM, hw⟩ := hP
  have lp0 : w = 8 → ∀ (m k : Nat), k + m = 1000 → G wM X 0 0 106 [some (.ref (gA X 0)), some (.int (nI s)), none, some (.int (nI (cnt (pSf τ (nI s)) k))), some (.int (nI k))] [] τ := by
    intro hw8
    subst hw8
    have hE8 : ∀ (ls : List (Option Value)), decode cX6_stoneTold 149 = .ok (.ireturn, 1) → G wM X 0 0 149 ls [.int (nI (cnt (pSf τ (nI s)) 1000))] τ := fun ls h => hE _ _ _ _ _ _ h (Nat.le_refl _) (Nat.le_refl _) ⟨rfl, rfl⟩
    have lp : ∀ (m k : Nat), k + m = 1000 → G wM X 0 0 106 [some (.ref (gA X 0)), some (.int (nI s)), none, some (.int (nI (cnt (pSf τ (nI s)) k))), some (.int (nI k))] [] (τ) := by
      intro m
      induction m with
      | zero =>
        intro k hk 
        have hk : k = 1000 := by omega
        subst hk
        refine g_ild4 hC dX6_stoneTold_106 ?_
        refine g_sipush 1000 hC dX6_stoneTold_108 (by decide) ?_
        refine g_icmp_ge 148 hC dX6_stoneTold_111 (by decide) (fun c111 => ?_) (fun c111 => absurd (lit_le (show (1000 : Int32) = nI 1000 by decide) (by omega) (by omega)) c111)
        refine g_ild3 hC dX6_stoneTold_148 ?_
        exact hE8 _ dX6_stoneTold_149
      | succ m ih =>
        intro k hk 
        refine g_ild4 hC dX6_stoneTold_106 ?_
        refine g_sipush 1000 hC dX6_stoneTold_108 (by decide) ?_
        refine g_icmp_ge 148 hC dX6_stoneTold_111 (by decide) (fun c111 => absurd c111 (lit_nle (show (1000 : Int32) = nI 1000 by decide) (by omega) (by omega))) (fun c111 => ?_)
        refine g_ild3 hC dX6_stoneTold_114 ?_
        refine g_ald0 hC dX6_stoneTold_115 ?_
        refine mg_Model_cells hC tw_4_26 dX6_stoneTold_116 ?_
        refine g_ild4 hC dX6_stoneTold_119 ?_
        refine ml_cells _ hC rfl (by omega) dX6_stoneTold_121 ?_
        refine g_ild1 hC dX6_stoneTold_122 ?_
        refine g_icmp_ne 139 hC dX6_stoneTold_123 (by decide) (fun c123 => ?_) (fun c123 => ?_)
        · refine g_iconst 0 hC dX6_stoneTold_139 (by decide) ?_
          refine g_iadd hC dX6_stoneTold_140 ?_
          refine g_ist3 hC dX6_stoneTold_141 rfl ?_
          refine g_inc4 1 hC dX6_stoneTold_142 (by decide) rfl ?_
          refine g_goto 106 hC dX6_stoneTold_145 (by decide) ?_
          (try simp only [ne_eq, b2i_eq0, Bool.not_eq_false, Int32.not_le, Int32.not_lt, Int32.zero_sub] at c111 c123)
          first
          | (rw [cnt_s1 (P := pSf τ (nI s)) (by simp [pSf, c111, c123]), nI_1]; exact ih (k + 1) (by omega))
          | (rw [cnt_s0 (P := pSf τ (nI s)) (by simp [pSf, c111, c123]), nI_1]; exact ih (k + 1) (by omega))
        · refine g_ald0 hC dX6_stoneTold_126 ?_
          refine g_ild4 hC dX6_stoneTold_127 ?_
          refine k_X6_isSurface  hC tw_4_110 dX6_stoneTold_129 (by decide) ⟨by omega, by omega⟩ (Nat.le_of_ble_eq_true rfl) ⟨hM, by omega⟩ ?_
          refine g_if_eq 139 hC dX6_stoneTold_132 (by decide) (fun c132 => ?_) (fun c132 => ?_)
          · refine g_iconst 0 hC dX6_stoneTold_139 (by decide) ?_
            refine g_iadd hC dX6_stoneTold_140 ?_
            refine g_ist3 hC dX6_stoneTold_141 rfl ?_
            refine g_inc4 1 hC dX6_stoneTold_142 (by decide) rfl ?_
            refine g_goto 106 hC dX6_stoneTold_145 (by decide) ?_
            (try simp only [ne_eq, b2i_eq0, Bool.not_eq_false, Int32.not_le, Int32.not_lt, Int32.zero_sub] at c111 c123 c132)
            first
            | (rw [cnt_s1 (P := pSf τ (nI s)) (by simp [pSf, c111, c123, c132]), nI_1]; exact ih (k + 1) (by omega))
            | (rw [cnt_s0 (P := pSf τ (nI s)) (by simp [pSf, c111, c123, c132]), nI_1]; exact ih (k + 1) (by omega))
          · refine g_iconst 1 hC dX6_stoneTold_135 (by decide) ?_
            refine g_goto 140 hC dX6_stoneTold_136 (by decide) ?_
            refine g_iadd hC dX6_stoneTold_140 ?_
            refine g_ist3 hC dX6_stoneTold_141 rfl ?_
            refine g_inc4 1 hC dX6_stoneTold_142 (by decide) rfl ?_
            refine g_goto 106 hC dX6_stoneTold_145 (by decide) ?_
            (try simp only [ne_eq, b2i_eq0, Bool.not_eq_false, Int32.not_le, Int32.not_lt, Int32.zero_sub] at c111 c123 c132)
            first
            | (rw [cnt_s1 (P := pSf τ (nI s)) (by simp [pSf, c111, c123, c132]), nI_1]; exact ih (k + 1) (by omega))
            | (rw [cnt_s0 (P := pSf τ (nI s)) (by simp [pSf, c111, c123, c132]), nI_1]; exact ih (k + 1) (by omega))
    exact lp
  refine g_iconst 0 hC dX6_stoneTold_0 (by decide) ?_
  refine g_ist3 hC dX6_stoneTold_1 rfl ?_
  refine g_ild2 hC dX6_stoneTold_2 ?_
  rcases (show w = 0 ∨ w = 1 ∨ w = 2 ∨ w = 3 ∨ w = 4 ∨ w = 5 ∨ w = 6 ∨ w = 7 ∨ w = 8 by omega) with rfl | rfl | rfl | rfl | rfl | rfl | rfl | rfl | rfl
  · refine g_tin (off := 45) 48 hC dX6_stoneTold_3 (by decide) (by decide) (by decide) (by decide) ?_
    refine g_ald0 hC dX6_stoneTold_48 ?_
    refine g_ild1 hC dX6_stoneTold_49 ?_
    refine k_X6_weight (s := nI s) hC tw_4_125 dX6_stoneTold_50 (by decide) ⟨by omega, by omega⟩ (Nat.le_of_ble_eq_true rfl) ?_
    exact hE _ _ _ _ _ _ dX6_stoneTold_53 (Nat.le_refl _) (Nat.le_refl _) ⟨by rfl, rfl⟩
  · refine g_tin (off := 51) 54 hC dX6_stoneTold_3 (by decide) (by decide) (by decide) (by decide) ?_
    refine g_ald0 hC dX6_stoneTold_54 ?_
    refine mg_Model_many hC tw_4_31 dX6_stoneTold_55 ?_
    refine g_ild1 hC dX6_stoneTold_58 ?_
    refine ml_many s hC rfl hs dX6_stoneTold_59 ?_
    exact hE _ _ _ _ _ _ dX6_stoneTold_60 (Nat.le_refl _) (Nat.le_refl _) ⟨by rfl, rfl⟩
  · refine g_tin (off := 58) 61 hC dX6_stoneTold_3 (by decide) (by decide) (by decide) (by decide) ?_
    refine g_ald0 hC dX6_stoneTold_61 ?_
    refine g_ild1 hC dX6_stoneTold_62 ?_
    refine g_ild2 hC dX6_stoneTold_63 ?_
    refine g_iconst 3 hC dX6_stoneTold_64 (by decide) ?_
    refine g_icmp_ne 72 hC dX6_stoneTold_65 (by decide) (fun c65 => ?_) (fun c65 => absurd c65 (by decide))
    refine g_iconst 0 hC dX6_stoneTold_72 (by decide) ?_
    refine k_X6_facets (s := s) (po := false) hC tw_4_181 dX6_stoneTold_73 (by decide) ⟨by omega, by omega⟩ (Nat.le_of_ble_eq_true rfl) ⟨hs, hM⟩ ?_
    exact hE _ _ _ _ _ _ dX6_stoneTold_76 (Nat.le_refl _) (Nat.le_refl _) ⟨by rfl, rfl⟩
  · refine g_tin (off := 58) 61 hC dX6_stoneTold_3 (by decide) (by decide) (by decide) (by decide) ?_
    refine g_ald0 hC dX6_stoneTold_61 ?_
    refine g_ild1 hC dX6_stoneTold_62 ?_
    refine g_ild2 hC dX6_stoneTold_63 ?_
    refine g_iconst 3 hC dX6_stoneTold_64 (by decide) ?_
    refine g_icmp_ne 72 hC dX6_stoneTold_65 (by decide) (fun c65 => absurd c65 (by decide)) (fun c65 => ?_)
    refine g_iconst 1 hC dX6_stoneTold_68 (by decide) ?_
    refine g_goto 73 hC dX6_stoneTold_69 (by decide) ?_
    refine k_X6_facets (s := s) (po := true) hC tw_4_181 dX6_stoneTold_73 (by decide) ⟨by omega, by omega⟩ (Nat.le_of_ble_eq_true rfl) ⟨hs, hM⟩ ?_
    exact hE _ _ _ _ _ _ dX6_stoneTold_76 (Nat.le_refl _) (Nat.le_refl _) ⟨by rfl, rfl⟩
  · refine g_tin (off := 74) 77 hC dX6_stoneTold_3 (by decide) (by decide) (by decide) (by decide) ?_
    refine g_ald0 hC dX6_stoneTold_77 ?_
    refine g_ild1 hC dX6_stoneTold_78 ?_
    refine k_X6_pairs (s := s) hC tw_4_189 dX6_stoneTold_79 (by decide) ⟨by omega, by omega⟩ (Nat.le_of_ble_eq_true rfl) ⟨hs, hM⟩ ?_
    exact hE _ _ _ _ _ _ dX6_stoneTold_82 (Nat.le_refl _) (Nat.le_refl _) ⟨by rfl, rfl⟩
  · refine g_tin (off := 80) 83 hC dX6_stoneTold_3 (by decide) (by decide) (by decide) (by decide) ?_
    refine g_ald0 hC dX6_stoneTold_83 ?_
    refine g_ild1 hC dX6_stoneTold_84 ?_
    refine g_iconst 1 hC dX6_stoneTold_85 (by decide) ?_
    refine k_X6_flawsIn (s := nI s) (how := 1) hC tw_4_193 dX6_stoneTold_86 (by decide) ⟨by omega, by omega⟩ (Nat.le_of_ble_eq_true rfl) hM ?_
    exact hE _ _ _ _ _ _ dX6_stoneTold_89 (Nat.le_refl _) (Nat.le_refl _) ⟨by rfl, rfl⟩
  · refine g_tin (off := 87) 90 hC dX6_stoneTold_3 (by decide) (by decide) (by decide) (by decide) ?_
    refine g_ald0 hC dX6_stoneTold_90 ?_
    refine g_ild1 hC dX6_stoneTold_91 ?_
    refine g_iconst 0 hC dX6_stoneTold_92 (by decide) ?_
    refine k_X6_flawsIn (s := nI s) (how := 0) hC tw_4_193 dX6_stoneTold_93 (by decide) ⟨by omega, by omega⟩ (Nat.le_of_ble_eq_true rfl) hM ?_
    exact hE _ _ _ _ _ _ dX6_stoneTold_96 (Nat.le_refl _) (Nat.le_refl _) ⟨by rfl, rfl⟩
  · refine g_tin (off := 94) 97 hC dX6_stoneTold_3 (by decide) (by decide) (by decide) (by decide) ?_
    refine g_ald0 hC dX6_stoneTold_97 ?_
    refine g_ild1 hC dX6_stoneTold_98 ?_
    refine k_X6_worth (s := s) hC tw_4_197 dX6_stoneTold_99 (by decide) ⟨by omega, by omega⟩ (Nat.le_of_ble_eq_true rfl) ⟨hs, hM⟩ ?_
    exact hE _ _ _ _ _ _ dX6_stoneTold_102 (Nat.le_refl _) (Nat.le_refl _) ⟨by rfl, rfl⟩
  · refine g_tout 103 hC dX6_stoneTold_3 (by decide) (by decide) ?_
    refine g_iconst 0 hC dX6_stoneTold_103 (by decide) ?_
    refine g_ist4 hC dX6_stoneTold_104 rfl ?_
    refine g_keep [true, true, false, true, true] ?_
    exact lp0 rfl 1000 0 (by omega)
theorem k_X6_stoneTold {l : Launch} {X : gC} {cc : ByteArray} {own : String} {dd ca sa kc nc pc : Nat} {ls : List (Option Value)} {st : List Value} {σ : Mem} {idx : Nat} {s w : Nat} (hC : gOk wM l X cc own dd ca sa) (hlk : Cond.methodLink own idx yX6_stoneTold ∈ TB) (hd : decode cc pc = .ok (.invokevirtual idx, 3)) (hdd : 7 + 1 ≤ dd) (hf : kc + 0 ≤ ca ∧ nc + 0 ≤ sa) (hrest : (st.map fun v => v.category).sum ≤ 8)  (hP : s < 8 ∧ MI σ ∧ w < 9) (kk : G wM X kc nc (pc + 3) ls (.int (sSt σ s w) :: st) (σ)) : G wM X kc nc pc ls (.int (nI w) :: .int (nI s) :: .ref (gA X 0) :: st) σ := by
  exact g_cVI 2 hC (c_X6_stoneTold l s w) hlk ⟨tw_4_179, tws_3_9, tw_1_7, tw_4_180⟩ (by decide +kernel) ⟨hdd, by decide⟩ hf rfl rfl rfl (gW_at wM _ _ (by decide)) hrest rfl hd hP (fun rr σ1 hq => by obtain ⟨rfl, rfl⟩ := hq; exact kk)
set_option maxRecDepth 100000 in
set_option maxHeartbeats 4000000 in
/-- X6_counted -/
theorem c_X6_counted (l : Launch) (w : Nat) : gMI wM l yX6_counted (.code yX6_counted cX6_counted 4 (some FieldType.int)) 7 0 0 (fun A => [.ref (A 0), .int (nI w)]) (fun τ => MI τ ∧ w < 8) (fun τ rr τ1 => rr = sCt τ w ∧ τ1 = τ) := by
  refine gMI_of (by decide) (fun A => Nat.le_of_ble_eq_true rfl) ?_
  intro X τ hC hP hE
  have hC : gOk wM l X cX6_counted "GemCutModel" 7 0 0 := hC
  show G wM X 0 0 0 [some (.ref (gA X 0)), some (.int (nI w)), none, none] [] τ
  obtain ⟨hM, hw⟩ := hP
  obtain ⟨hm, hm1, hm2⟩ := MI_S hM
  have hw1 : (nI w = 1) = (w = 1) := propext ⟨fun h => nI_inj (by omega) (by omega) (h.trans (by decide)), fun h => by rw [h]; decide⟩
  have hw6 : (nI w = 6) = (w = 6) := propext ⟨fun h => nI_inj (by omega) (by omega) (h.trans (by decide)), fun h => by rw [h]; decide⟩
  have hn1 : (nI w ≠ 1) = (¬ w = 1) := by rw [ne_eq, hw1]
  have hn6 : (nI w ≠ 6) = (¬ w = 6) := by rw [ne_eq, hw6]
  have lp0 : (¬ w = 0 ∧ ¬ w = 2 ∧ ¬ w = 4 ∧ ¬ w = 5 ∧ ¬ w = 7) → ∀ (m s : Nat), s + m = nS τ → G wM X 0 0 85 [some (.ref (gA X 0)), some (.int (nI w)), some (.int (sumI (sCtv τ w) s)), some (.int (nI s))] [] τ := by
    intro hww
    have hE9 : ∀ (ls : List (Option Value)), decode cX6_counted 143 = .ok (.ireturn, 1) → G wM X 0 0 143 ls [.int (sumI (sCtv τ w) (nS τ))] τ := fun ls h => hE _ _ _ _ _ _ h (Nat.le_refl _) (Nat.le_refl _) ⟨by rw [sCt, if_neg hww.1, if_neg hww.2.1, if_neg hww.2.2.1, if_neg hww.2.2.2.1, if_neg hww.2.2.2.2], rfl⟩
    have lp : ∀ (m s : Nat), s + m = nS τ → G wM X 0 0 85 [some (.ref (gA X 0)), some (.int (nI w)), some (.int (sumI (sCtv τ w) s)), some (.int (nI s))] [] (τ) := by
      intro m
      induction m with
      | zero =>
        intro s hk 
        have hk : s = nS τ := by omega
        subst hk
        refine g_ild3 hC dX6_counted_85 ?_
        refine g_ald0 hC dX6_counted_86 ?_
        refine mg_Model_stones hC tw_4_29 dX6_counted_87 ?_
        refine g_icmp_ge 142 hC dX6_counted_90 (by decide) (fun c90 => ?_) (fun c90 => absurd (by rw [hm]; exact nI_le (by omega) (by omega)) c90)
        refine g_ild2 hC dX6_counted_142 ?_
        exact hE9 _ dX6_counted_143
      | succ m ih =>
        intro s hk 
        refine g_ild3 hC dX6_counted_85 ?_
        refine g_ald0 hC dX6_counted_86 ?_
        refine mg_Model_stones hC tw_4_29 dX6_counted_87 ?_
        refine g_icmp_ge 142 hC dX6_counted_90 (by decide) (fun c90 => absurd c90 (by rw [hm]; exact nI_ge (by omega) (by omega))) (fun c90 => ?_)
        refine g_ild2 hC dX6_counted_93 ?_
        refine g_ild1 hC dX6_counted_94 ?_
        refine g_iconst 1 hC dX6_counted_95 (by decide) ?_
        refine g_icmp_ne 107 hC dX6_counted_96 (by decide) (fun c96 => ?_) (fun c96 => ?_)
        · refine g_ild1 hC dX6_counted_107 ?_
          refine g_bipush 6 hC dX6_counted_108 (by decide) ?_
          refine g_icmp_ne 121 hC dX6_counted_110 (by decide) (fun c110 => ?_) (fun c110 => ?_)
          · refine g_ald0 hC dX6_counted_121 ?_
            refine g_ild3 hC dX6_counted_122 ?_
            refine k_X6_weight (s := nI s) hC tw_4_125 dX6_counted_123 (by decide) ⟨by omega, by omega⟩ (Nat.le_of_ble_eq_true rfl) ?_
            refine g_if_le 133 hC dX6_counted_126 (by decide) (fun c126 => ?_) (fun c126 => ?_)
            · refine g_iconst 0 hC dX6_counted_133 (by decide) ?_
              refine g_iadd hC dX6_counted_134 ?_
              refine g_ist2 hC dX6_counted_135 rfl ?_
              refine g_inc3 1 hC dX6_counted_136 (by decide) rfl ?_
              refine g_goto 85 hC dX6_counted_139 (by decide) ?_
              simp only [hw1, hw6, hn1, hn6] at c90 c96 c110 c126
              rw [nI_1]
              first
              | (rw [show sumI (sCtv τ w) s + nI (sWt τ (nI s)) = sumI (sCtv τ w) (s + 1) by rw [sumI, sCtv, if_pos c96]]; exact ih (s + 1) (by omega))
              | (rw [show sumI (sCtv τ w) s + sWorth τ s = sumI (sCtv τ w) (s + 1) by rw [sumI, sCtv, if_neg c96, if_pos c110]]; exact ih (s + 1) (by omega))
              | (rw [show sumI (sCtv τ w) s + 1 = sumI (sCtv τ w) (s + 1) by rw [sumI, sCtv, if_neg c96, if_neg c110, decide_eq_true (Int32.not_le.mp c126)]; rfl]; exact ih (s + 1) (by omega))
              | (rw [show sumI (sCtv τ w) s + 0 = sumI (sCtv τ w) (s + 1) by rw [sumI, sCtv, if_neg c96, if_neg c110, decide_eq_false (Int32.not_lt.mpr c126)]; rfl]; exact ih (s + 1) (by omega))
            · refine g_iconst 1 hC dX6_counted_129 (by decide) ?_
              refine g_goto 134 hC dX6_counted_130 (by decide) ?_
              refine g_iadd hC dX6_counted_134 ?_
              refine g_ist2 hC dX6_counted_135 rfl ?_
              refine g_inc3 1 hC dX6_counted_136 (by decide) rfl ?_
              refine g_goto 85 hC dX6_counted_139 (by decide) ?_
              simp only [hw1, hw6, hn1, hn6] at c90 c96 c110 c126
              rw [nI_1]
              first
              | (rw [show sumI (sCtv τ w) s + nI (sWt τ (nI s)) = sumI (sCtv τ w) (s + 1) by rw [sumI, sCtv, if_pos c96]]; exact ih (s + 1) (by omega))
              | (rw [show sumI (sCtv τ w) s + sWorth τ s = sumI (sCtv τ w) (s + 1) by rw [sumI, sCtv, if_neg c96, if_pos c110]]; exact ih (s + 1) (by omega))
              | (rw [show sumI (sCtv τ w) s + 1 = sumI (sCtv τ w) (s + 1) by rw [sumI, sCtv, if_neg c96, if_neg c110, decide_eq_true (Int32.not_le.mp c126)]; rfl]; exact ih (s + 1) (by omega))
              | (rw [show sumI (sCtv τ w) s + 0 = sumI (sCtv τ w) (s + 1) by rw [sumI, sCtv, if_neg c96, if_neg c110, decide_eq_false (Int32.not_lt.mpr c126)]; rfl]; exact ih (s + 1) (by omega))
          · refine g_ald0 hC dX6_counted_113 ?_
            refine g_ild3 hC dX6_counted_114 ?_
            refine k_X6_worth (s := s) hC tw_4_197 dX6_counted_115 (by decide) ⟨by omega, by omega⟩ (Nat.le_of_ble_eq_true rfl) ⟨by omega, hM⟩ ?_
            refine g_goto 134 hC dX6_counted_118 (by decide) ?_
            refine g_iadd hC dX6_counted_134 ?_
            refine g_ist2 hC dX6_counted_135 rfl ?_
            refine g_inc3 1 hC dX6_counted_136 (by decide) rfl ?_
            refine g_goto 85 hC dX6_counted_139 (by decide) ?_
            simp only [hw1, hw6, hn1, hn6] at c90 c96 c110
            rw [nI_1]
            first
            | (rw [show sumI (sCtv τ w) s + nI (sWt τ (nI s)) = sumI (sCtv τ w) (s + 1) by rw [sumI, sCtv, if_pos c96]]; exact ih (s + 1) (by omega))
            | (rw [show sumI (sCtv τ w) s + sWorth τ s = sumI (sCtv τ w) (s + 1) by rw [sumI, sCtv, if_neg c96, if_pos c110]]; exact ih (s + 1) (by omega))
            | (rw [show sumI (sCtv τ w) s + 1 = sumI (sCtv τ w) (s + 1) by rw [sumI, sCtv, if_neg c96, if_neg c110, decide_eq_true (Int32.not_le.mp c126)]; rfl]; exact ih (s + 1) (by omega))
            | (rw [show sumI (sCtv τ w) s + 0 = sumI (sCtv τ w) (s + 1) by rw [sumI, sCtv, if_neg c96, if_neg c110, decide_eq_false (Int32.not_lt.mpr c126)]; rfl]; exact ih (s + 1) (by omega))
        · refine g_ald0 hC dX6_counted_99 ?_
          refine g_ild3 hC dX6_counted_100 ?_
          refine k_X6_weight (s := nI s) hC tw_4_125 dX6_counted_101 (by decide) ⟨by omega, by omega⟩ (Nat.le_of_ble_eq_true rfl) ?_
          refine g_goto 134 hC dX6_counted_104 (by decide) ?_
          refine g_iadd hC dX6_counted_134 ?_
          refine g_ist2 hC dX6_counted_135 rfl ?_
          refine g_inc3 1 hC dX6_counted_136 (by decide) rfl ?_
          refine g_goto 85 hC dX6_counted_139 (by decide) ?_
          simp only [hw1, hw6, hn1, hn6] at c90 c96
          rw [nI_1]
          first
          | (rw [show sumI (sCtv τ w) s + nI (sWt τ (nI s)) = sumI (sCtv τ w) (s + 1) by rw [sumI, sCtv, if_pos c96]]; exact ih (s + 1) (by omega))
          | (rw [show sumI (sCtv τ w) s + sWorth τ s = sumI (sCtv τ w) (s + 1) by rw [sumI, sCtv, if_neg c96, if_pos c110]]; exact ih (s + 1) (by omega))
          | (rw [show sumI (sCtv τ w) s + 1 = sumI (sCtv τ w) (s + 1) by rw [sumI, sCtv, if_neg c96, if_neg c110, decide_eq_true (Int32.not_le.mp c126)]; rfl]; exact ih (s + 1) (by omega))
          | (rw [show sumI (sCtv τ w) s + 0 = sumI (sCtv τ w) (s + 1) by rw [sumI, sCtv, if_neg c96, if_neg c110, decide_eq_false (Int32.not_lt.mpr c126)]; rfl]; exact ih (s + 1) (by omega))
    exact lp
  refine g_iconst 0 hC dX6_counted_0 (by decide) ?_
  refine g_ist2 hC dX6_counted_1 rfl ?_
  refine g_ild1 hC dX6_counted_2 ?_
  rcases (show w = 0 ∨ w = 1 ∨ w = 2 ∨ w = 3 ∨ w = 4 ∨ w = 5 ∨ w = 6 ∨ w = 7 by omega) with rfl | rfl | rfl | rfl | rfl | rfl | rfl | rfl
  · refine g_tin (off := 45) 48 hC dX6_counted_3 (by decide) (by decide) (by decide) (by decide) ?_
    refine g_ald0 hC dX6_counted_48 ?_
    refine mg_Model_columns hC tw_4_23 dX6_counted_49 ?_
    refine g_ald0 hC dX6_counted_52 ?_
    refine mg_Model_rows hC tw_4_24 dX6_counted_53 ?_
    refine g_imul hC dX6_counted_56 ?_
    refine g_ald0 hC dX6_counted_57 ?_
    refine mg_Model_layers hC tw_4_25 dX6_counted_58 ?_
    refine g_imul hC dX6_counted_61 ?_
    exact hE _ _ _ _ _ _ dX6_counted_62 (Nat.le_refl _) (Nat.le_refl _) ⟨by rfl, rfl⟩
  · refine g_tin (off := 80) 83 hC dX6_counted_3 (by decide) (by decide) (by decide) (by decide) ?_
    refine g_iconst 0 hC dX6_counted_83 (by decide) ?_
    refine g_ist3 hC dX6_counted_84 rfl ?_
    exact lp0 (by decide) (nS τ) 0 (by omega)
  · refine g_tin (off := 60) 63 hC dX6_counted_3 (by decide) (by decide) (by decide) (by decide) ?_
    refine g_ald0 hC dX6_counted_63 ?_
    refine mg_Model_stones hC tw_4_29 dX6_counted_64 ?_
    exact hE _ _ _ _ _ _ dX6_counted_67 (Nat.le_refl _) (Nat.le_refl _) ⟨by rfl, rfl⟩
  · refine g_tin (off := 80) 83 hC dX6_counted_3 (by decide) (by decide) (by decide) (by decide) ?_
    refine g_iconst 0 hC dX6_counted_83 (by decide) ?_
    refine g_ist3 hC dX6_counted_84 rfl ?_
    exact lp0 (by decide) (nS τ) 0 (by omega)
  · refine g_tin (off := 65) 68 hC dX6_counted_3 (by decide) (by decide) (by decide) (by decide) ?_
    refine g_ald0 hC dX6_counted_68 ?_
    refine mg_Model_flaws hC tw_4_27 dX6_counted_69 ?_
    exact hE _ _ _ _ _ _ dX6_counted_72 (Nat.le_refl _) (Nat.le_refl _) ⟨by rfl, rfl⟩
  · refine g_tin (off := 70) 73 hC dX6_counted_3 (by decide) (by decide) (by decide) (by decide) ?_
    refine g_ald0 hC dX6_counted_73 ?_
    refine mg_Model_wheel hC tw_4_32 dX6_counted_74 ?_
    exact hE _ _ _ _ _ _ dX6_counted_77 (Nat.le_refl _) (Nat.le_refl _) ⟨by rfl, rfl⟩
  · refine g_tin (off := 80) 83 hC dX6_counted_3 (by decide) (by decide) (by decide) (by decide) ?_
    refine g_iconst 0 hC dX6_counted_83 (by decide) ?_
    refine g_ist3 hC dX6_counted_84 rfl ?_
    exact lp0 (by decide) (nS τ) 0 (by omega)
  · refine g_tin (off := 75) 78 hC dX6_counted_3 (by decide) (by decide) (by decide) (by decide) ?_
    refine g_ald0 hC dX6_counted_78 ?_
    refine mg_Model_spent hC tw_4_33 dX6_counted_79 ?_
    exact hE _ _ _ _ _ _ dX6_counted_82 (Nat.le_refl _) (Nat.le_refl _) ⟨by rfl, rfl⟩
theorem k_X6_counted {l : Launch} {X : gC} {cc : ByteArray} {own : String} {dd ca sa kc nc pc : Nat} {ls : List (Option Value)} {st : List Value} {σ : Mem} {idx : Nat} {w : Nat} (hC : gOk wM l X cc own dd ca sa) (hlk : Cond.methodLink own idx yX6_counted ∈ TB) (hd : decode cc pc = .ok (.invokevirtual idx, 3)) (hdd : 7 + 1 ≤ dd) (hf : kc + 0 ≤ ca ∧ nc + 0 ≤ sa) (hrest : (st.map fun v => v.category).sum ≤ 8)  (hP : MI σ ∧ w < 8) (kk : G wM X kc nc (pc + 3) ls (.int (sCt σ w) :: st) (σ)) : G wM X kc nc pc ls (.int (nI w) :: .ref (gA X 0) :: st) σ := by
  exact g_cVI 1 hC (c_X6_counted l w) hlk ⟨tw_4_223, tws_4_1, tw_1_7, tw_4_224⟩ (by decide +kernel) ⟨hdd, by decide⟩ hf rfl rfl rfl (gW_at wM _ _ (by decide)) hrest rfl hd hP (fun rr σ1 hq => by obtain ⟨rfl, rfl⟩ := hq; exact kk)
set_option maxRecDepth 100000 in
set_option maxHeartbeats 4000000 in
/-- X6_isTilt -/
theorem c_X6_isTilt (l : Launch) (p q r d : Int32) : gMZ wM l yX6_isTilt (.code yX6_isTilt cX6_isTilt 4 (some FieldType.boolean)) 1 0 0 (fun A => [.int p, .int q, .int r, .int d]) (fun τ => True) (fun τ rr τ1 => rr = b2i (sTilt p q r d) ∧ τ1 = τ) := by
  refine gMZ_of (by decide) (fun A => Nat.le_of_ble_eq_true rfl) ?_
  intro X τ hC hP hE
  have hC : gOk wM l X cX6_isTilt "GemCutModel" 1 0 0 := hC
  show G wM X 0 0 0 [some (.int p), some (.int q), some (.int r), some (.int d)] [] τ
  refine g_ild0 hC dX6_isTilt_0 ?_
  refine g_bipush (-3) hC dX6_isTilt_1 (by decide) ?_
  refine g_iconst 3 hC dX6_isTilt_3 (by decide) ?_
  refine k_X6_isIn hC tw_4_19 dX6_isTilt_4 (by decide) ⟨by omega, by omega⟩ (Nat.le_of_ble_eq_true rfl) ?_
  refine g_if_eq 57 hC dX6_isTilt_7 (by decide) (fun c7 => ?_) (fun c7 => ?_)
  · refine g_iconst 0 hC dX6_isTilt_57 (by decide) ?_
    exact hE _ _ _ _ _ _ dX6_isTilt_58 (Nat.le_refl _) (Nat.le_refl _) (by first | exact Or.inl rfl | exact Or.inr rfl | exact b2i_01 _) ⟨by (try simp only [ne_eq, b2i_eq0, Bool.not_eq_false, Int32.not_le, Int32.not_lt, Int32.zero_sub] at c7); first | (simp [sTilt, b2i, c7]; done) | (rw [sTilt, c7, c17, c27, c50]; simp [b2i, c7]), rfl⟩
  · refine g_ild1 hC dX6_isTilt_10 ?_
    refine g_bipush (-3) hC dX6_isTilt_11 (by decide) ?_
    refine g_iconst 3 hC dX6_isTilt_13 (by decide) ?_
    refine k_X6_isIn hC tw_4_19 dX6_isTilt_14 (by decide) ⟨by omega, by omega⟩ (Nat.le_of_ble_eq_true rfl) ?_
    refine g_if_eq 57 hC dX6_isTilt_17 (by decide) (fun c17 => ?_) (fun c17 => ?_)
    · refine g_iconst 0 hC dX6_isTilt_57 (by decide) ?_
      exact hE _ _ _ _ _ _ dX6_isTilt_58 (Nat.le_refl _) (Nat.le_refl _) (by first | exact Or.inl rfl | exact Or.inr rfl | exact b2i_01 _) ⟨by (try simp only [ne_eq, b2i_eq0, Bool.not_eq_false, Int32.not_le, Int32.not_lt, Int32.zero_sub] at c7 c17); first | (simp [sTilt, b2i, c7, c17]; done) | (rw [sTilt, c7, c17, c27, c50]; simp [b2i, c7, c17]), rfl⟩
    · refine g_ild2 hC dX6_isTilt_20 ?_
      refine g_bipush (-3) hC dX6_isTilt_21 (by decide) ?_
      refine g_iconst 3 hC dX6_isTilt_23 (by decide) ?_
      refine k_X6_isIn hC tw_4_19 dX6_isTilt_24 (by decide) ⟨by omega, by omega⟩ (Nat.le_of_ble_eq_true rfl) ?_
      refine g_if_eq 57 hC dX6_isTilt_27 (by decide) (fun c27 => ?_) (fun c27 => ?_)
      · refine g_iconst 0 hC dX6_isTilt_57 (by decide) ?_
        exact hE _ _ _ _ _ _ dX6_isTilt_58 (Nat.le_refl _) (Nat.le_refl _) (by first | exact Or.inl rfl | exact Or.inr rfl | exact b2i_01 _) ⟨by (try simp only [ne_eq, b2i_eq0, Bool.not_eq_false, Int32.not_le, Int32.not_lt, Int32.zero_sub] at c7 c17 c27); first | (simp [sTilt, b2i, c7, c17, c27]; done) | (rw [sTilt, c7, c17, c27, c50]; simp [b2i, c7, c17, c27]), rfl⟩
      · refine g_ild0 hC dX6_isTilt_30 ?_
        refine g_if_ne 42 hC dX6_isTilt_31 (by decide) (fun c31 => ?_) (fun c31 => ?_)
        · refine g_ild3 hC dX6_isTilt_42 ?_
          refine g_bipush (-100) hC dX6_isTilt_43 (by decide) ?_
          refine g_bipush 100 hC dX6_isTilt_45 (by decide) ?_
          refine k_X6_isIn hC tw_4_19 dX6_isTilt_47 (by decide) ⟨by omega, by omega⟩ (Nat.le_of_ble_eq_true rfl) ?_
          refine g_if_eq 57 hC dX6_isTilt_50 (by decide) (fun c50 => ?_) (fun c50 => ?_)
          · refine g_iconst 0 hC dX6_isTilt_57 (by decide) ?_
            exact hE _ _ _ _ _ _ dX6_isTilt_58 (Nat.le_refl _) (Nat.le_refl _) (by first | exact Or.inl rfl | exact Or.inr rfl | exact b2i_01 _) ⟨by (try simp only [ne_eq, b2i_eq0, Bool.not_eq_false, Int32.not_le, Int32.not_lt, Int32.zero_sub] at c7 c17 c27 c31 c50); first | (simp [sTilt, b2i, c7, c17, c27, c31, c50]; done) | (rw [sTilt, c7, c17, c27, c50]; simp [b2i, c7, c17, c27, c31, c50]), rfl⟩
          · refine g_iconst 1 hC dX6_isTilt_53 (by decide) ?_
            refine g_goto 58 hC dX6_isTilt_54 (by decide) ?_
            exact hE _ _ _ _ _ _ dX6_isTilt_58 (Nat.le_refl _) (Nat.le_refl _) (by first | exact Or.inl rfl | exact Or.inr rfl | exact b2i_01 _) ⟨by (try simp only [ne_eq, b2i_eq0, Bool.not_eq_false, Int32.not_le, Int32.not_lt, Int32.zero_sub] at c7 c17 c27 c31 c50); first | (simp [sTilt, b2i, c7, c17, c27, c31, c50]; done) | (rw [sTilt, c7, c17, c27, c50]; simp [b2i, c7, c17, c27, c31, c50]), rfl⟩
        · refine g_ild1 hC dX6_isTilt_34 ?_
          refine g_if_ne 42 hC dX6_isTilt_35 (by decide) (fun c35 => ?_) (fun c35 => ?_)
          · refine g_ild3 hC dX6_isTilt_42 ?_
            refine g_bipush (-100) hC dX6_isTilt_43 (by decide) ?_
            refine g_bipush 100 hC dX6_isTilt_45 (by decide) ?_
            refine k_X6_isIn hC tw_4_19 dX6_isTilt_47 (by decide) ⟨by omega, by omega⟩ (Nat.le_of_ble_eq_true rfl) ?_
            refine g_if_eq 57 hC dX6_isTilt_50 (by decide) (fun c50 => ?_) (fun c50 => ?_)
            · refine g_iconst 0 hC dX6_isTilt_57 (by decide) ?_
              exact hE _ _ _ _ _ _ dX6_isTilt_58 (Nat.le_refl _) (Nat.le_refl _) (by first | exact Or.inl rfl | exact Or.inr rfl | exact b2i_01 _) ⟨by (try simp only [ne_eq, b2i_eq0, Bool.not_eq_false, Int32.not_le, Int32.not_lt, Int32.zero_sub] at c7 c17 c27 c31 c35 c50); first | (simp [sTilt, b2i, c7, c17, c27, c31, c35, c50]; done) | (rw [sTilt, c7, c17, c27, c50]; simp [b2i, c7, c17, c27, c31, c35, c50]), rfl⟩
            · refine g_iconst 1 hC dX6_isTilt_53 (by decide) ?_
              refine g_goto 58 hC dX6_isTilt_54 (by decide) ?_
              exact hE _ _ _ _ _ _ dX6_isTilt_58 (Nat.le_refl _) (Nat.le_refl _) (by first | exact Or.inl rfl | exact Or.inr rfl | exact b2i_01 _) ⟨by (try simp only [ne_eq, b2i_eq0, Bool.not_eq_false, Int32.not_le, Int32.not_lt, Int32.zero_sub] at c7 c17 c27 c31 c35 c50); first | (simp [sTilt, b2i, c7, c17, c27, c31, c35, c50]; done) | (rw [sTilt, c7, c17, c27, c50]; simp [b2i, c7, c17, c27, c31, c35, c50]), rfl⟩
          · refine g_ild2 hC dX6_isTilt_38 ?_
            refine g_if_eq 57 hC dX6_isTilt_39 (by decide) (fun c39 => ?_) (fun c39 => ?_)
            · refine g_iconst 0 hC dX6_isTilt_57 (by decide) ?_
              exact hE _ _ _ _ _ _ dX6_isTilt_58 (Nat.le_refl _) (Nat.le_refl _) (by first | exact Or.inl rfl | exact Or.inr rfl | exact b2i_01 _) ⟨by (try simp only [ne_eq, b2i_eq0, Bool.not_eq_false, Int32.not_le, Int32.not_lt, Int32.zero_sub] at c7 c17 c27 c31 c35 c39); first | (simp [sTilt, b2i, c7, c17, c27, c31, c35, c39]; done) | (rw [sTilt, c7, c17, c27, c50]; simp [b2i, c7, c17, c27, c31, c35, c39]), rfl⟩
            · refine g_ild3 hC dX6_isTilt_42 ?_
              refine g_bipush (-100) hC dX6_isTilt_43 (by decide) ?_
              refine g_bipush 100 hC dX6_isTilt_45 (by decide) ?_
              refine k_X6_isIn hC tw_4_19 dX6_isTilt_47 (by decide) ⟨by omega, by omega⟩ (Nat.le_of_ble_eq_true rfl) ?_
              refine g_if_eq 57 hC dX6_isTilt_50 (by decide) (fun c50 => ?_) (fun c50 => ?_)
              · refine g_iconst 0 hC dX6_isTilt_57 (by decide) ?_
                exact hE _ _ _ _ _ _ dX6_isTilt_58 (Nat.le_refl _) (Nat.le_refl _) (by first | exact Or.inl rfl | exact Or.inr rfl | exact b2i_01 _) ⟨by (try simp only [ne_eq, b2i_eq0, Bool.not_eq_false, Int32.not_le, Int32.not_lt, Int32.zero_sub] at c7 c17 c27 c31 c35 c39 c50); first | (simp [sTilt, b2i, c7, c17, c27, c31, c35, c39, c50]; done) | (rw [sTilt, c7, c17, c27, c50]; simp [b2i, c7, c17, c27, c31, c35, c39, c50]), rfl⟩
              · refine g_iconst 1 hC dX6_isTilt_53 (by decide) ?_
                refine g_goto 58 hC dX6_isTilt_54 (by decide) ?_
                exact hE _ _ _ _ _ _ dX6_isTilt_58 (Nat.le_refl _) (Nat.le_refl _) (by first | exact Or.inl rfl | exact Or.inr rfl | exact b2i_01 _) ⟨by (try simp only [ne_eq, b2i_eq0, Bool.not_eq_false, Int32.not_le, Int32.not_lt, Int32.zero_sub] at c7 c17 c27 c31 c35 c39 c50); first | (simp [sTilt, b2i, c7, c17, c27, c31, c35, c39, c50]; done) | (rw [sTilt, c7, c17, c27, c50]; simp [b2i, c7, c17, c27, c31, c35, c39, c50]), rfl⟩
theorem k_X6_isTilt {l : Launch} {X : gC} {cc : ByteArray} {own : String} {dd ca sa kc nc pc : Nat} {ls : List (Option Value)} {st : List Value} {σ : Mem} {idx : Nat} {p q r d : Int32} (hC : gOk wM l X cc own dd ca sa) (hlk : Cond.methodLink own idx yX6_isTilt ∈ TB) (hd : decode cc pc = .ok (.invokestatic idx, 3)) (hdd : 1 + 1 ≤ dd) (hf : kc + 0 ≤ ca ∧ nc + 0 ≤ sa) (hrest : (st.map fun v => v.category).sum ≤ 8)  (kk : G wM X kc nc (pc + 3) ls (.int (b2i (sTilt p q r d)) :: st) (σ)) : G wM X kc nc pc ls (.int d :: .int r :: .int q :: .int p :: st) σ := by
  exact g_cSZ 4 hC (c_X6_isTilt l p q r d) hlk ⟨tw_4_123, tw_1_7, tw_4_124⟩ (by decide +kernel) ⟨hdd, by decide⟩ hf rfl rfl hrest rfl hd trivial (fun rr σ1 hq => by obtain ⟨rfl, rfl⟩ := hq; exact kk)
set_option maxRecDepth 100000 in
set_option maxHeartbeats 4000000 in
/-- X6_spend -/
theorem c_X6_spend (l : Launch) (v : Int32) : gMV wM l yX6_spend (.code yX6_spend cX6_spend 2 none) 0 0 0 (fun A => [.ref (A 0), .int v]) (fun τ => True) (fun τ τ1 => τ1 = gSpend τ v) := by
  refine gMV_of (by decide) (fun A => Nat.le_of_ble_eq_true rfl) ?_
  intro X τ hC hP hE
  have hC : gOk wM l X cX6_spend "GemCutModel" 0 0 0 := hC
  show G wM X 0 0 0 [some (.ref (gA X 0)), some (.int v)] [] τ
  refine g_ald0 hC dX6_spend_0 ?_
  refine g_dup hC dX6_spend_1 rfl ?_
  refine mg_Model_wheel hC tw_4_32 dX6_spend_2 ?_
  refine g_ild1 hC dX6_spend_5 ?_
  refine g_isub hC dX6_spend_6 ?_
  refine mp_Model_wheel hC tw_4_32 dX6_spend_7 ?_
  refine g_ald0 hC dX6_spend_10 ?_
  refine g_dup hC dX6_spend_11 rfl ?_
  refine mg_Model_spent hC tw_4_33 dX6_spend_12 ?_
  refine g_ild1 hC dX6_spend_15 ?_
  refine g_iadd hC dX6_spend_16 ?_
  refine mp_Model_spent hC tw_4_33 dX6_spend_17 ?_
  exact hE _ _ _ _ _ dX6_spend_20 (Nat.le_refl _) (Nat.le_refl _) rfl
theorem k_X6_spend {l : Launch} {X : gC} {cc : ByteArray} {own : String} {dd ca sa kc nc pc : Nat} {ls : List (Option Value)} {st : List Value} {σ : Mem} {idx : Nat} {v : Int32} (hC : gOk wM l X cc own dd ca sa) (hlk : Cond.methodLink own idx yX6_spend ∈ TB) (hd : decode cc pc = .ok (.invokevirtual idx, 3)) (hdd : 0 + 1 ≤ dd) (hf : kc + 0 ≤ ca ∧ nc + 0 ≤ sa) (hrest : (st.map fun v => v.category).sum ≤ 8)   (kk : G wM X kc nc (pc + 3) ls st (gSpend σ v)) : G wM X kc nc pc ls (.int v :: .ref (gA X 0) :: st) σ := by
  exact g_cVV 1 hC (c_X6_spend l v) hlk ⟨tw_4_150, tws_3_5, tw_1_7, tw_4_151⟩ (by decide +kernel) ⟨hdd, by decide⟩ hf rfl rfl rfl (gW_at wM _ _ (by decide)) hrest rfl hd trivial (fun σ1 hq => by subst hq; exact kk)
theorem oI_ne {f : Nat} (h : f < 10) : ¬ oI (some f) = -1 := by
  have : ∀ f, f < 10 → ¬ nI f = -1 := by decide +kernel
  exact this f h
set_option maxRecDepth 100000 in
set_option maxHeartbeats 4000000 in
/-- X6_end -/
theorem c_X6_end (l : Launch) (s : Int32) (o : Option Nat) (p q r : Int32) (g : Bool) : gMI wM l yX6_end (.code yX6_end cX6_end 11 (some FieldType.int)) 2 0 0 (fun A => [.ref (A 0), .int s, .int (oI o), .int p, .int q, .int r, .int (b2i g)]) (fun τ => ∀ f, o = some f → f < 10) (fun τ rr τ1 => rr = sEnd τ s o p q r g ∧ τ1 = τ) := by
  refine gMI_of (by decide) (fun A => Nat.le_of_ble_eq_true rfl) ?_
  intro X τ hC hP hE
  have hC : gOk wM l X cX6_end "GemCutModel" 2 0 0 := hC
  show G wM X 0 0 0 [some (.ref (gA X 0)), some (.int s), some (.int (oI o)), some (.int p), some (.int q), some (.int r), some (.int (b2i g)), none, none, none, none] [] τ
  have hf := hP
  have key : ∀ (m k : Nat), k + m = 1000 → G wM X 0 0 9 [some (.ref (gA X 0)), some (.int s), some (.int (oI o)), some (.int p), some (.int q), some (.int r), some (.int (b2i g)), some (.int (sEndS τ s (sEC τ o) p q r g k).1), some (.int (b2i (sEndS τ s (sEC τ o) p q r g k).2)), some (.int (nI k)), none] [] τ := by
    intro m
    induction m with
    | zero =>
      intro k hk
      have hk : k = 1000 := by omega
      subst hk
      refine g_ild9 hC dX6_end_9 ?_
      refine g_sipush 1000 hC dX6_end_11 (by decide) ?_
      refine g_icmp_ge 93 hC dX6_end_14 (by decide) (fun c14 => ?_) (fun c14 => absurd (lit_le (show (1000 : Int32) = nI 1000 by decide) (by omega) (by omega)) c14)
      refine g_ild7 hC dX6_end_93 ?_
      exact hE _ _ _ _ _ _ dX6_end_95 (Nat.le_refl _) (Nat.le_refl _) ⟨by rfl, rfl⟩
    | succ m ih =>
      intro k hk
      have e2 := ih (k + 1) (by omega)
      cases o with
      | none =>
        refine g_ild9 hC dX6_end_9 ?_
        refine g_sipush 1000 hC dX6_end_11 (by decide) ?_
        refine g_icmp_ge 93 hC dX6_end_14 (by decide) (fun c14 => absurd c14 (lit_nle (show (1000 : Int32) = nI 1000 by decide) (by omega) (by omega))) (fun c14 => ?_)
        refine g_ald0 hC dX6_end_17 ?_
        refine mg_Model_cells hC tw_4_26 dX6_end_18 ?_
        refine g_ild9 hC dX6_end_21 ?_
        refine ml_cells _ hC rfl (by omega) dX6_end_23 ?_
        refine g_ild1 hC dX6_end_24 ?_
        refine g_icmp_ne 87 hC dX6_end_25 (by decide) (fun c25 => ?_) (fun c25 => ?_)
        · refine g_inc9 1 hC dX6_end_87 (by decide) rfl ?_
          refine g_goto 9 hC dX6_end_90 (by decide) ?_
          (try simp only [ne_eq, b2i_eq0, Bool.not_eq_false, Int32.not_le, Int32.not_lt, Int32.zero_sub] at c14 c25)
          refine g_keep [true, true, true, true, true, true, true, true, true, true, false] ?_
          rw [nI_1]
          first
          | (have hc : (τ 1 k == s && sEC τ none k) = true := by simp [sEC, c14, c25]
             first
             | (have hd : ((sEndS τ s (sEC τ none) p q r g k).2 || (decide ((sEndS τ s (sEC τ none) p q r g k).1 < sHgt k p q r) == g)) = true := by
                  first
                  | (rw [c60]; rfl)
                  | (rw [c60, show decide ((sEndS τ s (sEC τ none) p q r g k).1 < sHgt k p q r) = true from decide_eq_true c67]; cases g <;> simp [b2i] at c77 ⊢; done)
                  | (rw [c60, show decide ((sEndS τ s (sEC τ none) p q r g k).1 < sHgt k p q r) = false from decide_eq_false (Int32.not_lt.mpr c67)]; cases g <;> simp [b2i] at c77 ⊢; done)
                rw [sEndS, if_pos hc, if_pos hd] at e2; exact e2)
             | (have hd : ¬ ((sEndS τ s (sEC τ none) p q r g k).2 || (decide ((sEndS τ s (sEC τ none) p q r g k).1 < sHgt k p q r) == g)) = true := by
                  first
                  | (rw [c60, show decide ((sEndS τ s (sEC τ none) p q r g k).1 < sHgt k p q r) = true from decide_eq_true c67]; cases g <;> simp [b2i] at c77 ⊢; done)
                  | (rw [c60, show decide ((sEndS τ s (sEC τ none) p q r g k).1 < sHgt k p q r) = false from decide_eq_false (Int32.not_lt.mpr c67)]; cases g <;> simp [b2i] at c77 ⊢; done)
                rw [sEndS, if_pos hc, if_neg hd] at e2; exact e2))
          | (have hc : ¬ (τ 1 k == s && sEC τ none k) = true := by simp [sEC, c14, c25]
             rw [sEndS, if_neg hc] at e2; exact e2)
        · refine g_ild2 hC dX6_end_28 ?_
          refine g_iconst (-1) hC dX6_end_29 (by decide) ?_
          refine g_icmp_eq 46 hC dX6_end_30 (by decide) (fun c30 => ?_) (fun c30 => absurd (by decide) c30)
          refine g_ild9 hC dX6_end_46 ?_
          refine g_ild3 hC dX6_end_48 ?_
          refine g_ild4 hC dX6_end_49 ?_
          refine g_ild5 hC dX6_end_51 ?_
          refine k_X6_height (k := k) hC tw_4_133 dX6_end_53 (by decide) ⟨by omega, by omega⟩ (Nat.le_of_ble_eq_true rfl) (by omega) ?_
          refine g_ist10 hC dX6_end_56 rfl ?_
          refine g_ild8 hC dX6_end_58 ?_
          refine g_if_ne 80 hC dX6_end_60 (by decide) (fun c60 => ?_) (fun c60 => ?_)
          · refine g_ild10 hC dX6_end_80 ?_
            refine g_ist7 hC dX6_end_82 rfl ?_
            refine g_iconst 0 hC dX6_end_84 (by decide) ?_
            refine g_ist8 hC dX6_end_85 rfl ?_
            refine g_inc9 1 hC dX6_end_87 (by decide) rfl ?_
            refine g_goto 9 hC dX6_end_90 (by decide) ?_
            (try simp only [ne_eq, b2i_eq0, Bool.not_eq_false, Int32.not_le, Int32.not_lt, Int32.zero_sub] at c14 c25 c30 c60)
            refine g_keep [true, true, true, true, true, true, true, true, true, true, false] ?_
            rw [nI_1]
            first
            | (have hc : (τ 1 k == s && sEC τ none k) = true := by simp [sEC, c14, c25, c30, c60]
               first
               | (have hd : ((sEndS τ s (sEC τ none) p q r g k).2 || (decide ((sEndS τ s (sEC τ none) p q r g k).1 < sHgt k p q r) == g)) = true := by
                    first
                    | (rw [c60]; rfl)
                    | (rw [c60, show decide ((sEndS τ s (sEC τ none) p q r g k).1 < sHgt k p q r) = true from decide_eq_true c67]; cases g <;> simp [b2i] at c77 ⊢; done)
                    | (rw [c60, show decide ((sEndS τ s (sEC τ none) p q r g k).1 < sHgt k p q r) = false from decide_eq_false (Int32.not_lt.mpr c67)]; cases g <;> simp [b2i] at c77 ⊢; done)
                  rw [sEndS, if_pos hc, if_pos hd] at e2; exact e2)
               | (have hd : ¬ ((sEndS τ s (sEC τ none) p q r g k).2 || (decide ((sEndS τ s (sEC τ none) p q r g k).1 < sHgt k p q r) == g)) = true := by
                    first
                    | (rw [c60, show decide ((sEndS τ s (sEC τ none) p q r g k).1 < sHgt k p q r) = true from decide_eq_true c67]; cases g <;> simp [b2i] at c77 ⊢; done)
                    | (rw [c60, show decide ((sEndS τ s (sEC τ none) p q r g k).1 < sHgt k p q r) = false from decide_eq_false (Int32.not_lt.mpr c67)]; cases g <;> simp [b2i] at c77 ⊢; done)
                  rw [sEndS, if_pos hc, if_neg hd] at e2; exact e2))
            | (have hc : ¬ (τ 1 k == s && sEC τ none k) = true := by simp [sEC, c14, c25, c30, c60]
               rw [sEndS, if_neg hc] at e2; exact e2)
          · refine g_ild10 hC dX6_end_63 ?_
            refine g_ild7 hC dX6_end_65 ?_
            refine g_icmp_le 74 hC dX6_end_67 (by decide) (fun c67 => ?_) (fun c67 => ?_)
            · refine g_iconst 0 hC dX6_end_74 (by decide) ?_
              refine g_ild6 hC dX6_end_75 ?_
              refine g_icmp_ne 84 hC dX6_end_77 (by decide) (fun c77 => ?_) (fun c77 => ?_)
              · refine g_iconst 0 hC dX6_end_84 (by decide) ?_
                refine g_ist8 hC dX6_end_85 rfl ?_
                refine g_inc9 1 hC dX6_end_87 (by decide) rfl ?_
                refine g_goto 9 hC dX6_end_90 (by decide) ?_
                (try simp only [ne_eq, b2i_eq0, Bool.not_eq_false, Int32.not_le, Int32.not_lt, Int32.zero_sub] at c14 c25 c30 c60 c67 c77)
                refine g_keep [true, true, true, true, true, true, true, true, true, true, false] ?_
                rw [nI_1]
                first
                | (have hc : (τ 1 k == s && sEC τ none k) = true := by simp [sEC, c14, c25, c30, c60, c67, c77]
                   first
                   | (have hd : ((sEndS τ s (sEC τ none) p q r g k).2 || (decide ((sEndS τ s (sEC τ none) p q r g k).1 < sHgt k p q r) == g)) = true := by
                        first
                        | (rw [c60]; rfl)
                        | (rw [c60, show decide ((sEndS τ s (sEC τ none) p q r g k).1 < sHgt k p q r) = true from decide_eq_true c67]; cases g <;> simp [b2i] at c77 ⊢; done)
                        | (rw [c60, show decide ((sEndS τ s (sEC τ none) p q r g k).1 < sHgt k p q r) = false from decide_eq_false (Int32.not_lt.mpr c67)]; cases g <;> simp [b2i] at c77 ⊢; done)
                      rw [sEndS, if_pos hc, if_pos hd] at e2; exact e2)
                   | (have hd : ¬ ((sEndS τ s (sEC τ none) p q r g k).2 || (decide ((sEndS τ s (sEC τ none) p q r g k).1 < sHgt k p q r) == g)) = true := by
                        first
                        | (rw [c60, show decide ((sEndS τ s (sEC τ none) p q r g k).1 < sHgt k p q r) = true from decide_eq_true c67]; cases g <;> simp [b2i] at c77 ⊢; done)
                        | (rw [c60, show decide ((sEndS τ s (sEC τ none) p q r g k).1 < sHgt k p q r) = false from decide_eq_false (Int32.not_lt.mpr c67)]; cases g <;> simp [b2i] at c77 ⊢; done)
                      rw [sEndS, if_pos hc, if_neg hd] at e2; exact e2))
                | (have hc : ¬ (τ 1 k == s && sEC τ none k) = true := by simp [sEC, c14, c25, c30, c60, c67, c77]
                   rw [sEndS, if_neg hc] at e2; exact e2)
              · refine g_ild10 hC dX6_end_80 ?_
                refine g_ist7 hC dX6_end_82 rfl ?_
                refine g_iconst 0 hC dX6_end_84 (by decide) ?_
                refine g_ist8 hC dX6_end_85 rfl ?_
                refine g_inc9 1 hC dX6_end_87 (by decide) rfl ?_
                refine g_goto 9 hC dX6_end_90 (by decide) ?_
                (try simp only [ne_eq, b2i_eq0, Bool.not_eq_false, Int32.not_le, Int32.not_lt, Int32.zero_sub] at c14 c25 c30 c60 c67 c77)
                refine g_keep [true, true, true, true, true, true, true, true, true, true, false] ?_
                rw [nI_1]
                first
                | (have hc : (τ 1 k == s && sEC τ none k) = true := by simp [sEC, c14, c25, c30, c60, c67, c77]
                   first
                   | (have hd : ((sEndS τ s (sEC τ none) p q r g k).2 || (decide ((sEndS τ s (sEC τ none) p q r g k).1 < sHgt k p q r) == g)) = true := by
                        first
                        | (rw [c60]; rfl)
                        | (rw [c60, show decide ((sEndS τ s (sEC τ none) p q r g k).1 < sHgt k p q r) = true from decide_eq_true c67]; cases g <;> simp [b2i] at c77 ⊢; done)
                        | (rw [c60, show decide ((sEndS τ s (sEC τ none) p q r g k).1 < sHgt k p q r) = false from decide_eq_false (Int32.not_lt.mpr c67)]; cases g <;> simp [b2i] at c77 ⊢; done)
                      rw [sEndS, if_pos hc, if_pos hd] at e2; exact e2)
                   | (have hd : ¬ ((sEndS τ s (sEC τ none) p q r g k).2 || (decide ((sEndS τ s (sEC τ none) p q r g k).1 < sHgt k p q r) == g)) = true := by
                        first
                        | (rw [c60, show decide ((sEndS τ s (sEC τ none) p q r g k).1 < sHgt k p q r) = true from decide_eq_true c67]; cases g <;> simp [b2i] at c77 ⊢; done)
                        | (rw [c60, show decide ((sEndS τ s (sEC τ none) p q r g k).1 < sHgt k p q r) = false from decide_eq_false (Int32.not_lt.mpr c67)]; cases g <;> simp [b2i] at c77 ⊢; done)
                      rw [sEndS, if_pos hc, if_neg hd] at e2; exact e2))
                | (have hc : ¬ (τ 1 k == s && sEC τ none k) = true := by simp [sEC, c14, c25, c30, c60, c67, c77]
                   rw [sEndS, if_neg hc] at e2; exact e2)
            · refine g_iconst 1 hC dX6_end_70 (by decide) ?_
              refine g_goto 75 hC dX6_end_71 (by decide) ?_
              refine g_ild6 hC dX6_end_75 ?_
              refine g_icmp_ne 84 hC dX6_end_77 (by decide) (fun c77 => ?_) (fun c77 => ?_)
              · refine g_iconst 0 hC dX6_end_84 (by decide) ?_
                refine g_ist8 hC dX6_end_85 rfl ?_
                refine g_inc9 1 hC dX6_end_87 (by decide) rfl ?_
                refine g_goto 9 hC dX6_end_90 (by decide) ?_
                (try simp only [ne_eq, b2i_eq0, Bool.not_eq_false, Int32.not_le, Int32.not_lt, Int32.zero_sub] at c14 c25 c30 c60 c67 c77)
                refine g_keep [true, true, true, true, true, true, true, true, true, true, false] ?_
                rw [nI_1]
                first
                | (have hc : (τ 1 k == s && sEC τ none k) = true := by simp [sEC, c14, c25, c30, c60, c67, c77]
                   first
                   | (have hd : ((sEndS τ s (sEC τ none) p q r g k).2 || (decide ((sEndS τ s (sEC τ none) p q r g k).1 < sHgt k p q r) == g)) = true := by
                        first
                        | (rw [c60]; rfl)
                        | (rw [c60, show decide ((sEndS τ s (sEC τ none) p q r g k).1 < sHgt k p q r) = true from decide_eq_true c67]; cases g <;> simp [b2i] at c77 ⊢; done)
                        | (rw [c60, show decide ((sEndS τ s (sEC τ none) p q r g k).1 < sHgt k p q r) = false from decide_eq_false (Int32.not_lt.mpr c67)]; cases g <;> simp [b2i] at c77 ⊢; done)
                      rw [sEndS, if_pos hc, if_pos hd] at e2; exact e2)
                   | (have hd : ¬ ((sEndS τ s (sEC τ none) p q r g k).2 || (decide ((sEndS τ s (sEC τ none) p q r g k).1 < sHgt k p q r) == g)) = true := by
                        first
                        | (rw [c60, show decide ((sEndS τ s (sEC τ none) p q r g k).1 < sHgt k p q r) = true from decide_eq_true c67]; cases g <;> simp [b2i] at c77 ⊢; done)
                        | (rw [c60, show decide ((sEndS τ s (sEC τ none) p q r g k).1 < sHgt k p q r) = false from decide_eq_false (Int32.not_lt.mpr c67)]; cases g <;> simp [b2i] at c77 ⊢; done)
                      rw [sEndS, if_pos hc, if_neg hd] at e2; exact e2))
                | (have hc : ¬ (τ 1 k == s && sEC τ none k) = true := by simp [sEC, c14, c25, c30, c60, c67, c77]
                   rw [sEndS, if_neg hc] at e2; exact e2)
              · refine g_ild10 hC dX6_end_80 ?_
                refine g_ist7 hC dX6_end_82 rfl ?_
                refine g_iconst 0 hC dX6_end_84 (by decide) ?_
                refine g_ist8 hC dX6_end_85 rfl ?_
                refine g_inc9 1 hC dX6_end_87 (by decide) rfl ?_
                refine g_goto 9 hC dX6_end_90 (by decide) ?_
                (try simp only [ne_eq, b2i_eq0, Bool.not_eq_false, Int32.not_le, Int32.not_lt, Int32.zero_sub] at c14 c25 c30 c60 c67 c77)
                refine g_keep [true, true, true, true, true, true, true, true, true, true, false] ?_
                rw [nI_1]
                first
                | (have hc : (τ 1 k == s && sEC τ none k) = true := by simp [sEC, c14, c25, c30, c60, c67, c77]
                   first
                   | (have hd : ((sEndS τ s (sEC τ none) p q r g k).2 || (decide ((sEndS τ s (sEC τ none) p q r g k).1 < sHgt k p q r) == g)) = true := by
                        first
                        | (rw [c60]; rfl)
                        | (rw [c60, show decide ((sEndS τ s (sEC τ none) p q r g k).1 < sHgt k p q r) = true from decide_eq_true c67]; cases g <;> simp [b2i] at c77 ⊢; done)
                        | (rw [c60, show decide ((sEndS τ s (sEC τ none) p q r g k).1 < sHgt k p q r) = false from decide_eq_false (Int32.not_lt.mpr c67)]; cases g <;> simp [b2i] at c77 ⊢; done)
                      rw [sEndS, if_pos hc, if_pos hd] at e2; exact e2)
                   | (have hd : ¬ ((sEndS τ s (sEC τ none) p q r g k).2 || (decide ((sEndS τ s (sEC τ none) p q r g k).1 < sHgt k p q r) == g)) = true := by
                        first
                        | (rw [c60, show decide ((sEndS τ s (sEC τ none) p q r g k).1 < sHgt k p q r) = true from decide_eq_true c67]; cases g <;> simp [b2i] at c77 ⊢; done)
                        | (rw [c60, show decide ((sEndS τ s (sEC τ none) p q r g k).1 < sHgt k p q r) = false from decide_eq_false (Int32.not_lt.mpr c67)]; cases g <;> simp [b2i] at c77 ⊢; done)
                      rw [sEndS, if_pos hc, if_neg hd] at e2; exact e2))
                | (have hc : ¬ (τ 1 k == s && sEC τ none k) = true := by simp [sEC, c14, c25, c30, c60, c67, c77]
                   rw [sEndS, if_neg hc] at e2; exact e2)
      | some f =>
        refine g_ild9 hC dX6_end_9 ?_
        refine g_sipush 1000 hC dX6_end_11 (by decide) ?_
        refine g_icmp_ge 93 hC dX6_end_14 (by decide) (fun c14 => absurd c14 (lit_nle (show (1000 : Int32) = nI 1000 by decide) (by omega) (by omega))) (fun c14 => ?_)
        refine g_ald0 hC dX6_end_17 ?_
        refine mg_Model_cells hC tw_4_26 dX6_end_18 ?_
        refine g_ild9 hC dX6_end_21 ?_
        refine ml_cells _ hC rfl (by omega) dX6_end_23 ?_
        refine g_ild1 hC dX6_end_24 ?_
        refine g_icmp_ne 87 hC dX6_end_25 (by decide) (fun c25 => ?_) (fun c25 => ?_)
        · refine g_inc9 1 hC dX6_end_87 (by decide) rfl ?_
          refine g_goto 9 hC dX6_end_90 (by decide) ?_
          (try simp only [ne_eq, b2i_eq0, Bool.not_eq_false, Int32.not_le, Int32.not_lt, Int32.zero_sub] at c14 c25)
          refine g_keep [true, true, true, true, true, true, true, true, true, true, false] ?_
          rw [nI_1]
          first
          | (have hc : (τ 1 k == s && sEC τ (some f) k) = true := by simp [sEC, c14, c25]
             first
             | (have hd : ((sEndS τ s (sEC τ (some f)) p q r g k).2 || (decide ((sEndS τ s (sEC τ (some f)) p q r g k).1 < sHgt k p q r) == g)) = true := by
                  first
                  | (rw [c60]; rfl)
                  | (rw [c60, show decide ((sEndS τ s (sEC τ (some f)) p q r g k).1 < sHgt k p q r) = true from decide_eq_true c67]; cases g <;> simp [b2i] at c77 ⊢; done)
                  | (rw [c60, show decide ((sEndS τ s (sEC τ (some f)) p q r g k).1 < sHgt k p q r) = false from decide_eq_false (Int32.not_lt.mpr c67)]; cases g <;> simp [b2i] at c77 ⊢; done)
                rw [sEndS, if_pos hc, if_pos hd] at e2; exact e2)
             | (have hd : ¬ ((sEndS τ s (sEC τ (some f)) p q r g k).2 || (decide ((sEndS τ s (sEC τ (some f)) p q r g k).1 < sHgt k p q r) == g)) = true := by
                  first
                  | (rw [c60, show decide ((sEndS τ s (sEC τ (some f)) p q r g k).1 < sHgt k p q r) = true from decide_eq_true c67]; cases g <;> simp [b2i] at c77 ⊢; done)
                  | (rw [c60, show decide ((sEndS τ s (sEC τ (some f)) p q r g k).1 < sHgt k p q r) = false from decide_eq_false (Int32.not_lt.mpr c67)]; cases g <;> simp [b2i] at c77 ⊢; done)
                rw [sEndS, if_pos hc, if_neg hd] at e2; exact e2))
          | (have hc : ¬ (τ 1 k == s && sEC τ (some f) k) = true := by simp [sEC, c14, c25]
             rw [sEndS, if_neg hc] at e2; exact e2)
        · refine g_ild2 hC dX6_end_28 ?_
          refine g_iconst (-1) hC dX6_end_29 (by decide) ?_
          refine g_icmp_eq 46 hC dX6_end_30 (by decide) (fun c30 => absurd c30 (oI_ne (hf f rfl))) (fun c30 => ?_)
          refine g_ald0 hC dX6_end_33 ?_
          refine g_ild2 hC dX6_end_34 ?_
          refine g_ild9 hC dX6_end_35 ?_
          refine k_X6_isFlawed (f := f) (k := k) hC tw_4_101 dX6_end_37 (by decide) ⟨by omega, by omega⟩ (Nat.le_of_ble_eq_true rfl) ⟨hf f rfl, by omega⟩ ?_
          refine g_if_ne 46 hC dX6_end_40 (by decide) (fun c40 => ?_) (fun c40 => ?_)
          · refine g_ild9 hC dX6_end_46 ?_
            refine g_ild3 hC dX6_end_48 ?_
            refine g_ild4 hC dX6_end_49 ?_
            refine g_ild5 hC dX6_end_51 ?_
            refine k_X6_height (k := k) hC tw_4_133 dX6_end_53 (by decide) ⟨by omega, by omega⟩ (Nat.le_of_ble_eq_true rfl) (by omega) ?_
            refine g_ist10 hC dX6_end_56 rfl ?_
            refine g_ild8 hC dX6_end_58 ?_
            refine g_if_ne 80 hC dX6_end_60 (by decide) (fun c60 => ?_) (fun c60 => ?_)
            · refine g_ild10 hC dX6_end_80 ?_
              refine g_ist7 hC dX6_end_82 rfl ?_
              refine g_iconst 0 hC dX6_end_84 (by decide) ?_
              refine g_ist8 hC dX6_end_85 rfl ?_
              refine g_inc9 1 hC dX6_end_87 (by decide) rfl ?_
              refine g_goto 9 hC dX6_end_90 (by decide) ?_
              (try simp only [ne_eq, b2i_eq0, Bool.not_eq_false, Int32.not_le, Int32.not_lt, Int32.zero_sub] at c14 c25 c30 c40 c60)
              refine g_keep [true, true, true, true, true, true, true, true, true, true, false] ?_
              rw [nI_1]
              first
              | (have hc : (τ 1 k == s && sEC τ (some f) k) = true := by simp [sEC, c14, c25, c30, c40, c60]
                 first
                 | (have hd : ((sEndS τ s (sEC τ (some f)) p q r g k).2 || (decide ((sEndS τ s (sEC τ (some f)) p q r g k).1 < sHgt k p q r) == g)) = true := by
                      first
                      | (rw [c60]; rfl)
                      | (rw [c60, show decide ((sEndS τ s (sEC τ (some f)) p q r g k).1 < sHgt k p q r) = true from decide_eq_true c67]; cases g <;> simp [b2i] at c77 ⊢; done)
                      | (rw [c60, show decide ((sEndS τ s (sEC τ (some f)) p q r g k).1 < sHgt k p q r) = false from decide_eq_false (Int32.not_lt.mpr c67)]; cases g <;> simp [b2i] at c77 ⊢; done)
                    rw [sEndS, if_pos hc, if_pos hd] at e2; exact e2)
                 | (have hd : ¬ ((sEndS τ s (sEC τ (some f)) p q r g k).2 || (decide ((sEndS τ s (sEC τ (some f)) p q r g k).1 < sHgt k p q r) == g)) = true := by
                      first
                      | (rw [c60, show decide ((sEndS τ s (sEC τ (some f)) p q r g k).1 < sHgt k p q r) = true from decide_eq_true c67]; cases g <;> simp [b2i] at c77 ⊢; done)
                      | (rw [c60, show decide ((sEndS τ s (sEC τ (some f)) p q r g k).1 < sHgt k p q r) = false from decide_eq_false (Int32.not_lt.mpr c67)]; cases g <;> simp [b2i] at c77 ⊢; done)
                    rw [sEndS, if_pos hc, if_neg hd] at e2; exact e2))
              | (have hc : ¬ (τ 1 k == s && sEC τ (some f) k) = true := by simp [sEC, c14, c25, c30, c40, c60]
                 rw [sEndS, if_neg hc] at e2; exact e2)
            · refine g_ild10 hC dX6_end_63 ?_
              refine g_ild7 hC dX6_end_65 ?_
              refine g_icmp_le 74 hC dX6_end_67 (by decide) (fun c67 => ?_) (fun c67 => ?_)
              · refine g_iconst 0 hC dX6_end_74 (by decide) ?_
                refine g_ild6 hC dX6_end_75 ?_
                refine g_icmp_ne 84 hC dX6_end_77 (by decide) (fun c77 => ?_) (fun c77 => ?_)
                · refine g_iconst 0 hC dX6_end_84 (by decide) ?_
                  refine g_ist8 hC dX6_end_85 rfl ?_
                  refine g_inc9 1 hC dX6_end_87 (by decide) rfl ?_
                  refine g_goto 9 hC dX6_end_90 (by decide) ?_
                  (try simp only [ne_eq, b2i_eq0, Bool.not_eq_false, Int32.not_le, Int32.not_lt, Int32.zero_sub] at c14 c25 c30 c40 c60 c67 c77)
                  refine g_keep [true, true, true, true, true, true, true, true, true, true, false] ?_
                  rw [nI_1]
                  first
                  | (have hc : (τ 1 k == s && sEC τ (some f) k) = true := by simp [sEC, c14, c25, c30, c40, c60, c67, c77]
                     first
                     | (have hd : ((sEndS τ s (sEC τ (some f)) p q r g k).2 || (decide ((sEndS τ s (sEC τ (some f)) p q r g k).1 < sHgt k p q r) == g)) = true := by
                          first
                          | (rw [c60]; rfl)
                          | (rw [c60, show decide ((sEndS τ s (sEC τ (some f)) p q r g k).1 < sHgt k p q r) = true from decide_eq_true c67]; cases g <;> simp [b2i] at c77 ⊢; done)
                          | (rw [c60, show decide ((sEndS τ s (sEC τ (some f)) p q r g k).1 < sHgt k p q r) = false from decide_eq_false (Int32.not_lt.mpr c67)]; cases g <;> simp [b2i] at c77 ⊢; done)
                        rw [sEndS, if_pos hc, if_pos hd] at e2; exact e2)
                     | (have hd : ¬ ((sEndS τ s (sEC τ (some f)) p q r g k).2 || (decide ((sEndS τ s (sEC τ (some f)) p q r g k).1 < sHgt k p q r) == g)) = true := by
                          first
                          | (rw [c60, show decide ((sEndS τ s (sEC τ (some f)) p q r g k).1 < sHgt k p q r) = true from decide_eq_true c67]; cases g <;> simp [b2i] at c77 ⊢; done)
                          | (rw [c60, show decide ((sEndS τ s (sEC τ (some f)) p q r g k).1 < sHgt k p q r) = false from decide_eq_false (Int32.not_lt.mpr c67)]; cases g <;> simp [b2i] at c77 ⊢; done)
                        rw [sEndS, if_pos hc, if_neg hd] at e2; exact e2))
                  | (have hc : ¬ (τ 1 k == s && sEC τ (some f) k) = true := by simp [sEC, c14, c25, c30, c40, c60, c67, c77]
                     rw [sEndS, if_neg hc] at e2; exact e2)
                · refine g_ild10 hC dX6_end_80 ?_
                  refine g_ist7 hC dX6_end_82 rfl ?_
                  refine g_iconst 0 hC dX6_end_84 (by decide) ?_
                  refine g_ist8 hC dX6_end_85 rfl ?_
                  refine g_inc9 1 hC dX6_end_87 (by decide) rfl ?_
                  refine g_goto 9 hC dX6_end_90 (by decide) ?_
                  (try simp only [ne_eq, b2i_eq0, Bool.not_eq_false, Int32.not_le, Int32.not_lt, Int32.zero_sub] at c14 c25 c30 c40 c60 c67 c77)
                  refine g_keep [true, true, true, true, true, true, true, true, true, true, false] ?_
                  rw [nI_1]
                  first
                  | (have hc : (τ 1 k == s && sEC τ (some f) k) = true := by simp [sEC, c14, c25, c30, c40, c60, c67, c77]
                     first
                     | (have hd : ((sEndS τ s (sEC τ (some f)) p q r g k).2 || (decide ((sEndS τ s (sEC τ (some f)) p q r g k).1 < sHgt k p q r) == g)) = true := by
                          first
                          | (rw [c60]; rfl)
                          | (rw [c60, show decide ((sEndS τ s (sEC τ (some f)) p q r g k).1 < sHgt k p q r) = true from decide_eq_true c67]; cases g <;> simp [b2i] at c77 ⊢; done)
                          | (rw [c60, show decide ((sEndS τ s (sEC τ (some f)) p q r g k).1 < sHgt k p q r) = false from decide_eq_false (Int32.not_lt.mpr c67)]; cases g <;> simp [b2i] at c77 ⊢; done)
                        rw [sEndS, if_pos hc, if_pos hd] at e2; exact e2)
                     | (have hd : ¬ ((sEndS τ s (sEC τ (some f)) p q r g k).2 || (decide ((sEndS τ s (sEC τ (some f)) p q r g k).1 < sHgt k p q r) == g)) = true := by
                          first
                          | (rw [c60, show decide ((sEndS τ s (sEC τ (some f)) p q r g k).1 < sHgt k p q r) = true from decide_eq_true c67]; cases g <;> simp [b2i] at c77 ⊢; done)
                          | (rw [c60, show decide ((sEndS τ s (sEC τ (some f)) p q r g k).1 < sHgt k p q r) = false from decide_eq_false (Int32.not_lt.mpr c67)]; cases g <;> simp [b2i] at c77 ⊢; done)
                        rw [sEndS, if_pos hc, if_neg hd] at e2; exact e2))
                  | (have hc : ¬ (τ 1 k == s && sEC τ (some f) k) = true := by simp [sEC, c14, c25, c30, c40, c60, c67, c77]
                     rw [sEndS, if_neg hc] at e2; exact e2)
              · refine g_iconst 1 hC dX6_end_70 (by decide) ?_
                refine g_goto 75 hC dX6_end_71 (by decide) ?_
                refine g_ild6 hC dX6_end_75 ?_
                refine g_icmp_ne 84 hC dX6_end_77 (by decide) (fun c77 => ?_) (fun c77 => ?_)
                · refine g_iconst 0 hC dX6_end_84 (by decide) ?_
                  refine g_ist8 hC dX6_end_85 rfl ?_
                  refine g_inc9 1 hC dX6_end_87 (by decide) rfl ?_
                  refine g_goto 9 hC dX6_end_90 (by decide) ?_
                  (try simp only [ne_eq, b2i_eq0, Bool.not_eq_false, Int32.not_le, Int32.not_lt, Int32.zero_sub] at c14 c25 c30 c40 c60 c67 c77)
                  refine g_keep [true, true, true, true, true, true, true, true, true, true, false] ?_
                  rw [nI_1]
                  first
                  | (have hc : (τ 1 k == s && sEC τ (some f) k) = true := by simp [sEC, c14, c25, c30, c40, c60, c67, c77]
                     first
                     | (have hd : ((sEndS τ s (sEC τ (some f)) p q r g k).2 || (decide ((sEndS τ s (sEC τ (some f)) p q r g k).1 < sHgt k p q r) == g)) = true := by
                          first
                          | (rw [c60]; rfl)
                          | (rw [c60, show decide ((sEndS τ s (sEC τ (some f)) p q r g k).1 < sHgt k p q r) = true from decide_eq_true c67]; cases g <;> simp [b2i] at c77 ⊢; done)
                          | (rw [c60, show decide ((sEndS τ s (sEC τ (some f)) p q r g k).1 < sHgt k p q r) = false from decide_eq_false (Int32.not_lt.mpr c67)]; cases g <;> simp [b2i] at c77 ⊢; done)
                        rw [sEndS, if_pos hc, if_pos hd] at e2; exact e2)
                     | (have hd : ¬ ((sEndS τ s (sEC τ (some f)) p q r g k).2 || (decide ((sEndS τ s (sEC τ (some f)) p q r g k).1 < sHgt k p q r) == g)) = true := by
                          first
                          | (rw [c60, show decide ((sEndS τ s (sEC τ (some f)) p q r g k).1 < sHgt k p q r) = true from decide_eq_true c67]; cases g <;> simp [b2i] at c77 ⊢; done)
                          | (rw [c60, show decide ((sEndS τ s (sEC τ (some f)) p q r g k).1 < sHgt k p q r) = false from decide_eq_false (Int32.not_lt.mpr c67)]; cases g <;> simp [b2i] at c77 ⊢; done)
                        rw [sEndS, if_pos hc, if_neg hd] at e2; exact e2))
                  | (have hc : ¬ (τ 1 k == s && sEC τ (some f) k) = true := by simp [sEC, c14, c25, c30, c40, c60, c67, c77]
                     rw [sEndS, if_neg hc] at e2; exact e2)
                · refine g_ild10 hC dX6_end_80 ?_
                  refine g_ist7 hC dX6_end_82 rfl ?_
                  refine g_iconst 0 hC dX6_end_84 (by decide) ?_
                  refine g_ist8 hC dX6_end_85 rfl ?_
                  refine g_inc9 1 hC dX6_end_87 (by decide) rfl ?_
                  refine g_goto 9 hC dX6_end_90 (by decide) ?_
                  (try simp only [ne_eq, b2i_eq0, Bool.not_eq_false, Int32.not_le, Int32.not_lt, Int32.zero_sub] at c14 c25 c30 c40 c60 c67 c77)
                  refine g_keep [true, true, true, true, true, true, true, true, true, true, false] ?_
                  rw [nI_1]
                  first
                  | (have hc : (τ 1 k == s && sEC τ (some f) k) = true := by simp [sEC, c14, c25, c30, c40, c60, c67, c77]
                     first
                     | (have hd : ((sEndS τ s (sEC τ (some f)) p q r g k).2 || (decide ((sEndS τ s (sEC τ (some f)) p q r g k).1 < sHgt k p q r) == g)) = true := by
                          first
                          | (rw [c60]; rfl)
                          | (rw [c60, show decide ((sEndS τ s (sEC τ (some f)) p q r g k).1 < sHgt k p q r) = true from decide_eq_true c67]; cases g <;> simp [b2i] at c77 ⊢; done)
                          | (rw [c60, show decide ((sEndS τ s (sEC τ (some f)) p q r g k).1 < sHgt k p q r) = false from decide_eq_false (Int32.not_lt.mpr c67)]; cases g <;> simp [b2i] at c77 ⊢; done)
                        rw [sEndS, if_pos hc, if_pos hd] at e2; exact e2)
                     | (have hd : ¬ ((sEndS τ s (sEC τ (some f)) p q r g k).2 || (decide ((sEndS τ s (sEC τ (some f)) p q r g k).1 < sHgt k p q r) == g)) = true := by
                          first
                          | (rw [c60, show decide ((sEndS τ s (sEC τ (some f)) p q r g k).1 < sHgt k p q r) = true from decide_eq_true c67]; cases g <;> simp [b2i] at c77 ⊢; done)
                          | (rw [c60, show decide ((sEndS τ s (sEC τ (some f)) p q r g k).1 < sHgt k p q r) = false from decide_eq_false (Int32.not_lt.mpr c67)]; cases g <;> simp [b2i] at c77 ⊢; done)
                        rw [sEndS, if_pos hc, if_neg hd] at e2; exact e2))
                  | (have hc : ¬ (τ 1 k == s && sEC τ (some f) k) = true := by simp [sEC, c14, c25, c30, c40, c60, c67, c77]
                     rw [sEndS, if_neg hc] at e2; exact e2)
          · refine g_goto 87 hC dX6_end_43 (by decide) ?_
            refine g_inc9 1 hC dX6_end_87 (by decide) rfl ?_
            refine g_goto 9 hC dX6_end_90 (by decide) ?_
            (try simp only [ne_eq, b2i_eq0, Bool.not_eq_false, Int32.not_le, Int32.not_lt, Int32.zero_sub] at c14 c25 c30 c40)
            refine g_keep [true, true, true, true, true, true, true, true, true, true, false] ?_
            rw [nI_1]
            first
            | (have hc : (τ 1 k == s && sEC τ (some f) k) = true := by simp [sEC, c14, c25, c30, c40]
               first
               | (have hd : ((sEndS τ s (sEC τ (some f)) p q r g k).2 || (decide ((sEndS τ s (sEC τ (some f)) p q r g k).1 < sHgt k p q r) == g)) = true := by
                    first
                    | (rw [c60]; rfl)
                    | (rw [c60, show decide ((sEndS τ s (sEC τ (some f)) p q r g k).1 < sHgt k p q r) = true from decide_eq_true c67]; cases g <;> simp [b2i] at c77 ⊢; done)
                    | (rw [c60, show decide ((sEndS τ s (sEC τ (some f)) p q r g k).1 < sHgt k p q r) = false from decide_eq_false (Int32.not_lt.mpr c67)]; cases g <;> simp [b2i] at c77 ⊢; done)
                  rw [sEndS, if_pos hc, if_pos hd] at e2; exact e2)
               | (have hd : ¬ ((sEndS τ s (sEC τ (some f)) p q r g k).2 || (decide ((sEndS τ s (sEC τ (some f)) p q r g k).1 < sHgt k p q r) == g)) = true := by
                    first
                    | (rw [c60, show decide ((sEndS τ s (sEC τ (some f)) p q r g k).1 < sHgt k p q r) = true from decide_eq_true c67]; cases g <;> simp [b2i] at c77 ⊢; done)
                    | (rw [c60, show decide ((sEndS τ s (sEC τ (some f)) p q r g k).1 < sHgt k p q r) = false from decide_eq_false (Int32.not_lt.mpr c67)]; cases g <;> simp [b2i] at c77 ⊢; done)
                  rw [sEndS, if_pos hc, if_neg hd] at e2; exact e2))
            | (have hc : ¬ (τ 1 k == s && sEC τ (some f) k) = true := by simp [sEC, c14, c25, c30, c40]
               rw [sEndS, if_neg hc] at e2; exact e2)
  refine g_iconst 0 hC dX6_end_0 (by decide) ?_
  refine g_ist7 hC dX6_end_1 rfl ?_
  refine g_iconst 1 hC dX6_end_3 (by decide) ?_
  refine g_ist8 hC dX6_end_4 rfl ?_
  refine g_iconst 0 hC dX6_end_6 (by decide) ?_
  refine g_ist9 hC dX6_end_7 rfl ?_
  exact key 1000 0 (by omega)
theorem k_X6_end {l : Launch} {X : gC} {cc : ByteArray} {own : String} {dd ca sa kc nc pc : Nat} {ls : List (Option Value)} {st : List Value} {σ : Mem} {idx : Nat} {s : Int32} {o : Option Nat} {p q r : Int32} {g : Bool} (hC : gOk wM l X cc own dd ca sa) (hlk : Cond.methodLink own idx yX6_end ∈ TB) (hd : decode cc pc = .ok (.invokevirtual idx, 3)) (hdd : 2 + 1 ≤ dd) (hf : kc + 0 ≤ ca ∧ nc + 0 ≤ sa) (hrest : (st.map fun v => v.category).sum ≤ 8)  (hP : ∀ f, o = some f → f < 10) (kk : G wM X kc nc (pc + 3) ls (.int (sEnd σ s o p q r g) :: st) (σ)) : G wM X kc nc pc ls (.int (b2i g) :: .int r :: .int q :: .int p :: .int (oI o) :: .int s :: .ref (gA X 0) :: st) σ := by
  exact g_cVI 6 hC (c_X6_end l s o p q r g) hlk ⟨tw_4_239, tws_4_3, tw_1_7, tw_5_0⟩ (by decide +kernel) ⟨hdd, by decide⟩ hf rfl rfl rfl (gW_at wM _ _ (by decide)) hrest rfl hd hP (fun rr σ1 hq => by obtain ⟨rfl, rfl⟩ := hq; exact kk)
