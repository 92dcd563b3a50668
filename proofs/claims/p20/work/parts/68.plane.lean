set_option maxRecDepth 100000 in
set_option maxHeartbeats 4000000 in
theorem c_plane (l : Launch) (x : Int32) (w : Nat) (hw : w ≤ 9) (b L : Nat) (xs : Nat → Int32) (D : va_G) (cy : Nat → ClassId) (sz : Nat) : Met l yL_plane (.code yL_plane cL_plane 6 (some (.array .int)) :: TB) (gR 1 1 4) (vPre D cy b L xs [] sz [.int x, .int (nI w)]) (va_Qr (fun u : Nat × va_W => pJ cy u.1 u.2) (fun u r t => r = u.1 ∧ vC D [] sz u.2 t) (va_A [] sz)) 1 4 (va_A [] sz) := by
  refine vR_of (B := wE) (A := fun _ => 0) (σ := zM) (es := []) (J := pJ cy) (by decide) (Or.inr ⟨_, rfl⟩) (Nat.le_of_ble_eq_true rfl) ?_
  intro X hC hL hcy hDD hE
  subst hcy
  subst hDD
  show G (wU wE []) (uX wE X (fun _ => 0) []) 0 0 0 [some (.int x), some (.int (nI w)), none, none, none, none] [] zM
  refine g_iconst 4 hC dL_plane_0 (by decide) ?_
  refine p_newa 4 hC (by decide) (by decide) (by decide) ⟨by omega, by omega⟩ dL_plane_1 ?_
  intro q hC
  have lp : ∀ (f : Nat → Int32), R3 f → N0 f → uOk l wE X (fun _ => 0) [(q, .inl (zY X 0, 4, .inl f))] cL_plane "GemCutLaw" 1 1 4 → ∀ (m k : Nat) (F Lo : Int), k + m = 3 → (0 ≤ F ∧ F ≤ 27 * (k : Int)) → (Lo ≤ 0 ∧ -27 * (k : Int) ≤ Lo) → G (wU wE [(q, .inl (zY X 0, 4, .inl f))]) (uX wE X (fun _ => 0) [(q, .inl (zY X 0, 4, .inl f))]) 1 4 113 [some (.int x), some (.int (nI w)), some (.ref q), some (.int (iI F)), some (.int (iI Lo)), some (.int (nI k))] [] zM := by
    intro f hR hN hC m
    induction m with
    | zero =>
      intro k F Lo hk hF hLo
      obtain rfl : k = 3 := by omega
      have hF : 0 ≤ F ∧ F ≤ 81 := by omega
      have hLo : Lo ≤ 0 ∧ -81 ≤ Lo := by omega
      refine g_ild5 hC dL_plane_113 ?_
      refine g_iconst 3 hC dL_plane_115 (by decide) ?_
      refine g_icmp_ge 153 hC dL_plane_116 (by decide) (fun c116 => ?_) (fun c116 => absurd (lit_le (show (3 : Int32) = nI 3 by decide) (by omega) (by omega)) c116)
      refine g_ald2 hC dL_plane_153 ?_
      refine g_iconst 3 hC dL_plane_154 (by decide) ?_
      refine g_ild0 hC dL_plane_155 ?_
      refine g_bipush 8 hC dL_plane_156 (by decide) ?_
      refine g_ishr hC dL_plane_158 ?_
      refine g_bipush 6 hC dL_plane_159 (by decide) ?_
      refine r_below hC hL (by decide) tw_3_150 dL_plane_161 (by decide) ⟨by omega, by omega⟩ (Nat.le_of_ble_eq_true rfl) ?_
      refine g_if_ne 182 hC dL_plane_164 (by decide) (fun c164 => ?_) (fun c164 => ?_)
      · refine g_ild4 hC dL_plane_182 ?_
        refine g_ild0 hC dL_plane_184 ?_
        refine g_iconst 5 hC dL_plane_185 (by decide) ?_
        refine g_ishr hC dL_plane_186 ?_
        refine g_ild3 hC dL_plane_187 ?_
        refine g_ild4 hC dL_plane_188 ?_
        refine g_isub hC dL_plane_190 ?_
        refine g_iconst 3 hC dL_plane_191 (by decide) ?_
        refine g_iadd hC dL_plane_192 ?_
        refine r_below hC hL (dep_ne hF hLo) tw_3_150 dL_plane_193 (by decide) ⟨by omega, by omega⟩ (Nat.le_of_ble_eq_true rfl) ?_
        refine g_iadd hC dL_plane_196 ?_
        refine p_iast 3 hC rfl (by decide) (by decide) dL_plane_197 ?_
        intro hC
        refine g_ald2 hC dL_plane_198 ?_
        have e : ∀ d : Int32, sTilt (upd f 3 d 0) (upd f 3 d 1) (upd f 3 d 2) (upd f 3 d 3) = sTilt (f 0) (f 1) (f 2) d := fun d => by rw [upd_ne _ _ (by decide), upd_ne _ _ (by decide), upd_ne _ _ (by decide), upd_at]
        exact hE _ _ _ _ _ _ zM dL_plane_199 (by omega) (by omega) hC ⟨_, rfl, by first | exact (e _).trans (tilt_of hR hN (dep_a _)) | exact (e _).trans (tilt_of hR hN (dep_b _ hF hLo))⟩
      · refine g_ild0 hC dL_plane_167 ?_
        refine g_iconst 3 hC dL_plane_168 (by decide) ?_
        refine g_ishr hC dL_plane_169 ?_
        refine g_sipush 201 hC dL_plane_170 (by decide) ?_
        refine r_below hC hL (by decide) tw_3_150 dL_plane_173 (by decide) ⟨by omega, by omega⟩ (Nat.le_of_ble_eq_true rfl) ?_
        refine g_bipush 100 hC dL_plane_176 (by decide) ?_
        refine g_isub hC dL_plane_178 ?_
        refine g_goto 197 hC dL_plane_179 (by decide) ?_
        refine p_iast 3 hC rfl (by decide) (by decide) dL_plane_197 ?_
        intro hC
        refine g_ald2 hC dL_plane_198 ?_
        have e : ∀ d : Int32, sTilt (upd f 3 d 0) (upd f 3 d 1) (upd f 3 d 2) (upd f 3 d 3) = sTilt (f 0) (f 1) (f 2) d := fun d => by rw [upd_ne _ _ (by decide), upd_ne _ _ (by decide), upd_ne _ _ (by decide), upd_at]
        exact hE _ _ _ _ _ _ zM dL_plane_199 (by omega) (by omega) hC ⟨_, rfl, by first | exact (e _).trans (tilt_of hR hN (dep_a _)) | exact (e _).trans (tilt_of hR hN (dep_b _ hF hLo))⟩
    | succ m ih =>
      intro k F Lo hk hF hLo
      refine g_ild5 hC dL_plane_113 ?_
      refine g_iconst 3 hC dL_plane_115 (by decide) ?_
      refine g_icmp_ge 153 hC dL_plane_116 (by decide) (fun c116 => absurd c116 (lit_nle (show (3 : Int32) = nI 3 by decide) (by omega) (by omega))) (fun c116 => ?_)
      refine g_ild3 hC dL_plane_119 ?_
      refine g_iconst 0 hC dL_plane_120 (by decide) ?_
      refine g_ald2 hC dL_plane_121 ?_
      refine g_ild5 hC dL_plane_122 ?_
      refine p_iald k hC rfl (by omega) (by decide) dL_plane_124 ?_
      refine g_mmax hC (by first | assumption | omega | exact xk_pl _ (by assumption) _ (by omega) | decide) tw_3_164 (Nat.le_of_ble_eq_true rfl) ⟨by omega, by omega⟩ dL_plane_125 ?_
      refine g_ild1 hC dL_plane_128 ?_
      refine g_imul hC dL_plane_129 ?_
      refine g_iadd hC dL_plane_130 ?_
      refine g_ist3 hC dL_plane_131 rfl ?_
      refine g_ild4 hC dL_plane_132 ?_
      refine g_iconst 0 hC dL_plane_134 (by decide) ?_
      refine g_ald2 hC dL_plane_135 ?_
      refine g_ild5 hC dL_plane_136 ?_
      refine p_iald k hC rfl (by omega) (by decide) dL_plane_138 ?_
      refine g_mmin hC (by first | assumption | omega | exact xk_pl _ (by assumption) _ (by omega) | decide) tw_3_165 (Nat.le_of_ble_eq_true rfl) ⟨by omega, by omega⟩ dL_plane_139 ?_
      refine g_ild1 hC dL_plane_142 ?_
      refine g_imul hC dL_plane_143 ?_
      refine g_iadd hC dL_plane_144 ?_
      refine g_ist4 hC dL_plane_145 rfl ?_
      refine g_inc5 1 hC dL_plane_147 (by decide) rfl ?_
      refine g_goto 113 hC dL_plane_150 (by decide) ?_
      obtain ⟨F1, g1, g2, e1⟩ := far_s (R3_at hR (show k < 3 by omega)) hw hF (by omega)
      obtain ⟨L1, g3, g4, e2⟩ := low_s (R3_at hR (show k < 3 by omega)) hw hLo (by omega)
      rw [e1, e2, nI_1]
      exact ih (k + 1) F1 L1 (by omega) ⟨g1, g2⟩ ⟨g3, g4⟩
  have k105 : ∀ (f : Nat → Int32), R3 f → N0 f → uOk l wE X (fun _ => 0) [(q, .inl (zY X 0, 4, .inl f))] cL_plane "GemCutLaw" 1 1 4 → G (wU wE [(q, .inl (zY X 0, 4, .inl f))]) (uX wE X (fun _ => 0) [(q, .inl (zY X 0, 4, .inl f))]) 1 4 105 [some (.int x), some (.int (nI w)), some (.ref q), none, none, none] [] zM := by
    intro f hR hN hC
    refine g_iconst 0 hC dL_plane_105 (by decide) ?_
    refine g_ist3 hC dL_plane_106 rfl ?_
    refine g_iconst 0 hC dL_plane_107 (by decide) ?_
    refine g_ist4 hC dL_plane_108 rfl ?_
    refine g_iconst 0 hC dL_plane_110 (by decide) ?_
    refine g_ist5 hC dL_plane_111 rfl ?_
    exact lp f hR hN hC 3 0 0 0 rfl (by omega) (by omega)
  have k79 : ∀ (f : Nat → Int32), R3 f → uOk l wE X (fun _ => 0) [(q, .inl (zY X 0, 4, .inl f))] cL_plane "GemCutLaw" 1 1 4 → G (wU wE [(q, .inl (zY X 0, 4, .inl f))]) (uX wE X (fun _ => 0) [(q, .inl (zY X 0, 4, .inl f))]) 1 4 79 [some (.int x), some (.int (nI w)), some (.ref q), none, none, none] [] zM := by
    intro f hR hC
    refine g_ald2 hC dL_plane_79 ?_
    refine g_iconst 0 hC dL_plane_80 (by decide) ?_
    refine p_iald 0 hC rfl (by decide) (by decide) dL_plane_81 ?_
    refine g_if_ne 105 hC dL_plane_82 (by decide) (fun c82 => ?_) (fun c82 => ?_)
    · exact k105 f hR (fun h => c82 h.1) hC
    · refine g_ald2 hC dL_plane_85 ?_
      refine g_iconst 1 hC dL_plane_86 (by decide) ?_
      refine p_iald 1 hC rfl (by decide) (by decide) dL_plane_87 ?_
      refine g_if_ne 105 hC dL_plane_88 (by decide) (fun c88 => ?_) (fun c88 => ?_)
      · exact k105 f hR (fun h => c88 h.2.1) hC
      · refine g_ald2 hC dL_plane_91 ?_
        refine g_iconst 2 hC dL_plane_92 (by decide) ?_
        refine p_iald 2 hC rfl (by decide) (by decide) dL_plane_93 ?_
        refine g_if_ne 105 hC dL_plane_94 (by decide) (fun c94 => ?_) (fun c94 => ?_)
        · exact k105 f hR (fun h => c94 h.2.2) hC
        · refine g_ald2 hC dL_plane_97 ?_
          refine g_ild0 hC dL_plane_98 ?_
          refine g_iconst 3 hC dL_plane_99 (by decide) ?_
          refine r_below hC hL (by decide) tw_3_150 dL_plane_100 (by decide) ⟨by omega, by omega⟩ (Nat.le_of_ble_eq_true rfl) ?_
          obtain ⟨j, hj, ej⟩ := bel_nI x (n := 3) (by decide) (by decide)
          refine g_iconst 1 hC dL_plane_103 (by decide) ?_
          refine p_iast j hC ej (by omega) (by decide) dL_plane_104 ?_
          intro hC
          exact k105 _ (R3_upd hR hj rg_1) (N0_upd f hj) hC
  have lp2 : ∀ (m k : Nat) (f : Nat → Int32), k + m = 3 → R3 f → uOk l wE X (fun _ => 0) [(q, .inl (zY X 0, 4, .inl f))] cL_plane "GemCutLaw" 1 1 4 → G (wU wE [(q, .inl (zY X 0, 4, .inl f))]) (uX wE X (fun _ => 0) [(q, .inl (zY X 0, 4, .inl f))]) 1 4 58 [some (.int x), some (.int (nI w)), some (.ref q), some (.int (nI k)), none, none] [] zM := by
    intro m
    induction m with
    | zero =>
      intro k f hk hR hC
      obtain rfl : k = 3 := by omega
      refine g_ild3 hC dL_plane_58 ?_
      refine g_iconst 3 hC dL_plane_59 (by decide) ?_
      refine g_icmp_ge 79 hC dL_plane_60 (by decide) (fun c60 => ?_) (fun c60 => absurd (lit_le (show (3 : Int32) = nI 3 by decide) (by omega) (by omega)) c60)
      refine g_keep [true, true, true, false, false, false] ?_
      exact k79 f hR hC
    | succ m ih =>
      intro k f hk hR hC
      refine g_ild3 hC dL_plane_58 ?_
      refine g_iconst 3 hC dL_plane_59 (by decide) ?_
      refine g_icmp_ge 79 hC dL_plane_60 (by decide) (fun c60 => absurd c60 (lit_nle (show (3 : Int32) = nI 3 by decide) (by omega) (by omega))) (fun c60 => ?_)
      refine g_ald2 hC dL_plane_63 ?_
      refine g_ild3 hC dL_plane_64 ?_
      refine g_ald2 hC dL_plane_65 ?_
      refine g_ild3 hC dL_plane_66 ?_
      refine p_iald k hC rfl (by omega) (by decide) dL_plane_67 ?_
      refine g_iconst 0 hC dL_plane_68 (by decide) ?_
      refine r_cmp hC hL tw_3_161 dL_plane_69 (by decide) ⟨by omega, by omega⟩ (Nat.le_of_ble_eq_true rfl) ?_
      refine p_iast k hC rfl (by omega) (by decide) dL_plane_72 ?_
      intro hC
      refine g_inc3 1 hC dL_plane_73 (by decide) rfl ?_
      refine g_goto 58 hC dL_plane_76 (by decide) ?_
      rw [nI_1]
      exact ih (k + 1) _ (by omega) (R3_upd hR (by omega) (rg_cmp _ _)) hC
  have k45 : ∀ (f : Nat → Int32), R3 f → uOk l wE X (fun _ => 0) [(q, .inl (zY X 0, 4, .inl f))] cL_plane "GemCutLaw" 1 1 4 → G (wU wE [(q, .inl (zY X 0, 4, .inl f))]) (uX wE X (fun _ => 0) [(q, .inl (zY X 0, 4, .inl f))]) 1 4 45 [some (.int x), some (.int (nI w)), some (.ref q), none, none, none] [] zM := by
    intro f hR hC
    refine g_ild0 hC dL_plane_45 ?_
    refine g_bipush 6 hC dL_plane_46 (by decide) ?_
    refine g_ishr hC dL_plane_48 ?_
    refine g_iconst 2 hC dL_plane_49 (by decide) ?_
    refine r_below hC hL (by decide) tw_3_150 dL_plane_50 (by decide) ⟨by omega, by omega⟩ (Nat.le_of_ble_eq_true rfl) ?_
    refine g_if_ne 79 hC dL_plane_53 (by decide) (fun c53 => ?_) (fun c53 => ?_)
    · exact k79 f hR hC
    · refine g_iconst 0 hC dL_plane_56 (by decide) ?_
      refine g_ist3 hC dL_plane_57 rfl ?_
      exact lp2 3 0 f rfl hR hC
  refine g_dup hC dL_plane_3 rfl ?_
  refine g_iconst 0 hC dL_plane_4 (by decide) ?_
  refine g_ild0 hC dL_plane_5 ?_
  refine g_bipush 7 hC dL_plane_6 (by decide) ?_
  refine r_below hC hL (by decide) tw_3_150 dL_plane_8 (by decide) ⟨by omega, by omega⟩ (Nat.le_of_ble_eq_true rfl) ?_
  refine g_iconst 3 hC dL_plane_11 (by decide) ?_
  refine g_isub hC dL_plane_12 ?_
  refine p_iast 0 hC rfl (by decide) (by decide) dL_plane_13 ?_
  intro hC
  refine g_dup hC dL_plane_14 rfl ?_
  refine g_iconst 1 hC dL_plane_15 (by decide) ?_
  refine g_ild0 hC dL_plane_16 ?_
  refine g_iconst 2 hC dL_plane_17 (by decide) ?_
  refine g_ishr hC dL_plane_18 ?_
  refine g_bipush 7 hC dL_plane_19 (by decide) ?_
  refine r_below hC hL (by decide) tw_3_150 dL_plane_21 (by decide) ⟨by omega, by omega⟩ (Nat.le_of_ble_eq_true rfl) ?_
  refine g_iconst 3 hC dL_plane_24 (by decide) ?_
  refine g_isub hC dL_plane_25 ?_
  refine p_iast 1 hC rfl (by decide) (by decide) dL_plane_26 ?_
  intro hC
  refine g_dup hC dL_plane_27 rfl ?_
  refine g_iconst 2 hC dL_plane_28 (by decide) ?_
  refine g_ild0 hC dL_plane_29 ?_
  refine g_iconst 4 hC dL_plane_30 (by decide) ?_
  refine g_ishr hC dL_plane_31 ?_
  refine g_bipush 7 hC dL_plane_32 (by decide) ?_
  refine r_below hC hL (by decide) tw_3_150 dL_plane_34 (by decide) ⟨by omega, by omega⟩ (Nat.le_of_ble_eq_true rfl) ?_
  refine g_iconst 3 hC dL_plane_37 (by decide) ?_
  refine g_isub hC dL_plane_38 ?_
  refine p_iast 2 hC rfl (by decide) (by decide) dL_plane_39 ?_
  intro hC
  refine g_dup hC dL_plane_40 rfl ?_
  refine g_iconst 3 hC dL_plane_41 (by decide) ?_
  refine g_iconst 0 hC dL_plane_42 (by decide) ?_
  refine p_iast 3 hC rfl (by decide) (by decide) dL_plane_43 ?_
  intro hC
  refine g_ast2 hC dL_plane_44 rfl ?_
  exact k45 _ (R3_u3 (R3_upd (R3_upd (R3_upd R3_0 (by decide) (rg_bel _)) (by decide) (rg_bel _)) (by decide) (rg_bel _)) _) hC
