/-! the checksum's folds -/
theorem foldF_app (F : Nat → Int64 → Int64) (a : Nat) (d : Int64) : ∀ b, foldF F (a + b) d = foldF (fun k => F (a + k)) b (foldF F a d) := by
  intro b
  induction b with
  | zero => rfl
  | succ b ih => rw [← Nat.add_assoc]; simp only [foldF, ih]
theorem foldF_congr {F F' : Nat → Int64 → Int64} : ∀ n d, (∀ k, k < n → F k = F' k) → foldF F n d = foldF F' n d := by
  intro n
  induction n with
  | zero => intro d _; rfl
  | succ n ih => intro d h; simp only [foldF, ih d (fun k hk => h k (by omega)), h n (by omega)]
theorem foldF_blk (F : Nat → Int64 → Int64) (m : Nat) (d : Int64) : ∀ n, foldF F (m * n) d = foldF (fun y e => foldF (fun x => F (x + m * y)) m e) n d := by
  intro n
  induction n with
  | zero => rfl
  | succ n ih =>
    rw [Nat.mul_succ, foldF_app, ih]
    simp only [foldF]
    exact foldF_congr _ _ (fun k _ => by rw [Nat.add_comm])
def mFi (τ : Mem) (i : Nat) (d : Int64) : Int64 := dg d (τ 1 (CI τ i))
theorem mFi_s {τ : Mem} {i : Nat} {d : Int64} : foldF (mFi τ) (i + 1) d = foldF (mFi τ) i d * 31 + (τ 1 (CI τ i)).toInt64 := by rw [← foldF_s, mFi]; rfl
theorem cells_fold {τ : Mem} (d : Int64) : foldF (mFi τ) (NN τ) d = foldF (mFz τ) (nL τ) d := by
  unfold NN
  rw [Nat.mul_assoc, foldF_blk, foldF_blk]
  refine foldF_congr _ _ (fun z hz => ?_)
  funext e
  refine foldF_congr _ _ (fun y hy => ?_)
  funext e2
  refine foldF_congr _ _ (fun x hx => ?_)
  funext e3
  show dg e3 (τ 1 (CI τ (x + nC τ * (y + nR τ * z)))) = dg e3 (τ 1 (x + 10 * (y + 10 * z)))
  unfold CI
  rw [bI_at hx hy]

set_option maxRecDepth 100000 in
set_option maxHeartbeats 4000000 in
/-- X5_addStone -/
theorem c_X5_addStone (l : Launch) (t : Mem) (s : Nat) (d : Int64) : gML wX l yX5_addStone (.code yX5_addStone cX5_addStone 8 (some FieldType.long)) 4 0 0 (fun A => [.ref (A 0), .long d, .ref (A (iStone s))]) (fun τ => s < nS t ∧ RS τ t) (fun τ rr τ1 => rr = mFs t s d ∧ τ1 = τ) := by
  refine gML_of (by decide) (fun A => Nat.le_of_ble_eq_true rfl) ?_
  intro X τ hC hP hE
  have hC : gOk wX l X cX5_addStone "GemCut" 4 0 0 := hC
  show G wX X 0 0 0 [some (.ref (gA X 0)), some (.long d), none, some (.ref (gA X (iStone s))), none, none, none, none] [] τ
  obtain ⟨hs, hRS⟩ := hP
  have hs8 : s < 8 := Nat.lt_of_lt_of_le hs (MI_S hRS.1).2.2
  have hn16 : nP t s ≤ 16 := hRS.2.2.1 s hs8
  have lpk : ∀ (m k : Nat), k + m = nP t s → G wX X 0 0 39 [some (.ref (gA X 0)), some (.long d), none, some (.ref (gA X (iStone s))), some (.long (foldF (mFk t s) k (foldF (mFw t s) 9 d))), none, some (.int (nI k)), none] [] τ := by
    intro m
    induction m with
    | zero =>
      intro k hk
      have hk : k = nP t s := by omega
      rw [hk]
      refine g_ild6 hC dX5_addStone_39 ?_
      refine g_ald3 hC dX5_addStone_41 ?_
      refine xg_Stone_planeCount hC (by first | assumption | omega | exact xk_pl _ (by assumption) _ (by omega) | decide) tw_1_147 dX5_addStone_42 ?_
      refine g_icmp_ge 92 hC dX5_addStone_45 (by decide) (fun c45 => ?_) (fun c45 => absurd (by rw [(rs_pc hRS hs)]; exact nI_le (by omega) (by omega)) c45)
      refine g_lld4 hC dX5_addStone_92 ?_
      exact hE _ _ _ _ _ _ dX5_addStone_94 (Nat.le_refl _) (Nat.le_refl _) ⟨rfl, rfl⟩
    | succ m ihk =>
      intro k hk
      have lpw : ∀ (m w : Nat), w + m = 6 → G wX X 0 0 51 [some (.ref (gA X 0)), some (.long d), none, some (.ref (gA X (iStone s))), some (.long (foldF (mFp t s k) w (foldF (mFk t s) k (foldF (mFw t s) 9 d)))), none, some (.int (nI k)), some (.int (nI w))] [] τ := by
        intro m
        induction m with
        | zero =>
          intro w hw
          have hw : w = 6 := by omega
          rw [hw]
          refine g_ild7 hC dX5_addStone_51 ?_
          refine g_bipush 6 hC dX5_addStone_53 (by decide) ?_
          refine g_icmp_ge 86 hC dX5_addStone_55 (by decide) (fun c55 => ?_) (fun c55 => absurd (lit_le (show (6 : Int32) = nI 6 by decide) (by omega) (by omega)) c55)
          refine g_inc6 1 hC dX5_addStone_86 (by decide) rfl ?_
          refine g_goto 39 hC dX5_addStone_89 (by decide) ?_
          refine g_keep [true, true, true, true, true, true, true, false] ?_
          rw [← mFk_s, nI_1]
          exact ihk (k + 1) (by omega)
        | succ m ihw =>
          intro w hw
          refine g_ild7 hC dX5_addStone_51 ?_
          refine g_bipush 6 hC dX5_addStone_53 (by decide) ?_
          refine g_icmp_ge 86 hC dX5_addStone_55 (by decide) (fun c55 => absurd c55 (lit_nle (show (6 : Int32) = nI 6 by decide) (by omega) (by omega))) (fun c55 => ?_)
          refine g_lld4 hC dX5_addStone_58 ?_
          refine g_ldc2 hC tw_2_48 dX5_addStone_60 ?_
          refine g_lmul hC dX5_addStone_63 ?_
          refine g_ald3 hC dX5_addStone_64 ?_
          refine xg_Stone_planes hC (by first | assumption | omega | exact xk_pl _ (by assumption) _ (by omega) | decide) tw_1_144 dX5_addStone_65 ?_
          refine g_ild6 hC dX5_addStone_68 ?_
          refine xl_Pls k hC (by first | assumption | omega | exact xk_pl _ (by assumption) _ (by omega) | decide) rfl (by omega) dX5_addStone_70 ?_
          refine g_ild7 hC dX5_addStone_71 ?_
          refine k_X1_tell (i := iPl s k) (w := w) hC tw_2_107 dX5_addStone_73 (by decide) ⟨by omega, by omega⟩ (Nat.le_of_ble_eq_true rfl) (xk_pl s hs8 k (by omega)) (by omega) ?_
          rw [rs_tell hRS hs (by omega) (by omega)]
          refine g_i2l hC dX5_addStone_76 ?_
          refine g_ladd hC dX5_addStone_77 ?_
          refine g_lst4 hC dX5_addStone_78 rfl ?_
          refine g_inc7 1 hC dX5_addStone_80 (by decide) rfl ?_
          refine g_goto 51 hC dX5_addStone_83 (by decide) ?_
          rw [← mFp_s, nI_1]
          exact ihw (w + 1) (by omega)
      refine g_ild6 hC dX5_addStone_39 ?_
      refine g_ald3 hC dX5_addStone_41 ?_
      refine xg_Stone_planeCount hC (by first | assumption | omega | exact xk_pl _ (by assumption) _ (by omega) | decide) tw_1_147 dX5_addStone_42 ?_
      refine g_icmp_ge 92 hC dX5_addStone_45 (by decide) (fun c45 => absurd c45 (by rw [(rs_pc hRS hs)]; exact nI_ge (by omega) (by omega))) (fun c45 => ?_)
      refine g_iconst 0 hC dX5_addStone_48 (by decide) ?_
      refine g_ist7 hC dX5_addStone_49 rfl ?_
      have e9 := lpw 6 0 (by omega)
      rw [foldF_0] at e9
      exact e9
  have lpw : ∀ (m w : Nat), w + m = 9 → G wX X 0 0 6 [some (.ref (gA X 0)), some (.long d), none, some (.ref (gA X (iStone s))), some (.long (foldF (mFw t s) w d)), none, some (.int (nI w)), none] [] τ := by
    intro m
    induction m with
    | zero =>
      intro w hw
      have hw : w = 9 := by omega
      rw [hw]
      refine g_ild6 hC dX5_addStone_6 ?_
      refine g_bipush 9 hC dX5_addStone_8 (by decide) ?_
      refine g_icmp_ge 36 hC dX5_addStone_10 (by decide) (fun c10 => ?_) (fun c10 => absurd (lit_le (show (9 : Int32) = nI 9 by decide) (by omega) (by omega)) c10)
      refine g_iconst 0 hC dX5_addStone_36 (by decide) ?_
      refine g_ist6 hC dX5_addStone_37 rfl ?_
      have e9 := lpk (nP t s) 0 (by omega)
      rw [foldF_0] at e9
      exact e9
    | succ m ihw =>
      intro w hw
      refine g_ild6 hC dX5_addStone_6 ?_
      refine g_bipush 9 hC dX5_addStone_8 (by decide) ?_
      refine g_icmp_ge 36 hC dX5_addStone_10 (by decide) (fun c10 => absurd c10 (lit_nle (show (9 : Int32) = nI 9 by decide) (by omega) (by omega))) (fun c10 => ?_)
      refine g_lld4 hC dX5_addStone_13 ?_
      refine g_ldc2 hC tw_2_48 dX5_addStone_15 ?_
      refine g_lmul hC dX5_addStone_18 ?_
      refine g_ald0 hC dX5_addStone_19 ?_
      refine g_ald3 hC dX5_addStone_20 ?_
      refine g_ild6 hC dX5_addStone_21 ?_
      refine k_X5_tellOfStone (t := t) (s := s) (w := w) hC tw_2_99 dX5_addStone_23 (by decide) ⟨by omega, by omega⟩ (Nat.le_of_ble_eq_true rfl) ⟨hs, hRS, by omega⟩ ?_
      refine g_i2l hC dX5_addStone_26 ?_
      refine g_ladd hC dX5_addStone_27 ?_
      refine g_lst4 hC dX5_addStone_28 rfl ?_
      refine g_inc6 1 hC dX5_addStone_30 (by decide) rfl ?_
      refine g_goto 6 hC dX5_addStone_33 (by decide) ?_
      rw [← mFw_s, nI_1]
      exact ihw (w + 1) (by omega)
  refine g_lld1 hC dX5_addStone_0 ?_
  refine g_lst4 hC dX5_addStone_1 rfl ?_
  refine g_iconst 0 hC dX5_addStone_3 (by decide) ?_
  refine g_ist6 hC dX5_addStone_4 rfl ?_
  have e9 := lpw 9 0 (by omega)
  rw [foldF_0] at e9
  exact e9
theorem k_X5_addStone {l : Launch} {X : gC} {cc : ByteArray} {own : String} {dd ca sa kc nc pc : Nat} {ls : List (Option Value)} {st : List Value} {σ : Mem} {idx : Nat} {t : Mem} {s : Nat} {d : Int64} (hC : gOk wX l X cc own dd ca sa) (hlk : Cond.methodLink own idx yX5_addStone ∈ TB) (hd : decode cc pc = .ok (.invokevirtual idx, 3)) (hdd : 4 + 1 ≤ dd) (hfr : kc + 0 ≤ ca ∧ nc + 0 ≤ sa) (hrest : (st.map fun v => v.category).sum ≤ 8)  (hP : s < nS t ∧ RS σ t) (kk : G wX X kc nc (pc + 3) ls (.long (mFs t s d) :: st) (σ)) : G wX X kc nc pc ls (.ref (gA X (iStone s)) :: .long d :: .ref (gA X 0) :: st) σ := by
  exact g_cVL 2 hC (c_X5_addStone l t s d) hlk ⟨tw_2_97, tws_1_8, tw_1_1, tw_2_98⟩ (by decide +kernel) ⟨hdd, by decide⟩ hfr rfl rfl rfl (gW_at wX _ _ (by decide)) hrest rfl hd hP (fun rr σ1 hq => by obtain ⟨rfl, rfl⟩ := hq; exact kk)
set_option maxRecDepth 100000 in
set_option maxHeartbeats 4000000 in
/-- X5_digest -/
theorem c_X5_digest (l : Launch) (t : Mem) : gML wX l yX5_digest (.code yX5_digest cX5_digest 7 (some FieldType.long)) 5 0 0 (fun A => [.ref (A 0)]) (fun τ => RS τ t) (fun τ rr τ1 => rr = mDig t ∧ τ1 = τ) := by
  refine gML_of (by decide) (fun A => Nat.le_of_ble_eq_true rfl) ?_
  intro X τ hC hP hE
  have hC : gOk wX l X cX5_digest "GemCut" 5 0 0 := hC
  show G wX X 0 0 0 [some (.ref (gA X 0)), none, none, none, none, none, none] [] τ
  have hRS := hP
  have hM : MI t := hRS.1
  have hRb := hRS.2.2.2.1
  obtain ⟨⟨hC1, hC2, hC3⟩, ⟨hR1, hR2, hR3⟩, ⟨hL1, hL2, hL3⟩⟩ := MI_C hM
  obtain ⟨hF1, hF2⟩ := MI_F hM
  obtain ⟨hS1, hS2, hS3⟩ := MI_S hM
  have hN8 : NN t ≤ 1000 := (vol_rng (MI_C hM).1.2 (MI_C hM).2.1.2 (MI_C hM).2.2.2).2
  have hsc : τ 0 3 = nI (nS t) := by rw [hRb.1.2.2.2.2.1]; exact hS1
  have hfc : τ 1 6 = nI (nF t) := by rw [hRb.1.2.2.2.1]; exact hF1
  have lpf : ∀ (m f : Nat), f + m = nF t → G wX X 0 0 106 [some (.ref (gA X 0)), some (.long (foldF (mFf t) f (mD3 t))), none, some (.int (nI (NN t))), some (.int (nI f)), none, none] [] τ := by
    intro m
    induction m with
    | zero =>
      intro f hf
      have hf : f = nF t := by omega
      rw [hf]
      refine g_ild4 hC dX5_digest_106 ?_
      refine g_ald0 hC dX5_digest_108 ?_
      refine xg_GemCut_rough hC tw_2_11 dX5_digest_109 ?_
      refine xg_Rough_flawCount hC tw_1_80 dX5_digest_112 ?_
      refine g_icmp_ge 175 hC dX5_digest_115 (by decide) (fun c115 => ?_) (fun c115 => absurd (by rw [hfc]; exact nI_le (by omega) (by omega)) c115)
      refine g_lld1 hC dX5_digest_175 ?_
      exact hE _ _ _ _ _ _ dX5_digest_176 (Nat.le_refl _) (Nat.le_refl _) ⟨rfl, rfl⟩
    | succ m ihf =>
      intro f hf
      have lps : ∀ (m s : Nat), s + m = nS t → G wX X 0 0 121 [some (.ref (gA X 0)), some (.long (foldF (mFt t f) s (foldF (mFf t) f (mD3 t)))), none, some (.int (nI (NN t))), some (.int (nI f)), some (.int (nI s)), none] [] τ := by
        intro m
        induction m with
        | zero =>
          intro s hs
          have hs : s = nS t := by omega
          rw [hs]
          refine g_ild5 hC dX5_digest_121 ?_
          refine g_ald0 hC dX5_digest_123 ?_
          refine xg_GemCut_stoneCount hC tw_2_14 dX5_digest_124 ?_
          refine g_icmp_ge 169 hC dX5_digest_127 (by decide) (fun c127 => ?_) (fun c127 => absurd (by rw [hsc]; exact nI_le (by omega) (by omega)) c127)
          refine g_inc4 1 hC dX5_digest_169 (by decide) rfl ?_
          refine g_goto 106 hC dX5_digest_172 (by decide) ?_
          refine g_keep [true, true, true, true, true, false, false] ?_
          rw [← mFf_s, nI_1]
          exact ihf (f + 1) (by omega)
        | succ m ihs =>
          intro s hs
          have lpw : ∀ (m w : Nat), w + m = 3 → G wX X 0 0 133 [some (.ref (gA X 0)), some (.long (foldF (mFv t f s) w (foldF (mFt t f) s (foldF (mFf t) f (mD3 t))))), none, some (.int (nI (NN t))), some (.int (nI f)), some (.int (nI s)), some (.int (nI w))] [] τ := by
            intro m
            induction m with
            | zero =>
              intro w hw
              have hw : w = 3 := by omega
              rw [hw]
              refine g_ild6 hC dX5_digest_133 ?_
              refine g_iconst 3 hC dX5_digest_135 (by decide) ?_
              refine g_icmp_ge 163 hC dX5_digest_136 (by decide) (fun c136 => ?_) (fun c136 => absurd (lit_le (show (3 : Int32) = nI 3 by decide) (by omega) (by omega)) c136)
              refine g_inc5 1 hC dX5_digest_163 (by decide) rfl ?_
              refine g_goto 121 hC dX5_digest_166 (by decide) ?_
              refine g_keep [true, true, true, true, true, true, false] ?_
              rw [← mFt_s, nI_1]
              exact ihs (s + 1) (by omega)
            | succ m ihw =>
              intro w hw
              refine g_ild6 hC dX5_digest_133 ?_
              refine g_iconst 3 hC dX5_digest_135 (by decide) ?_
              refine g_icmp_ge 163 hC dX5_digest_136 (by decide) (fun c136 => absurd c136 (lit_nle (show (3 : Int32) = nI 3 by decide) (by omega) (by omega))) (fun c136 => ?_)
              refine g_lld1 hC dX5_digest_139 ?_
              refine g_ldc2 hC tw_2_48 dX5_digest_140 ?_
              refine g_lmul hC dX5_digest_143 ?_
              refine g_ald0 hC dX5_digest_144 ?_
              refine g_ild4 hC dX5_digest_145 ?_
              refine g_ild5 hC dX5_digest_147 ?_
              refine g_ild6 hC dX5_digest_149 ?_
              refine k_X5_tellOfFlaw (t := t) (f := f) (s := s) (w := w) hC tw_2_111 dX5_digest_151 (by decide) ⟨by omega, by omega⟩ (Nat.le_of_ble_eq_true rfl) ⟨by omega, hRS, by omega, by omega⟩ ?_
              refine g_i2l hC dX5_digest_154 ?_
              refine g_ladd hC dX5_digest_155 ?_
              refine g_lst1 hC dX5_digest_156 rfl ?_
              refine g_inc6 1 hC dX5_digest_157 (by decide) rfl ?_
              refine g_goto 133 hC dX5_digest_160 (by decide) ?_
              rw [← mFv_s, nI_1]
              exact ihw (w + 1) (by omega)
          refine g_ild5 hC dX5_digest_121 ?_
          refine g_ald0 hC dX5_digest_123 ?_
          refine xg_GemCut_stoneCount hC tw_2_14 dX5_digest_124 ?_
          refine g_icmp_ge 169 hC dX5_digest_127 (by decide) (fun c127 => absurd c127 (by rw [hsc]; exact nI_ge (by omega) (by omega))) (fun c127 => ?_)
          refine g_iconst 0 hC dX5_digest_130 (by decide) ?_
          refine g_ist6 hC dX5_digest_131 rfl ?_
          have e9 := lpw 3 0 (by omega)
          rw [foldF_0] at e9
          exact e9
      refine g_ild4 hC dX5_digest_106 ?_
      refine g_ald0 hC dX5_digest_108 ?_
      refine xg_GemCut_rough hC tw_2_11 dX5_digest_109 ?_
      refine xg_Rough_flawCount hC tw_1_80 dX5_digest_112 ?_
      refine g_icmp_ge 175 hC dX5_digest_115 (by decide) (fun c115 => absurd c115 (by rw [hfc]; exact nI_ge (by omega) (by omega))) (fun c115 => ?_)
      refine g_iconst 0 hC dX5_digest_118 (by decide) ?_
      refine g_ist5 hC dX5_digest_119 rfl ?_
      have e9 := lps (nS t) 0 (by omega)
      rw [foldF_0] at e9
      exact e9
  have lps : ∀ (m s : Nat), s + m = nS t → G wX X 0 0 75 [some (.ref (gA X 0)), some (.long (foldF (mFs t) s (mD2 t))), none, some (.int (nI (NN t))), some (.int (nI s)), none, none] [] τ := by
    intro m
    induction m with
    | zero =>
      intro s hs
      have hs : s = nS t := by omega
      rw [hs]
      refine g_ild4 hC dX5_digest_75 ?_
      refine g_ald0 hC dX5_digest_77 ?_
      refine xg_GemCut_stoneCount hC tw_2_14 dX5_digest_78 ?_
      refine g_icmp_ge 103 hC dX5_digest_81 (by decide) (fun c81 => ?_) (fun c81 => absurd (by rw [hsc]; exact nI_le (by omega) (by omega)) c81)
      refine g_iconst 0 hC dX5_digest_103 (by decide) ?_
      refine g_ist4 hC dX5_digest_104 rfl ?_
      rw [show foldF (mFs t) (nS t) (mD2 t) = mD3 t from rfl]
      have e9 := lpf (nF t) 0 (by omega)
      rw [foldF_0] at e9
      exact e9
    | succ m ihs =>
      intro s hs
      refine g_ild4 hC dX5_digest_75 ?_
      refine g_ald0 hC dX5_digest_77 ?_
      refine xg_GemCut_stoneCount hC tw_2_14 dX5_digest_78 ?_
      refine g_icmp_ge 103 hC dX5_digest_81 (by decide) (fun c81 => absurd c81 (by rw [hsc]; exact nI_ge (by omega) (by omega))) (fun c81 => ?_)
      refine g_ald0 hC dX5_digest_84 ?_
      refine g_lld1 hC dX5_digest_85 ?_
      refine g_ald0 hC dX5_digest_86 ?_
      refine xg_GemCut_stones hC tw_2_12 dX5_digest_87 ?_
      refine g_ild4 hC dX5_digest_90 ?_
      refine xl_stonesA s hC rfl (by omega) dX5_digest_92 ?_
      refine k_X5_addStone (t := t) (s := s) hC tw_2_95 dX5_digest_93 (by decide) ⟨by omega, by omega⟩ (Nat.le_of_ble_eq_true rfl) ⟨by omega, hRS⟩ ?_
      refine g_lst1 hC dX5_digest_96 rfl ?_
      refine g_inc4 1 hC dX5_digest_97 (by decide) rfl ?_
      refine g_goto 75 hC dX5_digest_100 (by decide) ?_
      rw [foldF_s (F := mFs t), nI_1]
      exact ihs (s + 1) (by omega)
  have lpi : ∀ (m i : Nat), i + m = NN t → G wX X 0 0 42 [some (.ref (gA X 0)), some (.long (foldF (mFi t) i (mD1 t))), none, some (.int (nI (NN t))), some (.int (nI i)), none, none] [] τ := by
    intro m
    induction m with
    | zero =>
      intro i hi
      have hi : i = NN t := by omega
      rw [hi]
      refine g_ild4 hC dX5_digest_42 ?_
      refine g_ild3 hC dX5_digest_44 ?_
      refine g_icmp_ge 72 hC dX5_digest_45 (by decide) (fun c45 => ?_) (fun c45 => absurd (nI_le (by omega) (by omega)) c45)
      refine g_iconst 0 hC dX5_digest_72 (by decide) ?_
      refine g_ist4 hC dX5_digest_73 rfl ?_
      rw [cells_fold, show foldF (mFz t) (nL t) (mD1 t) = mD2 t from rfl]
      have e9 := lps (nS t) 0 (by omega)
      rw [foldF_0] at e9
      exact e9
    | succ m ihi =>
      intro i hi
      refine g_ild4 hC dX5_digest_42 ?_
      refine g_ild3 hC dX5_digest_44 ?_
      refine g_icmp_ge 72 hC dX5_digest_45 (by decide) (fun c45 => absurd c45 (nI_ge (by omega) (by omega))) (fun c45 => ?_)
      refine g_lld1 hC dX5_digest_48 ?_
      refine g_ldc2 hC tw_2_48 dX5_digest_49 ?_
      refine g_lmul hC dX5_digest_52 ?_
      refine g_ald0 hC dX5_digest_53 ?_
      refine xg_GemCut_rough hC tw_2_11 dX5_digest_54 ?_
      refine xg_Rough_owner hC tw_1_71 dX5_digest_57 ?_
      refine g_ild4 hC dX5_digest_60 ?_
      refine xl_owner i hC rfl (by omega) dX5_digest_62 ?_
      rw [hRb.2.1 i (by omega)]
      refine g_i2l hC dX5_digest_63 ?_
      refine g_ladd hC dX5_digest_64 ?_
      refine g_lst1 hC dX5_digest_65 rfl ?_
      refine g_inc4 1 hC dX5_digest_66 (by decide) rfl ?_
      refine g_goto 42 hC dX5_digest_69 (by decide) ?_
      rw [← mFi_s, nI_1]
      exact ihi (i + 1) (by omega)
  have lpw : ∀ (m w : Nat), w + m = 8 → G wX X 0 0 6 [some (.ref (gA X 0)), some (.long (foldF (mF1 t) w 577)), none, some (.int (nI w)), none, none, none] [] τ := by
    intro m
    induction m with
    | zero =>
      intro w hw
      have hw : w = 8 := by omega
      rw [hw]
      refine g_ild3 hC dX5_digest_6 ?_
      refine g_bipush 8 hC dX5_digest_7 (by decide) ?_
      refine g_icmp_ge 31 hC dX5_digest_9 (by decide) (fun c9 => ?_) (fun c9 => absurd (lit_le (show (8 : Int32) = nI 8 by decide) (by omega) (by omega)) c9)
      refine g_ald0 hC dX5_digest_31 ?_
      refine xg_GemCut_rough hC tw_2_11 dX5_digest_32 ?_
      refine k_X2_size hC tw_2_38 dX5_digest_35 (by decide) ⟨by omega, by omega⟩ (Nat.le_of_ble_eq_true rfl) ?_
      rw [show xSize τ = nI (NN t) by show τ 1 0 * τ 1 1 * τ 1 2 = _; rw [hRb.1.1, hRb.1.2.1, hRb.1.2.2.1, hC1, hR1, hL1, nI_mul', nI_mul']; rfl]
      refine g_ist3 hC dX5_digest_38 rfl ?_
      refine g_iconst 0 hC dX5_digest_39 (by decide) ?_
      refine g_ist4 hC dX5_digest_40 rfl ?_
      rw [show foldF (mF1 t) 8 577 = mD1 t from rfl]
      have e9 := lpi (NN t) 0 (by omega)
      rw [foldF_0] at e9
      exact e9
    | succ m ihw =>
      intro w hw
      refine g_ild3 hC dX5_digest_6 ?_
      refine g_bipush 8 hC dX5_digest_7 (by decide) ?_
      refine g_icmp_ge 31 hC dX5_digest_9 (by decide) (fun c9 => absurd c9 (lit_nle (show (8 : Int32) = nI 8 by decide) (by omega) (by omega))) (fun c9 => ?_)
      refine g_lld1 hC dX5_digest_12 ?_
      refine g_ldc2 hC tw_2_48 dX5_digest_13 ?_
      refine g_lmul hC dX5_digest_16 ?_
      refine g_ald0 hC dX5_digest_17 ?_
      refine g_ild3 hC dX5_digest_18 ?_
      refine k_X5_tellCount (t := t) (w := w) hC tw_2_49 dX5_digest_19 (by decide) ⟨by omega, by omega⟩ (Nat.le_of_ble_eq_true rfl) ⟨hRS, by omega⟩ ?_
      refine g_i2l hC dX5_digest_22 ?_
      refine g_ladd hC dX5_digest_23 ?_
      refine g_lst1 hC dX5_digest_24 rfl ?_
      refine g_inc3 1 hC dX5_digest_25 (by decide) rfl ?_
      refine g_goto 6 hC dX5_digest_28 (by decide) ?_
      rw [← mF1_s, nI_1]
      exact ihw (w + 1) (by omega)
  refine g_ldc2 hC tw_2_47 dX5_digest_0 ?_
  refine g_lst1 hC dX5_digest_3 rfl ?_
  refine g_iconst 0 hC dX5_digest_4 (by decide) ?_
  refine g_ist3 hC dX5_digest_5 rfl ?_
  have e9 := lpw 8 0 (by omega)
  rw [foldF_0] at e9
  exact e9
theorem k_X5_digest {l : Launch} {X : gC} {cc : ByteArray} {own : String} {dd ca sa kc nc pc : Nat} {ls : List (Option Value)} {st : List Value} {σ : Mem} {idx : Nat} {t : Mem} (hC : gOk wX l X cc own dd ca sa) (hlk : Cond.methodLink own idx yX5_digest ∈ TB) (hd : decode cc pc = .ok (.invokevirtual idx, 3)) (hdd : 5 + 1 ≤ dd) (hfr : kc + 0 ≤ ca ∧ nc + 0 ≤ sa) (hrest : (st.map fun v => v.category).sum ≤ 8)  (hP : RS σ t) (kk : G wX X kc nc (pc + 3) ls (.long (mDig t) :: st) (σ)) : G wX X kc nc pc ls (.ref (gA X 0) :: st) σ := by
  exact g_cVL 0 hC (c_X5_digest l t) hlk ⟨tw_2_44, tw_2_45, tw_1_1, tw_2_46⟩ (by decide +kernel) ⟨hdd, by decide⟩ hfr rfl rfl rfl (gW_at wX _ _ (by decide)) hrest rfl hd hP (fun rr σ1 hq => by obtain ⟨rfl, rfl⟩ := hq; exact kk)
set_option maxRecDepth 100000 in
set_option maxHeartbeats 4000000 in
/-- X5_spend -/
theorem c_X5_spend (l : Launch) (v : Int32) : gMV wX l yX5_spend (.code yX5_spend cX5_spend 2 none) 0 0 0 (fun A => [.ref (A 0), .int v]) (fun τ => True) (fun τ τ1 => τ1 = upd2 (upd2 τ 0 4 (τ 0 4 - v)) 0 5 (τ 0 5 + v)) := by
  refine gMV_of (by decide) (fun A => Nat.le_of_ble_eq_true rfl) ?_
  intro X τ hC hP hE
  have hC : gOk wX l X cX5_spend "GemCut" 0 0 0 := hC
  show G wX X 0 0 0 [some (.ref (gA X 0)), some (.int v)] [] τ
  refine g_ald0 hC dX5_spend_0 ?_
  refine g_dup hC dX5_spend_1 rfl ?_
  refine xg_GemCut_turns hC tw_2_15 dX5_spend_2 ?_
  refine g_ild1 hC dX5_spend_5 ?_
  refine g_isub hC dX5_spend_6 ?_
  refine xp_GemCut_turns hC tw_2_15 dX5_spend_7 ?_
  refine g_ald0 hC dX5_spend_10 ?_
  refine g_dup hC dX5_spend_11 rfl ?_
  refine xg_GemCut_spent hC tw_2_16 dX5_spend_12 ?_
  refine g_ild1 hC dX5_spend_15 ?_
  refine g_iadd hC dX5_spend_16 ?_
  refine xp_GemCut_spent hC tw_2_16 dX5_spend_17 ?_
  exact hE _ _ _ _ _ dX5_spend_20 (Nat.le_refl _) (Nat.le_refl _) (by rw [upd2_nj (by decide)])
theorem k_X5_spend {l : Launch} {X : gC} {cc : ByteArray} {own : String} {dd ca sa kc nc pc : Nat} {ls : List (Option Value)} {st : List Value} {σ : Mem} {idx : Nat} {v : Int32} (hC : gOk wX l X cc own dd ca sa) (hlk : Cond.methodLink own idx yX5_spend ∈ TB) (hd : decode cc pc = .ok (.invokevirtual idx, 3)) (hdd : 0 + 1 ≤ dd) (hfr : kc + 0 ≤ ca ∧ nc + 0 ≤ sa) (hrest : (st.map fun v => v.category).sum ≤ 8)   (kk : G wX X kc nc (pc + 3) ls st (upd2 (upd2 σ 0 4 (σ 0 4 - v)) 0 5 (σ 0 5 + v))) : G wX X kc nc pc ls (.int v :: .ref (gA X 0) :: st) σ := by
  exact g_cVV 1 hC (c_X5_spend l v) hlk ⟨tw_3_111, tws_2_1, tw_1_1, tw_3_112⟩ (by decide +kernel) ⟨hdd, by decide⟩ hfr rfl rfl rfl (gW_at wX _ _ (by decide)) hrest rfl hd trivial (fun σ1 hq => by subst hq; exact kk)
set_option maxRecDepth 100000 in
set_option maxHeartbeats 4000000 in
/-- X5_kept -/
theorem c_X5_kept (l : Launch) (t : Mem) : gMD wX l yX5_kept (.code yX5_kept cX5_kept 2 (some FieldType.double)) 1 0 0 (fun A => [.ref (A 0)]) (fun τ => RS τ t) (fun τ rr τ1 => rr = FP.ddiv (FP.i2d (sCt t 1)) (FP.i2d (sCt t 0)) ∧ τ1 = τ) := by
  refine gMD_of (by decide) (fun A => Nat.le_of_ble_eq_true rfl) ?_
  intro X τ hC hP hE
  have hC : gOk wX l X cX5_kept "GemCut" 1 0 0 := hC
  show G wX X 0 0 0 [some (.ref (gA X 0)), none] [] τ
  have hRS := hP
  have hM : MI t := hRS.1
  have hRb := hRS.2.2.2.1
  have hsz : xSize τ = sCt t 0 := by show τ 1 0 * τ 1 1 * τ 1 2 = _; rw [hRb.1.1, hRb.1.2.1, hRb.1.2.2.1]; rfl
  refine g_ald0 hC dX5_kept_0 ?_
  refine xg_GemCut_rough hC tw_2_11 dX5_kept_1 ?_
  refine k_X2_size hC tw_2_38 dX5_kept_4 (by decide) ⟨by omega, by omega⟩ (Nat.le_of_ble_eq_true rfl) ?_
  rw [hsz]
  refine g_ist1 hC dX5_kept_7 rfl ?_
  refine g_ild1 hC dX5_kept_8 ?_
  refine g_if_ne 16 hC dX5_kept_9 (by decide) (fun c9 => ?_) (fun c9 => absurd c9 (by rw [sCt_0 hM]; intro h9; have := vol_rng (MI_C hM).1.2 (MI_C hM).2.1.2 (MI_C hM).2.2.2; exact absurd (nI_inj (by omega) (by decide) (h9.trans nI_0.symm)) (by omega)))
  refine g_ald0 hC dX5_kept_16 ?_
  refine k_X5_cellsOfStones (t := t) hC tw_2_39 dX5_kept_17 (by decide) ⟨by omega, by omega⟩ (Nat.le_of_ble_eq_true rfl) hRS ?_
  rw [show sumI (sCtv t 1) (nS t) = sCt t 1 from rfl]
  refine g_i2d hC dX5_kept_20 ?_
  refine g_ild1 hC dX5_kept_21 ?_
  refine g_i2d hC dX5_kept_22 ?_
  refine g_ddiv hC dX5_kept_23 (kept_num hM) ?_
  exact hE _ _ _ _ _ _ dX5_kept_24 (Nat.le_refl _) (Nat.le_refl _) ⟨rfl, rfl⟩
theorem k_X5_kept {l : Launch} {X : gC} {cc : ByteArray} {own : String} {dd ca sa kc nc pc : Nat} {ls : List (Option Value)} {st : List Value} {σ : Mem} {idx : Nat} {t : Mem} (hC : gOk wX l X cc own dd ca sa) (hlk : Cond.methodLink own idx yX5_kept ∈ TB) (hd : decode cc pc = .ok (.invokevirtual idx, 3)) (hdd : 1 + 1 ≤ dd) (hfr : kc + 0 ≤ ca ∧ nc + 0 ≤ sa) (hrest : (st.map fun v => v.category).sum ≤ 8)  (hP : RS σ t) (kk : G wX X kc nc (pc + 3) ls (.double (FP.ddiv (FP.i2d (sCt t 1)) (FP.i2d (sCt t 0))) :: st) (σ)) : G wX X kc nc pc ls (.ref (gA X 0) :: st) σ := by
  exact g_cVD 0 hC (c_X5_kept l t) hlk ⟨tw_2_35, tw_2_36, tw_1_1, tw_2_37⟩ (by decide +kernel) ⟨hdd, by decide⟩ hfr rfl rfl rfl (gW_at wX _ _ (by decide)) hrest rfl hd hP (fun rr σ1 hq => by obtain ⟨rfl, rfl⟩ := hq; exact kk)
