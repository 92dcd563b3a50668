theorem g_cSNI {Lw : gL} {l : Launch} {X : gC} {cc : ByteArray} {own : String} {dd ca sa k n pc : Nat} {ls : List (Option Value)} {st : List Value} {σ : Mem} {y : MethodName} {idx : Nat} {bytes : ByteArray} {maxL d mc ms : Nat} (na : Nat) {av : (Nat → Nat) → List Value} {P : Mem → Prop} {Q : Mem → Int32 → Mem → Prop} {As rest : List Value} (hC : gOk Lw l X cc own dd ca sa) (hM : gMI Lw l y (.code y bytes maxL (some .int)) d mc ms av P Q) {host : String} (hw1 : Cond.methodLinkNest own idx y host ∈ NWn) (hw2 : Cond.static y ∈ TB ∧ Cond.initialized y.cls ∈ TB ∧ Cond.code y bytes maxL (some .int) ∈ TB) (hy : y.cls ≠ "java/lang/invoke/MethodHandle" ∧ y.cls ≠ "java/lang/invoke/VarHandle" ∧ (parseMethodDescriptor y.desc).map (fun d => d.parameters.length) = some na) (hR9 : d + 1 ≤ dd ∧ maxL ≤ 21) (hf : k + mc ≤ ca ∧ n + ms ≤ sa) (ha : av (gA X) = As) (hna : As.length = na) (hrest : (rest.map fun v => v.category).sum ≤ 8) (hst : st = As.reverse ++ rest) (hd : decode cc pc = .ok (.invokestatic idx, 3)) (hP : P σ) (kk : ∀ (r : Int32) (σ1 : Mem), Q σ r σ1 → G Lw X (k + mc) (n + ms) (pc + 3) ls (.int r :: rest) σ1) : G Lw X k n pc ls st σ := by
  obtain ⟨p, l', e, R, s, m, args, below, meth, c, nL, H0, A, E, Q⟩ := X
  obtain ⟨hx, hb, hml, hown, hTB, hK, hD, hA, hR, hlocks, rfl, hh0, hNs⟩ := hC
  subst hR
  have hRR : (gR d mc ms).frames + 1 ≤ (gR dd ca sa).frames ∧ 8 + (maxL + 11) + (gR d mc ms).locals ≤ (gR dd ca sa).locals := by
    refine ⟨hR9.1, ?_⟩
    show 8 + (maxL + 11) + 40 * d ≤ 40 * dd
    omega
  intro H locs arr hn hP0 hS hl
  have hAA : ∀ q, va_A (gW Lw E σ) H.size q → A q := fun q h => h.elim (fun ⟨i, e1, h1⟩ => (hD σ).2 i (q, e1) h1) (fun h1 => hA q (Nat.le_trans hS.1 h1))
  exact va_calli (va_runSN (As := As) (rest := rest) (Ts := TB) (own := own) ⟨hx, hb, hml, hown, hTB⟩ (hM E σ H.size hP) ⟨va_cnB (ret := (some .int)) (bytes := bytes) (maxL := maxL) na hTB (gi_cons hw2.2.2 gi_self) rfl rfl rfl (hNs.1 _ hw1) (hTB _ hw2.2.1) hy hRR, hTB _ hw2.1, trivial⟩ ⟨gPre_blind, fun U hU hW => ⟨by rw [← ha]; rfl, by rw [hU], by rw [hU]; exact hP0, va_K.moved hW.alike hK, (hD σ).weaken (fun _ _ _ _ => trivial), gN.warm hW hNs⟩⟩ rfl hna hl.1 hst (lv_room hrest) hd hf) hS (fun q _ h => hAA q h) hAA (fun r u t H1 locs1 ht _ hq hB _ _ hS1 => kk r u hq H1 locs1 arr hn (by rw [← ht]; exact hB) hS1 hl)
set_option maxRecDepth 100000 in
set_option maxHeartbeats 4000000 in
/-- X5_worthBy -/
theorem c_X5_worthBy (l : Launch) (w po pl pr : Int32) : gMI wX l yX5_worthBy (.code yX5_worthBy cX5_worthBy 6 (some FieldType.int)) 1 0 0 (fun A => [.int w, .int po, .int pl, .int pr]) (fun τ => True) (fun τ rr τ1 => rr = wBy w po pl pr ∧ τ1 = τ) := by
  refine gMI_of (by decide) (fun A => Nat.le_of_ble_eq_true rfl) ?_
  intro X τ hC hP hE
  have hC : gOk wX l X cX5_worthBy "GemCut" 1 0 0 := hC
  show G wX X 0 0 0 [some (.int w), some (.int po), some (.int pl), some (.int pr), none, none] [] τ
  refine g_ild0 hC dX5_worthBy_0 ?_
  refine g_if_ne 6 hC dX5_worthBy_1 (by decide) (fun c1 => ?_) (fun c1 => ?_)
  · refine g_bipush 10 hC dX5_worthBy_6 (by decide) ?_
    refine g_bipush 100 hC dX5_worthBy_8 (by decide) ?_
    refine g_ild1 hC dX5_worthBy_10 ?_
    refine g_isub hC dX5_worthBy_11 ?_
    refine g_mmax hC (by first | assumption | omega | exact xk_pl _ (by assumption) _ (by omega) | decide) tw_3_43 (Nat.le_of_ble_eq_true rfl) ⟨by omega, by omega⟩ dX5_worthBy_12 ?_
    refine g_ist4 hC dX5_worthBy_15 rfl ?_
    refine g_ild0 hC dX5_worthBy_17 ?_
    refine g_ild0 hC dX5_worthBy_18 ?_
    refine g_imul hC dX5_worthBy_19 ?_
    refine g_bipush 10 hC dX5_worthBy_20 (by decide) ?_
    refine g_idiv hC dX5_worthBy_22 (by decide) ?_
    refine g_bipush 10 hC dX5_worthBy_23 (by decide) ?_
    refine g_ild0 hC dX5_worthBy_25 ?_
    refine g_imul hC dX5_worthBy_26 ?_
    refine g_iadd hC dX5_worthBy_27 ?_
    refine g_ist5 hC dX5_worthBy_28 rfl ?_
    refine g_ild5 hC dX5_worthBy_30 ?_
    refine g_ild4 hC dX5_worthBy_32 ?_
    refine g_imul hC dX5_worthBy_34 ?_
    refine g_bipush 100 hC dX5_worthBy_35 (by decide) ?_
    refine g_idiv hC dX5_worthBy_37 (by decide) ?_
    refine g_bipush 25 hC dX5_worthBy_38 (by decide) ?_
    refine g_ild2 hC dX5_worthBy_40 ?_
    refine g_imul hC dX5_worthBy_41 ?_
    refine g_iadd hC dX5_worthBy_42 ?_
    refine g_bipush 40 hC dX5_worthBy_43 (by decide) ?_
    refine g_ild3 hC dX5_worthBy_45 ?_
    refine g_imul hC dX5_worthBy_46 ?_
    refine g_iadd hC dX5_worthBy_47 ?_
    exact hE _ _ _ _ _ _ dX5_worthBy_48 (Nat.le_refl _) (Nat.le_refl _) ⟨by unfold wBy; first | rw [if_pos c1] | (rw [if_neg c1]; rfl), rfl⟩
  · refine g_iconst 0 hC dX5_worthBy_4 (by decide) ?_
    exact hE _ _ _ _ _ _ dX5_worthBy_5 (Nat.le_refl _) (Nat.le_refl _) ⟨by unfold wBy; first | rw [if_pos c1] | (rw [if_neg c1]; rfl), rfl⟩
theorem k_X5_worthBy {l : Launch} {X : gC} {cc : ByteArray} {own : String} {dd ca sa kc nc pc : Nat} {ls : List (Option Value)} {st : List Value} {σ : Mem} {idx : Nat} {w po pl pr : Int32} (hC : gOk wX l X cc own dd ca sa) (hlk : Cond.methodLink own idx yX5_worthBy ∈ TB) (hd : decode cc pc = .ok (.invokestatic idx, 3)) (hdd : 1 + 1 ≤ dd) (hfr : kc + 0 ≤ ca ∧ nc + 0 ≤ sa) (hrest : (st.map fun v => v.category).sum ≤ 8)   (kk : G wX X kc nc (pc + 3) ls (.int (wBy w po pl pr) :: st) (σ)) : G wX X kc nc pc ls (.int pr :: .int pl :: .int po :: .int w :: st) σ := by
  exact g_cSI 4 hC (c_X5_worthBy l w po pl pr) hlk ⟨tw_3_41, tw_1_1, tw_3_42⟩ (by decide +kernel) ⟨hdd, by decide⟩ hfr rfl rfl hrest rfl hd trivial (fun rr σ1 hq => by obtain ⟨rfl, rfl⟩ := hq; exact kk)
theorem k_worthByN {l : Launch} {X : gC} {cc : ByteArray} {dd ca sa kc nc pc : Nat} {ls : List (Option Value)} {st : List Value} {σ : Mem} {w po pl pr : Int32} (hC : gOk wX l X cc "GemCut$Trial" dd ca sa) (hd : decode cc pc = .ok (.invokestatic 153, 3)) (hdd : 1 + 1 ≤ dd) (hfr : kc + 0 ≤ ca ∧ nc + 0 ≤ sa) (hrest : (st.map fun v => v.category).sum ≤ 8) (kk : G wX X kc nc (pc + 3) ls (.int (wBy w po pl pr) :: st) σ) : G wX X kc nc pc ls (.int pr :: .int pl :: .int po :: .int w :: st) σ := by
  exact g_cSNI 4 hC (c_X5_worthBy l w po pl pr) (host := "GemCut") (show _ ∈ NWn by simp [NWn]) ⟨tw_3_41, tw_1_1, tw_3_42⟩ (by decide +kernel) ⟨hdd, by decide⟩ hfr rfl rfl hrest rfl hd trivial (fun rr σ1 hq => by obtain ⟨rfl, rfl⟩ := hq; exact kk)
theorem pts_step {σ τ : Mem} {s k : Nat} {p q r d : Int32} (h : σ (iFlaw k) 0 = sFl τ k 4) : sPts (gMark τ s p q r d) (nI s) k + xPts σ k (sFt (gMark τ s p q r d) k (nI s) 2) = sPts (gMark τ s p q r d) (nI s) (k + 1) := by
  show _ = sPts (gMark τ s p q r d) (nI s) k + _
  congr 1
  unfold xPts
  rw [h]
  have : sFl (gMark τ s p q r d) k 4 = sFl τ k 4 := by unfold sFl; exact mk_2 _
  show _ = (if _ then 6 * sFl (gMark τ s p q r d) k 4 else if _ then 2 * sFl (gMark τ s p q r d) k 4 else 0)
  rw [this]

set_option maxRecDepth 100000 in
set_option maxHeartbeats 4000000 in
/-- X4_openFlawsAt -/
theorem c_X4_openFlawsAt (l : Launch) (t : Mem) (s : Nat) (p q r d : Int32) : gMI wX l yX4_openFlawsAt (.code yX4_openFlawsAt cX4_openFlawsAt 4 (some FieldType.int)) 1 0 0 (fun A => [.ref (A 190), .int d]) (fun τ => s < nS t ∧ RS τ t ∧ Slp p q r ∧ Am t s p q r τ ∧ Dp d) (fun τ rr τ1 => rr = nI (sFin (gMark t s p q r d) (nI s) 1) ∧ τ1 = τ) := by
  refine gMI_of (by decide) (fun A => Nat.le_of_ble_eq_true rfl) ?_
  intro X τ hC hP hE
  have hC : gOk wX l X cX4_openFlawsAt "GemCut$Trial" 1 0 0 := hC
  show G wX X 0 0 0 [some (.ref (gA X 190)), some (.int d), none, none] [] τ
  have hP9 := hP
  obtain ⟨hs, hRS, hSl, hAm, hD⟩ := hP
  have hM : MI t := hRS.1
  have hW : MW t := hRS.2.1
  have h6 : M16 t := hRS.2.2.1
  have hs8 : s < 8 := Nat.lt_of_lt_of_le hs (MI_S hM).2.2
  have hn16 : nP t s ≤ 16 := h6 s hs8
  have hRb := hRS.2.2.2.1
  have hps : (τ 190 1).toNatClampNeg = s := by rw [hAm.1.1.1]; exact nI_clamp (by omega)
  have hpc : τ (iStone s) 2 = nI (nP t s) := by rw [hRb.2.2.2.1 s hs]; exact (MI_P hM hs8).1
  obtain ⟨hF1, hF2⟩ := MI_F hM
  have hfc : τ 1 6 = nI (nF t) := by rw [hRb.1.2.2.2.1]; exact hF1
  have lp : ∀ (m k : Nat), k + m = (nF t) → G wX X 0 0 4 [some (.ref (gA X 190)), some (.int d), some (.int (nI (cnt (pFin (gMark t s p q r d) (nI s) 1) k))), some (.int (nI k))] [] (τ) := by
    intro m
    induction m with
    | zero =>
      intro k hk 
      have hk : k = (nF t) := by omega
      subst hk
      refine g_ild3 hC dX4_openFlawsAt_4 ?_
      refine g_ald0 hC dX4_openFlawsAt_5 ?_
      refine xg_Trial_rough hC tw_1_172 dX4_openFlawsAt_6 ?_
      refine xg_Rough_flawCount hC tw_1_81 dX4_openFlawsAt_9 ?_
      refine g_icmp_ge 42 hC dX4_openFlawsAt_12 (by decide) (fun c12 => ?_) (fun c12 => absurd (by rw [hfc]; exact nI_le (by omega) (by omega)) c12)
      refine g_ild2 hC dX4_openFlawsAt_42 ?_
      exact hE _ _ _ _ _ _ dX4_openFlawsAt_43 (Nat.le_refl _) (Nat.le_refl _) ⟨by unfold sFin; rw [mk_nF], rfl⟩
    | succ m ih =>
      intro k hk 
      refine g_ild3 hC dX4_openFlawsAt_4 ?_
      refine g_ald0 hC dX4_openFlawsAt_5 ?_
      refine xg_Trial_rough hC tw_1_172 dX4_openFlawsAt_6 ?_
      refine xg_Rough_flawCount hC tw_1_81 dX4_openFlawsAt_9 ?_
      refine g_icmp_ge 42 hC dX4_openFlawsAt_12 (by decide) (fun c12 => absurd c12 (by rw [hfc]; exact nI_ge (by omega) (by omega))) (fun c12 => ?_)
      refine g_ald0 hC dX4_openFlawsAt_15 ?_
      refine g_ald0 hC dX4_openFlawsAt_16 ?_
      refine xg_Trial_rough hC tw_1_172 dX4_openFlawsAt_17 ?_
      refine xg_Rough_flaws hC tw_1_77 dX4_openFlawsAt_20 ?_
      refine g_ild3 hC dX4_openFlawsAt_23 ?_
      refine xl_flawsA k hC rfl (by omega) dX4_openFlawsAt_24 ?_
      refine g_ild1 hC dX4_openFlawsAt_25 ?_
      refine k_X4_stateAt (t := t) (s := s) (f := k) (p := p) (q := q) (r := r) (d := d) hC tw_3_91 dX4_openFlawsAt_26 (by decide) ⟨by omega, by omega⟩ (Nat.le_of_ble_eq_true rfl) ⟨hs, hRS, hSl, hAm, hD, by omega⟩ ?_
      refine g_iconst 1 hC dX4_openFlawsAt_29 (by decide) ?_
      refine g_icmp_ne 36 hC dX4_openFlawsAt_30 (by decide) (fun c30 => ?_) (fun c30 => ?_)
      · refine g_inc3 1 hC dX4_openFlawsAt_36 (by decide) rfl ?_
        refine g_goto 4 hC dX4_openFlawsAt_39 (by decide) ?_
        first
        | (rw [cnt_s1 (P := (pFin (gMark t s p q r d) (nI s) 1)) (by unfold pFin; rw [c30]; decide), nI_1]; exact ih (k + 1) (by omega))
        | (rw [show nI (cnt (pFin (gMark t s p q r d) (nI s) 1) k) = nI (cnt (pFin (gMark t s p q r d) (nI s) 1) (k + 1)) by rw [cnt_f (by unfold pFin; simpa using c30)], nI_1]; exact ih (k + 1) (by omega))
      · refine g_inc2 1 hC dX4_openFlawsAt_33 (by decide) rfl ?_
        refine g_inc3 1 hC dX4_openFlawsAt_36 (by decide) rfl ?_
        refine g_goto 4 hC dX4_openFlawsAt_39 (by decide) ?_
        first
        | (rw [cnt_s1 (P := (pFin (gMark t s p q r d) (nI s) 1)) (by unfold pFin; rw [c30]; decide), nI_1]; exact ih (k + 1) (by omega))
        | (rw [show nI (cnt (pFin (gMark t s p q r d) (nI s) 1) k) = nI (cnt (pFin (gMark t s p q r d) (nI s) 1) (k + 1)) by rw [cnt_f (by unfold pFin; simpa using c30)], nI_1]; exact ih (k + 1) (by omega))
  refine g_iconst 0 hC dX4_openFlawsAt_0 (by decide) ?_
  refine g_ist2 hC dX4_openFlawsAt_1 rfl ?_
  refine g_iconst 0 hC dX4_openFlawsAt_2 (by decide) ?_
  refine g_ist3 hC dX4_openFlawsAt_3 rfl ?_
  exact lp (nF t) 0 (by omega)
theorem k_X4_openFlawsAt {l : Launch} {X : gC} {cc : ByteArray} {own : String} {dd ca sa kc nc pc : Nat} {ls : List (Option Value)} {st : List Value} {σ : Mem} {idx : Nat} {t : Mem} {s : Nat} {p q r d : Int32} (hC : gOk wX l X cc own dd ca sa) (hlk : Cond.methodLink own idx yX4_openFlawsAt ∈ TB) (hd : decode cc pc = .ok (.invokevirtual idx, 3)) (hdd : 1 + 1 ≤ dd) (hfr : kc + 0 ≤ ca ∧ nc + 0 ≤ sa) (hrest : (st.map fun v => v.category).sum ≤ 8)  (hP : s < nS t ∧ RS σ t ∧ Slp p q r ∧ Am t s p q r σ ∧ Dp d) (kk : G wX X kc nc (pc + 3) ls (.int (nI (sFin (gMark t s p q r d) (nI s) 1)) :: st) (σ)) : G wX X kc nc pc ls (.int d :: .ref (gA X 190) :: st) σ := by
  exact g_cVI 1 hC (c_X4_openFlawsAt l t s p q r d) hlk ⟨tw_3_115, tw_3_116, tw_1_6, tw_3_117⟩ (by decide +kernel) ⟨hdd, by decide⟩ hfr rfl rfl rfl (rv_Trial _ _) hrest rfl hd hP (fun rr σ1 hq => by obtain ⟨rfl, rfl⟩ := hq; exact kk)
set_option maxRecDepth 100000 in
set_option maxHeartbeats 4000000 in
/-- X4_worthAt -/
theorem c_X4_worthAt (l : Launch) (t : Mem) (s : Nat) (p q r d : Int32) : gMI wX l yX4_worthAt (.code yX4_worthAt cX4_worthAt 4 (some FieldType.int)) 4 0 0 (fun A => [.ref (A 190), .int d]) (fun τ => s < nS t ∧ RS τ t ∧ Slp p q r ∧ Am t s p q r τ ∧ Dp d) (fun τ rr τ1 => rr = sWorth (gMark t s p q r d) s ∧ τ1 = τ) := by
  refine gMI_of (by decide) (fun A => Nat.le_of_ble_eq_true rfl) ?_
  intro X τ hC hP hE
  have hC : gOk wX l X cX4_worthAt "GemCut$Trial" 4 0 0 := hC
  show G wX X 0 0 0 [some (.ref (gA X 190)), some (.int d), none, none] [] τ
  have hP9 := hP
  obtain ⟨hs, hRS, hSl, hAm, hD⟩ := hP
  have hM : MI t := hRS.1
  have hW : MW t := hRS.2.1
  have h6 : M16 t := hRS.2.2.1
  have hs8 : s < 8 := Nat.lt_of_lt_of_le hs (MI_S hM).2.2
  have hn16 : nP t s ≤ 16 := h6 s hs8
  have hRb := hRS.2.2.2.1
  have hps : (τ 190 1).toNatClampNeg = s := by rw [hAm.1.1.1]; exact nI_clamp (by omega)
  have hpc : τ (iStone s) 2 = nI (nP t s) := by rw [hRb.2.2.2.1 s hs]; exact (MI_P hM hs8).1
  obtain ⟨hF1, hF2⟩ := MI_F hM
  have hfc : τ 1 6 = nI (nF t) := by rw [hRb.1.2.2.2.1]; exact hF1
  have lp : ∀ (m k : Nat), k + m = (nF t) → G wX X 0 0 4 [some (.ref (gA X 190)), some (.int d), some (.int (sPts (gMark t s p q r d) (nI s) k)), some (.int (nI k))] [] (τ) := by
    intro m
    induction m with
    | zero =>
      intro k hk 
      have hk : k = (nF t) := by omega
      subst hk
      refine g_ild3 hC dX4_worthAt_4 ?_
      refine g_ald0 hC dX4_worthAt_5 ?_
      refine xg_Trial_rough hC tw_1_172 dX4_worthAt_6 ?_
      refine xg_Rough_flawCount hC tw_1_81 dX4_worthAt_9 ?_
      refine g_icmp_ge 50 hC dX4_worthAt_12 (by decide) (fun c12 => ?_) (fun c12 => absurd (by rw [hfc]; exact nI_le (by omega) (by omega)) c12)
      refine g_ald0 hC dX4_worthAt_50 ?_
      refine g_ild1 hC dX4_worthAt_51 ?_
      refine k_X4_weightAt (t := t) (s := s) (p := p) (q := q) (r := r) (d := d) hC tw_2_187 dX4_worthAt_52 (by decide) ⟨by omega, by omega⟩ (Nat.le_of_ble_eq_true rfl) ⟨hs, hRS, hSl, hAm.1⟩ ?_
      refine g_ild2 hC dX4_worthAt_55 ?_
      refine g_ald0 hC dX4_worthAt_56 ?_
      refine g_ild1 hC dX4_worthAt_57 ?_
      refine k_X4_polishedAt (t := t) (s := s) (p := p) (q := q) (r := r) (d := d) hC tw_3_96 dX4_worthAt_58 (by decide) ⟨by omega, by omega⟩ (Nat.le_of_ble_eq_true rfl) hP9 ?_
      refine g_ald0 hC dX4_worthAt_61 ?_
      refine g_ild1 hC dX4_worthAt_62 ?_
      refine k_X4_pairsAt (t := t) (s := s) (p := p) (q := q) (r := r) (d := d) hC tw_3_100 dX4_worthAt_63 (by decide) ⟨by omega, by omega⟩ (Nat.le_of_ble_eq_true rfl) hP9 ?_
      refine k_worthByN hC dX4_worthAt_66 (by decide) ⟨by omega, by omega⟩ (Nat.le_of_ble_eq_true rfl) ?_
      exact hE _ _ _ _ _ _ dX4_worthAt_69 (Nat.le_refl _) (Nat.le_refl _) ⟨by rw [sWorth_by, mk_wt hM hW hs8 hSl, mk_nF], rfl⟩
    | succ m ih =>
      intro k hk 
      refine g_ild3 hC dX4_worthAt_4 ?_
      refine g_ald0 hC dX4_worthAt_5 ?_
      refine xg_Trial_rough hC tw_1_172 dX4_worthAt_6 ?_
      refine xg_Rough_flawCount hC tw_1_81 dX4_worthAt_9 ?_
      refine g_icmp_ge 50 hC dX4_worthAt_12 (by decide) (fun c12 => absurd c12 (by rw [hfc]; exact nI_ge (by omega) (by omega))) (fun c12 => ?_)
      refine g_ild2 hC dX4_worthAt_15 ?_
      refine g_ald0 hC dX4_worthAt_16 ?_
      refine xg_Trial_rough hC tw_1_172 dX4_worthAt_17 ?_
      refine xg_Rough_flaws hC tw_1_77 dX4_worthAt_20 ?_
      refine g_ild3 hC dX4_worthAt_23 ?_
      refine xl_flawsA k hC rfl (by omega) dX4_worthAt_24 ?_
      refine g_ald0 hC dX4_worthAt_25 ?_
      refine g_ald0 hC dX4_worthAt_26 ?_
      refine xg_Trial_rough hC tw_1_172 dX4_worthAt_27 ?_
      refine xg_Rough_flaws hC tw_1_77 dX4_worthAt_30 ?_
      refine g_ild3 hC dX4_worthAt_33 ?_
      refine xl_flawsA k hC rfl (by omega) dX4_worthAt_34 ?_
      refine g_ild1 hC dX4_worthAt_35 ?_
      refine k_X4_stateAt (t := t) (s := s) (f := k) (p := p) (q := q) (r := r) (d := d) hC tw_3_91 dX4_worthAt_36 (by decide) ⟨by omega, by omega⟩ (Nat.le_of_ble_eq_true rfl) ⟨hs, hRS, hSl, hAm, hD, by omega⟩ ?_
      refine k_X0_pointsIf (f := k) hC tw_3_95 dX4_worthAt_39 (by decide) ⟨by omega, by omega⟩ (Nat.le_of_ble_eq_true rfl) (by omega) (sFt_rng _ _ _) ?_
      refine g_iadd hC dX4_worthAt_42 ?_
      refine g_ist2 hC dX4_worthAt_43 rfl ?_
      refine g_inc3 1 hC dX4_worthAt_44 (by decide) rfl ?_
      refine g_goto 4 hC dX4_worthAt_47 (by decide) ?_
      rw [pts_step (hRb.2.2.2.2.2 k (by omega)).1, nI_1]
      exact ih (k + 1) (by omega)
  refine g_iconst 0 hC dX4_worthAt_0 (by decide) ?_
  refine g_ist2 hC dX4_worthAt_1 rfl ?_
  refine g_iconst 0 hC dX4_worthAt_2 (by decide) ?_
  refine g_ist3 hC dX4_worthAt_3 rfl ?_
  exact lp (nF t) 0 (by omega)
theorem k_X4_worthAt {l : Launch} {X : gC} {cc : ByteArray} {own : String} {dd ca sa kc nc pc : Nat} {ls : List (Option Value)} {st : List Value} {σ : Mem} {idx : Nat} {t : Mem} {s : Nat} {p q r d : Int32} (hC : gOk wX l X cc own dd ca sa) (hlk : Cond.methodLink own idx yX4_worthAt ∈ TB) (hd : decode cc pc = .ok (.invokevirtual idx, 3)) (hdd : 4 + 1 ≤ dd) (hfr : kc + 0 ≤ ca ∧ nc + 0 ≤ sa) (hrest : (st.map fun v => v.category).sum ≤ 8)  (hP : s < nS t ∧ RS σ t ∧ Slp p q r ∧ Am t s p q r σ ∧ Dp d) (kk : G wX X kc nc (pc + 3) ls (.int (sWorth (gMark t s p q r d) s) :: st) (σ)) : G wX X kc nc pc ls (.int d :: .ref (gA X 190) :: st) σ := by
  exact g_cVI 1 hC (c_X4_worthAt l t s p q r d) hlk ⟨tw_3_88, tw_3_89, tw_1_6, tw_3_90⟩ (by decide +kernel) ⟨hdd, by decide⟩ hfr rfl rfl rfl (rv_Trial _ _) hrest rfl hd hP (fun rr σ1 hq => by obtain ⟨rfl, rfl⟩ := hq; exact kk)
