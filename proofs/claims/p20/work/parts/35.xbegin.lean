/-! a rough begun -/
def Fsh (t : Mem) (co ro la : Nat) : Prop := t 0 1 = nI co ∧ t 0 2 = nI ro ∧ t 0 3 = nI la ∧ t 0 5 = 0 ∧ t 0 7 = 1 ∧ t 4 0 = 0 ∧ t 0 10 = 400 ∧ t 0 11 = 0 ∧ ∀ i, i < co * ro * la → t 1 (bI co ro i) = 0
def hBR (σ : Mem) (co ro la : Nat) : Mem := upd2 (upd2 (upd2 (upd2 (hRB σ co ro la (co * ro * la)) (iStone 0) 2 0) 0 3 1) 0 4 400) 0 5 0
theorem Rb_beg {σ t : Mem} {co ro la : Nat} (hc : co ≤ 10) (hr : ro ≤ 10) (hl : la ≤ 10) (h : Fsh t co ro la) (hs : ∀ s, s < 8 → σ (iStone s) 0 = nI s) : Rb (hBR σ co ro la) t := by
  obtain ⟨h1, h2, h3, h4, h5, h6, h7, h8, h9⟩ := h
  have eC : nC t = co := by unfold nC; rw [h1]; exact nI_clamp (by omega)
  have eR : nR t = ro := by unfold nR; rw [h2]; exact nI_clamp (by omega)
  have eL : nL t = la := by unfold nL; rw [h3]; exact nI_clamp (by omega)
  have eF : nF t = 0 := by unfold nF; rw [h4]; decide
  have eS : nS t = 1 := by unfold nS; rw [h5]; decide
  have eP : nP t 0 = 0 := by unfold nP; rw [h6]; decide
  have e0 : ∀ j, hBR σ co ro la 1 j = hRB σ co ro la (co * ro * la) 1 j := fun j => by
    unfold hBR
    rw [upd2_ni (by decide), upd2_ni (by decide), upd2_ni (by decide), upd2_ni (by decide)]
  have e2 : ∀ j, hBR σ co ro la 2 j = hRB σ co ro la (co * ro * la) 2 j := fun j => by
    unfold hBR
    rw [upd2_ni (by decide), upd2_ni (by decide), upd2_ni (by decide), upd2_ni (by decide)]
  refine ⟨⟨?_, ?_, ?_, ?_, ?_, ?_, ?_⟩, fun i hi => ?_, fun s hs2 => ?_, fun s hs2 => ?_, fun s k hs2 hk => ?_, fun f hf => ?_⟩
  · rw [e0, h1]; simp [hRB]
  · rw [e0, h2]; simp [hRB]
  · rw [e0, h3]; simp [hRB]
  · rw [e0, h4]; simp [hRB]
  · rw [h5]; simp [hBR, upd2]
  · rw [h7]; simp [hBR, upd2]
  · rw [h8]; simp [hBR, upd2]
  · unfold NN at hi
    rw [eC, eR, eL] at hi
    rw [e2]
    unfold CI
    rw [eC, eR, h9 i hi]
    simp [hRB, hi]
  · have a0 : iStone s ≠ 0 := by unfold iStone; omega
    have a1 : ¬ iStone s = 1 := by unfold iStone; omega
    have a2 : ¬ iStone s = 2 := by unfold iStone; omega
    unfold hBR
    rw [upd2_ni a0, upd2_ni a0, upd2_ni a0, upd2_nj (by decide)]
    unfold hRB
    rw [if_neg (fun q => a2 q.1), if_neg a1]
    exact hs s hs2
  · rw [eS] at hs2
    obtain rfl : s = 0 := by omega
    have a0 : iStone 0 ≠ 0 := by unfold iStone; omega
    unfold hBR
    rw [upd2_ni a0, upd2_ni a0, upd2_ni a0, upd2_at, h6]
  · rw [eS] at hs2
    obtain rfl : s = 0 := by omega
    rw [eP] at hk
    omega
  · rw [eF] at hf; omega

set_option maxRecDepth 100000 in
set_option maxHeartbeats 4000000 in
/-- X5_beginRough -/
theorem c_X5_beginRough (l : Launch) (t : Mem) (co ro la : Nat) : gMV wX l yX5_beginRough (.code yX5_beginRough cX5_beginRough 4 none) 5 0 0 (fun A => [.ref (A 0), .int (nI co), .int (nI ro), .int (nI la)]) (fun τ => MI t ∧ MW t ∧ M16 t ∧ Fsh t co ro la ∧ (co ≤ 10 ∧ ro ≤ 10 ∧ la ≤ 10) ∧ co * ro * la ≤ 1000 ∧ ∀ s, s < 8 → τ (iStone s) 0 = nI s) (fun τ τ1 => RS τ1 t) := by
  refine gMV_of (by decide) (fun A => Nat.le_of_ble_eq_true rfl) ?_
  intro X τ hC hP hE
  have hC : gOk wX l X cX5_beginRough "GemCut" 5 0 0 := hC
  show G wX X 0 0 0 [some (.ref (gA X 0)), some (.int (nI co)), some (.int (nI ro)), some (.int (nI la))] [] τ
  obtain ⟨hM, hW, h6, hF, ⟨hc, hr, hl⟩, hv, hs⟩ := hP
  have hB : Rb (hBR τ co ro la) t := Rb_beg hc hr hl hF hs
  refine g_ald0 hC dX5_beginRough_0 ?_
  refine xg_GemCut_rough hC tw_2_11 dX5_beginRough_1 ?_
  refine g_ild1 hC dX5_beginRough_4 ?_
  refine g_ild2 hC dX5_beginRough_5 ?_
  refine g_ild3 hC dX5_beginRough_6 ?_
  refine k_X2_begin (co := co) (ro := ro) (la := la) hC tw_1_195 dX5_beginRough_7 (by decide) ⟨by omega, by omega⟩ (Nat.le_of_ble_eq_true rfl) hv ?_
  refine g_ald0 hC dX5_beginRough_10 ?_
  refine xg_GemCut_stones hC tw_2_12 dX5_beginRough_11 ?_
  refine g_iconst 0 hC dX5_beginRough_14 (by decide) ?_
  refine xl_stonesA 0 hC (by decide) (by decide) dX5_beginRough_15 ?_
  refine k_X3_dropPlanes (s := 0) hC tw_1_203 dX5_beginRough_16 (by decide) ⟨by omega, by omega⟩ (Nat.le_of_ble_eq_true rfl) (by decide) ?_
  refine g_ald0 hC dX5_beginRough_19 ?_
  refine g_iconst 1 hC dX5_beginRough_20 (by decide) ?_
  refine xp_GemCut_stoneCount hC tw_2_14 dX5_beginRough_21 ?_
  refine g_ald0 hC dX5_beginRough_24 ?_
  refine g_sipush 400 hC dX5_beginRough_25 (by decide) ?_
  refine xp_GemCut_turns hC tw_2_15 dX5_beginRough_28 ?_
  refine g_ald0 hC dX5_beginRough_31 ?_
  refine g_iconst 0 hC dX5_beginRough_32 (by decide) ?_
  refine xp_GemCut_spent hC tw_2_16 dX5_beginRough_33 ?_
  refine g_ald0 hC dX5_beginRough_36 ?_
  refine k_X5_survey (t := t) hC tw_1_207 dX5_beginRough_37 (by decide) ⟨by omega, by omega⟩ (Nat.le_of_ble_eq_true rfl) ⟨hM, hW, h6, hB⟩ ?_
  intro σ1 hq
  exact hE _ _ _ _ _ dX5_beginRough_40 (Nat.le_refl _) (Nat.le_refl _) ⟨hM, hW, h6, Rb_fr hM h6 hB hq.1, hq.2⟩
theorem k_X5_beginRough {l : Launch} {X : gC} {cc : ByteArray} {own : String} {dd ca sa kc nc pc : Nat} {ls : List (Option Value)} {st : List Value} {σ : Mem} {idx : Nat} {t : Mem} {co ro la : Nat} (hC : gOk wX l X cc own dd ca sa) (hlk : Cond.methodLink own idx yX5_beginRough ∈ TB) (hd : decode cc pc = .ok (.invokevirtual idx, 3)) (hdd : 5 + 1 ≤ dd) (hfr : kc + 0 ≤ ca ∧ nc + 0 ≤ sa) (hrest : (st.map fun v => v.category).sum ≤ 8)  (hP : MI t ∧ MW t ∧ M16 t ∧ Fsh t co ro la ∧ (co ≤ 10 ∧ ro ≤ 10 ∧ la ≤ 10) ∧ co * ro * la ≤ 1000 ∧ ∀ s, s < 8 → σ (iStone s) 0 = nI s) (kk : ∀ (σ1 : Mem), RS σ1 t → G wX X kc nc (pc + 3) ls st σ1) : G wX X kc nc pc ls (.int (nI la) :: .int (nI ro) :: .int (nI co) :: .ref (gA X 0) :: st) σ := by
  exact g_cVV 3 hC (c_X5_beginRough l t co ro la) hlk ⟨tw_1_193, tws_1_0, tw_1_1, tw_1_194⟩ (by decide +kernel) ⟨hdd, by decide⟩ hfr rfl rfl rfl (gW_at wX _ _ (by decide)) hrest rfl hd hP kk
