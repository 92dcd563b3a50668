/-! what a cut gives away -/
def hGv (σ : Mem) (s : Nat) (d v : Int32) (n : Nat) : Mem := fun id j => if id = 2 ∧ j < n ∧ σ 2 j = nI s ∧ d < σ 192 j then v else σ id j
theorem gv_0 (σ : Mem) (s : Nat) (d v : Int32) : hGv σ s d v 0 = σ := by funext id j; simp [hGv]
theorem gv_id {σ : Mem} {s n : Nat} {d v : Int32} {id : Nat} (h : id ≠ 2) : hGv σ s d v n id = σ id := by funext j; simp [hGv, h]
theorem gv_at {σ : Mem} {s n : Nat} {d v : Int32} : hGv σ s d v n 2 n = σ 2 n := by simp [hGv]
theorem gv_t {σ : Mem} {s n : Nat} {d v : Int32} (h1 : σ 2 n = nI s) (h2 : d < σ 192 n) : upd2 (hGv σ s d v n) 2 n v = hGv σ s d v (n + 1) := by
  funext id j
  unfold upd2 hGv
  by_cases hi : id = 2
  · subst hi
    by_cases hj : j = n
    · subst hj; simp [h1, h2]
    · by_cases hlt : j < n
      · simp [hlt, hj, show j < n + 1 by omega]
      · simp [hlt, hj, show ¬ j < n + 1 by omega]
  · simp [hi]
theorem gv_f {σ : Mem} {s n : Nat} {d v : Int32} (h : ¬ (σ 2 n = nI s ∧ d < σ 192 n)) : hGv σ s d v n = hGv σ s d v (n + 1) := by
  funext id j
  unfold hGv
  by_cases hi : id = 2
  · subst hi
    by_cases hj : j = n
    · subst hj
      rw [if_neg (fun q => absurd q.2.1 (by omega)), if_neg (fun q => h q.2.2)]
    · by_cases hlt : j < n
      · simp [hlt, show j < n + 1 by omega]
      · simp [hlt, show ¬ j < n + 1 by omega]
  · simp [hi]

set_option maxRecDepth 100000 in
set_option maxHeartbeats 4000000 in
/-- X4_giveAbove -/
theorem c_X4_giveAbove (l : Launch) (s n : Nat) (d v : Int32) : gMV wX l yX4_giveAbove (.code yX4_giveAbove cX4_giveAbove 5 none) 1 0 0 (fun A => [.ref (A 190), .int d, .int v]) (fun τ => s < 8 ∧ τ 190 1 = nI s ∧ τ (iStone s) 0 = nI s ∧ xSize τ = nI n ∧ n ≤ 1000) (fun τ τ1 => τ1 = hGv τ s d v n) := by
  refine gMV_of (by decide) (fun A => Nat.le_of_ble_eq_true rfl) ?_
  intro X τ hC hP hE
  have hC : gOk wX l X cX4_giveAbove "GemCut$Trial" 1 0 0 := hC
  show G wX X 0 0 0 [some (.ref (gA X 190)), some (.int d), some (.int v), none, none] [] τ
  obtain ⟨hs, hp1, hs0, hsz, hn⟩ := hP
  have lp : ∀ (m k : Nat), k + m = n → G wX X 0 0 11 [some (.ref (gA X 190)), some (.int d), some (.int v), some (.int (nI n)), some (.int (nI k))] [] (hGv τ s d v k) := by
    intro m
    induction m with
    | zero =>
      intro k hk 
      have hk : k = n := by omega
      rw [hk]
      refine g_ild4 hC dX4_giveAbove_11 ?_
      refine g_ild3 hC dX4_giveAbove_13 ?_
      refine g_icmp_ge 65 hC dX4_giveAbove_14 (by decide) (fun c14 => ?_) (fun c14 => absurd (nI_le (by omega) (by omega)) c14)
      exact hE _ _ _ _ _ dX4_giveAbove_65 (Nat.le_refl _) (Nat.le_refl _) rfl
    | succ m ih =>
      intro k hk 
      have hps : (hGv τ s d v k 190 1).toNatClampNeg = s := by rw [gv_id (by decide), hp1]; exact nI_clamp (by omega)
      have hst : hGv τ s d v k (iStone s) 0 = nI s := by rw [gv_id (by unfold iStone; omega)]; exact hs0
      have hh9 : hGv τ s d v k 192 k = τ 192 k := by rw [gv_id (by decide)]
      refine g_ild4 hC dX4_giveAbove_11 ?_
      refine g_ild3 hC dX4_giveAbove_13 ?_
      refine g_icmp_ge 65 hC dX4_giveAbove_14 (by decide) (fun c14 => absurd c14 (nI_ge (by omega) (by omega))) (fun c14 => ?_)
      refine g_ald0 hC dX4_giveAbove_17 ?_
      refine xg_Trial_rough hC tw_1_172 dX4_giveAbove_18 ?_
      refine xg_Rough_owner hC tw_1_69 dX4_giveAbove_21 ?_
      refine g_ild4 hC dX4_giveAbove_24 ?_
      refine xl_owner k hC rfl (by omega) dX4_giveAbove_26 ?_
      rw [gv_at]
      refine g_ald0 hC dX4_giveAbove_27 ?_
      refine xg_Trial_piece hC tw_1_173 dX4_giveAbove_28 ?_
      rw [hps]
      refine xg_Stone_number hC (by first | assumption | omega | exact xk_pl _ (by assumption) _ (by omega) | decide) tw_1_140 dX4_giveAbove_31 ?_
      rw [hst]
      refine g_icmp_ne 59 hC dX4_giveAbove_34 (by decide) (fun c34 => ?_) (fun c34 => ?_)
      · refine g_inc4 1 hC dX4_giveAbove_59 (by decide) rfl ?_
        refine g_goto 11 hC dX4_giveAbove_62 (by decide) ?_
        first
        | (rw [nI_1, gv_t c34 (Int32.not_le.mp c45)]; exact ih (k + 1) (by omega))
        | (rw [nI_1, gv_f (fun q9 => absurd q9.2 (Int32.not_lt.mpr c45))]; exact ih (k + 1) (by omega))
        | (rw [nI_1, gv_f (fun q9 => c34 q9.1)]; exact ih (k + 1) (by omega))
      · refine g_ald0 hC dX4_giveAbove_37 ?_
        refine xg_Trial_heights hC tw_1_175 dX4_giveAbove_38 ?_
        refine g_ild4 hC dX4_giveAbove_41 ?_
        refine xl_heights k hC rfl (by omega) dX4_giveAbove_43 ?_
        rw [hh9]
        refine g_ild1 hC dX4_giveAbove_44 ?_
        refine g_icmp_le 59 hC dX4_giveAbove_45 (by decide) (fun c45 => ?_) (fun c45 => ?_)
        · refine g_inc4 1 hC dX4_giveAbove_59 (by decide) rfl ?_
          refine g_goto 11 hC dX4_giveAbove_62 (by decide) ?_
          first
          | (rw [nI_1, gv_t c34 (Int32.not_le.mp c45)]; exact ih (k + 1) (by omega))
          | (rw [nI_1, gv_f (fun q9 => absurd q9.2 (Int32.not_lt.mpr c45))]; exact ih (k + 1) (by omega))
          | (rw [nI_1, gv_f (fun q9 => c34 q9.1)]; exact ih (k + 1) (by omega))
        · refine g_ald0 hC dX4_giveAbove_48 ?_
          refine xg_Trial_rough hC tw_1_172 dX4_giveAbove_49 ?_
          refine xg_Rough_owner hC tw_1_69 dX4_giveAbove_52 ?_
          refine g_ild4 hC dX4_giveAbove_55 ?_
          refine g_ild2 hC dX4_giveAbove_57 ?_
          refine xs_owner k hC rfl (by omega) dX4_giveAbove_58 ?_
          refine g_inc4 1 hC dX4_giveAbove_59 (by decide) rfl ?_
          refine g_goto 11 hC dX4_giveAbove_62 (by decide) ?_
          first
          | (rw [nI_1, gv_t c34 (Int32.not_le.mp c45)]; exact ih (k + 1) (by omega))
          | (rw [nI_1, gv_f (fun q9 => absurd q9.2 (Int32.not_lt.mpr c45))]; exact ih (k + 1) (by omega))
          | (rw [nI_1, gv_f (fun q9 => c34 q9.1)]; exact ih (k + 1) (by omega))
  refine g_ald0 hC dX4_giveAbove_0 ?_
  refine xg_Trial_rough hC tw_1_172 dX4_giveAbove_1 ?_
  refine k_X2_size hC tw_2_214 dX4_giveAbove_4 (by decide) ⟨by omega, by omega⟩ (Nat.le_of_ble_eq_true rfl) ?_
  rw [hsz]
  refine g_ist3 hC dX4_giveAbove_7 rfl ?_
  refine g_iconst 0 hC dX4_giveAbove_8 (by decide) ?_
  refine g_ist4 hC dX4_giveAbove_9 rfl ?_
  have h0 := lp n 0 (by omega)
  rw [gv_0] at h0
  exact h0
theorem k_X4_giveAbove {l : Launch} {X : gC} {cc : ByteArray} {own : String} {dd ca sa kc nc pc : Nat} {ls : List (Option Value)} {st : List Value} {σ : Mem} {idx : Nat} {s n : Nat} {d v : Int32} (hC : gOk wX l X cc own dd ca sa) (hlk : Cond.methodLink own idx yX4_giveAbove ∈ TB) (hd : decode cc pc = .ok (.invokevirtual idx, 3)) (hdd : 1 + 1 ≤ dd) (hfr : kc + 0 ≤ ca ∧ nc + 0 ≤ sa) (hrest : (st.map fun v => v.category).sum ≤ 8)  (hP : s < 8 ∧ σ 190 1 = nI s ∧ σ (iStone s) 0 = nI s ∧ xSize σ = nI n ∧ n ≤ 1000) (kk : G wX X kc nc (pc + 3) ls st (hGv σ s d v n)) : G wX X kc nc pc ls (.int v :: .int d :: .ref (gA X 190) :: st) σ := by
  exact g_cVV 2 hC (c_X4_giveAbove l s n d v) hlk ⟨tw_2_211, tw_2_212, tw_1_6, tw_2_213⟩ (by decide +kernel) ⟨hdd, by decide⟩ hfr rfl rfl rfl (rv_Trial _ _) hrest rfl hd hP (fun σ1 hq => by subst hq; exact kk)
