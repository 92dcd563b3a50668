/-! the checksum's folds -/
theorem foldF_app (F : Nat → Int64 → Int64) (a : Nat) (d : Int64) : ∀ b, foldF F (a + b) d = foldF (fun k => F (a + k)) b (foldF F a d) := by
  intro b
  induction b with
  | zero => rfl
  | succ b ih => rw [← Nat.add_assoc]; simp only [foldF, ih]
theorem foldF_congr {F F' : Nat → Int64 → Int64} : ∀ n d, (∀ k, k < n → F k = F' k) → foldF F n d = foldF F' n d := by
  intro n
  induction n with
  | zero => intro d _; rfl
  | succ n ih => intro d h; simp only [foldF, ih d (fun k hk => h k (by omega)), h n (by omega)]
theorem foldF_blk (F : Nat → Int64 → Int64) (m : Nat) (d : Int64) : ∀ n, foldF F (m * n) d = foldF (fun y e => foldF (fun x => F (x + m * y)) m e) n d := by
  intro n
  induction n with
  | zero => rfl
  | succ n ih =>
    rw [Nat.mul_succ, foldF_app, ih]
    simp only [foldF]
    exact foldF_congr _ _ (fun k _ => by rw [Nat.add_comm])
def mFi (τ : Mem) (i : Nat) (d : Int64) : Int64 := dg d (τ 1 (CI τ i))
theorem mFi_s {τ : Mem} {i : Nat} {d : Int64} : foldF (mFi τ) (i + 1) d = foldF (mFi τ) i d * 31 + (τ 1 (CI τ i)).toInt64 := by rw [← foldF_s, mFi]; rfl
theorem cells_fold {τ : Mem} (d : Int64) : foldF (mFi τ) (NN τ) d = foldF (mFz τ) (nL τ) d := by
  unfold NN
  rw [Nat.mul_assoc, foldF_blk, foldF_blk]
  refine foldF_congr _ _ (fun z hz => ?_)
  funext e
  refine foldF_congr _ _ (fun y hy => ?_)
  funext e2
  refine foldF_congr _ _ (fun x hx => ?_)
  funext e3
  show dg e3 (τ 1 (CI τ (x + nC τ * (y + nR τ * z)))) = dg e3 (τ 1 (x + 10 * (y + 10 * z)))
  unfold CI
  rw [bI_at hx hy]

set_option maxRecDepth 100000 in
set_option maxHeartbeats 4000000 in
/-- X5_spend -/
theorem c_X5_spend (l : Launch) (v : Int32) : gMV wX l yX5_spend (.code yX5_spend cX5_spend 2 none) 0 0 0 (fun A => [.ref (A 0), .int v]) (fun τ => True) (fun τ τ1 => τ1 = upd2 (upd2 τ 0 4 (τ 0 4 - v)) 0 5 (τ 0 5 + v)) := by
  refine gMV_of (by decide) (fun A => Nat.le_of_ble_eq_true rfl) ?_
  intro X τ hC hP hE
  have hC : gOk wX l X cX5_spend "GemCut" 0 0 0 := hC
  show G wX X 0 0 0 [some (.ref (gA X 0)), some (.int v)] [] τ
  refine g_ald0 hC dX5_spend_0 ?_
  refine g_dup hC dX5_spend_1 rfl ?_
  refine xg_GemCut_turns hC tw_2_15 dX5_spend_2 ?_
  refine g_ild1 hC dX5_spend_5 ?_
  refine g_isub hC dX5_spend_6 ?_
  refine xp_GemCut_turns hC tw_2_15 dX5_spend_7 ?_
  refine g_ald0 hC dX5_spend_10 ?_
  refine g_dup hC dX5_spend_11 rfl ?_
  refine xg_GemCut_spent hC tw_2_16 dX5_spend_12 ?_
  refine g_ild1 hC dX5_spend_15 ?_
  refine g_iadd hC dX5_spend_16 ?_
  refine xp_GemCut_spent hC tw_2_16 dX5_spend_17 ?_
  exact hE _ _ _ _ _ dX5_spend_20 (Nat.le_refl _) (Nat.le_refl _) (by rw [upd2_nj (by decide)])
theorem k_X5_spend {l : Launch} {X : gC} {cc : ByteArray} {own : String} {dd ca sa kc nc pc : Nat} {ls : List (Option Value)} {st : List Value} {σ : Mem} {idx : Nat} {v : Int32} (hC : gOk wX l X cc own dd ca sa) (hlk : Cond.methodLink own idx yX5_spend ∈ TB) (hd : decode cc pc = .ok (.invokevirtual idx, 3)) (hdd : 0 + 1 ≤ dd) (hfr : kc + 0 ≤ ca ∧ nc + 0 ≤ sa) (hrest : (st.map fun v => v.category).sum ≤ 8)   (kk : G wX X kc nc (pc + 3) ls st (upd2 (upd2 σ 0 4 (σ 0 4 - v)) 0 5 (σ 0 5 + v))) : G wX X kc nc pc ls (.int v :: .ref (gA X 0) :: st) σ := by
  exact g_cVV 1 hC (c_X5_spend l v) hlk ⟨tw_2_227, tws_1_9, tw_1_1, tw_2_228⟩ (by decide +kernel) ⟨hdd, by decide⟩ hfr rfl rfl rfl (gW_at wX _ _ (by decide)) hrest rfl hd trivial (fun σ1 hq => by subst hq; exact kk)
set_option maxRecDepth 100000 in
set_option maxHeartbeats 4000000 in
/-- X5_kept -/
theorem c_X5_kept (l : Launch) (t : Mem) : gMD wX l yX5_kept (.code yX5_kept cX5_kept 2 (some FieldType.double)) 1 0 0 (fun A => [.ref (A 0)]) (fun τ => RS τ t) (fun τ rr τ1 => rr = FP.ddiv (FP.i2d (sCt t 1)) (FP.i2d (sCt t 0)) ∧ τ1 = τ) := by
  refine gMD_of (by decide) (fun A => Nat.le_of_ble_eq_true rfl) ?_
  intro X τ hC hP hE
  have hC : gOk wX l X cX5_kept "GemCut" 1 0 0 := hC
  show G wX X 0 0 0 [some (.ref (gA X 0)), none] [] τ
  have hRS := hP
  have hM : MI t := hRS.1
  have hRb := hRS.2.2.2.1
  have hsz : xSize τ = sCt t 0 := by show τ 1 0 * τ 1 1 * τ 1 2 = _; rw [hRb.1.1, hRb.1.2.1, hRb.1.2.2.1]; rfl
  refine g_ald0 hC dX5_kept_0 ?_
  refine xg_GemCut_rough hC tw_2_11 dX5_kept_1 ?_
  refine k_X2_size hC tw_3_60 dX5_kept_4 (by decide) ⟨by omega, by omega⟩ (Nat.le_of_ble_eq_true rfl) ?_
  rw [hsz]
  refine g_ist1 hC dX5_kept_7 rfl ?_
  refine g_ild1 hC dX5_kept_8 ?_
  refine g_if_ne 16 hC dX5_kept_9 (by decide) (fun c9 => ?_) (fun c9 => absurd c9 (by rw [sCt_0 hM]; intro h9; have := vol_rng (MI_C hM).1.2 (MI_C hM).2.1.2 (MI_C hM).2.2.2; exact absurd (nI_inj (by omega) (by decide) (h9.trans nI_0.symm)) (by omega)))
  refine g_ald0 hC dX5_kept_16 ?_
  refine k_X5_cellsOfStones (t := t) hC tw_3_61 dX5_kept_17 (by decide) ⟨by omega, by omega⟩ (Nat.le_of_ble_eq_true rfl) hRS ?_
  rw [show sumI (sCtv t 1) (nS t) = sCt t 1 from rfl]
  refine g_i2d hC dX5_kept_20 ?_
  refine g_ild1 hC dX5_kept_21 ?_
  refine g_i2d hC dX5_kept_22 ?_
  refine g_ddiv hC dX5_kept_23 (kept_num hM) ?_
  exact hE _ _ _ _ _ _ dX5_kept_24 (Nat.le_refl _) (Nat.le_refl _) ⟨rfl, rfl⟩
theorem k_X5_kept {l : Launch} {X : gC} {cc : ByteArray} {own : String} {dd ca sa kc nc pc : Nat} {ls : List (Option Value)} {st : List Value} {σ : Mem} {idx : Nat} {t : Mem} (hC : gOk wX l X cc own dd ca sa) (hlk : Cond.methodLink own idx yX5_kept ∈ TB) (hd : decode cc pc = .ok (.invokevirtual idx, 3)) (hdd : 1 + 1 ≤ dd) (hfr : kc + 0 ≤ ca ∧ nc + 0 ≤ sa) (hrest : (st.map fun v => v.category).sum ≤ 8)  (hP : RS σ t) (kk : G wX X kc nc (pc + 3) ls (.double (FP.ddiv (FP.i2d (sCt t 1)) (FP.i2d (sCt t 0))) :: st) (σ)) : G wX X kc nc pc ls (.ref (gA X 0) :: st) σ := by
  exact g_cVD 0 hC (c_X5_kept l t) hlk ⟨tw_3_147, tw_3_148, tw_1_1, tw_3_149⟩ (by decide +kernel) ⟨hdd, by decide⟩ hfr rfl rfl rfl (gW_at wX _ _ (by decide)) hrest rfl hd hP (fun rr σ1 hq => by obtain ⟨rfl, rfl⟩ := hq; exact kk)
