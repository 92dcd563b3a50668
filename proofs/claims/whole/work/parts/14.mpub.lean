abbrev tn (x : Int32) : Nat := x.toNatClampNeg
abbrev mTh (τ : Mem) : Mem := upd2 τ 0 0 0
abbrev mFail (τ : Mem) (v : Int32) : Int32 × Mem := (0, upd2 (mTh τ) 0 0 v)
def gRow5 (a b c d e : Int32) (j : Nat) : Int32 := if j = 0 then a else if j = 1 then b else if j = 2 then c else if j = 3 then d else e
/-- a plane put behind those of a stone -/
def gPut (τ : Mem) (s : Nat) (p q r d : Int32) : Mem := fun i j => if i = 3 then (if 5 * (17 * s + nP τ s) ≤ j ∧ j < 5 * (17 * s + nP τ s) + 5 then gRow5 p q r d 0 (j - 5 * (17 * s + nP τ s)) else τ 3 j) else if i = 4 ∧ j = s then τ 4 s + 1 else τ i j
def mCell (τ : Mem) (x y z : Int32) : Int32 × Mem := if sCell (mTh τ) x y z = true then ((mTh τ) 1 (tn (sAt x y z)), mTh τ) else mFail τ 1
def mFlawIn (τ : Mem) (f s w : Int32) : Int32 × Mem := if sIn f 0 ((mTh τ) 0 5 - 1) = true ∧ sStone (mTh τ) s = true ∧ sIn w 0 2 = true then (sFt (mTh τ) (tn f) s w, mTh τ) else mFail τ 1
def mStone (τ : Mem) (s w : Int32) : Int32 × Mem := if sStone (mTh τ) s = true ∧ sIn w 0 8 = true then (sSt (mTh τ) (tn s) (tn w), mTh τ) else mFail τ 1
def mPlane (τ : Mem) (s k w : Int32) : Int32 × Mem := if sPlane (mTh τ) s k = true ∧ sIn w 0 5 = true then (sPt (mTh τ) (tn s) (tn k) (tn w), mTh τ) else mFail τ 1
def mCount (τ : Mem) (w : Int32) : Int32 × Mem := if sIn w 0 7 = true then (sCt (mTh τ) (tn w), mTh τ) else mFail τ 1
def sAng (τ : Mem) (s a b : Nat) : Int32 := if sProd τ s a b < 0 then 0 - 100 * sProd τ s a b * sProd τ s a b / (sProd τ s a a * sProd τ s b b) else 100 * sProd τ s a b * sProd τ s a b / (sProd τ s a a * sProd τ s b b)
def mAngle (τ : Mem) (s a b : Int32) : Int32 × Mem := if sPlane (mTh τ) s a = true ∧ sPlane (mTh τ) s b = true then (sAng (mTh τ) (tn s) (tn a) (tn b), mTh τ) else mFail τ 1
def mDress (τ : Mem) : Int32 × Mem := ((mTh τ) 0 10, upd2 (mTh τ) 0 10 400)
def mPolish (τ : Mem) (s k : Int32) : Int32 × Mem := if sPlane (mTh τ) s k = true then
    (if nI (sTouch (mTh τ) (tn s) (tn k)) = 0 ∨ sPl (mTh τ) (tn s) (tn k) 4 = 1 ∨ (mTh τ) 0 10 < nI (sTouch (mTh τ) (tn s) (tn k)) + 5 then mFail τ 2
     else (nI (sTouch (mTh τ) (tn s) (tn k)) + 5, gSpend (upd2 (mTh τ) 3 (5 * (17 * tn s + tn k) + 4) 1) (nI (sTouch (mTh τ) (tn s) (tn k)) + 5)))
  else mFail τ 1
/-- no two of the planes that are kept have squares whose product is 0 -/
def MZ (τ : Mem) : Prop := ∀ s a b, s < nS τ → a < nP τ s → b < nP τ s → ¬ sProd τ s a a * sProd τ s b b = 0
/-- no cell bears a mark -/
def NM (τ : Mem) : Prop := ∀ k, k < 1000 → ¬ τ 1 k = -2
theorem MZ_th {τ : Mem} (h : MZ τ) : MZ (mTh τ) := by
  have hs : nS (mTh τ) = nS τ := by unfold nS mTh; rw [upd2_nj (by decide)]
  have hp : ∀ s, nP (mTh τ) s = nP τ s := fun s => by unfold nP mTh; rw [upd2_ni (by decide)]
  have hq : ∀ s a b, sProd (mTh τ) s a b = sProd τ s a b := fun s a b => by unfold sProd sPl mTh; simp only [upd2_ni (show (3 : Nat) ≠ 0 by decide)]
  intro s a b h1 h2 h3
  rw [hs] at h1
  rw [hp] at h2 h3
  rw [hq, hq]
  exact h s a b h1 h2 h3
theorem NM_th {τ : Mem} (h : NM τ) : NM (mTh τ) := fun k hk => by rw [show (mTh τ) 1 k = τ 1 k by simp only [mTh]; rw [upd2_ni (by decide)]]; exact h k hk
theorem back_turn {τ : Mem} (h : NM τ) (s p q r d : Int32) : gBack (gTurn τ s p q r d (-2) 1000) s 1000 = τ := by
  funext i k
  unfold gBack
  by_cases hi : i = 1
  · subst hi
    by_cases hk : k < 1000
    · by_cases ht : pTurn τ s p q r d k = true
      · have h1 : gTurn τ s p q r d (-2) 1000 1 k = -2 := by simp [gTurn, hk, ht]
        rw [if_pos ⟨rfl, hk, h1⟩]
        simp [pTurn] at ht
        exact ht.1.symm
      · have h1 : gTurn τ s p q r d (-2) 1000 1 k = τ 1 k := by simp [gTurn, ht]
        rw [if_neg (by rw [h1]; exact fun hh => h k hk hh.2.2), h1]
    · rw [if_neg (fun hh => hk hh.2.1)]
      simp [gTurn, hk]
  · rw [if_neg (fun hh => hi hh.1)]
    simp [gTurn, hi]
def mSaw (τ : Mem) (s p q r d : Int32) : Int32 × Mem :=
  if sStone (mTh τ) s = true then
    (if sTilt p q r d = true then
      (if (mTh τ) 0 7 = 8 ∨ nI (sTurn (mTh τ) s p q r d) = 0 ∨ nI (sTurn (mTh τ) s p q r d) = nI (sWt (mTh τ) s) then mFail τ 3
       else ((mTh τ) 0 7, upd2 (upd2 (gTurn (mTh τ) s p q r d ((mTh τ) 0 7) 1000) 4 (nS (mTh τ)) 0) 0 7 ((mTh τ) 0 7 + 1)))
     else mFail τ 2)
  else mFail τ 1
def mCut (τ : Mem) (s p q r d : Int32) : Int32 × Mem :=
  if sStone (mTh τ) s = true then
    (if sTilt p q r d = true then
      (if (mTh τ) 4 (tn s) = 16 ∨ (mTh τ) 0 10 < 3 * nI (sTurn (mTh τ) s p q r d) then mFail τ 3
       else (nI (sTurn (mTh τ) s p q r d), gSpend (gPut (gTurn (mTh τ) s p q r d (-1) 1000) (tn s) p q r d) (3 * nI (sTurn (mTh τ) s p q r d))))
     else mFail τ 2)
  else mFail τ 1
theorem nP_turn (τ : Mem) (s p q r d t : Int32) (n k : Nat) : nP (gTurn τ s p q r d t n) k = nP τ k := by simp [nP, gTurn]
theorem MI_turn {τ : Mem} (h : MI τ) (s p q r d t : Int32) (n : Nat) : MI (gTurn τ s p q r d t n) := by
  have h0 : ∀ i, i ≠ 1 → gTurn τ s p q r d t n i = τ i := fun i hi => by funext k; simp [gTurn, hi]
  refine ⟨?_, ?_, ?_, ?_, ?_, ?_⟩
  · rw [h0 0 (by decide)]; exact h.1
  · rw [h0 0 (by decide)]; exact h.2.1
  · rw [h0 0 (by decide)]; exact h.2.2.1
  · rw [h0 0 (by decide)]; exact h.2.2.2.1
  · rw [h0 0 (by decide)]; exact h.2.2.2.2.1
  · rw [h0 4 (by decide)]; exact h.2.2.2.2.2
theorem pidx {s n : Nat} {x : Int32} (h : x = nI n) : 5 * (17 * nI s + x) = nI (5 * (17 * s + n)) := by
  rw [h, show (17 : Int32) = nI 17 by decide, show (5 : Int32) = nI 5 by decide, nI_mul', nI_add, nI_mul']

set_option maxRecDepth 100000 in
set_option maxHeartbeats 4000000 in
/-- X6_put -/
theorem c_X6_put (l : Launch) (s : Nat) (p q r d : Int32) : gMV wM l yX6_put (.code yX6_put cX6_put 7 none) 1 1 5 (fun A => [.ref (A 0), .int (nI s), .int p, .int q, .int r, .int d]) (fun τ => s < 8 ∧ MI τ ∧ nP τ s ≤ 16) (fun τ τ1 => τ1 = gPut τ s p q r d) := by
  refine gMV_of (by decide) (fun A => Nat.le_of_ble_eq_true rfl) ?_
  intro X τ hC hP hE
  have hC : gOk wM l X cX6_put "GemCutModel" 1 1 5 := hC
  show G wM X 0 0 0 [some (.ref (gA X 0)), some (.int (nI s)), some (.int p), some (.int q), some (.int r), some (.int d), none] [] τ
  obtain ⟨hm, hm2⟩ := MI_P hP.2.1 hP.1
  have hm3 := hP.2.2
  refine g_iconst 5 hC dX6_put_0 (by decide) ?_
  refine g_newM hC dX6_put_1 ⟨by decide, by decide⟩ (fun X1 hC1 hA1 hdrop => ?_)
  rw [← hA1 0 (by decide)]
  have hm4 : upd5 τ 4 s = nI (nP τ s) := by rw [← hm]; rfl
  refine g_dup hC1 dX6_put_3 rfl ?_
  refine g_iconst 0 hC1 dX6_put_4 (by decide) ?_
  refine g_ild2 hC1 dX6_put_5 ?_
  refine ns_tmp 0 hC1 (by decide) (by decide) dX6_put_6 ?_
  refine g_dup hC1 dX6_put_7 rfl ?_
  refine g_iconst 1 hC1 dX6_put_8 (by decide) ?_
  refine g_ild3 hC1 dX6_put_9 ?_
  refine ns_tmp 1 hC1 (by decide) (by decide) dX6_put_10 ?_
  refine g_dup hC1 dX6_put_11 rfl ?_
  refine g_iconst 2 hC1 dX6_put_12 (by decide) ?_
  refine g_ild4 hC1 dX6_put_13 ?_
  refine ns_tmp 2 hC1 (by decide) (by decide) dX6_put_15 ?_
  refine g_dup hC1 dX6_put_16 rfl ?_
  refine g_iconst 3 hC1 dX6_put_17 (by decide) ?_
  refine g_ild5 hC1 dX6_put_18 ?_
  refine ns_tmp 3 hC1 (by decide) (by decide) dX6_put_20 ?_
  refine g_dup hC1 dX6_put_21 rfl ?_
  refine g_iconst 4 hC1 dX6_put_22 (by decide) ?_
  refine g_iconst 0 hC1 dX6_put_23 (by decide) ?_
  refine ns_tmp 4 hC1 (by decide) (by decide) dX6_put_24 ?_
  refine g_ast6 hC1 dX6_put_25 rfl ?_
  refine g_ald6 hC1 dX6_put_27 ?_
  refine g_iconst 0 hC1 dX6_put_29 (by decide) ?_
  refine g_ald0 hC1 dX6_put_30 ?_
  refine ng_Model_planeTable hC1 tw_4_30 dX6_put_31 ?_
  refine g_iconst 5 hC1 dX6_put_34 (by decide) ?_
  refine g_bipush 17 hC1 dX6_put_35 (by decide) ?_
  refine g_ild1 hC1 dX6_put_37 ?_
  refine g_imul hC1 dX6_put_38 ?_
  refine g_ald0 hC1 dX6_put_39 ?_
  refine ng_Model_many hC1 tw_4_31 dX6_put_40 ?_
  refine g_ild1 hC1 dX6_put_43 ?_
  refine nl_many s hC1 rfl hP.1 dX6_put_44 ?_
  refine g_iadd hC1 dX6_put_45 ?_
  refine g_imul hC1 dX6_put_46 ?_
  refine g_iconst 5 hC1 dX6_put_47 (by decide) ?_
  refine g_copy5 (i := 5) (j := 3) (M := 680) (dp := 5 * (17 * s + nP τ s)) hC1 (by decide) tw_4_75 (by decide) (by decide) (ne_tmp _ _) (ne_planeTable _ _) (pidx hm) (by omega) (by decide) (ne_planeTable _ _) (Nat.le_of_ble_eq_true rfl) dX6_put_48 ?_
  refine g_ald0 hC1 dX6_put_51 ?_
  refine ng_Model_many hC1 tw_4_31 dX6_put_52 ?_
  refine g_ild1 hC1 dX6_put_55 ?_
  refine g_dup2 hC1 dX6_put_56 rfl rfl ?_
  refine nl_many s hC1 rfl hP.1 dX6_put_57 ?_
  refine g_iconst 1 hC1 dX6_put_58 (by decide) ?_
  refine g_iadd hC1 dX6_put_59 ?_
  refine ns_many s hC1 rfl hP.1 dX6_put_60 ?_
  refine hdrop _ _ _ _ _ _ ?_
  rw [hA1 0 (by decide)]
  refine g_mem (gPut τ s p q r d) (fun i hi => ?_) (hE _ _ _ _ _ dX6_put_61 (by decide) (by decide) rfl)
  have hi5 : i < 5 := hi
  funext j
  match i, hi5 with
  | 0, _ => simp [gPut, upd2, updR, upd5]
  | 1, _ => simp [gPut, upd2, updR, upd5]
  | 2, _ => simp [gPut, upd2, updR, upd5]
  | 3, _ =>
    simp only [gPut, upd2, updR, upd5, va_cpy]
    by_cases hj : 5 * (17 * s + nP τ s) ≤ j ∧ j < 5 * (17 * s + nP τ s) + 5
    · obtain ⟨t, ht, rfl⟩ : ∃ t, t < 5 ∧ j = 5 * (17 * s + nP τ s) + t := ⟨j - 5 * (17 * s + nP τ s), by omega, by omega⟩
      rw [Nat.add_sub_cancel_left]
      match t, ht with
      | 0, _ => simp [gRow5, va_cpy, upd2, upd5]
      | 1, _ => simp [gRow5, va_cpy, upd2, upd5]
      | 2, _ => simp [gRow5, va_cpy, upd2, upd5]
      | 3, _ => simp [gRow5, va_cpy, upd2, upd5]
      | 4, _ => simp [gRow5, va_cpy, upd2, upd5]
    · simp [hj, va_cpy, upd2, upd5]
  | 4, _ => simp [gPut, upd2, updR, upd5]
theorem k_X6_put {l : Launch} {X : gC} {cc : ByteArray} {own : String} {dd ca sa kc nc pc : Nat} {ls : List (Option Value)} {st : List Value} {σ : Mem} {idx : Nat} {s : Nat} {p q r d : Int32} (hC : gOk wM l X cc own dd ca sa) (hlk : Cond.methodLink own idx yX6_put ∈ TB) (hd : decode cc pc = .ok (.invokevirtual idx, 3)) (hdd : 1 + 1 ≤ dd) (hf : kc + 1 ≤ ca ∧ nc + 5 ≤ sa) (hrest : (st.map fun v => v.category).sum ≤ 8)  (hP : s < 8 ∧ MI σ ∧ nP σ s ≤ 16) (kk : G wM X (kc + 1) (nc + 5) (pc + 3) ls st (gPut σ s p q r d)) : G wM X kc nc pc ls (.int d :: .int r :: .int q :: .int p :: .int (nI s) :: .ref (gA X 0) :: st) σ := by
  exact g_cVV 5 hC (c_X6_put l s p q r d) hlk ⟨tw_4_146, tws_3_4, tw_1_7, tw_4_147⟩ (by decide +kernel) ⟨hdd, by decide⟩ hf rfl rfl rfl (gW_at wM _ _ (by decide)) hrest rfl hd hP (fun σ1 hq => by subst hq; exact kk)
set_option maxRecDepth 100000 in
set_option maxHeartbeats 4000000 in
/-- X6_cell -/
theorem c_X6_cell (l : Launch) (x y z : Int32) : gMI wM l yX6_cell (.code yX6_cell cX6_cell 4 (some FieldType.int)) 2 0 0 (fun A => [.ref (A 0), .int x, .int y, .int z]) (fun τ => MI τ) (fun τ rr τ1 => rr = (mCell τ x y z).1 ∧ τ1 = (mCell τ x y z).2) := by
  refine gMI_of (by decide) (fun A => Nat.le_of_ble_eq_true rfl) ?_
  intro X τ hC hP hE
  have hC : gOk wM l X cX6_cell "GemCutModel" 2 0 0 := hC
  show G wM X 0 0 0 [some (.ref (gA X 0)), some (.int x), some (.int y), some (.int z)] [] τ
  refine g_ald0 hC dX6_cell_0 ?_
  refine g_iconst 0 hC dX6_cell_1 (by decide) ?_
  refine mp_Model_thrown hC tw_4_22 dX6_cell_2 ?_
  refine g_ald0 hC dX6_cell_5 ?_
  refine g_ild1 hC dX6_cell_6 ?_
  refine g_ild2 hC dX6_cell_7 ?_
  refine g_ild3 hC dX6_cell_8 ?_
  refine k_X6_isCell hC tw_4_15 dX6_cell_9 (by decide) ⟨by omega, by omega⟩ (Nat.le_of_ble_eq_true rfl) ?_
  refine g_if_eq 29 hC dX6_cell_12 (by decide) (fun c12 => ?_) (fun c12 => ?_)
  · refine g_ald0 hC dX6_cell_29 ?_
    refine g_iconst 1 hC dX6_cell_30 (by decide) ?_
    refine k_X6_fail hC tw_4_67 dX6_cell_31 (by decide) ⟨by omega, by omega⟩ (Nat.le_of_ble_eq_true rfl) ?_
    (try simp only [ne_eq, b2i_eq0, Bool.not_eq_false, Int32.not_le, Int32.not_lt, Int32.zero_sub] at c12)
    exact hE _ _ _ _ _ _ dX6_cell_34 (Nat.le_refl _) (Nat.le_refl _) ⟨by simp [mCell, c12], by simp [mCell, c12]⟩
  · (try simp only [ne_eq, b2i_eq0, Bool.not_eq_false, Int32.not_le, Int32.not_lt, Int32.zero_sub] at c12)
    obtain ⟨a, b, c, ha, hb, hc, rfl, rfl, rfl⟩ := sCell_nI (MI_th hP 0) c12
    have hc1 : (sAt (nI a) (nI b) (nI c)).toNatClampNeg = a + 10 * (b + 10 * c) := by rw [sAt_nI]; exact nI_clamp (by omega)
    refine g_ald0 hC dX6_cell_15 ?_
    refine mg_Model_cells hC tw_4_26 dX6_cell_16 ?_
    refine g_ild1 hC dX6_cell_19 ?_
    refine g_ild2 hC dX6_cell_20 ?_
    refine g_ild3 hC dX6_cell_21 ?_
    refine k_X6_at hC tw_4_82 dX6_cell_22 (by decide) ⟨by omega, by omega⟩ (Nat.le_of_ble_eq_true rfl) ?_
    refine ml_cells (a + 10 * (b + 10 * c)) hC (sAt_nI a b c) (by omega) dX6_cell_25 ?_
    refine g_goto 34 hC dX6_cell_26 (by decide) ?_
    exact hE _ _ _ _ _ _ dX6_cell_34 (Nat.le_refl _) (Nat.le_refl _) ⟨by rw [mCell, if_pos c12]; show _ = (mTh τ) 1 (sAt (nI a) (nI b) (nI c)).toNatClampNeg; rw [hc1], by rw [mCell, if_pos c12]⟩
theorem k_X6_cell {l : Launch} {X : gC} {cc : ByteArray} {own : String} {dd ca sa kc nc pc : Nat} {ls : List (Option Value)} {st : List Value} {σ : Mem} {idx : Nat} {x y z : Int32} (hC : gOk wM l X cc own dd ca sa) (hlk : Cond.methodLink own idx yX6_cell ∈ TB) (hd : decode cc pc = .ok (.invokevirtual idx, 3)) (hdd : 2 + 1 ≤ dd) (hf : kc + 0 ≤ ca ∧ nc + 0 ≤ sa) (hrest : (st.map fun v => v.category).sum ≤ 8)  (hP : MI σ) (kk : G wM X kc nc (pc + 3) ls (.int ((mCell σ x y z).1) :: st) ((mCell σ x y z).2)) : G wM X kc nc pc ls (.int z :: .int y :: .int x :: .ref (gA X 0) :: st) σ := by
  exact g_cVI 3 hC (c_X6_cell l x y z) hlk ⟨tw_4_79, tw_4_80, tw_1_7, tw_4_81⟩ (by decide +kernel) ⟨hdd, by decide⟩ hf rfl rfl rfl (gW_at wM _ _ (by decide)) hrest rfl hd hP (fun rr σ1 hq => by obtain ⟨rfl, rfl⟩ := hq; exact kk)
set_option maxRecDepth 100000 in
set_option maxHeartbeats 4000000 in
/-- X6_flawIn -/
theorem c_X6_flawIn (l : Launch) (f s w : Int32) : gMI wM l yX6_flawIn (.code yX6_flawIn cX6_flawIn 4 (some FieldType.int)) 6 0 0 (fun A => [.ref (A 0), .int f, .int s, .int w]) (fun τ => MI τ) (fun τ rr τ1 => rr = (mFlawIn τ f s w).1 ∧ τ1 = (mFlawIn τ f s w).2) := by
  refine gMI_of (by decide) (fun A => Nat.le_of_ble_eq_true rfl) ?_
  intro X τ hC hP hE
  have hC : gOk wM l X cX6_flawIn "GemCutModel" 6 0 0 := hC
  show G wM X 0 0 0 [some (.ref (gA X 0)), some (.int f), some (.int s), some (.int w)] [] τ
  refine g_ald0 hC dX6_flawIn_0 ?_
  refine g_iconst 0 hC dX6_flawIn_1 (by decide) ?_
  refine mp_Model_thrown hC tw_4_22 dX6_flawIn_2 ?_
  refine g_ild1 hC dX6_flawIn_5 ?_
  refine g_iconst 0 hC dX6_flawIn_6 (by decide) ?_
  refine g_ald0 hC dX6_flawIn_7 ?_
  refine mg_Model_flaws hC tw_4_27 dX6_flawIn_8 ?_
  refine g_iconst 1 hC dX6_flawIn_11 (by decide) ?_
  refine g_isub hC dX6_flawIn_12 ?_
  refine k_X6_isIn hC tw_4_19 dX6_flawIn_13 (by decide) ⟨by omega, by omega⟩ (Nat.le_of_ble_eq_true rfl) ?_
  refine g_if_eq 46 hC dX6_flawIn_16 (by decide) (fun c16 => ?_) (fun c16 => ?_)
  · refine g_ald0 hC dX6_flawIn_46 ?_
    refine g_iconst 1 hC dX6_flawIn_47 (by decide) ?_
    refine k_X6_fail hC tw_4_67 dX6_flawIn_48 (by decide) ⟨by omega, by omega⟩ (Nat.le_of_ble_eq_true rfl) ?_
    (try simp only [ne_eq, b2i_eq0, Bool.not_eq_false, Int32.not_le, Int32.not_lt, Int32.zero_sub] at c16)
    exact hE _ _ _ _ _ _ dX6_flawIn_51 (Nat.le_refl _) (Nat.le_refl _) ⟨by simp [mFlawIn, c16], by simp [mFlawIn, c16]⟩
  · refine g_ald0 hC dX6_flawIn_19 ?_
    refine g_ild2 hC dX6_flawIn_20 ?_
    refine k_X6_isStone hC tw_4_89 dX6_flawIn_21 (by decide) ⟨by omega, by omega⟩ (Nat.le_of_ble_eq_true rfl) ?_
    refine g_if_eq 46 hC dX6_flawIn_24 (by decide) (fun c24 => ?_) (fun c24 => ?_)
    · refine g_ald0 hC dX6_flawIn_46 ?_
      refine g_iconst 1 hC dX6_flawIn_47 (by decide) ?_
      refine k_X6_fail hC tw_4_67 dX6_flawIn_48 (by decide) ⟨by omega, by omega⟩ (Nat.le_of_ble_eq_true rfl) ?_
      (try simp only [ne_eq, b2i_eq0, Bool.not_eq_false, Int32.not_le, Int32.not_lt, Int32.zero_sub] at c16 c24)
      exact hE _ _ _ _ _ _ dX6_flawIn_51 (Nat.le_refl _) (Nat.le_refl _) ⟨by simp [mFlawIn, c16, c24], by simp [mFlawIn, c16, c24]⟩
    · refine g_ild3 hC dX6_flawIn_27 ?_
      refine g_iconst 0 hC dX6_flawIn_28 (by decide) ?_
      refine g_iconst 2 hC dX6_flawIn_29 (by decide) ?_
      refine k_X6_isIn hC tw_4_19 dX6_flawIn_30 (by decide) ⟨by omega, by omega⟩ (Nat.le_of_ble_eq_true rfl) ?_
      refine g_if_eq 46 hC dX6_flawIn_33 (by decide) (fun c33 => ?_) (fun c33 => ?_)
      · refine g_ald0 hC dX6_flawIn_46 ?_
        refine g_iconst 1 hC dX6_flawIn_47 (by decide) ?_
        refine k_X6_fail hC tw_4_67 dX6_flawIn_48 (by decide) ⟨by omega, by omega⟩ (Nat.le_of_ble_eq_true rfl) ?_
        (try simp only [ne_eq, b2i_eq0, Bool.not_eq_false, Int32.not_le, Int32.not_lt, Int32.zero_sub] at c16 c24 c33)
        exact hE _ _ _ _ _ _ dX6_flawIn_51 (Nat.le_refl _) (Nat.le_refl _) ⟨by simp [mFlawIn, c16, c24, c33], by simp [mFlawIn, c16, c24, c33]⟩
      · (try simp only [ne_eq, b2i_eq0, Bool.not_eq_false, Int32.not_le, Int32.not_lt, Int32.zero_sub] at c16 c24 c33)
        obtain ⟨f0, hf1, hf2, rfl, hf4⟩ := sFlaw_at (MI_th hP 0) c16
        refine g_ald0 hC dX6_flawIn_36 ?_
        refine g_ild1 hC dX6_flawIn_37 ?_
        refine g_ild2 hC dX6_flawIn_38 ?_
        refine g_ild3 hC dX6_flawIn_39 ?_
        refine k_X6_flawTold (f := f0) hC tw_4_93 dX6_flawIn_40 (by decide) ⟨by omega, by omega⟩ (Nat.le_of_ble_eq_true rfl) ⟨hf1, MI_th hP 0⟩ ?_
        refine g_goto 51 hC dX6_flawIn_43 (by decide) ?_
        exact hE _ _ _ _ _ _ dX6_flawIn_51 (Nat.le_refl _) (Nat.le_refl _) ⟨by rw [mFlawIn, if_pos ⟨c16, c24, c33⟩]; simp only [tn, hf4], by rw [mFlawIn, if_pos ⟨c16, c24, c33⟩]⟩
theorem k_X6_flawIn {l : Launch} {X : gC} {cc : ByteArray} {own : String} {dd ca sa kc nc pc : Nat} {ls : List (Option Value)} {st : List Value} {σ : Mem} {idx : Nat} {f s w : Int32} (hC : gOk wM l X cc own dd ca sa) (hlk : Cond.methodLink own idx yX6_flawIn ∈ TB) (hd : decode cc pc = .ok (.invokevirtual idx, 3)) (hdd : 6 + 1 ≤ dd) (hf : kc + 0 ≤ ca ∧ nc + 0 ≤ sa) (hrest : (st.map fun v => v.category).sum ≤ 8)  (hP : MI σ) (kk : G wM X kc nc (pc + 3) ls (.int ((mFlawIn σ f s w).1) :: st) ((mFlawIn σ f s w).2)) : G wM X kc nc pc ls (.int w :: .int s :: .int f :: .ref (gA X 0) :: st) σ := by
  exact g_cVI 3 hC (c_X6_flawIn l f s w) hlk ⟨tw_4_86, tw_4_87, tw_1_7, tw_4_88⟩ (by decide +kernel) ⟨hdd, by decide⟩ hf rfl rfl rfl (gW_at wM _ _ (by decide)) hrest rfl hd hP (fun rr σ1 hq => by obtain ⟨rfl, rfl⟩ := hq; exact kk)
set_option maxRecDepth 100000 in
set_option maxHeartbeats 4000000 in
/-- X6_stone -/
theorem c_X6_stone (l : Launch) (s w : Int32) : gMI wM l yX6_stone (.code yX6_stone cX6_stone 3 (some FieldType.int)) 8 0 0 (fun A => [.ref (A 0), .int s, .int w]) (fun τ => MI τ) (fun τ rr τ1 => rr = (mStone τ s w).1 ∧ τ1 = (mStone τ s w).2) := by
  refine gMI_of (by decide) (fun A => Nat.le_of_ble_eq_true rfl) ?_
  intro X τ hC hP hE
  have hC : gOk wM l X cX6_stone "GemCutModel" 8 0 0 := hC
  show G wM X 0 0 0 [some (.ref (gA X 0)), some (.int s), some (.int w)] [] τ
  refine g_ald0 hC dX6_stone_0 ?_
  refine g_iconst 0 hC dX6_stone_1 (by decide) ?_
  refine mp_Model_thrown hC tw_4_22 dX6_stone_2 ?_
  refine g_ald0 hC dX6_stone_5 ?_
  refine g_ild1 hC dX6_stone_6 ?_
  refine k_X6_isStone hC tw_4_89 dX6_stone_7 (by decide) ⟨by omega, by omega⟩ (Nat.le_of_ble_eq_true rfl) ?_
  refine g_if_eq 32 hC dX6_stone_10 (by decide) (fun c10 => ?_) (fun c10 => ?_)
  · refine g_ald0 hC dX6_stone_32 ?_
    refine g_iconst 1 hC dX6_stone_33 (by decide) ?_
    refine k_X6_fail hC tw_4_67 dX6_stone_34 (by decide) ⟨by omega, by omega⟩ (Nat.le_of_ble_eq_true rfl) ?_
    (try simp only [ne_eq, b2i_eq0, Bool.not_eq_false, Int32.not_le, Int32.not_lt, Int32.zero_sub] at c10)
    exact hE _ _ _ _ _ _ dX6_stone_37 (Nat.le_refl _) (Nat.le_refl _) ⟨by simp [mStone, c10], by simp [mStone, c10]⟩
  · refine g_ild2 hC dX6_stone_13 ?_
    refine g_iconst 0 hC dX6_stone_14 (by decide) ?_
    refine g_bipush 8 hC dX6_stone_15 (by decide) ?_
    refine k_X6_isIn hC tw_4_19 dX6_stone_17 (by decide) ⟨by omega, by omega⟩ (Nat.le_of_ble_eq_true rfl) ?_
    refine g_if_eq 32 hC dX6_stone_20 (by decide) (fun c20 => ?_) (fun c20 => ?_)
    · refine g_ald0 hC dX6_stone_32 ?_
      refine g_iconst 1 hC dX6_stone_33 (by decide) ?_
      refine k_X6_fail hC tw_4_67 dX6_stone_34 (by decide) ⟨by omega, by omega⟩ (Nat.le_of_ble_eq_true rfl) ?_
      (try simp only [ne_eq, b2i_eq0, Bool.not_eq_false, Int32.not_le, Int32.not_lt, Int32.zero_sub] at c10 c20)
      exact hE _ _ _ _ _ _ dX6_stone_37 (Nat.le_refl _) (Nat.le_refl _) ⟨by simp [mStone, c10, c20], by simp [mStone, c10, c20]⟩
    · (try simp only [ne_eq, b2i_eq0, Bool.not_eq_false, Int32.not_le, Int32.not_lt, Int32.zero_sub] at c10 c20)
      obtain ⟨s0, hs1, hs2, rfl, hs4⟩ := sStone_at (MI_th hP 0) c10
      obtain ⟨w0, hw1, rfl, hw4⟩ := sIn_at (n := 8) (by decide) (by decide) c20
      refine g_ald0 hC dX6_stone_23 ?_
      refine g_ild1 hC dX6_stone_24 ?_
      refine g_ild2 hC dX6_stone_25 ?_
      refine k_X6_stoneTold (s := s0) (w := w0) hC tw_4_177 dX6_stone_26 (by decide) ⟨by omega, by omega⟩ (Nat.le_of_ble_eq_true rfl) ⟨hs1, MI_th hP 0, by omega⟩ ?_
      refine g_goto 37 hC dX6_stone_29 (by decide) ?_
      exact hE _ _ _ _ _ _ dX6_stone_37 (Nat.le_refl _) (Nat.le_refl _) ⟨by rw [mStone, if_pos ⟨c10, c20⟩]; simp only [tn, hs4, hw4], by rw [mStone, if_pos ⟨c10, c20⟩]⟩
theorem k_X6_stone {l : Launch} {X : gC} {cc : ByteArray} {own : String} {dd ca sa kc nc pc : Nat} {ls : List (Option Value)} {st : List Value} {σ : Mem} {idx : Nat} {s w : Int32} (hC : gOk wM l X cc own dd ca sa) (hlk : Cond.methodLink own idx yX6_stone ∈ TB) (hd : decode cc pc = .ok (.invokevirtual idx, 3)) (hdd : 8 + 1 ≤ dd) (hf : kc + 0 ≤ ca ∧ nc + 0 ≤ sa) (hrest : (st.map fun v => v.category).sum ≤ 8)  (hP : MI σ) (kk : G wM X kc nc (pc + 3) ls (.int ((mStone σ s w).1) :: st) ((mStone σ s w).2)) : G wM X kc nc pc ls (.int w :: .int s :: .ref (gA X 0) :: st) σ := by
  exact g_cVI 2 hC (c_X6_stone l s w) hlk ⟨tw_4_174, tw_4_175, tw_1_7, tw_4_176⟩ (by decide +kernel) ⟨hdd, by decide⟩ hf rfl rfl rfl (gW_at wM _ _ (by decide)) hrest rfl hd hP (fun rr σ1 hq => by obtain ⟨rfl, rfl⟩ := hq; exact kk)
set_option maxRecDepth 100000 in
set_option maxHeartbeats 4000000 in
/-- X6_plane -/
theorem c_X6_plane (l : Launch) (s k w : Int32) : gMI wM l yX6_plane (.code yX6_plane cX6_plane 4 (some FieldType.int)) 3 0 0 (fun A => [.ref (A 0), .int s, .int k, .int w]) (fun τ => MI τ) (fun τ rr τ1 => rr = (mPlane τ s k w).1 ∧ τ1 = (mPlane τ s k w).2) := by
  refine gMI_of (by decide) (fun A => Nat.le_of_ble_eq_true rfl) ?_
  intro X τ hC hP hE
  have hC : gOk wM l X cX6_plane "GemCutModel" 3 0 0 := hC
  show G wM X 0 0 0 [some (.ref (gA X 0)), some (.int s), some (.int k), some (.int w)] [] τ
  refine g_ald0 hC dX6_plane_0 ?_
  refine g_iconst 0 hC dX6_plane_1 (by decide) ?_
  refine mp_Model_thrown hC tw_4_22 dX6_plane_2 ?_
  refine g_ald0 hC dX6_plane_5 ?_
  refine g_ild1 hC dX6_plane_6 ?_
  refine g_ild2 hC dX6_plane_7 ?_
  refine k_X6_isPlane hC tw_4_156 dX6_plane_8 (by decide) ⟨by omega, by omega⟩ (Nat.le_of_ble_eq_true rfl) (MI_th hP 0) ?_
  refine g_if_eq 33 hC dX6_plane_11 (by decide) (fun c11 => ?_) (fun c11 => ?_)
  · refine g_ald0 hC dX6_plane_33 ?_
    refine g_iconst 1 hC dX6_plane_34 (by decide) ?_
    refine k_X6_fail hC tw_4_67 dX6_plane_35 (by decide) ⟨by omega, by omega⟩ (Nat.le_of_ble_eq_true rfl) ?_
    (try simp only [ne_eq, b2i_eq0, Bool.not_eq_false, Int32.not_le, Int32.not_lt, Int32.zero_sub] at c11)
    exact hE _ _ _ _ _ _ dX6_plane_38 (Nat.le_refl _) (Nat.le_refl _) ⟨by simp [mPlane, c11], by simp [mPlane, c11]⟩
  · refine g_ild3 hC dX6_plane_14 ?_
    refine g_iconst 0 hC dX6_plane_15 (by decide) ?_
    refine g_iconst 5 hC dX6_plane_16 (by decide) ?_
    refine k_X6_isIn hC tw_4_19 dX6_plane_17 (by decide) ⟨by omega, by omega⟩ (Nat.le_of_ble_eq_true rfl) ?_
    refine g_if_eq 33 hC dX6_plane_20 (by decide) (fun c20 => ?_) (fun c20 => ?_)
    · refine g_ald0 hC dX6_plane_33 ?_
      refine g_iconst 1 hC dX6_plane_34 (by decide) ?_
      refine k_X6_fail hC tw_4_67 dX6_plane_35 (by decide) ⟨by omega, by omega⟩ (Nat.le_of_ble_eq_true rfl) ?_
      (try simp only [ne_eq, b2i_eq0, Bool.not_eq_false, Int32.not_le, Int32.not_lt, Int32.zero_sub] at c11 c20)
      exact hE _ _ _ _ _ _ dX6_plane_38 (Nat.le_refl _) (Nat.le_refl _) ⟨by simp [mPlane, c11, c20], by simp [mPlane, c11, c20]⟩
    · (try simp only [ne_eq, b2i_eq0, Bool.not_eq_false, Int32.not_le, Int32.not_lt, Int32.zero_sub] at c11 c20)
      obtain ⟨s0, k0, hs1, hs2, hk1, hk2, rfl, rfl, hs4, hk4⟩ := sPlane_nI (MI_th hP 0) c11
      obtain ⟨w0, hw1, rfl, hw4⟩ := sIn_at (n := 5) (by decide) (by decide) c20
      refine g_ald0 hC dX6_plane_23 ?_
      refine g_ild1 hC dX6_plane_24 ?_
      refine g_ild2 hC dX6_plane_25 ?_
      refine g_ild3 hC dX6_plane_26 ?_
      refine k_X6_planeTold (s := s0) (k := k0) (w := w0) hC tw_4_205 dX6_plane_27 (by decide) ⟨by omega, by omega⟩ (Nat.le_of_ble_eq_true rfl) ⟨by omega, by omega, by omega⟩ ?_
      refine g_goto 38 hC dX6_plane_30 (by decide) ?_
      exact hE _ _ _ _ _ _ dX6_plane_38 (Nat.le_refl _) (Nat.le_refl _) ⟨by rw [mPlane, if_pos ⟨c11, c20⟩]; simp only [tn, hs4, hk4, hw4], by rw [mPlane, if_pos ⟨c11, c20⟩]⟩
theorem k_X6_plane {l : Launch} {X : gC} {cc : ByteArray} {own : String} {dd ca sa kc nc pc : Nat} {ls : List (Option Value)} {st : List Value} {σ : Mem} {idx : Nat} {s k w : Int32} (hC : gOk wM l X cc own dd ca sa) (hlk : Cond.methodLink own idx yX6_plane ∈ TB) (hd : decode cc pc = .ok (.invokevirtual idx, 3)) (hdd : 3 + 1 ≤ dd) (hf : kc + 0 ≤ ca ∧ nc + 0 ≤ sa) (hrest : (st.map fun v => v.category).sum ≤ 8)  (hP : MI σ) (kk : G wM X kc nc (pc + 3) ls (.int ((mPlane σ s k w).1) :: st) ((mPlane σ s k w).2)) : G wM X kc nc pc ls (.int w :: .int k :: .int s :: .ref (gA X 0) :: st) σ := by
  exact g_cVI 3 hC (c_X6_plane l s k w) hlk ⟨tw_4_202, tw_4_203, tw_1_7, tw_4_204⟩ (by decide +kernel) ⟨hdd, by decide⟩ hf rfl rfl rfl (gW_at wM _ _ (by decide)) hrest rfl hd hP (fun rr σ1 hq => by obtain ⟨rfl, rfl⟩ := hq; exact kk)
set_option maxRecDepth 100000 in
set_option maxHeartbeats 4000000 in
/-- X6_count -/
theorem c_X6_count (l : Launch) (w : Int32) : gMI wM l yX6_count (.code yX6_count cX6_count 2 (some FieldType.int)) 8 0 0 (fun A => [.ref (A 0), .int w]) (fun τ => MI τ) (fun τ rr τ1 => rr = (mCount τ w).1 ∧ τ1 = (mCount τ w).2) := by
  refine gMI_of (by decide) (fun A => Nat.le_of_ble_eq_true rfl) ?_
  intro X τ hC hP hE
  have hC : gOk wM l X cX6_count "GemCutModel" 8 0 0 := hC
  show G wM X 0 0 0 [some (.ref (gA X 0)), some (.int w)] [] τ
  refine g_ald0 hC dX6_count_0 ?_
  refine g_iconst 0 hC dX6_count_1 (by decide) ?_
  refine mp_Model_thrown hC tw_4_22 dX6_count_2 ?_
  refine g_ild1 hC dX6_count_5 ?_
  refine g_iconst 0 hC dX6_count_6 (by decide) ?_
  refine g_bipush 7 hC dX6_count_7 (by decide) ?_
  refine k_X6_isIn hC tw_4_19 dX6_count_9 (by decide) ⟨by omega, by omega⟩ (Nat.le_of_ble_eq_true rfl) ?_
  refine g_if_eq 23 hC dX6_count_12 (by decide) (fun c12 => ?_) (fun c12 => ?_)
  · refine g_ald0 hC dX6_count_23 ?_
    refine g_iconst 1 hC dX6_count_24 (by decide) ?_
    refine k_X6_fail hC tw_4_67 dX6_count_25 (by decide) ⟨by omega, by omega⟩ (Nat.le_of_ble_eq_true rfl) ?_
    (try simp only [ne_eq, b2i_eq0, Bool.not_eq_false, Int32.not_le, Int32.not_lt, Int32.zero_sub] at c12)
    exact hE _ _ _ _ _ _ dX6_count_28 (Nat.le_refl _) (Nat.le_refl _) ⟨by simp [mCount, c12], by simp [mCount, c12]⟩
  · (try simp only [ne_eq, b2i_eq0, Bool.not_eq_false, Int32.not_le, Int32.not_lt, Int32.zero_sub] at c12)
    obtain ⟨w0, hw1, rfl, hw4⟩ := sIn_at (n := 7) (by decide) (by decide) c12
    refine g_ald0 hC dX6_count_15 ?_
    refine g_ild1 hC dX6_count_16 ?_
    refine k_X6_counted (w := w0) hC tw_4_221 dX6_count_17 (by decide) ⟨by omega, by omega⟩ (Nat.le_of_ble_eq_true rfl) ⟨MI_th hP 0, by omega⟩ ?_
    refine g_goto 28 hC dX6_count_20 (by decide) ?_
    exact hE _ _ _ _ _ _ dX6_count_28 (Nat.le_refl _) (Nat.le_refl _) ⟨by rw [mCount, if_pos c12]; simp only [tn, hw4], by rw [mCount, if_pos c12]⟩
theorem k_X6_count {l : Launch} {X : gC} {cc : ByteArray} {own : String} {dd ca sa kc nc pc : Nat} {ls : List (Option Value)} {st : List Value} {σ : Mem} {idx : Nat} {w : Int32} (hC : gOk wM l X cc own dd ca sa) (hlk : Cond.methodLink own idx yX6_count ∈ TB) (hd : decode cc pc = .ok (.invokevirtual idx, 3)) (hdd : 8 + 1 ≤ dd) (hf : kc + 0 ≤ ca ∧ nc + 0 ≤ sa) (hrest : (st.map fun v => v.category).sum ≤ 8)  (hP : MI σ) (kk : G wM X kc nc (pc + 3) ls (.int ((mCount σ w).1) :: st) ((mCount σ w).2)) : G wM X kc nc pc ls (.int w :: .ref (gA X 0) :: st) σ := by
  exact g_cVI 1 hC (c_X6_count l w) hlk ⟨tw_4_218, tw_4_219, tw_1_7, tw_4_220⟩ (by decide +kernel) ⟨hdd, by decide⟩ hf rfl rfl rfl (gW_at wM _ _ (by decide)) hrest rfl hd hP (fun rr σ1 hq => by obtain ⟨rfl, rfl⟩ := hq; exact kk)
set_option maxRecDepth 100000 in
set_option maxHeartbeats 4000000 in
/-- X6_angle -/
theorem c_X6_angle (l : Launch) (s a b : Int32) : gMI wM l yX6_angle (.code yX6_angle cX6_angle 6 (some FieldType.int)) 3 0 0 (fun A => [.ref (A 0), .int s, .int a, .int b]) (fun τ => MI τ ∧ MZ τ) (fun τ rr τ1 => rr = (mAngle τ s a b).1 ∧ τ1 = (mAngle τ s a b).2) := by
  refine gMI_of (by decide) (fun A => Nat.le_of_ble_eq_true rfl) ?_
  intro X τ hC hP hE
  have hC : gOk wM l X cX6_angle "GemCutModel" 3 0 0 := hC
  show G wM X 0 0 0 [some (.ref (gA X 0)), some (.int s), some (.int a), some (.int b), none, none] [] τ
  refine g_ald0 hC dX6_angle_0 ?_
  refine g_iconst 0 hC dX6_angle_1 (by decide) ?_
  refine mp_Model_thrown hC tw_4_22 dX6_angle_2 ?_
  refine g_ald0 hC dX6_angle_5 ?_
  refine g_ild1 hC dX6_angle_6 ?_
  refine g_ild2 hC dX6_angle_7 ?_
  refine k_X6_isPlane hC tw_4_156 dX6_angle_8 (by decide) ⟨by omega, by omega⟩ (Nat.le_of_ble_eq_true rfl) (MI_th hP.1 0) ?_
  refine g_if_eq 23 hC dX6_angle_11 (by decide) (fun c11 => ?_) (fun c11 => ?_)
  · refine g_ald0 hC dX6_angle_23 ?_
    refine g_iconst 1 hC dX6_angle_24 (by decide) ?_
    refine k_X6_fail hC tw_4_67 dX6_angle_25 (by decide) ⟨by omega, by omega⟩ (Nat.le_of_ble_eq_true rfl) ?_
    (try simp only [ne_eq, b2i_eq0, Bool.not_eq_false, Int32.not_le, Int32.not_lt, Int32.zero_sub] at c11)
    exact hE _ _ _ _ _ _ dX6_angle_28 (Nat.le_refl _) (Nat.le_refl _) ⟨by simp [mAngle, c11], by simp [mAngle, c11]⟩
  · refine g_ald0 hC dX6_angle_14 ?_
    refine g_ild1 hC dX6_angle_15 ?_
    refine g_ild3 hC dX6_angle_16 ?_
    refine k_X6_isPlane hC tw_4_156 dX6_angle_17 (by decide) ⟨by omega, by omega⟩ (Nat.le_of_ble_eq_true rfl) (MI_th hP.1 0) ?_
    refine g_if_ne 29 hC dX6_angle_20 (by decide) (fun c20 => ?_) (fun c20 => ?_)
    · (try simp only [ne_eq, b2i_eq0, Bool.not_eq_false, Int32.not_le, Int32.not_lt, Int32.zero_sub] at c11 c20)
      obtain ⟨s0, a0, hs1, hs2, hk1, hk2, rfl, rfl, hs4, hk4⟩ := sPlane_nI (MI_th hP.1 0) c11
      obtain ⟨s2, b0, hr1, hr2, hl1, hl2, hre, rfl, hr4, hl4⟩ := sPlane_nI (MI_th hP.1 0) c20
      obtain rfl : s0 = s2 := nI_inj (by omega) (by omega) hre
      refine g_ald0 hC dX6_angle_29 ?_
      refine g_ild1 hC dX6_angle_30 ?_
      refine g_ild2 hC dX6_angle_31 ?_
      refine g_ild3 hC dX6_angle_32 ?_
      refine k_X6_product (s := s0) (a := a0) (b := b0) hC tw_4_213 dX6_angle_33 (by decide) ⟨by omega, by omega⟩ (Nat.le_of_ble_eq_true rfl) ⟨by omega, by omega, by omega⟩ ?_
      refine g_ist4 hC dX6_angle_36 rfl ?_
      refine g_bipush 100 hC dX6_angle_38 (by decide) ?_
      refine g_ild4 hC dX6_angle_40 ?_
      refine g_imul hC dX6_angle_42 ?_
      refine g_ild4 hC dX6_angle_43 ?_
      refine g_imul hC dX6_angle_45 ?_
      refine g_ald0 hC dX6_angle_46 ?_
      refine g_ild1 hC dX6_angle_47 ?_
      refine g_ild2 hC dX6_angle_48 ?_
      refine g_ild2 hC dX6_angle_49 ?_
      refine k_X6_product (s := s0) (a := a0) (b := a0) hC tw_4_213 dX6_angle_50 (by decide) ⟨by omega, by omega⟩ (Nat.le_of_ble_eq_true rfl) ⟨by omega, by omega, by omega⟩ ?_
      refine g_ald0 hC dX6_angle_53 ?_
      refine g_ild1 hC dX6_angle_54 ?_
      refine g_ild3 hC dX6_angle_55 ?_
      refine g_ild3 hC dX6_angle_56 ?_
      refine k_X6_product (s := s0) (a := b0) (b := b0) hC tw_4_213 dX6_angle_57 (by decide) ⟨by omega, by omega⟩ (Nat.le_of_ble_eq_true rfl) ⟨by omega, by omega, by omega⟩ ?_
      refine g_imul hC dX6_angle_60 ?_
      refine g_idiv hC dX6_angle_61 (MZ_th hP.2 s0 a0 b0 (by omega) (by omega) (by omega)) ?_
      refine g_ist5 hC dX6_angle_62 rfl ?_
      refine g_ild4 hC dX6_angle_64 ?_
      refine g_if_ge 75 hC dX6_angle_66 (by decide) (fun c66 => ?_) (fun c66 => ?_)
      · refine g_ild5 hC dX6_angle_75 ?_
        exact hE _ _ _ _ _ _ dX6_angle_77 (Nat.le_refl _) (Nat.le_refl _) ⟨by rw [mAngle, if_pos ⟨c11, c20⟩]; simp only [tn, hs4, hk4, hl4, sAng]; first | rw [if_pos (Int32.not_le.mp c66)] | rw [if_neg (Int32.not_lt.mpr c66)], by rw [mAngle, if_pos ⟨c11, c20⟩]⟩
      · refine g_ild5 hC dX6_angle_69 ?_
        refine g_ineg hC dX6_angle_71 ?_
        refine g_goto 77 hC dX6_angle_72 (by decide) ?_
        exact hE _ _ _ _ _ _ dX6_angle_77 (Nat.le_refl _) (Nat.le_refl _) ⟨by rw [mAngle, if_pos ⟨c11, c20⟩]; simp only [tn, hs4, hk4, hl4, sAng]; first | rw [if_pos (Int32.not_le.mp c66)] | rw [if_neg (Int32.not_lt.mpr c66)], by rw [mAngle, if_pos ⟨c11, c20⟩]⟩
    · refine g_ald0 hC dX6_angle_23 ?_
      refine g_iconst 1 hC dX6_angle_24 (by decide) ?_
      refine k_X6_fail hC tw_4_67 dX6_angle_25 (by decide) ⟨by omega, by omega⟩ (Nat.le_of_ble_eq_true rfl) ?_
      (try simp only [ne_eq, b2i_eq0, Bool.not_eq_false, Int32.not_le, Int32.not_lt, Int32.zero_sub] at c11 c20)
      exact hE _ _ _ _ _ _ dX6_angle_28 (Nat.le_refl _) (Nat.le_refl _) ⟨by simp [mAngle, c11, c20], by simp [mAngle, c11, c20]⟩
theorem k_X6_angle {l : Launch} {X : gC} {cc : ByteArray} {own : String} {dd ca sa kc nc pc : Nat} {ls : List (Option Value)} {st : List Value} {σ : Mem} {idx : Nat} {s a b : Int32} (hC : gOk wM l X cc own dd ca sa) (hlk : Cond.methodLink own idx yX6_angle ∈ TB) (hd : decode cc pc = .ok (.invokevirtual idx, 3)) (hdd : 3 + 1 ≤ dd) (hf : kc + 0 ≤ ca ∧ nc + 0 ≤ sa) (hrest : (st.map fun v => v.category).sum ≤ 8)  (hP : MI σ ∧ MZ σ) (kk : G wM X kc nc (pc + 3) ls (.int ((mAngle σ s a b).1) :: st) ((mAngle σ s a b).2)) : G wM X kc nc pc ls (.int b :: .int a :: .int s :: .ref (gA X 0) :: st) σ := by
  exact g_cVI 3 hC (c_X6_angle l s a b) hlk ⟨tw_4_210, tw_4_211, tw_1_7, tw_4_212⟩ (by decide +kernel) ⟨hdd, by decide⟩ hf rfl rfl rfl (gW_at wM _ _ (by decide)) hrest rfl hd hP (fun rr σ1 hq => by obtain ⟨rfl, rfl⟩ := hq; exact kk)
set_option maxRecDepth 100000 in
set_option maxHeartbeats 4000000 in
/-- X6_dress -/
theorem c_X6_dress (l : Launch) : gMI wM l yX6_dress (.code yX6_dress cX6_dress 2 (some FieldType.int)) 0 0 0 (fun A => [.ref (A 0)]) (fun τ => True) (fun τ rr τ1 => rr = (mDress τ).1 ∧ τ1 = (mDress τ).2) := by
  refine gMI_of (by decide) (fun A => Nat.le_of_ble_eq_true rfl) ?_
  intro X τ hC hP hE
  have hC : gOk wM l X cX6_dress "GemCutModel" 0 0 0 := hC
  show G wM X 0 0 0 [some (.ref (gA X 0)), none] [] τ
  refine g_ald0 hC dX6_dress_0 ?_
  refine g_iconst 0 hC dX6_dress_1 (by decide) ?_
  refine mp_Model_thrown hC tw_4_22 dX6_dress_2 ?_
  refine g_ald0 hC dX6_dress_5 ?_
  refine mg_Model_wheel hC tw_4_32 dX6_dress_6 ?_
  refine g_ist1 hC dX6_dress_9 rfl ?_
  refine g_ald0 hC dX6_dress_10 ?_
  refine g_sipush 400 hC dX6_dress_11 (by decide) ?_
  refine mp_Model_wheel hC tw_4_32 dX6_dress_14 ?_
  refine g_ild1 hC dX6_dress_17 ?_
  exact hE _ _ _ _ _ _ dX6_dress_18 (Nat.le_refl _) (Nat.le_refl _) ⟨rfl, rfl⟩
theorem k_X6_dress {l : Launch} {X : gC} {cc : ByteArray} {own : String} {dd ca sa kc nc pc : Nat} {ls : List (Option Value)} {st : List Value} {σ : Mem} {idx : Nat}  (hC : gOk wM l X cc own dd ca sa) (hlk : Cond.methodLink own idx yX6_dress ∈ TB) (hd : decode cc pc = .ok (.invokevirtual idx, 3)) (hdd : 0 + 1 ≤ dd) (hf : kc + 0 ≤ ca ∧ nc + 0 ≤ sa) (hrest : (st.map fun v => v.category).sum ≤ 8)   (kk : G wM X kc nc (pc + 3) ls (.int ((mDress σ).1) :: st) ((mDress σ).2)) : G wM X kc nc pc ls (.ref (gA X 0) :: st) σ := by
  exact g_cVI 0 hC (c_X6_dress l) hlk ⟨tw_4_170, tw_4_171, tw_1_7, tw_4_172⟩ (by decide +kernel) ⟨hdd, by decide⟩ hf rfl rfl rfl (gW_at wM _ _ (by decide)) hrest rfl hd trivial (fun rr σ1 hq => by obtain ⟨rfl, rfl⟩ := hq; exact kk)
set_option maxRecDepth 100000 in
set_option maxHeartbeats 4000000 in
/-- X6_polish -/
theorem c_X6_polish (l : Launch) (s k : Int32) : gMI wM l yX6_polish (.code yX6_polish cX6_polish 4 (some FieldType.int)) 3 0 0 (fun A => [.ref (A 0), .int s, .int k]) (fun τ => MI τ) (fun τ rr τ1 => rr = (mPolish τ s k).1 ∧ τ1 = (mPolish τ s k).2) := by
  refine gMI_of (by decide) (fun A => Nat.le_of_ble_eq_true rfl) ?_
  intro X τ hC hP hE
  have hC : gOk wM l X cX6_polish "GemCutModel" 3 0 0 := hC
  show G wM X 0 0 0 [some (.ref (gA X 0)), some (.int s), some (.int k), none] [] τ
  refine g_ald0 hC dX6_polish_0 ?_
  refine g_iconst 0 hC dX6_polish_1 (by decide) ?_
  refine mp_Model_thrown hC tw_4_22 dX6_polish_2 ?_
  refine g_ald0 hC dX6_polish_5 ?_
  refine g_ild1 hC dX6_polish_6 ?_
  refine g_ild2 hC dX6_polish_7 ?_
  refine k_X6_isPlane hC tw_4_156 dX6_polish_8 (by decide) ⟨by omega, by omega⟩ (Nat.le_of_ble_eq_true rfl) (MI_th hP 0) ?_
  refine g_if_ne 20 hC dX6_polish_11 (by decide) (fun c11 => ?_) (fun c11 => ?_)
  · (try simp only [ne_eq, b2i_eq0, Bool.not_eq_false, Int32.not_le, Int32.not_lt, Int32.zero_sub] at c11)
    obtain ⟨s0, k0, hs1, hs2, hk1, hk2, rfl, rfl, hs4, hk4⟩ := sPlane_nI (MI_th hP 0) c11
    refine g_ald0 hC dX6_polish_20 ?_
    refine g_ild1 hC dX6_polish_21 ?_
    refine g_ild2 hC dX6_polish_22 ?_
    refine k_X6_touch (s := s0) (k := k0) hC tw_4_160 dX6_polish_23 (by decide) ⟨by omega, by omega⟩ (Nat.le_of_ble_eq_true rfl) ⟨by omega, by omega⟩ ?_
    refine g_ist3 hC dX6_polish_26 rfl ?_
    refine g_ild3 hC dX6_polish_27 ?_
    refine g_if_eq 52 hC dX6_polish_28 (by decide) (fun c28 => ?_) (fun c28 => ?_)
    · refine g_ald0 hC dX6_polish_52 ?_
      refine g_iconst 2 hC dX6_polish_53 (by decide) ?_
      refine k_X6_fail hC tw_4_67 dX6_polish_54 (by decide) ⟨by omega, by omega⟩ (Nat.le_of_ble_eq_true rfl) ?_
      (try simp only [ne_eq, b2i_eq0, Bool.not_eq_false, Int32.not_le, Int32.not_lt, Int32.zero_sub] at c28)
      exact hE _ _ _ _ _ _ dX6_polish_57 (Nat.le_refl _) (Nat.le_refl _) ⟨by simp [mPolish, tn, hs4, hk4, c11, c28], by simp [mPolish, tn, hs4, hk4, c11, c28]⟩
    · refine g_ald0 hC dX6_polish_31 ?_
      refine g_ild1 hC dX6_polish_32 ?_
      refine g_ild2 hC dX6_polish_33 ?_
      refine g_iconst 4 hC dX6_polish_34 (by decide) ?_
      refine k_X6_pl (s := s0) (k := k0) (w := 4) hC tw_4_164 dX6_polish_35 (by decide) ⟨by omega, by omega⟩ (Nat.le_of_ble_eq_true rfl) ⟨by omega, by omega, by omega⟩ ?_
      refine g_iconst 1 hC dX6_polish_38 (by decide) ?_
      refine g_icmp_eq 52 hC dX6_polish_39 (by decide) (fun c39 => ?_) (fun c39 => ?_)
      · refine g_ald0 hC dX6_polish_52 ?_
        refine g_iconst 2 hC dX6_polish_53 (by decide) ?_
        refine k_X6_fail hC tw_4_67 dX6_polish_54 (by decide) ⟨by omega, by omega⟩ (Nat.le_of_ble_eq_true rfl) ?_
        (try simp only [ne_eq, b2i_eq0, Bool.not_eq_false, Int32.not_le, Int32.not_lt, Int32.zero_sub] at c28 c39)
        exact hE _ _ _ _ _ _ dX6_polish_57 (Nat.le_refl _) (Nat.le_refl _) ⟨by simp [mPolish, tn, hs4, hk4, c11, c28, c39], by simp [mPolish, tn, hs4, hk4, c11, c28, c39]⟩
      · refine g_ild3 hC dX6_polish_42 ?_
        refine g_iconst 5 hC dX6_polish_43 (by decide) ?_
        refine g_iadd hC dX6_polish_44 ?_
        refine g_ald0 hC dX6_polish_45 ?_
        refine mg_Model_wheel hC tw_4_32 dX6_polish_46 ?_
        refine g_icmp_le 58 hC dX6_polish_49 (by decide) (fun c49 => ?_) (fun c49 => ?_)
        · refine g_ald0 hC dX6_polish_58 ?_
          refine mg_Model_planeTable hC tw_4_30 dX6_polish_59 ?_
          refine g_iconst 5 hC dX6_polish_62 (by decide) ?_
          refine g_bipush 17 hC dX6_polish_63 (by decide) ?_
          refine g_ild1 hC dX6_polish_65 ?_
          refine g_imul hC dX6_polish_66 ?_
          refine g_ild2 hC dX6_polish_67 ?_
          refine g_iadd hC dX6_polish_68 ?_
          refine g_imul hC dX6_polish_69 ?_
          refine g_iconst 4 hC dX6_polish_70 (by decide) ?_
          refine g_iadd hC dX6_polish_71 ?_
          refine g_iconst 1 hC dX6_polish_72 (by decide) ?_
          refine ms_planeTable (5 * (17 * s0 + k0) + 4) hC (by rw [show (17 : Int32) = nI 17 by decide, show (5 : Int32) = nI 5 by decide, show (4 : Int32) = nI 4 by decide, nI_mul', nI_add, nI_mul', nI_add]) (by omega) dX6_polish_73 ?_
          refine g_ald0 hC dX6_polish_74 ?_
          refine g_ild3 hC dX6_polish_75 ?_
          refine g_iconst 5 hC dX6_polish_76 (by decide) ?_
          refine g_iadd hC dX6_polish_77 ?_
          refine k_X6_spend hC tw_4_148 dX6_polish_78 (by decide) ⟨by omega, by omega⟩ (Nat.le_of_ble_eq_true rfl) ?_
          refine g_ild3 hC dX6_polish_81 ?_
          refine g_iconst 5 hC dX6_polish_82 (by decide) ?_
          refine g_iadd hC dX6_polish_83 ?_
          skip
          have hz : ¬ (nI (sTouch (mTh τ) s0 k0) = 0 ∨ sPl (mTh τ) s0 k0 4 = 1 ∨ (mTh τ) 0 10 < nI (sTouch (mTh τ) s0 k0) + 5) := by
            rintro (h | h | h)
            · exact c28 h
            · exact c39 h
            · exact (Int32.not_lt.mpr c49) h
          exact hE _ _ _ _ _ _ dX6_polish_84 (Nat.le_refl _) (Nat.le_refl _) ⟨by simp only [mPolish, if_pos c11, tn, hs4, hk4, if_neg hz], by simp only [mPolish, if_pos c11, tn, hs4, hk4, if_neg hz]⟩
        · refine g_ald0 hC dX6_polish_52 ?_
          refine g_iconst 2 hC dX6_polish_53 (by decide) ?_
          refine k_X6_fail hC tw_4_67 dX6_polish_54 (by decide) ⟨by omega, by omega⟩ (Nat.le_of_ble_eq_true rfl) ?_
          (try simp only [ne_eq, b2i_eq0, Bool.not_eq_false, Int32.not_le, Int32.not_lt, Int32.zero_sub] at c28 c39 c49)
          exact hE _ _ _ _ _ _ dX6_polish_57 (Nat.le_refl _) (Nat.le_refl _) ⟨by simp [mPolish, tn, hs4, hk4, c11, c28, c39, c49], by simp [mPolish, tn, hs4, hk4, c11, c28, c39, c49]⟩
  · refine g_ald0 hC dX6_polish_14 ?_
    refine g_iconst 1 hC dX6_polish_15 (by decide) ?_
    refine k_X6_fail hC tw_4_67 dX6_polish_16 (by decide) ⟨by omega, by omega⟩ (Nat.le_of_ble_eq_true rfl) ?_
    (try simp only [ne_eq, b2i_eq0, Bool.not_eq_false, Int32.not_le, Int32.not_lt, Int32.zero_sub] at c11)
    exact hE _ _ _ _ _ _ dX6_polish_19 (Nat.le_refl _) (Nat.le_refl _) ⟨by simp [mPolish, c11], by simp [mPolish, c11]⟩
theorem k_X6_polish {l : Launch} {X : gC} {cc : ByteArray} {own : String} {dd ca sa kc nc pc : Nat} {ls : List (Option Value)} {st : List Value} {σ : Mem} {idx : Nat} {s k : Int32} (hC : gOk wM l X cc own dd ca sa) (hlk : Cond.methodLink own idx yX6_polish ∈ TB) (hd : decode cc pc = .ok (.invokevirtual idx, 3)) (hdd : 3 + 1 ≤ dd) (hf : kc + 0 ≤ ca ∧ nc + 0 ≤ sa) (hrest : (st.map fun v => v.category).sum ≤ 8)  (hP : MI σ) (kk : G wM X kc nc (pc + 3) ls (.int ((mPolish σ s k).1) :: st) ((mPolish σ s k).2)) : G wM X kc nc pc ls (.int k :: .int s :: .ref (gA X 0) :: st) σ := by
  exact g_cVI 2 hC (c_X6_polish l s k) hlk ⟨tw_4_153, tw_4_154, tw_1_7, tw_4_155⟩ (by decide +kernel) ⟨hdd, by decide⟩ hf rfl rfl rfl (gW_at wM _ _ (by decide)) hrest rfl hd hP (fun rr σ1 hq => by obtain ⟨rfl, rfl⟩ := hq; exact kk)
