/-- another rough -/
def gCells (τ : Mem) (n : Nat) : Mem := fun i k => if i = 1 ∧ k < n then (if sCell τ (kx k) (ky k) (kz k) = true then 0 else -1) else τ i k
def gBegin (τ : Mem) (c r l : Int32) : Mem :=
  upd2 (upd2 (upd2 (upd2 (upd2 (gCells (upd2 (upd2 (upd2 τ 0 1 c) 0 2 r) 0 3 l) 1000) 0 5 0) 0 7 1) 4 0 0) 0 10 400) 0 11 0
theorem gCells_0 {τ : Mem} : gCells τ 0 = τ := by funext i k; simp [gCells]
theorem gCells_c (τ : Mem) (n : Nat) (x y z : Int32) : sCell (gCells τ n) x y z = sCell τ x y z := by simp [sCell, gCells]
theorem gCells_s {τ : Mem} {n : Nat} {v : Int32} (h : v = if sCell τ (kx n) (ky n) (kz n) = true then 0 else -1) : upd2 (gCells τ n) 1 n v = gCells τ (n + 1) := by
  subst h
  funext i k
  unfold upd2 gCells
  by_cases hi : i = 1
  · subst hi
    by_cases hk : k = n
    · subst hk; simp
    · simp only [hk, if_true, if_false, true_and]
      by_cases h2 : k < n
      · simp [h2, show k < n + 1 by omega]
      · simp [h2, show ¬ k < n + 1 by omega]
  · simp [hi]
def mTake (τ : Mem) (c r l : Int32) : Int32 × Mem := if sIn c 1 10 = true ∧ sIn r 1 10 = true ∧ sIn l 1 10 = true then (c * r * l, gBegin (mTh τ) c r l) else mFail τ 1
/-- a flaw told: its five numbers behind the others -/
def gFlaw (τ : Mem) (x y z ra se : Int32) : Mem := fun i j => if i = 2 then (if 5 * nF τ ≤ j ∧ j < 5 * nF τ + 5 then gRow5 x y z ra se (j - 5 * nF τ) else τ 2 j) else if i = 0 ∧ j = 5 then τ 0 5 + 1 else τ i j
def mFlaw (τ : Mem) (x y z ra se : Int32) : Int32 × Mem :=
  if sCell (mTh τ) x y z = true then
    (if sIn ra 0 3 = true ∧ sIn se 1 9 = true then (if (mTh τ) 0 5 = 10 then mFail τ 3 else ((mTh τ) 0 5, gFlaw (mTh τ) x y z ra se)) else mFail τ 2)
  else mFail τ 1
theorem fidx {n : Nat} {x : Int32} (h : x = nI n) : 5 * x = nI (5 * n) := by rw [h, show (5 : Int32) = nI 5 by decide, nI_mul']
/-- what is looked at: a cut by marks, the plane put behind, and all taken back -/
def gMark (τ : Mem) (s : Nat) (p q r d : Int32) : Mem := gPut (gTurn τ (nI s) p q r d (-2) 1000) s p q r d
def sLook (τ : Mem) (s : Nat) (p q r d : Int32) (w : Nat) : Int32 :=
  if w = 0 then nI (sTurn τ (nI s) p q r d) else if w = 1 then sWorth (gMark τ s p q r d) s else if w = 2 then nI (sFin (gMark τ s p q r d) (nI s) 1) else nI (sPairs (gMark τ s p q r d) s)
/-- behind it: only the place behind the stone's planes has changed -/
def gLook (τ : Mem) (s : Nat) (p q r d : Int32) : Mem := fun i j => if i = 3 ∧ 5 * (17 * s + nP τ s) ≤ j ∧ j < 5 * (17 * s + nP τ s) + 5 then gRow5 p q r d 0 (j - 5 * (17 * s + nP τ s)) else τ i j
theorem MI_mark {τ : Mem} (h : MI τ) {s : Nat} (hs : s < 8) (hp : nP τ s ≤ 16) (p q r d : Int32) : MI (gMark τ s p q r d) := by
  have h1 := MI_turn h (nI s) p q r d (-2) 1000
  have h0 : ∀ j, gMark τ s p q r d 0 j = τ 0 j := fun j => by simp [gMark, gPut, gTurn]
  refine ⟨?_, ?_, ?_, ?_, ?_, ?_⟩
  · rw [h0]; exact h.1
  · rw [h0]; exact h.2.1
  · rw [h0]; exact h.2.2.1
  · rw [h0]; exact h.2.2.2.1
  · rw [h0]; exact h.2.2.2.2.1
  · intro a ha
    by_cases e : a = s
    · subst e
      refine ⟨nP τ a + 1, by omega, ?_⟩
      have := (MI_P h ha).1
      rw [nI_succ, ← this]
      simp [gMark, gPut, gTurn]
    · obtain ⟨m, hm, he⟩ := h.2.2.2.2.2 a ha
      exact ⟨m, hm, by simp [gMark, gPut, gTurn, e, he]⟩
theorem look_back {τ : Mem} (hM : MI τ) (hN : NM τ) {s : Nat} (hs : s < 8) (p q r d : Int32) : gBack (upd2 (gMark τ s p q r d) 4 s (gMark τ s p q r d 4 s - 1)) (nI s) 1000 = gLook τ s p q r d := by
  funext i k
  have hb := congrFun (congrFun (back_turn hN (nI s) p q r d) i) k
  by_cases hi : i = 1
  · subst hi
    simp only [gBack, upd2, gMark, gPut, gLook] at hb ⊢
    simpa using hb
  · by_cases h3 : i = 3
    · subst h3
      simp [gBack, upd2, gMark, gPut, gLook, nP_turn, gTurn]
    · by_cases h4 : i = 4
      · subst h4
        by_cases hk : k = s
        · subst hk
          have h1 : τ 4 k + 1 - 1 = τ 4 k := by rw [(MI_P hM hs).1, nI_1, nI_pred]
          simp [gBack, upd2, gMark, gPut, gLook, gTurn, h1]
        · simp [gBack, upd2, gMark, gPut, gLook, gTurn, hk]
      · simp [gBack, upd2, gMark, gPut, gLook, gTurn, hi, h3, h4]
def mWould (τ : Mem) (s p q r d w : Int32) : Int32 × Mem :=
  if sStone (mTh τ) s = true ∧ sIn w 0 3 = true then (if sTilt p q r d = true then (sLook (mTh τ) (tn s) p q r d (tn w), gLook (mTh τ) (tn s) p q r d) else mFail τ 2) else mFail τ 1
/-- every stone keeps 16 planes at most -/
def M16 (τ : Mem) : Prop := ∀ s, s < 8 → nP τ s ≤ 16
theorem M16_th {τ : Mem} (h : M16 τ) : M16 (mTh τ) := fun s hs => by
  have : nP (mTh τ) s = nP τ s := by unfold nP mTh; rw [upd2_ni (by decide)]
  rw [this]; exact h s hs

set_option maxRecDepth 100000 in
set_option maxHeartbeats 4000000 in
/-- X6_begin -/
theorem c_X6_begin (l : Launch) (co ro la : Int32) : gMV wM l yX6_begin (.code yX6_begin cX6_begin 5 none) 2 0 0 (fun A => [.ref (A 0), .int co, .int ro, .int la]) (fun τ => True) (fun τ τ1 => τ1 = gBegin τ co ro la) := by
  refine gMV_of (by decide) (fun A => Nat.le_of_ble_eq_true rfl) ?_
  intro X τ hC hP hE
  have hC : gOk wM l X cX6_begin "GemCutModel" 2 0 0 := hC
  show G wM X 0 0 0 [some (.ref (gA X 0)), some (.int co), some (.int ro), some (.int la), none] [] τ
  have lp : ∀ (m k : Nat), k + m = 1000 → G wM X 0 0 18 [some (.ref (gA X 0)), some (.int co), some (.int ro), some (.int la), some (.int (nI k))] [] (gCells (upd2 (upd2 (upd2 τ 0 1 co) 0 2 ro) 0 3 la) k) := by
    intro m
    induction m with
    | zero =>
      intro k hk 
      have hk : k = 1000 := by omega
      subst hk
      refine g_ild4 hC dX6_begin_18 ?_
      refine g_sipush 1000 hC dX6_begin_20 (by decide) ?_
      refine g_icmp_ge 72 hC dX6_begin_23 (by decide) (fun c23 => ?_) (fun c23 => absurd (lit_le (show (1000 : Int32) = nI 1000 by decide) (by omega) (by omega)) c23)
      refine g_ald0 hC dX6_begin_72 ?_
      refine g_iconst 0 hC dX6_begin_73 (by decide) ?_
      refine mp_Model_flaws hC tw_4_27 dX6_begin_74 ?_
      refine g_ald0 hC dX6_begin_77 ?_
      refine g_iconst 1 hC dX6_begin_78 (by decide) ?_
      refine mp_Model_stones hC tw_4_29 dX6_begin_79 ?_
      refine g_ald0 hC dX6_begin_82 ?_
      refine mg_Model_many hC tw_4_31 dX6_begin_83 ?_
      refine g_iconst 0 hC dX6_begin_86 (by decide) ?_
      refine g_iconst 0 hC dX6_begin_87 (by decide) ?_
      refine ms_many 0 hC rfl (by decide) dX6_begin_88 ?_
      refine g_ald0 hC dX6_begin_89 ?_
      refine g_sipush 400 hC dX6_begin_90 (by decide) ?_
      refine mp_Model_wheel hC tw_4_32 dX6_begin_93 ?_
      refine g_ald0 hC dX6_begin_96 ?_
      refine g_iconst 0 hC dX6_begin_97 (by decide) ?_
      refine mp_Model_spent hC tw_4_33 dX6_begin_98 ?_
      exact hE _ _ _ _ _ dX6_begin_101 (Nat.le_refl _) (Nat.le_refl _) rfl
    | succ m ih =>
      intro k hk 
      refine g_ild4 hC dX6_begin_18 ?_
      refine g_sipush 1000 hC dX6_begin_20 (by decide) ?_
      refine g_icmp_ge 72 hC dX6_begin_23 (by decide) (fun c23 => absurd c23 (lit_nle (show (1000 : Int32) = nI 1000 by decide) (by omega) (by omega))) (fun c23 => ?_)
      refine g_ald0 hC dX6_begin_26 ?_
      refine mg_Model_cells hC tw_4_26 dX6_begin_27 ?_
      refine g_ild4 hC dX6_begin_30 ?_
      refine g_ald0 hC dX6_begin_32 ?_
      refine g_ild4 hC dX6_begin_33 ?_
      refine g_bipush 10 hC dX6_begin_35 (by decide) ?_
      refine g_irem hC dX6_begin_37 (by decide) ?_
      rw [k_rem _ (by omega)]
      refine g_ild4 hC dX6_begin_38 ?_
      refine g_bipush 10 hC dX6_begin_40 (by decide) ?_
      refine g_idiv hC dX6_begin_42 (by decide) ?_
      refine g_bipush 10 hC dX6_begin_43 (by decide) ?_
      refine g_irem hC dX6_begin_45 (by decide) ?_
      rw [k_divrem _ (by omega)]
      refine g_ild4 hC dX6_begin_46 ?_
      refine g_bipush 10 hC dX6_begin_48 (by decide) ?_
      refine g_idiv hC dX6_begin_50 (by decide) ?_
      refine g_bipush 10 hC dX6_begin_51 (by decide) ?_
      refine g_idiv hC dX6_begin_53 (by decide) ?_
      rw [k_divdiv _ (by omega)]
      refine k_X6_isCell hC tw_4_15 dX6_begin_54 (by decide) ⟨by omega, by omega⟩ (Nat.le_of_ble_eq_true rfl) ?_
      refine g_if_eq 64 hC dX6_begin_57 (by decide) (fun c57 => ?_) (fun c57 => ?_)
      · refine g_iconst (-1) hC dX6_begin_64 (by decide) ?_
        refine ms_cells _ hC rfl (by omega) dX6_begin_65 ?_
        refine g_inc4 1 hC dX6_begin_66 (by decide) rfl ?_
        refine g_goto 18 hC dX6_begin_69 (by decide) ?_
        (try simp only [ne_eq, b2i_eq0, Bool.not_eq_false, Int32.not_le, Int32.not_lt, Int32.zero_sub] at c23 c57)
        rw [nI_1]
        first
        | (rw [gCells_s (by rw [gCells_c] at c57; rw [if_pos c57])]; exact ih (k + 1) (by omega))
        | (rw [gCells_s (by rw [gCells_c] at c57; rw [c57]; rfl)]; exact ih (k + 1) (by omega))
      · refine g_iconst 0 hC dX6_begin_60 (by decide) ?_
        refine g_goto 65 hC dX6_begin_61 (by decide) ?_
        refine ms_cells _ hC rfl (by omega) dX6_begin_65 ?_
        refine g_inc4 1 hC dX6_begin_66 (by decide) rfl ?_
        refine g_goto 18 hC dX6_begin_69 (by decide) ?_
        (try simp only [ne_eq, b2i_eq0, Bool.not_eq_false, Int32.not_le, Int32.not_lt, Int32.zero_sub] at c23 c57)
        rw [nI_1]
        first
        | (rw [gCells_s (by rw [gCells_c] at c57; rw [if_pos c57])]; exact ih (k + 1) (by omega))
        | (rw [gCells_s (by rw [gCells_c] at c57; rw [c57]; rfl)]; exact ih (k + 1) (by omega))
  refine g_ald0 hC dX6_begin_0 ?_
  refine g_ild1 hC dX6_begin_1 ?_
  refine mp_Model_columns hC tw_4_23 dX6_begin_2 ?_
  refine g_ald0 hC dX6_begin_5 ?_
  refine g_ild2 hC dX6_begin_6 ?_
  refine mp_Model_rows hC tw_4_24 dX6_begin_7 ?_
  refine g_ald0 hC dX6_begin_10 ?_
  refine g_ild3 hC dX6_begin_11 ?_
  refine mp_Model_layers hC tw_4_25 dX6_begin_12 ?_
  refine g_iconst 0 hC dX6_begin_15 (by decide) ?_
  refine g_ist4 hC dX6_begin_16 rfl ?_
  have h0 := lp 1000 0 (by omega)
  rw [gCells_0] at h0
  exact h0
theorem k_X6_begin {l : Launch} {X : gC} {cc : ByteArray} {own : String} {dd ca sa kc nc pc : Nat} {ls : List (Option Value)} {st : List Value} {σ : Mem} {idx : Nat} {co ro la : Int32} (hC : gOk wM l X cc own dd ca sa) (hlk : Cond.methodLink own idx yX6_begin ∈ TB) (hd : decode cc pc = .ok (.invokevirtual idx, 3)) (hdd : 2 + 1 ≤ dd) (hf : kc + 0 ≤ ca ∧ nc + 0 ≤ sa) (hrest : (st.map fun v => v.category).sum ≤ 8)   (kk : G wM X kc nc (pc + 3) ls st (gBegin σ co ro la)) : G wM X kc nc pc ls (.int la :: .int ro :: .int co :: .ref (gA X 0) :: st) σ := by
  exact g_cVV 3 hC (c_X6_begin l co ro la) hlk ⟨tw_4_13, tws_2_7, tw_1_7, tw_4_14⟩ (by decide +kernel) ⟨hdd, by decide⟩ hf rfl rfl rfl (gW_at wM _ _ (by decide)) hrest rfl hd trivial (fun σ1 hq => by subst hq; exact kk)
set_option maxRecDepth 100000 in
set_option maxHeartbeats 4000000 in
/-- X6_take -/
theorem c_X6_take (l : Launch) (co ro la : Int32) : gMI wM l yX6_take (.code yX6_take cX6_take 4 (some FieldType.int)) 3 0 0 (fun A => [.ref (A 0), .int co, .int ro, .int la]) (fun τ => True) (fun τ rr τ1 => rr = (mTake τ co ro la).1 ∧ τ1 = (mTake τ co ro la).2) := by
  refine gMI_of (by decide) (fun A => Nat.le_of_ble_eq_true rfl) ?_
  intro X τ hC hP hE
  have hC : gOk wM l X cX6_take "GemCutModel" 3 0 0 := hC
  show G wM X 0 0 0 [some (.ref (gA X 0)), some (.int co), some (.int ro), some (.int la)] [] τ
  refine g_ald0 hC dX6_take_0 ?_
  refine g_iconst 0 hC dX6_take_1 (by decide) ?_
  refine mp_Model_thrown hC tw_4_22 dX6_take_2 ?_
  refine g_ild1 hC dX6_take_5 ?_
  refine g_iconst 1 hC dX6_take_6 (by decide) ?_
  refine g_bipush 10 hC dX6_take_7 (by decide) ?_
  refine k_X6_isIn hC tw_4_19 dX6_take_9 (by decide) ⟨by omega, by omega⟩ (Nat.le_of_ble_eq_true rfl) ?_
  refine g_if_eq 35 hC dX6_take_12 (by decide) (fun c12 => ?_) (fun c12 => ?_)
  · refine g_ald0 hC dX6_take_35 ?_
    refine g_iconst 1 hC dX6_take_36 (by decide) ?_
    refine k_X6_fail hC tw_4_67 dX6_take_37 (by decide) ⟨by omega, by omega⟩ (Nat.le_of_ble_eq_true rfl) ?_
    (try simp only [ne_eq, b2i_eq0, Bool.not_eq_false, Int32.not_le, Int32.not_lt, Int32.zero_sub] at c12)
    exact hE _ _ _ _ _ _ dX6_take_40 (by omega) (by omega) ⟨by simp [mTake, c12], by simp [mTake, c12]⟩
  · refine g_ild2 hC dX6_take_15 ?_
    refine g_iconst 1 hC dX6_take_16 (by decide) ?_
    refine g_bipush 10 hC dX6_take_17 (by decide) ?_
    refine k_X6_isIn hC tw_4_19 dX6_take_19 (by decide) ⟨by omega, by omega⟩ (Nat.le_of_ble_eq_true rfl) ?_
    refine g_if_eq 35 hC dX6_take_22 (by decide) (fun c22 => ?_) (fun c22 => ?_)
    · refine g_ald0 hC dX6_take_35 ?_
      refine g_iconst 1 hC dX6_take_36 (by decide) ?_
      refine k_X6_fail hC tw_4_67 dX6_take_37 (by decide) ⟨by omega, by omega⟩ (Nat.le_of_ble_eq_true rfl) ?_
      (try simp only [ne_eq, b2i_eq0, Bool.not_eq_false, Int32.not_le, Int32.not_lt, Int32.zero_sub] at c12 c22)
      exact hE _ _ _ _ _ _ dX6_take_40 (by omega) (by omega) ⟨by simp [mTake, c12, c22], by simp [mTake, c12, c22]⟩
    · refine g_ild3 hC dX6_take_25 ?_
      refine g_iconst 1 hC dX6_take_26 (by decide) ?_
      refine g_bipush 10 hC dX6_take_27 (by decide) ?_
      refine k_X6_isIn hC tw_4_19 dX6_take_29 (by decide) ⟨by omega, by omega⟩ (Nat.le_of_ble_eq_true rfl) ?_
      refine g_if_ne 41 hC dX6_take_32 (by decide) (fun c32 => ?_) (fun c32 => ?_)
      · refine g_ald0 hC dX6_take_41 ?_
        refine g_ild1 hC dX6_take_42 ?_
        refine g_ild2 hC dX6_take_43 ?_
        refine g_ild3 hC dX6_take_44 ?_
        refine k_X6_begin hC tw_4_11 dX6_take_45 (by decide) ⟨by omega, by omega⟩ (Nat.le_of_ble_eq_true rfl) ?_
        refine g_ild1 hC dX6_take_48 ?_
        refine g_ild2 hC dX6_take_49 ?_
        refine g_imul hC dX6_take_50 ?_
        refine g_ild3 hC dX6_take_51 ?_
        refine g_imul hC dX6_take_52 ?_
        (try simp only [ne_eq, b2i_eq0, Bool.not_eq_false, Int32.not_le, Int32.not_lt, Int32.zero_sub] at c12 c22 c32)
        exact hE _ _ _ _ _ _ dX6_take_53 (by omega) (by omega) ⟨by simp [mTake, c12, c22, c32], by simp [mTake, c12, c22, c32]⟩
      · refine g_ald0 hC dX6_take_35 ?_
        refine g_iconst 1 hC dX6_take_36 (by decide) ?_
        refine k_X6_fail hC tw_4_67 dX6_take_37 (by decide) ⟨by omega, by omega⟩ (Nat.le_of_ble_eq_true rfl) ?_
        (try simp only [ne_eq, b2i_eq0, Bool.not_eq_false, Int32.not_le, Int32.not_lt, Int32.zero_sub] at c12 c22 c32)
        exact hE _ _ _ _ _ _ dX6_take_40 (by omega) (by omega) ⟨by simp [mTake, c12, c22, c32], by simp [mTake, c12, c22, c32]⟩
theorem k_X6_take {l : Launch} {X : gC} {cc : ByteArray} {own : String} {dd ca sa kc nc pc : Nat} {ls : List (Option Value)} {st : List Value} {σ : Mem} {idx : Nat} {co ro la : Int32} (hC : gOk wM l X cc own dd ca sa) (hlk : Cond.methodLink own idx yX6_take ∈ TB) (hd : decode cc pc = .ok (.invokevirtual idx, 3)) (hdd : 3 + 1 ≤ dd) (hf : kc + 0 ≤ ca ∧ nc + 0 ≤ sa) (hrest : (st.map fun v => v.category).sum ≤ 8)   (kk : G wM X kc nc (pc + 3) ls (.int ((mTake σ co ro la).1) :: st) ((mTake σ co ro la).2)) : G wM X kc nc pc ls (.int la :: .int ro :: .int co :: .ref (gA X 0) :: st) σ := by
  exact g_cVI 3 hC (c_X6_take l co ro la) hlk ⟨tw_4_64, tw_4_65, tw_1_7, tw_4_66⟩ (by decide +kernel) ⟨hdd, by decide⟩ hf rfl rfl rfl (gW_at wM _ _ (by decide)) hrest rfl hd trivial (fun rr σ1 hq => by obtain ⟨rfl, rfl⟩ := hq; exact kk)
set_option maxRecDepth 100000 in
set_option maxHeartbeats 4000000 in
/-- X6_saw -/
theorem c_X6_saw (l : Launch) (s p q r d : Int32) : gMI wM l yX6_saw (.code yX6_saw cX6_saw 8 (some FieldType.int)) 2 0 0 (fun A => [.ref (A 0), .int s, .int p, .int q, .int r, .int d]) (fun τ => MI τ ∧ NM τ) (fun τ rr τ1 => rr = (mSaw τ s p q r d).1 ∧ τ1 = (mSaw τ s p q r d).2) := by
  refine gMI_of (by decide) (fun A => Nat.le_of_ble_eq_true rfl) ?_
  intro X τ hC hP hE
  have hC : gOk wM l X cX6_saw "GemCutModel" 2 0 0 := hC
  show G wM X 0 0 0 [some (.ref (gA X 0)), some (.int s), some (.int p), some (.int q), some (.int r), some (.int d), none, none] [] τ
  refine g_ald0 hC dX6_saw_0 ?_
  refine g_iconst 0 hC dX6_saw_1 (by decide) ?_
  refine mp_Model_thrown hC tw_4_22 dX6_saw_2 ?_
  refine g_ald0 hC dX6_saw_5 ?_
  refine g_ild1 hC dX6_saw_6 ?_
  refine k_X6_isStone hC tw_4_89 dX6_saw_7 (by decide) ⟨by omega, by omega⟩ (Nat.le_of_ble_eq_true rfl) ?_
  refine g_if_ne 19 hC dX6_saw_10 (by decide) (fun c10 => ?_) (fun c10 => ?_)
  · refine g_ild2 hC dX6_saw_19 ?_
    refine g_ild3 hC dX6_saw_20 ?_
    refine g_ild4 hC dX6_saw_21 ?_
    refine g_ild5 hC dX6_saw_23 ?_
    refine k_X6_isTilt hC tw_4_122 dX6_saw_25 (by decide) ⟨by omega, by omega⟩ (Nat.le_of_ble_eq_true rfl) ?_
    refine g_if_ne 37 hC dX6_saw_28 (by decide) (fun c28 => ?_) (fun c28 => ?_)
    · (try simp only [ne_eq, b2i_eq0, Bool.not_eq_false, Int32.not_le, Int32.not_lt, Int32.zero_sub] at c10 c28)
      have hN : NM (mTh τ) := NM_th hP.2
      have hM : MI (mTh τ) := MI_th hP.1 0
      refine g_ald0 hC dX6_saw_37 ?_
      refine g_ild1 hC dX6_saw_38 ?_
      refine k_X6_weight hC tw_4_125 dX6_saw_39 (by decide) ⟨by omega, by omega⟩ (Nat.le_of_ble_eq_true rfl) ?_
      refine g_ist6 hC dX6_saw_42 rfl ?_
      refine g_ald0 hC dX6_saw_44 ?_
      refine g_ild1 hC dX6_saw_45 ?_
      refine g_ild2 hC dX6_saw_46 ?_
      refine g_ild3 hC dX6_saw_47 ?_
      refine g_ild4 hC dX6_saw_48 ?_
      refine g_ild5 hC dX6_saw_50 ?_
      refine g_bipush (-2) hC dX6_saw_52 (by decide) ?_
      refine k_X6_turn hC tw_4_129 dX6_saw_54 (by decide) ⟨by omega, by omega⟩ (Nat.le_of_ble_eq_true rfl) ?_
      refine g_ist7 hC dX6_saw_57 rfl ?_
      refine g_ald0 hC dX6_saw_59 ?_
      refine g_ild1 hC dX6_saw_60 ?_
      refine k_X6_back hC tw_4_136 dX6_saw_61 (by decide) ⟨by omega, by omega⟩ (Nat.le_of_ble_eq_true rfl) ?_
      rw [back_turn hN]
      refine g_ald0 hC dX6_saw_64 ?_
      refine mg_Model_stones hC tw_4_29 dX6_saw_65 ?_
      refine g_bipush 8 hC dX6_saw_68 (by decide) ?_
      refine g_icmp_eq 85 hC dX6_saw_70 (by decide) (fun c70 => ?_) (fun c70 => ?_)
      · refine g_ald0 hC dX6_saw_85 ?_
        refine g_iconst 3 hC dX6_saw_86 (by decide) ?_
        refine k_X6_fail hC tw_4_67 dX6_saw_87 (by decide) ⟨by omega, by omega⟩ (Nat.le_of_ble_eq_true rfl) ?_
        (try simp only [ne_eq, b2i_eq0, Bool.not_eq_false, Int32.not_le, Int32.not_lt, Int32.zero_sub] at c70)
        exact hE _ _ _ _ _ _ dX6_saw_90 (by omega) (by omega) ⟨by simp [mSaw, c10, c28, c70], by simp [mSaw, c10, c28, c70]⟩
      · refine g_ild7 hC dX6_saw_73 ?_
        refine g_if_eq 85 hC dX6_saw_75 (by decide) (fun c75 => ?_) (fun c75 => ?_)
        · refine g_ald0 hC dX6_saw_85 ?_
          refine g_iconst 3 hC dX6_saw_86 (by decide) ?_
          refine k_X6_fail hC tw_4_67 dX6_saw_87 (by decide) ⟨by omega, by omega⟩ (Nat.le_of_ble_eq_true rfl) ?_
          (try simp only [ne_eq, b2i_eq0, Bool.not_eq_false, Int32.not_le, Int32.not_lt, Int32.zero_sub] at c70 c75)
          exact hE _ _ _ _ _ _ dX6_saw_90 (by omega) (by omega) ⟨by simp [mSaw, c10, c28, c70, c75], by simp [mSaw, c10, c28, c70, c75]⟩
        · refine g_ild7 hC dX6_saw_78 ?_
          refine g_ild6 hC dX6_saw_80 ?_
          refine g_icmp_ne 91 hC dX6_saw_82 (by decide) (fun c82 => ?_) (fun c82 => ?_)
          · (try simp only [ne_eq, b2i_eq0, Bool.not_eq_false, Int32.not_le, Int32.not_lt, Int32.zero_sub] at c70 c75 c82)
            obtain ⟨hS1, hS2, hS3⟩ := MI_S hM
            have hS4 : nS (mTh τ) < 8 := by
              rcases Nat.lt_or_ge (nS (mTh τ)) 8 with h | h
              · exact h
              · exact absurd (by rw [hS1, show nS (mTh τ) = 8 by omega]; decide) c70
            refine g_ald0 hC dX6_saw_91 ?_
            refine g_ild1 hC dX6_saw_92 ?_
            refine g_ild2 hC dX6_saw_93 ?_
            refine g_ild3 hC dX6_saw_94 ?_
            refine g_ild4 hC dX6_saw_95 ?_
            refine g_ild5 hC dX6_saw_97 ?_
            refine g_ald0 hC dX6_saw_99 ?_
            refine mg_Model_stones hC tw_4_29 dX6_saw_100 ?_
            refine k_X6_turn hC tw_4_129 dX6_saw_103 (by decide) ⟨by omega, by omega⟩ (Nat.le_of_ble_eq_true rfl) ?_
            refine g_pop hC dX6_saw_106 rfl ?_
            refine g_ald0 hC dX6_saw_107 ?_
            refine mg_Model_many hC tw_4_31 dX6_saw_108 ?_
            refine g_ald0 hC dX6_saw_111 ?_
            refine mg_Model_stones hC tw_4_29 dX6_saw_112 ?_
            refine g_iconst 0 hC dX6_saw_115 (by decide) ?_
            refine ms_many (nS (mTh τ)) hC hS1 hS4 dX6_saw_116 ?_
            refine g_ald0 hC dX6_saw_117 ?_
            refine g_dup hC dX6_saw_118 rfl ?_
            refine mg_Model_stones hC tw_4_29 dX6_saw_119 ?_
            refine g_iconst 1 hC dX6_saw_122 (by decide) ?_
            refine g_iadd hC dX6_saw_123 ?_
            refine mp_Model_stones hC tw_4_29 dX6_saw_124 ?_
            refine g_ald0 hC dX6_saw_127 ?_
            refine mg_Model_stones hC tw_4_29 dX6_saw_128 ?_
            refine g_iconst 1 hC dX6_saw_131 (by decide) ?_
            refine g_isub hC dX6_saw_132 ?_
            have hz : ¬ ((mTh τ) 0 7 = 8 ∨ nI (sTurn (mTh τ) s p q r d) = 0 ∨ nI (sTurn (mTh τ) s p q r d) = nI (sWt (mTh τ) s)) := by
              rintro (h | h | h)
              · exact c70 h
              · exact c75 h
              · exact c82 h
            refine hE _ _ _ _ _ _ dX6_saw_133 (by omega) (by omega) ⟨?_, ?_⟩
            · rw [mSaw, if_pos c10, if_pos c28, if_neg hz]
              show (mTh τ) 0 7 + 1 - 1 = (mTh τ) 0 7
              rw [hS1, nI_1, nI_pred]
            · rw [mSaw, if_pos c10, if_pos c28, if_neg hz]
              rfl
          · refine g_ald0 hC dX6_saw_85 ?_
            refine g_iconst 3 hC dX6_saw_86 (by decide) ?_
            refine k_X6_fail hC tw_4_67 dX6_saw_87 (by decide) ⟨by omega, by omega⟩ (Nat.le_of_ble_eq_true rfl) ?_
            (try simp only [ne_eq, b2i_eq0, Bool.not_eq_false, Int32.not_le, Int32.not_lt, Int32.zero_sub] at c70 c75 c82)
            exact hE _ _ _ _ _ _ dX6_saw_90 (by omega) (by omega) ⟨by simp [mSaw, c10, c28, c70, c75, c82], by simp [mSaw, c10, c28, c70, c75, c82]⟩
    · refine g_ald0 hC dX6_saw_31 ?_
      refine g_iconst 2 hC dX6_saw_32 (by decide) ?_
      refine k_X6_fail hC tw_4_67 dX6_saw_33 (by decide) ⟨by omega, by omega⟩ (Nat.le_of_ble_eq_true rfl) ?_
      (try simp only [ne_eq, b2i_eq0, Bool.not_eq_false, Int32.not_le, Int32.not_lt, Int32.zero_sub] at c10 c28)
      exact hE _ _ _ _ _ _ dX6_saw_36 (by omega) (by omega) ⟨by simp [mSaw, c10, c28], by simp [mSaw, c10, c28]⟩
  · refine g_ald0 hC dX6_saw_13 ?_
    refine g_iconst 1 hC dX6_saw_14 (by decide) ?_
    refine k_X6_fail hC tw_4_67 dX6_saw_15 (by decide) ⟨by omega, by omega⟩ (Nat.le_of_ble_eq_true rfl) ?_
    (try simp only [ne_eq, b2i_eq0, Bool.not_eq_false, Int32.not_le, Int32.not_lt, Int32.zero_sub] at c10)
    exact hE _ _ _ _ _ _ dX6_saw_18 (by omega) (by omega) ⟨by simp [mSaw, c10], by simp [mSaw, c10]⟩
theorem k_X6_saw {l : Launch} {X : gC} {cc : ByteArray} {own : String} {dd ca sa kc nc pc : Nat} {ls : List (Option Value)} {st : List Value} {σ : Mem} {idx : Nat} {s p q r d : Int32} (hC : gOk wM l X cc own dd ca sa) (hlk : Cond.methodLink own idx yX6_saw ∈ TB) (hd : decode cc pc = .ok (.invokevirtual idx, 3)) (hdd : 2 + 1 ≤ dd) (hf : kc + 0 ≤ ca ∧ nc + 0 ≤ sa) (hrest : (st.map fun v => v.category).sum ≤ 8)  (hP : MI σ ∧ NM σ) (kk : G wM X kc nc (pc + 3) ls (.int ((mSaw σ s p q r d).1) :: st) ((mSaw σ s p q r d).2)) : G wM X kc nc pc ls (.int d :: .int r :: .int q :: .int p :: .int s :: .ref (gA X 0) :: st) σ := by
  exact g_cVI 5 hC (c_X6_saw l s p q r d) hlk ⟨tw_4_119, tw_4_120, tw_1_7, tw_4_121⟩ (by decide +kernel) ⟨hdd, by decide⟩ hf rfl rfl rfl (gW_at wM _ _ (by decide)) hrest rfl hd hP (fun rr σ1 hq => by obtain ⟨rfl, rfl⟩ := hq; exact kk)
set_option maxRecDepth 100000 in
set_option maxHeartbeats 4000000 in
/-- X6_cut -/
theorem c_X6_cut (l : Launch) (s p q r d : Int32) : gMI wM l yX6_cut (.code yX6_cut cX6_cut 7 (some FieldType.int)) 2 1 5 (fun A => [.ref (A 0), .int s, .int p, .int q, .int r, .int d]) (fun τ => MI τ ∧ NM τ ∧ M16 τ) (fun τ rr τ1 => rr = (mCut τ s p q r d).1 ∧ τ1 = (mCut τ s p q r d).2) := by
  refine gMI_of (by decide) (fun A => Nat.le_of_ble_eq_true rfl) ?_
  intro X τ hC hP hE
  have hC : gOk wM l X cX6_cut "GemCutModel" 2 1 5 := hC
  show G wM X 0 0 0 [some (.ref (gA X 0)), some (.int s), some (.int p), some (.int q), some (.int r), some (.int d), none] [] τ
  refine g_ald0 hC dX6_cut_0 ?_
  refine g_iconst 0 hC dX6_cut_1 (by decide) ?_
  refine mp_Model_thrown hC tw_4_22 dX6_cut_2 ?_
  refine g_ald0 hC dX6_cut_5 ?_
  refine g_ild1 hC dX6_cut_6 ?_
  refine k_X6_isStone hC tw_4_89 dX6_cut_7 (by decide) ⟨by omega, by omega⟩ (Nat.le_of_ble_eq_true rfl) ?_
  refine g_if_ne 19 hC dX6_cut_10 (by decide) (fun c10 => ?_) (fun c10 => ?_)
  · refine g_ild2 hC dX6_cut_19 ?_
    refine g_ild3 hC dX6_cut_20 ?_
    refine g_ild4 hC dX6_cut_21 ?_
    refine g_ild5 hC dX6_cut_23 ?_
    refine k_X6_isTilt hC tw_4_122 dX6_cut_25 (by decide) ⟨by omega, by omega⟩ (Nat.le_of_ble_eq_true rfl) ?_
    refine g_if_ne 37 hC dX6_cut_28 (by decide) (fun c28 => ?_) (fun c28 => ?_)
    · (try simp only [ne_eq, b2i_eq0, Bool.not_eq_false, Int32.not_le, Int32.not_lt, Int32.zero_sub] at c10 c28)
      have hN : NM (mTh τ) := NM_th hP.2.1
      have hM : MI (mTh τ) := MI_th hP.1 0
      obtain ⟨s0, hs1, hs2, rfl, hs4⟩ := sStone_at hM c10
      obtain ⟨hm, hm2⟩ := MI_P hM hs1
      have hm3 := M16_th hP.2.2 s0 hs1
      refine g_ald0 hC dX6_cut_37 ?_
      refine g_ild1 hC dX6_cut_38 ?_
      refine g_ild2 hC dX6_cut_39 ?_
      refine g_ild3 hC dX6_cut_40 ?_
      refine g_ild4 hC dX6_cut_41 ?_
      refine g_ild5 hC dX6_cut_43 ?_
      refine g_bipush (-2) hC dX6_cut_45 (by decide) ?_
      refine k_X6_turn hC tw_4_129 dX6_cut_47 (by decide) ⟨by omega, by omega⟩ (Nat.le_of_ble_eq_true rfl) ?_
      refine g_ist6 hC dX6_cut_50 rfl ?_
      refine g_ald0 hC dX6_cut_52 ?_
      refine g_ild1 hC dX6_cut_53 ?_
      refine k_X6_back hC tw_4_136 dX6_cut_54 (by decide) ⟨by omega, by omega⟩ (Nat.le_of_ble_eq_true rfl) ?_
      rw [back_turn hN]
      refine g_ald0 hC dX6_cut_57 ?_
      refine mg_Model_many hC tw_4_31 dX6_cut_58 ?_
      refine g_ild1 hC dX6_cut_61 ?_
      refine ml_many s0 hC rfl hs1 dX6_cut_62 ?_
      refine g_bipush 16 hC dX6_cut_63 (by decide) ?_
      refine g_icmp_eq 79 hC dX6_cut_65 (by decide) (fun c65 => ?_) (fun c65 => ?_)
      · refine g_ald0 hC dX6_cut_79 ?_
        refine g_iconst 3 hC dX6_cut_80 (by decide) ?_
        refine k_X6_fail hC tw_4_67 dX6_cut_81 (by decide) ⟨by omega, by omega⟩ (Nat.le_of_ble_eq_true rfl) ?_
        (try simp only [ne_eq, b2i_eq0, Bool.not_eq_false, Int32.not_le, Int32.not_lt, Int32.zero_sub] at c65)
        exact hE _ _ _ _ _ _ dX6_cut_84 (by omega) (by omega) ⟨by simp [mCut, tn, hs4, c10, c28, c65], by simp [mCut, tn, hs4, c10, c28, c65]⟩
      · refine g_iconst 3 hC dX6_cut_68 (by decide) ?_
        refine g_ild6 hC dX6_cut_69 ?_
        refine g_imul hC dX6_cut_71 ?_
        refine g_ald0 hC dX6_cut_72 ?_
        refine mg_Model_wheel hC tw_4_32 dX6_cut_73 ?_
        refine g_icmp_le 85 hC dX6_cut_76 (by decide) (fun c76 => ?_) (fun c76 => ?_)
        · (try simp only [ne_eq, b2i_eq0, Bool.not_eq_false, Int32.not_le, Int32.not_lt, Int32.zero_sub] at c65 c76)
          have hz : ¬ ((mTh τ) 4 s0 = 16 ∨ (mTh τ) 0 10 < 3 * nI (sTurn (mTh τ) (nI s0) p q r d)) := by
            rintro (h | h)
            · exact c65 h
            · exact (Int32.not_lt.mpr c76) h
          refine g_ald0 hC dX6_cut_85 ?_
          refine g_ild1 hC dX6_cut_86 ?_
          refine g_ild2 hC dX6_cut_87 ?_
          refine g_ild3 hC dX6_cut_88 ?_
          refine g_ild4 hC dX6_cut_89 ?_
          refine g_ild5 hC dX6_cut_91 ?_
          refine g_iconst (-1) hC dX6_cut_93 (by decide) ?_
          refine k_X6_turn hC tw_4_129 dX6_cut_94 (by decide) ⟨by omega, by omega⟩ (Nat.le_of_ble_eq_true rfl) ?_
          refine g_pop hC dX6_cut_97 rfl ?_
          refine g_ald0 hC dX6_cut_98 ?_
          refine g_ild1 hC dX6_cut_99 ?_
          refine g_ild2 hC dX6_cut_100 ?_
          refine g_ild3 hC dX6_cut_101 ?_
          refine g_ild4 hC dX6_cut_102 ?_
          refine g_ild5 hC dX6_cut_104 ?_
          refine k_X6_put (s := s0) hC tw_4_144 dX6_cut_106 (by decide) ⟨by omega, by omega⟩ (Nat.le_of_ble_eq_true rfl) ⟨hs1, MI_turn hM _ _ _ _ _ _ _, by rw [nP_turn]; exact hm3⟩ ?_
          refine g_ald0 hC dX6_cut_109 ?_
          refine g_iconst 3 hC dX6_cut_110 (by decide) ?_
          refine g_ild6 hC dX6_cut_111 ?_
          refine g_imul hC dX6_cut_113 ?_
          refine k_X6_spend hC tw_4_148 dX6_cut_114 (by decide) ⟨by omega, by omega⟩ (Nat.le_of_ble_eq_true rfl) ?_
          refine g_ild6 hC dX6_cut_117 ?_
          refine hE _ _ _ _ _ _ dX6_cut_119 (by omega) (by omega) ⟨?_, ?_⟩
          · simp only [mCut, if_pos c10, if_pos c28, tn, hs4, if_neg hz]
          · simp only [mCut, if_pos c10, if_pos c28, tn, hs4, if_neg hz]
        · refine g_ald0 hC dX6_cut_79 ?_
          refine g_iconst 3 hC dX6_cut_80 (by decide) ?_
          refine k_X6_fail hC tw_4_67 dX6_cut_81 (by decide) ⟨by omega, by omega⟩ (Nat.le_of_ble_eq_true rfl) ?_
          (try simp only [ne_eq, b2i_eq0, Bool.not_eq_false, Int32.not_le, Int32.not_lt, Int32.zero_sub] at c65 c76)
          exact hE _ _ _ _ _ _ dX6_cut_84 (by omega) (by omega) ⟨by simp [mCut, tn, hs4, c10, c28, c65, c76], by simp [mCut, tn, hs4, c10, c28, c65, c76]⟩
    · refine g_ald0 hC dX6_cut_31 ?_
      refine g_iconst 2 hC dX6_cut_32 (by decide) ?_
      refine k_X6_fail hC tw_4_67 dX6_cut_33 (by decide) ⟨by omega, by omega⟩ (Nat.le_of_ble_eq_true rfl) ?_
      (try simp only [ne_eq, b2i_eq0, Bool.not_eq_false, Int32.not_le, Int32.not_lt, Int32.zero_sub] at c10 c28)
      exact hE _ _ _ _ _ _ dX6_cut_36 (by omega) (by omega) ⟨by simp [mCut, c10, c28], by simp [mCut, c10, c28]⟩
  · refine g_ald0 hC dX6_cut_13 ?_
    refine g_iconst 1 hC dX6_cut_14 (by decide) ?_
    refine k_X6_fail hC tw_4_67 dX6_cut_15 (by decide) ⟨by omega, by omega⟩ (Nat.le_of_ble_eq_true rfl) ?_
    (try simp only [ne_eq, b2i_eq0, Bool.not_eq_false, Int32.not_le, Int32.not_lt, Int32.zero_sub] at c10)
    exact hE _ _ _ _ _ _ dX6_cut_18 (by omega) (by omega) ⟨by simp [mCut, c10], by simp [mCut, c10]⟩
theorem k_X6_cut {l : Launch} {X : gC} {cc : ByteArray} {own : String} {dd ca sa kc nc pc : Nat} {ls : List (Option Value)} {st : List Value} {σ : Mem} {idx : Nat} {s p q r d : Int32} (hC : gOk wM l X cc own dd ca sa) (hlk : Cond.methodLink own idx yX6_cut ∈ TB) (hd : decode cc pc = .ok (.invokevirtual idx, 3)) (hdd : 2 + 1 ≤ dd) (hf : kc + 1 ≤ ca ∧ nc + 5 ≤ sa) (hrest : (st.map fun v => v.category).sum ≤ 8)  (hP : MI σ ∧ NM σ ∧ M16 σ) (kk : G wM X (kc + 1) (nc + 5) (pc + 3) ls (.int ((mCut σ s p q r d).1) :: st) ((mCut σ s p q r d).2)) : G wM X kc nc pc ls (.int d :: .int r :: .int q :: .int p :: .int s :: .ref (gA X 0) :: st) σ := by
  exact g_cVI 5 hC (c_X6_cut l s p q r d) hlk ⟨tw_4_141, tw_4_142, tw_1_7, tw_4_143⟩ (by decide +kernel) ⟨hdd, by decide⟩ hf rfl rfl rfl (gW_at wM _ _ (by decide)) hrest rfl hd hP (fun rr σ1 hq => by obtain ⟨rfl, rfl⟩ := hq; exact kk)
set_option maxRecDepth 100000 in
set_option maxHeartbeats 4000000 in
/-- X6_look -/
theorem c_X6_look (l : Launch) (s : Nat) (p q r d : Int32) (w : Nat) : gMI wM l yX6_look (.code yX6_look cX6_look 9 (some FieldType.int)) 7 1 5 (fun A => [.ref (A 0), .int (nI s), .int p, .int q, .int r, .int d, .int (nI w)]) (fun τ => s < 8 ∧ MI τ ∧ NM τ ∧ nP τ s ≤ 16 ∧ w < 4) (fun τ rr τ1 => rr = sLook τ s p q r d w ∧ τ1 = gLook τ s p q r d) := by
  refine gMI_of (by decide) (fun A => Nat.le_of_ble_eq_true rfl) ?_
  intro X τ hC hP hE
  have hC : gOk wM l X cX6_look "GemCutModel" 7 1 5 := hC
  show G wM X 0 0 0 [some (.ref (gA X 0)), some (.int (nI s)), some (.int p), some (.int q), some (.int r), some (.int d), some (.int (nI w)), none, none] [] τ
  obtain ⟨hs, hM, hN, hp, hw⟩ := hP
  refine g_ald0 hC dX6_look_0 ?_
  refine g_ild1 hC dX6_look_1 ?_
  refine g_ild2 hC dX6_look_2 ?_
  refine g_ild3 hC dX6_look_3 ?_
  refine g_ild4 hC dX6_look_4 ?_
  refine g_ild5 hC dX6_look_6 ?_
  refine g_bipush (-2) hC dX6_look_8 (by decide) ?_
  refine k_X6_turn hC tw_4_129 dX6_look_10 (by decide) ⟨by omega, by omega⟩ (Nat.le_of_ble_eq_true rfl) ?_
  refine g_ist7 hC dX6_look_13 rfl ?_
  refine g_ald0 hC dX6_look_15 ?_
  refine g_ild1 hC dX6_look_16 ?_
  refine g_ild2 hC dX6_look_17 ?_
  refine g_ild3 hC dX6_look_18 ?_
  refine g_ild4 hC dX6_look_19 ?_
  refine g_ild5 hC dX6_look_21 ?_
  refine k_X6_put (s := s) hC tw_4_144 dX6_look_23 (by decide) ⟨by omega, by omega⟩ (Nat.le_of_ble_eq_true rfl) ⟨hs, MI_turn hM _ _ _ _ _ _ _, by rw [nP_turn]; exact hp⟩ ?_
  rw [show gPut (gTurn τ (nI s) p q r d (-2) 1000) s p q r d = gMark τ s p q r d from rfl]
  rcases (show w = 0 ∨ w = 1 ∨ w = 2 ∨ w = 3 by omega) with rfl | rfl | rfl | rfl
  · refine g_ild6 hC dX6_look_26 ?_
    refine g_if_ne 36 hC dX6_look_28 (by decide) (fun c28 => absurd c28 (by decide)) (fun c28 => ?_)
    refine g_ild7 hC dX6_look_31 ?_
    refine g_goto 70 hC dX6_look_33 (by decide) ?_
    refine g_ist8 hC dX6_look_70 rfl ?_
    refine g_ald0 hC dX6_look_72 ?_
    refine mg_Model_many hC tw_4_31 dX6_look_73 ?_
    refine g_ild1 hC dX6_look_76 ?_
    refine g_dup2 hC dX6_look_77 rfl rfl ?_
    refine ml_many s hC rfl hs dX6_look_78 ?_
    refine g_iconst 1 hC dX6_look_79 (by decide) ?_
    refine g_isub hC dX6_look_80 ?_
    refine ms_many s hC rfl hs dX6_look_81 ?_
    refine g_ald0 hC dX6_look_82 ?_
    refine g_ild1 hC dX6_look_83 ?_
    refine k_X6_back hC tw_4_136 dX6_look_84 (by decide) ⟨by omega, by omega⟩ (Nat.le_of_ble_eq_true rfl) ?_
    refine g_ild8 hC dX6_look_87 ?_
    have e9 := look_back hM hN hs p q r d
    exact hE _ _ _ _ _ _ dX6_look_89 (by omega) (by omega) ⟨by rfl, e9⟩
  · refine g_ild6 hC dX6_look_26 ?_
    refine g_if_ne 36 hC dX6_look_28 (by decide) (fun c28 => ?_) (fun c28 => absurd c28 (by decide))
    refine g_ild6 hC dX6_look_36 ?_
    refine g_iconst 1 hC dX6_look_38 (by decide) ?_
    refine g_icmp_ne 50 hC dX6_look_39 (by decide) (fun c39 => absurd c39 (by decide)) (fun c39 => ?_)
    refine g_ald0 hC dX6_look_42 ?_
    refine g_ild1 hC dX6_look_43 ?_
    refine k_X6_worth (s := s) hC tw_4_197 dX6_look_44 (by decide) ⟨by omega, by omega⟩ (Nat.le_of_ble_eq_true rfl) ⟨hs, MI_mark hM hs hp p q r d⟩ ?_
    refine g_goto 70 hC dX6_look_47 (by decide) ?_
    refine g_ist8 hC dX6_look_70 rfl ?_
    refine g_ald0 hC dX6_look_72 ?_
    refine mg_Model_many hC tw_4_31 dX6_look_73 ?_
    refine g_ild1 hC dX6_look_76 ?_
    refine g_dup2 hC dX6_look_77 rfl rfl ?_
    refine ml_many s hC rfl hs dX6_look_78 ?_
    refine g_iconst 1 hC dX6_look_79 (by decide) ?_
    refine g_isub hC dX6_look_80 ?_
    refine ms_many s hC rfl hs dX6_look_81 ?_
    refine g_ald0 hC dX6_look_82 ?_
    refine g_ild1 hC dX6_look_83 ?_
    refine k_X6_back hC tw_4_136 dX6_look_84 (by decide) ⟨by omega, by omega⟩ (Nat.le_of_ble_eq_true rfl) ?_
    refine g_ild8 hC dX6_look_87 ?_
    have e9 := look_back hM hN hs p q r d
    exact hE _ _ _ _ _ _ dX6_look_89 (by omega) (by omega) ⟨by rfl, e9⟩
  · refine g_ild6 hC dX6_look_26 ?_
    refine g_if_ne 36 hC dX6_look_28 (by decide) (fun c28 => ?_) (fun c28 => absurd c28 (by decide))
    refine g_ild6 hC dX6_look_36 ?_
    refine g_iconst 1 hC dX6_look_38 (by decide) ?_
    refine g_icmp_ne 50 hC dX6_look_39 (by decide) (fun c39 => ?_) (fun c39 => absurd c39 (by decide))
    refine g_ild6 hC dX6_look_50 ?_
    refine g_iconst 2 hC dX6_look_52 (by decide) ?_
    refine g_icmp_ne 65 hC dX6_look_53 (by decide) (fun c53 => absurd c53 (by decide)) (fun c53 => ?_)
    refine g_ald0 hC dX6_look_56 ?_
    refine g_ild1 hC dX6_look_57 ?_
    refine g_iconst 1 hC dX6_look_58 (by decide) ?_
    refine k_X6_flawsIn (s := nI s) (how := 1) hC tw_4_193 dX6_look_59 (by decide) ⟨by omega, by omega⟩ (Nat.le_of_ble_eq_true rfl) (MI_mark hM hs hp p q r d) ?_
    refine g_goto 70 hC dX6_look_62 (by decide) ?_
    refine g_ist8 hC dX6_look_70 rfl ?_
    refine g_ald0 hC dX6_look_72 ?_
    refine mg_Model_many hC tw_4_31 dX6_look_73 ?_
    refine g_ild1 hC dX6_look_76 ?_
    refine g_dup2 hC dX6_look_77 rfl rfl ?_
    refine ml_many s hC rfl hs dX6_look_78 ?_
    refine g_iconst 1 hC dX6_look_79 (by decide) ?_
    refine g_isub hC dX6_look_80 ?_
    refine ms_many s hC rfl hs dX6_look_81 ?_
    refine g_ald0 hC dX6_look_82 ?_
    refine g_ild1 hC dX6_look_83 ?_
    refine k_X6_back hC tw_4_136 dX6_look_84 (by decide) ⟨by omega, by omega⟩ (Nat.le_of_ble_eq_true rfl) ?_
    refine g_ild8 hC dX6_look_87 ?_
    have e9 := look_back hM hN hs p q r d
    exact hE _ _ _ _ _ _ dX6_look_89 (by omega) (by omega) ⟨by rfl, e9⟩
  · refine g_ild6 hC dX6_look_26 ?_
    refine g_if_ne 36 hC dX6_look_28 (by decide) (fun c28 => ?_) (fun c28 => absurd c28 (by decide))
    refine g_ild6 hC dX6_look_36 ?_
    refine g_iconst 1 hC dX6_look_38 (by decide) ?_
    refine g_icmp_ne 50 hC dX6_look_39 (by decide) (fun c39 => ?_) (fun c39 => absurd c39 (by decide))
    refine g_ild6 hC dX6_look_50 ?_
    refine g_iconst 2 hC dX6_look_52 (by decide) ?_
    refine g_icmp_ne 65 hC dX6_look_53 (by decide) (fun c53 => ?_) (fun c53 => absurd c53 (by decide))
    refine g_ald0 hC dX6_look_65 ?_
    refine g_ild1 hC dX6_look_66 ?_
    refine k_X6_pairs (s := s) hC tw_4_189 dX6_look_67 (by decide) ⟨by omega, by omega⟩ (Nat.le_of_ble_eq_true rfl) ⟨hs, MI_mark hM hs hp p q r d⟩ ?_
    refine g_ist8 hC dX6_look_70 rfl ?_
    refine g_ald0 hC dX6_look_72 ?_
    refine mg_Model_many hC tw_4_31 dX6_look_73 ?_
    refine g_ild1 hC dX6_look_76 ?_
    refine g_dup2 hC dX6_look_77 rfl rfl ?_
    refine ml_many s hC rfl hs dX6_look_78 ?_
    refine g_iconst 1 hC dX6_look_79 (by decide) ?_
    refine g_isub hC dX6_look_80 ?_
    refine ms_many s hC rfl hs dX6_look_81 ?_
    refine g_ald0 hC dX6_look_82 ?_
    refine g_ild1 hC dX6_look_83 ?_
    refine k_X6_back hC tw_4_136 dX6_look_84 (by decide) ⟨by omega, by omega⟩ (Nat.le_of_ble_eq_true rfl) ?_
    refine g_ild8 hC dX6_look_87 ?_
    have e9 := look_back hM hN hs p q r d
    exact hE _ _ _ _ _ _ dX6_look_89 (by omega) (by omega) ⟨by rfl, e9⟩
theorem k_X6_look {l : Launch} {X : gC} {cc : ByteArray} {own : String} {dd ca sa kc nc pc : Nat} {ls : List (Option Value)} {st : List Value} {σ : Mem} {idx : Nat} {s : Nat} {p q r d : Int32} {w : Nat} (hC : gOk wM l X cc own dd ca sa) (hlk : Cond.methodLink own idx yX6_look ∈ TB) (hd : decode cc pc = .ok (.invokevirtual idx, 3)) (hdd : 7 + 1 ≤ dd) (hf : kc + 1 ≤ ca ∧ nc + 5 ≤ sa) (hrest : (st.map fun v => v.category).sum ≤ 8)  (hP : s < 8 ∧ MI σ ∧ NM σ ∧ nP σ s ≤ 16 ∧ w < 4) (kk : G wM X (kc + 1) (nc + 5) (pc + 3) ls (.int (sLook σ s p q r d w) :: st) (gLook σ s p q r d)) : G wM X kc nc pc ls (.int (nI w) :: .int d :: .int r :: .int q :: .int p :: .int (nI s) :: .ref (gA X 0) :: st) σ := by
  exact g_cVI 6 hC (c_X6_look l s p q r d w) hlk ⟨tw_4_231, tws_4_2, tw_1_7, tw_4_232⟩ (by decide +kernel) ⟨hdd, by decide⟩ hf rfl rfl rfl (gW_at wM _ _ (by decide)) hrest rfl hd hP (fun rr σ1 hq => by obtain ⟨rfl, rfl⟩ := hq; exact kk)
set_option maxRecDepth 100000 in
set_option maxHeartbeats 4000000 in
/-- X6_would -/
theorem c_X6_would (l : Launch) (s p q r d w : Int32) : gMI wM l yX6_would (.code yX6_would cX6_would 7 (some FieldType.int)) 8 1 5 (fun A => [.ref (A 0), .int s, .int p, .int q, .int r, .int d, .int w]) (fun τ => MI τ ∧ NM τ ∧ M16 τ) (fun τ rr τ1 => rr = (mWould τ s p q r d w).1 ∧ τ1 = (mWould τ s p q r d w).2) := by
  refine gMI_of (by decide) (fun A => Nat.le_of_ble_eq_true rfl) ?_
  intro X τ hC hP hE
  have hC : gOk wM l X cX6_would "GemCutModel" 8 1 5 := hC
  show G wM X 0 0 0 [some (.ref (gA X 0)), some (.int s), some (.int p), some (.int q), some (.int r), some (.int d), some (.int w)] [] τ
  refine g_ald0 hC dX6_would_0 ?_
  refine g_iconst 0 hC dX6_would_1 (by decide) ?_
  refine mp_Model_thrown hC tw_4_22 dX6_would_2 ?_
  refine g_ald0 hC dX6_would_5 ?_
  refine g_ild1 hC dX6_would_6 ?_
  refine k_X6_isStone hC tw_4_89 dX6_would_7 (by decide) ⟨by omega, by omega⟩ (Nat.le_of_ble_eq_true rfl) ?_
  refine g_if_eq 23 hC dX6_would_10 (by decide) (fun c10 => ?_) (fun c10 => ?_)
  · refine g_ald0 hC dX6_would_23 ?_
    refine g_iconst 1 hC dX6_would_24 (by decide) ?_
    refine k_X6_fail hC tw_4_67 dX6_would_25 (by decide) ⟨by omega, by omega⟩ (Nat.le_of_ble_eq_true rfl) ?_
    (try simp only [ne_eq, b2i_eq0, Bool.not_eq_false, Int32.not_le, Int32.not_lt, Int32.zero_sub] at c10)
    exact hE _ _ _ _ _ _ dX6_would_28 (by omega) (by omega) ⟨by simp [mWould, c10], by simp [mWould, c10]⟩
  · refine g_ild6 hC dX6_would_13 ?_
    refine g_iconst 0 hC dX6_would_15 (by decide) ?_
    refine g_iconst 3 hC dX6_would_16 (by decide) ?_
    refine k_X6_isIn hC tw_4_19 dX6_would_17 (by decide) ⟨by omega, by omega⟩ (Nat.le_of_ble_eq_true rfl) ?_
    refine g_if_ne 29 hC dX6_would_20 (by decide) (fun c20 => ?_) (fun c20 => ?_)
    · (try simp only [ne_eq, b2i_eq0, Bool.not_eq_false, Int32.not_le, Int32.not_lt, Int32.zero_sub] at c10 c20)
      have hM : MI (mTh τ) := MI_th hP.1 0
      obtain ⟨s0, hs1, hs2, rfl, hs4⟩ := sStone_at hM c10
      obtain ⟨w0, hw1, rfl, hw4⟩ := sIn_at (n := 3) (by decide) (by decide) c20
      have hm3 := M16_th hP.2.2 s0 hs1
      refine g_ild2 hC dX6_would_29 ?_
      refine g_ild3 hC dX6_would_30 ?_
      refine g_ild4 hC dX6_would_31 ?_
      refine g_ild5 hC dX6_would_33 ?_
      refine k_X6_isTilt hC tw_4_122 dX6_would_35 (by decide) ⟨by omega, by omega⟩ (Nat.le_of_ble_eq_true rfl) ?_
      refine g_if_eq 57 hC dX6_would_38 (by decide) (fun c38 => ?_) (fun c38 => ?_)
      · refine g_ald0 hC dX6_would_57 ?_
        refine g_iconst 2 hC dX6_would_58 (by decide) ?_
        refine k_X6_fail hC tw_4_67 dX6_would_59 (by decide) ⟨by omega, by omega⟩ (Nat.le_of_ble_eq_true rfl) ?_
        (try simp only [ne_eq, b2i_eq0, Bool.not_eq_false, Int32.not_le, Int32.not_lt, Int32.zero_sub] at c38)
        exact hE _ _ _ _ _ _ dX6_would_62 (by omega) (by omega) ⟨by simp [mWould, c10, c20, c38], by simp [mWould, c10, c20, c38]⟩
      · (try simp only [ne_eq, b2i_eq0, Bool.not_eq_false, Int32.not_le, Int32.not_lt, Int32.zero_sub] at c38)
        refine g_ald0 hC dX6_would_41 ?_
        refine g_ild1 hC dX6_would_42 ?_
        refine g_ild2 hC dX6_would_43 ?_
        refine g_ild3 hC dX6_would_44 ?_
        refine g_ild4 hC dX6_would_45 ?_
        refine g_ild5 hC dX6_would_47 ?_
        refine g_ild6 hC dX6_would_49 ?_
        refine k_X6_look (s := s0) (w := w0) hC tw_4_229 dX6_would_51 (by decide) ⟨by omega, by omega⟩ (Nat.le_of_ble_eq_true rfl) ⟨hs1, hM, NM_th hP.2.1, hm3, by omega⟩ ?_
        refine g_goto 62 hC dX6_would_54 (by decide) ?_
        skip
        exact hE _ _ _ _ _ _ dX6_would_62 (by omega) (by omega) ⟨by simp only [mWould, if_pos (And.intro c10 c20), c38, if_true, tn, hs4, hw4]; try rfl, by simp only [mWould, if_pos (And.intro c10 c20), c38, if_true, tn, hs4, hw4]; try rfl⟩
    · refine g_ald0 hC dX6_would_23 ?_
      refine g_iconst 1 hC dX6_would_24 (by decide) ?_
      refine k_X6_fail hC tw_4_67 dX6_would_25 (by decide) ⟨by omega, by omega⟩ (Nat.le_of_ble_eq_true rfl) ?_
      (try simp only [ne_eq, b2i_eq0, Bool.not_eq_false, Int32.not_le, Int32.not_lt, Int32.zero_sub] at c10 c20)
      exact hE _ _ _ _ _ _ dX6_would_28 (by omega) (by omega) ⟨by simp [mWould, c10, c20], by simp [mWould, c10, c20]⟩
theorem k_X6_would {l : Launch} {X : gC} {cc : ByteArray} {own : String} {dd ca sa kc nc pc : Nat} {ls : List (Option Value)} {st : List Value} {σ : Mem} {idx : Nat} {s p q r d w : Int32} (hC : gOk wM l X cc own dd ca sa) (hlk : Cond.methodLink own idx yX6_would ∈ TB) (hd : decode cc pc = .ok (.invokevirtual idx, 3)) (hdd : 8 + 1 ≤ dd) (hf : kc + 1 ≤ ca ∧ nc + 5 ≤ sa) (hrest : (st.map fun v => v.category).sum ≤ 8)  (hP : MI σ ∧ NM σ ∧ M16 σ) (kk : G wM X (kc + 1) (nc + 5) (pc + 3) ls (.int ((mWould σ s p q r d w).1) :: st) ((mWould σ s p q r d w).2)) : G wM X kc nc pc ls (.int w :: .int d :: .int r :: .int q :: .int p :: .int s :: .ref (gA X 0) :: st) σ := by
  exact g_cVI 6 hC (c_X6_would l s p q r d w) hlk ⟨tw_4_226, tw_4_227, tw_1_7, tw_4_228⟩ (by decide +kernel) ⟨hdd, by decide⟩ hf rfl rfl rfl (gW_at wM _ _ (by decide)) hrest rfl hd hP (fun rr σ1 hq => by obtain ⟨rfl, rfl⟩ := hq; exact kk)
