set_option maxRecDepth 100000 in
set_option maxHeartbeats 4000000 in
theorem c_L_take (l : Launch) (hst : l.stackTraces = false) (t : Mem) (co ro la : Int32) : gWI wXo l yL_take (.codeWith yL_take cL_take 6 (some FieldType.int) [(0, 12, 15, 13)]) 8 1 6 (fun A => [.ref (A 0), .int co, .int ro, .int la, .ref (A 195)]) (fun τ => RS τ t ∧ t 0 0 = 0) (fun τ rr τ1 => wP (mTake t co ro la) rr τ1) := by
  refine gWI_of (by decide) (fun A => Nat.le_of_ble_eq_true rfl) ?_
  intro X τ hC hZ0 hT hP hE
  have hC : gOk wXo l X cL_take "GemCutLaw" 8 1 6 := hC
  show G wXo X 0 0 0 [some (.ref (gA X 0)), some (.int co), some (.int ro), some (.int la), some (.ref (gA X 195)), none] [] τ
  refine g_ald4 hC dL_take_0 ?_
  refine g_iconst 0 hC dL_take_2 (by decide) ?_
  refine g_ald0 hC dL_take_3 ?_
  refine g_ild1 hC dL_take_4 ?_
  refine g_ild2 hC dL_take_5 ?_
  refine g_ild3 hC dL_take_6 ?_
  refine g_eXVI (o := 0) emb_o 3 hC hZ0 (c_X5_take l hst t co ro la) tw_2_119 ⟨tw_2_120, tw_2_121, tw_1_1, tw_2_122⟩ (by decide +kernel) ⟨by decide, by decide⟩ ⟨by omega, by omega⟩ rfl rfl rfl (gW_at wXo _ _ (by decide)) (Nat.le_of_ble_eq_true rfl) rfl dL_take_7 hP (fun rr σ1 hq => ?_) (fun ex σ1 hq => ?_)
  · refine g_i2l hC dL_take_10 ?_
    refine g_last (i := 195) hC (by decide) (fun ρ => oe_out _ ρ) dL_take_11 ?_
    refine g_goto 19 hC dL_take_12 (by decide) ?_
    refine g_iconst 0 hC dL_take_19 (by decide) ?_
    exact hE _ _ _ _ _ _ dL_take_20 (by omega) (by omega) (wP_ok hq)
  · obtain ⟨hx, hR1⟩ := hq
    obtain ⟨rfl, hm⟩ := hx
    refine g_catch (name := "java/lang/IllegalArgumentException") [] (0, 12, 15, 13) [] hC hT rfl (fun z hz => nomatch hz) rfl (by decide) tw_2_118 (by simp [NWc]) (fun q => ?_)
    refine g_ast5 hC dL_take_15 rfl ?_
    refine g_iconst 1 hC dL_take_17 (by decide) ?_
    exact hE _ _ _ _ _ _ dL_take_18 (by omega) (by omega) (wP_no (by decide) hm hR1)
set_option maxRecDepth 100000 in
set_option maxHeartbeats 4000000 in
theorem c_L_flaw (l : Launch) (hst : l.stackTraces = false) (t : Mem) (x y z ra se : Int32) : gWI wXo l yL_flaw (.codeWith yL_flaw cL_flaw 8 (some FieldType.int) [(0, 16, 19, 19), (0, 16, 23, 13), (0, 16, 27, 21)]) 8 2 12 (fun A => [.ref (A 0), .int x, .int y, .int z, .int ra, .int se, .ref (A 195)]) (fun τ => RS τ t ∧ t 0 0 = 0) (fun τ rr τ1 => wP (mFlaw t x y z ra se) rr τ1) := by
  refine gWI_of (by decide) (fun A => Nat.le_of_ble_eq_true rfl) ?_
  intro X τ hC hZ0 hT hP hE
  have hC : gOk wXo l X cL_flaw "GemCutLaw" 8 2 12 := hC
  show G wXo X 0 0 0 [some (.ref (gA X 0)), some (.int x), some (.int y), some (.int z), some (.int ra), some (.int se), some (.ref (gA X 195)), none] [] τ
  refine g_ald6 hC dL_flaw_0 ?_
  refine g_iconst 0 hC dL_flaw_2 (by decide) ?_
  refine g_ald0 hC dL_flaw_3 ?_
  refine g_ild1 hC dL_flaw_4 ?_
  refine g_ild2 hC dL_flaw_5 ?_
  refine g_ild3 hC dL_flaw_6 ?_
  refine g_ild4 hC dL_flaw_7 ?_
  refine g_ild5 hC dL_flaw_9 ?_
  refine g_eXVI (o := 0) emb_o 5 hC hZ0 (c_X5_flaw l hst t x y z ra se) tw_2_199 ⟨tw_2_200, tw_2_201, tw_1_1, tw_2_202⟩ (by decide +kernel) ⟨by decide, by decide⟩ ⟨by omega, by omega⟩ rfl rfl rfl (gW_at wXo _ _ (by decide)) (Nat.le_of_ble_eq_true rfl) rfl dL_flaw_11 hP (fun rr σ1 hq => ?_) (fun ex σ1 hq => ?_)
  · refine g_i2l hC dL_flaw_14 ?_
    refine g_last (i := 195) hC (by decide) (fun ρ => oe_out _ ρ) dL_flaw_15 ?_
    refine g_goto 31 hC dL_flaw_16 (by decide) ?_
    refine g_iconst 0 hC dL_flaw_31 (by decide) ?_
    exact hE _ _ _ _ _ _ dL_flaw_32 (by omega) (by omega) (wP_ok hq)
  · obtain ⟨hx, hR1⟩ := hq
    rcases hx with ⟨rfl, hm⟩ | ⟨rfl, hm⟩ | ⟨rfl, hm⟩
    · refine g_catch (name := "java/lang/IndexOutOfBoundsException") [] (0, 16, 19, 19) [(0, 16, 23, 13), (0, 16, 27, 21)] hC hT rfl (fun z hz => nomatch hz) rfl (by decide) tw_2_197 (by simp [NWc]) (fun q => ?_)
      refine g_ast7 hC dL_flaw_19 rfl ?_
      refine g_iconst 1 hC dL_flaw_21 (by decide) ?_
      exact hE _ _ _ _ _ _ dL_flaw_22 (by omega) (by omega) (wP_no (by decide) hm hR1)
    · refine g_catch (name := "java/lang/IllegalArgumentException") [(0, 16, 19, 19)] (0, 16, 23, 13) [(0, 16, 27, 21)] hC hT rfl (fun z hz => by
      simp only [List.mem_cons, List.not_mem_nil, or_false] at hz
      rcases hz with rfl
      · exact ⟨by decide, "java/lang/IndexOutOfBoundsException", tw_2_197, fun s h => h.1⟩) rfl (by decide) tw_2_118 (by simp [NWc]) (fun q => ?_)
      refine g_ast7 hC dL_flaw_23 rfl ?_
      refine g_iconst 2 hC dL_flaw_25 (by decide) ?_
      exact hE _ _ _ _ _ _ dL_flaw_26 (by omega) (by omega) (wP_no (by decide) hm hR1)
    · refine g_catch (name := "java/lang/IllegalStateException") [(0, 16, 19, 19), (0, 16, 23, 13)] (0, 16, 27, 21) [] hC hT rfl (fun z hz => by
      simp only [List.mem_cons, List.not_mem_nil, or_false] at hz
      rcases hz with rfl | rfl
      · exact ⟨by decide, "java/lang/IndexOutOfBoundsException", tw_2_197, fun s h => h.2.1⟩
      · exact ⟨by decide, "java/lang/IllegalArgumentException", tw_2_118, fun s h => h.2.2⟩) rfl (by decide) tw_2_198 (by simp [NWc]) (fun q => ?_)
      refine g_ast7 hC dL_flaw_27 rfl ?_
      refine g_iconst 3 hC dL_flaw_29 (by decide) ?_
      exact hE _ _ _ _ _ _ dL_flaw_30 (by omega) (by omega) (wP_no (by decide) hm hR1)
set_option maxRecDepth 100000 in
set_option maxHeartbeats 4000000 in
theorem c_L_cell (l : Launch) (hst : l.stackTraces = false) (t : Mem) (x y z : Int32) : gWI wXo l yL_cell (.codeWith yL_cell cL_cell 6 (some FieldType.int) [(0, 12, 15, 19)]) 8 1 6 (fun A => [.ref (A 0), .int x, .int y, .int z, .ref (A 195)]) (fun τ => RS τ t ∧ t 0 0 = 0) (fun τ rr τ1 => wP (mCell t x y z) rr τ1) := by
  refine gWI_of (by decide) (fun A => Nat.le_of_ble_eq_true rfl) ?_
  intro X τ hC hZ0 hT hP hE
  have hC : gOk wXo l X cL_cell "GemCutLaw" 8 1 6 := hC
  show G wXo X 0 0 0 [some (.ref (gA X 0)), some (.int x), some (.int y), some (.int z), some (.ref (gA X 195)), none] [] τ
  refine g_ald4 hC dL_cell_0 ?_
  refine g_iconst 0 hC dL_cell_2 (by decide) ?_
  refine g_ald0 hC dL_cell_3 ?_
  refine g_ild1 hC dL_cell_4 ?_
  refine g_ild2 hC dL_cell_5 ?_
  refine g_ild3 hC dL_cell_6 ?_
  refine g_eXVI (o := 0) emb_o 3 hC hZ0 (c_X5_cell l hst t x y z) tw_3_20 ⟨tw_3_21, tw_3_22, tw_1_1, tw_3_23⟩ (by decide +kernel) ⟨by decide, by decide⟩ ⟨by omega, by omega⟩ rfl rfl rfl (gW_at wXo _ _ (by decide)) (Nat.le_of_ble_eq_true rfl) rfl dL_cell_7 hP (fun rr σ1 hq => ?_) (fun ex σ1 hq => ?_)
  · refine g_i2l hC dL_cell_10 ?_
    refine g_last (i := 195) hC (by decide) (fun ρ => oe_out _ ρ) dL_cell_11 ?_
    refine g_goto 19 hC dL_cell_12 (by decide) ?_
    refine g_iconst 0 hC dL_cell_19 (by decide) ?_
    exact hE _ _ _ _ _ _ dL_cell_20 (by omega) (by omega) (wP_ok hq)
  · obtain ⟨hx, hR1⟩ := hq
    obtain ⟨rfl, hm⟩ := hx
    refine g_catch (name := "java/lang/IndexOutOfBoundsException") [] (0, 12, 15, 19) [] hC hT rfl (fun z hz => nomatch hz) rfl (by decide) tw_2_197 (by simp [NWc]) (fun q => ?_)
    refine g_ast5 hC dL_cell_15 rfl ?_
    refine g_iconst 1 hC dL_cell_17 (by decide) ?_
    exact hE _ _ _ _ _ _ dL_cell_18 (by omega) (by omega) (wP_no (by decide) hm hR1)
set_option maxRecDepth 100000 in
set_option maxHeartbeats 4000000 in
theorem c_L_flawIn (l : Launch) (hst : l.stackTraces = false) (t : Mem) (f s w : Int32) : gWI wXo l yL_flawIn (.codeWith yL_flawIn cL_flawIn 6 (some FieldType.int) [(0, 12, 15, 19)]) 8 3 18 (fun A => [.ref (A 0), .int f, .int s, .int w, .ref (A 195)]) (fun τ => RS τ t ∧ t 0 0 = 0) (fun τ rr τ1 => wP (mFlawIn t f s w) rr τ1) := by
  refine gWI_of (by decide) (fun A => Nat.le_of_ble_eq_true rfl) ?_
  intro X τ hC hZ0 hT hP hE
  have hC : gOk wXo l X cL_flawIn "GemCutLaw" 8 3 18 := hC
  show G wXo X 0 0 0 [some (.ref (gA X 0)), some (.int f), some (.int s), some (.int w), some (.ref (gA X 195)), none] [] τ
  refine g_ald4 hC dL_flawIn_0 ?_
  refine g_iconst 0 hC dL_flawIn_2 (by decide) ?_
  refine g_ald0 hC dL_flawIn_3 ?_
  refine g_ild1 hC dL_flawIn_4 ?_
  refine g_ild2 hC dL_flawIn_5 ?_
  refine g_ild3 hC dL_flawIn_6 ?_
  refine g_eXVI (o := 0) emb_o 3 hC hZ0 (c_X5_flawIn l hst t f s w) tw_3_28 ⟨tw_3_29, tw_3_30, tw_1_1, tw_3_31⟩ (by decide +kernel) ⟨by decide, by decide⟩ ⟨by omega, by omega⟩ rfl rfl rfl (gW_at wXo _ _ (by decide)) (Nat.le_of_ble_eq_true rfl) rfl dL_flawIn_7 hP (fun rr σ1 hq => ?_) (fun ex σ1 hq => ?_)
  · refine g_i2l hC dL_flawIn_10 ?_
    refine g_last (i := 195) hC (by decide) (fun ρ => oe_out _ ρ) dL_flawIn_11 ?_
    refine g_goto 19 hC dL_flawIn_12 (by decide) ?_
    refine g_iconst 0 hC dL_flawIn_19 (by decide) ?_
    exact hE _ _ _ _ _ _ dL_flawIn_20 (by omega) (by omega) (wP_ok hq)
  · obtain ⟨hx, hR1⟩ := hq
    obtain ⟨rfl, hm⟩ := hx
    refine g_catch (name := "java/lang/IndexOutOfBoundsException") [] (0, 12, 15, 19) [] hC hT rfl (fun z hz => nomatch hz) rfl (by decide) tw_2_197 (by simp [NWc]) (fun q => ?_)
    refine g_ast5 hC dL_flawIn_15 rfl ?_
    refine g_iconst 1 hC dL_flawIn_17 (by decide) ?_
    exact hE _ _ _ _ _ _ dL_flawIn_18 (by omega) (by omega) (wP_no (by decide) hm hR1)
set_option maxRecDepth 100000 in
set_option maxHeartbeats 4000000 in
theorem c_L_saw (l : Launch) (hst : l.stackTraces = false) (t : Mem) (s p q r d : Int32) : gWI wXo l yL_saw (.codeWith yL_saw cL_saw 8 (some FieldType.int) [(0, 16, 19, 19), (0, 16, 23, 13), (0, 16, 27, 21)]) 8 4 24 (fun A => [.ref (A 0), .int s, .int p, .int q, .int r, .int d, .ref (A 195)]) (fun τ => RS τ t ∧ t 0 0 = 0) (fun τ rr τ1 => wP (mSaw t s p q r d) rr τ1) := by
  refine gWI_of (by decide) (fun A => Nat.le_of_ble_eq_true rfl) ?_
  intro X τ hC hZ0 hT hP hE
  have hC : gOk wXo l X cL_saw "GemCutLaw" 8 4 24 := hC
  show G wXo X 0 0 0 [some (.ref (gA X 0)), some (.int s), some (.int p), some (.int q), some (.int r), some (.int d), some (.ref (gA X 195)), none] [] τ
  refine g_ald6 hC dL_saw_0 ?_
  refine g_iconst 0 hC dL_saw_2 (by decide) ?_
  refine g_ald0 hC dL_saw_3 ?_
  refine g_ild1 hC dL_saw_4 ?_
  refine g_ild2 hC dL_saw_5 ?_
  refine g_ild3 hC dL_saw_6 ?_
  refine g_ild4 hC dL_saw_7 ?_
  refine g_ild5 hC dL_saw_9 ?_
  refine g_eXVI (o := 0) emb_o 5 hC hZ0 (c_X5_saw l hst t s p q r d) tw_3_49 ⟨tw_3_50, tw_3_51, tw_1_1, tw_3_52⟩ (by decide +kernel) ⟨by decide, by decide⟩ ⟨by omega, by omega⟩ rfl rfl rfl (gW_at wXo _ _ (by decide)) (Nat.le_of_ble_eq_true rfl) rfl dL_saw_11 hP (fun rr σ1 hq => ?_) (fun ex σ1 hq => ?_)
  · refine g_i2l hC dL_saw_14 ?_
    refine g_last (i := 195) hC (by decide) (fun ρ => oe_out _ ρ) dL_saw_15 ?_
    refine g_goto 31 hC dL_saw_16 (by decide) ?_
    refine g_iconst 0 hC dL_saw_31 (by decide) ?_
    exact hE _ _ _ _ _ _ dL_saw_32 (by omega) (by omega) (wP_ok hq)
  · obtain ⟨hx, hR1⟩ := hq
    rcases hx with ⟨rfl, hm⟩ | ⟨rfl, hm⟩ | ⟨rfl, hm⟩
    · refine g_catch (name := "java/lang/IndexOutOfBoundsException") [] (0, 16, 19, 19) [(0, 16, 23, 13), (0, 16, 27, 21)] hC hT rfl (fun z hz => nomatch hz) rfl (by decide) tw_2_197 (by simp [NWc]) (fun q => ?_)
      refine g_ast7 hC dL_saw_19 rfl ?_
      refine g_iconst 1 hC dL_saw_21 (by decide) ?_
      exact hE _ _ _ _ _ _ dL_saw_22 (by omega) (by omega) (wP_no (by decide) hm hR1)
    · refine g_catch (name := "java/lang/IllegalArgumentException") [(0, 16, 19, 19)] (0, 16, 23, 13) [(0, 16, 27, 21)] hC hT rfl (fun z hz => by
      simp only [List.mem_cons, List.not_mem_nil, or_false] at hz
      rcases hz with rfl
      · exact ⟨by decide, "java/lang/IndexOutOfBoundsException", tw_2_197, fun s h => h.1⟩) rfl (by decide) tw_2_118 (by simp [NWc]) (fun q => ?_)
      refine g_ast7 hC dL_saw_23 rfl ?_
      refine g_iconst 2 hC dL_saw_25 (by decide) ?_
      exact hE _ _ _ _ _ _ dL_saw_26 (by omega) (by omega) (wP_no (by decide) hm hR1)
    · refine g_catch (name := "java/lang/IllegalStateException") [(0, 16, 19, 19), (0, 16, 23, 13)] (0, 16, 27, 21) [] hC hT rfl (fun z hz => by
      simp only [List.mem_cons, List.not_mem_nil, or_false] at hz
      rcases hz with rfl | rfl
      · exact ⟨by decide, "java/lang/IndexOutOfBoundsException", tw_2_197, fun s h => h.2.1⟩
      · exact ⟨by decide, "java/lang/IllegalArgumentException", tw_2_118, fun s h => h.2.2⟩) rfl (by decide) tw_2_198 (by simp [NWc]) (fun q => ?_)
      refine g_ast7 hC dL_saw_27 rfl ?_
      refine g_iconst 3 hC dL_saw_29 (by decide) ?_
      exact hE _ _ _ _ _ _ dL_saw_30 (by omega) (by omega) (wP_no (by decide) hm hR1)
set_option maxRecDepth 100000 in
set_option maxHeartbeats 4000000 in
theorem c_L_cut (l : Launch) (hst : l.stackTraces = false) (t : Mem) (s p q r d : Int32) : gWI wXo l yL_cut (.codeWith yL_cut cL_cut 8 (some FieldType.int) [(0, 16, 19, 19), (0, 16, 23, 13), (0, 16, 27, 21)]) 8 4 24 (fun A => [.ref (A 0), .int s, .int p, .int q, .int r, .int d, .ref (A 195)]) (fun τ => RS τ t ∧ t 0 0 = 0) (fun τ rr τ1 => wP (mCut t s p q r d) rr τ1) := by
  refine gWI_of (by decide) (fun A => Nat.le_of_ble_eq_true rfl) ?_
  intro X τ hC hZ0 hT hP hE
  have hC : gOk wXo l X cL_cut "GemCutLaw" 8 4 24 := hC
  show G wXo X 0 0 0 [some (.ref (gA X 0)), some (.int s), some (.int p), some (.int q), some (.int r), some (.int d), some (.ref (gA X 195)), none] [] τ
  refine g_ald6 hC dL_cut_0 ?_
  refine g_iconst 0 hC dL_cut_2 (by decide) ?_
  refine g_ald0 hC dL_cut_3 ?_
  refine g_ild1 hC dL_cut_4 ?_
  refine g_ild2 hC dL_cut_5 ?_
  refine g_ild3 hC dL_cut_6 ?_
  refine g_ild4 hC dL_cut_7 ?_
  refine g_ild5 hC dL_cut_9 ?_
  refine g_eXVI (o := 0) emb_o 5 hC hZ0 (c_X5_cut l hst t s p q r d) tw_3_99 ⟨tw_3_100, tw_3_101, tw_1_1, tw_3_102⟩ (by decide +kernel) ⟨by decide, by decide⟩ ⟨by omega, by omega⟩ rfl rfl rfl (gW_at wXo _ _ (by decide)) (Nat.le_of_ble_eq_true rfl) rfl dL_cut_11 hP (fun rr σ1 hq => ?_) (fun ex σ1 hq => ?_)
  · refine g_i2l hC dL_cut_14 ?_
    refine g_last (i := 195) hC (by decide) (fun ρ => oe_out _ ρ) dL_cut_15 ?_
    refine g_goto 31 hC dL_cut_16 (by decide) ?_
    refine g_iconst 0 hC dL_cut_31 (by decide) ?_
    exact hE _ _ _ _ _ _ dL_cut_32 (by omega) (by omega) (wP_ok hq)
  · obtain ⟨hx, hR1⟩ := hq
    rcases hx with ⟨rfl, hm⟩ | ⟨rfl, hm⟩ | ⟨rfl, hm⟩
    · refine g_catch (name := "java/lang/IndexOutOfBoundsException") [] (0, 16, 19, 19) [(0, 16, 23, 13), (0, 16, 27, 21)] hC hT rfl (fun z hz => nomatch hz) rfl (by decide) tw_2_197 (by simp [NWc]) (fun q => ?_)
      refine g_ast7 hC dL_cut_19 rfl ?_
      refine g_iconst 1 hC dL_cut_21 (by decide) ?_
      exact hE _ _ _ _ _ _ dL_cut_22 (by omega) (by omega) (wP_no (by decide) hm hR1)
    · refine g_catch (name := "java/lang/IllegalArgumentException") [(0, 16, 19, 19)] (0, 16, 23, 13) [(0, 16, 27, 21)] hC hT rfl (fun z hz => by
      simp only [List.mem_cons, List.not_mem_nil, or_false] at hz
      rcases hz with rfl
      · exact ⟨by decide, "java/lang/IndexOutOfBoundsException", tw_2_197, fun s h => h.1⟩) rfl (by decide) tw_2_118 (by simp [NWc]) (fun q => ?_)
      refine g_ast7 hC dL_cut_23 rfl ?_
      refine g_iconst 2 hC dL_cut_25 (by decide) ?_
      exact hE _ _ _ _ _ _ dL_cut_26 (by omega) (by omega) (wP_no (by decide) hm hR1)
    · refine g_catch (name := "java/lang/IllegalStateException") [(0, 16, 19, 19), (0, 16, 23, 13)] (0, 16, 27, 21) [] hC hT rfl (fun z hz => by
      simp only [List.mem_cons, List.not_mem_nil, or_false] at hz
      rcases hz with rfl | rfl
      · exact ⟨by decide, "java/lang/IndexOutOfBoundsException", tw_2_197, fun s h => h.2.1⟩
      · exact ⟨by decide, "java/lang/IllegalArgumentException", tw_2_118, fun s h => h.2.2⟩) rfl (by decide) tw_2_198 (by simp [NWc]) (fun q => ?_)
      refine g_ast7 hC dL_cut_27 rfl ?_
      refine g_iconst 3 hC dL_cut_29 (by decide) ?_
      exact hE _ _ _ _ _ _ dL_cut_30 (by omega) (by omega) (wP_no (by decide) hm hR1)
set_option maxRecDepth 100000 in
set_option maxHeartbeats 4000000 in
theorem c_L_polish (l : Launch) (hst : l.stackTraces = false) (t : Mem) (s k : Int32) : gWI wXo l yL_polish (.codeWith yL_polish cL_polish 5 (some FieldType.int) [(0, 10, 13, 19), (0, 10, 17, 21)]) 8 3 18 (fun A => [.ref (A 0), .int s, .int k, .ref (A 195)]) (fun τ => RS τ t ∧ t 0 0 = 0) (fun τ rr τ1 => wP (mPolish t s k) rr τ1) := by
  refine gWI_of (by decide) (fun A => Nat.le_of_ble_eq_true rfl) ?_
  intro X τ hC hZ0 hT hP hE
  have hC : gOk wXo l X cL_polish "GemCutLaw" 8 3 18 := hC
  show G wXo X 0 0 0 [some (.ref (gA X 0)), some (.int s), some (.int k), some (.ref (gA X 195)), none] [] τ
  refine g_ald3 hC dL_polish_0 ?_
  refine g_iconst 0 hC dL_polish_1 (by decide) ?_
  refine g_ald0 hC dL_polish_2 ?_
  refine g_ild1 hC dL_polish_3 ?_
  refine g_ild2 hC dL_polish_4 ?_
  refine g_eXVI (o := 0) emb_o 2 hC hZ0 (c_X5_polish l hst t s k) tw_3_116 ⟨tw_3_117, tw_3_118, tw_1_1, tw_3_119⟩ (by decide +kernel) ⟨by decide, by decide⟩ ⟨by omega, by omega⟩ rfl rfl rfl (gW_at wXo _ _ (by decide)) (Nat.le_of_ble_eq_true rfl) rfl dL_polish_5 hP (fun rr σ1 hq => ?_) (fun ex σ1 hq => ?_)
  · refine g_i2l hC dL_polish_8 ?_
    refine g_last (i := 195) hC (by decide) (fun ρ => oe_out _ ρ) dL_polish_9 ?_
    refine g_goto 21 hC dL_polish_10 (by decide) ?_
    refine g_iconst 0 hC dL_polish_21 (by decide) ?_
    exact hE _ _ _ _ _ _ dL_polish_22 (by omega) (by omega) (wP_ok hq)
  · obtain ⟨hx, hR1⟩ := hq
    rcases hx with ⟨rfl, hm⟩ | ⟨rfl, hm⟩
    · refine g_catch (name := "java/lang/IndexOutOfBoundsException") [] (0, 10, 13, 19) [(0, 10, 17, 21)] hC hT rfl (fun z hz => nomatch hz) rfl (by decide) tw_2_197 (by simp [NWc]) (fun q => ?_)
      refine g_ast4 hC dL_polish_13 rfl ?_
      refine g_iconst 1 hC dL_polish_15 (by decide) ?_
      exact hE _ _ _ _ _ _ dL_polish_16 (by omega) (by omega) (wP_no (by decide) hm hR1)
    · refine g_catch (name := "java/lang/IllegalStateException") [(0, 10, 13, 19)] (0, 10, 17, 21) [] hC hT rfl (fun z hz => by
      simp only [List.mem_cons, List.not_mem_nil, or_false] at hz
      rcases hz with rfl
      · exact ⟨by decide, "java/lang/IndexOutOfBoundsException", tw_2_197, fun s h => h.2.1⟩) rfl (by decide) tw_2_198 (by simp [NWc]) (fun q => ?_)
      refine g_ast4 hC dL_polish_17 rfl ?_
      refine g_iconst 2 hC dL_polish_19 (by decide) ?_
      exact hE _ _ _ _ _ _ dL_polish_20 (by omega) (by omega) (wP_no (by decide) hm hR1)
set_option maxRecDepth 100000 in
set_option maxHeartbeats 4000000 in
theorem c_L_stone (l : Launch) (hst : l.stackTraces = false) (t : Mem) (s w : Int32) : gWI wXo l yL_stone (.codeWith yL_stone cL_stone 5 (some FieldType.int) [(0, 10, 13, 19)]) 8 2 12 (fun A => [.ref (A 0), .int s, .int w, .ref (A 195)]) (fun τ => RS τ t ∧ t 0 0 = 0) (fun τ rr τ1 => wP (mStone t s w) rr τ1) := by
  refine gWI_of (by decide) (fun A => Nat.le_of_ble_eq_true rfl) ?_
  intro X τ hC hZ0 hT hP hE
  have hC : gOk wXo l X cL_stone "GemCutLaw" 8 2 12 := hC
  show G wXo X 0 0 0 [some (.ref (gA X 0)), some (.int s), some (.int w), some (.ref (gA X 195)), none] [] τ
  refine g_ald3 hC dL_stone_0 ?_
  refine g_iconst 0 hC dL_stone_1 (by decide) ?_
  refine g_ald0 hC dL_stone_2 ?_
  refine g_ild1 hC dL_stone_3 ?_
  refine g_ild2 hC dL_stone_4 ?_
  refine g_eXVI (o := 0) emb_o 2 hC hZ0 (c_X5_stone l hst t s w) tw_3_130 ⟨tw_3_131, tw_3_132, tw_1_1, tw_3_133⟩ (by decide +kernel) ⟨by decide, by decide⟩ ⟨by omega, by omega⟩ rfl rfl rfl (gW_at wXo _ _ (by decide)) (Nat.le_of_ble_eq_true rfl) rfl dL_stone_5 hP (fun rr σ1 hq => ?_) (fun ex σ1 hq => ?_)
  · refine g_i2l hC dL_stone_8 ?_
    refine g_last (i := 195) hC (by decide) (fun ρ => oe_out _ ρ) dL_stone_9 ?_
    refine g_goto 17 hC dL_stone_10 (by decide) ?_
    refine g_iconst 0 hC dL_stone_17 (by decide) ?_
    exact hE _ _ _ _ _ _ dL_stone_18 (by omega) (by omega) (wP_ok hq)
  · obtain ⟨hx, hR1⟩ := hq
    obtain ⟨rfl, hm⟩ := hx
    refine g_catch (name := "java/lang/IndexOutOfBoundsException") [] (0, 10, 13, 19) [] hC hT rfl (fun z hz => nomatch hz) rfl (by decide) tw_2_197 (by simp [NWc]) (fun q => ?_)
    refine g_ast4 hC dL_stone_13 rfl ?_
    refine g_iconst 1 hC dL_stone_15 (by decide) ?_
    exact hE _ _ _ _ _ _ dL_stone_16 (by omega) (by omega) (wP_no (by decide) hm hR1)
set_option maxRecDepth 100000 in
set_option maxHeartbeats 4000000 in
theorem c_L_plane (l : Launch) (hst : l.stackTraces = false) (t : Mem) (s k w : Int32) : gWI wXo l yL_plane (.codeWith yL_plane cL_plane 6 (some FieldType.int) [(0, 12, 15, 19)]) 8 3 18 (fun A => [.ref (A 0), .int s, .int k, .int w, .ref (A 195)]) (fun τ => RS τ t ∧ t 0 0 = 0) (fun τ rr τ1 => wP (mPlane t s k w) rr τ1) := by
  refine gWI_of (by decide) (fun A => Nat.le_of_ble_eq_true rfl) ?_
  intro X τ hC hZ0 hT hP hE
  have hC : gOk wXo l X cL_plane "GemCutLaw" 8 3 18 := hC
  show G wXo X 0 0 0 [some (.ref (gA X 0)), some (.int s), some (.int k), some (.int w), some (.ref (gA X 195)), none] [] τ
  refine g_ald4 hC dL_plane_0 ?_
  refine g_iconst 0 hC dL_plane_2 (by decide) ?_
  refine g_ald0 hC dL_plane_3 ?_
  refine g_ild1 hC dL_plane_4 ?_
  refine g_ild2 hC dL_plane_5 ?_
  refine g_ild3 hC dL_plane_6 ?_
  refine g_eXVI (o := 0) emb_o 3 hC hZ0 (c_X5_plane l hst t s k w) tw_3_137 ⟨tw_3_138, tw_3_139, tw_1_1, tw_3_140⟩ (by decide +kernel) ⟨by decide, by decide⟩ ⟨by omega, by omega⟩ rfl rfl rfl (gW_at wXo _ _ (by decide)) (Nat.le_of_ble_eq_true rfl) rfl dL_plane_7 hP (fun rr σ1 hq => ?_) (fun ex σ1 hq => ?_)
  · refine g_i2l hC dL_plane_10 ?_
    refine g_last (i := 195) hC (by decide) (fun ρ => oe_out _ ρ) dL_plane_11 ?_
    refine g_goto 19 hC dL_plane_12 (by decide) ?_
    refine g_iconst 0 hC dL_plane_19 (by decide) ?_
    exact hE _ _ _ _ _ _ dL_plane_20 (by omega) (by omega) (wP_ok hq)
  · obtain ⟨hx, hR1⟩ := hq
    obtain ⟨rfl, hm⟩ := hx
    refine g_catch (name := "java/lang/IndexOutOfBoundsException") [] (0, 12, 15, 19) [] hC hT rfl (fun z hz => nomatch hz) rfl (by decide) tw_2_197 (by simp [NWc]) (fun q => ?_)
    refine g_ast5 hC dL_plane_15 rfl ?_
    refine g_iconst 1 hC dL_plane_17 (by decide) ?_
    exact hE _ _ _ _ _ _ dL_plane_18 (by omega) (by omega) (wP_no (by decide) hm hR1)
set_option maxRecDepth 100000 in
set_option maxHeartbeats 4000000 in
theorem c_L_angle (l : Launch) (hst : l.stackTraces = false) (t : Mem) (s a b : Int32) : gWI wXo l yL_angle (.codeWith yL_angle cL_angle 6 (some FieldType.int) [(0, 12, 15, 19)]) 8 3 18 (fun A => [.ref (A 0), .int s, .int a, .int b, .ref (A 195)]) (fun τ => RS τ t ∧ t 0 0 = 0) (fun τ rr τ1 => wP (mAngle t s a b) rr τ1) := by
  refine gWI_of (by decide) (fun A => Nat.le_of_ble_eq_true rfl) ?_
  intro X τ hC hZ0 hT hP hE
  have hC : gOk wXo l X cL_angle "GemCutLaw" 8 3 18 := hC
  show G wXo X 0 0 0 [some (.ref (gA X 0)), some (.int s), some (.int a), some (.int b), some (.ref (gA X 195)), none] [] τ
  refine g_ald4 hC dL_angle_0 ?_
  refine g_iconst 0 hC dL_angle_2 (by decide) ?_
  refine g_ald0 hC dL_angle_3 ?_
  refine g_ild1 hC dL_angle_4 ?_
  refine g_ild2 hC dL_angle_5 ?_
  refine g_ild3 hC dL_angle_6 ?_
  refine g_eXVI (o := 0) emb_o 3 hC hZ0 (c_X5_angle l hst t s a b) tw_3_144 ⟨tw_3_145, tw_3_146, tw_1_1, tw_3_147⟩ (by decide +kernel) ⟨by decide, by decide⟩ ⟨by omega, by omega⟩ rfl rfl rfl (gW_at wXo _ _ (by decide)) (Nat.le_of_ble_eq_true rfl) rfl dL_angle_7 hP (fun rr σ1 hq => ?_) (fun ex σ1 hq => ?_)
  · refine g_i2l hC dL_angle_10 ?_
    refine g_last (i := 195) hC (by decide) (fun ρ => oe_out _ ρ) dL_angle_11 ?_
    refine g_goto 19 hC dL_angle_12 (by decide) ?_
    refine g_iconst 0 hC dL_angle_19 (by decide) ?_
    exact hE _ _ _ _ _ _ dL_angle_20 (by omega) (by omega) (wP_ok hq)
  · obtain ⟨hx, hR1⟩ := hq
    obtain ⟨rfl, hm⟩ := hx
    refine g_catch (name := "java/lang/IndexOutOfBoundsException") [] (0, 12, 15, 19) [] hC hT rfl (fun z hz => nomatch hz) rfl (by decide) tw_2_197 (by simp [NWc]) (fun q => ?_)
    refine g_ast5 hC dL_angle_15 rfl ?_
    refine g_iconst 1 hC dL_angle_17 (by decide) ?_
    exact hE _ _ _ _ _ _ dL_angle_18 (by omega) (by omega) (wP_no (by decide) hm hR1)
set_option maxRecDepth 100000 in
set_option maxHeartbeats 4000000 in
theorem c_L_count (l : Launch) (hst : l.stackTraces = false) (t : Mem) (w : Int32) : gWI wXo l yL_count (.codeWith yL_count cL_count 4 (some FieldType.int) [(0, 9, 12, 19)]) 8 1 6 (fun A => [.ref (A 0), .int w, .ref (A 195)]) (fun τ => RS τ t ∧ t 0 0 = 0) (fun τ rr τ1 => wP (mCount t w) rr τ1) := by
  refine gWI_of (by decide) (fun A => Nat.le_of_ble_eq_true rfl) ?_
  intro X τ hC hZ0 hT hP hE
  have hC : gOk wXo l X cL_count "GemCutLaw" 8 1 6 := hC
  show G wXo X 0 0 0 [some (.ref (gA X 0)), some (.int w), some (.ref (gA X 195)), none] [] τ
  refine g_ald2 hC dL_count_0 ?_
  refine g_iconst 0 hC dL_count_1 (by decide) ?_
  refine g_ald0 hC dL_count_2 ?_
  refine g_ild1 hC dL_count_3 ?_
  refine g_eXVI (o := 0) emb_o 1 hC hZ0 (c_X5_count l hst t w) tw_3_159 ⟨tw_3_160, tw_3_161, tw_1_1, tw_3_162⟩ (by decide +kernel) ⟨by decide, by decide⟩ ⟨by omega, by omega⟩ rfl rfl rfl (gW_at wXo _ _ (by decide)) (Nat.le_of_ble_eq_true rfl) rfl dL_count_4 hP (fun rr σ1 hq => ?_) (fun ex σ1 hq => ?_)
  · refine g_i2l hC dL_count_7 ?_
    refine g_last (i := 195) hC (by decide) (fun ρ => oe_out _ ρ) dL_count_8 ?_
    refine g_goto 15 hC dL_count_9 (by decide) ?_
    refine g_iconst 0 hC dL_count_15 (by decide) ?_
    exact hE _ _ _ _ _ _ dL_count_16 (by omega) (by omega) (wP_ok hq)
  · obtain ⟨hx, hR1⟩ := hq
    obtain ⟨rfl, hm⟩ := hx
    refine g_catch (name := "java/lang/IndexOutOfBoundsException") [] (0, 9, 12, 19) [] hC hT rfl (fun z hz => nomatch hz) rfl (by decide) tw_2_197 (by simp [NWc]) (fun q => ?_)
    refine g_ast3 hC dL_count_12 rfl ?_
    refine g_iconst 1 hC dL_count_13 (by decide) ?_
    exact hE _ _ _ _ _ _ dL_count_14 (by omega) (by omega) (wP_no (by decide) hm hR1)
set_option maxRecDepth 100000 in
set_option maxHeartbeats 4000000 in
theorem c_L_would (l : Launch) (hst : l.stackTraces = false) (t : Mem) (s p q r d w : Int32) : gWI wXo l yL_would (.codeWith yL_would cL_would 9 (some FieldType.int) [(0, 18, 21, 19), (0, 18, 25, 13)]) 8 4 24 (fun A => [.ref (A 0), .int s, .int p, .int q, .int r, .int d, .int w, .ref (A 195)]) (fun τ => RS τ t ∧ t 0 0 = 0) (fun τ rr τ1 => wP (mWould t s p q r d w) rr τ1) := by
  refine gWI_of (by decide) (fun A => Nat.le_of_ble_eq_true rfl) ?_
  intro X τ hC hZ0 hT hP hE
  have hC : gOk wXo l X cL_would "GemCutLaw" 8 4 24 := hC
  show G wXo X 0 0 0 [some (.ref (gA X 0)), some (.int s), some (.int p), some (.int q), some (.int r), some (.int d), some (.int w), some (.ref (gA X 195)), none] [] τ
  refine g_ald7 hC dL_would_0 ?_
  refine g_iconst 0 hC dL_would_2 (by decide) ?_
  refine g_ald0 hC dL_would_3 ?_
  refine g_ild1 hC dL_would_4 ?_
  refine g_ild2 hC dL_would_5 ?_
  refine g_ild3 hC dL_would_6 ?_
  refine g_ild4 hC dL_would_7 ?_
  refine g_ild5 hC dL_would_9 ?_
  refine g_ild6 hC dL_would_11 ?_
  refine g_eXVI (o := 0) emb_o 6 hC hZ0 (c_X5_would l hst t s p q r d w) tw_3_166 ⟨tw_3_167, tw_3_168, tw_1_1, tw_3_169⟩ (by decide +kernel) ⟨by decide, by decide⟩ ⟨by omega, by omega⟩ rfl rfl rfl (gW_at wXo _ _ (by decide)) (Nat.le_of_ble_eq_true rfl) rfl dL_would_13 hP (fun rr σ1 hq => ?_) (fun ex σ1 hq => ?_)
  · refine g_i2l hC dL_would_16 ?_
    refine g_last (i := 195) hC (by decide) (fun ρ => oe_out _ ρ) dL_would_17 ?_
    refine g_goto 29 hC dL_would_18 (by decide) ?_
    refine g_iconst 0 hC dL_would_29 (by decide) ?_
    exact hE _ _ _ _ _ _ dL_would_30 (by omega) (by omega) (wP_ok hq)
  · obtain ⟨hx, hR1⟩ := hq
    rcases hx with ⟨rfl, hm⟩ | ⟨rfl, hm⟩
    · refine g_catch (name := "java/lang/IndexOutOfBoundsException") [] (0, 18, 21, 19) [(0, 18, 25, 13)] hC hT rfl (fun z hz => nomatch hz) rfl (by decide) tw_2_197 (by simp [NWc]) (fun q => ?_)
      refine g_ast8 hC dL_would_21 rfl ?_
      refine g_iconst 1 hC dL_would_23 (by decide) ?_
      exact hE _ _ _ _ _ _ dL_would_24 (by omega) (by omega) (wP_no (by decide) hm hR1)
    · refine g_catch (name := "java/lang/IllegalArgumentException") [(0, 18, 21, 19)] (0, 18, 25, 13) [] hC hT rfl (fun z hz => by
      simp only [List.mem_cons, List.not_mem_nil, or_false] at hz
      rcases hz with rfl
      · exact ⟨by decide, "java/lang/IndexOutOfBoundsException", tw_2_197, fun s h => h.1⟩) rfl (by decide) tw_2_118 (by simp [NWc]) (fun q => ?_)
      refine g_ast8 hC dL_would_25 rfl ?_
      refine g_iconst 2 hC dL_would_27 (by decide) ?_
      exact hE _ _ _ _ _ _ dL_would_28 (by omega) (by omega) (wP_no (by decide) hm hR1)
set_option maxRecDepth 100000 in
set_option maxHeartbeats 4000000 in
theorem c_L_depth (l : Launch) (hst : l.stackTraces = false) (t : Mem) (s p q r : Int32) : gWI wXo l yL_depth (.codeWith yL_depth cL_depth 7 (some FieldType.int) [(0, 14, 17, 19), (0, 14, 21, 13), (0, 14, 25, 21)]) 8 3 18 (fun A => [.ref (A 0), .int s, .int p, .int q, .int r, .ref (A 195)]) (fun τ => RS τ t ∧ t 0 0 = 0) (fun τ rr τ1 => wP (mDepth t s p q r) rr τ1) := by
  refine gWI_of (by decide) (fun A => Nat.le_of_ble_eq_true rfl) ?_
  intro X τ hC hZ0 hT hP hE
  have hC : gOk wXo l X cL_depth "GemCutLaw" 8 3 18 := hC
  show G wXo X 0 0 0 [some (.ref (gA X 0)), some (.int s), some (.int p), some (.int q), some (.int r), some (.ref (gA X 195)), none] [] τ
  refine g_ald5 hC dL_depth_0 ?_
  refine g_iconst 0 hC dL_depth_2 (by decide) ?_
  refine g_ald0 hC dL_depth_3 ?_
  refine g_ild1 hC dL_depth_4 ?_
  refine g_ild2 hC dL_depth_5 ?_
  refine g_ild3 hC dL_depth_6 ?_
  refine g_ild4 hC dL_depth_7 ?_
  refine g_eXVI (o := 0) emb_o 4 hC hZ0 (c_X5_depth l hst t s p q r) tw_3_215 ⟨tw_3_216, tw_3_217, tw_1_1, tw_3_218⟩ (by decide +kernel) ⟨by decide, by decide⟩ ⟨by omega, by omega⟩ rfl rfl rfl (gW_at wXo _ _ (by decide)) (Nat.le_of_ble_eq_true rfl) rfl dL_depth_9 hP (fun rr σ1 hq => ?_) (fun ex σ1 hq => ?_)
  · refine g_i2l hC dL_depth_12 ?_
    refine g_last (i := 195) hC (by decide) (fun ρ => oe_out _ ρ) dL_depth_13 ?_
    refine g_goto 29 hC dL_depth_14 (by decide) ?_
    refine g_iconst 0 hC dL_depth_29 (by decide) ?_
    exact hE _ _ _ _ _ _ dL_depth_30 (by omega) (by omega) (wP_ok hq)
  · obtain ⟨hx, hR1⟩ := hq
    rcases hx with ⟨rfl, hm⟩ | ⟨rfl, hm⟩ | ⟨rfl, hm⟩
    · refine g_catch (name := "java/lang/IndexOutOfBoundsException") [] (0, 14, 17, 19) [(0, 14, 21, 13), (0, 14, 25, 21)] hC hT rfl (fun z hz => nomatch hz) rfl (by decide) tw_2_197 (by simp [NWc]) (fun q => ?_)
      refine g_ast6 hC dL_depth_17 rfl ?_
      refine g_iconst 1 hC dL_depth_19 (by decide) ?_
      exact hE _ _ _ _ _ _ dL_depth_20 (by omega) (by omega) (wP_no (by decide) hm hR1)
    · refine g_catch (name := "java/lang/IllegalArgumentException") [(0, 14, 17, 19)] (0, 14, 21, 13) [(0, 14, 25, 21)] hC hT rfl (fun z hz => by
      simp only [List.mem_cons, List.not_mem_nil, or_false] at hz
      rcases hz with rfl
      · exact ⟨by decide, "java/lang/IndexOutOfBoundsException", tw_2_197, fun s h => h.1⟩) rfl (by decide) tw_2_118 (by simp [NWc]) (fun q => ?_)
      refine g_ast6 hC dL_depth_21 rfl ?_
      refine g_iconst 2 hC dL_depth_23 (by decide) ?_
      exact hE _ _ _ _ _ _ dL_depth_24 (by omega) (by omega) (wP_no (by decide) hm hR1)
    · refine g_catch (name := "java/lang/IllegalStateException") [(0, 14, 17, 19), (0, 14, 21, 13)] (0, 14, 25, 21) [] hC hT rfl (fun z hz => by
      simp only [List.mem_cons, List.not_mem_nil, or_false] at hz
      rcases hz with rfl | rfl
      · exact ⟨by decide, "java/lang/IndexOutOfBoundsException", tw_2_197, fun s h => h.2.1⟩
      · exact ⟨by decide, "java/lang/IllegalArgumentException", tw_2_118, fun s h => h.2.2⟩) rfl (by decide) tw_2_198 (by simp [NWc]) (fun q => ?_)
      refine g_ast6 hC dL_depth_25 rfl ?_
      refine g_iconst 3 hC dL_depth_27 (by decide) ?_
      exact hE _ _ _ _ _ _ dL_depth_28 (by omega) (by omega) (wP_no (by decide) hm hR1)
set_option maxRecDepth 100000 in
set_option maxHeartbeats 4000000 in
theorem c_L_rid (l : Launch) (hst : l.stackTraces = false) (t : Mem) (f s w : Int32) : gWI wXo l yL_rid (.codeWith yL_rid cL_rid 6 (some FieldType.int) [(0, 12, 15, 19)]) 8 3 18 (fun A => [.ref (A 0), .int f, .int s, .int w, .ref (A 195)]) (fun τ => RS τ t ∧ t 0 0 = 0) (fun τ rr τ1 => wP (mRid t f s w) rr τ1) := by
  refine gWI_of (by decide) (fun A => Nat.le_of_ble_eq_true rfl) ?_
  intro X τ hC hZ0 hT hP hE
  have hC : gOk wXo l X cL_rid "GemCutLaw" 8 3 18 := hC
  show G wXo X 0 0 0 [some (.ref (gA X 0)), some (.int f), some (.int s), some (.int w), some (.ref (gA X 195)), none] [] τ
  refine g_ald4 hC dL_rid_0 ?_
  refine g_iconst 0 hC dL_rid_2 (by decide) ?_
  refine g_ald0 hC dL_rid_3 ?_
  refine g_ild1 hC dL_rid_4 ?_
  refine g_ild2 hC dL_rid_5 ?_
  refine g_ild3 hC dL_rid_6 ?_
  refine g_eXVI (o := 0) emb_o 3 hC hZ0 (c_X5_rid l hst t f s w) tw_3_232 ⟨tw_3_233, tw_3_234, tw_1_1, tw_3_235⟩ (by decide +kernel) ⟨by decide, by decide⟩ ⟨by omega, by omega⟩ rfl rfl rfl (gW_at wXo _ _ (by decide)) (Nat.le_of_ble_eq_true rfl) rfl dL_rid_7 hP (fun rr σ1 hq => ?_) (fun ex σ1 hq => ?_)
  · refine g_i2l hC dL_rid_10 ?_
    refine g_last (i := 195) hC (by decide) (fun ρ => oe_out _ ρ) dL_rid_11 ?_
    refine g_goto 19 hC dL_rid_12 (by decide) ?_
    refine g_iconst 0 hC dL_rid_19 (by decide) ?_
    exact hE _ _ _ _ _ _ dL_rid_20 (by omega) (by omega) (wP_ok hq)
  · obtain ⟨hx, hR1⟩ := hq
    obtain ⟨rfl, hm⟩ := hx
    refine g_catch (name := "java/lang/IndexOutOfBoundsException") [] (0, 12, 15, 19) [] hC hT rfl (fun z hz => nomatch hz) rfl (by decide) tw_2_197 (by simp [NWc]) (fun q => ?_)
    refine g_ast5 hC dL_rid_15 rfl ?_
    refine g_iconst 1 hC dL_rid_17 (by decide) ?_
    exact hE _ _ _ _ _ _ dL_rid_18 (by omega) (by omega) (wP_no (by decide) hm hR1)
