set_option maxRecDepth 100000 in
set_option maxHeartbeats 4000000 in
theorem c_X1_init (l : Launch) : gKI l yX1_init (.code yX1_init cX1_init 1 none) 1 0 0 1 [.int 0, .int 0, .int 0, .int 0, .int 0, .int 0, .int 0] [] 1 (fun _ _ _ e => e 0 = .inr (1, [.int 0, .int 0, .int 0, .int 0, .int 0, .int 0, .int 0])) := by
  refine gKI_of (by decide) rfl (fun _ => Nat.le_of_ble_eq_true rfl) ?_
  intro X h0 hC hI hE
  have hC : zOk l X (fun _ => h0) 1 cX1_init "GemCut$Plane" 1 0 0 := hC
  show G (pZ 1 (fun _ => .inr (1, [.int 0, .int 0, .int 0, .int 0, .int 0, .int 0, .int 0]))) (sx X (fun _ => h0)) 0 0 0 [some (.ref h0)] [] zM
  refine g_ald0 (hC _) dX1_init_0 ?_
  refine z_obj (hC _) (by decide) tw_1_110 dX1_init_1 (Nat.le_of_ble_eq_true rfl) ?_
  exact hE _ _ _ _ (fun _ => h0) _ dX1_init_4 (by omega) (by omega) rfl hC rfl
set_option maxRecDepth 100000 in
set_option maxHeartbeats 4000000 in
theorem c_X0_init (l : Launch) : gKI l yX0_init (.code yX0_init cX0_init 1 none) 1 3 79 0 [.int 0, .null, .int 0, .null, .null] [] 4 (fun _ cy A e => e 0 = .inr (0, [.int 0, .ref (A 1), .int 0, .ref (A 2), .ref (A 3)]) ∧ e 1 = .inl (cy 0, 63, .inl (fun _ => 0)) ∧ e 2 = .inl (cy 0, 8, .inl (fun _ => 0)) ∧ e 3 = .inl (cy 0, 8, .inl (fun _ => 0))) := by
  refine gKI_of (by decide) rfl (fun _ => Nat.le_of_ble_eq_true rfl) ?_
  intro X h0 hC hI hE
  have hC : zOk l X (fun _ => h0) 1 cX0_init "GemCut$Flaw" 1 3 79 := hC
  show G (pZ 1 (fun _ => .inr (0, [.int 0, .null, .int 0, .null, .null]))) (sx X (fun _ => h0)) 0 0 0 [some (.ref h0)] [] zM
  refine g_ald0 (hC _) dX0_init_0 ?_
  refine z_obj (hC _) (by decide) tw_1_36 dX0_init_1 (Nat.le_of_ble_eq_true rfl) ?_
  refine g_ald0 (hC _) dX0_init_4 ?_
  refine g_bipush 63 (hC _) dX0_init_5 (by decide) ?_
  refine z_newa (t0 := 0) (N' := 63) (ty := .int) .int (hC := hC) tw_1_57 rfl (fun _ => rfl) (fun _ => rfl) (fun _ _ => rfl) (by decide) (by decide) (by decide) ⟨by omega, by omega⟩ dX0_init_7 ?_
  intro q1 hC
  refine z_putF (i := 0) (ci := 0) (C := "GemCut$Flaw") (T := TX0) (N := 5) (fs := [.int 0, .null, .int 0, .null, .null]) (ty := (.array (.int))) tyX0 hC hI rfl iw_X0 tyX0_ok nmX0 rfl (by omega) rfl 1 (by decide) tw_1_38 rfl rfl (by decide +kernel) rfl rfl (by simp) dX0_init_9 ?_
  refine g_ald0 (hC _) dX0_init_12 ?_
  refine g_bipush 8 (hC _) dX0_init_13 (by decide) ?_
  refine z_newa (t0 := 0) (N' := 8) (ty := .int) .int (hC := hC) tw_1_57 rfl (fun _ => rfl) (fun _ => rfl) (fun _ _ => rfl) (by decide) (by decide) (by decide) ⟨by omega, by omega⟩ dX0_init_15 ?_
  intro q2 hC
  refine z_putF (i := 0) (ci := 0) (C := "GemCut$Flaw") (T := TX0) (N := 5) (fs := [.int 0, .ref q1, .int 0, .null, .null]) (ty := (.array (.int))) tyX0 hC hI rfl iw_X0 tyX0_ok nmX0 rfl (by omega) rfl 3 (by decide) tw_1_42 rfl rfl (by decide +kernel) rfl rfl (by simp) dX0_init_17 ?_
  refine g_ald0 (hC _) dX0_init_20 ?_
  refine g_bipush 8 (hC _) dX0_init_21 (by decide) ?_
  refine z_newa (t0 := 0) (N' := 8) (ty := .int) .int (hC := hC) tw_1_57 rfl (fun _ => rfl) (fun _ => rfl) (fun _ _ => rfl) (by decide) (by decide) (by decide) ⟨by omega, by omega⟩ dX0_init_23 ?_
  intro q3 hC
  refine z_putF (i := 0) (ci := 0) (C := "GemCut$Flaw") (T := TX0) (N := 5) (fs := [.int 0, .ref q1, .int 0, .ref q2, .null]) (ty := (.array (.int))) tyX0 hC hI rfl iw_X0 tyX0_ok nmX0 rfl (by omega) rfl 4 (by decide) tw_1_44 rfl rfl (by decide +kernel) rfl rfl (by simp) dX0_init_25 ?_
  exact hE _ _ _ _ _ _ dX0_init_28 (by omega) (by omega) rfl hC ⟨rfl, rfl, rfl, rfl⟩
set_option maxRecDepth 100000 in
set_option maxHeartbeats 4000000 in
theorem c_X4_init (l : Launch) (r s : Nat) : gKI l yX4_init (.code yX4_init cX4_init 3 none) 2 4 1186 4 [.null, .null, .null, .null, .null, .null] [.ref r, .ref s] 5 (fun _ cy A e => e 0 = .inr (4, [.ref r, .ref s, .ref (A 1), .ref (A 2), .ref (A 3), .ref (A 4)]) ∧ e 1 = .inr (1, [.int 0, .int 0, .int 0, .int 0, .int 0, .int 0, .int 0]) ∧ e 2 = .inl (cy 0, 1000, .inl (fun _ => 0)) ∧ e 3 = .inl (cy 0, 163, .inl (fun _ => 0)) ∧ e 4 = .inl (cy 0, 16, .inl (fun _ => 0))) := by
  refine gKI_of (by decide) rfl (fun _ => Nat.le_of_ble_eq_true rfl) ?_
  intro X h0 hC hI hE
  have hC : zOk l X (fun _ => h0) 1 cX4_init "GemCut$Trial" 2 4 1186 := hC
  show G (pZ 1 (fun _ => .inr (4, [.null, .null, .null, .null, .null, .null]))) (sx X (fun _ => h0)) 0 0 0 [some (.ref h0), some (.ref r), some (.ref s)] [] zM
  refine g_ald0 (hC _) dX4_init_0 ?_
  refine z_obj (hC _) (by decide) tw_1_169 dX4_init_1 (Nat.le_of_ble_eq_true rfl) ?_
  refine g_ald0 (hC _) dX4_init_4 ?_
  refine z_new (ci := 1) (C := "GemCut$Plane") (T := TX1) (N := 7) (fs := [.int 0, .int 0, .int 0, .int 0, .int 0, .int 0, .int 0]) tyX1 hC iw_X1 tyX1_ok tw_1_170 tw_1_106 tw_1_5 rfl (fun j hj => by match j, hj with | 0, _ => rfl | 1, _ => rfl | 2, _ => rfl | 3, _ => rfl | 4, _ => rfl | 5, _ => rfl | 6, _ => rfl) ⟨by omega, by omega⟩ dX4_init_5 ?_
  intro q1 hC
  refine g_dup (hC _) dX4_init_8 rfl ?_
  refine z_callN (n := 1) (as := []) (rest := [.ref q1, .ref h0]) 0 hC hI (c_X1_init l) rfl rfl (show Cond.methodLinkNest "GemCut$Trial" 11 yX1_init "GemCut" ∈ NWn by simp [NWn]) ⟨tw_1_108, tw_1_5, tw_1_109⟩ rfl ⟨by decide, by decide, by decide +kernel⟩ ⟨by decide, by decide⟩ ⟨by omega, by omega⟩ rfl (Nat.le_of_ble_eq_true rfl) rfl dX4_init_9 ?_
  intro Ab eb hA0 hQ hC
  refine z_putF (i := 0) (ci := 4) (C := "GemCut$Trial") (T := TX4) (N := 6) (fs := [.null, .null, .null, .null, .null, .null]) (ty := (.object "GemCut$Plane")) tyX4 hC hI rfl iw_X4 tyX4_ok nmX4 rfl (by omega) rfl 2 (by decide) tw_1_174 rfl rfl (by decide +kernel) rfl rfl (by simp) dX4_init_12 ?_
  refine g_ald0 (hC _) dX4_init_15 ?_
  refine g_sipush 1000 (hC _) dX4_init_16 (by decide) ?_
  refine z_newa (t0 := 0) (N' := 1000) (ty := .int) .int (hC := hC) tw_1_57 rfl (fun _ => rfl) (fun _ => rfl) (fun _ _ => rfl) (by decide) (by decide) (by decide) ⟨by omega, by omega⟩ dX4_init_19 ?_
  intro q2 hC
  refine z_putF (i := 0) (ci := 4) (C := "GemCut$Trial") (T := TX4) (N := 6) (fs := [.null, .null, .ref q1, .null, .null, .null]) (ty := (.array (.int))) tyX4 hC hI rfl iw_X4 tyX4_ok nmX4 rfl (by omega) rfl 3 (by decide) tw_1_175 rfl rfl (by decide +kernel) rfl rfl (by simp) dX4_init_21 ?_
  refine g_ald0 (hC _) dX4_init_24 ?_
  refine g_sipush 163 (hC _) dX4_init_25 (by decide) ?_
  refine z_newa (t0 := 0) (N' := 163) (ty := .int) .int (hC := hC) tw_1_57 rfl (fun _ => rfl) (fun _ => rfl) (fun _ _ => rfl) (by decide) (by decide) (by decide) ⟨by omega, by omega⟩ dX4_init_28 ?_
  intro q3 hC
  refine z_putF (i := 0) (ci := 4) (C := "GemCut$Trial") (T := TX4) (N := 6) (fs := [.null, .null, .ref q1, .ref q2, .null, .null]) (ty := (.array (.int))) tyX4 hC hI rfl iw_X4 tyX4_ok nmX4 rfl (by omega) rfl 4 (by decide) tw_1_176 rfl rfl (by decide +kernel) rfl rfl (by simp) dX4_init_30 ?_
  refine g_ald0 (hC _) dX4_init_33 ?_
  refine g_bipush 16 (hC _) dX4_init_34 (by decide) ?_
  refine z_newa (t0 := 0) (N' := 16) (ty := .int) .int (hC := hC) tw_1_57 rfl (fun _ => rfl) (fun _ => rfl) (fun _ _ => rfl) (by decide) (by decide) (by decide) ⟨by omega, by omega⟩ dX4_init_36 ?_
  intro q4 hC
  refine z_putF (i := 0) (ci := 4) (C := "GemCut$Trial") (T := TX4) (N := 6) (fs := [.null, .null, .ref q1, .ref q2, .ref q3, .null]) (ty := (.array (.int))) tyX4 hC hI rfl iw_X4 tyX4_ok nmX4 rfl (by omega) rfl 5 (by decide) tw_1_177 rfl rfl (by decide +kernel) rfl rfl (by simp) dX4_init_38 ?_
  refine g_ald0 (hC _) dX4_init_41 ?_
  refine g_ald1 (hC _) dX4_init_42 ?_
  refine z_putF (i := 0) (ci := 4) (C := "GemCut$Trial") (T := TX4) (N := 6) (fs := [.null, .null, .ref q1, .ref q2, .ref q3, .ref q4]) (ty := (.object "GemCut$Rough")) tyX4 hC hI rfl iw_X4 tyX4_ok nmX4 rfl (by omega) rfl 0 (by decide) tw_1_172 rfl rfl (by decide +kernel) rfl rfl (by simp) dX4_init_43 ?_
  refine g_ald0 (hC _) dX4_init_46 ?_
  refine g_ald2 (hC _) dX4_init_47 ?_
  refine z_put (i := 0) (ci := 4) (C := "GemCut$Trial") (T := TX4) (N := 6) (fs := [.ref r, .null, .ref q1, .ref q2, .ref q3, .ref q4]) (ty := (.object "GemCut$Stone")) tyX4 hC rfl iw_X4 tyX4_ok nmX4 rfl (by omega) rfl 1 (by decide) tw_1_173 rfl (by decide +kernel) rfl rfl (by simp) dX4_init_48 ?_
  exact hE _ _ _ _ _ _ dX4_init_51 (by omega) (by omega) rfl hC ⟨congrArg (fun a => (Sum.inr (4, [.ref r, .ref s, .ref a, .ref q2, .ref q3, .ref q4]) : va_E)) hA0.symm, hQ, rfl, rfl, rfl⟩
