set_option maxRecDepth 100000 in
set_option maxHeartbeats 4000000 in
theorem c_X2_init (l : Launch) : gKI l yX2_init (.code yX2_init cX2_init 2 none) 2 43 2850 2 [.int 0, .int 0, .int 0, .null, .null, .null, .int 0] [] 44 (fun _ cy A e => roQ cy A e) := by
  refine gKI_of (by decide) rfl (fun _ => Nat.le_of_ble_eq_true rfl) ?_
  intro X h0 hC hI hE
  have hC : zOk l X (fun _ => h0) 1 cX2_init "GemCut$Rough" 2 43 2850 := hC
  show G (pZ 1 (fun _ => .inr (2, [.int 0, .int 0, .int 0, .null, .null, .null, .int 0]))) (sx X (fun _ => h0)) 0 0 0 [some (.ref h0), none] [] zM
  have lp : ∀ (w k cs ss : Nat) (A : Nat → Nat) (e : Nat → va_E) (f : Nat → Option Nat), k + w = 10 → cs = 3 + 4 * k → ss = 2010 + 84 * k → A 0 = h0 → e 0 = .inr (2, [.int 0, .int 0, .int 0, .ref (A 1), .ref (A 2), .ref (A 3), .int 0]) → e 1 = .inl (zY X 0, 1000, .inl (fun _ => 0)) → e 2 = .inl (zY X 1, 1000, .inl (fun _ => 0)) → e 3 = .inl (zY X 2, 10, .inr (.inr (.inr (.inr f)))) → (∀ j, j < k → f j = some (A (4 + 4 * j))) → (∀ j, j < k → flQ (zY X) (fun i => A (4 + 4 * j + i)) (fun i => e (4 + 4 * j + i))) → zOk l X A (4 + 4 * k) cX2_init "GemCut$Rough" 2 43 2850 → G (pZ (4 + 4 * k) e) (sx X A) cs ss 33 [some (.ref h0), some (.int (nI k))] [] zM := by
    intro w
    induction w with
    | zero =>
      intro k cs ss A e f hkw hcs hss h0A he0 he1 he2 he3 hf hb hC
      obtain rfl : k = 10 := by omega
      refine g_ild1 (hC _) dX2_init_33 ?_
      refine g_bipush 10 (hC _) dX2_init_34 (by decide) ?_
      refine g_icmp_ge 58 (hC _) dX2_init_36 (by decide) (fun c => ?_) (fun c => absurd (by decide) c)
      exact hE _ _ _ _ A _ dX2_init_58 (by omega) (by omega) h0A hC ⟨he0, he1, he2, ⟨f, he3, hf⟩, hb⟩
    | succ w ih =>
      intro k cs ss A e f hkw hcs hss h0A he0 he1 he2 he3 hf hb hC
      refine g_ild1 (hC _) dX2_init_33 ?_
      refine g_bipush 10 (hC _) dX2_init_34 (by decide) ?_
      refine g_icmp_ge 58 (hC _) dX2_init_36 (by decide) (fun c => absurd c (nI_ge (b := 10) (by omega) (by omega))) (fun c => ?_)
      refine g_ald0 (hC _) dX2_init_39 ?_
      refine z_get (i := 0) (ci := 2) (C := "GemCut$Rough") (T := TX2) (N := 7) (v := .ref (A 3)) hC h0A iw_X2 rfl (by omega) he0 5 (by decide) tw_1_76 rfl dX2_init_40 ?_
      refine g_ild1 (hC _) dX2_init_43 ?_
      refine z_new (ci := 0) (C := "GemCut$Flaw") (T := TX0) (N := 5) (fs := [.int 0, .null, .int 0, .null, .null]) tyX0 hC iw_X0 tyX0_ok tw_1_30 tw_1_32 tw_1_3 rfl (fun j hj => by match j, hj with | 0, _ => rfl | 1, _ => rfl | 2, _ => rfl | 3, _ => rfl | 4, _ => rfl) ⟨by omega, by omega⟩ dX2_init_44 ?_
      intro q hC
      refine g_dup (hC _) dX2_init_47 rfl ?_
      refine z_callN (n := 4 + 4 * k) (as := []) (rest := [.ref q, .int (nI k), .ref (A 3)]) 0 hC hI (c_X0_init l) (uA_at _ _ _) (uE_at _ _ _) (show Cond.methodLinkNest "GemCut$Rough" 25 yX0_init "GemCut" ∈ NWn by simp [NWn]) ⟨tw_1_34, tw_1_3, tw_1_35⟩ rfl ⟨by decide, by decide, by decide +kernel⟩ ⟨by decide, by decide⟩ ⟨by omega, by omega⟩ rfl (Nat.le_of_ble_eq_true rfl) rfl dX2_init_48 ?_
      intro Ab eb hA0 hQ hC
      have k1 : ∀ i, i < 4 + 4 * k → jA (4 + 4 * k) (uA A (4 + 4 * k) q) Ab i = A i := fun i hi => (jA_lt hi).trans (uA_ne (by omega))
      have k2 : jA (4 + 4 * k) (uA A (4 + 4 * k) q) Ab (4 + 4 * k) = q := (jA_ge 0).trans hA0
      have k3 : ∀ i, i < 4 + 4 * k → jE (4 + 4 * k) (uE e (4 + 4 * k) (.inr (0, [.int 0, .null, .int 0, .null, .null]) : va_E)) eb i = e i := fun i hi => (jE_lt hi).trans (uE_ne (by omega))
      have k4 : jE (4 + 4 * k) (uE e (4 + 4 * k) (.inr (0, [.int 0, .null, .int 0, .null, .null]) : va_E)) eb (4 + 4 * k) = .inr (0, [.int 0, .ref (Ab 1), .int 0, .ref (Ab 2), .ref (Ab 3)]) := (jE_ge 0).trans hQ.1
      refine z_ast (i := 3) (iv := 4 + 4 * k) (t0 := 2) (j := k) (N := 10) (ci := 0) (r := (RX0, TX0, 5)) (f := f) hC (k1 3 (by omega)) k2 (by omega) (by omega) ((k3 3 (by omega)).trans he3) k4 (fun _ => rfl) rfl rfl (by omega) (by omega) dX2_init_51 ?_
      refine g_inc1 1 (hC _) dX2_init_52 (by decide) rfl ?_
      refine g_goto 33 (hC _) dX2_init_55 (by decide) ?_
      rw [nI_1]
      refine ih (k + 1) _ _ _ (uE (jE (4 + 4 * k) (uE e (4 + 4 * k) (.inr (0, [.int 0, .null, .int 0, .null, .null]) : va_E)) eb) 3 _) (va_up f k (some q)) (by omega) (by omega) (by omega) ((k1 0 (by omega)).trans h0A) ?_ ?_ ?_ (uE_at _ _ _) (fun j hj => ?_) (fun j hj => ?_) hC
      · rw [uE_ne (by decide), k3 0 (by omega), k1 1 (by omega), k1 2 (by omega), k1 3 (by omega)]; exact he0
      · rw [uE_ne (by decide), k3 1 (by omega)]; exact he1
      · rw [uE_ne (by decide), k3 2 (by omega)]; exact he2
      · by_cases hjk : j = k
        · subst hjk; rw [k2]; simp [va_up]
        · rw [k1 (4 + 4 * j) (by omega), ← hf j (by omega)]; simp [va_up, hjk]
      · by_cases hjk : j = k
        · subst hjk
          refine flQ.as (cy := zY X) (A := Ab) (e := eb) hQ (fun i hi => jA_ge i) (fun i hi => ?_)
          show uE _ 3 _ (4 + 4 * j + i) = eb i
          rw [uE_ne (by omega)]; exact jE_ge i
        · refine (hb j (by omega)).as (fun i hi => k1 _ (by omega)) (fun i hi => ?_)
          show uE _ 3 _ (4 + 4 * j + i) = e (4 + 4 * j + i)
          rw [uE_ne (by omega)]; exact k3 _ (by omega)
  refine g_ald0 (hC _) dX2_init_0 ?_
  refine z_obj (hC _) (by decide) tw_1_29 dX2_init_1 (Nat.le_of_ble_eq_true rfl) ?_
  refine g_ald0 (hC _) dX2_init_4 ?_
  refine g_sipush 1000 (hC _) dX2_init_5 (by decide) ?_
  refine z_newa (t0 := 0) (N' := 1000) (ty := .int) .int (hC := hC) tw_1_57 rfl (fun _ => rfl) (fun _ => rfl) (fun _ _ => rfl) (by decide) (by decide) (by decide) ⟨by omega, by omega⟩ dX2_init_8 ?_
  intro q1 hC
  refine z_putF (i := 0) (ci := 2) (C := "GemCut$Rough") (T := TX2) (N := 7) (fs := [.int 0, .int 0, .int 0, .null, .null, .null, .int 0]) (ty := (.array (.int))) tyX2 hC hI rfl iw_X2 tyX2_ok nmX2 rfl (by omega) rfl 3 (by decide) tw_1_68 rfl rfl (by decide +kernel) rfl rfl (by simp) dX2_init_10 ?_
  refine g_ald0 (hC _) dX2_init_13 ?_
  refine g_sipush 1000 (hC _) dX2_init_14 (by decide) ?_
  refine z_newa (t0 := 1) (N' := 1000) (ty := .boolean) .boolean (hC := hC) tw_1_58 rfl (fun _ => rfl) (fun _ => rfl) (fun _ _ => rfl) (by decide) (by decide) (by decide) ⟨by omega, by omega⟩ dX2_init_17 ?_
  intro q2 hC
  refine z_putF (i := 0) (ci := 2) (C := "GemCut$Rough") (T := TX2) (N := 7) (fs := [.int 0, .int 0, .int 0, .ref q1, .null, .null, .int 0]) (ty := (.array (.boolean))) tyX2 hC hI rfl iw_X2 tyX2_ok nmX2 rfl (by omega) rfl 4 (by decide) tw_1_72 rfl rfl (by decide +kernel) rfl rfl (by simp) dX2_init_19 ?_
  refine g_ald0 (hC _) dX2_init_22 ?_
  refine g_bipush 10 (hC _) dX2_init_23 (by decide) ?_
  refine z_newq (t0 := 2) (N' := 10) (C := "GemCut$Flaw") hC hI (fun _ h => h.1) tw_1_30 (fun _ => rfl) (by decide) (by decide) (by decide) ⟨by omega, by omega⟩ dX2_init_25 ?_
  intro q3 hC
  refine z_putF (i := 0) (ci := 2) (C := "GemCut$Rough") (T := TX2) (N := 7) (fs := [.int 0, .int 0, .int 0, .ref q1, .ref q2, .null, .int 0]) (ty := (.array (.object "GemCut$Flaw"))) tyX2 hC hI rfl iw_X2 tyX2_ok nmX2 rfl (by omega) rfl 5 (by decide) tw_1_76 rfl rfl (by decide +kernel) rfl rfl (by simp) dX2_init_28 ?_
  refine g_iconst 0 (hC _) dX2_init_31 (by decide) ?_
  refine g_ist1 (hC _) dX2_init_32 rfl ?_
  exact lp 10 0 _ _ _ _ (fun _ => none) (by omega) rfl rfl rfl rfl rfl rfl rfl (fun j hj => absurd hj (by omega)) (fun j hj => absurd hj (by omega)) hC
