set_option maxRecDepth 100000 in
set_option maxHeartbeats 4000000 in
theorem c_X5_init (l : Launch) (t0 : Mem) (hM : MI t0) (hW : MW t0) (h6 : M16 t0) (hF : Fsh t0 6 6 6) : gKI l yX5_init (.code yX5_init cX5_init 2 none) 6 194 5121 5 [.null, .null, .null, .int 0, .int 0, .int 0] [] 195 (fun D cy A e => ∃ σ : Mem, RS σ t0 ∧ ∀ i, i < 195 → e i = wX.2 (D, A, cy) (σ i) i) := by
  refine gKI_of (by decide) rfl (fun _ => Nat.le_of_ble_eq_true rfl) ?_
  intro X h0 hC hI hE
  have hC : zOk l X (fun _ => h0) 1 cX5_init "GemCut" 6 194 5121 := hC
  show G (pZ 1 (fun _ => .inr (5, [.null, .null, .null, .int 0, .int 0, .int 0]))) (sx X (fun _ => h0)) 0 0 0 [some (.ref h0), none] [] zM
  have fin : ∀ (cs ss : Nat) (A : Nat → Nat) (e : Nat → va_E), cs ≤ 194 → ss ≤ 5121 → A 0 = h0 → (∀ i, i < 195 → vEq (e i) (wX.2 (gEv (sx X A)) (hNew i) i)) → zOk l X A 195 cX5_init "GemCut" 6 194 5121 → G (pZ 195 e) (sx X A) cs ss 73 [some (.ref h0), some (.int (nI 8))] [] zM := by
    intro cs ss A e hcs hss h0A he hC9
    subst h0A
    refine z_to (Lw := wX) hNew rfl he ?_
    have hG := z_gOk (Lw := wX) hC9
    obtain ⟨p, l', e', R, s, mm, args, below, meth, c, nL, H0, Af, E, Q⟩ := X
    refine g_ald0 hG dX5_init_73 ?_
    refine g_bipush 6 hG dX5_init_74 (by decide) ?_
    refine g_bipush 6 hG dX5_init_76 (by decide) ?_
    refine g_bipush 6 hG dX5_init_78 (by decide) ?_
    refine k_X5_beginRough (t := t0) (co := 6) (ro := 6) (la := 6) hG tw_1_191 dX5_init_80 (by decide) ⟨by omega, by omega⟩ (Nat.le_of_ble_eq_true rfl) ⟨hM, hW, h6, hF, ⟨by decide, by decide, by decide⟩, by decide, fun s hs => hN_st hs⟩ ?_
    intro σ1 hR1
    refine z_from _ ?_
    exact hE _ _ _ _ _ _ dX5_init_83 (by omega) (by omega) rfl hC9 ⟨σ1, hR1, fun i hi => rfl⟩
  have lp : ∀ (w k cs ss : Nat) (A : Nat → Nat) (e : Nat → va_E) (f : Nat → Option Nat), k + w = 8 → cs = 45 + 18 * k → ss = 2865 + 133 * k → A 0 = h0 → e 0 = .inr (5, [.ref (A 1), .ref (A 45), .null, .int 0, .int 0, .int 0]) → roQ (zY X) (fun i => A (1 + i)) (fun i => e (1 + i)) → e 45 = .inl (zY X 4, 8, .inr (.inr (.inr (.inr f)))) → (∀ j, j < k → f j = some (A (46 + 18 * j))) → (∀ j, j < k → stQ (nI j) (zY X) (fun i => A (46 + 18 * j + i)) (fun i => e (46 + 18 * j + i))) → zOk l X A (46 + 18 * k) cX5_init "GemCut" 6 194 5121 → G (pZ (46 + 18 * k) e) (sx X A) cs ss 26 [some (.ref h0), some (.int (nI k))] [] zM := by
    intro w
    induction w with
    | zero =>
      intro k cs ss A e f hkw hcs hss h0A he0 her he45 hf hb hC
      obtain rfl : k = 8 := by omega
      refine g_ild1 (hC _) dX5_init_26 ?_
      refine g_bipush 8 (hC _) dX5_init_27 (by decide) ?_
      refine g_icmp_ge 52 (hC _) dX5_init_29 (by decide) (fun c => ?_) (fun c => absurd (by decide) c)
      refine g_ald0 (hC _) dX5_init_52 ?_
      refine z_new (ci := 4) (C := "GemCut$Trial") (T := TX4) (N := 6) (fs := [.null, .null, .null, .null, .null, .null]) tyX4 hC iw_X4 tyX4_ok tw_1_164 tw_1_165 tw_1_6 rfl (fun j hj => by match j, hj with | 0, _ => rfl | 1, _ => rfl | 2, _ => rfl | 3, _ => rfl | 4, _ => rfl | 5, _ => rfl) ⟨by omega, by omega⟩ dX5_init_53 ?_
      intro q hC
      refine g_dup (hC _) dX5_init_56 rfl ?_
      have u1 : ∀ i, i < 190 → uA A 190 q i = A i := fun i hi => uA_ne (by omega)
      have u3 : ∀ i, i < 190 → uE e 190 (.inr (4, [.null, .null, .null, .null, .null, .null])) i = e i := fun i hi => uE_ne (by omega)
      refine g_ald0 (hC _) dX5_init_57 ?_
      refine z_get (i := 0) (ci := 5) (C := "GemCut") (T := TX5) (N := 6) (v := .ref (A 1)) hC ((u1 0 (by omega)).trans h0A) iw_X5 rfl (by omega) ((u3 0 (by omega)).trans he0) 0 (by decide) tw_2_11 rfl dX5_init_58 ?_
      refine g_ald0 (hC _) dX5_init_61 ?_
      refine z_get (i := 0) (ci := 5) (C := "GemCut") (T := TX5) (N := 6) (v := .ref (A 45)) hC ((u1 0 (by omega)).trans h0A) iw_X5 rfl (by omega) ((u3 0 (by omega)).trans he0) 1 (by decide) tw_2_12 rfl dX5_init_62 ?_
      refine g_iconst 0 (hC _) dX5_init_65 (by decide) ?_
      refine z_ald (i := 45) (j := 0) (t0 := 4) (v := A 46) hC (u1 45 (by omega)) (by omega) ((u3 45 (by omega)).trans he45) (fun _ => rfl) (by decide) (by omega) (by omega) (hf 0 (by omega)) dX5_init_66 ?_
      refine z_callI (n := 190) (as := [.ref (A 1), .ref (A 46)]) (rest := [.ref q, .ref h0]) 2 hC hI (c_X4_init l (A 1) (A 46)) (uA_at _ _ _) (uE_at _ _ _) tw_1_166 ⟨tw_1_167, tw_1_6, tw_1_168⟩ rfl ⟨by decide, by decide, by decide +kernel⟩ ⟨by decide, by decide⟩ ⟨by omega, by omega⟩ rfl (Nat.le_of_ble_eq_true rfl) rfl dX5_init_67 ?_
      intro Ab eb hA0 hQ hC
      have k1 : ∀ i, i < 190 → jA 190 (uA A 190 q) Ab i = A i := fun i hi => (jA_lt hi).trans (u1 i hi)
      have k2 : jA 190 (uA A 190 q) Ab 190 = q := (jA_ge 0).trans hA0
      have k3 : ∀ i, i < 190 → jE 190 (uE e 190 (.inr (4, [.null, .null, .null, .null, .null, .null]) : va_E)) eb i = e i := fun i hi => (jE_lt hi).trans (u3 i hi)
      refine z_putF (i := 0) (ci := 5) (C := "GemCut") (T := TX5) (N := 6) (fs := [.ref (A 1), .ref (A 45), .null, .int 0, .int 0, .int 0]) (ty := (.object "GemCut$Trial")) tyX5 hC hI ((k1 0 (by omega)).trans h0A) iw_X5 tyX5_ok nmX5 rfl (by omega) ((k3 0 (by omega)).trans he0) 2 (by decide) tw_2_13 rfl rfl (by decide +kernel) rfl rfl (by simp) dX5_init_70 ?_
      refine fin _ _ _ _ (by omega) (by omega) ((k1 0 (by omega)).trans h0A) ?_ hC
      rw [show gEv (sx X (jA 190 (uA A 190 q) Ab)) = ((gEv X).1, jA 190 (uA A 190 q) Ab, zY X) from by obtain ⟨p, l', e', R, s, mm, args, below, meth, c, nL, H0, Af, E, Q⟩ := X; rfl]
      refine asm ?_ ?_ ⟨f, (uE_ne (by omega)).trans ((k3 45 (by omega)).trans he45), fun j hj => by rw [k1 _ (by omega)]; exact hf j hj⟩ (fun j hj => ?_) ?_
      · rw [uE_at, k1 1 (by omega), k1 45 (by omega), k2]; rfl
      · exact roQ.as her (fun i hi => k1 _ (by omega)) (fun i hi => (uE_ne (by omega)).trans (k3 _ (by omega)))
      · exact stQ.as (hb j hj) (fun i hi => k1 _ (by omega)) (fun i hi => (uE_ne (by omega)).trans (k3 _ (by omega)))
      · obtain ⟨g0, g1, g2, g3, g4⟩ := hQ
        have b1 : ∀ i, jA 190 (uA A 190 q) Ab (190 + i) = Ab i := fun i => jA_ge i
        have b3 : ∀ i, uE (jE 190 (uE e 190 (.inr (4, [.null, .null, .null, .null, .null, .null]) : va_E)) eb) 0 (.inr (5, [Value.ref (A 1), Value.ref (A 45), Value.null, Value.int 0, Value.int 0, Value.int 0].set 2 (Value.ref q))) (190 + i) = eb i := fun i => (uE_ne (by omega)).trans (jE_ge i)
        refine ⟨(b3 0).trans ?_, (b3 1).trans g1, (b3 2).trans g2, (b3 3).trans g3, (b3 4).trans g4⟩
        rw [k1 1 (by omega), k1 46 (by omega)]
        show eb 0 = (.inr (4, [.ref (A 1), .ref (A 46), .ref (jA 190 (uA A 190 q) Ab (190 + 1)), .ref (jA 190 (uA A 190 q) Ab (190 + 2)), .ref (jA 190 (uA A 190 q) Ab (190 + 3)), .ref (jA 190 (uA A 190 q) Ab (190 + 4))]) : va_E)
        rw [b1 1, b1 2, b1 3, b1 4]
        exact g0
    | succ w ih =>
      intro k cs ss A e f hkw hcs hss h0A he0 her he45 hf hb hC
      refine g_ild1 (hC _) dX5_init_26 ?_
      refine g_bipush 8 (hC _) dX5_init_27 (by decide) ?_
      refine g_icmp_ge 52 (hC _) dX5_init_29 (by decide) (fun c => absurd c (nI_ge (b := 8) (by omega) (by omega))) (fun c => ?_)
      refine g_ald0 (hC _) dX5_init_32 ?_
      refine z_get (i := 0) (ci := 5) (C := "GemCut") (T := TX5) (N := 6) (v := .ref (A 45)) hC h0A iw_X5 rfl (by omega) he0 1 (by decide) tw_2_12 rfl dX5_init_33 ?_
      refine g_ild1 (hC _) dX5_init_36 ?_
      refine z_new (ci := 3) (C := "GemCut$Stone") (T := TX3) (N := 5) (fs := [.int 0, .null, .int 0, .int 0, .int 0]) tyX3 hC iw_X3 tyX3_ok tw_1_97 tw_1_99 tw_1_4 rfl (fun j hj => by match j, hj with | 0, _ => rfl | 1, _ => rfl | 2, _ => rfl | 3, _ => rfl | 4, _ => rfl) ⟨by omega, by omega⟩ dX5_init_37 ?_
      intro q hC
      refine g_dup (hC _) dX5_init_40 rfl ?_
      refine g_ild1 (hC _) dX5_init_41 ?_
      refine z_callI (n := 46 + 18 * k) (as := [.int (nI k)]) (rest := [.ref q, .int (nI k), .ref (A 45)]) 1 hC hI (c_X3_init l (nI k)) (uA_at _ _ _) (uE_at _ _ _) tw_1_100 ⟨tw_1_101, tw_1_4, tw_1_102⟩ rfl ⟨by decide, by decide, by decide +kernel⟩ ⟨by decide, by decide⟩ ⟨by omega, by omega⟩ rfl (Nat.le_of_ble_eq_true rfl) rfl dX5_init_42 ?_
      intro Ab eb hA0 hQ hC
      have k1 : ∀ i, i < 46 + 18 * k → jA (46 + 18 * k) (uA A (46 + 18 * k) q) Ab i = A i := fun i hi => (jA_lt hi).trans (uA_ne (by omega))
      have k2 : jA (46 + 18 * k) (uA A (46 + 18 * k) q) Ab (46 + 18 * k) = q := (jA_ge 0).trans hA0
      have k3 : ∀ i, i < 46 + 18 * k → jE (46 + 18 * k) (uE e (46 + 18 * k) (.inr (3, [.int 0, .null, .int 0, .int 0, .int 0]) : va_E)) eb i = e i := fun i hi => (jE_lt hi).trans (uE_ne (by omega))
      have k4 : jE (46 + 18 * k) (uE e (46 + 18 * k) (.inr (3, [.int 0, .null, .int 0, .int 0, .int 0]) : va_E)) eb (46 + 18 * k) = .inr (3, [.int (nI k), .ref (Ab 1), .int 0, .int 0, .int 0]) := (jE_ge 0).trans hQ.1
      refine z_ast (i := 45) (iv := 46 + 18 * k) (t0 := 4) (j := k) (N := 8) (ci := 3) (r := (RX3, TX3, 5)) (f := f) hC (k1 45 (by omega)) k2 (by omega) (by omega) ((k3 45 (by omega)).trans he45) k4 (fun _ => rfl) rfl rfl (by omega) (by omega) dX5_init_45 ?_
      refine g_inc1 1 (hC _) dX5_init_46 (by decide) rfl ?_
      refine g_goto 26 (hC _) dX5_init_49 (by decide) ?_
      rw [nI_1]
      refine ih (k + 1) _ _ _ (uE (jE (46 + 18 * k) (uE e (46 + 18 * k) (.inr (3, [.int 0, .null, .int 0, .int 0, .int 0]) : va_E)) eb) 45 _) (va_up f k (some q)) (by omega) (by omega) (by omega) ((k1 0 (by omega)).trans h0A) ?_ ?_ (uE_at _ _ _) (fun j hj => ?_) (fun j hj => ?_) hC
      · rw [uE_ne (by decide), k3 0 (by omega), k1 1 (by omega), k1 45 (by omega)]; exact he0
      · exact roQ.as her (fun i hi => k1 _ (by omega)) (fun i hi => (uE_ne (by omega)).trans (k3 _ (by omega)))
      · by_cases hjk : j = k
        · subst hjk; rw [k2]; simp [va_up]
        · rw [k1 (46 + 18 * j) (by omega), ← hf j (by omega)]; simp [va_up, hjk]
      · by_cases hjk : j = k
        · subst hjk
          exact stQ.as (cy := zY X) (A := Ab) (e := eb) hQ (fun i hi => jA_ge i) (fun i hi => (uE_ne (by omega)).trans (jE_ge i))
        · exact stQ.as (hb j (by omega)) (fun i hi => k1 _ (by omega)) (fun i hi => (uE_ne (by omega)).trans (k3 _ (by omega)))
  refine g_ald0 (hC _) dX5_init_0 ?_
  refine z_obj (hC _) (by decide) tw_1_21 dX5_init_1 (Nat.le_of_ble_eq_true rfl) ?_
  refine g_ald0 (hC _) dX5_init_4 ?_
  refine z_new (ci := 2) (C := "GemCut$Rough") (T := TX2) (N := 7) (fs := [.int 0, .int 0, .int 0, .null, .null, .null, .int 0]) tyX2 hC iw_X2 tyX2_ok tw_1_24 tw_1_25 tw_1_2 rfl (fun j hj => by match j, hj with | 0, _ => rfl | 1, _ => rfl | 2, _ => rfl | 3, _ => rfl | 4, _ => rfl | 5, _ => rfl | 6, _ => rfl) ⟨by omega, by omega⟩ dX5_init_5 ?_
  intro q1 hC
  refine g_dup (hC _) dX5_init_8 rfl ?_
  refine z_callI (n := 1) (as := []) (rest := [.ref q1, .ref h0]) 0 hC hI (c_X2_init l) rfl rfl tw_1_26 ⟨tw_1_27, tw_1_2, tw_1_28⟩ rfl ⟨by decide, by decide, by decide +kernel⟩ ⟨by decide, by decide⟩ ⟨by omega, by omega⟩ rfl (Nat.le_of_ble_eq_true rfl) rfl dX5_init_9 ?_
  intro Ab eb hA0 hQ hC
  have k2 : jA 1 (uA (fun _ => h0) 1 q1) Ab 1 = q1 := (jA_ge 0).trans hA0
  have k5 : ∀ i, jA 1 (uA (fun _ => h0) 1 q1) Ab (1 + i) = Ab i := fun i => jA_ge i
  refine z_putF (i := 0) (ci := 5) (C := "GemCut") (T := TX5) (N := 6) (fs := [.null, .null, .null, .int 0, .int 0, .int 0]) (ty := (.object "GemCut$Rough")) tyX5 hC hI rfl iw_X5 tyX5_ok nmX5 rfl (by omega) rfl 0 (by decide) tw_2_11 rfl rfl (by decide +kernel) rfl rfl (by simp) dX5_init_12 ?_
  refine g_ald0 (hC _) dX5_init_15 ?_
  refine g_bipush 8 (hC _) dX5_init_16 (by decide) ?_
  refine z_newq (t0 := 4) (N' := 8) (C := "GemCut$Stone") hC hI (fun _ h => h.2.2) tw_1_97 (fun _ => rfl) (by decide) (by decide) (by decide) ⟨by omega, by omega⟩ dX5_init_18 ?_
  intro q2 hC
  refine z_putF (i := 0) (ci := 5) (C := "GemCut") (T := TX5) (N := 6) (fs := [.ref q1, .null, .null, .int 0, .int 0, .int 0]) (ty := (.array (.object "GemCut$Stone"))) tyX5 hC hI rfl iw_X5 tyX5_ok nmX5 rfl (by omega) rfl 1 (by decide) tw_2_12 rfl rfl (by decide +kernel) rfl rfl (by simp) dX5_init_21 ?_
  refine g_iconst 0 (hC _) dX5_init_24 (by decide) ?_
  refine g_ist1 (hC _) dX5_init_25 rfl ?_
  refine lp 8 0 _ _ _ _ (fun _ => none) (by omega) rfl rfl rfl ?_ ?_ rfl (fun j hj => absurd hj (by omega)) (fun j hj => absurd hj (by omega)) hC
  · rw [uE_at, show uA (jA 1 (uA (fun _ => h0) 1 q1) Ab) 45 q2 45 = q2 from uA_at _ _ _, show uA (jA 1 (uA (fun _ => h0) 1 q1) Ab) 45 q2 1 = q1 from (uA_ne (by decide)).trans k2]; rfl
  · exact roQ.as (cy := zY X) (A := Ab) (e := eb) hQ (fun i hi => (uA_ne (by omega)).trans (k5 i)) (fun i hi => (uE_ne (by omega)).trans ((uE_ne (by omega)).trans ((uE_ne (by omega)).trans (jE_ge i))))
