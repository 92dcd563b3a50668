/-! the law's own objects -/
def sJ (cy : Nat → ClassId) (h0 a b9 d : Nat) (u : va_W) : Prop := ∃ (qf qp qi q : Nat) (fp f2 f1 : Nat → Option Nat), u = [(h0, .inr (6, [.ref q, .ref qf, .ref qp, .int 400, .int 0])), (qf, .inl (cy 5, 0, .inr (.inr (.inr (.inr (fun _ => none)))))), (qp, .inl (cy 6, 1, .inr (.inr (.inr (.inr fp))))), (qi, .inl (cy 5, 0, .inr (.inr (.inr (.inr (fun _ => none)))))), (q, .inl (cy 6, a, .inr (.inr (.inr (.inr f2))))), (q + 1, .inl (cy 5, b9, .inr (.inr (.inr (.inr f1))))), (q + 2, .inl (cy 0, d, .inl (fun _ => 0)))] ∧ f2 0 = some (q + 1) ∧ f1 0 = some (q + 2)
theorem ts_I : (FieldType.array .int).toString = "[I" := by decide
theorem ts_II : (FieldType.array (.array .int)).toString = "[[I" := by decide
theorem ts_III : "[" ++ (FieldType.array (.array .int)).toString = "[[[I" := by decide
set_option maxRecDepth 100000 in
set_option maxHeartbeats 4000000 in
theorem c_sim (l : Launch) (h0 a b9 d : Nat) (ha : 1 ≤ a ∧ a ≤ 10) (hb9 : 1 ≤ b9 ∧ b9 ≤ 10) (hd9 : 1 ≤ d ∧ d ≤ 10) (b L : Nat) (xs : Nat → Int32) (D : va_G) (cy : Nat → ClassId) (sz : Nat) : Met l yX6_init (.code yX6_init cX6_init 4 none :: TB) (gR 1 114 1112) (vPre D cy b L xs [(h0, .inr (6, [.null, .null, .null, .int 0, .int 0]))] sz [.ref h0, .int (nI a), .int (nI b9), .int (nI d)]) (va_Qv (fun u : va_W => sJ cy h0 a b9 d u) (fun u t => vC D [(h0, .inr (6, [.null, .null, .null, .int 0, .int 0]))] sz u t) (va_A [(h0, .inr (6, [.null, .null, .null, .int 0, .int 0]))] sz)) 114 1112 (va_A [(h0, .inr (6, [.null, .null, .null, .int 0, .int 0]))] sz) := by
  have m1 : a * (1 + b9 * 1) ≤ 10 * 11 := Nat.mul_le_mul ha.2 (by omega)
  have m3 : b9 * d ≤ 10 * 10 := Nat.mul_le_mul hb9.2 hd9.2
  have m2 : a * (b9 + b9 * d) ≤ 10 * 110 := Nat.mul_le_mul ha.2 (by omega)
  refine vV_of (B := wE) (A := fun _ => 0) (σ := zM) (es := [(h0, .inr (6, [.null, .null, .null, .int 0, .int 0]))]) (J := sJ cy h0 a b9 d) (by decide) (Nat.le_of_ble_eq_true rfl) ?_
  intro X hC hL hcy hDD hE
  subst hcy
  subst hDD
  have hI := hL.2.2
  show G (wU wE [(h0, .inr (6, [.null, .null, .null, .int 0, .int 0]))]) (uX wE X (fun _ => 0) [(h0, .inr (6, [.null, .null, .null, .int 0, .int 0]))]) 0 0 0 [some (.ref h0), some (.int (nI a)), some (.int (nI b9)), some (.int (nI d))] [] zM
  refine g_ald0 hC dX6_init_0 ?_
  refine z_obj hC (by decide) tw_3_182 dX6_init_1 (Nat.le_of_ble_eq_true rfl) ?_
  refine g_ald0 hC dX6_init_4 ?_
  refine g_iconst 0 hC dX6_init_5 (by decide) ?_
  refine u_newq (t0 := 5) (N' := 0) (t := .int) hC hI (fun _ h => h.2.1) (by rw [ts_I]; exact tw_3_183) (fun _ => rfl) (by decide) (by decide) (by decide) ⟨by omega, by omega⟩ dX6_init_6 ?_
  intro qf hC
  refine u_put (j := 0) (ci := 6) (C := "GemCutLaw$Sim") (T := TX6) (N := 5) (fs := [.null, .null, .null, .int 0, .int 0]) (ty := (.array (.array .int))) tyX6 hC rfl iw_X6 tyX6_ok nmX6 rfl 1 (by decide) tw_3_190 rfl (by decide +kernel) rfl rfl (by simp) dX6_init_9 ?_
  intro hC
  refine g_ald0 hC dX6_init_12 ?_
  refine g_iconst 1 hC dX6_init_13 (by decide) ?_
  refine u_newq (t0 := 6) (N' := 1) (t := (.array .int)) hC hI (fun _ h => h.2.2) (by rw [ts_II]; exact tw_3_185) (fun _ => rfl) (by decide) (by decide) (by decide) ⟨by omega, by omega⟩ dX6_init_14 ?_
  intro qp hC
  refine g_dup hC dX6_init_17 rfl ?_
  refine g_iconst 0 hC dX6_init_18 (by decide) ?_
  refine g_iconst 0 hC dX6_init_19 (by decide) ?_
  refine u_newq (t0 := 5) (N' := 0) (t := .int) hC hI (fun _ h => h.2.1) (by rw [ts_I]; exact tw_3_183) (fun _ => rfl) (by decide) (by decide) (by decide) ⟨by omega, by omega⟩ dX6_init_20 ?_
  intro qi hC
  refine u_aast (j := 2) (jv := 3) (t0 := 6) (tv := 5) (t := .array .int) (tc := .array .int) 0 hC hI (fun _ h => h.2.2) rfl rfl (fun _ => rfl) (fun _ => rfl) (fun _ _ => rfl) rfl (by decide) (by decide) dX6_init_23 ?_
  intro hC
  refine u_put (j := 0) (ci := 6) (C := "GemCutLaw$Sim") (T := TX6) (N := 5) (fs := [.null, .ref qf, .null, .int 0, .int 0]) (ty := (.array (.array (.array .int)))) tyX6 hC rfl iw_X6 tyX6_ok nmX6 rfl 2 (by decide) tw_3_192 rfl (by decide +kernel) rfl rfl (by simp) dX6_init_24 ?_
  intro hC
  refine g_ald0 hC dX6_init_27 ?_
  refine g_sipush 400 hC dX6_init_28 (by decide) ?_
  refine u_put (j := 0) (ci := 6) (C := "GemCutLaw$Sim") (T := TX6) (N := 5) (fs := [.null, .ref qf, .ref qp, .int 0, .int 0]) (ty := .int) tyX6 hC rfl iw_X6 tyX6_ok nmX6 rfl 3 (by decide) tw_3_193 rfl (by decide +kernel) rfl rfl (by simp) dX6_init_31 ?_
  intro hC
  refine g_ald0 hC dX6_init_34 ?_
  refine g_ild1 hC dX6_init_35 ?_
  refine g_ild2 hC dX6_init_36 ?_
  refine g_ild3 hC dX6_init_37 ?_
  refine u_mnew hC hI (by rw [ts_III]; exact tw_3_187) tw_1_57 ha hb9 hd9.2 ⟨by omega, by omega⟩ dX6_init_38 ?_
  intro q f2 f1 hf2 hf1 hC
  refine u_put (j := 0) (ci := 6) (C := "GemCutLaw$Sim") (T := TX6) (N := 5) (fs := [.null, .ref qf, .ref qp, .int 400, .int 0]) (ty := (.array (.array (.array .int)))) tyX6 hC rfl iw_X6 tyX6_ok nmX6 rfl 0 (by decide) tw_3_188 rfl (by decide +kernel) rfl rfl (by simp) dX6_init_42 ?_
  intro hC
  exact hE _ _ _ _ _ zM dX6_init_45 (by omega) (by omega) hC ⟨qf, qp, qi, q, _, f2, f1, rfl, hf2, hf1⟩
theorem set_end (ws : va_W) (x y : Nat × va_E) : (ws ++ [x]).set ws.length y = ws ++ [y] := by simp
def mJ (cy : Nat → ClassId) (wc : va_W) (n q1 : Nat) (f : Nat → Option Nat) (r : Nat) (u : va_W) : Prop := ∃ f' : Nat → Option Nat, u = wc ++ [(r, .inl (cy 5, n + 1, .inr (.inr (.inr (.inr f')))))] ∧ (∀ j, j < n → f' j = f j) ∧ f' n = some q1
set_option maxRecDepth 100000 in
set_option maxHeartbeats 4000000 in
theorem c_more (l : Launch) (q0 q1 n N1 : Nat) (f : Nat → Option Nat) (g : Nat → Int32) (rs : va_W) (hn : n ≤ 7) (b L : Nat) (xs : Nat → Int32) (D : va_G) (cy : Nat → ClassId) (hrs : ∀ j, j < n → ∃ (a : Nat) (xv : vp_A), f j = some a ∧ rs[j]? = some (a, .inl (cy 0, xv))) (hrl : rs.length = n) (sz : Nat) : Met l yX6_more (.code yX6_more cX6_more 4 (some (.array (.array .int))) :: TB) (gR 1 1 8) (vPre D cy b L xs ((q0, .inl (cy 5, n, .inr (.inr (.inr (.inr f))))) :: (q1, .inl (cy 0, N1, .inl g)) :: rs) sz [.ref q0, .ref q1]) (va_Qr (fun u : Nat × va_W => mJ cy ((q0, .inl (cy 5, n, .inr (.inr (.inr (.inr f))))) :: (q1, .inl (cy 0, N1, .inl g)) :: rs) n q1 f u.1 u.2) (fun u r t => r = u.1 ∧ vC D ((q0, .inl (cy 5, n, .inr (.inr (.inr (.inr f))))) :: (q1, .inl (cy 0, N1, .inl g)) :: rs) sz u.2 t) (va_A ((q0, .inl (cy 5, n, .inr (.inr (.inr (.inr f))))) :: (q1, .inl (cy 0, N1, .inl g)) :: rs) sz)) 1 8 (va_A ((q0, .inl (cy 5, n, .inr (.inr (.inr (.inr f))))) :: (q1, .inl (cy 0, N1, .inl g)) :: rs) sz) := by
  refine vR_of (B := wE) (A := fun _ => 0) (σ := zM) (es := ((q0, .inl (cy 5, n, .inr (.inr (.inr (.inr f))))) :: (q1, .inl (cy 0, N1, .inl g)) :: rs)) (J := mJ cy ((q0, .inl (cy 5, n, .inr (.inr (.inr (.inr f))))) :: (q1, .inl (cy 0, N1, .inl g)) :: rs) n q1 f) (by decide) (Or.inr ⟨_, rfl⟩) (Nat.le_of_ble_eq_true rfl) ?_
  intro X hC hL hcy hDD hE
  subst hcy
  subst hDD
  have hI := hL.2.2
  have hlen : ((q0, .inl (zY X 5, n, .inr (.inr (.inr (.inr f))))) :: (q1, .inl (zY X 0, N1, .inl g)) :: rs).length = n + 2 := by simp only [List.length_cons, hrl]
  show G (wU wE ((q0, .inl (zY X 5, n, .inr (.inr (.inr (.inr f))))) :: (q1, .inl (zY X 0, N1, .inl g)) :: rs)) (uX wE X (fun _ => 0) ((q0, .inl (zY X 5, n, .inr (.inr (.inr (.inr f))))) :: (q1, .inl (zY X 0, N1, .inl g)) :: rs)) 0 0 0 [some (.ref q0), some (.ref q1), none, none] [] zM
  refine g_ald0 hC dX6_more_0 ?_
  refine u_alen (j := 0) (t0 := 5) hC rfl (fun _ => rfl) dX6_more_1 ?_
  refine g_iconst 1 hC dX6_more_2 (by decide) ?_
  refine g_iadd hC dX6_more_3 ?_
  rw [nI_1]
  refine u_newq (t0 := 5) (N' := n + 1) (t := .int) hC hI (fun _ h => h.2.1) (by rw [ts_I]; exact tw_3_183) (fun _ => rfl) (nI_pos (by omega)) (nI_clamp (by omega)) (by omega) ⟨by omega, by omega⟩ dX6_more_4 ?_
  intro r hC
  refine g_widen (k1 := 1) (n1 := 8) (by omega) (by omega) ?_
  have lp : ∀ (m k : Nat) (h : Nat → Option Nat), k + m = n → (∀ j, j < k → h j = f j) → uOk l wE X (fun _ => 0) (((q0, .inl (zY X 5, n, .inr (.inr (.inr (.inr f))))) :: (q1, .inl (zY X 0, N1, .inl g)) :: rs) ++ [(r, .inl (zY X 5, n + 1, .inr (.inr (.inr (.inr h)))))]) cX6_more "GemCutLaw$Sim" 1 1 8 → G (wU wE (((q0, .inl (zY X 5, n, .inr (.inr (.inr (.inr f))))) :: (q1, .inl (zY X 0, N1, .inl g)) :: rs) ++ [(r, .inl (zY X 5, n + 1, .inr (.inr (.inr (.inr h)))))])) (uX wE X (fun _ => 0) (((q0, .inl (zY X 5, n, .inr (.inr (.inr (.inr f))))) :: (q1, .inl (zY X 0, N1, .inl g)) :: rs) ++ [(r, .inl (zY X 5, n + 1, .inr (.inr (.inr (.inr h)))))])) 1 8 10 [some (.ref q0), some (.ref q1), some (.ref r), some (.int (nI k))] [] zM := by
    intro m
    induction m with
    | zero =>
      intro k h hk hh hC
      obtain rfl : k = n := by omega
      refine g_ild3 hC dX6_more_10 ?_
      refine g_ald0 hC dX6_more_11 ?_
      refine u_alen (j := 0) (t0 := 5) hC rfl (fun _ => rfl) dX6_more_12 ?_
      refine g_icmp_ge 28 hC dX6_more_13 (by decide) (fun c13 => ?_) (fun c13 => absurd (nI_le (by omega) (by omega)) c13)
      refine g_ald2 hC dX6_more_28 ?_
      refine g_ald0 hC dX6_more_29 ?_
      refine u_alen (j := 0) (t0 := 5) hC rfl (fun _ => rfl) dX6_more_30 ?_
      refine g_ald1 hC dX6_more_31 ?_
      refine u_aast (N := k + 1) (f := h) (j := ((q0, .inl (zY X 5, k, .inr (.inr (.inr (.inr f))))) :: (q1, .inl (zY X 0, N1, .inl g)) :: rs).length) (jv := 1) (t0 := 5) (tv := 0) (t := .int) (tc := .int) k hC hI (fun _ h => h.2.1) (by simp) rfl (fun _ => rfl) (fun _ => rfl) (fun _ _ => rfl) rfl (by omega) (by omega) dX6_more_32 ?_
      rw [set_end]
      intro hC
      refine g_ald2 hC dX6_more_33 ?_
      exact hE _ _ _ _ _ _ zM dX6_more_34 (by omega) (by omega) hC ⟨_, rfl, fun j hj => by
        have : va_up h k (some q1) j = h j := by simp [va_up, show ¬ j = k by omega]
        rw [this]; exact hh j hj, by simp [va_up]⟩
    | succ m ih =>
      intro k h hk hh hC
      obtain ⟨a, xv, hfa, hra⟩ := hrs k (by omega)
      refine g_ild3 hC dX6_more_10 ?_
      refine g_ald0 hC dX6_more_11 ?_
      refine u_alen (j := 0) (t0 := 5) hC rfl (fun _ => rfl) dX6_more_12 ?_
      refine g_icmp_ge 28 hC dX6_more_13 (by decide) (fun c13 => absurd c13 (nI_ge (by omega) (by omega))) (fun c13 => ?_)
      refine g_ald2 hC dX6_more_16 ?_
      refine g_ild3 hC dX6_more_17 ?_
      refine g_ald0 hC dX6_more_18 ?_
      refine g_ild3 hC dX6_more_19 ?_
      refine u_aald (j := 0) (t0 := 5) (t := .int) k hC rfl (fun _ => rfl) rfl (by omega) (by omega) hfa dX6_more_20 ?_
      refine u_aast (N := n + 1) (f := h) (j := ((q0, .inl (zY X 5, n, .inr (.inr (.inr (.inr f))))) :: (q1, .inl (zY X 0, N1, .inl g)) :: rs).length) (jv := 2 + k) (t0 := 5) (tv := 0) (t := .int) (tc := .int) k hC hI (fun _ h => h.2.1) (by simp) (by
        rw [List.getElem?_append_left (by rw [hlen]; omega), Nat.add_comm 2 k]; exact hra) (fun _ => rfl) (fun _ => rfl) (fun _ _ => rfl) rfl (by omega) (by omega) dX6_more_21 ?_
      rw [set_end]
      intro hC
      refine g_inc3 1 hC dX6_more_22 (by decide) rfl ?_
      refine g_goto 10 hC dX6_more_25 (by decide) ?_
      rw [nI_1]
      exact ih (k + 1) _ (by omega) (fun j hj => by
        by_cases h9 : j = k
        · subst h9; rw [hfa]; simp [va_up]
        · rw [show va_up h k (some a) j = h j by simp [va_up, h9]]; exact hh j (by omega)) hC
  refine g_ast2 hC dX6_more_7 rfl ?_
  refine g_iconst 0 hC dX6_more_8 (by decide) ?_
  refine g_ist3 hC dX6_more_9 rfl ?_
  exact lp n 0 _ (by omega) (fun j hj => absurd hj (by omega)) hC
