theorem jA_lt {n : Nat} {A Ab : Nat → Nat} {i : Nat} (h : i < n) : jA n A Ab i = A i := if_pos h
theorem jA_ge {n : Nat} {A Ab : Nat → Nat} (i : Nat) : jA n A Ab (n + i) = Ab i := by unfold jA; rw [if_neg (by omega), Nat.add_sub_cancel_left]
theorem jE_lt {n : Nat} {e eb : Nat → va_E} {i : Nat} (h : i < n) : jE n e eb i = e i := if_pos h
theorem jE_ge {n : Nat} {e eb : Nat → va_E} (i : Nat) : jE n e eb (n + i) = eb i := by unfold jE; rw [if_neg (by omega), Nat.add_sub_cancel_left]
theorem uA_ne {A : Nat → Nat} {i q j : Nat} (h : j ≠ i) : uA A i q j = A j := if_neg h
theorem uA_at (A : Nat → Nat) (i q : Nat) : uA A i q i = q := if_pos rfl
theorem uE_ne {e : Nat → va_E} {i j : Nat} {v : va_E} (h : j ≠ i) : uE e i v j = e j := if_neg h
theorem uE_at (e : Nat → va_E) (i : Nat) (v : va_E) : uE e i v i = v := if_pos rfl
section ZA
variable {l : Launch} {X : gC} {A : Nat → Nat} {n : Nat} {e : Nat → va_E} {cc : ByteArray} {own : String} {dd ca sa k m pc : Nat} {ls : List (Option Value)} {st : List Value}
theorem arrV_congr {cA : ClassId} {N : Nat} {f f' : Nat → Value} (h : ∀ j, j < N → f j = f' j) : arrV cA N f = arrV cA N f' := by
  unfold arrV
  have h1 : (fun j : Fin N => f j.val) = (fun j : Fin N => f' j.val) := funext (fun j => h j.val j.isLt)
  rw [h1]
theorem vp_ext {cA : ClassId} {N : Nat} {f f' : Nat → Option Nat} (hf : ∀ j, j < N → f j = f' j) : vp_cell cA (N, .inr (.inr (.inr (.inr f)))) = vp_cell cA (N, .inr (.inr (.inr (.inr f')))) := by
  rw [vp_cell_q, vp_cell_q]
  exact arrV_congr (fun j hj => by rw [hf j hj])
/-- what a row of references holds behind its end does not matter -/
theorem z_arr {i N : Nat} {cA : ClassId} {f f' : Nat → Option Nat} (hi : i < n) (he : e i = .inl (cA, N, .inr (.inr (.inr (.inr f))))) (hf : ∀ j, j < N → f j = f' j) (kk : G (pZ n (uE e i (.inl (cA, N, .inr (.inr (.inr (.inr f'))))))) (sx X A) k m pc ls st zM) : G (pZ n e) (sx X A) k m pc ls st zM := by
  obtain ⟨p, l', e', R, s, mm, args, below, meth, c, nL, H0, Af, E, Q⟩ := X
  intro H locs arr hn hP hS hl
  refine kk H locs arr hn (fun k2 q hk => ?_) hS hl
  have hk2 : k2 < n := by
    have := (List.getElem?_eq_some_iff.mp hk).1
    rwa [gW_len] at this
  have h1 := hP k2 _ (pW_at e E.1 A E.2.2 hk2)
  have hk3 := pW_at (uE e i (.inl (cA, N, .inr (.inr (.inr (.inr f')))))) E.1 A E.2.2 hk2
  rw [hk3] at hk
  cases hk
  by_cases h2 : k2 = i
  · subst h2
    rw [uE_at]
    rw [he] at h1
    show H[A k2]? = some (vp_cell cA _)
    rw [← vp_ext hf]
    exact h1
  · rw [uE_ne h2]; exact h1
end ZA
/-! the blocks that the constructors lay -/
def zP : va_E := .inr (1, [.int 0, .int 0, .int 0, .int 0, .int 0, .int 0, .int 0])
def flQ (cy : Nat → ClassId) (A : Nat → Nat) (e : Nat → va_E) : Prop := e 0 = .inr (0, [.int 0, .ref (A 1), .int 0, .ref (A 2), .ref (A 3)]) ∧ e 1 = .inl (cy 0, 63, .inl (fun _ => 0)) ∧ e 2 = .inl (cy 0, 8, .inl (fun _ => 0)) ∧ e 3 = .inl (cy 0, 8, .inl (fun _ => 0))
def stQ (nr : Int32) (cy : Nat → ClassId) (A : Nat → Nat) (e : Nat → va_E) : Prop := e 0 = .inr (3, [.int nr, .ref (A 1), .int 0, .int 0, .int 0]) ∧ (∃ f : Nat → Option Nat, e 1 = .inl (cy 3, 16, .inr (.inr (.inr (.inr f)))) ∧ ∀ j, j < 16 → f j = some (A (2 + j))) ∧ ∀ j, j < 16 → e (2 + j) = zP
def roQ (cy : Nat → ClassId) (A : Nat → Nat) (e : Nat → va_E) : Prop := e 0 = .inr (2, [.int 0, .int 0, .int 0, .ref (A 1), .ref (A 2), .ref (A 3), .int 0]) ∧ e 1 = .inl (cy 0, 1000, .inl (fun _ => 0)) ∧ e 2 = .inl (cy 1, 1000, .inl (fun _ => 0)) ∧ (∃ f : Nat → Option Nat, e 3 = .inl (cy 2, 10, .inr (.inr (.inr (.inr f)))) ∧ ∀ j, j < 10 → f j = some (A (4 + 4 * j))) ∧ ∀ j, j < 10 → flQ cy (fun i => A (4 + 4 * j + i)) (fun i => e (4 + 4 * j + i))
def trQ (r s : Nat) (cy : Nat → ClassId) (A : Nat → Nat) (e : Nat → va_E) : Prop := e 0 = .inr (4, [.ref r, .ref s, .ref (A 1), .ref (A 2), .ref (A 3), .ref (A 4)]) ∧ e 1 = zP ∧ e 2 = .inl (cy 0, 1000, .inl (fun _ => 0)) ∧ e 3 = .inl (cy 0, 163, .inl (fun _ => 0)) ∧ e 4 = .inl (cy 0, 16, .inl (fun _ => 0))
theorem flQ.as {cy : Nat → ClassId} {A A' : Nat → Nat} {e e' : Nat → va_E} (h : flQ cy A e) (hA : ∀ i, i < 4 → A' i = A i) (he : ∀ i, i < 4 → e' i = e i) : flQ cy A' e' := by
  obtain ⟨h0, h1, h2, h3⟩ := h
  refine ⟨?_, ?_, ?_, ?_⟩
  · rw [he 0 (by omega), hA 1 (by omega), hA 2 (by omega), hA 3 (by omega)]; exact h0
  · rw [he 1 (by omega)]; exact h1
  · rw [he 2 (by omega)]; exact h2
  · rw [he 3 (by omega)]; exact h3
theorem stQ.as {nr : Int32} {cy : Nat → ClassId} {A A' : Nat → Nat} {e e' : Nat → va_E} (h : stQ nr cy A e) (hA : ∀ i, i < 18 → A' i = A i) (he : ∀ i, i < 18 → e' i = e i) : stQ nr cy A' e' := by
  obtain ⟨h0, ⟨f, h1, hf⟩, h2⟩ := h
  refine ⟨?_, ⟨f, ?_, fun j hj => ?_⟩, fun j hj => ?_⟩
  · rw [he 0 (by omega), hA 1 (by omega)]; exact h0
  · rw [he 1 (by omega)]; exact h1
  · rw [hA _ (by omega)]; exact hf j hj
  · rw [he _ (by omega)]; exact h2 j hj
theorem roQ.as {cy : Nat → ClassId} {A A' : Nat → Nat} {e e' : Nat → va_E} (h : roQ cy A e) (hA : ∀ i, i < 44 → A' i = A i) (he : ∀ i, i < 44 → e' i = e i) : roQ cy A' e' := by
  obtain ⟨h0, h1, h2, ⟨f, h3, hf⟩, h4⟩ := h
  refine ⟨?_, ?_, ?_, ⟨f, ?_, fun j hj => ?_⟩, fun j hj => (h4 j hj).as (fun i hi => hA _ (by omega)) (fun i hi => he _ (by omega))⟩
  · rw [he 0 (by omega), hA 1 (by omega), hA 2 (by omega), hA 3 (by omega)]; exact h0
  · rw [he 1 (by omega)]; exact h1
  · rw [he 2 (by omega)]; exact h2
  · rw [he 3 (by omega)]; exact h3
  · rw [hA _ (by omega)]; exact hf j hj
/-- entries that say the same of the memory -/
def vEq (a b : va_E) : Prop := a = b ∨ ∃ (cA : ClassId) (N : Nat) (f f' : Nat → Option Nat), a = .inl (cA, N, .inr (.inr (.inr (.inr f)))) ∧ b = .inl (cA, N, .inr (.inr (.inr (.inr f')))) ∧ ∀ j, j < N → f j = f' j
theorem vEq.at {a b : va_E} (h : vEq a b) {D : va_G} {q : Nat} {H : Heap} (hq : va_at D vwCl (q, a) H) : va_at D vwCl (q, b) H := by
  rcases h with rfl | ⟨cA, N, f, f', rfl, rfl, hf⟩
  · exact hq
  · show H[q]? = some (vp_cell cA _)
    rw [← vp_ext hf]
    exact hq

set_option maxRecDepth 100000 in
set_option maxHeartbeats 4000000 in
theorem c_X3_init (l : Launch) (nr : Int32) : gKI l yX3_init (.code yX3_init cX3_init 3 none) 2 17 128 3 [.int 0, .null, .int 0, .int 0, .int 0] [.int nr] 18 (fun _ cy A e => stQ nr cy A e) := by
  refine gKI_of (by decide) rfl (fun _ => Nat.le_of_ble_eq_true rfl) ?_
  intro X h0 hC hI hE
  have hC : zOk l X (fun _ => h0) 1 cX3_init "GemCut$Stone" 2 17 128 := hC
  show G (pZ 1 (fun _ => .inr (3, [.int 0, .null, .int 0, .int 0, .int 0]))) (sx X (fun _ => h0)) 0 0 0 [some (.ref h0), some (.int nr), none] [] zM
  have lp : ∀ (w k cs ss : Nat) (A : Nat → Nat) (e : Nat → va_E) (f : Nat → Option Nat), k + w = 16 → cs = 1 + k → ss = 16 + 7 * k → A 0 = h0 → e 0 = .inr (3, [.int nr, .ref (A 1), .int 0, .int 0, .int 0]) → e 1 = .inl (zY X 3, 16, .inr (.inr (.inr (.inr f)))) → (∀ j, j < k → f j = some (A (2 + j))) → (∀ j, j < k → e (2 + j) = zP) → zOk l X A (2 + k) cX3_init "GemCut$Stone" 2 17 128 → G (pZ (2 + k) e) (sx X A) cs ss 20 [some (.ref h0), some (.int nr), some (.int (nI k))] [] zM := by
    intro w
    induction w with
    | zero =>
      intro k cs ss A e f hkw hcs hss h0A he0 he1 hf hb hC
      obtain rfl : k = 16 := by omega
      refine g_ild2 (hC _) dX3_init_20 ?_
      refine g_bipush 16 (hC _) dX3_init_21 (by decide) ?_
      refine g_icmp_ge 45 (hC _) dX3_init_23 (by decide) (fun c => ?_) (fun c => absurd (by decide) c)
      exact hE _ _ _ _ A _ dX3_init_45 (by omega) (by omega) h0A hC ⟨he0, ⟨f, he1, hf⟩, hb⟩
    | succ w ih =>
      intro k cs ss A e f hkw hcs hss h0A he0 he1 hf hb hC
      refine g_ild2 (hC _) dX3_init_20 ?_
      refine g_bipush 16 (hC _) dX3_init_21 (by decide) ?_
      refine g_icmp_ge 45 (hC _) dX3_init_23 (by decide) (fun c => absurd c (nI_ge (b := 16) (by omega) (by omega))) (fun c => ?_)
      refine g_ald0 (hC _) dX3_init_26 ?_
      refine z_get (i := 0) (ci := 3) (C := "GemCut$Stone") (T := TX3) (N := 5) (v := .ref (A 1)) hC h0A iw_X3 rfl (by omega) he0 1 (by decide) tw_1_142 rfl dX3_init_27 ?_
      refine g_ild2 (hC _) dX3_init_30 ?_
      refine z_new (ci := 1) (C := "GemCut$Plane") (T := TX1) (N := 7) (fs := [.int 0, .int 0, .int 0, .int 0, .int 0, .int 0, .int 0]) tyX1 hC iw_X1 tyX1_ok tw_1_104 tw_1_106 tw_1_5 rfl (fun j hj => by match j, hj with | 0, _ => rfl | 1, _ => rfl | 2, _ => rfl | 3, _ => rfl | 4, _ => rfl | 5, _ => rfl | 6, _ => rfl) ⟨by omega, by omega⟩ dX3_init_31 ?_
      intro q hC
      refine g_dup (hC _) dX3_init_34 rfl ?_
      refine z_callN (n := 2 + k) (as := []) (rest := [.ref q, .int (nI k), .ref (A 1)]) 0 hC hI (c_X1_init l) (uA_at _ _ _) (uE_at _ _ _) (show Cond.methodLinkNest "GemCut$Stone" 21 yX1_init "GemCut" ∈ NWn by simp [NWn]) ⟨tw_1_108, tw_1_5, tw_1_109⟩ rfl ⟨by decide, by decide, by decide +kernel⟩ ⟨by decide, by decide⟩ ⟨by omega, by omega⟩ rfl (Nat.le_of_ble_eq_true rfl) rfl dX3_init_35 ?_
      intro Ab eb hA0 hQ hC
      have k1 : ∀ i, i < 2 + k → jA (2 + k) (uA A (2 + k) q) Ab i = A i := fun i hi => (jA_lt hi).trans (uA_ne (by omega))
      have k2 : jA (2 + k) (uA A (2 + k) q) Ab (2 + k) = q := (jA_ge 0).trans hA0
      have k3 : ∀ i, i < 2 + k → jE (2 + k) (uE e (2 + k) zP) eb i = e i := fun i hi => (jE_lt hi).trans (uE_ne (by omega))
      have k4 : jE (2 + k) (uE e (2 + k) zP) eb (2 + k) = zP := (jE_ge 0).trans hQ
      refine z_ast (i := 1) (iv := 2 + k) (t0 := 3) (j := k) (N := 16) (ci := 1) (r := (RX1, TX1, 7)) (f := f) hC (k1 1 (by omega)) k2 (by omega) (by omega) ((k3 1 (by omega)).trans he1) k4 (fun _ => rfl) rfl rfl (by omega) (by omega) dX3_init_38 ?_
      refine g_inc2 1 (hC _) dX3_init_39 (by decide) rfl ?_
      refine g_goto 20 (hC _) dX3_init_42 (by decide) ?_
      rw [nI_1]
      refine ih (k + 1) _ _ _ (uE (jE (2 + k) (uE e (2 + k) zP) eb) 1 _) (va_up f k (some q)) (by omega) (by omega) (by omega) ((k1 0 (by omega)).trans h0A) ?_ (uE_at _ _ _) (fun j hj => ?_) (fun j hj => ?_) hC
      · rw [uE_ne (by decide), k3 0 (by omega), k1 1 (by omega)]; exact he0
      · by_cases hjk : j = k
        · subst hjk; rw [k2]; simp [va_up]
        · rw [k1 (2 + j) (by omega), ← hf j (by omega)]; simp [va_up, hjk]
      · rw [uE_ne (by omega)]
        by_cases hjk : j = k
        · subst hjk; exact k4
        · rw [k3 (2 + j) (by omega)]; exact hb j (by omega)
  refine g_ald0 (hC _) dX3_init_0 ?_
  refine z_obj (hC _) (by decide) tw_1_103 dX3_init_1 (Nat.le_of_ble_eq_true rfl) ?_
  refine g_ald0 (hC _) dX3_init_4 ?_
  refine g_bipush 16 (hC _) dX3_init_5 (by decide) ?_
  refine z_newq (t0 := 3) (N' := 16) (C := "GemCut$Plane") hC hI (fun _ h => h.2.1) tw_1_104 (fun _ => rfl) (by decide) (by decide) (by decide) ⟨by omega, by omega⟩ dX3_init_7 ?_
  intro q1 hC
  refine z_putF (i := 0) (ci := 3) (C := "GemCut$Stone") (T := TX3) (N := 5) (fs := [.int 0, .null, .int 0, .int 0, .int 0]) (ty := (.array (.object "GemCut$Plane"))) tyX3 hC hI rfl iw_X3 tyX3_ok nmX3 rfl (by omega) rfl 1 (by decide) tw_1_142 rfl rfl (by decide +kernel) rfl rfl (by simp) dX3_init_10 ?_
  refine g_ald0 (hC _) dX3_init_13 ?_
  refine g_ild1 (hC _) dX3_init_14 ?_
  refine z_putF (i := 0) (ci := 3) (C := "GemCut$Stone") (T := TX3) (N := 5) (fs := [.int 0, .ref q1, .int 0, .int 0, .int 0]) (ty := .int) tyX3 hC hI rfl iw_X3 tyX3_ok nmX3 rfl (by omega) rfl 0 (by decide) tw_1_139 rfl rfl (by decide +kernel) rfl rfl (by simp) dX3_init_15 ?_
  refine g_iconst 0 (hC _) dX3_init_18 (by decide) ?_
  refine g_ist2 (hC _) dX3_init_19 rfl ?_
  exact lp 16 0 _ _ _ _ (fun _ => none) (by omega) rfl rfl rfl rfl rfl (fun j hj => absurd hj (by omega)) (fun j hj => absurd hj (by omega)) hC
