/-! a trial's levels -/
def RS (σ τ : Mem) : Prop := MI τ ∧ MW τ ∧ M16 τ ∧ Rb σ τ ∧ Sv σ τ
/-- nothing but the trial changes -/
def F9 (σ0 σ : Mem) : Prop := ∀ id j, id < 190 → σ id j = σ0 id j
theorem F9.rf (σ : Mem) : F9 σ σ := fun _ _ _ => rfl
theorem F9_tr {a b c : Mem} (h1 : F9 a b) (h2 : F9 b c) : F9 a c := fun id j h => (h2 id j h).trans (h1 id j h)
theorem F9_up {σ0 σ : Mem} (h : F9 σ0 σ) {id j : Nat} (hi : 190 ≤ id) (v : Int32) : F9 σ0 (upd2 σ id j v) := fun a b ha => by
  rw [upd2_ni (by omega)]; exact h a b ha
theorem F9_Fr {σ0 σ : Mem} (h : F9 σ0 σ) : Fr σ0 σ := fun id j hv => h id j (by
  rcases Nat.lt_or_ge id 190 with q | q
  · exact q
  · exact absurd (Or.inl q) hv)
theorem pl_190 {s k : Nat} (hs : s < 8) (hk : k < 16) : iPl s k < 190 := by unfold iPl; omega
theorem st_190 {s : Nat} (hs : s < 8) : iStone s < 190 := by unfold iStone; omega
theorem fl_190 {f : Nat} (hf : f < 10) : iFlaw f + 3 < 190 := by unfold iFlaw; omega
theorem RS_f9 {σ0 σ τ : Mem} (h : RS σ0 τ) (hf : F9 σ0 σ) : RS σ τ := by
  obtain ⟨hM, hW, h6, hb, h1, h2, h3, h4⟩ := h
  have hS := (MI_S hM).2.2
  have hF := (MI_F hM).2
  refine ⟨hM, hW, h6, Rb_fr hM h6 hb (F9_Fr hf), fun s hs => ?_, fun s k hs hk => ?_, fun i hi hl => ?_, fun f s hf2 hs => ?_⟩
  · rw [hf _ _ (st_190 (by omega)), hf _ _ (st_190 (by omega))]; exact h1 s hs
  · have := h6 s (by omega)
    rw [hf _ _ (pl_190 (by omega) (by omega))]; exact h2 s k hs hk
  · rw [hf _ _ (by decide)]; exact h3 i hi hl
  · have := fl_190 (show f < 10 by omega)
    rw [hf _ _ (by omega), hf _ _ (by omega)]; exact h4 f s hf2 hs
/-- a slope that may be tried -/
def Slp (p q r : Int32) : Prop := (-3 ≤ p.toInt ∧ p.toInt ≤ 3) ∧ (-3 ≤ q.toInt ∧ q.toInt ≤ 3) ∧ (-3 ≤ r.toInt ∧ r.toInt ≤ 3)
def zh (τ : Mem) (p q r : Int32) (i : Nat) : Int := zHgt (CI τ i) p.toInt q.toInt r.toInt
theorem zh_rng {τ : Mem} (hM : MI τ) {p q r : Int32} (h : Slp p q r) {i : Nat} (hi : i < NN τ) : -81 ≤ zh τ p q r i ∧ zh τ p q r i ≤ 81 := zHgt_rng (CI_xyz hM hi).2.2.2.2.2.2 h.1 h.2.1 h.2.2
def own (τ : Mem) (s i : Nat) : Bool := τ 1 (CI τ i) == nI s
def cLe (τ : Mem) (s : Nat) (p q r : Int32) (d : Int) : Nat := cnt (fun i => own τ s i && decide (zh τ p q r i ≤ d)) (NN τ)
def cEq (τ : Mem) (s : Nat) (p q r : Int32) (d : Int) (n : Nat) : Nat := cnt (fun i => own τ s i && decide (zh τ p q r i = d)) n
theorem cnt_add {P Q R : Nat → Bool} : ∀ n, (∀ k, k < n → (R k = (P k || Q k)) ∧ (P k && Q k) = false) → cnt R n = cnt P n + cnt Q n := by
  intro n
  induction n with
  | zero => intro _; rfl
  | succ n ih =>
    intro h
    obtain ⟨h1, h2⟩ := h n (by omega)
    simp only [cnt, ih (fun k hk => h k (by omega)), h1]
    cases hp : P n <;> cases hq : Q n <;> simp_all <;> omega
theorem cLe_s (τ : Mem) (s : Nat) (p q r : Int32) (d : Int) : cLe τ s p q r d = cLe τ s p q r (d - 1) + cEq τ s p q r d (NN τ) := by
  refine cnt_add _ (fun k _ => ⟨?_, ?_⟩)
  · cases own τ s k
    · rfl
    · simp only [Bool.true_and]
      by_cases h : zh τ p q r k ≤ d - 1
      · rw [decide_eq_true (show zh τ p q r k ≤ d by omega), decide_eq_true h, Bool.true_or]
      · rw [decide_eq_false h, Bool.false_or, decide_eq_decide]; omega
  · cases own τ s k
    · rfl
    · simp only [Bool.true_and]
      by_cases h : zh τ p q r k ≤ d - 1
      · rw [decide_eq_false (show ¬ zh τ p q r k = d by omega), Bool.and_false]
      · rw [decide_eq_false h, Bool.false_and]
theorem cLe_lo {τ : Mem} (hM : MI τ) {p q r : Int32} (h : Slp p q r) (s : Nat) {d : Int} (hd : d < -81) : cLe τ s p q r d = 0 :=
  cnt_zero _ (fun k hk => by have := zh_rng hM h hk; rw [decide_eq_false (by omega), Bool.and_false])
theorem cLe_hi {τ : Mem} (hM : MI τ) {p q r : Int32} (h : Slp p q r) (s : Nat) {d e : Int} (hd : 81 ≤ d) (he : 81 ≤ e) : cLe τ s p q r d = cLe τ s p q r e :=
  cnt_congr _ (fun k hk => by have := zh_rng hM h hk; rw [decide_eq_true (show zh τ p q r k ≤ d by omega), decide_eq_true (show zh τ p q r k ≤ e by omega)])
theorem cLe_all {τ : Mem} (hM : MI τ) (hW : MW τ) {p q r : Int32} (h : Slp p q r) {s : Nat} (hs : s < 8) {d : Int} (hd : 81 ≤ d) : cLe τ s p q r d = sWt τ (nI s) := by
  rw [← box_wt hM hW hs]
  exact cnt_congr _ (fun k hk => by have := zh_rng hM h hk; rw [decide_eq_true (by omega), Bool.and_true]; rfl)
def hLev (σ : Mem) (n : Nat) (z : Int) (b : Bool) : Mem := if b = true then upd2 (upd2 σ 192 n (iI z)) 193 (z + 81).toNat (σ 193 (z + 81).toNat + 1) else upd2 σ 192 n (iI z)
/-- what a trial holds first: its stone and its plane -/
def Tp (s : Nat) (p q r : Int32) (σ : Mem) : Prop := σ 190 1 = nI s ∧ σ 191 0 = p ∧ σ 191 1 = q ∧ σ 191 2 = r ∧ σ 191 4 = xReach p q r
theorem Tp_up {s : Nat} {p q r : Int32} {σ : Mem} (h : Tp s p q r σ) {id j : Nat} (hi : 191 < id) (v : Int32) : Tp s p q r (upd2 σ id j v) := by
  obtain ⟨h1, h2, h3, h4, h5⟩ := h
  have e0 : upd2 σ id j v 190 = σ 190 := upd2_ni (by omega)
  have e1 : upd2 σ id j v 191 = σ 191 := upd2_ni (by omega)
  exact ⟨by rw [e0]; exact h1, by rw [e1]; exact h2, by rw [e1]; exact h3, by rw [e1]; exact h4, by rw [e1]; exact h5⟩
def Z1 (u : Mem) (s : Nat) (p q r : Int32) (k : Nat) (σ : Mem) : Prop := F9 u σ ∧ Tp s p q r σ ∧ ∀ h, h < k → σ 193 h = 0
def L2 (τ u : Mem) (s : Nat) (p q r : Int32) (n : Nat) (σ : Mem) : Prop := F9 u σ ∧ Tp s p q r σ ∧ (∀ i, i < n → σ 192 i = iI (zh τ p q r i)) ∧ ∀ h, h < 163 → σ 193 h = nI (cEq τ s p q r ((h : Int) - 81) n)
def L3 (τ u : Mem) (s : Nat) (p q r : Int32) (m : Nat) (σ : Mem) : Prop := F9 u σ ∧ Tp s p q r σ ∧ (∀ i, i < NN τ → σ 192 i = iI (zh τ p q r i)) ∧ (∀ h, h < m → σ 193 h = nI (cLe τ s p q r ((h : Int) - 81))) ∧ ∀ h, m ≤ h → h < 163 → σ 193 h = nI (cEq τ s p q r ((h : Int) - 81) (NN τ))
/-- levelled -/
def Lv (τ : Mem) (s : Nat) (p q r : Int32) (σ : Mem) : Prop := Tp s p q r σ ∧ (∀ i, i < NN τ → σ 192 i = iI (zh τ p q r i)) ∧ ∀ h, h < 163 → σ 193 h = nI (cLe τ s p q r ((h : Int) - 81))
theorem Tp_set (σ : Mem) (s : Nat) (p q r : Int32) : Tp s p q r (hSet (upd2 σ 190 1 (nI s)) 191 p q r 0) := by
  refine ⟨?_, ?_, ?_, ?_, ?_⟩ <;> simp [hSet, upd2]
theorem F9_set (σ : Mem) (s : Nat) (p q r : Int32) : F9 σ (hSet (upd2 σ 190 1 (nI s)) 191 p q r 0) := fun id j h => by
  unfold hSet
  rw [if_neg (by omega), upd2_ni (by omega)]
theorem Z1_s {u σ : Mem} {s k : Nat} {p q r : Int32} (h : Z1 u s p q r k σ) : Z1 u s p q r (k + 1) (upd2 σ 193 k 0) :=
  ⟨F9_up h.1 (by decide) _, Tp_up h.2.1 (by decide) _, fun i hi => by
    by_cases e : i = k
    · subst e; exact upd2_at _ _ _ _
    · rw [upd2_nj e]; exact h.2.2 i (by omega)⟩
theorem L2_0 {τ u σ : Mem} {s : Nat} {p q r : Int32} (h : Z1 u s p q r 163 σ) : L2 τ u s p q r 0 σ :=
  ⟨h.1, h.2.1, fun i hi => absurd hi (by omega), fun i hi => by rw [h.2.2 i hi]; exact nI_0.symm⟩
theorem L2_s {τ u σ : Mem} {s n : Nat} {p q r : Int32} (hM : MI τ) (hs : Slp p q r) (h : L2 τ u s p q r n σ) (hn : n < NN τ) : L2 τ u s p q r (n + 1) (hLev σ n (zh τ p q r n) (own τ s n)) := by
  obtain ⟨h1, h2, h3, h4⟩ := h
  have hz := zh_rng hM hs hn
  unfold hLev
  by_cases ho : own τ s n = true
  · rw [if_pos ho]
    refine ⟨F9_up (F9_up h1 (by decide) _) (by decide) _, Tp_up (Tp_up h2 (by decide) _) (by decide) _, fun i hi => ?_, fun g hg => ?_⟩
    · rw [upd2_ni (by decide)]
      by_cases e : i = n
      · subst e; exact upd2_at _ _ _ _
      · rw [upd2_nj e]; exact h3 i (by omega)
    · by_cases e : g = (zh τ p q r n + 81).toNat
      · rw [e, upd2_at, h4 _ (by omega)]
        unfold cEq
        rw [cnt_t (by rw [ho, decide_eq_true (by omega)]; rfl), nI_succ]
      · rw [upd2_nj e, upd2_ni (by decide), h4 g hg]
        unfold cEq
        rw [cnt_f (by rw [decide_eq_false (by omega), Bool.and_false])]
  · rw [if_neg ho]
    have ho2 : own τ s n = false := by simpa using ho
    refine ⟨F9_up h1 (by decide) _, Tp_up h2 (by decide) _, fun i hi => ?_, fun g hg => ?_⟩
    · by_cases e : i = n
      · subst e; exact upd2_at _ _ _ _
      · rw [upd2_nj e]; exact h3 i (by omega)
    · rw [upd2_ni (by decide), h4 g hg]
      unfold cEq
      rw [cnt_f (by rw [ho2, Bool.false_and])]
theorem L3_1 {τ u σ : Mem} {s : Nat} {p q r : Int32} (hM : MI τ) (hs : Slp p q r) (h : L2 τ u s p q r (NN τ) σ) : L3 τ u s p q r 1 σ :=
  ⟨h.1, h.2.1, h.2.2.1, fun g hg => by
    obtain rfl : g = 0 := by omega
    rw [h.2.2.2 0 (by decide), cLe_s, cLe_lo hM hs s (by omega), Nat.zero_add], fun g _ hg => h.2.2.2 g hg⟩
theorem L3_s {τ u σ : Mem} {s m : Nat} {p q r : Int32} (hm : 1 ≤ m) (hm2 : m < 163) (h : L3 τ u s p q r m σ) : L3 τ u s p q r (m + 1) (upd2 σ 193 m (σ 193 m + σ 193 (m - 1))) := by
  obtain ⟨h1, h2, h3, h4, h5⟩ := h
  refine ⟨F9_up h1 (by decide) _, Tp_up h2 (by decide) _, fun i hi => by rw [upd2_ni (by decide)]; exact h3 i hi, fun g hg => ?_, fun g hg hg2 => ?_⟩
  · by_cases e : g = m
    · rw [e, upd2_at, h4 (m - 1) (by omega), h5 m (Nat.le_refl _) hm2, nI_add, cLe_s τ s p q r ((m : Int) - 81), Nat.add_comm]
      congr 3
      omega
    · rw [upd2_nj e]; exact h4 g (by omega)
  · rw [upd2_nj (by omega)]; exact h5 g (by omega) hg2
theorem L3_e {τ u σ : Mem} {s : Nat} {p q r : Int32} (h : L3 τ u s p q r 163 σ) : F9 u σ ∧ Lv τ s p q r σ := ⟨h.1, h.2.1, h.2.2.1, h.2.2.2.1⟩
theorem hgt_at {τ σ : Mem} {s : Nat} {p q r : Int32} (hM : MI τ) (h : Tp s p q r σ) {n x y z : Nat} (hn : n < NN τ) (hx : n % nC τ = x) (hy : n / nC τ % nR τ = y) (hz : n / nC τ / nR τ = z) : xHgt σ 191 (nI x) (nI y) (nI z) = iI (zh τ p q r n) := by
  obtain ⟨-, -, -, e1, e2, e3, -⟩ := CI_xyz hM hn
  unfold zh
  rw [← sHgt_z]
  unfold xHgt sHgt
  rw [h.2.1, h.2.2.1, h.2.2.2.1, e1, e2, e3, hx, hy, hz]
theorem iI_81 (z : Int) : iI z + 81 = iI (z + 81) := by rw [show (81 : Int32) = iI 81 by decide, iI_add]
theorem iI_nat {z : Int} (h : 0 ≤ z) : iI z = nI z.toNat := by rw [nI_iI]; congr 1; omega
theorem lev_ix {z : Int} (h : -81 ≤ z) : iI z + 81 = nI (z + 81).toNat := by rw [iI_81, iI_nat (by omega)]

set_option maxRecDepth 100000 in
set_option maxHeartbeats 4000000 in
/-- X4_levelCell -/
theorem c_X4_levelCell (l : Launch) (s n : Nat) (z : Int) : gMV wX l yX4_levelCell (.code yX4_levelCell cX4_levelCell 3 none) 0 0 0 (fun A => [.ref (A 190), .int (nI n), .int (iI z)]) (fun τ => s < 8 ∧ τ 190 1 = nI s ∧ τ (iStone s) 0 = nI s ∧ n < 1000 ∧ -81 ≤ z ∧ z ≤ 81) (fun τ τ1 => τ1 = hLev τ n z (τ 2 n == nI s)) := by
  refine gMV_of (by decide) (fun A => Nat.le_of_ble_eq_true rfl) ?_
  intro X τ hC hP hE
  have hC : gOk wX l X cX4_levelCell "GemCut$Trial" 0 0 0 := hC
  show G wX X 0 0 0 [some (.ref (gA X 190)), some (.int (nI n)), some (.int (iI z))] [] τ
  obtain ⟨hs, hp1, hst, hn, hz1, hz2⟩ := hP
  have hps : (upd2 τ 192 n (iI z) 190 1).toNatClampNeg = s := by rw [upd2_ni (by decide), hp1]; exact nI_clamp (by omega)
  refine g_ald0 hC dX4_levelCell_0 ?_
  refine xg_Trial_heights hC tw_1_175 dX4_levelCell_1 ?_
  refine g_ild1 hC dX4_levelCell_4 ?_
  refine g_ild2 hC dX4_levelCell_5 ?_
  refine xs_heights n hC rfl hn dX4_levelCell_6 ?_
  refine g_ald0 hC dX4_levelCell_7 ?_
  refine xg_Trial_rough hC tw_1_172 dX4_levelCell_8 ?_
  refine xg_Rough_owner hC tw_1_69 dX4_levelCell_11 ?_
  refine g_ild1 hC dX4_levelCell_14 ?_
  refine xl_owner n hC rfl hn dX4_levelCell_15 ?_
  rw [show upd2 τ 192 n (iI z) 2 n = τ 2 n by rw [upd2_ni (by decide)]]
  refine g_ald0 hC dX4_levelCell_16 ?_
  refine xg_Trial_piece hC tw_1_173 dX4_levelCell_17 ?_
  rw [hps]
  refine xg_Stone_number hC (by first | assumption | omega | exact xk_pl _ (by assumption) _ (by omega) | decide) tw_1_140 dX4_levelCell_20 ?_
  rw [show upd2 τ 192 n (iI z) (iStone s) 0 = nI s by rw [upd2_ni (by unfold iStone; omega)]; exact hst]
  refine g_icmp_ne 51 hC dX4_levelCell_23 (by decide) (fun c23 => ?_) (fun c23 => ?_)
  · exact hE _ _ _ _ _ dX4_levelCell_51 (Nat.le_refl _) (Nat.le_refl _) (by first | (rw [hLev, if_neg (by simpa using c23)]) | (rw [hLev, if_pos (by simpa using c23), show upd2 τ 192 n (iI z) 193 (z + 81).toNat = τ 193 (z + 81).toNat by rw [upd2_ni (by decide)]]))
  · refine g_ild2 hC dX4_levelCell_26 ?_
    refine g_bipush (-81) hC dX4_levelCell_27 (by decide) ?_
    refine g_icmp_lt 51 hC dX4_levelCell_29 (by decide) (fun c29 => absurd c29 (by rw [show (-81 : Int32) = iI (-81) by decide, iI_lt (by omega) (by omega)]; omega)) (fun c29 => ?_)
    refine g_ild2 hC dX4_levelCell_32 ?_
    refine g_bipush 81 hC dX4_levelCell_33 (by decide) ?_
    refine g_icmp_gt 51 hC dX4_levelCell_35 (by decide) (fun c35 => absurd c35 (by rw [show (81 : Int32) = iI 81 by decide, iI_lt (by omega) (by omega)]; omega)) (fun c35 => ?_)
    refine g_ald0 hC dX4_levelCell_38 ?_
    refine xg_Trial_upTo hC tw_1_176 dX4_levelCell_39 ?_
    refine g_ild2 hC dX4_levelCell_42 ?_
    refine g_bipush 81 hC dX4_levelCell_43 (by decide) ?_
    refine g_iadd hC dX4_levelCell_45 ?_
    refine g_dup2 hC dX4_levelCell_46 rfl rfl ?_
    refine xl_upTo (z + 81).toNat hC (lev_ix hz1) (by omega) dX4_levelCell_47 ?_
    refine g_iconst 1 hC dX4_levelCell_48 (by decide) ?_
    refine g_iadd hC dX4_levelCell_49 ?_
    refine xs_upTo (z + 81).toNat hC (lev_ix hz1) (by omega) dX4_levelCell_50 ?_
    exact hE _ _ _ _ _ dX4_levelCell_51 (Nat.le_refl _) (Nat.le_refl _) (by first | (rw [hLev, if_neg (by simpa using c23)]) | (rw [hLev, if_pos (by simpa using c23), show upd2 τ 192 n (iI z) 193 (z + 81).toNat = τ 193 (z + 81).toNat by rw [upd2_ni (by decide)]]))
theorem k_X4_levelCell {l : Launch} {X : gC} {cc : ByteArray} {own : String} {dd ca sa kc nc pc : Nat} {ls : List (Option Value)} {st : List Value} {σ : Mem} {idx : Nat} {s n : Nat} {z : Int} (hC : gOk wX l X cc own dd ca sa) (hlk : Cond.methodLink own idx yX4_levelCell ∈ TB) (hd : decode cc pc = .ok (.invokevirtual idx, 3)) (hdd : 0 + 1 ≤ dd) (hfr : kc + 0 ≤ ca ∧ nc + 0 ≤ sa) (hrest : (st.map fun v => v.category).sum ≤ 8)  (hP : s < 8 ∧ σ 190 1 = nI s ∧ σ (iStone s) 0 = nI s ∧ n < 1000 ∧ -81 ≤ z ∧ z ≤ 81) (kk : G wX X kc nc (pc + 3) ls st (hLev σ n z (σ 2 n == nI s))) : G wX X kc nc pc ls (.int (iI z) :: .int (nI n) :: .ref (gA X 190) :: st) σ := by
  exact g_cVV 2 hC (c_X4_levelCell l s n z) hlk ⟨tw_2_181, tws_1_8, tw_1_6, tw_2_182⟩ (by decide +kernel) ⟨hdd, by decide⟩ hfr rfl rfl rfl (rv_Trial _ _) hrest rfl hd hP (fun σ1 hq => by subst hq; exact kk)
set_option maxRecDepth 100000 in
set_option maxHeartbeats 4000000 in
/-- X4_level -/
theorem c_X4_level (l : Launch) (t : Mem) (s : Nat) (p q r : Int32) : gMV wX l yX4_level (.code yX4_level cX4_level 9 none) 2 0 0 (fun A => [.ref (A 190), .ref (A (iStone s)), .int p, .int q, .int r]) (fun τ => s < 8 ∧ s < nS t ∧ RS τ t ∧ Slp p q r) (fun τ τ1 => F9 τ τ1 ∧ Lv t s p q r τ1) := by
  refine gMV_of (by decide) (fun A => Nat.le_of_ble_eq_true rfl) ?_
  intro X τ hC hP hE
  have hC : gOk wX l X cX4_level "GemCut$Trial" 2 0 0 := hC
  show G wX X 0 0 0 [some (.ref (gA X 190)), some (.ref (gA X (iStone s))), some (.int p), some (.int q), some (.int r), none, none, none, none] [] τ
  obtain ⟨hs, hs2, hRS, hSl⟩ := hP
  have hM : MI t := hRS.1
  obtain ⟨⟨hC1, hC2, hC3⟩, ⟨hR1, hR2, hR3⟩, ⟨hL1, hL2, hL3⟩⟩ := MI_C hM
  obtain ⟨hF1, hF2⟩ := MI_F hM
  obtain ⟨hS1, hS2, hS3⟩ := MI_S hM
  have hN' : NN t ≤ 1000 := (vol_rng (MI_C hM).1.2 (MI_C hM).2.1.2 (MI_C hM).2.2.2).2
  have lpg : ∀ (m g : Nat) (σ : Mem), g + m = 163 → 1 ≤ g ∧ L3 t τ s p q r g σ → G wX X 0 0 135 [some (.ref (gA X 190)), some (.ref (gA X (iStone s))), some (.int p), some (.int q), some (.int r), some (.int (nI (NN t))), some (.int (nI g)), none, none] [] (σ) := by
    intro m
    induction m with
    | zero =>
      intro g σ hg hI
      have hg : g = 163 := by omega
      (try rw [hg] at hI); rw [hg]
      refine g_ild6 hC dX4_level_135 ?_
      refine g_ald0 hC dX4_level_137 ?_
      refine xg_Trial_upTo hC tw_1_176 dX4_level_138 ?_
      refine xn_upTo hC dX4_level_141 ?_
      refine g_icmp_ge 170 hC dX4_level_142 (by decide) (fun c142 => ?_) (fun c142 => absurd (nI_le (by omega) (by omega)) c142)
      exact hE _ _ _ _ _ dX4_level_170 (Nat.le_refl _) (Nat.le_refl _) (L3_e hI.2)
    | succ m ihg =>
      intro g σ hg hI
      refine g_ild6 hC dX4_level_135 ?_
      refine g_ald0 hC dX4_level_137 ?_
      refine xg_Trial_upTo hC tw_1_176 dX4_level_138 ?_
      refine xn_upTo hC dX4_level_141 ?_
      refine g_icmp_ge 170 hC dX4_level_142 (by decide) (fun c142 => absurd c142 (nI_ge (by omega) (by omega))) (fun c142 => ?_)
      refine g_ald0 hC dX4_level_145 ?_
      refine xg_Trial_upTo hC tw_1_176 dX4_level_146 ?_
      refine g_ild6 hC dX4_level_149 ?_
      refine g_dup2 hC dX4_level_151 rfl rfl ?_
      refine xl_upTo g hC rfl (by omega) dX4_level_152 ?_
      refine g_ald0 hC dX4_level_153 ?_
      refine xg_Trial_upTo hC tw_1_176 dX4_level_154 ?_
      refine g_ild6 hC dX4_level_157 ?_
      refine g_iconst 1 hC dX4_level_159 (by decide) ?_
      refine g_isub hC dX4_level_160 ?_
      refine xl_upTo (g - 1) hC (nI_sub1 g hI.1) (by omega) dX4_level_161 ?_
      refine g_iadd hC dX4_level_162 ?_
      refine xs_upTo g hC rfl (by omega) dX4_level_163 ?_
      refine g_inc6 1 hC dX4_level_164 (by decide) rfl ?_
      refine g_goto 135 hC dX4_level_167 (by decide) ?_
      rw [nI_1]
      exact ihg (g + 1) _ (by omega) ⟨by omega, L3_s hI.1 (by omega) hI.2⟩
  have lpz : ∀ (m z : Nat) (σ : Mem), z + m = nL t → L2 t τ s p q r ((z * nR t + 0) * nC t + 0) σ → G wX X 0 0 50 [some (.ref (gA X 190)), some (.ref (gA X (iStone s))), some (.int p), some (.int q), some (.int r), some (.int (nI ((z * nR t + 0) * nC t + 0))), some (.int (nI z)), none, none] [] (σ) := by
    intro m
    induction m with
    | zero =>
      intro z σ hz hI
      have hz : z = nL t := by omega
      (try rw [hz] at hI); rw [hz]
      obtain ⟨-, -, -, hRb, -⟩ := RS_f9 hRS hI.1
      obtain ⟨⟨a1, a2, a3, a4, a5, -, -⟩, b2, b3, b4, b5, b6⟩ := hRb
      have hC9 : σ 1 0 = nI (nC t) := by rw [a1]; exact hC1
      have hR9 : σ 1 1 = nI (nR t) := by rw [a2]; exact hR1
      have hL9 : σ 1 2 = nI (nL t) := by rw [a3]; exact hL1
      refine g_ild6 hC dX4_level_50 ?_
      refine g_ald0 hC dX4_level_52 ?_
      refine xg_Trial_rough hC tw_1_172 dX4_level_53 ?_
      refine xg_Rough_layers hC tw_1_66 dX4_level_56 ?_
      refine g_icmp_ge 132 hC dX4_level_59 (by decide) (fun c59 => ?_) (fun c59 => absurd (by rw [hL9]; exact nI_le (by omega) (by omega)) c59)
      refine g_iconst 1 hC dX4_level_132 (by decide) ?_
      refine g_ist6 hC dX4_level_133 rfl ?_
      refine g_keep [true, true, true, true, true, true, true, false, false] ?_
      have e9 : (nL t * nR t + 0) * nC t + 0 = NN t := by unfold NN; rw [Nat.add_zero, Nat.add_zero, Nat.mul_comm, Nat.mul_comm (nL t), Nat.mul_assoc]
      rw [e9] at hI ⊢
      exact lpg 162 1 σ (by omega) ⟨Nat.le_refl _, L3_1 hM hSl hI⟩
    | succ m ihz =>
      intro z σ hz hI
      obtain ⟨-, -, -, hRb, -⟩ := RS_f9 hRS hI.1
      obtain ⟨⟨a1, a2, a3, a4, a5, -, -⟩, b2, b3, b4, b5, b6⟩ := hRb
      have hC9 : σ 1 0 = nI (nC t) := by rw [a1]; exact hC1
      have hR9 : σ 1 1 = nI (nR t) := by rw [a2]; exact hR1
      have hL9 : σ 1 2 = nI (nL t) := by rw [a3]; exact hL1
      have lpy : ∀ (m y : Nat) (σ : Mem), y + m = nR t → L2 t τ s p q r ((z * nR t + y) * nC t + 0) σ → G wX X 0 0 65 [some (.ref (gA X 190)), some (.ref (gA X (iStone s))), some (.int p), some (.int q), some (.int r), some (.int (nI ((z * nR t + y) * nC t + 0))), some (.int (nI z)), some (.int (nI y)), none] [] (σ) := by
        intro m
        induction m with
        | zero =>
          intro y σ hy hI
          have hy : y = nR t := by omega
          (try rw [hy] at hI); rw [hy]
          obtain ⟨-, -, -, hRb, -⟩ := RS_f9 hRS hI.1
          obtain ⟨⟨a1, a2, a3, a4, a5, -, -⟩, b2, b3, b4, b5, b6⟩ := hRb
          have hC9 : σ 1 0 = nI (nC t) := by rw [a1]; exact hC1
          have hR9 : σ 1 1 = nI (nR t) := by rw [a2]; exact hR1
          have hL9 : σ 1 2 = nI (nL t) := by rw [a3]; exact hL1
          refine g_ild7 hC dX4_level_65 ?_
          refine g_ald0 hC dX4_level_67 ?_
          refine xg_Trial_rough hC tw_1_172 dX4_level_68 ?_
          refine xg_Rough_rows hC tw_1_63 dX4_level_71 ?_
          refine g_icmp_ge 126 hC dX4_level_74 (by decide) (fun c74 => ?_) (fun c74 => absurd (by rw [hR9]; exact nI_le (by omega) (by omega)) c74)
          refine g_inc6 1 hC dX4_level_126 (by decide) rfl ?_
          refine g_goto 50 hC dX4_level_129 (by decide) ?_
          refine g_keep [true, true, true, true, true, true, true, false, false] ?_
          rw [nI_1]
          have e9 : (z * nR t + nR t) * nC t + 0 = ((z + 1) * nR t + 0) * nC t + 0 := by rw [Nat.add_mul z 1, Nat.one_mul, Nat.add_zero (z * nR t + nR t)]
          rw [e9] at hI ⊢
          exact ihz (z + 1) σ (by omega) hI
        | succ m ihy =>
          intro y σ hy hI
          obtain ⟨-, -, -, hRb, -⟩ := RS_f9 hRS hI.1
          obtain ⟨⟨a1, a2, a3, a4, a5, -, -⟩, b2, b3, b4, b5, b6⟩ := hRb
          have hC9 : σ 1 0 = nI (nC t) := by rw [a1]; exact hC1
          have hR9 : σ 1 1 = nI (nR t) := by rw [a2]; exact hR1
          have hL9 : σ 1 2 = nI (nL t) := by rw [a3]; exact hL1
          have lpx : ∀ (m x : Nat) (σ : Mem), x + m = nC t → L2 t τ s p q r ((z * nR t + y) * nC t + x) σ → G wX X 0 0 80 [some (.ref (gA X 190)), some (.ref (gA X (iStone s))), some (.int p), some (.int q), some (.int r), some (.int (nI ((z * nR t + y) * nC t + x))), some (.int (nI z)), some (.int (nI y)), some (.int (nI x))] [] (σ) := by
            intro m
            induction m with
            | zero =>
              intro x σ hx hI
              have hx : x = nC t := by omega
              (try rw [hx] at hI); rw [hx]
              obtain ⟨-, -, -, hRb, -⟩ := RS_f9 hRS hI.1
              obtain ⟨⟨a1, a2, a3, a4, a5, -, -⟩, b2, b3, b4, b5, b6⟩ := hRb
              have hC9 : σ 1 0 = nI (nC t) := by rw [a1]; exact hC1
              have hR9 : σ 1 1 = nI (nR t) := by rw [a2]; exact hR1
              have hL9 : σ 1 2 = nI (nL t) := by rw [a3]; exact hL1
              refine g_ild8 hC dX4_level_80 ?_
              refine g_ald0 hC dX4_level_82 ?_
              refine xg_Trial_rough hC tw_1_172 dX4_level_83 ?_
              refine xg_Rough_columns hC tw_1_60 dX4_level_86 ?_
              refine g_icmp_ge 120 hC dX4_level_89 (by decide) (fun c89 => ?_) (fun c89 => absurd (by rw [hC9]; exact nI_le (by omega) (by omega)) c89)
              refine g_inc7 1 hC dX4_level_120 (by decide) rfl ?_
              refine g_goto 65 hC dX4_level_123 (by decide) ?_
              refine g_keep [true, true, true, true, true, true, true, true, false] ?_
              rw [nI_1]
              have e9 : (z * nR t + y) * nC t + nC t = (z * nR t + (y + 1)) * nC t + 0 := by rw [Nat.add_zero, ← Nat.add_assoc (z * nR t), Nat.add_mul _ 1, Nat.one_mul]
              rw [e9] at hI ⊢
              exact ihy (y + 1) σ (by omega) hI
            | succ m ihx =>
              intro x σ hx hI
              obtain ⟨-, -, -, hRb, -⟩ := RS_f9 hRS hI.1
              obtain ⟨⟨a1, a2, a3, a4, a5, -, -⟩, b2, b3, b4, b5, b6⟩ := hRb
              have hC9 : σ 1 0 = nI (nC t) := by rw [a1]; exact hC1
              have hR9 : σ 1 1 = nI (nR t) := by rw [a2]; exact hR1
              have hL9 : σ 1 2 = nI (nL t) := by rw [a3]; exact hL1
              have hlt : ((z * nR t + y) * nC t + x) < NN t := by unfold NN; exact box_lt (by omega) (by omega) (by omega)
              obtain ⟨d1, d2, d3⟩ := ix_mod (z := z) (show x < nC t by omega) (show y < nR t by omega)
              have ho9 : σ 2 ((z * nR t + y) * nC t + x) = t 1 (CI t ((z * nR t + y) * nC t + x)) := b2 _ hlt
              refine g_ild8 hC dX4_level_80 ?_
              refine g_ald0 hC dX4_level_82 ?_
              refine xg_Trial_rough hC tw_1_172 dX4_level_83 ?_
              refine xg_Rough_columns hC tw_1_60 dX4_level_86 ?_
              refine g_icmp_ge 120 hC dX4_level_89 (by decide) (fun c89 => absurd c89 (by rw [hC9]; exact nI_ge (by omega) (by omega))) (fun c89 => ?_)
              refine g_ald0 hC dX4_level_92 ?_
              refine g_ild5 hC dX4_level_93 ?_
              refine g_ald0 hC dX4_level_95 ?_
              refine xg_Trial_tried hC tw_1_174 dX4_level_96 ?_
              refine g_ild8 hC dX4_level_99 ?_
              refine g_ild7 hC dX4_level_101 ?_
              refine g_ild6 hC dX4_level_103 ?_
              refine k_X1_heightOf (i := 191) hC tw_2_178 dX4_level_105 (by decide) ⟨by omega, by omega⟩ (Nat.le_of_ble_eq_true rfl) xk_tried ?_
              rw [hgt_at hM hI.2.1 hlt d1 d2 d3]
              refine k_X4_levelCell (s := s) hC tw_2_179 dX4_level_108 (by decide) ⟨by omega, by omega⟩ (Nat.le_of_ble_eq_true rfl) ⟨hs, hI.2.1.1, b3 s hs, by omega, (zh_rng hM hSl hlt).1, (zh_rng hM hSl hlt).2⟩ ?_
              rw [ho9]
              refine g_inc5 1 hC dX4_level_111 (by decide) rfl ?_
              refine g_inc8 1 hC dX4_level_114 (by decide) rfl ?_
              refine g_goto 80 hC dX4_level_117 (by decide) ?_
              rw [nI_1, nI_1]
              exact ihx (x + 1) _ (by omega) (L2_s hM hSl hI hlt)
          refine g_ild7 hC dX4_level_65 ?_
          refine g_ald0 hC dX4_level_67 ?_
          refine xg_Trial_rough hC tw_1_172 dX4_level_68 ?_
          refine xg_Rough_rows hC tw_1_63 dX4_level_71 ?_
          refine g_icmp_ge 126 hC dX4_level_74 (by decide) (fun c74 => absurd c74 (by rw [hR9]; exact nI_ge (by omega) (by omega))) (fun c74 => ?_)
          refine g_iconst 0 hC dX4_level_77 (by decide) ?_
          refine g_ist8 hC dX4_level_78 rfl ?_
          exact lpx (nC t) 0 σ (by omega) hI
      refine g_ild6 hC dX4_level_50 ?_
      refine g_ald0 hC dX4_level_52 ?_
      refine xg_Trial_rough hC tw_1_172 dX4_level_53 ?_
      refine xg_Rough_layers hC tw_1_66 dX4_level_56 ?_
      refine g_icmp_ge 132 hC dX4_level_59 (by decide) (fun c59 => absurd c59 (by rw [hL9]; exact nI_ge (by omega) (by omega))) (fun c59 => ?_)
      refine g_iconst 0 hC dX4_level_62 (by decide) ?_
      refine g_ist7 hC dX4_level_63 rfl ?_
      exact lpy (nR t) 0 σ (by omega) hI
  have lph : ∀ (m h : Nat) (σ : Mem), h + m = 163 → Z1 τ s p q r h σ → G wX X 0 0 20 [some (.ref (gA X 190)), some (.ref (gA X (iStone s))), some (.int p), some (.int q), some (.int r), some (.int (nI h)), none, none, none] [] (σ) := by
    intro m
    induction m with
    | zero =>
      intro h σ hh hI
      have hh : h = 163 := by omega
      (try rw [hh] at hI); rw [hh]
      refine g_ild5 hC dX4_level_20 ?_
      refine g_ald0 hC dX4_level_22 ?_
      refine xg_Trial_upTo hC tw_1_176 dX4_level_23 ?_
      refine xn_upTo hC dX4_level_26 ?_
      refine g_icmp_ge 44 hC dX4_level_27 (by decide) (fun c27 => ?_) (fun c27 => absurd (nI_le (by omega) (by omega)) c27)
      refine g_iconst 0 hC dX4_level_44 (by decide) ?_
      refine g_ist5 hC dX4_level_45 rfl ?_
      refine g_iconst 0 hC dX4_level_47 (by decide) ?_
      refine g_ist6 hC dX4_level_48 rfl ?_
      refine g_keep [true, true, true, true, true, true, true, false, false] ?_
      have e9 : (0 * nR t + 0) * nC t + 0 = 0 := by rw [Nat.zero_mul, Nat.zero_mul]
      have h9 := lpz (nL t) 0 σ (by omega) (by rw [e9]; exact L2_0 hI)
      rw [e9] at h9
      exact h9
    | succ m ihh =>
      intro h σ hh hI
      refine g_ild5 hC dX4_level_20 ?_
      refine g_ald0 hC dX4_level_22 ?_
      refine xg_Trial_upTo hC tw_1_176 dX4_level_23 ?_
      refine xn_upTo hC dX4_level_26 ?_
      refine g_icmp_ge 44 hC dX4_level_27 (by decide) (fun c27 => absurd c27 (nI_ge (by omega) (by omega))) (fun c27 => ?_)
      refine g_ald0 hC dX4_level_30 ?_
      refine xg_Trial_upTo hC tw_1_176 dX4_level_31 ?_
      refine g_ild5 hC dX4_level_34 ?_
      refine g_iconst 0 hC dX4_level_36 (by decide) ?_
      refine xs_upTo h hC rfl (by omega) dX4_level_37 ?_
      refine g_inc5 1 hC dX4_level_38 (by decide) rfl ?_
      refine g_goto 20 hC dX4_level_41 (by decide) ?_
      rw [nI_1]
      exact ihh (h + 1) _ (by omega) (Z1_s hI)
  refine g_ald0 hC dX4_level_0 ?_
  refine g_ald1 hC dX4_level_1 ?_
  refine xp_Trial_piece hC hs tw_1_173 dX4_level_2 ?_
  refine g_ald0 hC dX4_level_5 ?_
  refine xg_Trial_tried hC tw_1_174 dX4_level_6 ?_
  refine g_ild2 hC dX4_level_9 ?_
  refine g_ild3 hC dX4_level_10 ?_
  refine g_ild4 hC dX4_level_11 ?_
  refine g_iconst 0 hC dX4_level_13 (by decide) ?_
  refine k_X1_set (i := 191) hC tw_2_168 dX4_level_14 (by decide) ⟨by omega, by omega⟩ (Nat.le_of_ble_eq_true rfl) xk_tried ?_
  refine g_iconst 0 hC dX4_level_17 (by decide) ?_
  refine g_ist5 hC dX4_level_18 rfl ?_
  exact lph 163 0 _ (by omega) ⟨F9_set τ s p q r, Tp_set τ s p q r, fun i hi => absurd hi (by omega)⟩
theorem k_X4_level {l : Launch} {X : gC} {cc : ByteArray} {own : String} {dd ca sa kc nc pc : Nat} {ls : List (Option Value)} {st : List Value} {σ : Mem} {idx : Nat} {t : Mem} {s : Nat} {p q r : Int32} (hC : gOk wX l X cc own dd ca sa) (hlk : Cond.methodLink own idx yX4_level ∈ TB) (hd : decode cc pc = .ok (.invokevirtual idx, 3)) (hdd : 2 + 1 ≤ dd) (hfr : kc + 0 ≤ ca ∧ nc + 0 ≤ sa) (hrest : (st.map fun v => v.category).sum ≤ 8)  (hP : s < 8 ∧ s < nS t ∧ RS σ t ∧ Slp p q r) (kk : ∀ (σ1 : Mem), F9 σ σ1 ∧ Lv t s p q r σ1 → G wX X kc nc (pc + 3) ls st σ1) : G wX X kc nc pc ls (.int r :: .int q :: .int p :: .ref (gA X (iStone s)) :: .ref (gA X 190) :: st) σ := by
  exact g_cVV 4 hC (c_X4_level l t s p q r) hlk ⟨tw_2_165, tw_2_166, tw_1_6, tw_2_167⟩ (by decide +kernel) ⟨hdd, by decide⟩ hfr rfl rfl rfl (rv_Trial _ _) hrest rfl hd hP kk
theorem toInt_lt (x y : Int32) : x < y ↔ x.toInt < y.toInt := Int32.lt_iff_toInt_lt
theorem toInt_le (x y : Int32) : x ≤ y ↔ x.toInt ≤ y.toInt := Int32.le_iff_toInt_le
theorem wt_ix {d : Int32} (h : -81 ≤ d) : (if (81 : Int32) < d then (81 : Int32) else d) + 81 = nI ((if 81 < d.toInt then 81 else d.toInt) + 81).toNat := by
  rw [toInt_le, show (-81 : Int32).toInt = -81 by decide] at h
  by_cases h2 : (81 : Int32) < d
  · have h3 := (toInt_lt _ _).mp h2
    rw [show (81 : Int32).toInt = 81 by decide] at h3
    rw [if_pos h2, if_pos h3]; decide
  · have h3 := fun q => h2 ((toInt_lt _ _).mpr q)
    rw [show (81 : Int32).toInt = 81 by decide] at h3
    rw [if_neg h2, if_neg h3]
    calc d + 81 = iI d.toInt + 81 := by rw [← iI_of]
      _ = _ := by rw [iI_81, iI_nat (by omega)]
theorem wt_ix2 {d : Int32} (h : -81 ≤ d) : ((if 81 < d.toInt then 81 else d.toInt) + 81).toNat < 163 := by
  rw [toInt_le, show (-81 : Int32).toInt = -81 by decide] at h
  split <;> omega
theorem wt_lo {τ : Mem} (hM : MI τ) {p q r : Int32} (hs : Slp p q r) (s : Nat) {d : Int32} (h : ¬ -81 ≤ d) : (0 : Int32) = nI (cLe τ s p q r d.toInt) := by
  rw [toInt_le, show (-81 : Int32).toInt = -81 by decide] at h
  rw [cLe_lo hM hs s (by omega)]; exact nI_0.symm
theorem wt_hi {τ σ : Mem} (hM : MI τ) {p q r : Int32} (hs : Slp p q r) {s : Nat} (hL : Lv τ s p q r σ) {d : Int32} (h : -81 ≤ d) : σ 193 ((if 81 < d.toInt then 81 else d.toInt) + 81).toNat = nI (cLe τ s p q r d.toInt) := by
  have h2 := wt_ix2 h
  rw [toInt_le, show (-81 : Int32).toInt = -81 by decide] at h
  rw [hL.2.2 _ h2]
  congr 1
  by_cases h3 : 81 < d.toInt
  · rw [if_pos h3]; exact cLe_hi hM hs s (by decide) (by omega)
  · rw [if_neg h3]; congr 1; omega
theorem loss_at {τ : Mem} (hM : MI τ) (hW : MW τ) {p q r : Int32} (h : Slp p q r) {s : Nat} (hs : s < 8) (d : Int32) : sWt τ (nI s) = cLe τ s p q r d.toInt + sTurn τ (nI s) p q r d := by
  have e : sTurn τ (nI s) p q r d = cnt (fun i => pTurn τ (nI s) p q r d (CI τ i)) (NN τ) := (box_cnt hM hW (pTurn τ (nI s) p q r d) (fun k hk => by unfold pTurn; rw [hk, m1_nI (by omega), Bool.false_and])).symm
  rw [← box_wt hM hW hs, e]
  refine cnt_add _ (fun k hk => ?_)
  have hz := zh_rng hM h hk
  have e2 : sHgt (CI τ k) p q r = iI (zh τ p q r k) := sHgt_z
  have e3 : (d < iI (zh τ p q r k)) ↔ d.toInt < zh τ p q r k := by rw [toInt_lt, iI_toInt (by omega) (by omega)]
  unfold pTurn pWt own
  rw [e2]
  cases τ 1 (CI τ k) == nI s
  · exact ⟨rfl, rfl⟩
  · simp only [Bool.true_and]
    by_cases hd : d.toInt < zh τ p q r k
    · rw [decide_eq_true (e3.mpr hd), decide_eq_false (by omega)]; exact ⟨rfl, rfl⟩
    · rw [decide_eq_false (fun x => hd (e3.mp x)), decide_eq_true (by omega)]; exact ⟨rfl, rfl⟩
theorem nI_cancel (a b : Nat) : nI (a + b) - nI a = nI b := by
  rw [nI_iI, nI_iI, iI_sub, nI_iI]; congr 1; omega
theorem cLe_le {τ : Mem} (hM : MI τ) (s : Nat) (p q r : Int32) (d : Int) : cLe τ s p q r d ≤ 1000 :=
  Nat.le_trans (cnt_le _ _) (vol_rng (MI_C hM).1.2 (MI_C hM).2.1.2 (MI_C hM).2.2.2).2
/-- would be a facet; is within the stone -/
def wF (τ : Mem) (s : Nat) (p q r d : Int32) : Bool := decide (cLe τ s p q r (d - xReach p q r).toInt < cLe τ s p q r d.toInt)
def wI (τ : Mem) (s : Nat) (p q r d : Int32) : Bool := decide (0 < cLe τ s p q r d.toInt) && decide (cLe τ s p q r (d - 1).toInt < sWt τ (nI s))
theorem nI_le0 {a : Nat} (h : a ≤ 1000) : nI a ≤ 0 ↔ a = 0 := by
  rw [show (0 : Int32) = nI 0 by decide, nI_leI (by omega) (by omega)]; omega

set_option maxRecDepth 100000 in
set_option maxHeartbeats 4000000 in
/-- X4_weightAt -/
theorem c_X4_weightAt (l : Launch) (t : Mem) (s : Nat) (p q r d : Int32) : gMI wX l yX4_weightAt (.code yX4_weightAt cX4_weightAt 2 (some FieldType.int)) 1 0 0 (fun A => [.ref (A 190), .int d]) (fun τ => s < nS t ∧ RS τ t ∧ Slp p q r ∧ Lv t s p q r τ) (fun τ rr τ1 => rr = nI (cLe t s p q r d.toInt) ∧ τ1 = τ) := by
  refine gMI_of (by decide) (fun A => Nat.le_of_ble_eq_true rfl) ?_
  intro X τ hC hP hE
  have hC : gOk wX l X cX4_weightAt "GemCut$Trial" 1 0 0 := hC
  show G wX X 0 0 0 [some (.ref (gA X 190)), some (.int d)] [] τ
  have hP9 := hP
  obtain ⟨hs, hRS, hSl, hLv⟩ := hP
  have hM : MI t := hRS.1
  have hs8 : s < 8 := Nat.lt_of_lt_of_le hs (MI_S hM).2.2
  have hps : (τ 190 1).toNatClampNeg = s := by rw [hLv.1.1]; exact nI_clamp (by omega)
  refine g_ild1 hC dX4_weightAt_0 ?_
  refine g_bipush (-81) hC dX4_weightAt_1 (by decide) ?_
  refine g_icmp_ge 8 hC dX4_weightAt_3 (by decide) (fun c3 => ?_) (fun c3 => ?_)
  · refine g_ald0 hC dX4_weightAt_8 ?_
    refine xg_Trial_upTo hC tw_1_176 dX4_weightAt_9 ?_
    refine g_ild1 hC dX4_weightAt_12 ?_
    refine g_bipush 81 hC dX4_weightAt_13 (by decide) ?_
    refine g_mmin hC (by first | assumption | omega | exact xk_pl _ (by assumption) _ (by omega) | decide) tw_2_191 (Nat.le_of_ble_eq_true rfl) ⟨by omega, by omega⟩ dX4_weightAt_15 ?_
    refine g_bipush 81 hC dX4_weightAt_18 (by decide) ?_
    refine g_iadd hC dX4_weightAt_20 ?_
    refine xl_upTo ((if 81 < d.toInt then 81 else d.toInt) + 81).toNat hC (wt_ix c3) (wt_ix2 c3) dX4_weightAt_21 ?_
    exact hE _ _ _ _ _ _ dX4_weightAt_22 (Nat.le_refl _) (Nat.le_refl _) ⟨wt_hi hM hSl hLv c3, rfl⟩
  · refine g_iconst 0 hC dX4_weightAt_6 (by decide) ?_
    exact hE _ _ _ _ _ _ dX4_weightAt_7 (Nat.le_refl _) (Nat.le_refl _) ⟨wt_lo hM hSl s c3, rfl⟩
theorem k_X4_weightAt {l : Launch} {X : gC} {cc : ByteArray} {own : String} {dd ca sa kc nc pc : Nat} {ls : List (Option Value)} {st : List Value} {σ : Mem} {idx : Nat} {t : Mem} {s : Nat} {p q r d : Int32} (hC : gOk wX l X cc own dd ca sa) (hlk : Cond.methodLink own idx yX4_weightAt ∈ TB) (hd : decode cc pc = .ok (.invokevirtual idx, 3)) (hdd : 1 + 1 ≤ dd) (hfr : kc + 0 ≤ ca ∧ nc + 0 ≤ sa) (hrest : (st.map fun v => v.category).sum ≤ 8)  (hP : s < nS t ∧ RS σ t ∧ Slp p q r ∧ Lv t s p q r σ) (kk : G wX X kc nc (pc + 3) ls (.int (nI (cLe t s p q r d.toInt)) :: st) (σ)) : G wX X kc nc pc ls (.int d :: .ref (gA X 190) :: st) σ := by
  exact g_cVI 1 hC (c_X4_weightAt l t s p q r d) hlk ⟨tw_2_188, tw_2_189, tw_1_6, tw_2_190⟩ (by decide +kernel) ⟨hdd, by decide⟩ hfr rfl rfl rfl (rv_Trial _ _) hrest rfl hd hP (fun rr σ1 hq => by obtain ⟨rfl, rfl⟩ := hq; exact kk)
set_option maxRecDepth 100000 in
set_option maxHeartbeats 4000000 in
/-- X4_lossAt -/
theorem c_X4_lossAt (l : Launch) (t : Mem) (s : Nat) (p q r d : Int32) : gMI wX l yX4_lossAt (.code yX4_lossAt cX4_lossAt 2 (some FieldType.int)) 2 0 0 (fun A => [.ref (A 190), .int d]) (fun τ => s < nS t ∧ RS τ t ∧ Slp p q r ∧ Lv t s p q r τ) (fun τ rr τ1 => rr = nI (sTurn t (nI s) p q r d) ∧ τ1 = τ) := by
  refine gMI_of (by decide) (fun A => Nat.le_of_ble_eq_true rfl) ?_
  intro X τ hC hP hE
  have hC : gOk wX l X cX4_lossAt "GemCut$Trial" 2 0 0 := hC
  show G wX X 0 0 0 [some (.ref (gA X 190)), some (.int d)] [] τ
  have hP9 := hP
  obtain ⟨hs, hRS, hSl, hLv⟩ := hP
  have hM : MI t := hRS.1
  have hs8 : s < 8 := Nat.lt_of_lt_of_le hs (MI_S hM).2.2
  have hps : (τ 190 1).toNatClampNeg = s := by rw [hLv.1.1]; exact nI_clamp (by omega)
  refine g_ald0 hC dX4_lossAt_0 ?_
  refine xg_Trial_piece hC tw_1_173 dX4_lossAt_1 ?_
  rw [hps]
  refine xg_Stone_weight hC (by first | assumption | omega | exact xk_pl _ (by assumption) _ (by omega) | decide) tw_1_150 dX4_lossAt_4 ?_
  rw [(hRS.2.2.2.2.1 s hs).1]
  refine g_ald0 hC dX4_lossAt_7 ?_
  refine g_ild1 hC dX4_lossAt_8 ?_
  refine k_X4_weightAt (t := t) (s := s) (p := p) (q := q) (r := r) (d := d) hC tw_2_187 dX4_lossAt_9 (by decide) ⟨by omega, by omega⟩ (Nat.le_of_ble_eq_true rfl) hP9 ?_
  refine g_isub hC dX4_lossAt_12 ?_
  exact hE _ _ _ _ _ _ dX4_lossAt_13 (Nat.le_refl _) (Nat.le_refl _) ⟨by rw [loss_at hM hRS.2.1 hSl hs8 d]; exact nI_cancel _ _, rfl⟩
theorem k_X4_lossAt {l : Launch} {X : gC} {cc : ByteArray} {own : String} {dd ca sa kc nc pc : Nat} {ls : List (Option Value)} {st : List Value} {σ : Mem} {idx : Nat} {t : Mem} {s : Nat} {p q r d : Int32} (hC : gOk wX l X cc own dd ca sa) (hlk : Cond.methodLink own idx yX4_lossAt ∈ TB) (hd : decode cc pc = .ok (.invokevirtual idx, 3)) (hdd : 2 + 1 ≤ dd) (hfr : kc + 0 ≤ ca ∧ nc + 0 ≤ sa) (hrest : (st.map fun v => v.category).sum ≤ 8)  (hP : s < nS t ∧ RS σ t ∧ Slp p q r ∧ Lv t s p q r σ) (kk : G wX X kc nc (pc + 3) ls (.int (nI (sTurn t (nI s) p q r d)) :: st) (σ)) : G wX X kc nc pc ls (.int d :: .ref (gA X 190) :: st) σ := by
  exact g_cVI 1 hC (c_X4_lossAt l t s p q r d) hlk ⟨tw_2_184, tw_2_185, tw_1_6, tw_2_186⟩ (by decide +kernel) ⟨hdd, by decide⟩ hfr rfl rfl rfl (rv_Trial _ _) hrest rfl hd hP (fun rr σ1 hq => by obtain ⟨rfl, rfl⟩ := hq; exact kk)
set_option maxRecDepth 100000 in
set_option maxHeartbeats 4000000 in
/-- X4_wouldBeFacet -/
theorem c_X4_wouldBeFacet (l : Launch) (t : Mem) (s : Nat) (p q r d : Int32) : gMZ wX l yX4_wouldBeFacet (.code yX4_wouldBeFacet cX4_wouldBeFacet 2 (some FieldType.boolean)) 2 0 0 (fun A => [.ref (A 190), .int d]) (fun τ => s < nS t ∧ RS τ t ∧ Slp p q r ∧ Lv t s p q r τ) (fun τ rr τ1 => rr = b2i (wF t s p q r d) ∧ τ1 = τ) := by
  refine gMZ_of (by decide) (fun A => Nat.le_of_ble_eq_true rfl) ?_
  intro X τ hC hP hE
  have hC : gOk wX l X cX4_wouldBeFacet "GemCut$Trial" 2 0 0 := hC
  show G wX X 0 0 0 [some (.ref (gA X 190)), some (.int d)] [] τ
  have hP9 := hP
  obtain ⟨hs, hRS, hSl, hLv⟩ := hP
  have hM : MI t := hRS.1
  have hs8 : s < 8 := Nat.lt_of_lt_of_le hs (MI_S hM).2.2
  have hps : (τ 190 1).toNatClampNeg = s := by rw [hLv.1.1]; exact nI_clamp (by omega)
  refine g_ald0 hC dX4_wouldBeFacet_0 ?_
  refine g_ild1 hC dX4_wouldBeFacet_1 ?_
  refine k_X4_weightAt (t := t) (s := s) (p := p) (q := q) (r := r) (d := d) hC tw_2_187 dX4_wouldBeFacet_2 (by decide) ⟨by omega, by omega⟩ (Nat.le_of_ble_eq_true rfl) hP9 ?_
  refine g_ald0 hC dX4_wouldBeFacet_5 ?_
  refine g_ild1 hC dX4_wouldBeFacet_6 ?_
  refine g_ald0 hC dX4_wouldBeFacet_7 ?_
  refine xg_Trial_tried hC tw_1_174 dX4_wouldBeFacet_8 ?_
  refine xg_Plane_reach hC xk_tried tw_1_116 dX4_wouldBeFacet_11 ?_
  rw [hLv.1.2.2.2.2]
  refine g_isub hC dX4_wouldBeFacet_14 ?_
  refine k_X4_weightAt (t := t) (s := s) (p := p) (q := q) (r := r) (d := (d - xReach p q r)) hC tw_2_187 dX4_wouldBeFacet_15 (by decide) ⟨by omega, by omega⟩ (Nat.le_of_ble_eq_true rfl) hP9 ?_
  refine g_icmp_le 25 hC dX4_wouldBeFacet_18 (by decide) (fun c18 => ?_) (fun c18 => ?_)
  · refine g_iconst 0 hC dX4_wouldBeFacet_25 (by decide) ?_
    exact hE _ _ _ _ _ _ dX4_wouldBeFacet_26 (Nat.le_refl _) (Nat.le_refl _) (by first | exact Or.inl rfl | exact Or.inr rfl | exact b2i_01 _) ⟨by unfold wF; have g1 := cLe_le hM s p q r d.toInt; have g2 := cLe_le hM s p q r (d - xReach p q r).toInt; (try rw [nI_leI (by omega) (by omega)] at c18); (first | rw [decide_eq_true (by omega)] | rw [decide_eq_false (by omega)]); rfl, rfl⟩
  · refine g_iconst 1 hC dX4_wouldBeFacet_21 (by decide) ?_
    refine g_goto 26 hC dX4_wouldBeFacet_22 (by decide) ?_
    exact hE _ _ _ _ _ _ dX4_wouldBeFacet_26 (Nat.le_refl _) (Nat.le_refl _) (by first | exact Or.inl rfl | exact Or.inr rfl | exact b2i_01 _) ⟨by unfold wF; have g1 := cLe_le hM s p q r d.toInt; have g2 := cLe_le hM s p q r (d - xReach p q r).toInt; (try rw [nI_leI (by omega) (by omega)] at c18); (first | rw [decide_eq_true (by omega)] | rw [decide_eq_false (by omega)]); rfl, rfl⟩
theorem k_X4_wouldBeFacet {l : Launch} {X : gC} {cc : ByteArray} {own : String} {dd ca sa kc nc pc : Nat} {ls : List (Option Value)} {st : List Value} {σ : Mem} {idx : Nat} {t : Mem} {s : Nat} {p q r d : Int32} (hC : gOk wX l X cc own dd ca sa) (hlk : Cond.methodLink own idx yX4_wouldBeFacet ∈ TB) (hd : decode cc pc = .ok (.invokevirtual idx, 3)) (hdd : 2 + 1 ≤ dd) (hfr : kc + 0 ≤ ca ∧ nc + 0 ≤ sa) (hrest : (st.map fun v => v.category).sum ≤ 8)  (hP : s < nS t ∧ RS σ t ∧ Slp p q r ∧ Lv t s p q r σ) (kk : G wX X kc nc (pc + 3) ls (.int (b2i (wF t s p q r d)) :: st) (σ)) : G wX X kc nc pc ls (.int d :: .ref (gA X 190) :: st) σ := by
  exact g_cVZ 1 hC (c_X4_wouldBeFacet l t s p q r d) hlk ⟨tw_3_105, tw_3_106, tw_1_6, tw_3_107⟩ (by decide +kernel) ⟨hdd, by decide⟩ hfr rfl rfl rfl (rv_Trial _ _) hrest rfl hd hP (fun rr σ1 hq => by obtain ⟨rfl, rfl⟩ := hq; exact kk)
set_option maxRecDepth 100000 in
set_option maxHeartbeats 4000000 in
/-- X4_isWithin -/
theorem c_X4_isWithin (l : Launch) (t : Mem) (s : Nat) (p q r d : Int32) : gMZ wX l yX4_isWithin (.code yX4_isWithin cX4_isWithin 2 (some FieldType.boolean)) 2 0 0 (fun A => [.ref (A 190), .int d]) (fun τ => s < nS t ∧ RS τ t ∧ Slp p q r ∧ Lv t s p q r τ) (fun τ rr τ1 => rr = b2i (wI t s p q r d) ∧ τ1 = τ) := by
  refine gMZ_of (by decide) (fun A => Nat.le_of_ble_eq_true rfl) ?_
  intro X τ hC hP hE
  have hC : gOk wX l X cX4_isWithin "GemCut$Trial" 2 0 0 := hC
  show G wX X 0 0 0 [some (.ref (gA X 190)), some (.int d)] [] τ
  have hP9 := hP
  obtain ⟨hs, hRS, hSl, hLv⟩ := hP
  have hM : MI t := hRS.1
  have hs8 : s < 8 := Nat.lt_of_lt_of_le hs (MI_S hM).2.2
  have hps : (τ 190 1).toNatClampNeg = s := by rw [hLv.1.1]; exact nI_clamp (by omega)
  refine g_ald0 hC dX4_isWithin_0 ?_
  refine g_ild1 hC dX4_isWithin_1 ?_
  refine k_X4_weightAt (t := t) (s := s) (p := p) (q := q) (r := r) (d := d) hC tw_2_187 dX4_isWithin_2 (by decide) ⟨by omega, by omega⟩ (Nat.le_of_ble_eq_true rfl) hP9 ?_
  refine g_if_le 29 hC dX4_isWithin_5 (by decide) (fun c5 => ?_) (fun c5 => ?_)
  · refine g_iconst 0 hC dX4_isWithin_29 (by decide) ?_
    exact hE _ _ _ _ _ _ dX4_isWithin_30 (Nat.le_refl _) (Nat.le_refl _) (by first | exact Or.inl rfl | exact Or.inr rfl | exact b2i_01 _) ⟨by unfold wI; have g1 := cLe_le hM s p q r d.toInt; have g2 := cLe_le hM s p q r (d - 1).toInt; have g3 : sWt t (nI s) ≤ 1000 := cnt_le _ _; rw [nI_le0 g1] at c5; (try rw [nI_leI (by omega) (by omega)] at c22); (first | rw [decide_eq_false (show ¬ 0 < _ by omega), Bool.false_and] | rw [decide_eq_true (show 0 < cLe t s p q r d.toInt by omega), Bool.true_and]); (first | rfl | rw [decide_eq_true (by omega)] | rw [decide_eq_false (by omega)]); (try rfl), rfl⟩
  · refine g_ald0 hC dX4_isWithin_8 ?_
    refine g_ild1 hC dX4_isWithin_9 ?_
    refine g_iconst 1 hC dX4_isWithin_10 (by decide) ?_
    refine g_isub hC dX4_isWithin_11 ?_
    refine k_X4_weightAt (t := t) (s := s) (p := p) (q := q) (r := r) (d := (d - 1)) hC tw_2_187 dX4_isWithin_12 (by decide) ⟨by omega, by omega⟩ (Nat.le_of_ble_eq_true rfl) hP9 ?_
    refine g_ald0 hC dX4_isWithin_15 ?_
    refine xg_Trial_piece hC tw_1_173 dX4_isWithin_16 ?_
    rw [hps]
    refine xg_Stone_weight hC (by first | assumption | omega | exact xk_pl _ (by assumption) _ (by omega) | decide) tw_1_150 dX4_isWithin_19 ?_
    rw [(hRS.2.2.2.2.1 s hs).1]
    refine g_icmp_ge 29 hC dX4_isWithin_22 (by decide) (fun c22 => ?_) (fun c22 => ?_)
    · refine g_iconst 0 hC dX4_isWithin_29 (by decide) ?_
      exact hE _ _ _ _ _ _ dX4_isWithin_30 (Nat.le_refl _) (Nat.le_refl _) (by first | exact Or.inl rfl | exact Or.inr rfl | exact b2i_01 _) ⟨by unfold wI; have g1 := cLe_le hM s p q r d.toInt; have g2 := cLe_le hM s p q r (d - 1).toInt; have g3 : sWt t (nI s) ≤ 1000 := cnt_le _ _; rw [nI_le0 g1] at c5; (try rw [nI_leI (by omega) (by omega)] at c22); (first | rw [decide_eq_false (show ¬ 0 < _ by omega), Bool.false_and] | rw [decide_eq_true (show 0 < cLe t s p q r d.toInt by omega), Bool.true_and]); (first | rfl | rw [decide_eq_true (by omega)] | rw [decide_eq_false (by omega)]); (try rfl), rfl⟩
    · refine g_iconst 1 hC dX4_isWithin_25 (by decide) ?_
      refine g_goto 30 hC dX4_isWithin_26 (by decide) ?_
      exact hE _ _ _ _ _ _ dX4_isWithin_30 (Nat.le_refl _) (Nat.le_refl _) (by first | exact Or.inl rfl | exact Or.inr rfl | exact b2i_01 _) ⟨by unfold wI; have g1 := cLe_le hM s p q r d.toInt; have g2 := cLe_le hM s p q r (d - 1).toInt; have g3 : sWt t (nI s) ≤ 1000 := cnt_le _ _; rw [nI_le0 g1] at c5; (try rw [nI_leI (by omega) (by omega)] at c22); (first | rw [decide_eq_false (show ¬ 0 < _ by omega), Bool.false_and] | rw [decide_eq_true (show 0 < cLe t s p q r d.toInt by omega), Bool.true_and]); (first | rfl | rw [decide_eq_true (by omega)] | rw [decide_eq_false (by omega)]); (try rfl), rfl⟩
theorem k_X4_isWithin {l : Launch} {X : gC} {cc : ByteArray} {own : String} {dd ca sa kc nc pc : Nat} {ls : List (Option Value)} {st : List Value} {σ : Mem} {idx : Nat} {t : Mem} {s : Nat} {p q r d : Int32} (hC : gOk wX l X cc own dd ca sa) (hlk : Cond.methodLink own idx yX4_isWithin ∈ TB) (hd : decode cc pc = .ok (.invokevirtual idx, 3)) (hdd : 2 + 1 ≤ dd) (hfr : kc + 0 ≤ ca ∧ nc + 0 ≤ sa) (hrest : (st.map fun v => v.category).sum ≤ 8)  (hP : s < nS t ∧ RS σ t ∧ Slp p q r ∧ Lv t s p q r σ) (kk : G wX X kc nc (pc + 3) ls (.int (b2i (wI t s p q r d)) :: st) (σ)) : G wX X kc nc pc ls (.int d :: .ref (gA X 190) :: st) σ := by
  exact g_cVZ 1 hC (c_X4_isWithin l t s p q r d) hlk ⟨tw_3_130, tws_2_4, tw_1_6, tw_3_131⟩ (by decide +kernel) ⟨hdd, by decide⟩ hfr rfl rfl rfl (rv_Trial _ _) hrest rfl hd hP (fun rr σ1 hq => by obtain ⟨rfl, rfl⟩ := hq; exact kk)
