/-! the class's memory beside the reference's -/
theorem cnt_trunc {P : Nat → Bool} {a : Nat} : ∀ b, a ≤ b → (∀ k, a ≤ k → k < b → P k = false) → cnt P b = cnt P a := by
  intro b
  induction b with
  | zero => intro h _; rw [show a = 0 by omega]
  | succ b ih =>
    intro h hp
    rcases Nat.lt_or_ge b a with q | q
    · rw [show a = b + 1 by omega]
    · rw [cnt_f (hp b q (by omega)), ih q (fun k h1 h2 => hp k h1 (by omega))]
theorem sumN_trunc {g : Nat → Nat} {a : Nat} : ∀ b, a ≤ b → (∀ k, a ≤ k → k < b → g k = 0) → sumN g b = sumN g a := by
  intro b
  induction b with
  | zero => intro h _; rw [show a = 0 by omega]
  | succ b ih =>
    intro h hp
    rcases Nat.lt_or_ge b a with q | q
    · rw [show a = b + 1 by omega]
    · simp only [sumN, hp b q (by omega), ih q (fun k h1 h2 => hp k h1 (by omega)), Nat.add_zero]
theorem cnt_zero {P : Nat → Bool} : ∀ n, (∀ k, k < n → P k = false) → cnt P n = 0 := by
  intro n h
  have := cnt_trunc (P := P) (a := 0) n (Nat.zero_le _) (fun k _ hk => h k hk)
  simpa [cnt] using this
theorem cnt_app (P : Nat → Bool) (a : Nat) : ∀ b, cnt P (a + b) = cnt P a + cnt (fun k => P (a + k)) b := by
  intro b
  induction b with
  | zero => simp [cnt]
  | succ b ih => rw [← Nat.add_assoc]; simp only [cnt, ih]; omega
theorem cnt_blk (P : Nat → Bool) (m : Nat) : ∀ n, cnt P (m * n) = sumN (fun y => cnt (fun x => P (x + m * y)) m) n := by
  intro n
  induction n with
  | zero => simp [cnt, sumN]
  | succ n ih =>
    rw [Nat.mul_succ, cnt_app, ih]
    simp only [sumN]
    congr 1
    exact cnt_congr _ (fun k _ => by rw [Nat.add_comm])
theorem sumN_blk (g : Nat → Nat) (m : Nat) : ∀ n, sumN g (m * n) = sumN (fun y => sumN (fun x => g (x + m * y)) m) n := by
  have app : ∀ a b, sumN g (a + b) = sumN g a + sumN (fun k => g (a + k)) b := by
    intro a b
    induction b with
    | zero => simp [sumN]
    | succ b ih => rw [← Nat.add_assoc]; simp only [sumN, ih]; omega
  intro n
  induction n with
  | zero => simp [sumN]
  | succ n ih =>
    rw [Nat.mul_succ, app, ih]
    simp only [sumN]
    congr 1
    exact sumN_congr _ (fun k _ => by rw [Nat.add_comm])
/-- the reference's number of the i-th cell of a rough of C columns and R rows -/
def bI (C R i : Nat) : Nat := i % C + 10 * (i / C % R + 10 * (i / C / R))
theorem bI_at {C R x y z : Nat} (hx : x < C) (hy : y < R) : bI C R (x + C * (y + R * z)) = x + 10 * (y + 10 * z) := by
  have hC : 0 < C := by omega
  have hR : 0 < R := by omega
  unfold bI
  rw [Nat.add_mul_mod_self_left, Nat.mod_eq_of_lt hx, Nat.add_mul_div_left _ _ hC, Nat.div_eq_of_lt hx, Nat.zero_add, Nat.add_mul_mod_self_left, Nat.mod_eq_of_lt hy, Nat.add_mul_div_left _ _ hR, Nat.div_eq_of_lt hy, Nat.zero_add]
/-- a count over the rough is one over the reference's thousand cells -/
theorem cnt_box (P : Nat → Bool) {C R L : Nat} (hC : 1 ≤ C ∧ C ≤ 10) (hR : 1 ≤ R ∧ R ≤ 10) (hL : 1 ≤ L ∧ L ≤ 10) (hP : ∀ x y z, x < 10 → y < 10 → z < 10 → ¬ (x < C ∧ y < R ∧ z < L) → P (x + 10 * (y + 10 * z)) = false) :
    cnt (fun i => P (bI C R i)) (C * R * L) = cnt P 1000 := by
  have h1 : cnt P 1000 = sumN (fun z => sumN (fun y => cnt (fun x => P (x + 10 * (y + 10 * z))) 10) 10) 10 := by
    rw [show 1000 = 10 * (10 * 10) by decide, cnt_blk, sumN_blk]
  have h2 : cnt (fun i => P (bI C R i)) (C * R * L) = sumN (fun z => sumN (fun y => cnt (fun x => P (bI C R (x + C * (y + R * z)))) C) R) L := by
    rw [Nat.mul_assoc, cnt_blk, sumN_blk]
  rw [h1, h2]
  rw [sumN_trunc (a := L) 10 hL.2 (fun z hz1 hz2 => ?_)]
  · refine sumN_congr _ (fun z hz => ?_)
    rw [sumN_trunc (a := R) 10 hR.2 (fun y hy1 hy2 => ?_)]
    · refine sumN_congr _ (fun y hy => ?_)
      rw [cnt_trunc (a := C) 10 hC.2 (fun x hx1 hx2 => hP x y z hx2 (by omega) (by omega) (by omega))]
      exact cnt_congr _ (fun x hx => by rw [bI_at hx hy])
    · exact cnt_zero _ (fun x hx => hP x y z hx hy2 (by omega) (by omega))
  · have h0 : ∀ y, y < 10 → cnt (fun x => P (x + 10 * (y + 10 * z))) 10 = 0 := fun y hy => cnt_zero _ (fun x hx => hP x y z hx hy hz2 (by omega))
    have := sumN_trunc (g := fun y => cnt (fun x => P (x + 10 * (y + 10 * z))) 10) (a := 0) 10 (by omega) (fun k _ hk => h0 k hk)
    simpa [sumN] using this
def NN (τ : Mem) : Nat := nC τ * nR τ * nL τ
def CI (τ : Mem) (i : Nat) : Nat := bI (nC τ) (nR τ) i
/-- the coordinates of the class's i-th cell -/
theorem CI_xyz {τ : Mem} (hM : MI τ) {i : Nat} (hi : i < NN τ) : i % nC τ < nC τ ∧ i / nC τ % nR τ < nR τ ∧ i / nC τ / nR τ < nL τ ∧ kx (CI τ i) = nI (i % nC τ) ∧ ky (CI τ i) = nI (i / nC τ % nR τ) ∧ kz (CI τ i) = nI (i / nC τ / nR τ) ∧ CI τ i < 1000 := by
  obtain ⟨⟨hC1, hC2, hC3⟩, ⟨hR1, hR2, hR3⟩, ⟨hL1, hL2, hL3⟩⟩ := MI_C hM
  have h1 : i % nC τ < nC τ := Nat.mod_lt _ (by omega)
  have h2 : i / nC τ % nR τ < nR τ := Nat.mod_lt _ (by omega)
  have h3 : i / nC τ / nR τ < nL τ := by
    rw [Nat.div_div_eq_div_mul]
    exact Nat.div_lt_of_lt_mul (by unfold NN at hi; exact hi)
  refine ⟨h1, h2, h3, ?_, ?_, ?_, ?_⟩
  · unfold kx CI bI; congr 1; omega
  · unfold ky CI bI; congr 1; omega
  · unfold kz CI bI; congr 1; omega
  · unfold CI bI; omega
theorem CI_at {τ : Mem} {x y z : Nat} (hx : x < nC τ) (hy : y < nR τ) : CI τ ((z * nR τ + y) * nC τ + x) = x + 10 * (y + 10 * z) := by
  unfold CI
  rw [show (z * nR τ + y) * nC τ + x = x + nC τ * (y + nR τ * z) by rw [Nat.mul_comm (z * nR τ + y), Nat.mul_comm z, Nat.add_comm (nR τ * z), Nat.add_comm]]
  exact bI_at hx hy
/-- the cells, flaws and planes of the reference are as they can be -/
def MW (τ : Mem) : Prop :=
  (∀ x y z, x < 10 → y < 10 → z < 10 → (x < nC τ ∧ y < nR τ ∧ z < nL τ → τ 1 (x + 10 * (y + 10 * z)) = -1 ∨ ∃ s, s < nS τ ∧ τ 1 (x + 10 * (y + 10 * z)) = nI s) ∧ (¬ (x < nC τ ∧ y < nR τ ∧ z < nL τ) → τ 1 (x + 10 * (y + 10 * z)) = -1)) ∧
  (∀ f, f < nF τ → (∃ a, a < nC τ ∧ sFl τ f 0 = nI a) ∧ (∃ a, a < nR τ ∧ sFl τ f 1 = nI a) ∧ (∃ a, a < nL τ ∧ sFl τ f 2 = nI a) ∧ (∃ a, a ≤ 3 ∧ sFl τ f 3 = nI a) ∧ ∃ a, 1 ≤ a ∧ a ≤ 9 ∧ sFl τ f 4 = nI a) ∧
  (∀ s k, s < nS τ → k < nP τ s → sTilt (sPl τ s k 0) (sPl τ s k 1) (sPl τ s k 2) (sPl τ s k 3) = true ∧ (sPl τ s k 4 = 0 ∨ sPl τ s k 4 = 1))
/-- what the class holds for itself: measures, owners, planes, flaws' cells -/
def Rb (σ τ : Mem) : Prop :=
  (σ 1 0 = τ 0 1 ∧ σ 1 1 = τ 0 2 ∧ σ 1 2 = τ 0 3 ∧ σ 1 6 = τ 0 5 ∧ σ 0 3 = τ 0 7 ∧ σ 0 4 = τ 0 10 ∧ σ 0 5 = τ 0 11) ∧
  (∀ i, i < NN τ → σ 2 i = τ 1 (CI τ i)) ∧
  (∀ s, s < 8 → σ (iStone s) 0 = nI s) ∧
  (∀ s, s < nS τ → σ (iStone s) 2 = τ 4 s) ∧
  (∀ s k, s < nS τ → k < nP τ s → (∀ w, w < 4 → σ (iPl s k) w = sPl τ s k w) ∧ σ (iPl s k) 4 = sMost τ s k ∧ σ (iPl s k) 5 = sPl τ s k 4) ∧
  (∀ f, f < nF τ → σ (iFlaw f) 0 = sFl τ f 4 ∧ ∃ m, m ≤ 63 ∧ σ (iFlaw f) 2 = nI m ∧ (∀ k, k < m → ∃ i, i < NN τ ∧ σ (iFlaw f + 1) k = nI i) ∧ ∀ P : Nat → Bool, cnt (fun k => P (σ (iFlaw f + 1) k).toNatClampNeg) m = cnt (fun i => sFlawed τ f (CI τ i) && P i) (NN τ))
/-- what the survey counts -/
def Sv (σ τ : Mem) : Prop :=
  (∀ s, s < nS τ → σ (iStone s) 3 = nI (sWt τ (nI s)) ∧ σ (iStone s) 4 = nI (cnt (pSf τ (nI s)) 1000)) ∧
  (∀ s k, s < nS τ → k < nP τ s → σ (iPl s k) 6 = nI (sTouch τ s k)) ∧
  (∀ i, i < NN τ → (∃ s, s < nS τ ∧ τ 1 (CI τ i) = nI s) → σ 3 i = b2i (sSurf τ (CI τ i))) ∧
  (∀ f s, f < nF τ → s < nS τ → σ (iFlaw f + 2) s = nI (sFc τ f (nI s) false) ∧ σ (iFlaw f + 3) s = nI (sFc τ f (nI s) true))
/-- the places that the survey and the trials write -/
def Vp (id j : Nat) : Prop := 190 ≤ id ∨ xk id = 3 ∨ xk id = 7 ∨ xk id = 8 ∨ (xk id = 10 ∧ (j = 3 ∨ j = 4)) ∨ (xk id = 12 ∧ j = 6)
def Fr (σ0 σ : Mem) : Prop := ∀ id j, ¬ Vp id j → σ id j = σ0 id j
theorem Fr.rf (σ : Mem) : Fr σ σ := fun _ _ _ => rfl
theorem Fr_tr {a b c : Mem} (h1 : Fr a b) (h2 : Fr b c) : Fr a c := fun id j h => (h2 id j h).trans (h1 id j h)
theorem Fr_upd {σ0 σ : Mem} (h : Fr σ0 σ) {id j : Nat} (hv : Vp id j) (v : Int32) : Fr σ0 (upd2 σ id j v) := fun a b hab => by
  have : ¬ (a = id ∧ b = j) := fun hh => hab (by rw [hh.1, hh.2]; exact hv)
  unfold upd2
  by_cases h1 : a = id
  · rw [if_pos h1, if_neg (fun h2 => this ⟨h1, h2⟩)]; exact h a b hab
  · rw [if_neg h1]; exact h a b hab
theorem nv_low {id j : Nat} (h : id < 3) : ¬ Vp id j := by
  have : ∀ i, i < 3 → ¬ xk i = 3 ∧ ¬ xk i = 7 ∧ ¬ xk i = 8 ∧ ¬ xk i = 10 ∧ ¬ xk i = 12 := by decide +kernel
  obtain ⟨h1, h2, h3, h4, h5⟩ := this id h
  unfold Vp
  rintro (q | q | q | q | q | q)
  · omega
  · exact h1 q
  · exact h2 q
  · exact h3 q
  · exact h4 q.1
  · exact h5 q.1
theorem nv_stone {s j : Nat} (h : s < 8) (hj : j ≠ 3 ∧ j ≠ 4) : ¬ Vp (iStone s) j := by
  unfold Vp
  rw [xk_stone s h]
  rintro (q | q | q | q | q | q)
  · unfold iStone at q; omega
  · omega
  · omega
  · omega
  · omega
  · omega
theorem nv_pl {s k j : Nat} (h : s < 8) (hk : k < 16) (hj : j ≠ 6) : ¬ Vp (iPl s k) j := by
  unfold Vp
  rw [xk_pl s h k hk]
  rintro (q | q | q | q | q | q)
  · unfold iPl at q; omega
  · omega
  · omega
  · omega
  · omega
  · omega
theorem nv_flaw {f j : Nat} (h : f < 10) : ¬ Vp (iFlaw f) j := by
  unfold Vp
  rw [xk_flaw f h]
  rintro (q | q | q | q | q | q)
  · unfold iFlaw at q; omega
  · omega
  · omega
  · omega
  · omega
  · omega
theorem nv_flaw1 {f j : Nat} (h : f < 10) : ¬ Vp (iFlaw f + 1) j := by
  unfold Vp
  rw [xk_flaw1 f h]
  rintro (q | q | q | q | q | q)
  · unfold iFlaw at q; omega
  · omega
  · omega
  · omega
  · omega
  · omega
theorem Rb_fr {σ0 σ τ : Mem} (hM : MI τ) (h6 : M16 τ) (h : Rb σ0 τ) (hf : Fr σ0 σ) : Rb σ τ := by
  obtain ⟨⟨a1, a2, a3, a4, a5, a6, a7⟩, h2, h3, h4, h5, h7⟩ := h
  have hS := (MI_S hM).2.2
  have hF := (MI_F hM).2
  refine ⟨⟨?_, ?_, ?_, ?_, ?_, ?_, ?_⟩, ?_, ?_, ?_, ?_, ?_⟩
  · rw [hf 1 0 (nv_low (by decide))]; exact a1
  · rw [hf 1 1 (nv_low (by decide))]; exact a2
  · rw [hf 1 2 (nv_low (by decide))]; exact a3
  · rw [hf 1 6 (nv_low (by decide))]; exact a4
  · rw [hf 0 3 (nv_low (by decide))]; exact a5
  · rw [hf 0 4 (nv_low (by decide))]; exact a6
  · rw [hf 0 5 (nv_low (by decide))]; exact a7
  · intro i hi; rw [hf 2 i (nv_low (by decide))]; exact h2 i hi
  · intro s hs; rw [hf _ _ (nv_stone hs (by decide))]; exact h3 s hs
  · intro s hs; rw [hf _ _ (nv_stone (by omega) (by decide))]; exact h4 s hs
  · intro s k hs hk
    have hk2 := h6 s (by omega)
    obtain ⟨b1, b2, b3⟩ := h5 s k hs hk
    refine ⟨fun w hw => ?_, ?_, ?_⟩
    · rw [hf _ _ (nv_pl (by omega) (by omega) (by omega))]; exact b1 w hw
    · rw [hf _ _ (nv_pl (by omega) (by omega) (by decide))]; exact b2
    · rw [hf _ _ (nv_pl (by omega) (by omega) (by decide))]; exact b3
  · intro f hff
    obtain ⟨b1, m, b2, b3, b4, b5⟩ := h7 f hff
    have e : σ (iFlaw f + 1) = σ0 (iFlaw f + 1) := by funext k; exact hf _ _ (nv_flaw1 (by omega))
    refine ⟨?_, m, b2, ?_, ?_, ?_⟩
    · rw [hf _ _ (nv_flaw (by omega))]; exact b1
    · rw [hf _ _ (nv_flaw (by omega))]; exact b3
    · rw [e]; exact b4
    · rw [e]; exact b5
/-- the rough's measures in the class -/
theorem Rb_RI {σ τ : Mem} (hM : MI τ) (h : Rb σ τ) : RI σ := by
  obtain ⟨⟨a1, a2, a3, -⟩, -⟩ := h
  obtain ⟨b1, b2, b3, -⟩ := hM
  exact ⟨by rw [a1]; exact b1, by rw [a2]; exact b2, by rw [a3]; exact b3⟩
theorem holds_cell {σ τ : Mem} (hM : MI τ) (h : Rb σ τ) (x y z : Int32) : xHolds σ x y z = sCell τ x y z := by
  obtain ⟨⟨a1, a2, a3, -⟩, -⟩ := h
  obtain ⟨⟨hC1, hC2, hC3⟩, ⟨hR1, hR2, hR3⟩, ⟨hL1, hL2, hL3⟩⟩ := MI_C hM
  have key : ∀ (v : Int32) (n : Nat), 1 ≤ n → n ≤ 10 → (!(decide (v < 0)) && !(decide (nI n ≤ v))) = sIn v 0 (nI n - 1) := by
    intro v n h1 h2
    rw [Bool.eq_iff_iff, sIn_nI h1 (by omega)]
    simp only [Bool.and_eq_true, Bool.not_eq_true', decide_eq_false_iff_not]
    constructor
    · rintro ⟨h3, h4⟩
      obtain ⟨j, hj, rfl⟩ := nI_of h3
      rw [nI_leI (by omega) hj] at h4
      exact ⟨j, by omega, rfl⟩
    · rintro ⟨j, hj, rfl⟩
      exact ⟨nI_pos (by omega), nI_ge hj (by omega)⟩
  unfold xHolds sCell
  rw [a1, a2, a3, hC1, hR1, hL1, key x _ hC2 hC3, key y _ hR2 hR3, key z _ hL2 hL3]
theorem own_of {σ τ : Mem} (hM : MI τ) (h : Rb σ τ) (x y z s : Int32) (hs : s ≠ -1) : (xOwn σ x y z == s) = sOf τ x y z s := by
  unfold xOwn sOf
  rw [holds_cell hM h]
  by_cases hc : sCell τ x y z = true
  · rw [if_pos hc, hc, Bool.true_and]
    obtain ⟨a, b, c, C, R, L, rfl, rfl, rfl, ha, hb, hcc, hC1, hR1, hL1, e1, e2, e3, hix, hlt⟩ := holds_nI (Rb_RI hM h) (by rw [holds_cell hM h]; exact hc)
    obtain ⟨⟨a1, a2, a3, -⟩, h2, -⟩ := h
    obtain ⟨⟨hC1', hC2', hC3'⟩, ⟨hR1', hR2', hR3'⟩, ⟨hL1', hL2', hL3'⟩⟩ := MI_C hM
    have eC : C = nC τ := nI_inj (by omega) (by omega) (by rw [← e1, a1, hC1'])
    have eR : R = nR τ := nI_inj (by omega) (by omega) (by rw [← e2, a2, hR1'])
    have eL : L = nL τ := nI_inj (by omega) (by omega) (by rw [← e3, a3, hL1'])
    subst eC; subst eR; subst eL
    have hN : (c * nR τ + b) * nC τ + a < NN τ := box_lt ha hb hcc
    rw [hix, nI_clamp (by omega), h2 _ hN, CI_at ha hb, sAt_nI, nI_clamp (by omega)]
  · rw [if_neg hc]
    have : sCell τ x y z = false := by simpa using hc
    rw [this, Bool.false_and]
    simpa using fun e : (-1 : Int32) = s => hs e.symm
theorem nI_nm1 {s : Nat} (h : s < 2 ^ 31) : nI s ≠ -1 := by
  intro e
  have h1 : (nI s).toInt = (-1 : Int32).toInt := by rw [e]
  rw [nI_toInt h] at h1
  have h2 : (-1 : Int32).toInt = -1 := by decide
  omega
theorem bare_surf {σ τ : Mem} (hM : MI τ) (h : Rb σ τ) {i : Nat} (hi : i < NN τ) {s : Nat} (hs : s < 8) (he : τ 1 (CI τ i) = nI s) : xBare σ (nI s) (nI (i % nC τ)) (nI (i / nC τ % nR τ)) (nI (i / nC τ / nR τ)) = sSurf τ (CI τ i) := by
  obtain ⟨-, -, -, e1, e2, e3, -⟩ := CI_xyz hM hi
  unfold xBare sSurf
  rw [he, e1, e2, e3]
  simp only [own_of hM h _ _ _ _ (nI_nm1 (show s < 2 ^ 31 by omega)), Bool.not_and]
theorem tch_touch {σ τ : Mem} (hM : MI τ) (h : Rb σ τ) {i : Nat} (hi : i < NN τ) {s k : Nat} (hs : s < nS τ) (hk : k < nP τ s) : xTch σ (iPl s k) (nI (i % nC τ)) (nI (i / nC τ % nR τ)) (nI (i / nC τ / nR τ)) = decide (sPl τ s k 3 < sHgt (CI τ i) (sPl τ s k 0) (sPl τ s k 1) (sPl τ s k 2) + sMost τ s k) := by
  obtain ⟨-, -, -, e1, e2, e3, -⟩ := CI_xyz hM hi
  obtain ⟨b1, b2, b3⟩ := h.2.2.2.2.1 s k hs hk
  unfold xTch xHgt sHgt
  rw [b1 0 (by decide), b1 1 (by decide), b1 2 (by decide), b1 3 (by decide), b2, e1, e2, e3]

