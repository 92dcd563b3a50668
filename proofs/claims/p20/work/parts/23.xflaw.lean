/-! the cells of a flaw -/
theorem cnt_sum (P : Nat → Bool) : ∀ n, cnt P n = sumN (fun k => if P k = true then 1 else 0) n := by
  intro n
  induction n with
  | zero => rfl
  | succ n ih => simp only [cnt, sumN, ih]
theorem sumN_app (g : Nat → Nat) (a : Nat) : ∀ b, sumN g (a + b) = sumN g a + sumN (fun k => g (a + k)) b := by
  intro b
  induction b with
  | zero => simp [sumN]
  | succ b ih => rw [← Nat.add_assoc]; simp only [sumN, ih]; omega
theorem sumN_zero {g : Nat → Nat} : ∀ n, (∀ k, k < n → g k = 0) → sumN g n = 0 := by
  intro n h
  have := sumN_trunc (g := g) (a := 0) n (Nat.zero_le _) (fun k _ hk => h k hk)
  simpa [sumN] using this
def dst (a b : Nat) : Nat := (a - b) + (b - a)
/-- a sum about a place is the sum over the whole side -/
theorem shift1 (g : Nat → Nat) {x r L : Nat} (hx : x < L) (h0 : ∀ a, a < L → r < dst a x → g a = 0) : sumN (fun u => if r ≤ x + u ∧ x + u < L + r then g (x + u - r) else 0) (2 * r + 1) = sumN g L := by
  let h : Nat → Nat := fun j => if r ≤ j ∧ j < L + r then g (j - r) else 0
  have e1 : sumN h (x + (2 * r + 1)) = sumN (fun u => h (x + u)) (2 * r + 1) := by
    rw [sumN_app, sumN_zero x (fun k hk => ?_), Nat.zero_add]
    show (if r ≤ k ∧ k < L + r then g (k - r) else 0) = 0
    by_cases hc : r ≤ k ∧ k < L + r
    · rw [if_pos hc]; exact h0 _ (by omega) (by unfold dst; omega)
    · rw [if_neg hc]
  have e2 : sumN h (r + L) = sumN g L := by
    rw [sumN_app, sumN_zero r (fun k hk => if_neg (by omega)), Nat.zero_add]
    refine sumN_congr _ (fun k hk => ?_)
    show (if r ≤ r + k ∧ r + k < L + r then g (r + k - r) else 0) = g k
    rw [if_pos (by omega), Nat.add_sub_cancel_left]
  have e3 : sumN h (x + (2 * r + 1) + (r + L)) = sumN h (r + L) := sumN_trunc _ (by omega) (fun k h1 h2 => if_neg (by omega))
  have e4 : sumN h (x + (2 * r + 1) + (r + L)) = sumN h (x + (2 * r + 1)) := sumN_trunc _ (by omega) (fun k h1 h2 => by
    show (if r ≤ k ∧ k < L + r then g (k - r) else 0) = 0
    by_cases hc : r ≤ k ∧ k < L + r
    · rw [if_pos hc]; exact h0 _ (by omega) (by unfold dst; omega)
    · rw [if_neg hc])
  show sumN (fun u => h (x + u)) (2 * r + 1) = sumN g L
  rw [← e1, ← e4, e3, e2]
theorem sumN_if (c : Prop) [Decidable c] (g : Nat → Nat) (n : Nat) : sumN (fun k => if c then g k else 0) n = if c then sumN g n else 0 := by
  by_cases h : c
  · simp only [if_pos h]
  · simp only [if_neg h]; exact sumN_zero n (fun _ _ => rfl)
def qW (C R L x y z r k : Nat) : Bool := decide (dst (k % (2 * r + 1)) r + dst (k / (2 * r + 1) % (2 * r + 1)) r + dst (k / (2 * r + 1) / (2 * r + 1)) r ≤ r) && decide (r ≤ x + k % (2 * r + 1) ∧ x + k % (2 * r + 1) < C + r) && decide (r ≤ y + k / (2 * r + 1) % (2 * r + 1) ∧ y + k / (2 * r + 1) % (2 * r + 1) < R + r) && decide (r ≤ z + k / (2 * r + 1) / (2 * r + 1) ∧ z + k / (2 * r + 1) / (2 * r + 1) < L + r)
def qI (C R x y z r k : Nat) : Nat := ((z + k / (2 * r + 1) / (2 * r + 1) - r) * R + (y + k / (2 * r + 1) % (2 * r + 1) - r)) * C + (x + k % (2 * r + 1) - r)
/-- the cells of the box about a place -/
def bx (C R x y z r i : Nat) : Bool := decide (dst (i % C) x + dst (i / C % R) y + dst (i / C / R) z ≤ r)
theorem ball_cnt {C R L x y z r : Nat} (hx : x < C) (hy : y < R) (hz : z < L) (P : Nat → Bool) :
    cnt (fun k => qW C R L x y z r k && P (qI C R x y z r k)) ((2 * r + 1) * (2 * r + 1) * (2 * r + 1)) = cnt (fun i => bx C R x y z r i && P i) (C * R * L) := by
  let G : Nat → Nat → Nat → Nat := fun a b c => if dst a x + dst b y + dst c z ≤ r ∧ P ((c * R + b) * C + a) = true then 1 else 0
  have h2 : cnt (fun i => bx C R x y z r i && P i) (C * R * L) = sumN (fun c => sumN (fun b => sumN (fun a => G a b c) C) R) L := by
    rw [Nat.mul_assoc, cnt_blk, sumN_blk]
    refine sumN_congr _ (fun c hc => sumN_congr _ (fun b hb => ?_))
    rw [cnt_sum]
    refine sumN_congr _ (fun a ha => ?_)
    obtain ⟨e1, e2, e3⟩ := ix_mod (z := c) ha hb
    rw [show a + C * (b + R * c) = (c * R + b) * C + a by rw [Nat.mul_comm (c * R + b), Nat.mul_comm c, Nat.add_comm (R * c), Nat.add_comm]]
    show (if (bx C R x y z r _ && P _) = true then 1 else 0) = if _ then 1 else 0
    unfold bx
    rw [e1, e2, e3]
    simp only [Bool.and_eq_true, decide_eq_true_eq]
  rw [h2]
  have h1 : cnt (fun k => qW C R L x y z r k && P (qI C R x y z r k)) ((2 * r + 1) * (2 * r + 1) * (2 * r + 1)) = sumN (fun w => if r ≤ z + w ∧ z + w < L + r then sumN (fun v => if r ≤ y + v ∧ y + v < R + r then sumN (fun u => if r ≤ x + u ∧ x + u < C + r then G (x + u - r) (y + v - r) (z + w - r) else 0) (2 * r + 1) else 0) (2 * r + 1) else 0) (2 * r + 1) := by
    rw [Nat.mul_assoc, cnt_blk, sumN_blk]
    refine sumN_congr _ (fun w hw => ?_)
    rw [← sumN_if]
    refine sumN_congr _ (fun v hv => ?_)
    rw [← sumN_if, ← sumN_if, cnt_sum]
    refine sumN_congr _ (fun u hu => ?_)
    obtain ⟨e1, e2, e3⟩ := ix_mod (z := w) hu hv
    rw [show u + (2 * r + 1) * (v + (2 * r + 1) * w) = (w * (2 * r + 1) + v) * (2 * r + 1) + u by rw [Nat.mul_comm (w * (2 * r + 1) + v), Nat.mul_comm w, Nat.add_comm ((2 * r + 1) * w), Nat.add_comm]]
    unfold qW qI
    rw [e1, e2, e3]
    by_cases hz1 : r ≤ z + w ∧ z + w < L + r
    · by_cases hy1 : r ≤ y + v ∧ y + v < R + r
      · by_cases hx1 : r ≤ x + u ∧ x + u < C + r
        · rw [if_pos hz1, if_pos hy1, if_pos hx1]
          show _ = if _ then 1 else 0
          have d1 : dst u r = dst (x + u - r) x := by unfold dst; omega
          have d2 : dst v r = dst (y + v - r) y := by unfold dst; omega
          have d3 : dst w r = dst (z + w - r) z := by unfold dst; omega
          rw [d1, d2, d3]
          simp only [Bool.and_eq_true, decide_eq_true_eq]
          by_cases hq : dst (x + u - r) x + dst (y + v - r) y + dst (z + w - r) z ≤ r
          · simp [hq, hx1, hy1, hz1]
          · simp [hq]
        · simp [hx1]
      · simp [hy1]
    · simp [hz1]
  rw [h1]
  have h3 : ∀ w v, sumN (fun u => if r ≤ x + u ∧ x + u < C + r then G (x + u - r) (y + v - r) (z + w - r) else 0) (2 * r + 1) = sumN (fun a => G a (y + v - r) (z + w - r)) C := fun w v => shift1 (fun a => G a (y + v - r) (z + w - r)) hx (fun a ha hr => if_neg (by omega))
  have h4 : ∀ w, sumN (fun v => if r ≤ y + v ∧ y + v < R + r then sumN (fun a => G a (y + v - r) (z + w - r)) C else 0) (2 * r + 1) = sumN (fun b => sumN (fun a => G a b (z + w - r)) C) R := fun w => shift1 (fun b => sumN (fun a => G a b (z + w - r)) C) hy (fun b hb hr => sumN_zero _ (fun a ha => if_neg (by omega)))
  simp only [h3, h4]
  exact shift1 (fun c => sumN (fun b => sumN (fun a => G a b c) C) R) hz (fun c hc hr => sumN_zero _ (fun b hb => sumN_zero _ (fun a ha => if_neg (by omega))))
theorem cnt_mono (P : Nat → Bool) {a b : Nat} (h : a ≤ b) : cnt P a ≤ cnt P b := by
  obtain ⟨c, rfl⟩ : ∃ c, b = a + c := ⟨b - a, by omega⟩
  rw [cnt_app]; omega
theorem cnt_imp {P Q : Nat → Bool} (h : ∀ k, P k = true → Q k = true) : ∀ n, cnt P n ≤ cnt Q n := by
  intro n
  induction n with
  | zero => exact Nat.le_refl _
  | succ n ih =>
    simp only [cnt]
    by_cases hp : P n = true
    · rw [if_pos hp, if_pos (h n hp)]; omega
    · rw [if_neg hp]; omega
def qB (r k : Nat) : Bool := decide (dst (k % (2 * r + 1)) r + dst (k / (2 * r + 1) % (2 * r + 1)) r + dst (k / (2 * r + 1) / (2 * r + 1)) r ≤ r)
theorem ball_63 : ∀ r, r < 4 → cnt (qB r) ((2 * r + 1) * (2 * r + 1) * (2 * r + 1)) ≤ 63 := by decide +kernel
theorem qW_63 {C R L x y z r e : Nat} (hr : r < 4) (he : e ≤ (2 * r + 1) * (2 * r + 1) * (2 * r + 1)) : cnt (qW C R L x y z r) e ≤ 63 :=
  Nat.le_trans (cnt_imp (fun k hk => by unfold qW at hk; unfold qB; simp only [Bool.and_eq_true] at hk; exact hk.1.1.1) e) (Nat.le_trans (cnt_mono _ he) (ball_63 r hr))
theorem qW_lt {C R L x y z r e : Nat} (hr : r < 4) (he : e < (2 * r + 1) * (2 * r + 1) * (2 * r + 1)) (h : qW C R L x y z r e = true) : cnt (qW C R L x y z r) e < 63 := by
  have := qW_63 (C := C) (R := R) (L := L) (x := x) (y := y) (z := z) hr (show e + 1 ≤ _ by omega)
  rw [cnt_t h] at this
  omega
/-- a flaw's list so far -/
def AF (τ : Mem) (f v B : Nat) (W : Nat → Bool) (I : Nat → Nat) (e : Nat) (σ : Mem) : Prop :=
  (∀ id j, id ≠ iFlaw f → id ≠ iFlaw f + 1 → σ id j = τ id j) ∧ σ (iFlaw f) 0 = nI v ∧ σ (iFlaw f) 2 = nI (cnt W e) ∧ (∀ k, k < cnt W e → ∃ i, i < B ∧ σ (iFlaw f + 1) k = nI i) ∧
  ∀ P : Nat → Bool, cnt (fun k => P (σ (iFlaw f + 1) k).toNatClampNeg) (cnt W e) = cnt (fun k => W k && P (I k)) e
theorem AF_0 (τ : Mem) (f v B : Nat) (W : Nat → Bool) (I : Nat → Nat) : AF τ f v B W I 0 (hBeg τ f (nI v)) := by
  refine ⟨fun id j h1 _ => ?_, ?_, ?_, fun k hk => absurd hk (by simp [cnt]), fun P => rfl⟩
  · unfold hBeg; rw [upd2_ni h1, upd2_ni h1]
  · unfold hBeg; rw [upd2_nj (by decide), upd2_at]
  · unfold hBeg; rw [upd2_at]; exact nI_0.symm
theorem AF_skip {τ σ : Mem} {f v B e : Nat} {W : Nat → Bool} {I : Nat → Nat} (h : AF τ f v B W I e σ) (hw : W e = false) : AF τ f v B W I (e + 1) σ := by
  obtain ⟨h1, h2, h3, h4, h5⟩ := h
  refine ⟨h1, h2, ?_, ?_, fun P => ?_⟩
  · rw [cnt_f hw]; exact h3
  · rw [cnt_f hw]; exact h4
  · rw [cnt_f hw, cnt_f (by rw [hw, Bool.false_and])]; exact h5 P
theorem AF_add {τ σ : Mem} {f v B e : Nat} {W : Nat → Bool} {I : Nat → Nat} (h : AF τ f v B W I e σ) (hw : W e = true) (hi : I e < B) (hB : B ≤ 1000) : AF τ f v B W I (e + 1) (hAdd σ f (cnt W e) (nI (I e))) := by
  obtain ⟨h1, h2, h3, h4, h5⟩ := h
  have e1 : ∀ k, hAdd σ f (cnt W e) (nI (I e)) (iFlaw f + 1) k = if k = cnt W e then nI (I e) else σ (iFlaw f + 1) k := by
    intro k
    unfold hAdd
    rw [upd2_ni (by omega)]
    unfold upd2
    by_cases hk : k = cnt W e
    · rw [if_pos hk]; simp [hk]
    · rw [if_neg hk]; simp [hk]
  refine ⟨fun id j a b => ?_, ?_, ?_, fun k hk => ?_, fun P => ?_⟩
  · unfold hAdd; rw [upd2_ni a, upd2_ni b]; exact h1 id j a b
  · unfold hAdd; rw [upd2_nj (by decide), upd2_ni (by omega)]; exact h2
  · unfold hAdd; rw [upd2_at, cnt_t hw]
  · rw [e1]
    rw [cnt_t hw] at hk
    by_cases hk2 : k = cnt W e
    · rw [if_pos hk2]; exact ⟨I e, hi, rfl⟩
    · rw [if_neg hk2]; exact h4 k (by omega)
  · rw [cnt_t hw]
    simp only [cnt]
    have e2 : (hAdd σ f (cnt W e) (nI (I e)) (iFlaw f + 1) (cnt W e)).toNatClampNeg = I e := by rw [e1, if_pos rfl]; exact nI_clamp (by omega)
    have e3 : cnt (fun k => P (hAdd σ f (cnt W e) (nI (I e)) (iFlaw f + 1) k).toNatClampNeg) (cnt W e) = cnt (fun k => P (σ (iFlaw f + 1) k).toNatClampNeg) (cnt W e) := cnt_congr _ (fun k hk => by rw [e1, if_neg (by omega)])
    rw [e3, h5 P]
    simp only [e2, hw, Bool.true_and]
theorem vp_i (x u r : Nat) : nI (x + u) - nI r = iI ((x : Int) + u - r) := by
  rw [nI_iI, nI_iI, iI_sub]; congr 1
theorem vp_s (x u r : Nat) : nI (x + u) - nI r + 1 = nI (x + (u + 1)) - nI r := by
  rw [vp_i, vp_i, show (1 : Int32) = iI 1 by decide, iI_add]; congr 1; omega
theorem vp_gt {x u r : Nat} (hx : x < 10) (hr : r < 4) (hu : u < 100) : (nI x + nI r < nI (x + u) - nI r) ↔ 2 * r < u := by
  rw [vp_i, nI_iI, nI_iI, iI_add, iI_lt (by omega) (by omega)]; omega
theorem vp_abs {x u r : Nat} (hx : x < 10) (hr : r < 4) (hu : u < 100) : jabs (nI (x + u) - nI r - nI x) = nI (dst u r) := by
  rw [vp_i, nI_iI x, iI_sub]
  unfold jabs dst
  rw [show (0 : Int32) = iI 0 by decide, nI_iI, iI_sub]
  have hq : (iI 0 ≤ iI (↑x + ↑u - ↑r - ↑x)) ↔ (0 : Int) ≤ ↑x + ↑u - ↑r - ↑x := iI_le (by omega) (by omega)
  by_cases h : (0 : Int) ≤ ↑x + ↑u - ↑r - ↑x
  · rw [if_pos (hq.mpr h)]; congr 1; omega
  · rw [if_neg (fun q => h (hq.mp q))]; congr 1; omega
theorem vp_abt {x u r : Nat} (hx : x < 10) (hr : r < 4) (hu : u < 100) : (if 0 ≤ nI (x + u) - nI r - nI x then nI (x + u) - nI r - nI x else 0 - (nI (x + u) - nI r - nI x)) = nI (dst u r) := vp_abs hx hr hu
theorem fl_in {x u r C : Nat} (hx : x < 10) (hr : r < 4) (hu : u < 100) (hC : C ≤ 10) : (!(decide (nI (x + u) - nI r < 0)) && !(decide (nI C ≤ nI (x + u) - nI r))) = decide (r ≤ x + u ∧ x + u < C + r) := by
  rw [vp_i, show (0 : Int32) = iI 0 by decide, nI_iI C, Bool.eq_iff_iff]
  simp only [Bool.and_eq_true, Bool.not_eq_true', decide_eq_false_iff_not, decide_eq_true_eq]
  rw [iI_lt (by omega) (by omega), iI_le (by omega) (by omega)]
  omega
theorem vp_ix {x y z a b c r C R : Nat} (ha : r ≤ x + a) (hb : r ≤ y + b) (hc : r ≤ z + c) : ((nI (z + c) - nI r) * nI R + (nI (y + b) - nI r)) * nI C + (nI (x + a) - nI r) = nI (((z + c - r) * R + (y + b - r)) * C + (x + a - r)) := by
  have e : ∀ {p q : Nat}, q ≤ p → nI p - nI q = nI (p - q) := fun {p q} h => by
    rw [nI_iI, nI_iI, iI_sub, nI_iI]; congr 1; omega
  rw [e ha, e hb, e hc, nI_mul', nI_add, nI_mul', nI_add]
theorem q_at {C R L x y z r a b c : Nat} (ha : a < 2 * r + 1) (hb : b < 2 * r + 1) :
    qW C R L x y z r ((c * (2 * r + 1) + b) * (2 * r + 1) + a) = (decide (dst a r + dst b r + dst c r ≤ r) && (decide (r ≤ x + a ∧ x + a < C + r) && decide (r ≤ y + b ∧ y + b < R + r) && decide (r ≤ z + c ∧ z + c < L + r))) ∧
    qI C R x y z r ((c * (2 * r + 1) + b) * (2 * r + 1) + a) = ((z + c - r) * R + (y + b - r)) * C + (x + a - r) := by
  obtain ⟨e1, e2, e3⟩ := ix_mod (z := c) ha hb
  unfold qW qI
  rw [e1, e2, e3]
  exact ⟨by simp only [Bool.and_assoc], rfl⟩
def hRB (τ : Mem) (c r l n : Nat) : Mem := fun id j => if id = 2 ∧ j < n then 0 else if id = 1 then (if j = 0 then nI c else if j = 1 then nI r else if j = 2 then nI l else if j = 6 then 0 else τ 1 j) else τ id j
theorem rb_0 (τ : Mem) (c r l : Nat) : upd2 (upd2 (upd2 (upd2 τ 1 0 (nI c)) 1 1 (nI r)) 1 2 (nI l)) 1 6 0 = hRB τ c r l 0 := by
  funext id j
  unfold hRB upd2
  by_cases h : id = 1
  · subst h
    by_cases h0 : j = 0
    · subst h0; simp
    · by_cases h1 : j = 1
      · subst h1; simp
      · by_cases h2 : j = 2
        · subst h2; simp
        · by_cases h6 : j = 6
          · subst h6; simp
          · simp [h0, h1, h2, h6]
  · simp [h]
theorem rb_s (τ : Mem) (c r l n : Nat) : upd2 (hRB τ c r l n) 2 n 0 = hRB τ c r l (n + 1) := by
  funext id j
  unfold upd2 hRB
  by_cases h : id = 2
  · subst h
    by_cases hj : j = n
    · subst hj; simp
    · by_cases hlt : j < n
      · simp [hlt, hj, show j < n + 1 by omega]
      · simp [hlt, hj, show ¬ j < n + 1 by omega]
  · simp [h]
/-- a flaw added -/
def AQ (τ : Mem) (f v co ro la x y z r : Nat) (τ1 : Mem) : Prop :=
  (∀ id j, id ≠ iFlaw f → id ≠ iFlaw f + 1 → id ≠ iFlaw f + 2 → id ≠ iFlaw f + 3 → ¬ (id = 1 ∧ j = 6) → τ1 id j = τ id j) ∧ τ1 1 6 = nI (f + 1) ∧ τ1 (iFlaw f) 0 = nI v ∧
  (∀ j, j < 8 → τ1 (iFlaw f + 2) j = nI (cnt (fun i => bx co ro x y z r i && (τ 2 i == nI j)) (co * ro * la)) ∧ τ1 (iFlaw f + 3) j = nI (cnt (fun i => bx co ro x y z r i && (τ 2 i == nI j && !(τ 3 i == 0))) (co * ro * la))) ∧
  ∃ m, m ≤ 63 ∧ τ1 (iFlaw f) 2 = nI m ∧ (∀ k, k < m → ∃ i, i < co * ro * la ∧ τ1 (iFlaw f + 1) k = nI i) ∧ ∀ P : Nat → Bool, cnt (fun k => P (τ1 (iFlaw f + 1) k).toNatClampNeg) m = cnt (fun i => bx co ro x y z r i && P i) (co * ro * la)
theorem AQ_of {τ σ : Mem} {f v co ro la x y z r e : Nat} (hr : r < 4) (hx : x < co) (hy : y < ro) (hz : z < la) (he : e = (2 * r + 1) * (2 * r + 1) * (2 * r + 1)) (h : AF τ f v (co * ro * la) (qW co ro la x y z r) (qI co ro x y z r) e σ) :
    AQ τ f v co ro la x y z r (upd2 (hFs σ f (cnt (qW co ro la x y z r) e)) 1 6 (nI (f + 1))) := by
  obtain ⟨h1, h2, h3, h4, h5⟩ := h
  have lo : ∀ id, id ≠ 1 → id ≠ iFlaw f + 2 → id ≠ iFlaw f + 3 → upd2 (hFs σ f (cnt (qW co ro la x y z r) e)) 1 6 (nI (f + 1)) id = σ id := fun id a b c => by rw [upd2_ni a, fs_low b c]
  refine ⟨fun id j a b c d g => ?_, upd2_at _ _ _ _, ?_, fun j hj => ⟨?_, ?_⟩, cnt (qW co ro la x y z r) e, qW_63 hr (by omega), ?_, ?_, fun P => ?_⟩
  · rw [← h1 id j a b]
    by_cases hj : id = 1
    · subst hj
      rw [upd2_nj (fun q => g ⟨rfl, q⟩), fs_low c d]
    · rw [lo id hj c d]
  · rw [lo _ (by unfold iFlaw; omega) (by omega) (by omega)]; exact h2
  · rw [upd2_ni (by unfold iFlaw; omega)]
    simp only [hFs, hj, and_self, if_true]
    congr 1
    have e2 : σ 2 = τ 2 := by funext i; exact h1 2 i (by unfold iFlaw; omega) (by unfold iFlaw; omega)
    unfold pF2 fcl
    rw [h5 (fun i => σ 2 i == nI j), he, e2]
    exact ball_cnt hx hy hz (fun i => τ 2 i == nI j)
  · rw [upd2_ni (by unfold iFlaw; omega)]
    have h32 : ¬ iFlaw f + 3 = iFlaw f + 2 := by omega
    simp only [hFs, hj, and_self, if_true, h32, false_and, if_false]
    congr 1
    have e2 : σ 2 = τ 2 := by funext i; exact h1 2 i (by unfold iFlaw; omega) (by unfold iFlaw; omega)
    have e3 : σ 3 = τ 3 := by funext i; exact h1 3 i (by unfold iFlaw; omega) (by unfold iFlaw; omega)
    unfold pF3 fcl
    rw [h5 (fun i => σ 2 i == nI j && !(σ 3 i == 0)), he, e2, e3]
    exact ball_cnt hx hy hz (fun i => τ 2 i == nI j && !(τ 3 i == 0))
  · rw [lo _ (by unfold iFlaw; omega) (by omega) (by omega)]; exact h3
  · rw [lo _ (by unfold iFlaw; omega) (by omega) (by omega)]; exact h4
  · rw [lo _ (by unfold iFlaw; omega) (by omega) (by omega), h5 P, he]; exact ball_cnt hx hy hz P

set_option maxRecDepth 100000 in
set_option maxHeartbeats 4000000 in
/-- X2_begin -/
theorem c_X2_begin (l : Launch) (co ro la : Nat) : gMV wX l yX2_begin (.code yX2_begin cX2_begin 6 none) 1 0 0 (fun A => [.ref (A 1), .int (nI co), .int (nI ro), .int (nI la)]) (fun τ => co * ro * la ≤ 1000) (fun τ τ1 => τ1 = hRB τ co ro la (co * ro * la)) := by
  refine gMV_of (by decide) (fun A => Nat.le_of_ble_eq_true rfl) ?_
  intro X τ hC hP hE
  have hC : gOk wX l X cX2_begin "GemCut$Rough" 1 0 0 := hC
  show G wX X 0 0 0 [some (.ref (gA X 1)), some (.int (nI co)), some (.int (nI ro)), some (.int (nI la)), none, none] [] τ
  have hv : co * ro * la ≤ 1000 := hP
  have lp : ∀ (m k : Nat), k + m = (co * ro * la) → G wX X 0 0 29 [some (.ref (gA X 1)), some (.int (nI co)), some (.int (nI ro)), some (.int (nI la)), some (.int (nI (co * ro * la))), some (.int (nI k))] [] (hRB τ co ro la k) := by
    intro m
    induction m with
    | zero =>
      intro k hk 
      have hk : k = (co * ro * la) := by omega
      subst hk
      refine g_ild5 hC dX2_begin_29 ?_
      refine g_ild4 hC dX2_begin_31 ?_
      refine g_icmp_ge 50 hC dX2_begin_33 (by decide) (fun c33 => ?_) (fun c33 => absurd (nI_le (by omega) (by omega)) c33)
      exact hE _ _ _ _ _ dX2_begin_50 (Nat.le_refl _) (Nat.le_refl _) rfl
    | succ m ih =>
      intro k hk 
      refine g_ild5 hC dX2_begin_29 ?_
      refine g_ild4 hC dX2_begin_31 ?_
      refine g_icmp_ge 50 hC dX2_begin_33 (by decide) (fun c33 => absurd c33 (nI_ge (by omega) (by omega))) (fun c33 => ?_)
      refine g_ald0 hC dX2_begin_36 ?_
      refine xg_Rough_owner hC tw_1_68 dX2_begin_37 ?_
      refine g_ild5 hC dX2_begin_40 ?_
      refine g_iconst 0 hC dX2_begin_42 (by decide) ?_
      refine xs_owner k hC rfl (by omega) dX2_begin_43 ?_
      refine g_inc5 1 hC dX2_begin_44 (by decide) rfl ?_
      refine g_goto 29 hC dX2_begin_47 (by decide) ?_
      rw [rb_s, nI_1]
      exact ih (k + 1) (by omega)
  refine g_ald0 hC dX2_begin_0 ?_
  refine g_ild1 hC dX2_begin_1 ?_
  refine xp_Rough_columns hC tw_1_59 dX2_begin_2 ?_
  refine g_ald0 hC dX2_begin_5 ?_
  refine g_ild2 hC dX2_begin_6 ?_
  refine xp_Rough_rows hC tw_1_62 dX2_begin_7 ?_
  refine g_ald0 hC dX2_begin_10 ?_
  refine g_ild3 hC dX2_begin_11 ?_
  refine xp_Rough_layers hC tw_1_65 dX2_begin_12 ?_
  refine g_ald0 hC dX2_begin_15 ?_
  refine g_iconst 0 hC dX2_begin_16 (by decide) ?_
  refine xp_Rough_flawCount hC tw_1_79 dX2_begin_17 ?_
  rw [rb_0]
  refine g_ald0 hC dX2_begin_20 ?_
  refine k_X2_size hC tw_1_199 dX2_begin_21 (by decide) ⟨by omega, by omega⟩ (Nat.le_of_ble_eq_true rfl) ?_
  refine g_ist4 hC dX2_begin_24 rfl ?_
  refine g_iconst 0 hC dX2_begin_26 (by decide) ?_
  refine g_ist5 hC dX2_begin_27 rfl ?_
  have e0 : xSize (hRB τ co ro la 0) = nI (co * ro * la) := by
    show nI co * nI ro * nI la = _
    rw [nI_mul', nI_mul']
  rw [e0]
  exact lp (co * ro * la) 0 (by omega)
theorem k_X2_begin {l : Launch} {X : gC} {cc : ByteArray} {own : String} {dd ca sa kc nc pc : Nat} {ls : List (Option Value)} {st : List Value} {σ : Mem} {idx : Nat} {co ro la : Nat} (hC : gOk wX l X cc own dd ca sa) (hlk : Cond.methodLink own idx yX2_begin ∈ TB) (hd : decode cc pc = .ok (.invokevirtual idx, 3)) (hdd : 1 + 1 ≤ dd) (hfr : kc + 0 ≤ ca ∧ nc + 0 ≤ sa) (hrest : (st.map fun v => v.category).sum ≤ 8)  (hP : co * ro * la ≤ 1000) (kk : G wX X kc nc (pc + 3) ls st (hRB σ co ro la (co * ro * la))) : G wX X kc nc pc ls (.int (nI la) :: .int (nI ro) :: .int (nI co) :: .ref (gA X 1) :: st) σ := by
  exact g_cVV 3 hC (c_X2_begin l co ro la) hlk ⟨tw_1_196, tw_1_197, tw_1_2, tw_1_198⟩ (by decide +kernel) ⟨hdd, by decide⟩ hfr rfl rfl rfl (gW_at wX _ _ (by decide)) hrest rfl hd hP (fun σ1 hq => by subst hq; exact kk)
set_option maxRecDepth 100000 in
set_option maxHeartbeats 4000000 in
/-- X2_addFlaw -/
theorem c_X2_addFlaw (l : Launch) (f co ro la x y z r v : Nat) : gMV wX l yX2_addFlaw (.code yX2_addFlaw cX2_addFlaw 11 none) 1 0 0 (fun A => [.ref (A 1), .int (nI x), .int (nI y), .int (nI z), .int (nI r), .int (nI v)]) (fun τ => f < 10 ∧ τ 1 0 = nI co ∧ τ 1 1 = nI ro ∧ τ 1 2 = nI la ∧ τ 1 6 = nI f ∧ x < co ∧ y < ro ∧ z < la ∧ co ≤ 10 ∧ ro ≤ 10 ∧ la ≤ 10 ∧ r < 4) (fun τ τ1 => AQ τ f v co ro la x y z r τ1) := by
  refine gMV_of (by decide) (fun A => Nat.le_of_ble_eq_true rfl) ?_
  intro X τ hC hP hE
  have hC : gOk wX l X cX2_addFlaw "GemCut$Rough" 1 0 0 := hC
  show G wX X 0 0 0 [some (.ref (gA X 1)), some (.int (nI x)), some (.int (nI y)), some (.int (nI z)), some (.int (nI r)), some (.int (nI v)), none, none, none, none, none] [] τ
  obtain ⟨hf, hm0, hm1, hm2, hf6, hx, hy, hz, hc9, hr9, hl9, hr⟩ := hP
  have hB : co * ro * la ≤ 1000 := (vol_rng ⟨by omega, hc9⟩ ⟨by omega, hr9⟩ ⟨by omega, hl9⟩).2
  have e3 : (((2 * r + 1) * (2 * r + 1) + 0) * (2 * r + 1) + 0) = (2 * r + 1) * (2 * r + 1) * (2 * r + 1) := by rw [Nat.add_zero, Nat.add_zero]
  have lpc : ∀ (m c : Nat) (σ : Mem), c + m = (2 * r + 1) → AF τ f v (co * ro * la) (qW co ro la x y z r) (qI co ro x y z r) ((c * (2 * r + 1) + 0) * (2 * r + 1) + 0) σ → G wX X 0 0 24 [some (.ref (gA X 1)), some (.int (nI x)), some (.int (nI y)), some (.int (nI z)), some (.int (nI r)), some (.int (nI v)), some (.ref (gA X (iFlaw f))), some (.int (nI (z + c) - nI r)), none, none, none] [] (σ) := by
    intro m
    induction m with
    | zero =>
      intro c σ hc hI
      have hc : c = (2 * r + 1) := by omega
      (try rw [hc] at hI); rw [hc]
      refine g_ild7 hC dX2_addFlaw_24 ?_
      refine g_ild3 hC dX2_addFlaw_26 ?_
      refine g_ild4 hC dX2_addFlaw_27 ?_
      refine g_iadd hC dX2_addFlaw_29 ?_
      refine g_icmp_gt 141 hC dX2_addFlaw_30 (by decide) (fun c30 => ?_) (fun c30 => absurd ((vp_gt (by omega) (by omega) (by omega)).mpr (by omega)) c30)
      refine g_ald6 hC dX2_addFlaw_141 ?_
      refine g_ald0 hC dX2_addFlaw_143 ?_
      refine k_X0_survey (f := f) (m := cnt (qW co ro la x y z r) (((2 * r + 1) * (2 * r + 1) + 0) * (2 * r + 1) + 0)) hC tw_3_224 dX2_addFlaw_144 (by decide) ⟨by omega, by omega⟩ (Nat.le_of_ble_eq_true rfl) hf ⟨qW_63 hr (by rw [e3]; exact Nat.le_refl _), hI.2.2.1, fun q hq => by obtain ⟨i, hi, he⟩ := hI.2.2.2.1 q hq; exact ⟨i, by omega, he⟩⟩ ?_
      refine g_ald0 hC dX2_addFlaw_147 ?_
      refine g_dup hC dX2_addFlaw_148 rfl ?_
      refine xg_Rough_flawCount hC tw_1_79 dX2_addFlaw_149 ?_
      rw [show hFs σ f (cnt (qW co ro la x y z r) (((2 * r + 1) * (2 * r + 1) + 0) * (2 * r + 1) + 0)) 1 6 = nI f by rw [fs_low (by unfold iFlaw; omega) (by unfold iFlaw; omega), hI.1 1 6 (by unfold iFlaw; omega) (by unfold iFlaw; omega)]; exact hf6]
      refine g_iconst 1 hC dX2_addFlaw_152 (by decide) ?_
      refine g_iadd hC dX2_addFlaw_153 ?_
      refine xp_Rough_flawCount hC tw_1_79 dX2_addFlaw_154 ?_
      rw [nI_1]
      exact hE _ _ _ _ _ dX2_addFlaw_157 (Nat.le_refl _) (Nat.le_refl _) (AQ_of hr hx hy hz e3 hI)
    | succ m ihc =>
      intro c σ hc hI
      have lpb : ∀ (m b : Nat) (σ : Mem), b + m = (2 * r + 1) → AF τ f v (co * ro * la) (qW co ro la x y z r) (qI co ro x y z r) ((c * (2 * r + 1) + b) * (2 * r + 1) + 0) σ → G wX X 0 0 39 [some (.ref (gA X 1)), some (.int (nI x)), some (.int (nI y)), some (.int (nI z)), some (.int (nI r)), some (.int (nI v)), some (.ref (gA X (iFlaw f))), some (.int (nI (z + c) - nI r)), some (.int (nI (y + b) - nI r)), none, none] [] (σ) := by
        intro m
        induction m with
        | zero =>
          intro b σ hb hI
          have hb : b = (2 * r + 1) := by omega
          (try rw [hb] at hI); rw [hb]
          refine g_ild8 hC dX2_addFlaw_39 ?_
          refine g_ild2 hC dX2_addFlaw_41 ?_
          refine g_ild4 hC dX2_addFlaw_42 ?_
          refine g_iadd hC dX2_addFlaw_44 ?_
          refine g_icmp_gt 135 hC dX2_addFlaw_45 (by decide) (fun c45 => ?_) (fun c45 => absurd ((vp_gt (by omega) (by omega) (by omega)).mpr (by omega)) c45)
          refine g_inc7 1 hC dX2_addFlaw_135 (by decide) rfl ?_
          refine g_goto 24 hC dX2_addFlaw_138 (by decide) ?_
          refine g_keep [true, true, true, true, true, true, true, true, false, false, false] ?_
          rw [vp_s]
          have e9 : ((c * (2 * r + 1) + (2 * r + 1)) * (2 * r + 1) + 0) = (((c + 1) * (2 * r + 1) + 0) * (2 * r + 1) + 0) := by rw [Nat.add_mul c, Nat.one_mul, Nat.add_zero (c * (2 * r + 1) + (2 * r + 1))]
          rw [e9] at hI
          exact ihc (c + 1) σ (by omega) hI
        | succ m ihb =>
          intro b σ hb hI
          have lpa : ∀ (m a : Nat) (σ : Mem), a + m = (2 * r + 1) → AF τ f v (co * ro * la) (qW co ro la x y z r) (qI co ro x y z r) ((c * (2 * r + 1) + b) * (2 * r + 1) + a) σ → G wX X 0 0 54 [some (.ref (gA X 1)), some (.int (nI x)), some (.int (nI y)), some (.int (nI z)), some (.int (nI r)), some (.int (nI v)), some (.ref (gA X (iFlaw f))), some (.int (nI (z + c) - nI r)), some (.int (nI (y + b) - nI r)), some (.int (nI (x + a) - nI r)), none] [] (σ) := by
            intro m
            induction m with
            | zero =>
              intro a σ ha hI
              have ha : a = (2 * r + 1) := by omega
              (try rw [ha] at hI); rw [ha]
              refine g_ild9 hC dX2_addFlaw_54 ?_
              refine g_ild1 hC dX2_addFlaw_56 ?_
              refine g_ild4 hC dX2_addFlaw_57 ?_
              refine g_iadd hC dX2_addFlaw_59 ?_
              refine g_icmp_gt 129 hC dX2_addFlaw_60 (by decide) (fun c60 => ?_) (fun c60 => absurd ((vp_gt (by omega) (by omega) (by omega)).mpr (by omega)) c60)
              refine g_inc8 1 hC dX2_addFlaw_129 (by decide) rfl ?_
              refine g_goto 39 hC dX2_addFlaw_132 (by decide) ?_
              refine g_keep [true, true, true, true, true, true, true, true, true, false, false] ?_
              rw [vp_s]
              have e9 : ((c * (2 * r + 1) + b) * (2 * r + 1) + (2 * r + 1)) = ((c * (2 * r + 1) + b + 1) * (2 * r + 1) + 0) := by rw [Nat.add_mul (c * (2 * r + 1) + b) 1, Nat.one_mul, Nat.add_zero ((c * (2 * r + 1) + b) * (2 * r + 1) + (2 * r + 1))]
              rw [e9] at hI
              exact ihb (b + 1) σ (by omega) hI
            | succ m iha =>
              intro a σ ha hI
              have m0 : σ 1 0 = nI co := by rw [hI.1 1 0 (by unfold iFlaw; omega) (by unfold iFlaw; omega)]; exact hm0
              have m1 : σ 1 1 = nI ro := by rw [hI.1 1 1 (by unfold iFlaw; omega) (by unfold iFlaw; omega)]; exact hm1
              have m2 : σ 1 2 = nI la := by rw [hI.1 1 2 (by unfold iFlaw; omega) (by unfold iFlaw; omega)]; exact hm2
              have ha9 : a < 2 * r + 1 := by omega
              have hb9 : b < 2 * r + 1 := by omega
              have hel : ((c * (2 * r + 1) + b) * (2 * r + 1) + a) < (2 * r + 1) * (2 * r + 1) * (2 * r + 1) := box_lt ha9 hb9 (by omega)
              obtain ⟨hqW, hqI⟩ := q_at (C := co) (R := ro) (L := la) (x := x) (y := y) (z := z) (r := r) (c := c) ha9 hb9
              have hh : xHolds σ (nI (x + a) - nI r) (nI (y + b) - nI r) (nI (z + c) - nI r) = (decide (r ≤ x + a ∧ x + a < co + r) && decide (r ≤ y + b ∧ y + b < ro + r) && decide (r ≤ z + c ∧ z + c < la + r)) := by unfold xHolds; rw [m0, m1, m2, fl_in (by omega) hr (by omega) (by omega), fl_in (by omega) hr (by omega) (by omega), fl_in (by omega) hr (by omega) (by omega)]
              refine g_ild9 hC dX2_addFlaw_54 ?_
              refine g_ild1 hC dX2_addFlaw_56 ?_
              refine g_ild4 hC dX2_addFlaw_57 ?_
              refine g_iadd hC dX2_addFlaw_59 ?_
              refine g_icmp_gt 129 hC dX2_addFlaw_60 (by decide) (fun c60 => absurd c60 (fun q => absurd ((vp_gt (by omega) (by omega) (by omega)).mp q) (by omega))) (fun c60 => ?_)
              refine g_ild9 hC dX2_addFlaw_63 ?_
              refine g_ild1 hC dX2_addFlaw_65 ?_
              refine g_isub hC dX2_addFlaw_66 ?_
              refine g_mabs hC (by first | assumption | omega | exact xk_pl _ (by assumption) _ (by omega) | decide) tw_3_219 (Nat.le_of_ble_eq_true rfl) ⟨by omega, by omega⟩ dX2_addFlaw_67 ?_
              refine g_ild8 hC dX2_addFlaw_70 ?_
              refine g_ild2 hC dX2_addFlaw_72 ?_
              refine g_isub hC dX2_addFlaw_73 ?_
              refine g_mabs hC (by first | assumption | omega | exact xk_pl _ (by assumption) _ (by omega) | decide) tw_3_219 (Nat.le_of_ble_eq_true rfl) ⟨by omega, by omega⟩ dX2_addFlaw_74 ?_
              refine g_iadd hC dX2_addFlaw_77 ?_
              refine g_ild7 hC dX2_addFlaw_78 ?_
              refine g_ild3 hC dX2_addFlaw_80 ?_
              refine g_isub hC dX2_addFlaw_81 ?_
              refine g_mabs hC (by first | assumption | omega | exact xk_pl _ (by assumption) _ (by omega) | decide) tw_3_219 (Nat.le_of_ble_eq_true rfl) ⟨by omega, by omega⟩ dX2_addFlaw_82 ?_
              refine g_iadd hC dX2_addFlaw_85 ?_
              rw [vp_abt (x := x) (u := a) (r := r) (by omega) hr (by omega), vp_abt (x := y) (u := b) (r := r) (by omega) hr (by omega), vp_abt (x := z) (u := c) (r := r) (by omega) hr (by omega), nI_add, nI_add]
              refine g_ist10 hC dX2_addFlaw_86 rfl ?_
              refine g_ild10 hC dX2_addFlaw_88 ?_
              refine g_ild4 hC dX2_addFlaw_90 ?_
              refine g_icmp_gt 123 hC dX2_addFlaw_92 (by decide) (fun c92 => ?_) (fun c92 => ?_)
              · rw [nI_ltI (by omega) (by unfold dst; omega)] at c92
                have hw : (qW co ro la x y z r) ((c * (2 * r + 1) + b) * (2 * r + 1) + a) = false := by rw [hqW, decide_eq_false (by omega), Bool.false_and]
                refine g_inc9 1 hC dX2_addFlaw_123 (by decide) rfl ?_
                refine g_goto 54 hC dX2_addFlaw_126 (by decide) ?_
                refine g_keep [true, true, true, true, true, true, true, true, true, true, false] ?_
                rw [vp_s]
                exact iha (a + 1) σ (by omega) (AF_skip hI hw)
              · rw [nI_ltI (by omega) (by unfold dst; omega)] at c92
                refine g_ald0 hC dX2_addFlaw_95 ?_
                refine g_ild9 hC dX2_addFlaw_96 ?_
                refine g_ild8 hC dX2_addFlaw_98 ?_
                refine g_ild7 hC dX2_addFlaw_100 ?_
                refine k_X2_holds hC tw_1_227 dX2_addFlaw_102 (by decide) ⟨by omega, by omega⟩ (Nat.le_of_ble_eq_true rfl) ?_
                refine g_if_eq 123 hC dX2_addFlaw_105 (by decide) (fun c105 => ?_) (fun c105 => ?_)
                · have hw : (qW co ro la x y z r) ((c * (2 * r + 1) + b) * (2 * r + 1) + a) = false := by rw [hqW, ← hh, b2i_eq0.mp c105, Bool.and_false]
                  refine g_inc9 1 hC dX2_addFlaw_123 (by decide) rfl ?_
                  refine g_goto 54 hC dX2_addFlaw_126 (by decide) ?_
                  refine g_keep [true, true, true, true, true, true, true, true, true, true, false] ?_
                  rw [vp_s]
                  exact iha (a + 1) σ (by omega) (AF_skip hI hw)
                · have ht := b2i_ne0.mp c105
                  have hw : (qW co ro la x y z r) ((c * (2 * r + 1) + b) * (2 * r + 1) + a) = true := by rw [hqW, ← hh, ht, decide_eq_true (by omega)]; rfl
                  rw [hh] at ht
                  simp only [Bool.and_eq_true, decide_eq_true_eq] at ht
                  have hix : xIdx σ (nI (x + a) - nI r) (nI (y + b) - nI r) (nI (z + c) - nI r) = nI ((qI co ro x y z r) ((c * (2 * r + 1) + b) * (2 * r + 1) + a)) := by
                    rw [hqI]; unfold xIdx; rw [m0, m1]; exact vp_ix (by omega) (by omega) (by omega)
                  have hil : (qI co ro x y z r) ((c * (2 * r + 1) + b) * (2 * r + 1) + a) < co * ro * la := by rw [hqI]; exact box_lt (by omega) (by omega) (by omega)
                  refine g_ald6 hC dX2_addFlaw_108 ?_
                  refine g_ald0 hC dX2_addFlaw_110 ?_
                  refine g_ild9 hC dX2_addFlaw_111 ?_
                  refine g_ild8 hC dX2_addFlaw_113 ?_
                  refine g_ild7 hC dX2_addFlaw_115 ?_
                  refine k_X2_indexOf hC tw_1_231 dX2_addFlaw_117 (by decide) ⟨by omega, by omega⟩ (Nat.le_of_ble_eq_true rfl) ?_
                  rw [hix]
                  refine k_X0_addCell (f := f) (n := cnt (qW co ro la x y z r) ((c * (2 * r + 1) + b) * (2 * r + 1) + a)) (v := nI ((qI co ro x y z r) ((c * (2 * r + 1) + b) * (2 * r + 1) + a))) hC tw_3_220 dX2_addFlaw_120 (by decide) ⟨by omega, by omega⟩ (Nat.le_of_ble_eq_true rfl) hf ⟨qW_lt hr hel hw, hI.2.2.1⟩ ?_
                  refine g_inc9 1 hC dX2_addFlaw_123 (by decide) rfl ?_
                  refine g_goto 54 hC dX2_addFlaw_126 (by decide) ?_
                  refine g_keep [true, true, true, true, true, true, true, true, true, true, false] ?_
                  rw [vp_s]
                  exact iha (a + 1) _ (by omega) (AF_add hI hw hil hB)
          refine g_ild8 hC dX2_addFlaw_39 ?_
          refine g_ild2 hC dX2_addFlaw_41 ?_
          refine g_ild4 hC dX2_addFlaw_42 ?_
          refine g_iadd hC dX2_addFlaw_44 ?_
          refine g_icmp_gt 135 hC dX2_addFlaw_45 (by decide) (fun c45 => absurd c45 (fun q => absurd ((vp_gt (by omega) (by omega) (by omega)).mp q) (by omega))) (fun c45 => ?_)
          refine g_ild1 hC dX2_addFlaw_48 ?_
          refine g_ild4 hC dX2_addFlaw_49 ?_
          refine g_isub hC dX2_addFlaw_51 ?_
          refine g_ist9 hC dX2_addFlaw_52 rfl ?_
          exact lpa (2 * r + 1) 0 σ (by omega) hI
      refine g_ild7 hC dX2_addFlaw_24 ?_
      refine g_ild3 hC dX2_addFlaw_26 ?_
      refine g_ild4 hC dX2_addFlaw_27 ?_
      refine g_iadd hC dX2_addFlaw_29 ?_
      refine g_icmp_gt 141 hC dX2_addFlaw_30 (by decide) (fun c30 => absurd c30 (fun q => absurd ((vp_gt (by omega) (by omega) (by omega)).mp q) (by omega))) (fun c30 => ?_)
      refine g_ild2 hC dX2_addFlaw_33 ?_
      refine g_ild4 hC dX2_addFlaw_34 ?_
      refine g_isub hC dX2_addFlaw_36 ?_
      refine g_ist8 hC dX2_addFlaw_37 rfl ?_
      exact lpb (2 * r + 1) 0 σ (by omega) hI
  refine g_ald0 hC dX2_addFlaw_0 ?_
  refine xg_Rough_flaws hC tw_1_76 dX2_addFlaw_1 ?_
  refine g_ald0 hC dX2_addFlaw_4 ?_
  refine xg_Rough_flawCount hC tw_1_79 dX2_addFlaw_5 ?_
  refine xl_flawsA f hC hf6 hf dX2_addFlaw_8 ?_
  refine g_ast6 hC dX2_addFlaw_9 rfl ?_
  refine g_ald6 hC dX2_addFlaw_11 ?_
  refine g_ild5 hC dX2_addFlaw_13 ?_
  refine k_X0_begin hC tw_3_215 dX2_addFlaw_15 (by decide) ⟨by omega, by omega⟩ (Nat.le_of_ble_eq_true rfl) hf ?_
  refine g_ild3 hC dX2_addFlaw_18 ?_
  refine g_ild4 hC dX2_addFlaw_19 ?_
  refine g_isub hC dX2_addFlaw_21 ?_
  refine g_ist7 hC dX2_addFlaw_22 rfl ?_
  have e9 : ((0 * (2 * r + 1) + 0) * (2 * r + 1) + 0) = 0 := by rw [Nat.zero_mul, Nat.zero_add, Nat.zero_mul]
  exact lpc (2 * r + 1) 0 _ (by omega) (by rw [e9]; exact AF_0 τ f v _ _ _)
theorem k_X2_addFlaw {l : Launch} {X : gC} {cc : ByteArray} {own : String} {dd ca sa kc nc pc : Nat} {ls : List (Option Value)} {st : List Value} {σ : Mem} {idx : Nat} {f co ro la x y z r v : Nat} (hC : gOk wX l X cc own dd ca sa) (hlk : Cond.methodLink own idx yX2_addFlaw ∈ TB) (hd : decode cc pc = .ok (.invokevirtual idx, 3)) (hdd : 1 + 1 ≤ dd) (hfr : kc + 0 ≤ ca ∧ nc + 0 ≤ sa) (hrest : (st.map fun v => v.category).sum ≤ 8)  (hP : f < 10 ∧ σ 1 0 = nI co ∧ σ 1 1 = nI ro ∧ σ 1 2 = nI la ∧ σ 1 6 = nI f ∧ x < co ∧ y < ro ∧ z < la ∧ co ≤ 10 ∧ ro ≤ 10 ∧ la ≤ 10 ∧ r < 4) (kk : ∀ (σ1 : Mem), AQ σ f v co ro la x y z r σ1 → G wX X kc nc (pc + 3) ls st σ1) : G wX X kc nc pc ls (.int (nI v) :: .int (nI r) :: .int (nI z) :: .int (nI y) :: .int (nI x) :: .ref (gA X 1) :: st) σ := by
  exact g_cVV 5 hC (c_X2_addFlaw l f co ro la x y z r v) hlk ⟨tw_3_212, tw_3_213, tw_1_2, tw_3_214⟩ (by decide +kernel) ⟨hdd, by decide⟩ hfr rfl rfl rfl (gW_at wX _ _ (by decide)) hrest rfl hd hP kk
