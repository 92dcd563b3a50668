/-! the reference's pure words (of whole), [17, 18] -/
def rP (k : Nat) : Int32 := nI k / 9 - 1
def rQ (k : Nat) : Int32 := nI k / 3 - nI k / 3 / 3 * 3 - 1
def rR (k : Nat) : Int32 := nI k - nI k / 3 * 3 - 1
def sRidD (τ : Mem) (f s k : Nat) : Int32 := sEnd τ (nI s) (some f) (rP k) (rQ k) (rR k) false - 1
def sRidL (τ : Mem) (f s k : Nat) : Int32 := sLook τ s (rP k) (rQ k) (rR k) (sRidD τ f s k) 0
/-- the plane with the least loss among the first ones: its number, its depth, the loss -/
def sRidS (τ : Mem) (f s : Nat) : Nat → Int32 × Int32 × Int32
  | 0 => (-1, 0, 1001)
  | k + 1 => if k = 13 then sRidS τ f s k else if sRidL τ f s k < (sRidS τ f s k).2.2 then (nI k, sRidD τ f s k, sRidL τ f s k) else sRidS τ f s k
def mRid (τ : Mem) (f s w : Int32) : Int32 × Mem :=
  if sIn f 0 ((mTh τ) 0 5 - 1) = true ∧ sStone (mTh τ) s = true ∧ sIn w 0 2 = true then
    (if nI (sFc (mTh τ) (tn f) s false) = 0 then (if w = 1 then -1000 else -1, mTh τ)
     else (if w = 0 then (sRidS (mTh τ) (tn f) (tn s) 27).1 else if w = 1 then (sRidS (mTh τ) (tn f) (tn s) 27).2.1 else (sRidS (mTh τ) (tn f) (tn s) 27).2.2, mTh τ))
  else mFail τ 1
theorem r_ne : ∀ k, k < 27 → ¬ k = 13 → ¬ nI k = 13 := by decide +kernel
/-! the checksum -/
def dg (d : Int64) (x : Int32) : Int64 := d * 31 + x.toInt64
def foldF (F : Nat → Int64 → Int64) : Nat → Int64 → Int64
  | 0, d => d
  | n + 1, d => F n (foldF F n d)
def nC (τ : Mem) : Nat := (τ 0 1).toNatClampNeg
def nR (τ : Mem) : Nat := (τ 0 2).toNatClampNeg
def nL (τ : Mem) : Nat := (τ 0 3).toNatClampNeg
theorem MI_C {τ : Mem} (h : MI τ) : (τ 0 1 = nI (nC τ) ∧ 1 ≤ nC τ ∧ nC τ ≤ 10) ∧ (τ 0 2 = nI (nR τ) ∧ 1 ≤ nR τ ∧ nR τ ≤ 10) ∧ (τ 0 3 = nI (nL τ) ∧ 1 ≤ nL τ ∧ nL τ ≤ 10) := by
  obtain ⟨⟨a, a1, a2, a3⟩, ⟨b, b1, b2, b3⟩, ⟨c, c1, c2, c3⟩, -⟩ := h
  have e1 : nC τ = a := by unfold nC; rw [a3]; exact nI_clamp (by omega)
  have e2 : nR τ = b := by unfold nR; rw [b3]; exact nI_clamp (by omega)
  have e3 : nL τ = c := by unfold nL; rw [c3]; exact nI_clamp (by omega)
  rw [e1, e2, e3]
  exact ⟨⟨a3, a1, a2⟩, ⟨b3, b1, b2⟩, ⟨c3, c1, c2⟩⟩
def mF1 (τ : Mem) (w : Nat) (d : Int64) : Int64 := dg d (sCt τ w)
def mFx (τ : Mem) (y z x : Nat) (d : Int64) : Int64 := dg d (τ 1 (x + 10 * (y + 10 * z)))
def mFy (τ : Mem) (z y : Nat) (d : Int64) : Int64 := foldF (mFx τ y z) (nC τ) d
def mFz (τ : Mem) (z : Nat) (d : Int64) : Int64 := foldF (mFy τ z) (nR τ) d
def mFw (τ : Mem) (s w : Nat) (d : Int64) : Int64 := dg d (sSt τ s w)
def mFp (τ : Mem) (s k w : Nat) (d : Int64) : Int64 := dg d (sPt τ s k w)
def mFk (τ : Mem) (s k : Nat) (d : Int64) : Int64 := foldF (mFp τ s k) 6 d
def mFs (τ : Mem) (s : Nat) (d : Int64) : Int64 := foldF (mFk τ s) (nP τ s) (foldF (mFw τ s) 9 d)
def mFv (τ : Mem) (f s w : Nat) (d : Int64) : Int64 := dg d (sFt τ f (nI s) (nI w))
def mFt (τ : Mem) (f s : Nat) (d : Int64) : Int64 := foldF (mFv τ f s) 3 d
def mFf (τ : Mem) (f : Nat) (d : Int64) : Int64 := foldF (mFt τ f) (nS τ) d
def mD1 (τ : Mem) : Int64 := foldF (mF1 τ) 8 577
def mD2 (τ : Mem) : Int64 := foldF (mFz τ) (nL τ) (mD1 τ)
def mD3 (τ : Mem) : Int64 := foldF (mFs τ) (nS τ) (mD2 τ)
def mDig (τ : Mem) : Int64 := foldF (mFf τ) (nF τ) (mD3 τ)
/-- a place that javac uses again holds nothing that is wanted -/
theorem foldF_s {F : Nat → Int64 → Int64} {n : Nat} {d : Int64} : F n (foldF F n d) = foldF F (n + 1) d := rfl
theorem foldF_0 {F : Nat → Int64 → Int64} {d : Int64} : foldF F 0 d = d := rfl
section FS
variable {τ : Mem} {d : Int64} {s k w f x y z : Nat}
theorem mF1_s : foldF (mF1 τ) (w + 1) d = foldF (mF1 τ) w d * 31 + (sCt τ w).toInt64 := by rw [← foldF_s, mF1]; rfl
theorem mFx_s : foldF (mFx τ y z) (x + 1) d = foldF (mFx τ y z) x d * 31 + (τ 1 (x + 10 * (y + 10 * z))).toInt64 := by rw [← foldF_s, mFx]; rfl
theorem mFy_s : foldF (mFy τ z) (y + 1) d = foldF (mFx τ y z) (nC τ) (foldF (mFy τ z) y d) := by rw [← foldF_s, mFy]
theorem mFz_s : foldF (mFz τ) (z + 1) d = foldF (mFy τ z) (nR τ) (foldF (mFz τ) z d) := by rw [← foldF_s, mFz]
theorem mFw_s : foldF (mFw τ s) (w + 1) d = foldF (mFw τ s) w d * 31 + (sSt τ s w).toInt64 := by rw [← foldF_s, mFw]; rfl
theorem mFp_s : foldF (mFp τ s k) (w + 1) d = foldF (mFp τ s k) w d * 31 + (sPt τ s k w).toInt64 := by rw [← foldF_s, mFp]; rfl
theorem mFk_s : foldF (mFk τ s) (k + 1) d = foldF (mFp τ s k) 6 (foldF (mFk τ s) k d) := by rw [← foldF_s, mFk]
theorem mFs_s : foldF (mFs τ) (s + 1) d = foldF (mFk τ s) (nP τ s) (foldF (mFw τ s) 9 (foldF (mFs τ) s d)) := by rw [← foldF_s, mFs]
theorem mFv_s : foldF (mFv τ f s) (w + 1) d = foldF (mFv τ f s) w d * 31 + (sFt τ f (nI s) (nI w)).toInt64 := by rw [← foldF_s, mFv]; rfl
theorem mFt_s : foldF (mFt τ f) (s + 1) d = foldF (mFv τ f s) 3 (foldF (mFt τ f) s d) := by rw [← foldF_s, mFt]
theorem mFf_s : foldF (mFf τ) (f + 1) d = foldF (mFt τ f) (nS τ) (foldF (mFf τ) f d) := by rw [← foldF_s, mFf]
end FS

theorem g_widen {Lw : gL} {X : gC} {k n k1 n1 pc : Nat} {ls : List (Option Value)} {st : List Value} {σ : Mem} (h1 : k ≤ k1) (h2 : n ≤ n1) (kk : G Lw X k1 n1 pc ls st σ) : G Lw X k n pc ls st σ := by
  obtain ⟨p, l', e, R, s, m, args, below, meth, c, nL, H0, A, E, Q⟩ := X
  exact fun H locs arr hn hP hS hl => W.widen h1 h2 (kk H locs arr hn hP hS hl)
/-! a quotient of two whole numbers is a number -/
theorem fp_asm (s : Bool) (e t : Nat) (h : (e ≤ 2046 ∧ t < 2 ^ 52) ∨ (e = 2047 ∧ t = 0)) : vf_n64 (UInt64.ofNat (FP.Core.assemble FP.Core.b64 s e t)) := by
  unfold vf_n64
  rw [UInt64.le_iff_toNat_le, UInt64.toNat_and, UInt64.toNat_ofNat']
  rw [show (9223372036854775807 : UInt64).toNat = 2 ^ 63 - 1 from rfl, Nat.and_two_pow_sub_one_eq_mod]
  rw [show (9218868437227405312 : UInt64).toNat = 9218868437227405312 from rfl]
  rw [show FP.Core.assemble FP.Core.b64 s e t = (s.toNat * 2048 + e) * 4503599627370496 + t from rfl]
  have hs : s.toNat = 0 ∨ s.toNat = 1 := by cases s <;> simp
  rcases hs with hs | hs <;> rw [hs] <;> omega
theorem fp_settle (s : Bool) (c : Nat) (q : Int) : vf_n64 (UInt64.ofNat (FP.Core.encode FP.Core.b64 (FP.Core.settle FP.Core.b64 s c q))) := by
  have hb : ∀ c q, c < 2 ^ 53 → vf_n64 (UInt64.ofNat (FP.Core.encode FP.Core.b64 (FP.Core.bound FP.Core.b64 s c q))) := by
    intro c q hc
    unfold FP.Core.bound
    by_cases hq : q ≤ FP.Core.b64.qmax
    · rw [if_pos hq]
      have hq2 : q ≤ 971 := hq
      show vf_n64 (UInt64.ofNat (if c < FP.Core.b64.tails then _ else _))
      by_cases hc2 : c < FP.Core.b64.tails
      · rw [if_pos hc2]
        have hc3 : c < 4503599627370496 := hc2
        exact fp_asm s 0 c (Or.inl ⟨by omega, by omega⟩)
      · rw [if_neg hc2]
        have hc3 : ¬ c < 4503599627370496 := hc2
        refine fp_asm s _ _ (Or.inl ⟨?_, ?_⟩)
        · have : (q - FP.Core.b64.qmin) = q + 1074 := by rw [show FP.Core.b64.qmin = -1074 from rfl]; omega
          rw [this]
          omega
        · rw [show FP.Core.b64.tails = 4503599627370496 from rfl]
          omega
    · rw [if_neg hq]
      exact fp_asm s _ 0 (Or.inr ⟨rfl, rfl⟩)
  unfold FP.Core.settle
  by_cases hc : c < 2 ^ FP.Core.b64.p
  · rw [if_pos hc]
    exact hb c q hc
  · rw [if_neg hc]
    exact hb _ _ (by rw [show FP.Core.b64.tails = 4503599627370496 from rfl]; omega)
def fpFin (d : FP.Core.Datum) (z : Bool) : Bool := match d with
  | .fin _ c _ => z || decide (c ≠ 0)
  | _ => false
theorem fp_div {x y : UInt64} (hx : fpFin (FP.Core.decode FP.Core.b64 x.toNat) true = true) (hy : fpFin (FP.Core.decode FP.Core.b64 y.toNat) false = true) : vf_n64 (FP.ddiv x y) := by
  show vf_n64 (UInt64.ofNat (FP.Core.encode FP.Core.b64 (FP.Core.quotient FP.Core.b64 (FP.Core.decode FP.Core.b64 x.toNat) (FP.Core.decode FP.Core.b64 y.toNat))))
  generalize FP.Core.decode FP.Core.b64 x.toNat = dx at hx ⊢
  generalize FP.Core.decode FP.Core.b64 y.toNat = dy at hy ⊢
  cases dx with
  | nan => cases hx
  | inf s => cases hx
  | fin s c q =>
    cases dy with
    | nan => cases hy
    | inf s => cases hy
    | fin t d r =>
      have hd : d ≠ 0 := by simpa [fpFin] using hy
      show vf_n64 (UInt64.ofNat (FP.Core.encode FP.Core.b64 (if d = 0 then _ else FP.Core.roundRatio FP.Core.b64 (s != t) c d (q - r))))
      rw [if_neg hd]
      unfold FP.Core.roundRatio
      by_cases hc : c = 0
      · rw [if_pos hc]
        exact fp_asm _ 0 0 (Or.inl ⟨by omega, by omega⟩)
      · rw [if_neg hc]
        exact fp_settle _ _ _
theorem fp_num' : ∀ a, a < 9 → ∀ b, b < 1000 → fpFin (FP.Core.decode FP.Core.b64 (FP.i2d (nI (1000 * a + b))).toNat) true = true := by decide +kernel
theorem fp_num (n : Nat) (h : n < 8001) : fpFin (FP.Core.decode FP.Core.b64 (FP.i2d (nI n)).toNat) true = true := by
  have := fp_num' (n / 1000) (by omega) (n % 1000) (by omega)
  rwa [show 1000 * (n / 1000) + n % 1000 = n by omega] at this
theorem fp_den : ∀ n, n < 1001 → n ≠ 0 → fpFin (FP.Core.decode FP.Core.b64 (FP.i2d (nI n)).toNat) false = true := by decide +kernel
theorem sumI_nI (g : Nat → Nat) : ∀ n, sumI (fun s => nI (g s)) n = nI (sumN g n) := by
  intro n
  induction n with
  | zero => rfl
  | succ n ih => simp only [sumI, sumN, ih, nI_add]
theorem sumN_le (g : Nat → Nat) (B : Nat) (h : ∀ k, g k ≤ B) : ∀ n, sumN g n ≤ B * n := by
  intro n
  induction n with
  | zero => simp [sumN]
  | succ n ih =>
    have := h n
    simp only [sumN]
    rw [Nat.mul_succ]
    omega
theorem sCt_1 (τ : Mem) : sCt τ 1 = nI (sumN (fun s => sWt τ (nI s)) (nS τ)) := by
  rw [← sumI_nI]
  rfl
theorem sCt_0 {τ : Mem} (hM : MI τ) : sCt τ 0 = nI (nC τ * nR τ * nL τ) := by
  obtain ⟨⟨hC1, hC2, hC3⟩, ⟨hR1, hR2, hR3⟩, ⟨hL1, hL2, hL3⟩⟩ := MI_C hM
  show τ 0 1 * τ 0 2 * τ 0 3 = _
  rw [hC1, hR1, hL1, nI_mul', nI_mul']
theorem vol_rng {a b c : Nat} (ha : 1 ≤ a ∧ a ≤ 10) (hb : 1 ≤ b ∧ b ≤ 10) (hc : 1 ≤ c ∧ c ≤ 10) : 1 ≤ a * b * c ∧ a * b * c ≤ 1000 := by
  have h1 : 1 ≤ a * b := Nat.mul_pos ha.1 hb.1
  have h2 : a * b ≤ 10 * 10 := Nat.mul_le_mul ha.2 hb.2
  exact ⟨Nat.mul_pos h1 hc.1, Nat.mul_le_mul h2 hc.2⟩
theorem kept_num {τ : Mem} (hM : MI τ) : vf_n64 (FP.ddiv (FP.i2d (sCt τ 1)) (FP.i2d (sCt τ 0))) := by
  obtain ⟨⟨hC1, hC2, hC3⟩, ⟨hR1, hR2, hR3⟩, ⟨hL1, hL2, hL3⟩⟩ := MI_C hM
  obtain ⟨-, hS2, hS3⟩ := MI_S hM
  rw [sCt_1, sCt_0 hM]
  have h1 := sumN_le (fun s => sWt τ (nI s)) 1000 (fun k => cnt_le _ 1000) (nS τ)
  have h2 := vol_rng ⟨hC2, hC3⟩ ⟨hR2, hR3⟩ ⟨hL2, hL3⟩
  exact fp_div (fp_num _ (by omega)) (fp_den _ (by omega) (by omega))
