theorem k_X5_wantDepth {l : Launch} {X : gC} {cc : ByteArray} {own : String} {dd ca sa kc nc pc : Nat} {ls : List (Option Value)} {st : List Value} {σ : Mem} {idx : Nat} {d : Int32} (hC : gOkX wX l X cc own dd ca sa) (hlk : Cond.methodLink own idx yX5_wantDepth ∈ TB) (hd : decode cc pc = .ok (.invokestatic idx, 3)) (hdd : 6 + 1 ≤ dd) (hfr : kc + 1 ≤ ca ∧ nc + 6 ≤ sa) (hrest : (st.map fun v => v.category).sum ≤ 8) (kk : sIn d (-100) 100 = true → G wX X (kc + 1) (nc + 6) (pc + 3) ls st σ) (kx : ∀ (ex : String) (σ1 : Mem), ex = "java/lang/IllegalArgumentException" ∧ σ1 = σ ∧ sIn d (-100) 100 = false → GX wX X ex (kc + 1) (nc + 6) pc ls st σ1) : G wX X kc nc pc ls (.int d :: st) σ := by
  exact g_xSV 1 hC (c_X5_wantDepth l hC.2.1 d) hlk ⟨tw_2_161, tw_1_1, tw_2_162⟩ (by decide +kernel) ⟨hdd, by decide⟩ hfr rfl rfl hrest rfl hd trivial (fun σ1 hq => by obtain ⟨h1, h2⟩ := hq; subst h1; exact kk h2) (fun ex σ1 hq => kx ex σ1 hq)
theorem k_X5_wantStone {l : Launch} {X : gC} {cc : ByteArray} {own : String} {dd ca sa kc nc pc : Nat} {ls : List (Option Value)} {st : List Value} {σ : Mem} {idx : Nat} {s : Int32} (hC : gOkX wX l X cc own dd ca sa) (hlk : Cond.methodLink own idx yX5_wantStone ∈ TB) (hd : decode cc pc = .ok (.invokevirtual idx, 3)) (hdd : 6 + 1 ≤ dd) (hfr : kc + 1 ≤ ca ∧ nc + 6 ≤ sa) (hrest : (st.map fun v => v.category).sum ≤ 8) (kk : (0 ≤ s ∧ s < σ 0 3) → G wX X (kc + 1) (nc + 6) (pc + 3) ls st σ) (kx : ∀ (ex : String) (σ1 : Mem), ex = "java/lang/IndexOutOfBoundsException" ∧ σ1 = σ ∧ (s < 0 ∨ σ 0 3 ≤ s) → GX wX X ex (kc + 1) (nc + 6) pc ls st σ1) : G wX X kc nc pc ls (.int s :: .ref (gA X 0) :: st) σ := by
  exact g_xVV 1 hC (c_X5_wantStone l hC.2.1 s) hlk ⟨tw_2_119, tws_1_6, tw_1_1, tw_2_120⟩ (by decide +kernel) ⟨hdd, by decide⟩ hfr rfl rfl rfl (gW_at wX _ _ (by decide)) hrest rfl hd trivial (fun σ1 hq => by obtain ⟨h1, h2⟩ := hq; subst h1; exact kk h2) (fun ex σ1 hq => kx ex σ1 hq)
theorem k_X5_wantFlaw {l : Launch} {X : gC} {cc : ByteArray} {own : String} {dd ca sa kc nc pc : Nat} {ls : List (Option Value)} {st : List Value} {σ : Mem} {idx : Nat} {f : Int32} (hC : gOkX wX l X cc own dd ca sa) (hlk : Cond.methodLink own idx yX5_wantFlaw ∈ TB) (hd : decode cc pc = .ok (.invokevirtual idx, 3)) (hdd : 6 + 1 ≤ dd) (hfr : kc + 1 ≤ ca ∧ nc + 6 ≤ sa) (hrest : (st.map fun v => v.category).sum ≤ 8) (kk : (0 ≤ f ∧ f < σ 1 6) → G wX X (kc + 1) (nc + 6) (pc + 3) ls st σ) (kx : ∀ (ex : String) (σ1 : Mem), ex = "java/lang/IndexOutOfBoundsException" ∧ σ1 = σ ∧ (f < 0 ∨ σ 1 6 ≤ f) → GX wX X ex (kc + 1) (nc + 6) pc ls st σ1) : G wX X kc nc pc ls (.int f :: .ref (gA X 0) :: st) σ := by
  exact g_xVV 1 hC (c_X5_wantFlaw l hC.2.1 f) hlk ⟨tw_2_114, tws_1_5, tw_1_1, tw_2_115⟩ (by decide +kernel) ⟨hdd, by decide⟩ hfr rfl rfl rfl (gW_at wX _ _ (by decide)) hrest rfl hd trivial (fun σ1 hq => by obtain ⟨h1, h2⟩ := hq; subst h1; exact kk h2) (fun ex σ1 hq => kx ex σ1 hq)
theorem k_X5_wantWhat {l : Launch} {X : gC} {cc : ByteArray} {own : String} {dd ca sa kc nc pc : Nat} {ls : List (Option Value)} {st : List Value} {σ : Mem} {idx : Nat} {w n : Int32} (hC : gOkX wX l X cc own dd ca sa) (hlk : Cond.methodLink own idx yX5_wantWhat ∈ TB) (hd : decode cc pc = .ok (.invokestatic idx, 3)) (hdd : 6 + 1 ≤ dd) (hfr : kc + 1 ≤ ca ∧ nc + 6 ≤ sa) (hrest : (st.map fun v => v.category).sum ≤ 8) (kk : (0 ≤ w ∧ w < n) → G wX X (kc + 1) (nc + 6) (pc + 3) ls st σ) (kx : ∀ (ex : String) (σ1 : Mem), ex = "java/lang/IndexOutOfBoundsException" ∧ σ1 = σ ∧ (w < 0 ∨ n ≤ w) → GX wX X ex (kc + 1) (nc + 6) pc ls st σ1) : G wX X kc nc pc ls (.int n :: .int w :: st) σ := by
  exact g_xSV 2 hC (c_X5_wantWhat l hC.2.1 w n) hlk ⟨tw_2_123, tw_1_1, tw_2_124⟩ (by decide +kernel) ⟨hdd, by decide⟩ hfr rfl rfl hrest rfl hd trivial (fun σ1 hq => by obtain ⟨h1, h2⟩ := hq; subst h1; exact kk h2) (fun ex σ1 hq => kx ex σ1 hq)
theorem k_X5_wantCell {l : Launch} {X : gC} {cc : ByteArray} {own : String} {dd ca sa kc nc pc : Nat} {ls : List (Option Value)} {st : List Value} {σ : Mem} {idx : Nat} {x y z : Int32} (hC : gOkX wX l X cc own dd ca sa) (hlk : Cond.methodLink own idx yX5_wantCell ∈ TB) (hd : decode cc pc = .ok (.invokevirtual idx, 3)) (hdd : 6 + 1 ≤ dd) (hfr : kc + 1 ≤ ca ∧ nc + 6 ≤ sa) (hrest : (st.map fun v => v.category).sum ≤ 8) (kk : xHolds σ x y z = true → G wX X (kc + 1) (nc + 6) (pc + 3) ls st σ) (kx : ∀ (ex : String) (σ1 : Mem), ex = "java/lang/IndexOutOfBoundsException" ∧ σ1 = σ ∧ xHolds σ x y z = false → GX wX X ex (kc + 1) (nc + 6) pc ls st σ1) : G wX X kc nc pc ls (.int z :: .int y :: .int x :: .ref (gA X 0) :: st) σ := by
  exact g_xVV 3 hC (c_X5_wantCell l hC.2.1 x y z) hlk ⟨tw_2_36, tws_1_3, tw_1_1, tw_2_37⟩ (by decide +kernel) ⟨hdd, by decide⟩ hfr rfl rfl rfl (gW_at wX _ _ (by decide)) hrest rfl hd trivial (fun σ1 hq => by obtain ⟨h1, h2⟩ := hq; subst h1; exact kk h2) (fun ex σ1 hq => kx ex σ1 hq)
theorem k_X5_wantPlane {l : Launch} {X : gC} {cc : ByteArray} {own : String} {dd ca sa kc nc pc : Nat} {ls : List (Option Value)} {st : List Value} {σ : Mem} {idx : Nat} {s : Nat} {k : Int32} (hC : gOkX wX l X cc own dd ca sa) (hlk : Cond.methodLink own idx yX5_wantPlane ∈ TB) (hd : decode cc pc = .ok (.invokevirtual idx, 3)) (hdd : 6 + 1 ≤ dd) (hfr : kc + 1 ≤ ca ∧ nc + 6 ≤ sa) (hrest : (st.map fun v => v.category).sum ≤ 8) (hP : s < 8) (kk : (0 ≤ k ∧ k < σ (iStone s) 2) → G wX X (kc + 1) (nc + 6) (pc + 3) ls st σ) (kx : ∀ (ex : String) (σ1 : Mem), ex = "java/lang/IndexOutOfBoundsException" ∧ σ1 = σ ∧ (k < 0 ∨ σ (iStone s) 2 ≤ k) → GX wX X ex (kc + 1) (nc + 6) pc ls st σ1) : G wX X kc nc pc ls (.int k :: .int (nI s) :: .ref (gA X 0) :: st) σ := by
  exact g_xVV 2 hC (c_X5_wantPlane l hC.2.1 s k) hlk ⟨tw_2_235, tws_1_10, tw_1_1, tw_2_236⟩ (by decide +kernel) ⟨hdd, by decide⟩ hfr rfl rfl rfl (gW_at wX _ _ (by decide)) hrest rfl hd hP (fun σ1 hq => by obtain ⟨h1, h2⟩ := hq; subst h1; exact kk h2) (fun ex σ1 hq => kx ex σ1 hq)
theorem k_X5_wantSlope {l : Launch} {X : gC} {cc : ByteArray} {own : String} {dd ca sa kc nc pc : Nat} {ls : List (Option Value)} {st : List Value} {σ : Mem} {idx : Nat} {p q r : Int32} (hC : gOkX wX l X cc own dd ca sa) (hlk : Cond.methodLink own idx yX5_wantSlope ∈ TB) (hd : decode cc pc = .ok (.invokestatic idx, 3)) (hdd : 6 + 1 ≤ dd) (hfr : kc + 1 ≤ ca ∧ nc + 6 ≤ sa) (hrest : (st.map fun v => v.category).sum ≤ 8) (kk : (sIn p (-3) 3 = true ∧ sIn q (-3) 3 = true ∧ sIn r (-3) 3 = true ∧ ¬ (p = 0 ∧ q = 0 ∧ r = 0)) → G wX X (kc + 1) (nc + 6) (pc + 3) ls st σ) (kx : ∀ (ex : String) (σ1 : Mem), ex = "java/lang/IllegalArgumentException" ∧ σ1 = σ ∧ ¬ (sIn p (-3) 3 = true ∧ sIn q (-3) 3 = true ∧ sIn r (-3) 3 = true ∧ ¬ (p = 0 ∧ q = 0 ∧ r = 0)) → GX wX X ex (kc + 1) (nc + 6) pc ls st σ1) : G wX X kc nc pc ls (.int r :: .int q :: .int p :: st) σ := by
  exact g_xSV 3 hC (c_X5_wantSlope l hC.2.1 p q r) hlk ⟨tw_2_139, tw_1_1, tw_2_140⟩ (by decide +kernel) ⟨hdd, by decide⟩ hfr rfl rfl hrest rfl hd trivial (fun σ1 hq => by obtain ⟨h1, h2⟩ := hq; subst h1; exact kk h2) (fun ex σ1 hq => kx ex σ1 hq)
/-! what the wants say beside the reference -/
theorem mTh_id {t : Mem} (h : t 0 0 = 0) : mTh t = t := by
  funext i j
  unfold mTh upd2
  by_cases hi : i = 0
  · by_cases hj : j = 0
    · subst hi; subst hj; simp [h]
    · simp [hi, hj]
  · simp [hi]
theorem sIn_rng {w : Int32} {n : Nat} (h2 : n < 2 ^ 31) : sIn w 0 (nI n - 1) = true ↔ 0 ≤ w ∧ w < nI n := by
  rcases Nat.eq_zero_or_pos n with rfl | hn
  · constructor
    · intro h
      exfalso
      unfold sIn at h
      rw [Bool.and_eq_true, decide_eq_true_iff, decide_eq_true_iff, Int32.le_iff_toInt_le, Int32.le_iff_toInt_le, show ((0 : Int32)).toInt = 0 by decide, show (nI 0 - 1).toInt = -1 by decide] at h
      omega
    · rintro ⟨h1, h3⟩
      exfalso
      rw [Int32.le_iff_toInt_le, show ((0 : Int32)).toInt = 0 by decide] at h1
      rw [Int32.lt_iff_toInt_lt, show (nI 0).toInt = 0 by decide] at h3
      omega
  · rw [sIn_nI hn h2]
    constructor
    · rintro ⟨j, hj, rfl⟩
      exact ⟨nI_pos' (by omega), nI_lt hj h2⟩
    · rintro ⟨h1, h3⟩
      obtain ⟨j, hj, rfl⟩ := nI_of (x := w) (Int32.not_lt.mpr h1)
      exact ⟨j, (nI_ltI hj h2).mp h3, rfl⟩
theorem rng_nI {w : Int32} {n : Nat} (h2 : n < 2 ^ 31) (h : 0 ≤ w ∧ w < nI n) : ∃ j, j < n ∧ w = nI j := by
  obtain ⟨j, hj, rfl⟩ := nI_of (x := w) (Int32.not_lt.mpr h.1)
  exact ⟨j, (nI_ltI hj h2).mp h.2, rfl⟩
theorem not_rng {a b : Int32} (h : a < 0 ∨ b ≤ a) : ¬ (0 ≤ a ∧ a < b) := fun h2 => h.elim (fun q => absurd h2.1 (Int32.not_le.mpr q)) (fun q => absurd h2.2 (Int32.not_lt.mpr q))
theorem wh_iff {w hi n : Int32} (m : Nat) (hm : m < 100) (h1 : hi = nI m - 1) (h2 : n = nI m) : sIn w 0 hi = true ↔ 0 ≤ w ∧ w < n := by
  subst h1; subst h2; exact sIn_rng (by omega)
theorem wh_1 {w n : Int32} (m : Nat) (hm : m < 100) (h2 : n = nI m) (h : 0 ≤ w ∧ w < n) : ∃ j, j < m ∧ w = nI j := by
  subst h2; exact rng_nI (by omega) h
section PB
variable {σ t : Mem}
theorem pb_S (hR : RS σ t) : σ 0 3 = nI (nS t) := by rw [hR.2.2.2.1.1.2.2.2.2.1]; exact (MI_S hR.1).1
theorem pb_F (hR : RS σ t) : σ 1 6 = nI (nF t) := by rw [hR.2.2.2.1.1.2.2.2.1]; exact (MI_F hR.1).1
theorem pb_P (hR : RS σ t) {s : Nat} (hs : s < nS t) : σ (iStone s) 2 = nI (nP t s) := by
  rw [hR.2.2.2.1.2.2.2.1 s hs]; exact (MI_P hR.1 (Nat.lt_of_lt_of_le hs (MI_S hR.1).2.2)).1
theorem pb_st (hR : RS σ t) {s : Int32} : sStone t s = true ↔ 0 ≤ s ∧ s < σ 0 3 := by
  unfold sStone; rw [(MI_S hR.1).1, pb_S hR]; exact sIn_rng (by have := (MI_S hR.1).2.2; omega)
theorem pb_st1 (hR : RS σ t) {s : Int32} (h : 0 ≤ s ∧ s < σ 0 3) : ∃ n, n < nS t ∧ n < 8 ∧ s = nI n := by
  rw [pb_S hR] at h
  obtain ⟨j, hj, e⟩ := rng_nI (by have := (MI_S hR.1).2.2; omega) h
  exact ⟨j, hj, Nat.lt_of_lt_of_le hj (MI_S hR.1).2.2, e⟩
theorem pb_fl (hR : RS σ t) {f : Int32} : sIn f 0 (t 0 5 - 1) = true ↔ 0 ≤ f ∧ f < σ 1 6 := by
  rw [(MI_F hR.1).1, pb_F hR]; exact sIn_rng (by have := (MI_F hR.1).2; omega)
theorem pb_fl1 (hR : RS σ t) {f : Int32} (h : 0 ≤ f ∧ f < σ 1 6) : ∃ n, n < nF t ∧ n < 10 ∧ f = nI n := by
  rw [pb_F hR] at h
  obtain ⟨j, hj, e⟩ := rng_nI (by have := (MI_F hR.1).2; omega) h
  exact ⟨j, hj, Nat.lt_of_lt_of_le hj (MI_F hR.1).2, e⟩
theorem pb_pl (hR : RS σ t) {s : Nat} (hs : s < nS t) {k : Int32} : sPlane t (nI s) k = true ↔ 0 ≤ k ∧ k < σ (iStone s) 2 := by
  have h8 : s < 8 := Nat.lt_of_lt_of_le hs (MI_S hR.1).2.2
  have h1 : sStone t (nI s) = true := (pb_st hR).mpr ⟨nI_pos' (by omega), by rw [pb_S hR]; exact nI_lt hs (by have := (MI_S hR.1).2.2; omega)⟩
  unfold sPlane
  rw [h1, Bool.true_and, nI_clamp (by omega), (MI_P hR.1 h8).1, pb_P hR hs]
  exact sIn_rng (by have := (MI_P hR.1 h8).2; omega)
theorem pb_pl1 (hR : RS σ t) {s : Nat} (hs : s < nS t) {k : Int32} (h : 0 ≤ k ∧ k < σ (iStone s) 2) : ∃ n, n < nP t s ∧ n < 16 ∧ k = nI n := by
  have h8 : s < 8 := Nat.lt_of_lt_of_le hs (MI_S hR.1).2.2
  rw [pb_P hR hs] at h
  obtain ⟨j, hj, e⟩ := rng_nI (by have := (MI_P hR.1 h8).2; omega) h
  exact ⟨j, hj, Nat.lt_of_lt_of_le hj (hR.2.2.1 s h8), e⟩
/-- a plane of no stone is none -/
theorem pb_pls {s k : Int32} (h : ¬ sStone t s = true) : ¬ sPlane t s k = true := fun h2 => h (by unfold sPlane at h2; rw [Bool.and_eq_true] at h2; exact h2.1)
theorem tilt_iff {p q r d : Int32} : sTilt p q r d = true ↔ (sIn p (-3) 3 = true ∧ sIn q (-3) 3 = true ∧ sIn r (-3) 3 = true ∧ ¬ (p = 0 ∧ q = 0 ∧ r = 0)) ∧ sIn d (-100) 100 = true := by
  by_cases h1 : p = 0 <;> by_cases h2 : q = 0 <;> by_cases h3 : r = 0 <;> simp [sTilt, h1, h2, h3, and_assoc]
theorem slp_of {p q r : Int32} (h : sIn p (-3) 3 = true ∧ sIn q (-3) 3 = true ∧ sIn r (-3) 3 = true ∧ ¬ (p = 0 ∧ q = 0 ∧ r = 0)) : Slp p q r := by
  obtain ⟨a, b, c, -⟩ := sTilt_int ((tilt_iff (d := 0)).mpr ⟨h, by decide⟩)
  exact ⟨a, b, c⟩
theorem pb_own (hR : RS σ t) {x y z : Int32} (h : sCell t x y z = true) : xOwn σ x y z = t 1 (sAt x y z).toNatClampNeg := by
  by_cases hv : t 1 (sAt x y z).toNatClampNeg = -1
  · by_cases hw : xOwn σ x y z = -1
    · rw [hw, hv]
    · exfalso
      have h1 := own_of hR.1 hR.2.2.2.1 x y z (xOwn σ x y z) hw
      unfold sOf at h1
      rw [h, hv, Bool.true_and, beq_self_eq_true] at h1
      exact hw (beq_iff_eq.mp h1.symm).symm
  · have h1 := own_of hR.1 hR.2.2.2.1 x y z _ hv
    unfold sOf at h1
    rw [h, Bool.true_and, beq_self_eq_true] at h1
    simpa using h1
end PB
/-! which class is thrown where the reference tells its number -/
def xcT (m : Int32 × Mem) (t : Mem) (ex : String) : Prop := ex = "java/lang/IllegalArgumentException" ∧ m = mFail t 1
def xc1 (m : Int32 × Mem) (t : Mem) (ex : String) : Prop := ex = "java/lang/IndexOutOfBoundsException" ∧ m = mFail t 1
def xcP (m : Int32 × Mem) (t : Mem) (ex : String) : Prop := (ex = "java/lang/IndexOutOfBoundsException" ∧ m = mFail t 1) ∨ (ex = "java/lang/IllegalStateException" ∧ m = mFail t 2)
def xc2 (m : Int32 × Mem) (t : Mem) (ex : String) : Prop := (ex = "java/lang/IndexOutOfBoundsException" ∧ m = mFail t 1) ∨ (ex = "java/lang/IllegalArgumentException" ∧ m = mFail t 2)
def xc3 (m : Int32 × Mem) (t : Mem) (ex : String) : Prop := (ex = "java/lang/IndexOutOfBoundsException" ∧ m = mFail t 1) ∨ (ex = "java/lang/IllegalArgumentException" ∧ m = mFail t 2) ∨ (ex = "java/lang/IllegalStateException" ∧ m = mFail t 3)
def xOk (m : Int32 × Mem) (rr : Int32) (τ1 : Mem) : Prop := rr = m.1 ∧ RS τ1 m.2 ∧ m.2 0 0 = 0

