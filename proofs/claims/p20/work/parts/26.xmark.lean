/-! what a mark leaves -/
section MK
variable {τ : Mem} {s : Nat} {p q r d : Int32}
theorem mk_0 (j : Nat) : gMark τ s p q r d 0 j = τ 0 j := by simp [gMark, gPut, gTurn]
theorem mk_2 (j : Nat) : gMark τ s p q r d 2 j = τ 2 j := by simp [gMark, gPut, gTurn]
theorem mk_cell (x y z : Int32) : sCell (gMark τ s p q r d) x y z = sCell τ x y z := by simp only [sCell, mk_0]
theorem mk_flawed (f k : Nat) : sFlawed (gMark τ s p q r d) f k = sFlawed τ f k := by unfold sFlawed sFl; rw [decide_eq_decide]; simp only [mk_2]
theorem mk_nF : nF (gMark τ s p q r d) = nF τ := by simp only [nF, mk_0]
theorem mk_1 {c : Nat} (hc : c < 1000) (hs : s < 8) : (gMark τ s p q r d 1 c == nI s) = (τ 1 c == nI s && decide (sHgt c p q r ≤ d)) := by
  have e : gMark τ s p q r d 1 c = if pTurn τ (nI s) p q r d c = true then -2 else τ 1 c := by
    simp [gMark, gPut, gTurn, hc]
  rw [e]
  unfold pTurn
  by_cases ho : τ 1 c = nI s
  · rw [ho]
    by_cases hd : d < sHgt c p q r
    · have : ¬ (-2 : Int32) = nI s := fun h => by
        have h1 : (-2 : Int32).toInt = (nI s).toInt := by rw [h]
        rw [nI_toInt (by omega), show (-2 : Int32).toInt = -2 by decide] at h1
        omega
      simp [hd, this, Int32.not_le.mpr hd]
    · simp [hd, Int32.not_lt.mp hd]
  · simp [ho]
theorem sAt_hgt {x y z : Int32} (hM : MI τ) (h : sCell τ x y z = true) (p q r : Int32) : sHgt (sAt x y z).toNatClampNeg p q r = p * x + q * y + r * z ∧ (sAt x y z).toNatClampNeg < 1000 := by
  obtain ⟨a, b, c, ha, hb, hc, rfl, rfl, rfl, -⟩ := sCell_nI hM h
  rw [sAt_nI, nI_clamp (by omega)]
  refine ⟨?_, by omega⟩
  unfold sHgt kx ky kz
  rw [show (a + 10 * (b + 10 * c)) % 10 = a by omega, show (a + 10 * (b + 10 * c)) / 10 % 10 = b by omega, show (a + 10 * (b + 10 * c)) / 100 = c by omega]
theorem mk_of (hM : MI τ) (hs : s < 8) (x y z : Int32) : sOf (gMark τ s p q r d) x y z (nI s) = (sOf τ x y z (nI s) && decide (p * x + q * y + r * z ≤ d)) := by
  unfold sOf
  rw [mk_cell]
  cases hc : sCell τ x y z
  · rfl
  · obtain ⟨e1, e2⟩ := sAt_hgt hM hc p q r
    rw [Bool.true_and, mk_1 e2 hs, e1]
    rfl
end MK
def rchk (a b c : Nat) : Bool :=
  (fun (M : Int) => decide ((a : Int) - 3 ≤ M) && decide (3 - (a : Int) ≤ M) && decide ((b : Int) - 3 ≤ M) && decide (3 - (b : Int) ≤ M) && decide ((c : Int) - 3 ≤ M) && decide (3 - (c : Int) ≤ M) && (decide (M = (a : Int) - 3) || decide (M = 3 - (a : Int)) || decide (M = (b : Int) - 3) || decide (M = 3 - (b : Int)) || decide (M = (c : Int) - 3) || decide (M = 3 - (c : Int)))) (xReach (nI a - 3) (nI b - 3) (nI c - 3)).toInt
theorem rchk_all : ∀ a, a < 7 → ∀ b, b < 7 → ∀ c, c < 7 → rchk a b c = true := by decide +kernel
theorem reach_tab (a : Nat) (ha : a < 7) (b : Nat) (hb : b < 7) (c : Nat) (hc : c < 7) : (((a : Int) - 3 ≤ (xReach (nI a - 3) (nI b - 3) (nI c - 3)).toInt ∧ 3 - (a : Int) ≤ (xReach (nI a - 3) (nI b - 3) (nI c - 3)).toInt ∧ (b : Int) - 3 ≤ (xReach (nI a - 3) (nI b - 3) (nI c - 3)).toInt ∧ 3 - (b : Int) ≤ (xReach (nI a - 3) (nI b - 3) (nI c - 3)).toInt ∧ (c : Int) - 3 ≤ (xReach (nI a - 3) (nI b - 3) (nI c - 3)).toInt ∧ 3 - (c : Int) ≤ (xReach (nI a - 3) (nI b - 3) (nI c - 3)).toInt) ∧ ((xReach (nI a - 3) (nI b - 3) (nI c - 3)).toInt = (a : Int) - 3 ∨ (xReach (nI a - 3) (nI b - 3) (nI c - 3)).toInt = 3 - (a : Int) ∨ (xReach (nI a - 3) (nI b - 3) (nI c - 3)).toInt = (b : Int) - 3 ∨ (xReach (nI a - 3) (nI b - 3) (nI c - 3)).toInt = 3 - (b : Int) ∨ (xReach (nI a - 3) (nI b - 3) (nI c - 3)).toInt = (c : Int) - 3 ∨ (xReach (nI a - 3) (nI b - 3) (nI c - 3)).toInt = 3 - (c : Int))) := by
  have h := rchk_all a ha b hb c hc
  unfold rchk at h
  simp only [Bool.and_eq_true, Bool.or_eq_true, decide_eq_true_eq] at h
  omega
theorem iI_subT (z : Int) (p : Int32) : iI z - p = iI (z + -p.toInt) := by
  conv => lhs; rw [iI_of p, iI_sub]
  rfl
theorem iI_addT (z : Int) (p : Int32) : iI z + p = iI (z + p.toInt) := by
  conv => lhs; rw [iI_of p, iI_add]
theorem slp_nat {p : Int32} (h : -3 ≤ p.toInt ∧ p.toInt ≤ 3) : ∃ a : Nat, a < 7 ∧ p = nI a - 3 ∧ p.toInt = (a : Int) - 3 := by
  refine ⟨(p.toInt + 3).toNat, by omega, ?_, by omega⟩
  rw [nI_iI, show (3 : Int32) = iI 3 by decide, iI_sub]
  conv => lhs; rw [iI_of p]
  congr 1
  omega
/-- the reach, as a whole number -/
def zR (p q r : Int32) : Int := (xReach p q r).toInt
theorem reach_int {p q r : Int32} (h : Slp p q r) : (p.toInt ≤ zR p q r ∧ -p.toInt ≤ zR p q r ∧ q.toInt ≤ zR p q r ∧ -q.toInt ≤ zR p q r ∧ r.toInt ≤ zR p q r ∧ -r.toInt ≤ zR p q r) ∧
    (zR p q r = p.toInt ∨ zR p q r = -p.toInt ∨ zR p q r = q.toInt ∨ zR p q r = -q.toInt ∨ zR p q r = r.toInt ∨ zR p q r = -r.toInt) := by
  obtain ⟨a, ha, e1, f1⟩ := slp_nat h.1
  obtain ⟨b, hb, e2, f2⟩ := slp_nat h.2.1
  obtain ⟨c, hc, e3, f3⟩ := slp_nat h.2.2
  obtain ⟨⟨g1, g2, g3, g4, g5, g6⟩, g7⟩ := reach_tab a ha b hb c hc
  unfold zR
  rw [← e1, ← e2, ← e3] at g1 g2 g3 g4 g5 g6 g7
  omega
theorem reach_iI (p q r : Int32) : xReach p q r = iI (zR p q r) := iI_of _
theorem reach_rng {p q r : Int32} (h : Slp p q r) : 0 ≤ zR p q r ∧ zR p q r ≤ 3 := by
  obtain ⟨h1, h2⟩ := reach_int h
  obtain ⟨a, b, c⟩ := h
  omega
/-- a depth that may be tried -/
def Dp (d : Int32) : Prop := -200 ≤ d.toInt ∧ d.toInt ≤ 200
theorem le_iI {d : Int32} {z : Int} (h : -1000 ≤ z ∧ z ≤ 1000) : (iI z ≤ d) ↔ z ≤ d.toInt := by rw [toInt_le, iI_toInt (by omega) (by omega)]
theorem lt_iI {d : Int32} {z : Int} (h : -1000 ≤ z ∧ z ≤ 1000) : (d < iI z) ↔ d.toInt < z := by rw [toInt_lt, iI_toInt (by omega) (by omega)]
/-- a cell that stays comes to the surface just if it touches the plane -/
theorem mk_surf {τ : Mem} (hM : MI τ) {s : Nat} (hs : s < 8) {p q r d : Int32} (hSl : Slp p q r) {i : Nat} (hi : i < NN τ) (ho : own τ s i = true) (hz : zh τ p q r i ≤ d.toInt) :
    sSurf (gMark τ s p q r d) (CI τ i) = (sSurf τ (CI τ i) || decide (d.toInt < zh τ p q r i + zR p q r)) := by
  obtain ⟨-, -, -, -, -, -, hc⟩ := CI_xyz hM hi
  have ho2 : τ 1 (CI τ i) = nI s := by simpa [own] using ho
  have hr := zh_rng hM hSl hi
  have hm := reach_rng hSl
  have e1 : gMark τ s p q r d 1 (CI τ i) = nI s := by
    have := mk_1 (τ := τ) (s := s) (p := p) (q := q) (r := r) (d := d) hc hs
    rw [ho2, show sHgt (CI τ i) p q r = iI (zh τ p q r i) from sHgt_z, decide_eq_true ((le_iI (by omega)).mpr hz)] at this
    simpa using this
  have eh : p * kx (CI τ i) + q * ky (CI τ i) + r * kz (CI τ i) = iI (zh τ p q r i) := sHgt_z
  have w : ∀ v : Int32, ∀ x : Int, -3 ≤ x ∧ x ≤ 3 → v = iI (zh τ p q r i + x) → (decide (v ≤ d)) = decide (zh τ p q r i + x ≤ d.toInt) := fun v x hx hv => by
    rw [hv, decide_eq_decide]; exact le_iI (by omega)
  have hp := iI_of p
  have hq := iI_of q
  have hr' := iI_of r
  have m1 : ∀ a x : Int32, a * (x - 1) = a * x - a := fun a x => by rw [Int32.mul_sub, Int32.mul_one]
  have m2 : ∀ a x : Int32, a * (x + 1) = a * x + a := fun a x => by rw [Int32.mul_add, Int32.mul_one]
  have v1 : p * (kx (CI τ i) - 1) + q * ky (CI τ i) + r * kz (CI τ i) = iI (zh τ p q r i + -p.toInt) := by
    rw [m1, show p * kx (CI τ i) - p + q * ky (CI τ i) + r * kz (CI τ i) = (p * kx (CI τ i) + q * ky (CI τ i) + r * kz (CI τ i)) - p by simp only [Int32.sub_eq_add_neg]; ac_rfl, eh, iI_subT]
  have v2 : p * (kx (CI τ i) + 1) + q * ky (CI τ i) + r * kz (CI τ i) = iI (zh τ p q r i + p.toInt) := by
    rw [m2, show p * kx (CI τ i) + p + q * ky (CI τ i) + r * kz (CI τ i) = (p * kx (CI τ i) + q * ky (CI τ i) + r * kz (CI τ i)) + p by ac_rfl, eh, iI_addT]
  have v3 : p * kx (CI τ i) + q * (ky (CI τ i) - 1) + r * kz (CI τ i) = iI (zh τ p q r i + -q.toInt) := by
    rw [m1, show p * kx (CI τ i) + (q * ky (CI τ i) - q) + r * kz (CI τ i) = (p * kx (CI τ i) + q * ky (CI τ i) + r * kz (CI τ i)) - q by simp only [Int32.sub_eq_add_neg]; ac_rfl, eh, iI_subT]
  have v4 : p * kx (CI τ i) + q * (ky (CI τ i) + 1) + r * kz (CI τ i) = iI (zh τ p q r i + q.toInt) := by
    rw [m2, show p * kx (CI τ i) + (q * ky (CI τ i) + q) + r * kz (CI τ i) = (p * kx (CI τ i) + q * ky (CI τ i) + r * kz (CI τ i)) + q by ac_rfl, eh, iI_addT]
  have v5 : p * kx (CI τ i) + q * ky (CI τ i) + r * (kz (CI τ i) - 1) = iI (zh τ p q r i + -r.toInt) := by
    rw [m1, show p * kx (CI τ i) + q * ky (CI τ i) + (r * kz (CI τ i) - r) = (p * kx (CI τ i) + q * ky (CI τ i) + r * kz (CI τ i)) - r by simp only [Int32.sub_eq_add_neg]; ac_rfl, eh, iI_subT]
  have v6 : p * kx (CI τ i) + q * ky (CI τ i) + r * (kz (CI τ i) + 1) = iI (zh τ p q r i + r.toInt) := by
    rw [m2, show p * kx (CI τ i) + q * ky (CI τ i) + (r * kz (CI τ i) + r) = (p * kx (CI τ i) + q * ky (CI τ i) + r * kz (CI τ i)) + r by ac_rfl, eh, iI_addT]
  obtain ⟨hp3, hq3, hr3⟩ := hSl
  unfold sSurf
  rw [e1, ho2]
  simp only [mk_of hM hs]
  rw [w _ (-p.toInt) (by omega) v1, w _ p.toInt (by omega) v2, w _ (-q.toInt) (by omega) v3, w _ q.toInt (by omega) v4, w _ (-r.toInt) (by omega) v5, w _ r.toInt (by omega) v6]
  obtain ⟨g1, g2⟩ := reach_int ⟨hp3, hq3, hr3⟩
  by_cases hd : d.toInt < zh τ p q r i + zR p q r
  · rw [decide_eq_true hd, Bool.or_true]
    have : zh τ p q r i + -p.toInt ≤ d.toInt → zh τ p q r i + p.toInt ≤ d.toInt → zh τ p q r i + -q.toInt ≤ d.toInt → zh τ p q r i + q.toInt ≤ d.toInt → zh τ p q r i + -r.toInt ≤ d.toInt → zh τ p q r i + r.toInt ≤ d.toInt → False := by omega
    rw [Bool.not_eq_true', Bool.eq_false_iff]
    intro hh
    simp only [Bool.and_eq_true, decide_eq_true_eq] at hh
    obtain ⟨⟨⟨⟨⟨⟨-, a1⟩, -, a2⟩, -, a3⟩, -, a4⟩, -, a5⟩, -, a6⟩ := hh
    exact this a1 a2 a3 a4 a5 a6
  · rw [decide_eq_false hd, Bool.or_false]
    rw [decide_eq_true (show zh τ p q r i + -p.toInt ≤ d.toInt by omega), decide_eq_true (show zh τ p q r i + p.toInt ≤ d.toInt by omega), decide_eq_true (show zh τ p q r i + -q.toInt ≤ d.toInt by omega), decide_eq_true (show zh τ p q r i + q.toInt ≤ d.toInt by omega), decide_eq_true (show zh τ p q r i + -r.toInt ≤ d.toInt by omega), decide_eq_true (show zh τ p q r i + r.toInt ≤ d.toInt by omega)]
    simp only [Bool.and_true]

