/-! the reference's pure words (of whole), [9, 10, 11, 12, 13] -/
/-! what the reference answers, in pure words -/
def b2i (b : Bool) : Int32 := if b then 1 else 0
theorem b2i_eq0 {b : Bool} : b2i b = 0 ↔ b = false := by cases b <;> simp [b2i]
theorem b2i_ne0 {b : Bool} : ¬ b2i b = 0 ↔ b = true := by cases b <;> simp [b2i]
theorem b2i_01 (b : Bool) : b2i b = 0 ∨ b2i b = 1 := by cases b <;> simp [b2i]
def cnt (P : Nat → Bool) : Nat → Nat
  | 0 => 0
  | n + 1 => cnt P n + (if P n then 1 else 0)
theorem cnt_t {P : Nat → Bool} {n : Nat} (h : P n = true) : cnt P (n + 1) = cnt P n + 1 := by simp [cnt, h]
theorem cnt_f {P : Nat → Bool} {n : Nat} (h : P n = false) : cnt P (n + 1) = cnt P n := by simp [cnt, h]
theorem cnt_le (P : Nat → Bool) : ∀ n, cnt P n ≤ n := by
  intro n
  induction n with
  | zero => simp [cnt]
  | succ n ih => simp only [cnt]; split <;> omega
theorem cnt_congr {P Q : Nat → Bool} : ∀ n, (∀ k, k < n → P k = Q k) → cnt P n = cnt Q n := by
  intro n
  induction n with
  | zero => intro _; rfl
  | succ n ih => intro h; simp only [cnt, ih (fun k hk => h k (by omega)), h n (by omega)]
theorem cnt_pos {P : Nat → Bool} : ∀ n, 0 < cnt P n ↔ ∃ k, k < n ∧ P k = true := by
  intro n
  induction n with
  | zero => simp [cnt]
  | succ n ih =>
    simp only [cnt]
    by_cases h : P n = true
    · simp only [h, if_true]
      exact ⟨fun _ => ⟨n, by omega, h⟩, fun _ => by omega⟩
    · rw [if_neg h, Nat.add_zero, ih]
      constructor
      · rintro ⟨k, h1, h2⟩; exact ⟨k, by omega, h2⟩
      · rintro ⟨k, h1, h2⟩
        rcases Nat.lt_or_ge k n with q | q
        · exact ⟨k, q, h2⟩
        · exact absurd (by rwa [show k = n by omega] at h2) h
def jabs (x : Int32) : Int32 := if 0 ≤ x then x else 0 - x
def jmax (x y : Int32) : Int32 := if x < y then y else x
def sIn (v lo hi : Int32) : Bool := decide (lo ≤ v) && decide (v ≤ hi)
def sCell (τ : Mem) (x y z : Int32) : Bool := sIn x 0 (τ 0 1 - 1) && sIn y 0 (τ 0 2 - 1) && sIn z 0 (τ 0 3 - 1)
def sAt (x y z : Int32) : Int32 := x + 10 * (y + 10 * z)
def sOf (τ : Mem) (x y z s : Int32) : Bool := sCell τ x y z && τ 1 (sAt x y z).toNatClampNeg == s
def sStone (τ : Mem) (s : Int32) : Bool := sIn s 0 (τ 0 7 - 1)
def sPlane (τ : Mem) (s k : Int32) : Bool := sStone τ s && sIn k 0 (τ 4 s.toNatClampNeg - 1)
def sPl (τ : Mem) (s k w : Nat) : Int32 := τ 3 (5 * (17 * s + k) + w)
def sFl (τ : Mem) (f w : Nat) : Int32 := τ 2 (5 * f + w)
def kx (k : Nat) : Int32 := nI (k % 10)
def ky (k : Nat) : Int32 := nI (k / 10 % 10)
def kz (k : Nat) : Int32 := nI (k / 100)
def sHgt (k : Nat) (p q r : Int32) : Int32 := p * kx k + q * ky k + r * kz k
theorem k_rem : ∀ k, k < 1000 → nI k - nI k / 10 * 10 = kx k := by decide +kernel
theorem k_divrem : ∀ k, k < 1000 → nI k / 10 - nI k / 10 / 10 * 10 = ky k := by decide +kernel
theorem k_divdiv : ∀ k, k < 1000 → nI k / 10 / 10 = kz k := by decide +kernel
def sSurf (τ : Mem) (k : Nat) : Bool := !(sOf τ (kx k - 1) (ky k) (kz k) (τ 1 k) && sOf τ (kx k + 1) (ky k) (kz k) (τ 1 k) && sOf τ (kx k) (ky k - 1) (kz k) (τ 1 k) && sOf τ (kx k) (ky k + 1) (kz k) (τ 1 k) && sOf τ (kx k) (ky k) (kz k - 1) (τ 1 k) && sOf τ (kx k) (ky k) (kz k + 1) (τ 1 k))
def sFlawed (τ : Mem) (f k : Nat) : Bool := decide (jabs (kx k - sFl τ f 0) + jabs (ky k - sFl τ f 1) + jabs (kz k - sFl τ f 2) ≤ sFl τ f 3)
def sWt (τ : Mem) (s : Int32) : Nat := cnt (fun k => τ 1 k == s) 1000
/-- the sizes that the rows hold, and bounds by which no index leaves its row -/
def MI (τ : Mem) : Prop := (∃ c, 1 ≤ c ∧ c ≤ 10 ∧ τ 0 1 = nI c) ∧ (∃ c, 1 ≤ c ∧ c ≤ 10 ∧ τ 0 2 = nI c) ∧ (∃ c, 1 ≤ c ∧ c ≤ 10 ∧ τ 0 3 = nI c) ∧ (∃ f, f ≤ 10 ∧ τ 0 5 = nI f) ∧ (∃ s, 1 ≤ s ∧ s ≤ 8 ∧ τ 0 7 = nI s) ∧ ∀ s, s < 8 → ∃ m, m ≤ 17 ∧ τ 4 s = nI m
theorem nI_inj {a b : Nat} (ha : a < 2 ^ 31) (hb : b < 2 ^ 31) (h : nI a = nI b) : a = b := (nI_eq ha hb).mp h
theorem nI_sub1 (a : Nat) (h : 1 ≤ a) : nI a - 1 = nI (a - 1) := by
  obtain ⟨b, rfl⟩ : ∃ b, a = b + 1 := ⟨a - 1, by omega⟩
  rw [Nat.add_sub_cancel]
  exact nI_pred b
/-- what a range test says -/
theorem sIn_nI {v : Int32} {n : Nat} (hn : 1 ≤ n) (hn2 : n < 2 ^ 31) : sIn v 0 (nI n - 1) = true ↔ ∃ j, j < n ∧ v = nI j := by
  unfold sIn
  rw [Bool.and_eq_true, decide_eq_true_iff, decide_eq_true_iff, nI_sub1 n hn]
  constructor
  · rintro ⟨h1, h2⟩
    obtain ⟨j, hj, rfl⟩ := nI_of (x := v) (by rw [Int32.lt_iff_toInt_lt]; rw [Int32.le_iff_toInt_le] at h1; exact Int.not_lt.mpr h1)
    exact ⟨j, by have := (nI_leI hj (by omega)).mp h2; omega, rfl⟩
  · rintro ⟨j, hj, rfl⟩
    exact ⟨nI_pos' (by omega), nI_le (by omega) (by omega)⟩
theorem nI_mul' (a b : Nat) : nI a * nI b = nI (a * b) := by unfold nI; exact (Int32.ofNat_mul a b).symm
theorem sAt_nI (x y z : Nat) : sAt (nI x) (nI y) (nI z) = nI (x + 10 * (y + 10 * z)) := by
  unfold sAt
  rw [show (10 : Int32) = nI 10 by decide, nI_mul', nI_add, nI_mul', nI_add]
theorem sCell_nI {τ : Mem} {x y z : Int32} (hM : MI τ) (h : sCell τ x y z = true) : ∃ a b c : Nat, a < 10 ∧ b < 10 ∧ c < 10 ∧ x = nI a ∧ y = nI b ∧ z = nI c := by
  obtain ⟨⟨c1, a1, a2, a3⟩, ⟨c2, b1, b2, b3⟩, ⟨c3, d1, d2, d3⟩, -⟩ := hM
  simp only [sCell, Bool.and_eq_true, a3, b3, d3] at h
  obtain ⟨⟨h1, h2⟩, h3⟩ := h
  obtain ⟨j1, e1, f1⟩ := (sIn_nI a1 (by omega)).mp h1
  obtain ⟨j2, e2, f2⟩ := (sIn_nI b1 (by omega)).mp h2
  obtain ⟨j3, e3, f3⟩ := (sIn_nI d1 (by omega)).mp h3
  exact ⟨j1, j2, j3, by omega, by omega, by omega, f1, f2, f3⟩
theorem sStone_nI {τ : Mem} {s : Int32} (hM : MI τ) (h : sStone τ s = true) : ∃ j, j < 8 ∧ s = nI j := by
  obtain ⟨-, -, -, -, ⟨c, a1, a2, a3⟩, -⟩ := hM
  simp only [sStone, a3] at h
  obtain ⟨j, e1, f1⟩ := (sIn_nI a1 (by omega)).mp h
  exact ⟨j, by omega, f1⟩
def sumI (g : Nat → Int32) : Nat → Int32
  | 0 => 0
  | n + 1 => sumI g n + g n
def sumN (g : Nat → Nat) : Nat → Nat
  | 0 => 0
  | n + 1 => sumN g n + g n
def allB (P : Nat → Bool) : Nat → Bool
  | 0 => true
  | n + 1 => allB P n && P n
theorem lit_le {N k : Nat} {c : Int32} (hc : c = nI N) (h : N ≤ k) (hk : k < 2 ^ 31) : c ≤ nI k := by rw [hc]; exact nI_le h hk
theorem lit_nle {N k : Nat} {c : Int32} (hc : c = nI N) (h : k < N) (hk : N < 2 ^ 31) : ¬ c ≤ nI k := by rw [hc]; exact nI_ge h hk
theorem lit_lt {N k : Nat} {c : Int32} (hc : c = nI N) (h : N < k) (hk : k < 2 ^ 31) : c < nI k := by rw [hc]; exact nI_lt h hk
theorem lit_nlt {N k : Nat} {c : Int32} (hc : c = nI N) (h : k ≤ N) (hk : N < 2 ^ 31) : ¬ c < nI k := by rw [hc]; exact nI_nlt h hk
/-- one step of a counting loop -/
theorem cnt_s1 {P : Nat → Bool} {n : Nat} (h : P n = true) : nI (cnt P n) + 1 = nI (cnt P (n + 1)) := by rw [cnt_t h, nI_succ]
theorem cnt_s0 {P : Nat → Bool} {n : Nat} (h : P n = false) : nI (cnt P n) + 0 = nI (cnt P (n + 1)) := by rw [cnt_f h, Int32.add_zero]
def pWt (τ : Mem) (s : Int32) (k : Nat) : Bool := τ 1 k == s
def pFc (τ : Mem) (f : Nat) (s : Int32) (op : Bool) (k : Nat) : Bool := τ 1 k == s && sFlawed τ f k && (!op || sSurf τ k)
def sFc (τ : Mem) (f : Nat) (s : Int32) (op : Bool) : Nat := cnt (pFc τ f s op) 1000
def sFt (τ : Mem) (f : Nat) (s w : Int32) : Int32 := if w < 2 then nI (sFc τ f s (decide (w = 1))) else if nI (sFc τ f s false) = 0 then -1 else if 0 < nI (sFc τ f s true) then 1 else 0
def pTurn (τ : Mem) (s p q r d : Int32) (k : Nat) : Bool := τ 1 k == s && decide (d < sHgt k p q r)
def sTurn (τ : Mem) (s p q r d : Int32) : Nat := cnt (pTurn τ s p q r d) 1000
/-- the cells up to n that a turn takes have become t -/
def gTurn (τ : Mem) (s p q r d t : Int32) (n : Nat) : Mem := fun i k => if i = 1 ∧ k < n ∧ pTurn τ s p q r d k = true then t else τ i k
def gBack (τ : Mem) (s : Int32) (n : Nat) : Mem := fun i k => if i = 1 ∧ k < n ∧ τ 1 k = -2 then s else τ i k
def sMost (τ : Mem) (s k : Nat) : Int32 := jmax (jabs (sPl τ s k 0)) (jmax (jabs (sPl τ s k 1)) (jabs (sPl τ s k 2)))
def pTouch (τ : Mem) (s k c : Nat) : Bool := τ 1 c == nI s && decide (sPl τ s k 3 < sHgt c (sPl τ s k 0) (sPl τ s k 1) (sPl τ s k 2) + sMost τ s k)
def sTouch (τ : Mem) (s k : Nat) : Nat := cnt (pTouch τ s k) 1000
def sFacet (τ : Mem) (s k : Nat) : Bool := decide (0 < nI (sTouch τ s k))
def nP (τ : Mem) (s : Nat) : Nat := (τ 4 s).toNatClampNeg
def nF (τ : Mem) : Nat := (τ 0 5).toNatClampNeg
def nS (τ : Mem) : Nat := (τ 0 7).toNatClampNeg
def pFacets (τ : Mem) (s : Nat) (po : Bool) (k : Nat) : Bool := sFacet τ s k && (!po || sPl τ s k 4 == 1)
def sFacets (τ : Mem) (s : Nat) (po : Bool) : Nat := cnt (pFacets τ s po) (nP τ s)
def sOpp (τ : Mem) (s a b : Nat) : Nat → Bool := allB (fun w => sPl τ s a w == 0 - sPl τ s b w)
def pPair (τ : Mem) (s a b : Nat) : Bool := sOpp τ s a b 3 && sFacet τ s a && sFacet τ s b
def sPairs (τ : Mem) (s : Nat) : Nat := sumN (fun a => cnt (pPair τ s a) a) (nP τ s)
def pFin (τ : Mem) (s : Int32) (how : Int32) (f : Nat) : Bool := sFt τ f s 2 == how
def sFin (τ : Mem) (s how : Int32) : Nat := cnt (pFin τ s how) (nF τ)
def sPts (τ : Mem) (s : Int32) : Nat → Int32 := sumI (fun f => if sFt τ f s 2 = 1 then 6 * sFl τ f 4 else if sFt τ f s 2 = 0 then 2 * sFl τ f 4 else 0)
def sWorth (τ : Mem) (s : Nat) : Int32 := if nI (sWt τ (nI s)) = 0 then 0 else
  (nI (sWt τ (nI s)) * nI (sWt τ (nI s)) / 10 + 10 * nI (sWt τ (nI s))) * jmax 10 (100 - sPts τ (nI s) (nF τ)) / 100 + 25 * nI (sFacets τ s true) + 40 * nI (sPairs τ s)
def sProd (τ : Mem) (s a b : Nat) : Int32 := sumI (fun w => sPl τ s a w * sPl τ s b w) 3
def sPt (τ : Mem) (s k w : Nat) : Int32 := if w < 4 then sPl τ s k w else if w = 4 then nI (sTouch τ s k) else sPl τ s k 4
theorem MI_P {τ : Mem} (h : MI τ) {s : Nat} (hs : s < 8) : τ 4 s = nI (nP τ s) ∧ nP τ s ≤ 17 := by
  obtain ⟨m, h1, h2⟩ := h.2.2.2.2.2 s hs
  have : nP τ s = m := by unfold nP; rw [h2]; exact nI_clamp (by omega)
  rw [this]; exact ⟨h2, h1⟩
theorem MI_F {τ : Mem} (h : MI τ) : τ 0 5 = nI (nF τ) ∧ nF τ ≤ 10 := by
  obtain ⟨m, h1, h2⟩ := h.2.2.2.1
  have : nF τ = m := by unfold nF; rw [h2]; exact nI_clamp (by omega)
  rw [this]; exact ⟨h2, h1⟩
theorem MI_S {τ : Mem} (h : MI τ) : τ 0 7 = nI (nS τ) ∧ 1 ≤ nS τ ∧ nS τ ≤ 8 := by
  obtain ⟨m, h1, h3, h2⟩ := h.2.2.2.2.1
  have : nS τ = m := by unfold nS; rw [h2]; exact nI_clamp (by omega)
  rw [this]; exact ⟨h2, h1, h3⟩

theorem gTurn_at {τ : Mem} {s p q r d t : Int32} {n : Nat} : gTurn τ s p q r d t n 1 n = τ 1 n := by simp [gTurn]
theorem gTurn_s1 {τ : Mem} {s p q r d t : Int32} {n : Nat} (h : pTurn τ s p q r d n = true) : upd2 (gTurn τ s p q r d t n) 1 n t = gTurn τ s p q r d t (n + 1) := by
  funext i k
  unfold upd2 gTurn
  by_cases hi : i = 1
  · subst hi
    by_cases hk : k = n
    · subst hk; simp [h]
    · simp only [hk, if_true, if_false, true_and]
      by_cases h2 : k < n
      · simp [h2, show k < n + 1 by omega]
      · simp [h2, show ¬ k < n + 1 by omega]
  · simp [hi]
theorem gTurn_s0 {τ : Mem} {s p q r d t : Int32} {n : Nat} (h : pTurn τ s p q r d n = false) : gTurn τ s p q r d t n = gTurn τ s p q r d t (n + 1) := by
  funext i k
  unfold gTurn
  by_cases hk : k = n
  · subst hk; simp [h]
  · by_cases h2 : k < n
    · simp [h2, show k < n + 1 by omega]
    · simp [h2, show ¬ k < n + 1 by omega]
theorem gTurn_0 {τ : Mem} {s p q r d t : Int32} : gTurn τ s p q r d t 0 = τ := by
  funext i k; simp [gTurn]
theorem gBack_at {τ : Mem} {s : Int32} {n : Nat} : gBack τ s n 1 n = τ 1 n := by simp [gBack]
theorem gBack_s1 {τ : Mem} {s : Int32} {n : Nat} (h : τ 1 n = -2) : upd2 (gBack τ s n) 1 n s = gBack τ s (n + 1) := by
  funext i k
  unfold upd2 gBack
  by_cases hi : i = 1
  · subst hi
    by_cases hk : k = n
    · subst hk; simp [h]
    · simp only [hk, if_true, if_false, true_and]
      by_cases h2 : k < n
      · simp [h2, show k < n + 1 by omega]
      · simp [h2, show ¬ k < n + 1 by omega]
  · simp [hi]
theorem gBack_s0 {τ : Mem} {s : Int32} {n : Nat} (h : ¬ τ 1 n = -2) : gBack τ s n = gBack τ s (n + 1) := by
  funext i k
  unfold gBack
  by_cases hk : k = n
  · subst hk
    by_cases hi : i = 1
    · simp [h, hi]
    · simp [hi]
  · by_cases h2 : k < n
    · simp [h2, show k < n + 1 by omega]
    · simp [h2, show ¬ k < n + 1 by omega]
theorem gBack_0 {τ : Mem} {s : Int32} : gBack τ s 0 = τ := by
  funext i k; simp [gBack]
/-- the answer of stone, by what is asked -/
def pSf (τ : Mem) (s : Int32) (k : Nat) : Bool := τ 1 k == s && sSurf τ k
def sSt (τ : Mem) (s w : Nat) : Int32 :=
  if w = 0 then nI (sWt τ (nI s)) else if w = 1 then τ 4 s else if w = 2 then nI (sFacets τ s false) else if w = 3 then nI (sFacets τ s true)
  else if w = 4 then nI (sPairs τ s) else if w = 5 then nI (sFin τ (nI s) 1) else if w = 6 then nI (sFin τ (nI s) 0) else if w = 7 then sWorth τ s else nI (cnt (pSf τ (nI s)) 1000)
def sCtv (τ : Mem) (w : Nat) (s : Nat) : Int32 := if w = 1 then nI (sWt τ (nI s)) else if w = 6 then sWorth τ s else b2i (decide (0 < nI (sWt τ (nI s))))
def sCt (τ : Mem) (w : Nat) : Int32 :=
  if w = 0 then τ 0 1 * τ 0 2 * τ 0 3 else if w = 2 then τ 0 7 else if w = 4 then τ 0 5 else if w = 5 then τ 0 10 else if w = 7 then τ 0 11
  else sumI (sCtv τ w) (nS τ)
def sTilt (p q r d : Int32) : Bool := sIn p (-3) 3 && sIn q (-3) 3 && sIn r (-3) 3 && (!(p == 0) || !(q == 0) || !(r == 0)) && sIn d (-100) 100
def gSpend (τ : Mem) (v : Int32) : Mem := upd2 (upd2 τ 0 10 (τ 0 10 - v)) 0 11 (τ 0 11 + v)
/-- what 'end' has found among the first cells: the best height, and whether there was none yet -/
def sEndS (τ : Mem) (s : Int32) (C : Nat → Bool) (p q r : Int32) (g : Bool) : Nat → Int32 × Bool
  | 0 => (0, true)
  | k + 1 => if (τ 1 k == s && C k) = true then (if ((sEndS τ s C p q r g k).2 || (decide ((sEndS τ s C p q r g k).1 < sHgt k p q r) == g)) = true then (sHgt k p q r, false) else ((sEndS τ s C p q r g k).1, false)) else sEndS τ s C p q r g k
def sEC (τ : Mem) (f : Option Nat) (k : Nat) : Bool := match f with
  | none => true
  | some f => sFlawed τ f k
def sEnd (τ : Mem) (s : Int32) (f : Option Nat) (p q r : Int32) (g : Bool) : Int32 := (sEndS τ s (sEC τ f) p q r g 1000).1
def oI (f : Option Nat) : Int32 := match f with
  | none => -1
  | some f => nI f
theorem MI_th {τ : Mem} (h : MI τ) (v : Int32) : MI (upd2 τ 0 0 v) := by
  refine ⟨?_, ?_, ?_, ?_, ?_, ?_⟩
  · rw [upd2_nj (by decide)]; exact h.1
  · rw [upd2_nj (by decide)]; exact h.2.1
  · rw [upd2_nj (by decide)]; exact h.2.2.1
  · rw [upd2_nj (by decide)]; exact h.2.2.2.1
  · rw [upd2_nj (by decide)]; exact h.2.2.2.2.1
  · intro s hs; rw [upd2_ni (by decide)]; exact h.2.2.2.2.2 s hs
theorem sPlane_nI {τ : Mem} {s k : Int32} (hM : MI τ) (h : sPlane τ s k = true) : ∃ a b, a < 8 ∧ a < nS τ ∧ b < nP τ a ∧ b < 17 ∧ s = nI a ∧ k = nI b ∧ s.toNatClampNeg = a ∧ k.toNatClampNeg = b := by
  simp only [sPlane, Bool.and_eq_true] at h
  obtain ⟨j, hj, rfl⟩ := sStone_nI hM h.1
  have hc : (nI j).toNatClampNeg = j := nI_clamp (by omega)
  obtain ⟨e1, e2⟩ := MI_P hM hj
  rw [hc, e1] at h
  have h1 := h.1
  rw [sStone, (MI_S hM).1] at h1
  obtain ⟨j2, e5, e6⟩ := (sIn_nI (MI_S hM).2.1 (by have := (MI_S hM).2.2; omega)).mp h1
  have : j = j2 := nI_inj (by omega) (by have := (MI_S hM).2.2; omega) e6
  subst this
  rcases Nat.lt_or_ge (nP τ j) 1 with q | q
  · exfalso
    have h3 : nP τ j = 0 := by omega
    have h4 := h.2
    rw [h3] at h4
    simp only [sIn, Bool.and_eq_true, decide_eq_true_iff] at h4
    have h5 := Int32.le_trans h4.1 h4.2
    exact absurd h5 (by decide)
  · obtain ⟨m, hm, rfl⟩ := (sIn_nI q (by omega)).mp h.2
    exact ⟨j, m, hj, e5, hm, by omega, rfl, rfl, hc, nI_clamp (by omega)⟩
theorem sStone_at {τ : Mem} {s : Int32} (hM : MI τ) (h : sStone τ s = true) : ∃ a, a < 8 ∧ a < nS τ ∧ s = nI a ∧ s.toNatClampNeg = a := by
  rw [sStone, (MI_S hM).1] at h
  obtain ⟨j, e5, rfl⟩ := (sIn_nI (MI_S hM).2.1 (by have := (MI_S hM).2.2; omega)).mp h
  exact ⟨j, by have := (MI_S hM).2.2; omega, e5, rfl, nI_clamp (by have := (MI_S hM).2.2; omega)⟩
theorem sIn_at {v hi : Int32} {n : Nat} (hh : hi = nI n) (hn : n < 1000) (h : sIn v 0 hi = true) : ∃ a, a ≤ n ∧ v = nI a ∧ v.toNatClampNeg = a := by
  have h1 : sIn v 0 (nI (n + 1) - 1) = true := by rw [nI_pred, ← hh]; exact h
  obtain ⟨j, e5, rfl⟩ := (sIn_nI (by omega) (by omega)).mp h1
  exact ⟨j, by omega, rfl, nI_clamp (by omega)⟩
theorem sFlaw_at {τ : Mem} {f : Int32} (hM : MI τ) (h : sIn f 0 (τ 0 5 - 1) = true) : ∃ a, a < 10 ∧ a < nF τ ∧ f = nI a ∧ f.toNatClampNeg = a := by
  obtain ⟨e1, e2⟩ := MI_F hM
  rw [e1] at h
  rcases Nat.lt_or_ge (nF τ) 1 with q | q
  · exfalso
    rw [show nF τ = 0 by omega] at h
    simp only [sIn, Bool.and_eq_true, decide_eq_true_iff] at h
    exact absurd (Int32.le_trans h.1 h.2) (by decide)
  · obtain ⟨m, hm, rfl⟩ := (sIn_nI q (by omega)).mp h
    exact ⟨m, by omega, hm, rfl, nI_clamp (by omega)⟩
theorem oI_ne {f : Nat} (h : f < 10) : ¬ oI (some f) = -1 := by
  have : ∀ f, f < 10 → ¬ nI f = -1 := by decide +kernel
  exact this f h
/-! a row of five made on the way: the reference's world with one cell more -/
theorem gW_congr {Lw : gL} {E : gE} {σ σ' : Mem} (h : ∀ i, i < Lw.1 → σ i = σ' i) : gW Lw E σ = gW Lw E σ' := by
  apply List.ext_getElem?
  intro q
  by_cases hq : q < Lw.1
  · rw [gW_at _ _ _ hq, gW_at _ _ _ hq, h q hq]
  · rw [List.getElem?_eq_none (by rw [gW_len]; omega), List.getElem?_eq_none (by rw [gW_len]; omega)]
/-- only the cells of the world count -/
theorem g_mem {Lw : gL} {X : gC} {k n pc : Nat} {ls : List (Option Value)} {st : List Value} {σ : Mem} (σ' : Mem) (h : ∀ i, i < Lw.1 → σ i = σ' i) (kk : G Lw X k n pc ls st σ') : G Lw X k n pc ls st σ := by
  obtain ⟨p, l', e, R, s, m, args, below, meth, c, nL, H0, A, E, Q⟩ := X
  exact fun H locs arr hn hP hS hl => kk H locs arr hn (by rw [← gW_congr h]; exact hP) hS hl
