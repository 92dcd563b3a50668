/-! the reference's pure words (of whole), [16] -/
/-! whole numbers as ints -/
abbrev iI (z : Int) : Int32 := Int32.ofInt z
theorem iI_toInt {z : Int} (h1 : -2147483648 ≤ z) (h2 : z < 2147483648) : (iI z).toInt = z := Int32.toInt_ofInt_of_le (by simpa using h1) (by simpa using h2)
theorem nI_iI (n : Nat) : nI n = iI n := Int32.ofInt_eq_ofNat.symm
theorem iI_add (a b : Int) : iI a + iI b = iI (a + b) := (Int32.ofInt_add a b).symm
theorem iI_mul (a b : Int) : iI a * iI b = iI (a * b) := (Int32.ofInt_mul a b).symm
theorem iI_sub (a b : Int) : iI a - iI b = iI (a - b) := (Int32.ofInt_sub a b).symm
theorem iI_of (x : Int32) : x = iI x.toInt := (Int32.ofInt_toInt x).symm
theorem iI_le {a b : Int} (ha : -2147483648 ≤ a ∧ a < 2147483648) (hb : -2147483648 ≤ b ∧ b < 2147483648) : iI a ≤ iI b ↔ a ≤ b := by rw [Int32.le_iff_toInt_le, iI_toInt ha.1 ha.2, iI_toInt hb.1 hb.2]
theorem iI_lt {a b : Int} (ha : -2147483648 ≤ a ∧ a < 2147483648) (hb : -2147483648 ≤ b ∧ b < 2147483648) : iI a < iI b ↔ a < b := by rw [Int32.lt_iff_toInt_lt, iI_toInt ha.1 ha.2, iI_toInt hb.1 hb.2]
theorem iI_eq {a b : Int} (ha : -2147483648 ≤ a ∧ a < 2147483648) (hb : -2147483648 ≤ b ∧ b < 2147483648) : iI a = iI b ↔ a = b := by rw [← Int32.toInt_inj, iI_toInt ha.1 ha.2, iI_toInt hb.1 hb.2]
theorem sIn_int {v : Int32} {a b : Int} (ha : -2147483648 ≤ a ∧ a < 2147483648) (hb : -2147483648 ≤ b ∧ b < 2147483648) : sIn v (iI a) (iI b) = true ↔ a ≤ v.toInt ∧ v.toInt ≤ b := by
  unfold sIn
  rw [Bool.and_eq_true, decide_eq_true_iff, decide_eq_true_iff, Int32.le_iff_toInt_le, Int32.le_iff_toInt_le, iI_toInt ha.1 ha.2, iI_toInt hb.1 hb.2]
/-- heights as whole numbers -/
def zHgt (k : Nat) (p q r : Int) : Int := p * (k % 10 : Nat) + q * (k / 10 % 10 : Nat) + r * (k / 100 : Nat)
theorem sHgt_iI (k : Nat) (p q r : Int) : sHgt k (iI p) (iI q) (iI r) = iI (zHgt k p q r) := by
  unfold sHgt zHgt kx ky kz
  rw [nI_iI, nI_iI, nI_iI, iI_mul, iI_mul, iI_mul, iI_add, iI_add]
theorem mul_rng {p : Int} {a : Nat} (hp : -3 ≤ p ∧ p ≤ 3) (ha : a ≤ 9) : -27 ≤ p * a ∧ p * a ≤ 27 := by
  have h1 : p = -3 ∨ p = -2 ∨ p = -1 ∨ p = 0 ∨ p = 1 ∨ p = 2 ∨ p = 3 := by omega
  rcases h1 with rfl | rfl | rfl | rfl | rfl | rfl | rfl <;> omega
theorem zHgt_rng {k : Nat} (hk : k < 1000) {p q r : Int} (hp : -3 ≤ p ∧ p ≤ 3) (hq : -3 ≤ q ∧ q ≤ 3) (hr : -3 ≤ r ∧ r ≤ 3) : -81 ≤ zHgt k p q r ∧ zHgt k p q r ≤ 81 := by
  have h1 := mul_rng (a := k % 10) hp (by omega)
  have h2 := mul_rng (a := k / 10 % 10) hq (by omega)
  have h3 := mul_rng (a := k / 100) hr (by omega)
  unfold zHgt
  omega
theorem sTilt_int {p q r d : Int32} (h : sTilt p q r d = true) : (-3 ≤ p.toInt ∧ p.toInt ≤ 3) ∧ (-3 ≤ q.toInt ∧ q.toInt ≤ 3) ∧ (-3 ≤ r.toInt ∧ r.toInt ≤ 3) ∧ (-100 ≤ d.toInt ∧ d.toInt ≤ 100) ∧ ¬ (p = 0 ∧ q = 0 ∧ r = 0) := by
  unfold sTilt at h
  simp only [Bool.and_eq_true, Bool.or_eq_true, Bool.not_eq_true', beq_eq_false_iff_ne, ne_eq] at h
  obtain ⟨⟨⟨⟨h1, h2⟩, h3⟩, h4⟩, h5⟩ := h
  have e3 : (-3 : Int32) = iI (-3) := by decide
  have e3' : (3 : Int32) = iI 3 := by decide
  have e1 : (-100 : Int32) = iI (-100) := by decide
  have e1' : (100 : Int32) = iI 100 := by decide
  rw [e3, e3'] at h1 h2 h3
  rw [e1, e1'] at h5
  refine ⟨(sIn_int (by omega) (by omega)).mp h1, (sIn_int (by omega) (by omega)).mp h2, (sIn_int (by omega) (by omega)).mp h3, (sIn_int (by omega) (by omega)).mp h5, ?_⟩
  rintro ⟨a, b, c⟩
  rcases h4 with (h4 | h4) | h4
  · exact h4 a
  · exact h4 b
  · exact h4 c
theorem sHgt_z {k : Nat} {p q r : Int32} : sHgt k p q r = iI (zHgt k p.toInt q.toInt r.toInt) := by
  rw [← sHgt_iI, ← iI_of, ← iI_of, ← iI_of]
/-- what 'end' finds -/
theorem sEndS_spec (τ : Mem) (s : Int32) (C : Nat → Bool) (p q r : Int32) (g : Bool) : ∀ n,
    ((sEndS τ s C p q r g n).2 = true ∧ (sEndS τ s C p q r g n).1 = 0 ∧ ∀ k, k < n → ¬ (τ 1 k == s && C k) = true) ∨
    ((sEndS τ s C p q r g n).2 = false ∧ (∃ k, k < n ∧ (τ 1 k == s && C k) = true ∧ (sEndS τ s C p q r g n).1 = sHgt k p q r) ∧
      ∀ k, k < n → (τ 1 k == s && C k) = true → if g = true then sHgt k p q r ≤ (sEndS τ s C p q r g n).1 else (sEndS τ s C p q r g n).1 ≤ sHgt k p q r) := by
  intro n
  induction n with
  | zero => left; exact ⟨rfl, rfl, fun k h => absurd h (by omega)⟩
  | succ n ih =>
    rw [sEndS]
    by_cases hc : (τ 1 n == s && C n) = true
    · rw [if_pos hc]
      right
      rcases ih with ⟨h1, h2, h3⟩ | ⟨h1, ⟨k0, hk0, hk1, hk2⟩, h3⟩
      · rw [if_pos (by rw [h1]; rfl)]
        refine ⟨rfl, ⟨n, by omega, hc, rfl⟩, fun k hk hkc => ?_⟩
        rcases Nat.lt_or_ge k n with hlt | hge
        · exact absurd hkc (h3 k hlt)
        · obtain rfl : k = n := by omega
          cases g <;> simp
      · by_cases hd : ((sEndS τ s C p q r g n).2 || (decide ((sEndS τ s C p q r g n).1 < sHgt n p q r) == g)) = true
        · rw [if_pos hd]
          refine ⟨rfl, ⟨n, by omega, hc, rfl⟩, fun k hk hkc => ?_⟩
          rcases Nat.lt_or_ge k n with hlt | hge
          · have h4 := h3 k hlt hkc
            rw [h1, Bool.false_or] at hd
            cases g
            · simp only [beq_iff_eq, decide_eq_false_iff_not] at hd
              simp only [Bool.false_eq_true, if_false] at h4 ⊢
              exact Int32.le_trans (Int32.not_lt.mp hd) h4
            · simp only [beq_iff_eq, decide_eq_true_eq] at hd
              simp only [if_true] at h4 ⊢
              exact Int32.le_trans h4 (Int32.le_of_lt hd)
          · obtain rfl : k = n := by omega
            cases g <;> simp
        · rw [if_neg hd]
          refine ⟨rfl, ⟨k0, by omega, hk1, hk2⟩, fun k hk hkc => ?_⟩
          rcases Nat.lt_or_ge k n with hlt | hge
          · exact h3 k hlt hkc
          · obtain rfl : k = n := by omega
            rw [h1, Bool.false_or] at hd
            cases g
            · simp only [beq_iff_eq, decide_eq_false_iff_not, Decidable.not_not] at hd
              simp only [Bool.false_eq_true, if_false]
              exact Int32.le_of_lt hd
            · simp only [beq_iff_eq, decide_eq_true_eq] at hd
              simp only [if_true]
              exact Int32.not_lt.mp hd
    · rw [if_neg hc]
      rcases ih with ⟨h1, h2, h3⟩ | ⟨h1, ⟨k0, hk0, hk1, hk2⟩, h3⟩
      · left
        refine ⟨h1, h2, fun k hk => ?_⟩
        rcases Nat.lt_or_ge k n with hlt | hge
        · exact h3 k hlt
        · obtain rfl : k = n := by omega
          exact hc
      · right
        refine ⟨h1, ⟨k0, by omega, hk1, hk2⟩, fun k hk hkc => ?_⟩
        rcases Nat.lt_or_ge k n with hlt | hge
        · exact h3 k hlt hkc
        · obtain rfl : k = n := by omega
          exact absurd hkc hc
/-- the ends of a stone of which something is left -/
theorem sEnd_rng {τ : Mem} {s : Int32} {p q r : Int32} (hw : ¬ nI (sWt τ s) = 0) (hp : -3 ≤ p.toInt ∧ p.toInt ≤ 3) (hq : -3 ≤ q.toInt ∧ q.toInt ≤ 3) (hr : -3 ≤ r.toInt ∧ r.toInt ≤ 3) :
    -81 ≤ (sEnd τ s none p q r false).toInt ∧ (sEnd τ s none p q r true).toInt ≤ 81 ∧ (sEnd τ s none p q r false).toInt ≤ (sEnd τ s none p q r true).toInt := by
  have hpos : 0 < sWt τ s := by
    rcases Nat.eq_zero_or_pos (sWt τ s) with h | h
    · exact absurd (by rw [h]; exact nI_0) hw
    · exact h
  obtain ⟨k1, hk1, hk2⟩ := (cnt_pos 1000).mp hpos
  have hk3 : (τ 1 k1 == s && sEC τ none k1) = true := by simpa [sEC, pWt] using hk2
  rcases sEndS_spec τ s (sEC τ none) p q r false 1000 with ⟨-, -, h⟩ | ⟨-, ⟨a, ha1, ha2, ha3⟩, ha4⟩
  · exact absurd hk3 (h k1 hk1)
  · rcases sEndS_spec τ s (sEC τ none) p q r true 1000 with ⟨-, -, h⟩ | ⟨-, ⟨b, hb1, hb2, hb3⟩, hb4⟩
    · exact absurd hk3 (h k1 hk1)
    · have e1 : sEnd τ s none p q r false = iI (zHgt a p.toInt q.toInt r.toInt) := by unfold sEnd; rw [ha3, sHgt_z]
      have e2 : sEnd τ s none p q r true = iI (zHgt b p.toInt q.toInt r.toInt) := by unfold sEnd; rw [hb3, sHgt_z]
      have ra := zHgt_rng ha1 hp hq hr
      have rb := zHgt_rng hb1 hp hq hr
      have h5 := ha4 b hb1 hb2
      simp only [Bool.false_eq_true, if_false] at h5
      rw [ha3, sHgt_z, sHgt_z, iI_le (by omega) (by omega)] at h5
      rw [e1, e2, iI_toInt (by omega) (by omega), iI_toInt (by omega) (by omega)]
      omega
/-- two memories that differ behind the kept planes alone -/
def Qe (τ τ' : Mem) : Prop := (∀ i, i < 3 → τ' i = τ i) ∧ τ' 4 = τ 4 ∧ ∀ s k w, s < 8 → k < nP τ s → w < 5 → sPl τ' s k w = sPl τ s k w
theorem Qe.rf (τ : Mem) : Qe τ τ := ⟨fun _ _ => rfl, rfl, fun _ _ _ _ _ _ => rfl⟩
theorem Qe_nP {τ τ' : Mem} (h : Qe τ τ') (s : Nat) : nP τ' s = nP τ s := congrArg (fun f => (f s).toNatClampNeg) h.2.1
theorem Qe_tr {a b c : Mem} (h1 : Qe a b) (h2 : Qe b c) : Qe a c :=
  ⟨fun i hi => (h2.1 i hi).trans (h1.1 i hi), h2.2.1.trans h1.2.1, fun s k w hs hk hw => (h2.2.2 s k w hs (by rw [Qe_nP h1]; exact hk) hw).trans (h1.2.2 s k w hs hk hw)⟩
section QE
variable {τ τ' : Mem}
theorem Qe_nF (h : Qe τ τ') : nF τ' = nF τ := congrArg (fun f => (f 5).toNatClampNeg) (h.1 0 (by decide))
theorem Qe_nS (h : Qe τ τ') : nS τ' = nS τ := congrArg (fun f => (f 7).toNatClampNeg) (h.1 0 (by decide))
theorem Qe_0 (h : Qe τ τ') : τ' 0 = τ 0 := h.1 0 (by decide)
theorem Qe_1 (h : Qe τ τ') : τ' 1 = τ 1 := h.1 1 (by decide)
theorem Qe_2 (h : Qe τ τ') : τ' 2 = τ 2 := h.1 2 (by decide)
theorem Qe_Cell (h : Qe τ τ') : sCell τ' = sCell τ := by funext x y z; simp only [sCell, Qe_0 h]
theorem Qe_Of (h : Qe τ τ') : sOf τ' = sOf τ := by funext x y z s; simp only [sOf, Qe_1 h, Qe_Cell h]
theorem Qe_Surf (h : Qe τ τ') : sSurf τ' = sSurf τ := by funext k; simp only [sSurf, Qe_1 h, Qe_Of h]
theorem Qe_Flawed (h : Qe τ τ') : sFlawed τ' = sFlawed τ := by funext f k; simp only [sFlawed, sFl, Qe_2 h]; rfl
theorem Qe_Wt (h : Qe τ τ') : sWt τ' = sWt τ := by funext s; simp only [sWt, Qe_1 h]
theorem Qe_pFc (h : Qe τ τ') : pFc τ' = pFc τ := by funext f s op k; simp only [pFc, Qe_1 h, Qe_Surf h, Qe_Flawed h]
theorem Qe_Fc (h : Qe τ τ') : sFc τ' = sFc τ := by funext f s op; simp only [sFc, Qe_pFc h]
theorem Qe_Ft (h : Qe τ τ') : sFt τ' = sFt τ := by funext f s w; simp only [sFt, Qe_Fc h]
theorem Qe_pTurn (h : Qe τ τ') : pTurn τ' = pTurn τ := by funext s p q r d k; simp only [pTurn, Qe_1 h]
theorem Qe_Turn (h : Qe τ τ') : sTurn τ' = sTurn τ := by funext s p q r d; simp only [sTurn, Qe_pTurn h]
theorem Qe_Fin (h : Qe τ τ') : sFin τ' = sFin τ := by
  funext s how
  have : pFin τ' = pFin τ := by funext a b f; simp only [pFin, Qe_Ft h]
  simp only [sFin, this, Qe_nF h]
theorem Qe_Pts (h : Qe τ τ') : sPts τ' = sPts τ := by
  funext s
  have h2 : sFl τ' = sFl τ := by funext f w; simp only [sFl, Qe_2 h]
  simp only [sPts, Qe_Ft h, h2]
theorem Qe_Touch (h : Qe τ τ') {s k : Nat} (hs : s < 8) (hk : k < nP τ s) : sTouch τ' s k = sTouch τ s k := by
  have e : pTouch τ' s k = pTouch τ s k := by
    funext c
    simp only [pTouch, sMost, Qe_1 h, h.2.2 s k 0 hs hk (by decide), h.2.2 s k 1 hs hk (by decide), h.2.2 s k 2 hs hk (by decide), h.2.2 s k 3 hs hk (by decide)]
    rfl
  simp only [sTouch, e]
theorem Qe_Facet (h : Qe τ τ') {s k : Nat} (hs : s < 8) (hk : k < nP τ s) : sFacet τ' s k = sFacet τ s k := by simp only [sFacet, Qe_Touch h hs hk]
theorem Qe_Facets (h : Qe τ τ') {s : Nat} (hs : s < 8) (po : Bool) : sFacets τ' s po = sFacets τ s po := by
  unfold sFacets
  rw [Qe_nP h]
  exact cnt_congr _ (fun k hk => by simp only [pFacets, Qe_Facet h hs hk, h.2.2 s k 4 hs hk (by decide)])
theorem sumN_congr {f g : Nat → Nat} : ∀ n, (∀ k, k < n → f k = g k) → sumN f n = sumN g n := by
  intro n
  induction n with
  | zero => intro _; rfl
  | succ n ih => intro h; simp only [sumN, ih (fun k hk => h k (by omega)), h n (by omega)]
theorem sumI_congr {f g : Nat → Int32} : ∀ n, (∀ k, k < n → f k = g k) → sumI f n = sumI g n := by
  intro n
  induction n with
  | zero => intro _; rfl
  | succ n ih => intro h; simp only [sumI, ih (fun k hk => h k (by omega)), h n (by omega)]
theorem Qe_Opp (h : Qe τ τ') {s a b : Nat} (hs : s < 8) (ha : a < nP τ s) (hb : b < nP τ s) : sOpp τ' s a b 3 = sOpp τ s a b 3 := by
  simp only [sOpp, allB, h.2.2 s a 0 hs ha (by decide), h.2.2 s a 1 hs ha (by decide), h.2.2 s a 2 hs ha (by decide), h.2.2 s b 0 hs hb (by decide), h.2.2 s b 1 hs hb (by decide), h.2.2 s b 2 hs hb (by decide)]
theorem Qe_Pairs (h : Qe τ τ') {s : Nat} (hs : s < 8) : sPairs τ' s = sPairs τ s := by
  unfold sPairs
  rw [Qe_nP h]
  exact sumN_congr _ (fun a ha => cnt_congr _ (fun b hb => by simp only [pPair, Qe_Opp h hs ha (show b < nP τ s by omega), Qe_Facet h hs ha, Qe_Facet h hs (show b < nP τ s by omega)]))
theorem Qe_Worth (h : Qe τ τ') {s : Nat} (hs : s < 8) : sWorth τ' s = sWorth τ s := by
  simp only [sWorth, Qe_Wt h, Qe_Pts h, Qe_nF h, Qe_Facets h hs, Qe_Pairs h hs]
theorem Qe_Prod (h : Qe τ τ') {s a b : Nat} (hs : s < 8) (ha : a < nP τ s) (hb : b < nP τ s) : sProd τ' s a b = sProd τ s a b := by
  unfold sProd
  exact sumI_congr _ (fun w hw => by rw [h.2.2 s a w hs ha (by omega), h.2.2 s b w hs hb (by omega)])
theorem Qe_MI (h : Qe τ τ') (hM : MI τ) : MI τ' := by
  unfold MI at hM ⊢
  rw [Qe_0 h, h.2.1]
  exact hM
theorem Qe_NM (h : Qe τ τ') (hN : NM τ) : NM τ' := fun k hk => by rw [Qe_1 h]; exact hN k hk
theorem Qe_M16 (h : Qe τ τ') (h6 : M16 τ) : M16 τ' := fun s hs => by rw [Qe_nP h]; exact h6 s hs
theorem Qe_EndS (h : Qe τ τ') (s : Int32) (C : Nat → Bool) (p q r : Int32) (g : Bool) : sEndS τ' s C p q r g = sEndS τ s C p q r g := by
  funext n
  induction n with
  | zero => rfl
  | succ n ih => rw [sEndS, sEndS, ih, Qe_1 h]
theorem Qe_End (h : Qe τ τ') (s : Int32) (o : Option Nat) (p q r : Int32) (g : Bool) : sEnd τ' s o p q r g = sEnd τ s o p q r g := by
  have e : sEC τ' o = sEC τ o := by funext k; cases o <;> simp only [sEC, Qe_Flawed h]
  unfold sEnd
  rw [e, Qe_EndS h]
theorem Qe_turn (h : Qe τ τ') (s p q r d t : Int32) (n : Nat) : Qe (gTurn τ s p q r d t n) (gTurn τ' s p q r d t n) := by
  refine ⟨fun i hi => ?_, ?_, fun s2 k w hs hk hw => ?_⟩
  · funext k
    simp only [gTurn, Qe_pTurn h, h.1 i hi]
  · funext k
    simp [gTurn, h.2.1]
  · have := h.2.2 s2 k w hs (by rw [nP_turn] at hk; exact hk) hw
    simpa [sPl, gTurn] using this
theorem slot_in {s2 k w s n : Nat} (hk : k < 17) (hn : n < 17) (hw : w < 5) : (5 * (17 * s + n) ≤ 5 * (17 * s2 + k) + w ∧ 5 * (17 * s2 + k) + w < 5 * (17 * s + n) + 5) ↔ (s2 = s ∧ k = n) := by
  constructor
  · rintro ⟨h1, h2⟩
    have : 17 * s + n = 17 * s2 + k := by omega
    omega
  · rintro ⟨rfl, rfl⟩
    omega
theorem nP_put (τ : Mem) (s : Nat) (p q r d : Int32) (s2 : Nat) : nP (gPut τ s p q r d) s2 = if s2 = s then (τ 4 s + 1).toNatClampNeg else nP τ s2 := by
  unfold nP gPut
  by_cases h : s2 = s
  · subst h; simp
  · simp [h]
theorem nP_put' {τ : Mem} {s : Nat} (h : τ 4 s = nI (nP τ s)) (hp : nP τ s ≤ 16) (p q r d : Int32) : nP (gPut τ s p q r d) s = nP τ s + 1 := by
  rw [nP_put, if_pos rfl, h, nI_1]
  exact nI_clamp (by omega)
theorem sPl_put {τ : Mem} {s : Nat} (hp : nP τ s ≤ 16) (p q r d : Int32) {s2 k w : Nat} (hk : k < 17) (hw : w < 5) : sPl (gPut τ s p q r d) s2 k w = if s2 = s ∧ k = nP τ s then gRow5 p q r d 0 w else sPl τ s2 k w := by
  unfold sPl gPut
  rw [if_pos rfl]
  by_cases h : s2 = s ∧ k = nP τ s
  · rw [if_pos h, if_pos ((slot_in hk (by omega) hw).mpr h)]
    obtain ⟨rfl, rfl⟩ := h
    congr 1
    omega
  · rw [if_neg h, if_neg (fun hh => h ((slot_in hk (by omega) hw).mp hh))]
theorem Qe_put (h : Qe τ τ') {s : Nat} (hm : τ 4 s = nI (nP τ s)) (h6 : M16 τ) (hs : s < 8) (p q r d : Int32) : Qe (gPut τ s p q r d) (gPut τ' s p q r d) := by
  have hp := h6 s hs
  refine ⟨fun i hi => ?_, ?_, fun s2 k w hs2 hk hw => ?_⟩
  · funext j
    simp [gPut, show ¬ i = 3 by omega, show ¬ i = 4 by omega, h.1 i hi]
  · funext j
    simp [gPut, h.2.1]
  · by_cases e : s2 = s
    · subst e
      rw [nP_put' hm hp] at hk
      rw [sPl_put (by rw [Qe_nP h]; exact hp) p q r d (by omega) hw, sPl_put hp p q r d (by omega) hw, Qe_nP h]
      by_cases e2 : k = nP τ s2
      · rw [if_pos ⟨rfl, e2⟩, if_pos ⟨rfl, e2⟩]
      · rw [if_neg (fun hh => e2 hh.2), if_neg (fun hh => e2 hh.2)]
        exact h.2.2 s2 k w hs2 (by omega) hw
    · rw [nP_put, if_neg e] at hk
      have h7 := h6 s2 hs2
      rw [sPl_put (by rw [Qe_nP h]; exact hp) p q r d (by omega) hw, sPl_put hp p q r d (by omega) hw, if_neg (fun hh => e hh.1), if_neg (fun hh => e hh.1)]
      exact h.2.2 s2 k w hs2 hk hw
theorem Qe_mark (h : Qe τ τ') (hM : MI τ) (h6 : M16 τ) {s : Nat} (hs : s < 8) (p q r d : Int32) : Qe (gMark τ s p q r d) (gMark τ' s p q r d) := by
  refine Qe_put (Qe_turn h _ _ _ _ _ _ _) ?_ (fun a ha => by rw [nP_turn]; exact h6 a ha) hs p q r d
  have := (MI_P (MI_turn hM (nI s) p q r d (-2) 1000) hs).1
  exact this
theorem nP_mark {τ : Mem} (hM : MI τ) (h6 : M16 τ) {s : Nat} (hs : s < 8) (p q r d : Int32) : nP (gMark τ s p q r d) s = nP τ s + 1 := by
  unfold gMark
  rw [nP_put' ((MI_P (MI_turn hM (nI s) p q r d (-2) 1000) hs).1) (by rw [nP_turn]; exact h6 s hs), nP_turn]
theorem Qe_Look (h : Qe τ τ') (hM : MI τ) (h6 : M16 τ) {s : Nat} (hs : s < 8) (p q r d : Int32) (w : Nat) : sLook τ' s p q r d w = sLook τ s p q r d w := by
  have hm := Qe_mark h hM h6 hs p q r d
  simp only [sLook, Qe_Turn h, Qe_Worth hm hs, Qe_Fin hm, Qe_Pairs hm hs]
theorem Qe_look {τ : Mem} (h6 : M16 τ) {s : Nat} (hs : s < 8) (p q r d : Int32) : Qe τ (gLook τ s p q r d) := by
  have hp := h6 s hs
  refine ⟨fun i hi => ?_, ?_, fun s2 k w hs2 hk hw => ?_⟩
  · funext j; simp [gLook, show ¬ i = 3 by omega]
  · funext j; simp [gLook]
  · have h7 := h6 s2 hs2
    unfold sPl gLook
    rw [if_neg]
    rintro ⟨-, h1⟩
    obtain ⟨rfl, h2⟩ := (slot_in (by omega) (by omega) hw).mp h1
    omega
end QE
/-- the best depth, among the first ones from the lowest on; the worth that it leaves -/
def sDepS (τ : Mem) (s : Nat) (p q r lo : Int32) : Nat → Int32 × Int32
  | 0 => (lo, -1)
  | i + 1 => if sLook τ s p q r (lo + nI i) 1 < (sDepS τ s p q r lo i).2 then sDepS τ s p q r lo i else (lo + nI i, sLook τ s p q r (lo + nI i) 1)
def sLo (τ : Mem) (s : Nat) (p q r : Int32) : Int32 := sEnd τ (nI s) none p q r false
def sHi (τ : Mem) (s : Nat) (p q r : Int32) : Int32 := sEnd τ (nI s) none p q r true
def sDep (τ : Mem) (s : Nat) (p q r : Int32) : Int32 := (sDepS τ s p q r (sLo τ s p q r) ((sHi τ s p q r).toInt - (sLo τ s p q r).toInt + 1).toNat).1
def mDepth (τ : Mem) (s p q r : Int32) : Int32 × Mem :=
  if sStone (mTh τ) s = true then (if sTilt p q r 0 = true then (if nI (sWt (mTh τ) s) = 0 then mFail τ 3 else (sDep (mTh τ) (tn s) p q r, mTh τ)) else mFail τ 2) else mFail τ 1
theorem add_rng {x : Int32} {i : Nat} (h1 : -81 ≤ x.toInt) (h2 : x.toInt ≤ 81) (h3 : i ≤ 1000) : (x + nI i).toInt = x.toInt + i := by
  conv => lhs; rw [iI_of x, nI_iI, iI_add]
  exact iI_toInt (by omega) (by omega)
