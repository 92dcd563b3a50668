/-! what the reference answers, in pure words -/
def b2i (b : Bool) : Int32 := if b then 1 else 0
theorem b2i_eq0 {b : Bool} : b2i b = 0 ↔ b = false := by cases b <;> simp [b2i]
theorem b2i_ne0 {b : Bool} : ¬ b2i b = 0 ↔ b = true := by cases b <;> simp [b2i]
theorem b2i_01 (b : Bool) : b2i b = 0 ∨ b2i b = 1 := by cases b <;> simp [b2i]
def cnt (P : Nat → Bool) : Nat → Nat
  | 0 => 0
  | n + 1 => cnt P n + (if P n then 1 else 0)
theorem cnt_t {P : Nat → Bool} {n : Nat} (h : P n = true) : cnt P (n + 1) = cnt P n + 1 := by simp [cnt, h]
theorem cnt_f {P : Nat → Bool} {n : Nat} (h : P n = false) : cnt P (n + 1) = cnt P n := by simp [cnt, h]
theorem cnt_le (P : Nat → Bool) : ∀ n, cnt P n ≤ n := by
  intro n
  induction n with
  | zero => simp [cnt]
  | succ n ih => simp only [cnt]; split <;> omega
theorem cnt_congr {P Q : Nat → Bool} : ∀ n, (∀ k, k < n → P k = Q k) → cnt P n = cnt Q n := by
  intro n
  induction n with
  | zero => intro _; rfl
  | succ n ih => intro h; simp only [cnt, ih (fun k hk => h k (by omega)), h n (by omega)]
theorem cnt_pos {P : Nat → Bool} : ∀ n, 0 < cnt P n ↔ ∃ k, k < n ∧ P k = true := by
  intro n
  induction n with
  | zero => simp [cnt]
  | succ n ih =>
    simp only [cnt]
    by_cases h : P n = true
    · simp only [h, if_true]
      exact ⟨fun _ => ⟨n, by omega, h⟩, fun _ => by omega⟩
    · rw [if_neg h, Nat.add_zero, ih]
      constructor
      · rintro ⟨k, h1, h2⟩; exact ⟨k, by omega, h2⟩
      · rintro ⟨k, h1, h2⟩
        rcases Nat.lt_or_ge k n with q | q
        · exact ⟨k, q, h2⟩
        · exact absurd (by rwa [show k = n by omega] at h2) h
def jabs (x : Int32) : Int32 := if 0 ≤ x then x else 0 - x
def jmax (x y : Int32) : Int32 := if x < y then y else x
def sIn (v lo hi : Int32) : Bool := decide (lo ≤ v) && decide (v ≤ hi)
def sCell (τ : Mem) (x y z : Int32) : Bool := sIn x 0 (τ 0 1 - 1) && sIn y 0 (τ 0 2 - 1) && sIn z 0 (τ 0 3 - 1)
def sAt (x y z : Int32) : Int32 := x + 10 * (y + 10 * z)
def sOf (τ : Mem) (x y z s : Int32) : Bool := sCell τ x y z && τ 1 (sAt x y z).toNatClampNeg == s
def sStone (τ : Mem) (s : Int32) : Bool := sIn s 0 (τ 0 7 - 1)
def sPlane (τ : Mem) (s k : Int32) : Bool := sStone τ s && sIn k 0 (τ 4 s.toNatClampNeg - 1)
def sPl (τ : Mem) (s k w : Nat) : Int32 := τ 3 (5 * (17 * s + k) + w)
def sFl (τ : Mem) (f w : Nat) : Int32 := τ 2 (5 * f + w)
def kx (k : Nat) : Int32 := nI (k % 10)
def ky (k : Nat) : Int32 := nI (k / 10 % 10)
def kz (k : Nat) : Int32 := nI (k / 100)
def sHgt (k : Nat) (p q r : Int32) : Int32 := p * kx k + q * ky k + r * kz k
theorem k_rem : ∀ k, k < 1000 → nI k - nI k / 10 * 10 = kx k := by decide +kernel
theorem k_divrem : ∀ k, k < 1000 → nI k / 10 - nI k / 10 / 10 * 10 = ky k := by decide +kernel
theorem k_divdiv : ∀ k, k < 1000 → nI k / 10 / 10 = kz k := by decide +kernel
def sSurf (τ : Mem) (k : Nat) : Bool := !(sOf τ (kx k - 1) (ky k) (kz k) (τ 1 k) && sOf τ (kx k + 1) (ky k) (kz k) (τ 1 k) && sOf τ (kx k) (ky k - 1) (kz k) (τ 1 k) && sOf τ (kx k) (ky k + 1) (kz k) (τ 1 k) && sOf τ (kx k) (ky k) (kz k - 1) (τ 1 k) && sOf τ (kx k) (ky k) (kz k + 1) (τ 1 k))
def sFlawed (τ : Mem) (f k : Nat) : Bool := decide (jabs (kx k - sFl τ f 0) + jabs (ky k - sFl τ f 1) + jabs (kz k - sFl τ f 2) ≤ sFl τ f 3)
def sWt (τ : Mem) (s : Int32) : Nat := cnt (fun k => τ 1 k == s) 1000
/-- the sizes that the rows hold, and bounds by which no index leaves its row -/
def MI (τ : Mem) : Prop := (∃ c, 1 ≤ c ∧ c ≤ 10 ∧ τ 0 1 = nI c) ∧ (∃ c, 1 ≤ c ∧ c ≤ 10 ∧ τ 0 2 = nI c) ∧ (∃ c, 1 ≤ c ∧ c ≤ 10 ∧ τ 0 3 = nI c) ∧ (∃ f, f ≤ 10 ∧ τ 0 5 = nI f) ∧ (∃ s, 1 ≤ s ∧ s ≤ 8 ∧ τ 0 7 = nI s) ∧ ∀ s, s < 8 → ∃ m, m ≤ 17 ∧ τ 4 s = nI m
theorem nI_inj {a b : Nat} (ha : a < 2 ^ 31) (hb : b < 2 ^ 31) (h : nI a = nI b) : a = b := (nI_eq ha hb).mp h
theorem nI_sub1 (a : Nat) (h : 1 ≤ a) : nI a - 1 = nI (a - 1) := by
  obtain ⟨b, rfl⟩ : ∃ b, a = b + 1 := ⟨a - 1, by omega⟩
  rw [Nat.add_sub_cancel]
  exact nI_pred b
/-- what a range test says -/
theorem sIn_nI {v : Int32} {n : Nat} (hn : 1 ≤ n) (hn2 : n < 2 ^ 31) : sIn v 0 (nI n - 1) = true ↔ ∃ j, j < n ∧ v = nI j := by
  unfold sIn
  rw [Bool.and_eq_true, decide_eq_true_iff, decide_eq_true_iff, nI_sub1 n hn]
  constructor
  · rintro ⟨h1, h2⟩
    obtain ⟨j, hj, rfl⟩ := nI_of (x := v) (by rw [Int32.lt_iff_toInt_lt]; rw [Int32.le_iff_toInt_le] at h1; exact Int.not_lt.mpr h1)
    exact ⟨j, by have := (nI_leI hj (by omega)).mp h2; omega, rfl⟩
  · rintro ⟨j, hj, rfl⟩
    exact ⟨nI_pos' (by omega), nI_le (by omega) (by omega)⟩
theorem nI_mul' (a b : Nat) : nI a * nI b = nI (a * b) := by unfold nI; exact (Int32.ofNat_mul a b).symm
theorem sAt_nI (x y z : Nat) : sAt (nI x) (nI y) (nI z) = nI (x + 10 * (y + 10 * z)) := by
  unfold sAt
  rw [show (10 : Int32) = nI 10 by decide, nI_mul', nI_add, nI_mul', nI_add]
theorem sCell_nI {τ : Mem} {x y z : Int32} (hM : MI τ) (h : sCell τ x y z = true) : ∃ a b c : Nat, a < 10 ∧ b < 10 ∧ c < 10 ∧ x = nI a ∧ y = nI b ∧ z = nI c := by
  obtain ⟨⟨c1, a1, a2, a3⟩, ⟨c2, b1, b2, b3⟩, ⟨c3, d1, d2, d3⟩, -⟩ := hM
  simp only [sCell, Bool.and_eq_true, a3, b3, d3] at h
  obtain ⟨⟨h1, h2⟩, h3⟩ := h
  obtain ⟨j1, e1, f1⟩ := (sIn_nI a1 (by omega)).mp h1
  obtain ⟨j2, e2, f2⟩ := (sIn_nI b1 (by omega)).mp h2
  obtain ⟨j3, e3, f3⟩ := (sIn_nI d1 (by omega)).mp h3
  exact ⟨j1, j2, j3, by omega, by omega, by omega, f1, f2, f3⟩
theorem sStone_nI {τ : Mem} {s : Int32} (hM : MI τ) (h : sStone τ s = true) : ∃ j, j < 8 ∧ s = nI j := by
  obtain ⟨-, -, -, -, ⟨c, a1, a2, a3⟩, -⟩ := hM
  simp only [sStone, a3] at h
  obtain ⟨j, e1, f1⟩ := (sIn_nI a1 (by omega)).mp h
  exact ⟨j, by omega, f1⟩

set_option maxRecDepth 100000 in
set_option maxHeartbeats 4000000 in
/-- X6_thrown -/
theorem c_X6_thrown (l : Launch) : gMI wM l yX6_thrown (.code yX6_thrown cX6_thrown 1 (some FieldType.int)) 0 0 0 (fun A => [.ref (A 0)]) (fun τ => True) (fun τ rr τ1 => rr = τ 0 0 ∧ τ1 = τ) := by
  refine gMI_of (by decide) (fun A => Nat.le_of_ble_eq_true rfl) ?_
  intro X τ hC hP hE
  have hC : gOk wM l X cX6_thrown "GemCutModel" 0 0 0 := hC
  show G wM X 0 0 0 [some (.ref (gA X 0))] [] τ
  refine g_ald0 hC dX6_thrown_0 ?_
  refine mg_Model_thrown hC tw_4_22 dX6_thrown_1 ?_
  exact hE _ _ _ _ _ _ dX6_thrown_4 (Nat.le_refl _) (Nat.le_refl _) ⟨by rfl, rfl⟩
theorem k_X6_thrown {l : Launch} {X : gC} {cc : ByteArray} {own : String} {dd ca sa kc nc pc : Nat} {ls : List (Option Value)} {st : List Value} {σ : Mem} {idx : Nat}  (hC : gOk wM l X cc own dd ca sa) (hlk : Cond.methodLink own idx yX6_thrown ∈ TB) (hd : decode cc pc = .ok (.invokevirtual idx, 3)) (hdd : 0 + 1 ≤ dd) (hf : kc + 0 ≤ ca ∧ nc + 0 ≤ sa) (hrest : (st.map fun v => v.category).sum ≤ 8)   (kk : G wM X kc nc (pc + 3) ls (.int (σ 0 0) :: st) (σ)) : G wM X kc nc pc ls (.ref (gA X 0) :: st) σ := by
  exact g_cVI 0 hC (c_X6_thrown l) hlk ⟨tw_4_60, tw_4_61, tw_1_7, tw_4_62⟩ (by decide +kernel) ⟨hdd, by decide⟩ hf rfl rfl rfl (gW_at wM _ _ (by decide)) hrest rfl hd trivial (fun rr σ1 hq => by obtain ⟨rfl, rfl⟩ := hq; exact kk)
set_option maxRecDepth 100000 in
set_option maxHeartbeats 4000000 in
/-- X6_fail -/
theorem c_X6_fail (l : Launch) (v : Int32) : gMI wM l yX6_fail (.code yX6_fail cX6_fail 2 (some FieldType.int)) 0 0 0 (fun A => [.ref (A 0), .int v]) (fun τ => True) (fun τ rr τ1 => rr = 0 ∧ τ1 = upd2 τ 0 0 v) := by
  refine gMI_of (by decide) (fun A => Nat.le_of_ble_eq_true rfl) ?_
  intro X τ hC hP hE
  have hC : gOk wM l X cX6_fail "GemCutModel" 0 0 0 := hC
  show G wM X 0 0 0 [some (.ref (gA X 0)), some (.int v)] [] τ
  refine g_ald0 hC dX6_fail_0 ?_
  refine g_ild1 hC dX6_fail_1 ?_
  refine mp_Model_thrown hC tw_4_22 dX6_fail_2 ?_
  refine g_iconst 0 hC dX6_fail_5 (by decide) ?_
  exact hE _ _ _ _ _ _ dX6_fail_6 (Nat.le_refl _) (Nat.le_refl _) ⟨rfl, rfl⟩
theorem k_X6_fail {l : Launch} {X : gC} {cc : ByteArray} {own : String} {dd ca sa kc nc pc : Nat} {ls : List (Option Value)} {st : List Value} {σ : Mem} {idx : Nat} {v : Int32} (hC : gOk wM l X cc own dd ca sa) (hlk : Cond.methodLink own idx yX6_fail ∈ TB) (hd : decode cc pc = .ok (.invokevirtual idx, 3)) (hdd : 0 + 1 ≤ dd) (hf : kc + 0 ≤ ca ∧ nc + 0 ≤ sa) (hrest : (st.map fun v => v.category).sum ≤ 8)   (kk : G wM X kc nc (pc + 3) ls (.int (0) :: st) (upd2 σ 0 0 v)) : G wM X kc nc pc ls (.int v :: .ref (gA X 0) :: st) σ := by
  exact g_cVI 1 hC (c_X6_fail l v) hlk ⟨tw_4_69, tws_2_9, tw_1_7, tw_4_70⟩ (by decide +kernel) ⟨hdd, by decide⟩ hf rfl rfl rfl (gW_at wM _ _ (by decide)) hrest rfl hd trivial (fun rr σ1 hq => by obtain ⟨rfl, rfl⟩ := hq; exact kk)
set_option maxRecDepth 100000 in
set_option maxHeartbeats 4000000 in
/-- X6_isIn -/
theorem c_X6_isIn (l : Launch) (v lo hi : Int32) : gMZ wM l yX6_isIn (.code yX6_isIn cX6_isIn 3 (some FieldType.boolean)) 0 0 0 (fun A => [.int v, .int lo, .int hi]) (fun τ => True) (fun τ rr τ1 => rr = b2i (sIn v lo hi) ∧ τ1 = τ) := by
  refine gMZ_of (by decide) (fun A => Nat.le_of_ble_eq_true rfl) ?_
  intro X τ hC hP hE
  have hC : gOk wM l X cX6_isIn "GemCutModel" 0 0 0 := hC
  show G wM X 0 0 0 [some (.int v), some (.int lo), some (.int hi)] [] τ
  refine g_ild0 hC dX6_isIn_0 ?_
  refine g_ild1 hC dX6_isIn_1 ?_
  refine g_icmp_lt 14 hC dX6_isIn_2 (by decide) (fun c2 => ?_) (fun c2 => ?_)
  · refine g_iconst 0 hC dX6_isIn_14 (by decide) ?_
    exact hE _ _ _ _ _ _ dX6_isIn_15 (Nat.le_refl _) (Nat.le_refl _) (by first | exact Or.inl rfl | exact Or.inr rfl | exact b2i_01 _) ⟨by simp [sIn, b2i, ← Int32.not_lt, c2], rfl⟩
  · refine g_ild0 hC dX6_isIn_5 ?_
    refine g_ild2 hC dX6_isIn_6 ?_
    refine g_icmp_gt 14 hC dX6_isIn_7 (by decide) (fun c7 => ?_) (fun c7 => ?_)
    · refine g_iconst 0 hC dX6_isIn_14 (by decide) ?_
      exact hE _ _ _ _ _ _ dX6_isIn_15 (Nat.le_refl _) (Nat.le_refl _) (by first | exact Or.inl rfl | exact Or.inr rfl | exact b2i_01 _) ⟨by simp [sIn, b2i, ← Int32.not_lt, c2, c7], rfl⟩
    · refine g_iconst 1 hC dX6_isIn_10 (by decide) ?_
      refine g_goto 15 hC dX6_isIn_11 (by decide) ?_
      exact hE _ _ _ _ _ _ dX6_isIn_15 (Nat.le_refl _) (Nat.le_refl _) (by first | exact Or.inl rfl | exact Or.inr rfl | exact b2i_01 _) ⟨by simp [sIn, b2i, ← Int32.not_lt, c2, c7], rfl⟩
theorem k_X6_isIn {l : Launch} {X : gC} {cc : ByteArray} {own : String} {dd ca sa kc nc pc : Nat} {ls : List (Option Value)} {st : List Value} {σ : Mem} {idx : Nat} {v lo hi : Int32} (hC : gOk wM l X cc own dd ca sa) (hlk : Cond.methodLink own idx yX6_isIn ∈ TB) (hd : decode cc pc = .ok (.invokestatic idx, 3)) (hdd : 0 + 1 ≤ dd) (hf : kc + 0 ≤ ca ∧ nc + 0 ≤ sa) (hrest : (st.map fun v => v.category).sum ≤ 8)  (kk : G wM X kc nc (pc + 3) ls (.int (b2i (sIn v lo hi)) :: st) (σ)) : G wM X kc nc pc ls (.int hi :: .int lo :: .int v :: st) σ := by
  exact g_cSZ 3 hC (c_X6_isIn l v lo hi) hlk ⟨tw_4_20, tw_1_7, tw_4_21⟩ (by decide +kernel) ⟨hdd, by decide⟩ hf rfl rfl hrest rfl hd trivial (fun rr σ1 hq => by obtain ⟨rfl, rfl⟩ := hq; exact kk)
set_option maxRecDepth 100000 in
set_option maxHeartbeats 4000000 in
/-- X6_at -/
theorem c_X6_at (l : Launch) (x y z : Int32) : gMI wM l yX6_at (.code yX6_at cX6_at 3 (some FieldType.int)) 0 0 0 (fun A => [.int x, .int y, .int z]) (fun τ => True) (fun τ rr τ1 => rr = sAt x y z ∧ τ1 = τ) := by
  refine gMI_of (by decide) (fun A => Nat.le_of_ble_eq_true rfl) ?_
  intro X τ hC hP hE
  have hC : gOk wM l X cX6_at "GemCutModel" 0 0 0 := hC
  show G wM X 0 0 0 [some (.int x), some (.int y), some (.int z)] [] τ
  refine g_ild0 hC dX6_at_0 ?_
  refine g_bipush 10 hC dX6_at_1 (by decide) ?_
  refine g_ild1 hC dX6_at_3 ?_
  refine g_bipush 10 hC dX6_at_4 (by decide) ?_
  refine g_ild2 hC dX6_at_6 ?_
  refine g_imul hC dX6_at_7 ?_
  refine g_iadd hC dX6_at_8 ?_
  refine g_imul hC dX6_at_9 ?_
  refine g_iadd hC dX6_at_10 ?_
  exact hE _ _ _ _ _ _ dX6_at_11 (Nat.le_refl _) (Nat.le_refl _) ⟨by rfl, rfl⟩
theorem k_X6_at {l : Launch} {X : gC} {cc : ByteArray} {own : String} {dd ca sa kc nc pc : Nat} {ls : List (Option Value)} {st : List Value} {σ : Mem} {idx : Nat} {x y z : Int32} (hC : gOk wM l X cc own dd ca sa) (hlk : Cond.methodLink own idx yX6_at ∈ TB) (hd : decode cc pc = .ok (.invokestatic idx, 3)) (hdd : 0 + 1 ≤ dd) (hf : kc + 0 ≤ ca ∧ nc + 0 ≤ sa) (hrest : (st.map fun v => v.category).sum ≤ 8)  (kk : G wM X kc nc (pc + 3) ls (.int (sAt x y z) :: st) (σ)) : G wM X kc nc pc ls (.int z :: .int y :: .int x :: st) σ := by
  exact g_cSI 3 hC (c_X6_at l x y z) hlk ⟨tw_4_83, tw_1_7, tw_4_84⟩ (by decide +kernel) ⟨hdd, by decide⟩ hf rfl rfl hrest rfl hd trivial (fun rr σ1 hq => by obtain ⟨rfl, rfl⟩ := hq; exact kk)
set_option maxRecDepth 100000 in
set_option maxHeartbeats 4000000 in
/-- X6_isCell -/
theorem c_X6_isCell (l : Launch) (x y z : Int32) : gMZ wM l yX6_isCell (.code yX6_isCell cX6_isCell 4 (some FieldType.boolean)) 1 0 0 (fun A => [.ref (A 0), .int x, .int y, .int z]) (fun τ => True) (fun τ rr τ1 => rr = b2i (sCell τ x y z) ∧ τ1 = τ) := by
  refine gMZ_of (by decide) (fun A => Nat.le_of_ble_eq_true rfl) ?_
  intro X τ hC hP hE
  have hC : gOk wM l X cX6_isCell "GemCutModel" 1 0 0 := hC
  show G wM X 0 0 0 [some (.ref (gA X 0)), some (.int x), some (.int y), some (.int z)] [] τ
  refine g_ild1 hC dX6_isCell_0 ?_
  refine g_iconst 0 hC dX6_isCell_1 (by decide) ?_
  refine g_ald0 hC dX6_isCell_2 ?_
  refine mg_Model_columns hC tw_4_23 dX6_isCell_3 ?_
  refine g_iconst 1 hC dX6_isCell_6 (by decide) ?_
  refine g_isub hC dX6_isCell_7 ?_
  refine k_X6_isIn hC tw_4_19 dX6_isCell_8 (by decide) ⟨by omega, by omega⟩ (Nat.le_of_ble_eq_true rfl) ?_
  refine g_if_eq 46 hC dX6_isCell_11 (by decide) (fun c11 => ?_) (fun c11 => ?_)
  · refine g_iconst 0 hC dX6_isCell_46 (by decide) ?_
    exact hE _ _ _ _ _ _ dX6_isCell_47 (Nat.le_refl _) (Nat.le_refl _) (by first | exact Or.inl rfl | exact Or.inr rfl | exact b2i_01 _) ⟨by simp only [b2i_eq0, b2i_ne0] at c11; simp [sCell, b2i, c11], rfl⟩
  · refine g_ild2 hC dX6_isCell_14 ?_
    refine g_iconst 0 hC dX6_isCell_15 (by decide) ?_
    refine g_ald0 hC dX6_isCell_16 ?_
    refine mg_Model_rows hC tw_4_24 dX6_isCell_17 ?_
    refine g_iconst 1 hC dX6_isCell_20 (by decide) ?_
    refine g_isub hC dX6_isCell_21 ?_
    refine k_X6_isIn hC tw_4_19 dX6_isCell_22 (by decide) ⟨by omega, by omega⟩ (Nat.le_of_ble_eq_true rfl) ?_
    refine g_if_eq 46 hC dX6_isCell_25 (by decide) (fun c25 => ?_) (fun c25 => ?_)
    · refine g_iconst 0 hC dX6_isCell_46 (by decide) ?_
      exact hE _ _ _ _ _ _ dX6_isCell_47 (Nat.le_refl _) (Nat.le_refl _) (by first | exact Or.inl rfl | exact Or.inr rfl | exact b2i_01 _) ⟨by simp only [b2i_eq0, b2i_ne0] at c11 c25; simp [sCell, b2i, c11, c25], rfl⟩
    · refine g_ild3 hC dX6_isCell_28 ?_
      refine g_iconst 0 hC dX6_isCell_29 (by decide) ?_
      refine g_ald0 hC dX6_isCell_30 ?_
      refine mg_Model_layers hC tw_4_25 dX6_isCell_31 ?_
      refine g_iconst 1 hC dX6_isCell_34 (by decide) ?_
      refine g_isub hC dX6_isCell_35 ?_
      refine k_X6_isIn hC tw_4_19 dX6_isCell_36 (by decide) ⟨by omega, by omega⟩ (Nat.le_of_ble_eq_true rfl) ?_
      refine g_if_eq 46 hC dX6_isCell_39 (by decide) (fun c39 => ?_) (fun c39 => ?_)
      · refine g_iconst 0 hC dX6_isCell_46 (by decide) ?_
        exact hE _ _ _ _ _ _ dX6_isCell_47 (Nat.le_refl _) (Nat.le_refl _) (by first | exact Or.inl rfl | exact Or.inr rfl | exact b2i_01 _) ⟨by simp only [b2i_eq0, b2i_ne0] at c11 c25 c39; simp [sCell, b2i, c11, c25, c39], rfl⟩
      · refine g_iconst 1 hC dX6_isCell_42 (by decide) ?_
        refine g_goto 47 hC dX6_isCell_43 (by decide) ?_
        exact hE _ _ _ _ _ _ dX6_isCell_47 (Nat.le_refl _) (Nat.le_refl _) (by first | exact Or.inl rfl | exact Or.inr rfl | exact b2i_01 _) ⟨by simp only [b2i_eq0, b2i_ne0] at c11 c25 c39; simp [sCell, b2i, c11, c25, c39], rfl⟩
theorem k_X6_isCell {l : Launch} {X : gC} {cc : ByteArray} {own : String} {dd ca sa kc nc pc : Nat} {ls : List (Option Value)} {st : List Value} {σ : Mem} {idx : Nat} {x y z : Int32} (hC : gOk wM l X cc own dd ca sa) (hlk : Cond.methodLink own idx yX6_isCell ∈ TB) (hd : decode cc pc = .ok (.invokevirtual idx, 3)) (hdd : 1 + 1 ≤ dd) (hf : kc + 0 ≤ ca ∧ nc + 0 ≤ sa) (hrest : (st.map fun v => v.category).sum ≤ 8)   (kk : G wM X kc nc (pc + 3) ls (.int (b2i (sCell σ x y z)) :: st) (σ)) : G wM X kc nc pc ls (.int z :: .int y :: .int x :: .ref (gA X 0) :: st) σ := by
  exact g_cVZ 3 hC (c_X6_isCell l x y z) hlk ⟨tw_4_17, tws_2_8, tw_1_7, tw_4_18⟩ (by decide +kernel) ⟨hdd, by decide⟩ hf rfl rfl rfl (gW_at wM _ _ (by decide)) hrest rfl hd trivial (fun rr σ1 hq => by obtain ⟨rfl, rfl⟩ := hq; exact kk)
set_option maxRecDepth 100000 in
set_option maxHeartbeats 4000000 in
/-- X6_isStone -/
theorem c_X6_isStone (l : Launch) (s : Int32) : gMZ wM l yX6_isStone (.code yX6_isStone cX6_isStone 2 (some FieldType.boolean)) 1 0 0 (fun A => [.ref (A 0), .int s]) (fun τ => True) (fun τ rr τ1 => rr = b2i (sStone τ s) ∧ τ1 = τ) := by
  refine gMZ_of (by decide) (fun A => Nat.le_of_ble_eq_true rfl) ?_
  intro X τ hC hP hE
  have hC : gOk wM l X cX6_isStone "GemCutModel" 1 0 0 := hC
  show G wM X 0 0 0 [some (.ref (gA X 0)), some (.int s)] [] τ
  refine g_ild1 hC dX6_isStone_0 ?_
  refine g_iconst 0 hC dX6_isStone_1 (by decide) ?_
  refine g_ald0 hC dX6_isStone_2 ?_
  refine mg_Model_stones hC tw_4_29 dX6_isStone_3 ?_
  refine g_iconst 1 hC dX6_isStone_6 (by decide) ?_
  refine g_isub hC dX6_isStone_7 ?_
  refine k_X6_isIn hC tw_4_19 dX6_isStone_8 (by decide) ⟨by omega, by omega⟩ (Nat.le_of_ble_eq_true rfl) ?_
  exact hE _ _ _ _ _ _ dX6_isStone_11 (Nat.le_refl _) (Nat.le_refl _) (by first | exact Or.inl rfl | exact Or.inr rfl | exact b2i_01 _) ⟨by rfl, rfl⟩
theorem k_X6_isStone {l : Launch} {X : gC} {cc : ByteArray} {own : String} {dd ca sa kc nc pc : Nat} {ls : List (Option Value)} {st : List Value} {σ : Mem} {idx : Nat} {s : Int32} (hC : gOk wM l X cc own dd ca sa) (hlk : Cond.methodLink own idx yX6_isStone ∈ TB) (hd : decode cc pc = .ok (.invokevirtual idx, 3)) (hdd : 1 + 1 ≤ dd) (hf : kc + 0 ≤ ca ∧ nc + 0 ≤ sa) (hrest : (st.map fun v => v.category).sum ≤ 8)   (kk : G wM X kc nc (pc + 3) ls (.int (b2i (sStone σ s)) :: st) (σ)) : G wM X kc nc pc ls (.int s :: .ref (gA X 0) :: st) σ := by
  exact g_cVZ 1 hC (c_X6_isStone l s) hlk ⟨tw_4_91, tws_2_10, tw_1_7, tw_4_92⟩ (by decide +kernel) ⟨hdd, by decide⟩ hf rfl rfl rfl (gW_at wM _ _ (by decide)) hrest rfl hd trivial (fun rr σ1 hq => by obtain ⟨rfl, rfl⟩ := hq; exact kk)
set_option maxRecDepth 100000 in
set_option maxHeartbeats 4000000 in
/-- X6_isPlane -/
theorem c_X6_isPlane (l : Launch) (s k : Int32) : gMZ wM l yX6_isPlane (.code yX6_isPlane cX6_isPlane 3 (some FieldType.boolean)) 2 0 0 (fun A => [.ref (A 0), .int s, .int k]) (fun τ => MI τ) (fun τ rr τ1 => rr = b2i (sPlane τ s k) ∧ τ1 = τ) := by
  refine gMZ_of (by decide) (fun A => Nat.le_of_ble_eq_true rfl) ?_
  intro X τ hC hP hE
  have hC : gOk wM l X cX6_isPlane "GemCutModel" 2 0 0 := hC
  show G wM X 0 0 0 [some (.ref (gA X 0)), some (.int s), some (.int k)] [] τ
  refine g_ald0 hC dX6_isPlane_0 ?_
  refine g_ild1 hC dX6_isPlane_1 ?_
  refine k_X6_isStone hC tw_4_89 dX6_isPlane_2 (by decide) ⟨by omega, by omega⟩ (Nat.le_of_ble_eq_true rfl) ?_
  refine g_if_eq 28 hC dX6_isPlane_5 (by decide) (fun c5 => ?_) (fun c5 => ?_)
  · refine g_iconst 0 hC dX6_isPlane_28 (by decide) ?_
    exact hE _ _ _ _ _ _ dX6_isPlane_29 (Nat.le_refl _) (Nat.le_refl _) (by first | exact Or.inl rfl | exact Or.inr rfl | exact b2i_01 _) ⟨by simp only [b2i_eq0, b2i_ne0] at c5; simp [sPlane, b2i, c5], rfl⟩
  · simp only [b2i_ne0] at c5
    obtain ⟨s0, hs2, hs1⟩ := sStone_nI hP c5
    have hs3 : s.toNatClampNeg = s0 := by rw [hs1]; exact nI_clamp (by omega)
    subst hs3
    refine g_ild2 hC dX6_isPlane_8 ?_
    refine g_iconst 0 hC dX6_isPlane_9 (by decide) ?_
    refine g_ald0 hC dX6_isPlane_10 ?_
    refine mg_Model_many hC tw_4_31 dX6_isPlane_11 ?_
    refine g_ild1 hC dX6_isPlane_14 ?_
    refine ml_many _ hC hs1 hs2 dX6_isPlane_15 ?_
    refine g_iconst 1 hC dX6_isPlane_16 (by decide) ?_
    refine g_isub hC dX6_isPlane_17 ?_
    refine k_X6_isIn hC tw_4_19 dX6_isPlane_18 (by decide) ⟨by omega, by omega⟩ (Nat.le_of_ble_eq_true rfl) ?_
    refine g_if_eq 28 hC dX6_isPlane_21 (by decide) (fun c21 => ?_) (fun c21 => ?_)
    · refine g_iconst 0 hC dX6_isPlane_28 (by decide) ?_
      exact hE _ _ _ _ _ _ dX6_isPlane_29 (Nat.le_refl _) (Nat.le_refl _) (by first | exact Or.inl rfl | exact Or.inr rfl | exact b2i_01 _) ⟨by simp only [b2i_eq0, b2i_ne0] at c21; simp [sPlane, b2i, c5, c21], rfl⟩
    · refine g_iconst 1 hC dX6_isPlane_24 (by decide) ?_
      refine g_goto 29 hC dX6_isPlane_25 (by decide) ?_
      exact hE _ _ _ _ _ _ dX6_isPlane_29 (Nat.le_refl _) (Nat.le_refl _) (by first | exact Or.inl rfl | exact Or.inr rfl | exact b2i_01 _) ⟨by simp only [b2i_eq0, b2i_ne0] at c21; simp [sPlane, b2i, c5, c21], rfl⟩
theorem k_X6_isPlane {l : Launch} {X : gC} {cc : ByteArray} {own : String} {dd ca sa kc nc pc : Nat} {ls : List (Option Value)} {st : List Value} {σ : Mem} {idx : Nat} {s k : Int32} (hC : gOk wM l X cc own dd ca sa) (hlk : Cond.methodLink own idx yX6_isPlane ∈ TB) (hd : decode cc pc = .ok (.invokevirtual idx, 3)) (hdd : 2 + 1 ≤ dd) (hf : kc + 0 ≤ ca ∧ nc + 0 ≤ sa) (hrest : (st.map fun v => v.category).sum ≤ 8)  (hP : MI σ) (kk : G wM X kc nc (pc + 3) ls (.int (b2i (sPlane σ s k)) :: st) (σ)) : G wM X kc nc pc ls (.int k :: .int s :: .ref (gA X 0) :: st) σ := by
  exact g_cVZ 2 hC (c_X6_isPlane l s k) hlk ⟨tw_4_158, tws_3_6, tw_1_7, tw_4_159⟩ (by decide +kernel) ⟨hdd, by decide⟩ hf rfl rfl rfl (gW_at wM _ _ (by decide)) hrest rfl hd hP (fun rr σ1 hq => by obtain ⟨rfl, rfl⟩ := hq; exact kk)
set_option maxRecDepth 100000 in
set_option maxHeartbeats 4000000 in
/-- X6_pl -/
theorem c_X6_pl (l : Launch) (s k w : Nat) : gMI wM l yX6_pl (.code yX6_pl cX6_pl 4 (some FieldType.int)) 0 0 0 (fun A => [.ref (A 0), .int (nI s), .int (nI k), .int (nI w)]) (fun τ => s < 8 ∧ k < 17 ∧ w < 5) (fun τ rr τ1 => rr = sPl τ s k w ∧ τ1 = τ) := by
  refine gMI_of (by decide) (fun A => Nat.le_of_ble_eq_true rfl) ?_
  intro X τ hC hP hE
  have hC : gOk wM l X cX6_pl "GemCutModel" 0 0 0 := hC
  show G wM X 0 0 0 [some (.ref (gA X 0)), some (.int (nI s)), some (.int (nI k)), some (.int (nI w))] [] τ
  refine g_ald0 hC dX6_pl_0 ?_
  refine mg_Model_planeTable hC tw_4_30 dX6_pl_1 ?_
  refine g_iconst 5 hC dX6_pl_4 (by decide) ?_
  refine g_bipush 17 hC dX6_pl_5 (by decide) ?_
  refine g_ild1 hC dX6_pl_7 ?_
  refine g_imul hC dX6_pl_8 ?_
  refine g_ild2 hC dX6_pl_9 ?_
  refine g_iadd hC dX6_pl_10 ?_
  refine g_imul hC dX6_pl_11 ?_
  refine g_ild3 hC dX6_pl_12 ?_
  refine g_iadd hC dX6_pl_13 ?_
  refine ml_planeTable (5 * (17 * s + k) + w) hC (by rw [show (17 : Int32) = nI 17 by decide, show (5 : Int32) = nI 5 by decide, nI_mul', nI_add, nI_mul', nI_add]) (by omega) dX6_pl_14 ?_
  exact hE _ _ _ _ _ _ dX6_pl_15 (Nat.le_refl _) (Nat.le_refl _) ⟨by rfl, rfl⟩
theorem k_X6_pl {l : Launch} {X : gC} {cc : ByteArray} {own : String} {dd ca sa kc nc pc : Nat} {ls : List (Option Value)} {st : List Value} {σ : Mem} {idx : Nat} {s k w : Nat} (hC : gOk wM l X cc own dd ca sa) (hlk : Cond.methodLink own idx yX6_pl ∈ TB) (hd : decode cc pc = .ok (.invokevirtual idx, 3)) (hdd : 0 + 1 ≤ dd) (hf : kc + 0 ≤ ca ∧ nc + 0 ≤ sa) (hrest : (st.map fun v => v.category).sum ≤ 8)  (hP : s < 8 ∧ k < 17 ∧ w < 5) (kk : G wM X kc nc (pc + 3) ls (.int (sPl σ s k w) :: st) (σ)) : G wM X kc nc pc ls (.int (nI w) :: .int (nI k) :: .int (nI s) :: .ref (gA X 0) :: st) σ := by
  exact g_cVI 3 hC (c_X6_pl l s k w) hlk ⟨tw_4_166, tws_3_8, tw_1_7, tw_4_167⟩ (by decide +kernel) ⟨hdd, by decide⟩ hf rfl rfl rfl (gW_at wM _ _ (by decide)) hrest rfl hd hP (fun rr σ1 hq => by obtain ⟨rfl, rfl⟩ := hq; exact kk)
set_option maxRecDepth 100000 in
set_option maxHeartbeats 4000000 in
/-- X6_fl -/
theorem c_X6_fl (l : Launch) (f w : Nat) : gMI wM l yX6_fl (.code yX6_fl cX6_fl 3 (some FieldType.int)) 0 0 0 (fun A => [.ref (A 0), .int (nI f), .int (nI w)]) (fun τ => f < 10 ∧ w < 5) (fun τ rr τ1 => rr = sFl τ f w ∧ τ1 = τ) := by
  refine gMI_of (by decide) (fun A => Nat.le_of_ble_eq_true rfl) ?_
  intro X τ hC hP hE
  have hC : gOk wM l X cX6_fl "GemCutModel" 0 0 0 := hC
  show G wM X 0 0 0 [some (.ref (gA X 0)), some (.int (nI f)), some (.int (nI w))] [] τ
  refine g_ald0 hC dX6_fl_0 ?_
  refine mg_Model_flawTable hC tw_4_28 dX6_fl_1 ?_
  refine g_iconst 5 hC dX6_fl_4 (by decide) ?_
  refine g_ild1 hC dX6_fl_5 ?_
  refine g_imul hC dX6_fl_6 ?_
  refine g_ild2 hC dX6_fl_7 ?_
  refine g_iadd hC dX6_fl_8 ?_
  refine ml_flawTable (5 * f + w) hC (by rw [show (5 : Int32) = nI 5 by decide, nI_mul', nI_add]) (by omega) dX6_fl_9 ?_
  exact hE _ _ _ _ _ _ dX6_fl_10 (Nat.le_refl _) (Nat.le_refl _) ⟨by rfl, rfl⟩
theorem k_X6_fl {l : Launch} {X : gC} {cc : ByteArray} {own : String} {dd ca sa kc nc pc : Nat} {ls : List (Option Value)} {st : List Value} {σ : Mem} {idx : Nat} {f w : Nat} (hC : gOk wM l X cc own dd ca sa) (hlk : Cond.methodLink own idx yX6_fl ∈ TB) (hd : decode cc pc = .ok (.invokevirtual idx, 3)) (hdd : 0 + 1 ≤ dd) (hf : kc + 0 ≤ ca ∧ nc + 0 ≤ sa) (hrest : (st.map fun v => v.category).sum ≤ 8)  (hP : f < 10 ∧ w < 5) (kk : G wM X kc nc (pc + 3) ls (.int (sFl σ f w) :: st) (σ)) : G wM X kc nc pc ls (.int (nI w) :: .int (nI f) :: .ref (gA X 0) :: st) σ := by
  exact g_cVI 2 hC (c_X6_fl l f w) hlk ⟨tw_4_107, tws_2_14, tw_1_7, tw_4_108⟩ (by decide +kernel) ⟨hdd, by decide⟩ hf rfl rfl rfl (gW_at wM _ _ (by decide)) hrest rfl hd hP (fun rr σ1 hq => by obtain ⟨rfl, rfl⟩ := hq; exact kk)
set_option maxRecDepth 100000 in
set_option maxHeartbeats 4000000 in
/-- X6_height -/
theorem c_X6_height (l : Launch) (k : Nat) (p q r : Int32) : gMI wM l yX6_height (.code yX6_height cX6_height 4 (some FieldType.int)) 0 0 0 (fun A => [.int (nI k), .int p, .int q, .int r]) (fun τ => k < 1000) (fun τ rr τ1 => rr = sHgt k p q r ∧ τ1 = τ) := by
  refine gMI_of (by decide) (fun A => Nat.le_of_ble_eq_true rfl) ?_
  intro X τ hC hP hE
  have hC : gOk wM l X cX6_height "GemCutModel" 0 0 0 := hC
  show G wM X 0 0 0 [some (.int (nI k)), some (.int p), some (.int q), some (.int r)] [] τ
  refine g_ild1 hC dX6_height_0 ?_
  refine g_ild0 hC dX6_height_1 ?_
  refine g_bipush 10 hC dX6_height_2 (by decide) ?_
  refine g_irem hC dX6_height_4 (by decide) ?_
  refine g_imul hC dX6_height_5 ?_
  refine g_ild2 hC dX6_height_6 ?_
  refine g_ild0 hC dX6_height_7 ?_
  refine g_bipush 10 hC dX6_height_8 (by decide) ?_
  refine g_idiv hC dX6_height_10 (by decide) ?_
  refine g_bipush 10 hC dX6_height_11 (by decide) ?_
  refine g_irem hC dX6_height_13 (by decide) ?_
  refine g_imul hC dX6_height_14 ?_
  refine g_iadd hC dX6_height_15 ?_
  refine g_ild3 hC dX6_height_16 ?_
  refine g_ild0 hC dX6_height_17 ?_
  refine g_bipush 10 hC dX6_height_18 (by decide) ?_
  refine g_idiv hC dX6_height_20 (by decide) ?_
  refine g_bipush 10 hC dX6_height_21 (by decide) ?_
  refine g_idiv hC dX6_height_23 (by decide) ?_
  refine g_imul hC dX6_height_24 ?_
  refine g_iadd hC dX6_height_25 ?_
  exact hE _ _ _ _ _ _ dX6_height_26 (Nat.le_refl _) (Nat.le_refl _) ⟨by rw [k_rem _ hP, k_divrem _ hP, k_divdiv _ hP]; rfl, rfl⟩
theorem k_X6_height {l : Launch} {X : gC} {cc : ByteArray} {own : String} {dd ca sa kc nc pc : Nat} {ls : List (Option Value)} {st : List Value} {σ : Mem} {idx : Nat} {k : Nat} {p q r : Int32} (hC : gOk wM l X cc own dd ca sa) (hlk : Cond.methodLink own idx yX6_height ∈ TB) (hd : decode cc pc = .ok (.invokestatic idx, 3)) (hdd : 0 + 1 ≤ dd) (hf : kc + 0 ≤ ca ∧ nc + 0 ≤ sa) (hrest : (st.map fun v => v.category).sum ≤ 8) (hP : k < 1000) (kk : G wM X kc nc (pc + 3) ls (.int (sHgt k p q r) :: st) (σ)) : G wM X kc nc pc ls (.int r :: .int q :: .int p :: .int (nI k) :: st) σ := by
  exact g_cSI 4 hC (c_X6_height l k p q r) hlk ⟨tw_4_134, tw_1_7, tw_4_135⟩ (by decide +kernel) ⟨hdd, by decide⟩ hf rfl rfl hrest rfl hd hP (fun rr σ1 hq => by obtain ⟨rfl, rfl⟩ := hq; exact kk)
