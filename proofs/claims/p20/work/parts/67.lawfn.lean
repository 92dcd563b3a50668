/-! the law's numbers -/
def sBel (v n : Int32) : Int32 := (v &&& 2147483647) - (v &&& 2147483647) / n * n
theorem bel_nI (v : Int32) {n : Nat} (h0 : 0 < n) (hn : n < 2 ^ 31) : ∃ j, j < n ∧ sBel v (nI n) = nI j := by
  have h1 : v &&& 2147483647 = nI (v.toBitVec.toNat % 2 ^ 31) := pk_and v 31 (by decide)
  unfold sBel
  have h2 : v.toBitVec.toNat % 2 ^ 31 < 2 ^ 31 := Nat.mod_lt _ (by decide)
  rw [h1, pk_rem h2 h0 hn]
  exact ⟨_, Nat.mod_lt _ h0, rfl⟩
def sCel (L : Nat) (xs : Nat → Int32) (k : Nat) : Int32 := if k < L then xs k else 790386105 * (nI k + 3)
def jcmp (x y : Int32) : Int32 := if x < y then -1 else if x = y then 0 else 1
/-- a number of a plane -/
def Rg (x : Int32) : Prop := -3 ≤ x.toInt ∧ x.toInt ≤ 3
theorem rg_bel (v : Int32) : Rg (sBel v 7 - 3) := by
  obtain ⟨j, hj, e⟩ := bel_nI v (n := 7) (by decide) (by decide)
  rw [show (7 : Int32) = nI 7 by decide, e, nI_iI, show (3 : Int32) = iI 3 by decide, iI_sub]
  unfold Rg
  rw [iI_toInt (by omega) (by omega)]
  omega
theorem rg_cmp (x y : Int32) : Rg (jcmp x y) := by
  unfold jcmp Rg
  split
  · decide
  · split <;> decide
theorem rg_1 : Rg 1 := by unfold Rg; decide
def R3 (f : Nat → Int32) : Prop := Rg (f 0) ∧ Rg (f 1) ∧ Rg (f 2)
theorem upd_at (f : Nat → Int32) (i : Nat) (v : Int32) : upd f i v i = v := by simp [upd]
theorem upd_ne (f : Nat → Int32) {i j : Nat} (v : Int32) (h : j ≠ i) : upd f i v j = f j := by simp [upd, h]
theorem R3_upd {f : Nat → Int32} (h : R3 f) {i : Nat} (hi : i < 3) {v : Int32} (hv : Rg v) : R3 (upd f i v) := by
  obtain ⟨a, b, c⟩ := h
  rcases (show i = 0 ∨ i = 1 ∨ i = 2 by omega) with rfl | rfl | rfl
  · exact ⟨by rw [upd_at]; exact hv, by rw [upd_ne _ _ (by omega)]; exact b, by rw [upd_ne _ _ (by omega)]; exact c⟩
  · exact ⟨by rw [upd_ne _ _ (by omega)]; exact a, by rw [upd_at]; exact hv, by rw [upd_ne _ _ (by omega)]; exact c⟩
  · exact ⟨by rw [upd_ne _ _ (by omega)]; exact a, by rw [upd_ne _ _ (by omega)]; exact b, by rw [upd_at]; exact hv⟩
theorem R3_at {f : Nat → Int32} (h : R3 f) {i : Nat} (hi : i < 3) : Rg (f i) := by
  rcases (show i = 0 ∨ i = 1 ∨ i = 2 by omega) with rfl | rfl | rfl
  · exact h.1
  · exact h.2.1
  · exact h.2.2
def N0 (f : Nat → Int32) : Prop := ¬ (f 0 = 0 ∧ f 1 = 0 ∧ f 2 = 0)
theorem far_s {x : Int32} {F : Int} {w k : Nat} (hx : Rg x) (hw : w ≤ 9) (hF : 0 ≤ F ∧ F ≤ 27 * k) (hk : k < 3) : ∃ F', 0 ≤ F' ∧ F' ≤ 27 * ((k + 1 : Nat) : Int) ∧ iI F + (if (0 : Int32) < x then x else 0) * nI w = iI F' := by
  by_cases h : (0 : Int32) < x
  · rw [if_pos h, iI_of x, nI_iI, iI_mul, iI_add]
    have h1 : (0 : Int) < x.toInt := by rw [Int32.lt_iff_toInt_lt] at h; simpa using h
    have h2 := mul_rng (p := x.toInt) (a := w) hx (by omega)
    have h3 : 0 ≤ x.toInt * w := Int.mul_nonneg (by omega) (by omega)
    exact ⟨_, by omega, by omega, rfl⟩
  · rw [if_neg h, Int32.zero_mul, Int32.add_zero]
    exact ⟨F, hF.1, by omega, rfl⟩
theorem low_s {x : Int32} {F : Int} {w k : Nat} (hx : Rg x) (hw : w ≤ 9) (hF : F ≤ 0 ∧ -27 * (k : Int) ≤ F) (hk : k < 3) : ∃ F', F' ≤ 0 ∧ -27 * ((k + 1 : Nat) : Int) ≤ F' ∧ iI F + (if x < (0 : Int32) then x else 0) * nI w = iI F' := by
  by_cases h : x < (0 : Int32)
  · rw [if_pos h, iI_of x, nI_iI, iI_mul, iI_add]
    have h1 : x.toInt < (0 : Int) := by rw [Int32.lt_iff_toInt_lt] at h; simpa using h
    have h2 := mul_rng (p := x.toInt) (a := w) hx (by omega)
    have h3 : x.toInt * w ≤ 0 := Int.mul_nonpos_of_nonpos_of_nonneg (by omega) (by omega)
    exact ⟨_, by omega, by omega, rfl⟩
  · rw [if_neg h, Int32.zero_mul, Int32.add_zero]
    exact ⟨F, hF.1, by omega, rfl⟩
theorem dep_a (v : Int32) : -100 ≤ (sBel v 201 - 100).toInt ∧ (sBel v 201 - 100).toInt ≤ 100 := by
  obtain ⟨j, hj, e⟩ := bel_nI v (n := 201) (by decide) (by decide)
  rw [show (201 : Int32) = nI 201 by decide, e, nI_iI, show (100 : Int32) = iI 100 by decide, iI_sub, iI_toInt (by omega) (by omega)]
  omega
theorem dep_n {F Lo : Int} (h1 : 0 ≤ F ∧ F ≤ 81) (h2 : Lo ≤ 0 ∧ -81 ≤ Lo) : iI F - iI Lo + 3 = nI (F - Lo + 3).toNat := by
  rw [iI_sub, show (3 : Int32) = iI 3 by decide, iI_add, nI_iI]
  congr 1
  omega
theorem dep_b (v : Int32) {F Lo : Int} (h1 : 0 ≤ F ∧ F ≤ 81) (h2 : Lo ≤ 0 ∧ -81 ≤ Lo) : -100 ≤ (iI Lo + sBel v (iI F - iI Lo + 3)).toInt ∧ (iI Lo + sBel v (iI F - iI Lo + 3)).toInt ≤ 100 := by
  rw [dep_n h1 h2]
  obtain ⟨j, hj, e⟩ := bel_nI v (n := (F - Lo + 3).toNat) (by omega) (by omega)
  rw [e, nI_iI, iI_add, iI_toInt (by omega) (by omega)]
  omega
theorem tilt_of {f : Nat → Int32} {d : Int32} (h : R3 f) (hn : N0 f) (hd : -100 ≤ d.toInt ∧ d.toInt ≤ 100) : sTilt (f 0) (f 1) (f 2) d = true := by
  have r : ∀ x, Rg x → sIn x (-3) 3 = true := fun x hx => by
    rw [show (-3 : Int32) = iI (-3) by decide, show (3 : Int32) = iI 3 by decide]
    exact (sIn_int (by omega) (by omega)).mpr hx
  refine tilt_iff.mpr ⟨⟨r _ h.1, r _ h.2.1, r _ h.2.2, hn⟩, ?_⟩
  rw [show (-100 : Int32) = iI (-100) by decide, show (100 : Int32) = iI 100 by decide]
  exact (sIn_int (by omega) (by omega)).mpr hd
/-! one row of ints alone -/
section PA
variable {l : Launch} {X : gC} {A : Nat → Nat} {cc : ByteArray} {own : String} {dd ca sa k m pc : Nat} {ls : List (Option Value)} {st : List Value} {σ : Mem}
theorem p_iald {q N : Nat} {f : Nat → Int32} {x : Int32} (i : Nat) (hC : uOk l wE X A [(q, .inl (zY X 0, N, .inl f))] cc own dd ca sa) (hx0 : x = nI i) (hi : i < N) (hN : N < 2 ^ 31) (hd : decode cc pc = .ok (.iaload, 1)) (kk : G (wU wE [(q, .inl (zY X 0, N, .inl f))]) (uX wE X A [(q, .inl (zY X 0, N, .inl f))]) k m (pc + 1) ls (.int (f i) :: st) σ) : G (wU wE [(q, .inl (zY X 0, N, .inl f))]) (uX wE X A [(q, .inl (zY X 0, N, .inl f))]) k m pc ls (.int x :: .ref q :: st) σ := u_iald (j := 0) i hC rfl hx0 hi hN hd kk
theorem p_iast {q N : Nat} {f : Nat → Int32} {x y : Int32} (i : Nat) (hC : uOk l wE X A [(q, .inl (zY X 0, N, .inl f))] cc own dd ca sa) (hx0 : x = nI i) (hi : i < N) (hN : N < 2 ^ 31) (hd : decode cc pc = .ok (.iastore, 1)) (kk : uOk l wE X A [(q, .inl (zY X 0, N, .inl (upd f i y)))] cc own dd ca sa → G (wU wE [(q, .inl (zY X 0, N, .inl (upd f i y)))]) (uX wE X A [(q, .inl (zY X 0, N, .inl (upd f i y)))]) k m (pc + 1) ls st σ) : G (wU wE [(q, .inl (zY X 0, N, .inl f))]) (uX wE X A [(q, .inl (zY X 0, N, .inl f))]) k m pc ls (.int y :: .int x :: .ref q :: st) σ := u_iast (j := 0) i hC rfl hx0 hi hN hd kk
theorem p_newa {x : Int32} (N : Nat) (hC : uOk l wE X A [] cc own dd ca sa) (hN : x.toNatClampNeg = N) (hn : ¬ x < 0) (hN2 : N ≤ 1000) (hf : k + 1 ≤ ca ∧ m + N ≤ sa) (hd : decode cc pc = .ok (.newarray .int, 2)) (kk : ∀ q, uOk l wE X A [(q, .inl (zY X 0, N, .inl (fun _ => 0)))] cc own dd ca sa → G (wU wE [(q, .inl (zY X 0, N, .inl (fun _ => 0)))]) (uX wE X A [(q, .inl (zY X 0, N, .inl (fun _ => 0)))]) (k + 1) (m + N) (pc + 2) ls (.ref q :: st) σ) : G (wU wE []) (uX wE X A []) k m pc ls (.int x :: st) σ :=
  u_newa (t0 := 0) (ty := .int) .int hC tw_1_57 rfl (fun _ => rfl) (fun _ => rfl) (fun _ _ => rfl) hn hN (by show N * 4 ≤ _; omega) hf hd kk
end PA
theorem R3_0 : R3 (fun _ => 0) := ⟨by unfold Rg; decide, by unfold Rg; decide, by unfold Rg; decide⟩
theorem R3_u3 {f : Nat → Int32} (h : R3 f) (v : Int32) : R3 (upd f 3 v) := ⟨by rw [upd_ne _ _ (by decide)]; exact h.1, by rw [upd_ne _ _ (by decide)]; exact h.2.1, by rw [upd_ne _ _ (by decide)]; exact h.2.2⟩
theorem N0_upd (f : Nat → Int32) {j : Nat} (hj : j < 3) : N0 (upd f j 1) := by
  rintro ⟨a, b, c⟩
  rcases (show j = 0 ∨ j = 1 ∨ j = 2 by omega) with rfl | rfl | rfl
  · rw [upd_at] at a; exact absurd a (by decide)
  · rw [upd_at] at b; exact absurd b (by decide)
  · rw [upd_at] at c; exact absurd c (by decide)
theorem dep_ne {F Lo : Int} (h1 : 0 ≤ F ∧ F ≤ 81) (h2 : Lo ≤ 0 ∧ -81 ≤ Lo) : ¬ iI F - iI Lo + 3 = 0 := by
  rw [dep_n h1 h2]; exact nI_ne0 (by omega) (by omega)
def pJ (cy : Nat → ClassId) (r : Nat) (u : va_W) : Prop := ∃ f : Nat → Int32, u = [(r, .inl (cy 0, 4, .inl f))] ∧ sTilt (f 0) (f 1) (f 2) (f 3) = true

theorem dJ_0 : decode prog_14_method_40_code 0 = .ok (.iload_n 0, 1) := by decide +kernel
theorem dJ_1 : decode prog_14_method_40_code 1 = .ok (.iload_n 1, 1) := by decide +kernel
theorem dJ_2 : decode prog_14_method_40_code 2 = .ok (.if_icmp .ge 7, 3) := by decide +kernel
theorem dJ_5 : decode prog_14_method_40_code 5 = .ok (.iconst (-1), 1) := by decide +kernel
theorem dJ_6 : decode prog_14_method_40_code 6 = .ok (.goto 13, 3) := by decide +kernel
theorem dJ_9 : decode prog_14_method_40_code 9 = .ok (.iload_n 0, 1) := by decide +kernel
theorem dJ_10 : decode prog_14_method_40_code 10 = .ok (.iload_n 1, 1) := by decide +kernel
theorem dJ_11 : decode prog_14_method_40_code 11 = .ok (.if_icmp .ne 7, 3) := by decide +kernel
theorem dJ_14 : decode prog_14_method_40_code 14 = .ok (.iconst 0, 1) := by decide +kernel
theorem dJ_15 : decode prog_14_method_40_code 15 = .ok (.goto 4, 3) := by decide +kernel
theorem dJ_18 : decode prog_14_method_40_code 18 = .ok (.iconst 1, 1) := by decide +kernel
theorem dJ_19 : decode prog_14_method_40_code 19 = .ok (.ireturn, 1) := by decide +kernel
set_option maxRecDepth 100000 in
set_option maxHeartbeats 4000000 in
theorem c_below (l : Launch) (v n : Int32) (hn : ¬ n = 0) (b L : Nat) (xs : Nat → Int32) (D : va_G) (cy : Nat → ClassId) (sz : Nat) : Met l yL_below (.code yL_below cL_below 2 (some .int) :: TB) (gR 0 0 0) (vPre D cy b L xs [] sz [.int v, .int n]) (va_Qi (fun (r : Int32) (_ : Unit) => r = sBel v n) (fun _ _ => True) (va_A [] sz)) 0 0 (va_A [] sz) := by
  refine vI_of (by decide) (Nat.le_of_ble_eq_true rfl) ?_
  intro X hC hL hE
  have hC : gOk (wU wE [], uX wE X (fun _ => 0) []).1 l (wU wE [], uX wE X (fun _ => 0) []).2 cL_below "GemCutLaw" 0 0 0 := hC
  show G (wU wE []) (uX wE X (fun _ => 0) []) 0 0 0 [some (.int v), some (.int n)] [] zM
  refine g_ild0 hC dL_below_0 ?_
  refine g_ldc hC tw_3_153 dL_below_1 ?_
  refine g_iand hC dL_below_3 ?_
  refine g_ild1 hC dL_below_4 ?_
  refine g_irem hC dL_below_5 hn ?_
  exact hE _ _ _ _ dL_below_6 (by omega) (by omega)
set_option maxRecDepth 100000 in
set_option maxHeartbeats 4000000 in
theorem c_cmp (l : Launch) (x y : Int32) (b L : Nat) (xs : Nat → Int32) (D : va_G) (cy : Nat → ClassId) (sz : Nat) : Met l (⟨"java/lang/Integer", "compare", "(II)I"⟩ : MethodName) (.code (⟨"java/lang/Integer", "compare", "(II)I"⟩ : MethodName) prog_14_method_40_code 2 (some .int) :: TB) (gR 0 0 0) (vPre D cy b L xs [] sz [.int x, .int y]) (va_Qi (fun (r : Int32) (_ : Unit) => r = jcmp x y) (fun _ _ => True) (va_A [] sz)) 0 0 (va_A [] sz) := by
  refine vI_of (by decide) (Nat.le_of_ble_eq_true rfl) ?_
  intro X hC hL hE
  have hC : gOk (wU wE [], uX wE X (fun _ => 0) []).1 l (wU wE [], uX wE X (fun _ => 0) []).2 prog_14_method_40_code "java/lang/Integer" 0 0 0 := hC
  show G (wU wE []) (uX wE X (fun _ => 0) []) 0 0 0 [some (.int x), some (.int y)] [] zM
  refine g_ild0 hC dJ_0 ?_
  refine g_ild1 hC dJ_1 ?_
  refine g_icmp_ge 9 hC dJ_2 (by decide) (fun c => ?_) (fun c => ?_)
  · refine g_ild0 hC dJ_9 ?_
    refine g_ild1 hC dJ_10 ?_
    refine g_icmp_ne 18 hC dJ_11 (by decide) (fun c2 => ?_) (fun c2 => ?_)
    · refine g_iconst 1 hC dJ_18 (by decide) ?_
      have e : jcmp x y = 1 := by unfold jcmp; rw [if_neg (Int32.not_lt.mpr c), if_neg c2]
      rw [← e]
      exact hE _ _ _ _ dJ_19 (by omega) (by omega)
    · refine g_iconst 0 hC dJ_14 (by decide) ?_
      refine g_goto 19 hC dJ_15 (by decide) ?_
      have e : jcmp x y = 0 := by unfold jcmp; rw [if_neg (Int32.not_lt.mpr c), if_pos c2]
      rw [← e]
      exact hE _ _ _ _ dJ_19 (by omega) (by omega)
  · refine g_iconst (-1) hC dJ_5 (by decide) ?_
    refine g_goto 19 hC dJ_6 (by decide) ?_
    have e : jcmp x y = -1 := by unfold jcmp; rw [if_pos (Int32.not_le.mp c)]
    rw [← e]
    exact hE _ _ _ _ dJ_19 (by omega) (by omega)
set_option maxRecDepth 100000 in
set_option maxHeartbeats 4000000 in
theorem c_cell (l : Launch) (k : Nat) (hk : k < 2 ^ 31) (b L : Nat) (hLs : L < 2 ^ 31) (xs : Nat → Int32) (D : va_G) (cy : Nat → ClassId) (sz : Nat) : Met l yL_cell (.code yL_cell cL_cell 2 (some .int) :: TB) (gR 0 0 0) (vPre D cy b L xs [] sz [.ref b, .int (nI k)]) (va_Qi (fun (r : Int32) (_ : Unit) => r = sCel L xs k) (fun _ _ => True) (va_A [] sz)) 0 0 (va_A [] sz) := by
  refine vI_of (by decide) (Nat.le_of_ble_eq_true rfl) ?_
  intro X hC hL hE
  have hC : gOk (wU wE [], uX wE X (fun _ => 0) []).1 l (wU wE [], uX wE X (fun _ => 0) []).2 cL_cell "GemCutLaw" 0 0 0 := hC
  show G (wU wE []) (uX wE X (fun _ => 0) []) 0 0 0 [some (.ref b), some (.int (nI k))] [] zM
  have hS : gScr (uX wE X (fun _ => 0) []) b L xs := sx_Scr hL.1
  refine g_ild1 hC dL_cell_0 ?_
  refine g_ald0 hC dL_cell_1 ?_
  refine g_slen hC hS dL_cell_2 ?_
  by_cases hkL : k < L
  · refine g_icmp_ge 12 hC dL_cell_3 (by decide) (fun c => absurd c (nI_ge hkL hLs)) (fun c => ?_)
    refine g_ald0 hC dL_cell_6 ?_
    refine g_ild1 hC dL_cell_7 ?_
    refine g_sld hC hS rfl hkL hLs dL_cell_8 ?_
    refine g_goto 18 hC dL_cell_9 (by decide) ?_
    have e : sCel L xs k = xs k := if_pos hkL
    rw [← e]
    exact hE _ _ _ _ dL_cell_18 (by omega) (by omega)
  · refine g_icmp_ge 12 hC dL_cell_3 (by decide) (fun c => ?_) (fun c => absurd (nI_le (by omega) hk) c)
    refine g_ldc hC tw_3_157 dL_cell_12 ?_
    refine g_ild1 hC dL_cell_14 ?_
    refine g_iconst 3 hC dL_cell_15 (by decide) ?_
    refine g_iadd hC dL_cell_16 ?_
    refine g_imul hC dL_cell_17 ?_
    have e : sCel L xs k = 790386105 * (nI k + 3) := if_neg hkL
    rw [← e]
    exact hE _ _ _ _ dL_cell_18 (by omega) (by omega)
theorem r_below {l : Launch} {B : gL} {X : gC} {A : Nat → Nat} {es : va_W} {cc : ByteArray} {own : String} {dd ca sa k m pc b L idx : Nat} {xs : Nat → Int32} {ls : List (Option Value)} {st : List Value} {σ : Mem} {v n : Int32} (hC : uOk l B X A es cc own dd ca sa) (hL : uL X b L xs) (hn : ¬ n = 0) (hlk : Cond.methodLink own idx yL_below ∈ TB) (hd : decode cc pc = .ok (.invokestatic idx, 3)) (hdd : 1 ≤ dd) (hf : k ≤ ca ∧ m ≤ sa) (hrest : (st.map fun v => v.category).sum ≤ 8) (kk : G (wU B es) (uX B X A es) k m (pc + 3) ls (.int (sBel v n) :: st) σ) : G (wU B es) (uX B X A es) k m pc ls (.int n :: .int v :: st) σ :=
  u_cI 2 hC hL (fun D cy sz => c_below l v n hn b L xs D cy sz) hlk ⟨tw_3_151, tw_1_0, tw_3_152⟩ (by decide +kernel) ⟨hdd, by decide⟩ hf rfl hrest rfl hd kk
theorem r_cell {l : Launch} {B : gL} {X : gC} {A : Nat → Nat} {es : va_W} {cc : ByteArray} {own : String} {dd ca sa k m pc b L idx : Nat} {xs : Nat → Int32} {ls : List (Option Value)} {st : List Value} {σ : Mem} {k9 : Nat} (hC : uOk l B X A es cc own dd ca sa) (hL : uL X b L xs) (hk9 : k9 < 2 ^ 31) (hLs : L < 2 ^ 31) (hlk : Cond.methodLink own idx yL_cell ∈ TB) (hd : decode cc pc = .ok (.invokestatic idx, 3)) (hdd : 1 ≤ dd) (hf : k ≤ ca ∧ m ≤ sa) (hrest : (st.map fun v => v.category).sum ≤ 8) (kk : G (wU B es) (uX B X A es) k m (pc + 3) ls (.int (sCel L xs k9) :: st) σ) : G (wU B es) (uX B X A es) k m pc ls (.int (nI k9) :: .ref b :: st) σ :=
  u_cI 2 hC hL (fun D cy sz => c_cell l k9 hk9 b L hLs xs D cy sz) hlk ⟨tw_3_155, tw_1_0, tw_3_156⟩ (by decide +kernel) ⟨hdd, by decide⟩ hf rfl hrest rfl hd kk
theorem r_cmp {l : Launch} {B : gL} {X : gC} {A : Nat → Nat} {es : va_W} {cc : ByteArray} {own : String} {dd ca sa k m pc b L idx : Nat} {xs : Nat → Int32} {ls : List (Option Value)} {st : List Value} {σ : Mem} {x y : Int32} (hC : uOk l B X A es cc own dd ca sa) (hL : uL X b L xs)  (hlk : Cond.methodLink own idx (⟨"java/lang/Integer", "compare", "(II)I"⟩ : MethodName) ∈ TB) (hd : decode cc pc = .ok (.invokestatic idx, 3)) (hdd : 1 ≤ dd) (hf : k ≤ ca ∧ m ≤ sa) (hrest : (st.map fun v => v.category).sum ≤ 8) (kk : G (wU B es) (uX B X A es) k m (pc + 3) ls (.int (jcmp x y) :: st) σ) : G (wU B es) (uX B X A es) k m pc ls (.int y :: .int x :: st) σ :=
  u_cI 2 hC hL (fun D cy sz => c_cmp l x y b L xs D cy sz) hlk ⟨tw_3_162, tw_1_15, tw_3_163⟩ (by decide +kernel) ⟨hdd, by decide⟩ hf rfl hrest rfl hd kk
