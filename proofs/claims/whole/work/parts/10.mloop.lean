def sumI (g : Nat → Int32) : Nat → Int32
  | 0 => 0
  | n + 1 => sumI g n + g n
def sumN (g : Nat → Nat) : Nat → Nat
  | 0 => 0
  | n + 1 => sumN g n + g n
def allB (P : Nat → Bool) : Nat → Bool
  | 0 => true
  | n + 1 => allB P n && P n
theorem lit_le {N k : Nat} {c : Int32} (hc : c = nI N) (h : N ≤ k) (hk : k < 2 ^ 31) : c ≤ nI k := by rw [hc]; exact nI_le h hk
theorem lit_nle {N k : Nat} {c : Int32} (hc : c = nI N) (h : k < N) (hk : N < 2 ^ 31) : ¬ c ≤ nI k := by rw [hc]; exact nI_ge h hk
theorem lit_lt {N k : Nat} {c : Int32} (hc : c = nI N) (h : N < k) (hk : k < 2 ^ 31) : c < nI k := by rw [hc]; exact nI_lt h hk
theorem lit_nlt {N k : Nat} {c : Int32} (hc : c = nI N) (h : k ≤ N) (hk : N < 2 ^ 31) : ¬ c < nI k := by rw [hc]; exact nI_nlt h hk
/-- one step of a counting loop -/
theorem cnt_s1 {P : Nat → Bool} {n : Nat} (h : P n = true) : nI (cnt P n) + 1 = nI (cnt P (n + 1)) := by rw [cnt_t h, nI_succ]
theorem cnt_s0 {P : Nat → Bool} {n : Nat} (h : P n = false) : nI (cnt P n) + 0 = nI (cnt P (n + 1)) := by rw [cnt_f h, Int32.add_zero]
def pWt (τ : Mem) (s : Int32) (k : Nat) : Bool := τ 1 k == s
def pFc (τ : Mem) (f : Nat) (s : Int32) (op : Bool) (k : Nat) : Bool := τ 1 k == s && sFlawed τ f k && (!op || sSurf τ k)
def sFc (τ : Mem) (f : Nat) (s : Int32) (op : Bool) : Nat := cnt (pFc τ f s op) 1000
def sFt (τ : Mem) (f : Nat) (s w : Int32) : Int32 := if w < 2 then nI (sFc τ f s (decide (w = 1))) else if nI (sFc τ f s false) = 0 then -1 else if 0 < nI (sFc τ f s true) then 1 else 0
def pTurn (τ : Mem) (s p q r d : Int32) (k : Nat) : Bool := τ 1 k == s && decide (d < sHgt k p q r)
def sTurn (τ : Mem) (s p q r d : Int32) : Nat := cnt (pTurn τ s p q r d) 1000
/-- the cells up to n that a turn takes have become t -/
def gTurn (τ : Mem) (s p q r d t : Int32) (n : Nat) : Mem := fun i k => if i = 1 ∧ k < n ∧ pTurn τ s p q r d k = true then t else τ i k
def gBack (τ : Mem) (s : Int32) (n : Nat) : Mem := fun i k => if i = 1 ∧ k < n ∧ τ 1 k = -2 then s else τ i k
def sMost (τ : Mem) (s k : Nat) : Int32 := jmax (jabs (sPl τ s k 0)) (jmax (jabs (sPl τ s k 1)) (jabs (sPl τ s k 2)))
def pTouch (τ : Mem) (s k c : Nat) : Bool := τ 1 c == nI s && decide (sPl τ s k 3 < sHgt c (sPl τ s k 0) (sPl τ s k 1) (sPl τ s k 2) + sMost τ s k)
def sTouch (τ : Mem) (s k : Nat) : Nat := cnt (pTouch τ s k) 1000
def sFacet (τ : Mem) (s k : Nat) : Bool := decide (0 < nI (sTouch τ s k))
def nP (τ : Mem) (s : Nat) : Nat := (τ 4 s).toNatClampNeg
def nF (τ : Mem) : Nat := (τ 0 5).toNatClampNeg
def nS (τ : Mem) : Nat := (τ 0 7).toNatClampNeg
def pFacets (τ : Mem) (s : Nat) (po : Bool) (k : Nat) : Bool := sFacet τ s k && (!po || sPl τ s k 4 == 1)
def sFacets (τ : Mem) (s : Nat) (po : Bool) : Nat := cnt (pFacets τ s po) (nP τ s)
def sOpp (τ : Mem) (s a b : Nat) : Nat → Bool := allB (fun w => sPl τ s a w == 0 - sPl τ s b w)
def pPair (τ : Mem) (s a b : Nat) : Bool := sOpp τ s a b 3 && sFacet τ s a && sFacet τ s b
def sPairs (τ : Mem) (s : Nat) : Nat := sumN (fun a => cnt (pPair τ s a) a) (nP τ s)
def pFin (τ : Mem) (s : Int32) (how : Int32) (f : Nat) : Bool := sFt τ f s 2 == how
def sFin (τ : Mem) (s how : Int32) : Nat := cnt (pFin τ s how) (nF τ)
def sPts (τ : Mem) (s : Int32) : Nat → Int32 := sumI (fun f => if sFt τ f s 2 = 1 then 6 * sFl τ f 4 else if sFt τ f s 2 = 0 then 2 * sFl τ f 4 else 0)
def sWorth (τ : Mem) (s : Nat) : Int32 := if nI (sWt τ (nI s)) = 0 then 0 else
  (nI (sWt τ (nI s)) * nI (sWt τ (nI s)) / 10 + 10 * nI (sWt τ (nI s))) * jmax 10 (100 - sPts τ (nI s) (nF τ)) / 100 + 25 * nI (sFacets τ s true) + 40 * nI (sPairs τ s)
def sProd (τ : Mem) (s a b : Nat) : Int32 := sumI (fun w => sPl τ s a w * sPl τ s b w) 3
def sPt (τ : Mem) (s k w : Nat) : Int32 := if w < 4 then sPl τ s k w else if w = 4 then nI (sTouch τ s k) else sPl τ s k 4
theorem MI_P {τ : Mem} (h : MI τ) {s : Nat} (hs : s < 8) : τ 4 s = nI (nP τ s) ∧ nP τ s ≤ 17 := by
  obtain ⟨m, h1, h2⟩ := h.2.2.2.2.2 s hs
  have : nP τ s = m := by unfold nP; rw [h2]; exact nI_clamp (by omega)
  rw [this]; exact ⟨h2, h1⟩
theorem MI_F {τ : Mem} (h : MI τ) : τ 0 5 = nI (nF τ) ∧ nF τ ≤ 10 := by
  obtain ⟨m, h1, h2⟩ := h.2.2.2.1
  have : nF τ = m := by unfold nF; rw [h2]; exact nI_clamp (by omega)
  rw [this]; exact ⟨h2, h1⟩
theorem MI_S {τ : Mem} (h : MI τ) : τ 0 7 = nI (nS τ) ∧ 1 ≤ nS τ ∧ nS τ ≤ 8 := by
  obtain ⟨m, h1, h3, h2⟩ := h.2.2.2.2.1
  have : nS τ = m := by unfold nS; rw [h2]; exact nI_clamp (by omega)
  rw [this]; exact ⟨h2, h1, h3⟩

set_option maxRecDepth 100000 in
set_option maxHeartbeats 4000000 in
/-- X6_isOf -/
theorem c_X6_isOf (l : Launch) (x y z s : Int32) : gMZ wM l yX6_isOf (.code yX6_isOf cX6_isOf 5 (some FieldType.boolean)) 2 0 0 (fun A => [.ref (A 0), .int x, .int y, .int z, .int s]) (fun τ => MI τ) (fun τ rr τ1 => rr = b2i (sOf τ x y z s) ∧ τ1 = τ) := by
  refine gMZ_of (by decide) (fun A => Nat.le_of_ble_eq_true rfl) ?_
  intro X τ hC hP hE
  have hC : gOk wM l X cX6_isOf "GemCutModel" 2 0 0 := hC
  show G wM X 0 0 0 [some (.ref (gA X 0)), some (.int x), some (.int y), some (.int z), some (.int s)] [] τ
  refine g_ald0 hC dX6_isOf_0 ?_
  refine g_ild1 hC dX6_isOf_1 ?_
  refine g_ild2 hC dX6_isOf_2 ?_
  refine g_ild3 hC dX6_isOf_3 ?_
  refine k_X6_isCell hC tw_4_15 dX6_isOf_4 (by decide) ⟨by omega, by omega⟩ (Nat.le_of_ble_eq_true rfl) ?_
  refine g_if_eq 30 hC dX6_isOf_7 (by decide) (fun c7 => ?_) (fun c7 => ?_)
  · (try simp only [b2i_eq0, Bool.not_eq_false, Int32.not_le, Int32.not_lt] at c7)
    refine g_iconst 0 hC dX6_isOf_30 (by decide) ?_
    exact hE _ _ _ _ _ _ dX6_isOf_31 (Nat.le_refl _) (Nat.le_refl _) (by first | exact Or.inl rfl | exact Or.inr rfl | exact b2i_01 _) ⟨by simp [sOf, b2i, c7], rfl⟩
  · (try simp only [b2i_eq0, Bool.not_eq_false, Int32.not_le, Int32.not_lt] at c7)
    obtain ⟨a, b, c, ha, hb, hc, rfl, rfl, rfl⟩ := sCell_nI hP c7
    refine g_ald0 hC dX6_isOf_10 ?_
    refine mg_Model_cells hC tw_4_26 dX6_isOf_11 ?_
    refine g_ild1 hC dX6_isOf_14 ?_
    refine g_ild2 hC dX6_isOf_15 ?_
    refine g_ild3 hC dX6_isOf_16 ?_
    refine k_X6_at hC tw_4_82 dX6_isOf_17 (by decide) ⟨by omega, by omega⟩ (Nat.le_of_ble_eq_true rfl) ?_
    refine ml_cells (a + 10 * (b + 10 * c)) hC (sAt_nI a b c) (by omega) dX6_isOf_20 ?_
    refine g_ild4 hC dX6_isOf_21 ?_
    refine g_icmp_ne 30 hC dX6_isOf_23 (by decide) (fun c23 => ?_) (fun c23 => ?_)
    · refine g_iconst 0 hC dX6_isOf_30 (by decide) ?_
      exact hE _ _ _ _ _ _ dX6_isOf_31 (Nat.le_refl _) (Nat.le_refl _) (by first | exact Or.inl rfl | exact Or.inr rfl | exact b2i_01 _) ⟨by simp only [sOf, c7, sAt_nI, nI_clamp (show a + 10 * (b + 10 * c) < 2 ^ 31 by omega)]; simp [b2i, c23], rfl⟩
    · refine g_iconst 1 hC dX6_isOf_26 (by decide) ?_
      refine g_goto 31 hC dX6_isOf_27 (by decide) ?_
      exact hE _ _ _ _ _ _ dX6_isOf_31 (Nat.le_refl _) (Nat.le_refl _) (by first | exact Or.inl rfl | exact Or.inr rfl | exact b2i_01 _) ⟨by simp only [sOf, c7, sAt_nI, nI_clamp (show a + 10 * (b + 10 * c) < 2 ^ 31 by omega)]; simp [b2i, c23], rfl⟩
theorem k_X6_isOf {l : Launch} {X : gC} {cc : ByteArray} {own : String} {dd ca sa kc nc pc : Nat} {ls : List (Option Value)} {st : List Value} {σ : Mem} {idx : Nat} {x y z s : Int32} (hC : gOk wM l X cc own dd ca sa) (hlk : Cond.methodLink own idx yX6_isOf ∈ TB) (hd : decode cc pc = .ok (.invokevirtual idx, 3)) (hdd : 2 + 1 ≤ dd) (hf : kc + 0 ≤ ca ∧ nc + 0 ≤ sa) (hrest : (st.map fun v => v.category).sum ≤ 8)  (hP : MI σ) (kk : G wM X kc nc (pc + 3) ls (.int (b2i (sOf σ x y z s)) :: st) (σ)) : G wM X kc nc pc ls (.int s :: .int z :: .int y :: .int x :: .ref (gA X 0) :: st) σ := by
  exact g_cVZ 4 hC (c_X6_isOf l x y z s) hlk ⟨tw_4_116, tws_3_0, tw_1_7, tw_4_117⟩ (by decide +kernel) ⟨hdd, by decide⟩ hf rfl rfl rfl (gW_at wM _ _ (by decide)) hrest rfl hd hP (fun rr σ1 hq => by obtain ⟨rfl, rfl⟩ := hq; exact kk)
set_option maxRecDepth 100000 in
set_option maxHeartbeats 4000000 in
/-- X6_isSurface -/
theorem c_X6_isSurface (l : Launch) (k : Nat) : gMZ wM l yX6_isSurface (.code yX6_isSurface cX6_isSurface 6 (some FieldType.boolean)) 3 0 0 (fun A => [.ref (A 0), .int (nI k)]) (fun τ => MI τ ∧ k < 1000) (fun τ rr τ1 => rr = b2i (sSurf τ k) ∧ τ1 = τ) := by
  refine gMZ_of (by decide) (fun A => Nat.le_of_ble_eq_true rfl) ?_
  intro X τ hC hP hE
  have hC : gOk wM l X cX6_isSurface "GemCutModel" 3 0 0 := hC
  show G wM X 0 0 0 [some (.ref (gA X 0)), some (.int (nI k)), none, none, none, none] [] τ
  refine g_ild1 hC dX6_isSurface_0 ?_
  refine g_bipush 10 hC dX6_isSurface_1 (by decide) ?_
  refine g_irem hC dX6_isSurface_3 (by decide) ?_
  rw [k_rem _ hP.2]
  refine g_ist2 hC dX6_isSurface_4 rfl ?_
  refine g_ild1 hC dX6_isSurface_5 ?_
  refine g_bipush 10 hC dX6_isSurface_6 (by decide) ?_
  refine g_idiv hC dX6_isSurface_8 (by decide) ?_
  refine g_bipush 10 hC dX6_isSurface_9 (by decide) ?_
  refine g_irem hC dX6_isSurface_11 (by decide) ?_
  rw [k_divrem _ hP.2]
  refine g_ist3 hC dX6_isSurface_12 rfl ?_
  refine g_ild1 hC dX6_isSurface_13 ?_
  refine g_bipush 10 hC dX6_isSurface_14 (by decide) ?_
  refine g_idiv hC dX6_isSurface_16 (by decide) ?_
  refine g_bipush 10 hC dX6_isSurface_17 (by decide) ?_
  refine g_idiv hC dX6_isSurface_19 (by decide) ?_
  rw [k_divdiv _ hP.2]
  refine g_ist4 hC dX6_isSurface_20 rfl ?_
  refine g_ald0 hC dX6_isSurface_22 ?_
  refine mg_Model_cells hC tw_4_26 dX6_isSurface_23 ?_
  refine g_ild1 hC dX6_isSurface_26 ?_
  refine ml_cells k hC rfl hP.2 dX6_isSurface_27 ?_
  refine g_ist5 hC dX6_isSurface_28 rfl ?_
  refine g_ald0 hC dX6_isSurface_30 ?_
  refine g_ild2 hC dX6_isSurface_31 ?_
  refine g_iconst 1 hC dX6_isSurface_32 (by decide) ?_
  refine g_isub hC dX6_isSurface_33 ?_
  refine g_ild3 hC dX6_isSurface_34 ?_
  refine g_ild4 hC dX6_isSurface_35 ?_
  refine g_ild5 hC dX6_isSurface_37 ?_
  refine k_X6_isOf hC tw_4_114 dX6_isSurface_39 (by decide) ⟨by omega, by omega⟩ (Nat.le_of_ble_eq_true rfl) hP.1 ?_
  refine g_if_eq 120 hC dX6_isSurface_42 (by decide) (fun c42 => ?_) (fun c42 => ?_)
  · refine g_iconst 1 hC dX6_isSurface_120 (by decide) ?_
    refine g_goto 125 hC dX6_isSurface_121 (by decide) ?_
    exact hE _ _ _ _ _ _ dX6_isSurface_125 (Nat.le_refl _) (Nat.le_refl _) (by first | exact Or.inl rfl | exact Or.inr rfl | exact b2i_01 _) ⟨by simp only [b2i_eq0, b2i_ne0] at c42; simp [sSurf, b2i, c42], rfl⟩
  · refine g_ald0 hC dX6_isSurface_45 ?_
    refine g_ild2 hC dX6_isSurface_46 ?_
    refine g_iconst 1 hC dX6_isSurface_47 (by decide) ?_
    refine g_iadd hC dX6_isSurface_48 ?_
    refine g_ild3 hC dX6_isSurface_49 ?_
    refine g_ild4 hC dX6_isSurface_50 ?_
    refine g_ild5 hC dX6_isSurface_52 ?_
    refine k_X6_isOf hC tw_4_114 dX6_isSurface_54 (by decide) ⟨by omega, by omega⟩ (Nat.le_of_ble_eq_true rfl) hP.1 ?_
    refine g_if_eq 120 hC dX6_isSurface_57 (by decide) (fun c57 => ?_) (fun c57 => ?_)
    · refine g_iconst 1 hC dX6_isSurface_120 (by decide) ?_
      refine g_goto 125 hC dX6_isSurface_121 (by decide) ?_
      exact hE _ _ _ _ _ _ dX6_isSurface_125 (Nat.le_refl _) (Nat.le_refl _) (by first | exact Or.inl rfl | exact Or.inr rfl | exact b2i_01 _) ⟨by simp only [b2i_eq0, b2i_ne0] at c42 c57; simp [sSurf, b2i, c42, c57], rfl⟩
    · refine g_ald0 hC dX6_isSurface_60 ?_
      refine g_ild2 hC dX6_isSurface_61 ?_
      refine g_ild3 hC dX6_isSurface_62 ?_
      refine g_iconst 1 hC dX6_isSurface_63 (by decide) ?_
      refine g_isub hC dX6_isSurface_64 ?_
      refine g_ild4 hC dX6_isSurface_65 ?_
      refine g_ild5 hC dX6_isSurface_67 ?_
      refine k_X6_isOf hC tw_4_114 dX6_isSurface_69 (by decide) ⟨by omega, by omega⟩ (Nat.le_of_ble_eq_true rfl) hP.1 ?_
      refine g_if_eq 120 hC dX6_isSurface_72 (by decide) (fun c72 => ?_) (fun c72 => ?_)
      · refine g_iconst 1 hC dX6_isSurface_120 (by decide) ?_
        refine g_goto 125 hC dX6_isSurface_121 (by decide) ?_
        exact hE _ _ _ _ _ _ dX6_isSurface_125 (Nat.le_refl _) (Nat.le_refl _) (by first | exact Or.inl rfl | exact Or.inr rfl | exact b2i_01 _) ⟨by simp only [b2i_eq0, b2i_ne0] at c42 c57 c72; simp [sSurf, b2i, c42, c57, c72], rfl⟩
      · refine g_ald0 hC dX6_isSurface_75 ?_
        refine g_ild2 hC dX6_isSurface_76 ?_
        refine g_ild3 hC dX6_isSurface_77 ?_
        refine g_iconst 1 hC dX6_isSurface_78 (by decide) ?_
        refine g_iadd hC dX6_isSurface_79 ?_
        refine g_ild4 hC dX6_isSurface_80 ?_
        refine g_ild5 hC dX6_isSurface_82 ?_
        refine k_X6_isOf hC tw_4_114 dX6_isSurface_84 (by decide) ⟨by omega, by omega⟩ (Nat.le_of_ble_eq_true rfl) hP.1 ?_
        refine g_if_eq 120 hC dX6_isSurface_87 (by decide) (fun c87 => ?_) (fun c87 => ?_)
        · refine g_iconst 1 hC dX6_isSurface_120 (by decide) ?_
          refine g_goto 125 hC dX6_isSurface_121 (by decide) ?_
          exact hE _ _ _ _ _ _ dX6_isSurface_125 (Nat.le_refl _) (Nat.le_refl _) (by first | exact Or.inl rfl | exact Or.inr rfl | exact b2i_01 _) ⟨by simp only [b2i_eq0, b2i_ne0] at c42 c57 c72 c87; simp [sSurf, b2i, c42, c57, c72, c87], rfl⟩
        · refine g_ald0 hC dX6_isSurface_90 ?_
          refine g_ild2 hC dX6_isSurface_91 ?_
          refine g_ild3 hC dX6_isSurface_92 ?_
          refine g_ild4 hC dX6_isSurface_93 ?_
          refine g_iconst 1 hC dX6_isSurface_95 (by decide) ?_
          refine g_isub hC dX6_isSurface_96 ?_
          refine g_ild5 hC dX6_isSurface_97 ?_
          refine k_X6_isOf hC tw_4_114 dX6_isSurface_99 (by decide) ⟨by omega, by omega⟩ (Nat.le_of_ble_eq_true rfl) hP.1 ?_
          refine g_if_eq 120 hC dX6_isSurface_102 (by decide) (fun c102 => ?_) (fun c102 => ?_)
          · refine g_iconst 1 hC dX6_isSurface_120 (by decide) ?_
            refine g_goto 125 hC dX6_isSurface_121 (by decide) ?_
            exact hE _ _ _ _ _ _ dX6_isSurface_125 (Nat.le_refl _) (Nat.le_refl _) (by first | exact Or.inl rfl | exact Or.inr rfl | exact b2i_01 _) ⟨by simp only [b2i_eq0, b2i_ne0] at c42 c57 c72 c87 c102; simp [sSurf, b2i, c42, c57, c72, c87, c102], rfl⟩
          · refine g_ald0 hC dX6_isSurface_105 ?_
            refine g_ild2 hC dX6_isSurface_106 ?_
            refine g_ild3 hC dX6_isSurface_107 ?_
            refine g_ild4 hC dX6_isSurface_108 ?_
            refine g_iconst 1 hC dX6_isSurface_110 (by decide) ?_
            refine g_iadd hC dX6_isSurface_111 ?_
            refine g_ild5 hC dX6_isSurface_112 ?_
            refine k_X6_isOf hC tw_4_114 dX6_isSurface_114 (by decide) ⟨by omega, by omega⟩ (Nat.le_of_ble_eq_true rfl) hP.1 ?_
            refine g_if_ne 124 hC dX6_isSurface_117 (by decide) (fun c117 => ?_) (fun c117 => ?_)
            · refine g_iconst 0 hC dX6_isSurface_124 (by decide) ?_
              exact hE _ _ _ _ _ _ dX6_isSurface_125 (Nat.le_refl _) (Nat.le_refl _) (by first | exact Or.inl rfl | exact Or.inr rfl | exact b2i_01 _) ⟨by simp only [b2i_eq0, b2i_ne0] at c42 c57 c72 c87 c102 c117; simp [sSurf, b2i, c42, c57, c72, c87, c102, c117], rfl⟩
            · refine g_iconst 1 hC dX6_isSurface_120 (by decide) ?_
              refine g_goto 125 hC dX6_isSurface_121 (by decide) ?_
              exact hE _ _ _ _ _ _ dX6_isSurface_125 (Nat.le_refl _) (Nat.le_refl _) (by first | exact Or.inl rfl | exact Or.inr rfl | exact b2i_01 _) ⟨by simp only [b2i_eq0, b2i_ne0] at c42 c57 c72 c87 c102 c117; simp [sSurf, b2i, c42, c57, c72, c87, c102, c117], rfl⟩
theorem k_X6_isSurface {l : Launch} {X : gC} {cc : ByteArray} {own : String} {dd ca sa kc nc pc : Nat} {ls : List (Option Value)} {st : List Value} {σ : Mem} {idx : Nat} {k : Nat} (hC : gOk wM l X cc own dd ca sa) (hlk : Cond.methodLink own idx yX6_isSurface ∈ TB) (hd : decode cc pc = .ok (.invokevirtual idx, 3)) (hdd : 3 + 1 ≤ dd) (hf : kc + 0 ≤ ca ∧ nc + 0 ≤ sa) (hrest : (st.map fun v => v.category).sum ≤ 8)  (hP : MI σ ∧ k < 1000) (kk : G wM X kc nc (pc + 3) ls (.int (b2i (sSurf σ k)) :: st) (σ)) : G wM X kc nc pc ls (.int (nI k) :: .ref (gA X 0) :: st) σ := by
  exact g_cVZ 1 hC (c_X6_isSurface l k) hlk ⟨tw_4_112, tws_2_15, tw_1_7, tw_4_113⟩ (by decide +kernel) ⟨hdd, by decide⟩ hf rfl rfl rfl (gW_at wM _ _ (by decide)) hrest rfl hd hP (fun rr σ1 hq => by obtain ⟨rfl, rfl⟩ := hq; exact kk)
set_option maxRecDepth 100000 in
set_option maxHeartbeats 4000000 in
/-- X6_isFlawed -/
theorem c_X6_isFlawed (l : Launch) (f k : Nat) : gMZ wM l yX6_isFlawed (.code yX6_isFlawed cX6_isFlawed 3 (some FieldType.boolean)) 1 0 0 (fun A => [.ref (A 0), .int (nI f), .int (nI k)]) (fun τ => f < 10 ∧ k < 1000) (fun τ rr τ1 => rr = b2i (sFlawed τ f k) ∧ τ1 = τ) := by
  refine gMZ_of (by decide) (fun A => Nat.le_of_ble_eq_true rfl) ?_
  intro X τ hC hP hE
  have hC : gOk wM l X cX6_isFlawed "GemCutModel" 1 0 0 := hC
  show G wM X 0 0 0 [some (.ref (gA X 0)), some (.int (nI f)), some (.int (nI k))] [] τ
  refine g_ild2 hC dX6_isFlawed_0 ?_
  refine g_bipush 10 hC dX6_isFlawed_1 (by decide) ?_
  refine g_irem hC dX6_isFlawed_3 (by decide) ?_
  rw [k_rem _ hP.2]
  refine g_ald0 hC dX6_isFlawed_4 ?_
  refine g_ild1 hC dX6_isFlawed_5 ?_
  refine g_iconst 0 hC dX6_isFlawed_6 (by decide) ?_
  refine k_X6_fl (f := f) (w := 0) hC tw_4_105 dX6_isFlawed_7 (by decide) ⟨by omega, by omega⟩ (Nat.le_of_ble_eq_true rfl) ⟨hP.1, by omega⟩ ?_
  refine g_isub hC dX6_isFlawed_10 ?_
  refine g_mabs hC (by first | assumption | omega | decide) tw_4_109 (Nat.le_of_ble_eq_true rfl) ⟨by omega, by omega⟩ dX6_isFlawed_11 ?_
  refine g_ild2 hC dX6_isFlawed_14 ?_
  refine g_bipush 10 hC dX6_isFlawed_15 (by decide) ?_
  refine g_idiv hC dX6_isFlawed_17 (by decide) ?_
  refine g_bipush 10 hC dX6_isFlawed_18 (by decide) ?_
  refine g_irem hC dX6_isFlawed_20 (by decide) ?_
  rw [k_divrem _ hP.2]
  refine g_ald0 hC dX6_isFlawed_21 ?_
  refine g_ild1 hC dX6_isFlawed_22 ?_
  refine g_iconst 1 hC dX6_isFlawed_23 (by decide) ?_
  refine k_X6_fl (f := f) (w := 1) hC tw_4_105 dX6_isFlawed_24 (by decide) ⟨by omega, by omega⟩ (Nat.le_of_ble_eq_true rfl) ⟨hP.1, by omega⟩ ?_
  refine g_isub hC dX6_isFlawed_27 ?_
  refine g_mabs hC (by first | assumption | omega | decide) tw_4_109 (Nat.le_of_ble_eq_true rfl) ⟨by omega, by omega⟩ dX6_isFlawed_28 ?_
  refine g_iadd hC dX6_isFlawed_31 ?_
  refine g_ild2 hC dX6_isFlawed_32 ?_
  refine g_bipush 10 hC dX6_isFlawed_33 (by decide) ?_
  refine g_idiv hC dX6_isFlawed_35 (by decide) ?_
  refine g_bipush 10 hC dX6_isFlawed_36 (by decide) ?_
  refine g_idiv hC dX6_isFlawed_38 (by decide) ?_
  rw [k_divdiv _ hP.2]
  refine g_ald0 hC dX6_isFlawed_39 ?_
  refine g_ild1 hC dX6_isFlawed_40 ?_
  refine g_iconst 2 hC dX6_isFlawed_41 (by decide) ?_
  refine k_X6_fl (f := f) (w := 2) hC tw_4_105 dX6_isFlawed_42 (by decide) ⟨by omega, by omega⟩ (Nat.le_of_ble_eq_true rfl) ⟨hP.1, by omega⟩ ?_
  refine g_isub hC dX6_isFlawed_45 ?_
  refine g_mabs hC (by first | assumption | omega | decide) tw_4_109 (Nat.le_of_ble_eq_true rfl) ⟨by omega, by omega⟩ dX6_isFlawed_46 ?_
  refine g_iadd hC dX6_isFlawed_49 ?_
  refine g_ald0 hC dX6_isFlawed_50 ?_
  refine g_ild1 hC dX6_isFlawed_51 ?_
  refine g_iconst 3 hC dX6_isFlawed_52 (by decide) ?_
  refine k_X6_fl (f := f) (w := 3) hC tw_4_105 dX6_isFlawed_53 (by decide) ⟨by omega, by omega⟩ (Nat.le_of_ble_eq_true rfl) ⟨hP.1, by omega⟩ ?_
  refine g_icmp_gt 63 hC dX6_isFlawed_56 (by decide) (fun c56 => ?_) (fun c56 => ?_)
  · refine g_iconst 0 hC dX6_isFlawed_63 (by decide) ?_
    exact hE _ _ _ _ _ _ dX6_isFlawed_64 (Nat.le_refl _) (Nat.le_refl _) (by first | exact Or.inl rfl | exact Or.inr rfl | exact b2i_01 _) ⟨by first | (rw [sFlawed, b2i, if_neg (by rw [decide_eq_true_iff]; exact Int32.not_le.mpr c56)]) | (rw [sFlawed, b2i, if_pos (by rw [decide_eq_true_iff]; exact Int32.not_lt.mp c56)]), rfl⟩
  · refine g_iconst 1 hC dX6_isFlawed_59 (by decide) ?_
    refine g_goto 64 hC dX6_isFlawed_60 (by decide) ?_
    exact hE _ _ _ _ _ _ dX6_isFlawed_64 (Nat.le_refl _) (Nat.le_refl _) (by first | exact Or.inl rfl | exact Or.inr rfl | exact b2i_01 _) ⟨by first | (rw [sFlawed, b2i, if_neg (by rw [decide_eq_true_iff]; exact Int32.not_le.mpr c56)]) | (rw [sFlawed, b2i, if_pos (by rw [decide_eq_true_iff]; exact Int32.not_lt.mp c56)]), rfl⟩
theorem k_X6_isFlawed {l : Launch} {X : gC} {cc : ByteArray} {own : String} {dd ca sa kc nc pc : Nat} {ls : List (Option Value)} {st : List Value} {σ : Mem} {idx : Nat} {f k : Nat} (hC : gOk wM l X cc own dd ca sa) (hlk : Cond.methodLink own idx yX6_isFlawed ∈ TB) (hd : decode cc pc = .ok (.invokevirtual idx, 3)) (hdd : 1 + 1 ≤ dd) (hf : kc + 0 ≤ ca ∧ nc + 0 ≤ sa) (hrest : (st.map fun v => v.category).sum ≤ 8)  (hP : f < 10 ∧ k < 1000) (kk : G wM X kc nc (pc + 3) ls (.int (b2i (sFlawed σ f k)) :: st) (σ)) : G wM X kc nc pc ls (.int (nI k) :: .int (nI f) :: .ref (gA X 0) :: st) σ := by
  exact g_cVZ 2 hC (c_X6_isFlawed l f k) hlk ⟨tw_4_103, tws_2_13, tw_1_7, tw_4_104⟩ (by decide +kernel) ⟨hdd, by decide⟩ hf rfl rfl rfl (gW_at wM _ _ (by decide)) hrest rfl hd hP (fun rr σ1 hq => by obtain ⟨rfl, rfl⟩ := hq; exact kk)
set_option maxRecDepth 100000 in
set_option maxHeartbeats 4000000 in
/-- X6_weight -/
theorem c_X6_weight (l : Launch) (s : Int32) : gMI wM l yX6_weight (.code yX6_weight cX6_weight 4 (some FieldType.int)) 0 0 0 (fun A => [.ref (A 0), .int s]) (fun τ => True) (fun τ rr τ1 => rr = nI (sWt τ s) ∧ τ1 = τ) := by
  refine gMI_of (by decide) (fun A => Nat.le_of_ble_eq_true rfl) ?_
  intro X τ hC hP hE
  have hC : gOk wM l X cX6_weight "GemCutModel" 0 0 0 := hC
  show G wM X 0 0 0 [some (.ref (gA X 0)), some (.int s), none, none] [] τ
  have lp : ∀ (m k : Nat), k + m = 1000 → G wM X 0 0 4 [some (.ref (gA X 0)), some (.int s), some (.int (nI (cnt (pWt τ s) k))), some (.int (nI k))] [] (τ) := by
    intro m
    induction m with
    | zero =>
      intro k hk 
      have hk : k = 1000 := by omega
      subst hk
      refine g_ild3 hC dX6_weight_4 ?_
      refine g_sipush 1000 hC dX6_weight_5 (by decide) ?_
      refine g_icmp_ge 35 hC dX6_weight_8 (by decide) (fun c8 => ?_) (fun c8 => absurd (lit_le (show (1000 : Int32) = nI 1000 by decide) (by omega) (by omega)) c8)
      refine g_ild2 hC dX6_weight_35 ?_
      exact hE _ _ _ _ _ _ dX6_weight_36 (Nat.le_refl _) (Nat.le_refl _) ⟨by rfl, rfl⟩
    | succ m ih =>
      intro k hk 
      refine g_ild3 hC dX6_weight_4 ?_
      refine g_sipush 1000 hC dX6_weight_5 (by decide) ?_
      refine g_icmp_ge 35 hC dX6_weight_8 (by decide) (fun c8 => absurd c8 (lit_nle (show (1000 : Int32) = nI 1000 by decide) (by omega) (by omega))) (fun c8 => ?_)
      refine g_ild2 hC dX6_weight_11 ?_
      refine g_ald0 hC dX6_weight_12 ?_
      refine mg_Model_cells hC tw_4_26 dX6_weight_13 ?_
      refine g_ild3 hC dX6_weight_16 ?_
      refine ml_cells _ hC rfl (by omega) dX6_weight_17 ?_
      refine g_ild1 hC dX6_weight_18 ?_
      refine g_icmp_ne 26 hC dX6_weight_19 (by decide) (fun c19 => ?_) (fun c19 => ?_)
      · refine g_iconst 0 hC dX6_weight_26 (by decide) ?_
        refine g_iadd hC dX6_weight_27 ?_
        refine g_ist2 hC dX6_weight_28 rfl ?_
        refine g_inc3 1 hC dX6_weight_29 (by decide) rfl ?_
        refine g_goto 4 hC dX6_weight_32 (by decide) ?_
        (try simp only [b2i_eq0, Bool.not_eq_false, Int32.not_le, Int32.not_lt] at c8 c19)
        first
        | (rw [cnt_s1 (P := pWt τ s) (by simp [pWt, c8, c19]), nI_1]; exact ih (k + 1) (by omega))
        | (rw [cnt_s0 (P := pWt τ s) (by simp [pWt, c8, c19]), nI_1]; exact ih (k + 1) (by omega))
      · refine g_iconst 1 hC dX6_weight_22 (by decide) ?_
        refine g_goto 27 hC dX6_weight_23 (by decide) ?_
        refine g_iadd hC dX6_weight_27 ?_
        refine g_ist2 hC dX6_weight_28 rfl ?_
        refine g_inc3 1 hC dX6_weight_29 (by decide) rfl ?_
        refine g_goto 4 hC dX6_weight_32 (by decide) ?_
        (try simp only [b2i_eq0, Bool.not_eq_false, Int32.not_le, Int32.not_lt] at c8 c19)
        first
        | (rw [cnt_s1 (P := pWt τ s) (by simp [pWt, c8, c19]), nI_1]; exact ih (k + 1) (by omega))
        | (rw [cnt_s0 (P := pWt τ s) (by simp [pWt, c8, c19]), nI_1]; exact ih (k + 1) (by omega))
  refine g_iconst 0 hC dX6_weight_0 (by decide) ?_
  refine g_ist2 hC dX6_weight_1 rfl ?_
  refine g_iconst 0 hC dX6_weight_2 (by decide) ?_
  refine g_ist3 hC dX6_weight_3 rfl ?_
  exact lp 1000 0 (by omega)
theorem k_X6_weight {l : Launch} {X : gC} {cc : ByteArray} {own : String} {dd ca sa kc nc pc : Nat} {ls : List (Option Value)} {st : List Value} {σ : Mem} {idx : Nat} {s : Int32} (hC : gOk wM l X cc own dd ca sa) (hlk : Cond.methodLink own idx yX6_weight ∈ TB) (hd : decode cc pc = .ok (.invokevirtual idx, 3)) (hdd : 0 + 1 ≤ dd) (hf : kc + 0 ≤ ca ∧ nc + 0 ≤ sa) (hrest : (st.map fun v => v.category).sum ≤ 8)   (kk : G wM X kc nc (pc + 3) ls (.int (nI (sWt σ s)) :: st) (σ)) : G wM X kc nc pc ls (.int s :: .ref (gA X 0) :: st) σ := by
  exact g_cVI 1 hC (c_X6_weight l s) hlk ⟨tw_4_127, tws_3_1, tw_1_7, tw_4_128⟩ (by decide +kernel) ⟨hdd, by decide⟩ hf rfl rfl rfl (gW_at wM _ _ (by decide)) hrest rfl hd trivial (fun rr σ1 hq => by obtain ⟨rfl, rfl⟩ := hq; exact kk)
set_option maxRecDepth 100000 in
set_option maxHeartbeats 4000000 in
/-- X6_flawCells -/
theorem c_X6_flawCells (l : Launch) (f : Nat) (s : Int32) (op : Bool) : gMI wM l yX6_flawCells (.code yX6_flawCells cX6_flawCells 6 (some FieldType.int)) 4 0 0 (fun A => [.ref (A 0), .int (nI f), .int s, .int (b2i op)]) (fun τ => f < 10 ∧ MI τ) (fun τ rr τ1 => rr = nI (sFc τ f s op) ∧ τ1 = τ) := by
  refine gMI_of (by decide) (fun A => Nat.le_of_ble_eq_true rfl) ?_
  intro X τ hC hP hE
  have hC : gOk wM l X cX6_flawCells "GemCutModel" 4 0 0 := hC
  show G wM X 0 0 0 [some (.ref (gA X 0)), some (.int (nI f)), some (.int s), some (.int (b2i op)), none, none] [] τ
  have lp : ∀ (m k : Nat), k + m = 1000 → G wM X 0 0 6 [some (.ref (gA X 0)), some (.int (nI f)), some (.int s), some (.int (b2i op)), some (.int (nI (cnt (pFc τ f s op) k))), some (.int (nI k))] [] (τ) := by
    intro m
    induction m with
    | zero =>
      intro k hk 
      have hk : k = 1000 := by omega
      subst hk
      refine g_ild5 hC dX6_flawCells_6 ?_
      refine g_sipush 1000 hC dX6_flawCells_8 (by decide) ?_
      refine g_icmp_ge 64 hC dX6_flawCells_11 (by decide) (fun c11 => ?_) (fun c11 => absurd (lit_le (show (1000 : Int32) = nI 1000 by decide) (by omega) (by omega)) c11)
      refine g_ild4 hC dX6_flawCells_64 ?_
      exact hE _ _ _ _ _ _ dX6_flawCells_66 (Nat.le_refl _) (Nat.le_refl _) ⟨by rfl, rfl⟩
    | succ m ih =>
      intro k hk 
      refine g_ild5 hC dX6_flawCells_6 ?_
      refine g_sipush 1000 hC dX6_flawCells_8 (by decide) ?_
      refine g_icmp_ge 64 hC dX6_flawCells_11 (by decide) (fun c11 => absurd c11 (lit_nle (show (1000 : Int32) = nI 1000 by decide) (by omega) (by omega))) (fun c11 => ?_)
      refine g_ild4 hC dX6_flawCells_14 ?_
      refine g_ald0 hC dX6_flawCells_16 ?_
      refine mg_Model_cells hC tw_4_26 dX6_flawCells_17 ?_
      refine g_ild5 hC dX6_flawCells_20 ?_
      refine ml_cells _ hC rfl (by omega) dX6_flawCells_22 ?_
      refine g_ild2 hC dX6_flawCells_23 ?_
      refine g_icmp_ne 54 hC dX6_flawCells_24 (by decide) (fun c24 => ?_) (fun c24 => ?_)
      · refine g_iconst 0 hC dX6_flawCells_54 (by decide) ?_
        refine g_iadd hC dX6_flawCells_55 ?_
        refine g_ist4 hC dX6_flawCells_56 rfl ?_
        refine g_inc5 1 hC dX6_flawCells_58 (by decide) rfl ?_
        refine g_goto 6 hC dX6_flawCells_61 (by decide) ?_
        (try simp only [b2i_eq0, Bool.not_eq_false, Int32.not_le, Int32.not_lt] at c11 c24)
        first
        | (rw [cnt_s1 (P := pFc τ f s op) (by simp [pFc, c11, c24]), nI_1]; exact ih (k + 1) (by omega))
        | (rw [cnt_s0 (P := pFc τ f s op) (by simp [pFc, c11, c24]), nI_1]; exact ih (k + 1) (by omega))
      · refine g_ald0 hC dX6_flawCells_27 ?_
        refine g_ild1 hC dX6_flawCells_28 ?_
        refine g_ild5 hC dX6_flawCells_29 ?_
        refine k_X6_isFlawed hC tw_4_101 dX6_flawCells_31 (by decide) ⟨by omega, by omega⟩ (Nat.le_of_ble_eq_true rfl) ⟨hP.1, by omega⟩ ?_
        refine g_if_eq 54 hC dX6_flawCells_34 (by decide) (fun c34 => ?_) (fun c34 => ?_)
        · refine g_iconst 0 hC dX6_flawCells_54 (by decide) ?_
          refine g_iadd hC dX6_flawCells_55 ?_
          refine g_ist4 hC dX6_flawCells_56 rfl ?_
          refine g_inc5 1 hC dX6_flawCells_58 (by decide) rfl ?_
          refine g_goto 6 hC dX6_flawCells_61 (by decide) ?_
          (try simp only [b2i_eq0, Bool.not_eq_false, Int32.not_le, Int32.not_lt] at c11 c24 c34)
          first
          | (rw [cnt_s1 (P := pFc τ f s op) (by simp [pFc, c11, c24, c34]), nI_1]; exact ih (k + 1) (by omega))
          | (rw [cnt_s0 (P := pFc τ f s op) (by simp [pFc, c11, c24, c34]), nI_1]; exact ih (k + 1) (by omega))
        · refine g_ild3 hC dX6_flawCells_37 ?_
          refine g_if_eq 50 hC dX6_flawCells_38 (by decide) (fun c38 => ?_) (fun c38 => ?_)
          · refine g_iconst 1 hC dX6_flawCells_50 (by decide) ?_
            refine g_goto 55 hC dX6_flawCells_51 (by decide) ?_
            refine g_iadd hC dX6_flawCells_55 ?_
            refine g_ist4 hC dX6_flawCells_56 rfl ?_
            refine g_inc5 1 hC dX6_flawCells_58 (by decide) rfl ?_
            refine g_goto 6 hC dX6_flawCells_61 (by decide) ?_
            (try simp only [b2i_eq0, Bool.not_eq_false, Int32.not_le, Int32.not_lt] at c11 c24 c34 c38)
            first
            | (rw [cnt_s1 (P := pFc τ f s op) (by simp [pFc, c11, c24, c34, c38]), nI_1]; exact ih (k + 1) (by omega))
            | (rw [cnt_s0 (P := pFc τ f s op) (by simp [pFc, c11, c24, c34, c38]), nI_1]; exact ih (k + 1) (by omega))
          · refine g_ald0 hC dX6_flawCells_41 ?_
            refine g_ild5 hC dX6_flawCells_42 ?_
            refine k_X6_isSurface hC tw_4_110 dX6_flawCells_44 (by decide) ⟨by omega, by omega⟩ (Nat.le_of_ble_eq_true rfl) ⟨hP.2, by omega⟩ ?_
            refine g_if_eq 54 hC dX6_flawCells_47 (by decide) (fun c47 => ?_) (fun c47 => ?_)
            · refine g_iconst 0 hC dX6_flawCells_54 (by decide) ?_
              refine g_iadd hC dX6_flawCells_55 ?_
              refine g_ist4 hC dX6_flawCells_56 rfl ?_
              refine g_inc5 1 hC dX6_flawCells_58 (by decide) rfl ?_
              refine g_goto 6 hC dX6_flawCells_61 (by decide) ?_
              (try simp only [b2i_eq0, Bool.not_eq_false, Int32.not_le, Int32.not_lt] at c11 c24 c34 c38 c47)
              first
              | (rw [cnt_s1 (P := pFc τ f s op) (by simp [pFc, c11, c24, c34, c38, c47]), nI_1]; exact ih (k + 1) (by omega))
              | (rw [cnt_s0 (P := pFc τ f s op) (by simp [pFc, c11, c24, c34, c38, c47]), nI_1]; exact ih (k + 1) (by omega))
            · refine g_iconst 1 hC dX6_flawCells_50 (by decide) ?_
              refine g_goto 55 hC dX6_flawCells_51 (by decide) ?_
              refine g_iadd hC dX6_flawCells_55 ?_
              refine g_ist4 hC dX6_flawCells_56 rfl ?_
              refine g_inc5 1 hC dX6_flawCells_58 (by decide) rfl ?_
              refine g_goto 6 hC dX6_flawCells_61 (by decide) ?_
              (try simp only [b2i_eq0, Bool.not_eq_false, Int32.not_le, Int32.not_lt] at c11 c24 c34 c38 c47)
              first
              | (rw [cnt_s1 (P := pFc τ f s op) (by simp [pFc, c11, c24, c34, c38, c47]), nI_1]; exact ih (k + 1) (by omega))
              | (rw [cnt_s0 (P := pFc τ f s op) (by simp [pFc, c11, c24, c34, c38, c47]), nI_1]; exact ih (k + 1) (by omega))
  refine g_iconst 0 hC dX6_flawCells_0 (by decide) ?_
  refine g_ist4 hC dX6_flawCells_1 rfl ?_
  refine g_iconst 0 hC dX6_flawCells_3 (by decide) ?_
  refine g_ist5 hC dX6_flawCells_4 rfl ?_
  exact lp 1000 0 (by omega)
theorem k_X6_flawCells {l : Launch} {X : gC} {cc : ByteArray} {own : String} {dd ca sa kc nc pc : Nat} {ls : List (Option Value)} {st : List Value} {σ : Mem} {idx : Nat} {f : Nat} {s : Int32} {op : Bool} (hC : gOk wM l X cc own dd ca sa) (hlk : Cond.methodLink own idx yX6_flawCells ∈ TB) (hd : decode cc pc = .ok (.invokevirtual idx, 3)) (hdd : 4 + 1 ≤ dd) (hf : kc + 0 ≤ ca ∧ nc + 0 ≤ sa) (hrest : (st.map fun v => v.category).sum ≤ 8)  (hP : f < 10 ∧ MI σ) (kk : G wM X kc nc (pc + 3) ls (.int (nI (sFc σ f s op)) :: st) (σ)) : G wM X kc nc pc ls (.int (b2i op) :: .int s :: .int (nI f) :: .ref (gA X 0) :: st) σ := by
  exact g_cVI 3 hC (c_X6_flawCells l f s op) hlk ⟨tw_4_99, tws_2_12, tw_1_7, tw_4_100⟩ (by decide +kernel) ⟨hdd, by decide⟩ hf rfl rfl rfl (gW_at wM _ _ (by decide)) hrest rfl hd hP (fun rr σ1 hq => by obtain ⟨rfl, rfl⟩ := hq; exact kk)
set_option maxRecDepth 100000 in
set_option maxHeartbeats 4000000 in
/-- X6_flawTold -/
theorem c_X6_flawTold (l : Launch) (f : Nat) (s w : Int32) : gMI wM l yX6_flawTold (.code yX6_flawTold cX6_flawTold 4 (some FieldType.int)) 5 0 0 (fun A => [.ref (A 0), .int (nI f), .int s, .int w]) (fun τ => f < 10 ∧ MI τ) (fun τ rr τ1 => rr = sFt τ f s w ∧ τ1 = τ) := by
  refine gMI_of (by decide) (fun A => Nat.le_of_ble_eq_true rfl) ?_
  intro X τ hC hP hE
  have hC : gOk wM l X cX6_flawTold "GemCutModel" 5 0 0 := hC
  show G wM X 0 0 0 [some (.ref (gA X 0)), some (.int (nI f)), some (.int s), some (.int w)] [] τ
  refine g_ild3 hC dX6_flawTold_0 ?_
  refine g_iconst 2 hC dX6_flawTold_1 (by decide) ?_
  refine g_icmp_ge 22 hC dX6_flawTold_2 (by decide) (fun c2 => ?_) (fun c2 => ?_)
  · have c2 : ¬ w < 2 := Int32.not_lt.mpr c2
    refine g_ald0 hC dX6_flawTold_22 ?_
    refine g_ild1 hC dX6_flawTold_23 ?_
    refine g_ild2 hC dX6_flawTold_24 ?_
    refine g_iconst 0 hC dX6_flawTold_25 (by decide) ?_
    refine k_X6_flawCells (f := f) (op := false) hC tw_4_97 dX6_flawTold_26 (by decide) ⟨by omega, by omega⟩ (Nat.le_of_ble_eq_true rfl) hP ?_
    refine g_if_ne 36 hC dX6_flawTold_29 (by decide) (fun c29 => ?_) (fun c29 => ?_)
    · refine g_ald0 hC dX6_flawTold_36 ?_
      refine g_ild1 hC dX6_flawTold_37 ?_
      refine g_ild2 hC dX6_flawTold_38 ?_
      refine g_iconst 1 hC dX6_flawTold_39 (by decide) ?_
      refine k_X6_flawCells (f := f) (op := true) hC tw_4_97 dX6_flawTold_40 (by decide) ⟨by omega, by omega⟩ (Nat.le_of_ble_eq_true rfl) hP ?_
      refine g_if_le 50 hC dX6_flawTold_43 (by decide) (fun c43 => ?_) (fun c43 => ?_)
      · refine g_iconst 0 hC dX6_flawTold_50 (by decide) ?_
        exact hE _ _ _ _ _ _ dX6_flawTold_51 (Nat.le_refl _) (Nat.le_refl _) ⟨by simp [sFt, c2, c29, c43], rfl⟩
      · refine g_iconst 1 hC dX6_flawTold_46 (by decide) ?_
        refine g_goto 51 hC dX6_flawTold_47 (by decide) ?_
        exact hE _ _ _ _ _ _ dX6_flawTold_51 (Nat.le_refl _) (Nat.le_refl _) ⟨by simp [sFt, c2, c29, c43], rfl⟩
    · refine g_iconst (-1) hC dX6_flawTold_32 (by decide) ?_
      refine g_goto 51 hC dX6_flawTold_33 (by decide) ?_
      exact hE _ _ _ _ _ _ dX6_flawTold_51 (Nat.le_refl _) (Nat.le_refl _) ⟨by simp [sFt, c2, c29], rfl⟩
  · refine g_ald0 hC dX6_flawTold_5 ?_
    refine g_ild1 hC dX6_flawTold_6 ?_
    refine g_ild2 hC dX6_flawTold_7 ?_
    refine g_ild3 hC dX6_flawTold_8 ?_
    refine g_iconst 1 hC dX6_flawTold_9 (by decide) ?_
    refine g_icmp_ne 17 hC dX6_flawTold_10 (by decide) (fun c10 => ?_) (fun c10 => ?_)
    · refine g_iconst 0 hC dX6_flawTold_17 (by decide) ?_
      refine k_X6_flawCells (f := f) (op := false) hC tw_4_97 dX6_flawTold_18 (by decide) ⟨by omega, by omega⟩ (Nat.le_of_ble_eq_true rfl) hP ?_
      exact hE _ _ _ _ _ _ dX6_flawTold_21 (Nat.le_refl _) (Nat.le_refl _) ⟨by rw [sFt, if_pos (Int32.not_le.mp c2), decide_eq_false c10], rfl⟩
    · refine g_iconst 1 hC dX6_flawTold_13 (by decide) ?_
      refine g_goto 18 hC dX6_flawTold_14 (by decide) ?_
      refine k_X6_flawCells (f := f) (op := true) hC tw_4_97 dX6_flawTold_18 (by decide) ⟨by omega, by omega⟩ (Nat.le_of_ble_eq_true rfl) hP ?_
      exact hE _ _ _ _ _ _ dX6_flawTold_21 (Nat.le_refl _) (Nat.le_refl _) ⟨by rw [sFt, if_pos (Int32.not_le.mp c2), decide_eq_true c10], rfl⟩
theorem k_X6_flawTold {l : Launch} {X : gC} {cc : ByteArray} {own : String} {dd ca sa kc nc pc : Nat} {ls : List (Option Value)} {st : List Value} {σ : Mem} {idx : Nat} {f : Nat} {s w : Int32} (hC : gOk wM l X cc own dd ca sa) (hlk : Cond.methodLink own idx yX6_flawTold ∈ TB) (hd : decode cc pc = .ok (.invokevirtual idx, 3)) (hdd : 5 + 1 ≤ dd) (hf : kc + 0 ≤ ca ∧ nc + 0 ≤ sa) (hrest : (st.map fun v => v.category).sum ≤ 8)  (hP : f < 10 ∧ MI σ) (kk : G wM X kc nc (pc + 3) ls (.int (sFt σ f s w) :: st) (σ)) : G wM X kc nc pc ls (.int w :: .int s :: .int (nI f) :: .ref (gA X 0) :: st) σ := by
  exact g_cVI 3 hC (c_X6_flawTold l f s w) hlk ⟨tw_4_95, tws_2_11, tw_1_7, tw_4_96⟩ (by decide +kernel) ⟨hdd, by decide⟩ hf rfl rfl rfl (gW_at wM _ _ (by decide)) hrest rfl hd hP (fun rr σ1 hq => by obtain ⟨rfl, rfl⟩ := hq; exact kk)
theorem gTurn_at {τ : Mem} {s p q r d t : Int32} {n : Nat} : gTurn τ s p q r d t n 1 n = τ 1 n := by simp [gTurn]
theorem gTurn_s1 {τ : Mem} {s p q r d t : Int32} {n : Nat} (h : pTurn τ s p q r d n = true) : upd2 (gTurn τ s p q r d t n) 1 n t = gTurn τ s p q r d t (n + 1) := by
  funext i k
  unfold upd2 gTurn
  by_cases hi : i = 1
  · subst hi
    by_cases hk : k = n
    · subst hk; simp [h]
    · simp only [hk, if_true, if_false, true_and]
      by_cases h2 : k < n
      · simp [h2, show k < n + 1 by omega]
      · simp [h2, show ¬ k < n + 1 by omega]
  · simp [hi]
theorem gTurn_s0 {τ : Mem} {s p q r d t : Int32} {n : Nat} (h : pTurn τ s p q r d n = false) : gTurn τ s p q r d t n = gTurn τ s p q r d t (n + 1) := by
  funext i k
  unfold gTurn
  by_cases hk : k = n
  · subst hk; simp [h]
  · by_cases h2 : k < n
    · simp [h2, show k < n + 1 by omega]
    · simp [h2, show ¬ k < n + 1 by omega]
theorem gTurn_0 {τ : Mem} {s p q r d t : Int32} : gTurn τ s p q r d t 0 = τ := by
  funext i k; simp [gTurn]
theorem gBack_at {τ : Mem} {s : Int32} {n : Nat} : gBack τ s n 1 n = τ 1 n := by simp [gBack]
theorem gBack_s1 {τ : Mem} {s : Int32} {n : Nat} (h : τ 1 n = -2) : upd2 (gBack τ s n) 1 n s = gBack τ s (n + 1) := by
  funext i k
  unfold upd2 gBack
  by_cases hi : i = 1
  · subst hi
    by_cases hk : k = n
    · subst hk; simp [h]
    · simp only [hk, if_true, if_false, true_and]
      by_cases h2 : k < n
      · simp [h2, show k < n + 1 by omega]
      · simp [h2, show ¬ k < n + 1 by omega]
  · simp [hi]
theorem gBack_s0 {τ : Mem} {s : Int32} {n : Nat} (h : ¬ τ 1 n = -2) : gBack τ s n = gBack τ s (n + 1) := by
  funext i k
  unfold gBack
  by_cases hk : k = n
  · subst hk
    by_cases hi : i = 1
    · simp [h, hi]
    · simp [hi]
  · by_cases h2 : k < n
    · simp [h2, show k < n + 1 by omega]
    · simp [h2, show ¬ k < n + 1 by omega]
theorem gBack_0 {τ : Mem} {s : Int32} : gBack τ s 0 = τ := by
  funext i k; simp [gBack]

set_option maxRecDepth 100000 in
set_option maxHeartbeats 4000000 in
/-- X6_turn -/
theorem c_X6_turn (l : Launch) (s p q r d t : Int32) : gMI wM l yX6_turn (.code yX6_turn cX6_turn 9 (some FieldType.int)) 1 0 0 (fun A => [.ref (A 0), .int s, .int p, .int q, .int r, .int d, .int t]) (fun τ => True) (fun τ rr τ1 => rr = nI (sTurn τ s p q r d) ∧ τ1 = gTurn τ s p q r d t 1000) := by
  refine gMI_of (by decide) (fun A => Nat.le_of_ble_eq_true rfl) ?_
  intro X τ hC hP hE
  have hC : gOk wM l X cX6_turn "GemCutModel" 1 0 0 := hC
  show G wM X 0 0 0 [some (.ref (gA X 0)), some (.int s), some (.int p), some (.int q), some (.int r), some (.int d), some (.int t), none, none] [] τ
  have lp : ∀ (m k : Nat), k + m = 1000 → G wM X 0 0 6 [some (.ref (gA X 0)), some (.int s), some (.int p), some (.int q), some (.int r), some (.int d), some (.int t), some (.int (nI (cnt (pTurn τ s p q r d) k))), some (.int (nI k))] [] (gTurn τ s p q r d t k) := by
    intro m
    induction m with
    | zero =>
      intro k hk 
      have hk : k = 1000 := by omega
      subst hk
      refine g_ild8 hC dX6_turn_6 ?_
      refine g_sipush 1000 hC dX6_turn_8 (by decide) ?_
      refine g_icmp_ge 60 hC dX6_turn_11 (by decide) (fun c11 => ?_) (fun c11 => absurd (lit_le (show (1000 : Int32) = nI 1000 by decide) (by omega) (by omega)) c11)
      refine g_ild7 hC dX6_turn_60 ?_
      exact hE _ _ _ _ _ _ dX6_turn_62 (Nat.le_refl _) (Nat.le_refl _) ⟨by rfl, rfl⟩
    | succ m ih =>
      intro k hk 
      refine g_ild8 hC dX6_turn_6 ?_
      refine g_sipush 1000 hC dX6_turn_8 (by decide) ?_
      refine g_icmp_ge 60 hC dX6_turn_11 (by decide) (fun c11 => absurd c11 (lit_nle (show (1000 : Int32) = nI 1000 by decide) (by omega) (by omega))) (fun c11 => ?_)
      refine g_ald0 hC dX6_turn_14 ?_
      refine mg_Model_cells hC tw_4_26 dX6_turn_15 ?_
      refine g_ild8 hC dX6_turn_18 ?_
      refine ml_cells _ hC rfl (by omega) dX6_turn_20 ?_
      rw [gTurn_at]
      refine g_ild1 hC dX6_turn_21 ?_
      refine g_icmp_ne 54 hC dX6_turn_22 (by decide) (fun c22 => ?_) (fun c22 => ?_)
      · refine g_inc8 1 hC dX6_turn_54 (by decide) rfl ?_
        refine g_goto 6 hC dX6_turn_57 (by decide) ?_
        first
        | (have hPk : pTurn τ s p q r d k = true := by simp [pTurn, c11, c22]
           rw [gTurn_s1 hPk, show nI (cnt (pTurn τ s p q r d) k) + 1 = nI (cnt (pTurn τ s p q r d) (k + 1)) from cnt_s1 hPk, nI_1]
           exact ih (k + 1) (by omega))
        | (have hPk : pTurn τ s p q r d k = false := by (simp [pTurn, Int32.not_lt, c11, c22])
           rw [gTurn_s0 hPk, nI_1, show nI (cnt (pTurn τ s p q r d) k) = nI (cnt (pTurn τ s p q r d) (k + 1)) by rw [cnt_f hPk]]
           exact ih (k + 1) (by omega))
      · refine g_ild8 hC dX6_turn_25 ?_
        refine g_ild2 hC dX6_turn_27 ?_
        refine g_ild3 hC dX6_turn_28 ?_
        refine g_ild4 hC dX6_turn_29 ?_
        refine k_X6_height hC tw_4_133 dX6_turn_31 (by decide) ⟨by omega, by omega⟩ (Nat.le_of_ble_eq_true rfl) (by omega) ?_
        refine g_ild5 hC dX6_turn_34 ?_
        refine g_icmp_gt 42 hC dX6_turn_36 (by decide) (fun c36 => ?_) (fun c36 => ?_)
        · refine g_ald0 hC dX6_turn_42 ?_
          refine mg_Model_cells hC tw_4_26 dX6_turn_43 ?_
          refine g_ild8 hC dX6_turn_46 ?_
          refine g_ild6 hC dX6_turn_48 ?_
          refine ms_cells _ hC rfl (by omega) dX6_turn_50 ?_
          refine g_inc7 1 hC dX6_turn_51 (by decide) rfl ?_
          refine g_inc8 1 hC dX6_turn_54 (by decide) rfl ?_
          refine g_goto 6 hC dX6_turn_57 (by decide) ?_
          first
          | (have hPk : pTurn τ s p q r d k = true := by simp [pTurn, c11, c22, c36]
             rw [gTurn_s1 hPk, show nI (cnt (pTurn τ s p q r d) k) + 1 = nI (cnt (pTurn τ s p q r d) (k + 1)) from cnt_s1 hPk, nI_1]
             exact ih (k + 1) (by omega))
          | (have hPk : pTurn τ s p q r d k = false := by (simp [pTurn, Int32.not_lt, c11, c22, c36])
             rw [gTurn_s0 hPk, nI_1, show nI (cnt (pTurn τ s p q r d) k) = nI (cnt (pTurn τ s p q r d) (k + 1)) by rw [cnt_f hPk]]
             exact ih (k + 1) (by omega))
        · refine g_goto 54 hC dX6_turn_39 (by decide) ?_
          refine g_inc8 1 hC dX6_turn_54 (by decide) rfl ?_
          refine g_goto 6 hC dX6_turn_57 (by decide) ?_
          first
          | (have hPk : pTurn τ s p q r d k = true := by simp [pTurn, c11, c22, c36]
             rw [gTurn_s1 hPk, show nI (cnt (pTurn τ s p q r d) k) + 1 = nI (cnt (pTurn τ s p q r d) (k + 1)) from cnt_s1 hPk, nI_1]
             exact ih (k + 1) (by omega))
          | (have hPk : pTurn τ s p q r d k = false := by (simp [pTurn, Int32.not_lt, c11, c22, c36])
             rw [gTurn_s0 hPk, nI_1, show nI (cnt (pTurn τ s p q r d) k) = nI (cnt (pTurn τ s p q r d) (k + 1)) by rw [cnt_f hPk]]
             exact ih (k + 1) (by omega))
  refine g_iconst 0 hC dX6_turn_0 (by decide) ?_
  refine g_ist7 hC dX6_turn_1 rfl ?_
  refine g_iconst 0 hC dX6_turn_3 (by decide) ?_
  refine g_ist8 hC dX6_turn_4 rfl ?_
  have h0 := lp 1000 0 (by omega)
  rw [gTurn_0] at h0
  exact h0
theorem k_X6_turn {l : Launch} {X : gC} {cc : ByteArray} {own : String} {dd ca sa kc nc pc : Nat} {ls : List (Option Value)} {st : List Value} {σ : Mem} {idx : Nat} {s p q r d t : Int32} (hC : gOk wM l X cc own dd ca sa) (hlk : Cond.methodLink own idx yX6_turn ∈ TB) (hd : decode cc pc = .ok (.invokevirtual idx, 3)) (hdd : 1 + 1 ≤ dd) (hf : kc + 0 ≤ ca ∧ nc + 0 ≤ sa) (hrest : (st.map fun v => v.category).sum ≤ 8)   (kk : G wM X kc nc (pc + 3) ls (.int (nI (sTurn σ s p q r d)) :: st) (gTurn σ s p q r d t 1000)) : G wM X kc nc pc ls (.int t :: .int d :: .int r :: .int q :: .int p :: .int s :: .ref (gA X 0) :: st) σ := by
  exact g_cVI 6 hC (c_X6_turn l s p q r d t) hlk ⟨tw_4_131, tws_3_2, tw_1_7, tw_4_132⟩ (by decide +kernel) ⟨hdd, by decide⟩ hf rfl rfl rfl (gW_at wM _ _ (by decide)) hrest rfl hd trivial (fun rr σ1 hq => by obtain ⟨rfl, rfl⟩ := hq; exact kk)
set_option maxRecDepth 100000 in
set_option maxHeartbeats 4000000 in
/-- X6_back -/
theorem c_X6_back (l : Launch) (s : Int32) : gMV wM l yX6_back (.code yX6_back cX6_back 3 none) 0 0 0 (fun A => [.ref (A 0), .int s]) (fun τ => True) (fun τ τ1 => τ1 = gBack τ s 1000) := by
  refine gMV_of (by decide) (fun A => Nat.le_of_ble_eq_true rfl) ?_
  intro X τ hC hP hE
  have hC : gOk wM l X cX6_back "GemCutModel" 0 0 0 := hC
  show G wM X 0 0 0 [some (.ref (gA X 0)), some (.int s), none] [] τ
  have lp : ∀ (m k : Nat), k + m = 1000 → G wM X 0 0 2 [some (.ref (gA X 0)), some (.int s), some (.int (nI k))] [] (gBack τ s k) := by
    intro m
    induction m with
    | zero =>
      intro k hk 
      have hk : k = 1000 := by omega
      subst hk
      refine g_ild2 hC dX6_back_2 ?_
      refine g_sipush 1000 hC dX6_back_3 (by decide) ?_
      refine g_icmp_ge 33 hC dX6_back_6 (by decide) (fun c6 => ?_) (fun c6 => absurd (lit_le (show (1000 : Int32) = nI 1000 by decide) (by omega) (by omega)) c6)
      exact hE _ _ _ _ _ dX6_back_33 (Nat.le_refl _) (Nat.le_refl _) rfl
    | succ m ih =>
      intro k hk 
      refine g_ild2 hC dX6_back_2 ?_
      refine g_sipush 1000 hC dX6_back_3 (by decide) ?_
      refine g_icmp_ge 33 hC dX6_back_6 (by decide) (fun c6 => absurd c6 (lit_nle (show (1000 : Int32) = nI 1000 by decide) (by omega) (by omega))) (fun c6 => ?_)
      refine g_ald0 hC dX6_back_9 ?_
      refine mg_Model_cells hC tw_4_26 dX6_back_10 ?_
      refine g_ild2 hC dX6_back_13 ?_
      refine ml_cells _ hC rfl (by omega) dX6_back_14 ?_
      rw [gBack_at]
      refine g_bipush (-2) hC dX6_back_15 (by decide) ?_
      refine g_icmp_ne 27 hC dX6_back_17 (by decide) (fun c17 => ?_) (fun c17 => ?_)
      · refine g_inc2 1 hC dX6_back_27 (by decide) rfl ?_
        refine g_goto 2 hC dX6_back_30 (by decide) ?_
        first
        | (rw [gBack_s1 c17, nI_1]
           exact ih (k + 1) (by omega))
        | (rw [gBack_s0 c17, nI_1]
           exact ih (k + 1) (by omega))
      · refine g_ald0 hC dX6_back_20 ?_
        refine mg_Model_cells hC tw_4_26 dX6_back_21 ?_
        refine g_ild2 hC dX6_back_24 ?_
        refine g_ild1 hC dX6_back_25 ?_
        refine ms_cells _ hC rfl (by omega) dX6_back_26 ?_
        refine g_inc2 1 hC dX6_back_27 (by decide) rfl ?_
        refine g_goto 2 hC dX6_back_30 (by decide) ?_
        first
        | (rw [gBack_s1 c17, nI_1]
           exact ih (k + 1) (by omega))
        | (rw [gBack_s0 c17, nI_1]
           exact ih (k + 1) (by omega))
  refine g_iconst 0 hC dX6_back_0 (by decide) ?_
  refine g_ist2 hC dX6_back_1 rfl ?_
  have h0 := lp 1000 0 (by omega)
  rw [gBack_0] at h0
  exact h0
theorem k_X6_back {l : Launch} {X : gC} {cc : ByteArray} {own : String} {dd ca sa kc nc pc : Nat} {ls : List (Option Value)} {st : List Value} {σ : Mem} {idx : Nat} {s : Int32} (hC : gOk wM l X cc own dd ca sa) (hlk : Cond.methodLink own idx yX6_back ∈ TB) (hd : decode cc pc = .ok (.invokevirtual idx, 3)) (hdd : 0 + 1 ≤ dd) (hf : kc + 0 ≤ ca ∧ nc + 0 ≤ sa) (hrest : (st.map fun v => v.category).sum ≤ 8)   (kk : G wM X kc nc (pc + 3) ls st (gBack σ s 1000)) : G wM X kc nc pc ls (.int s :: .ref (gA X 0) :: st) σ := by
  exact g_cVV 1 hC (c_X6_back l s) hlk ⟨tw_4_138, tws_3_3, tw_1_7, tw_4_139⟩ (by decide +kernel) ⟨hdd, by decide⟩ hf rfl rfl rfl (gW_at wM _ _ (by decide)) hrest rfl hd trivial (fun σ1 hq => by subst hq; exact kk)
set_option maxRecDepth 100000 in
set_option maxHeartbeats 4000000 in
/-- X6_touch -/
theorem c_X6_touch (l : Launch) (s k : Nat) : gMI wM l yX6_touch (.code yX6_touch cX6_touch 6 (some FieldType.int)) 1 0 0 (fun A => [.ref (A 0), .int (nI s), .int (nI k)]) (fun τ => s < 8 ∧ k < 17) (fun τ rr τ1 => rr = nI (sTouch τ s k) ∧ τ1 = τ) := by
  refine gMI_of (by decide) (fun A => Nat.le_of_ble_eq_true rfl) ?_
  intro X τ hC hP hE
  have hC : gOk wM l X cX6_touch "GemCutModel" 1 0 0 := hC
  show G wM X 0 0 0 [some (.ref (gA X 0)), some (.int (nI s)), some (.int (nI k)), none, none, none] [] τ
  have lp : ∀ (m c : Nat), c + m = 1000 → G wM X 0 0 43 [some (.ref (gA X 0)), some (.int (nI s)), some (.int (nI k)), some (.int (sMost τ s k)), some (.int (nI (cnt (pTouch τ s k) c))), some (.int (nI c))] [] (τ) := by
    intro m
    induction m with
    | zero =>
      intro c hk 
      have hk : c = 1000 := by omega
      subst hk
      refine g_ild5 hC dX6_touch_43 ?_
      refine g_sipush 1000 hC dX6_touch_45 (by decide) ?_
      refine g_icmp_ge 116 hC dX6_touch_48 (by decide) (fun c48 => ?_) (fun c48 => absurd (lit_le (show (1000 : Int32) = nI 1000 by decide) (by omega) (by omega)) c48)
      refine g_ild4 hC dX6_touch_116 ?_
      exact hE _ _ _ _ _ _ dX6_touch_118 (Nat.le_refl _) (Nat.le_refl _) ⟨by rfl, rfl⟩
    | succ m ih =>
      intro c hk 
      refine g_ild5 hC dX6_touch_43 ?_
      refine g_sipush 1000 hC dX6_touch_45 (by decide) ?_
      refine g_icmp_ge 116 hC dX6_touch_48 (by decide) (fun c48 => absurd c48 (lit_nle (show (1000 : Int32) = nI 1000 by decide) (by omega) (by omega))) (fun c48 => ?_)
      refine g_ild4 hC dX6_touch_51 ?_
      refine g_ald0 hC dX6_touch_53 ?_
      refine mg_Model_cells hC tw_4_26 dX6_touch_54 ?_
      refine g_ild5 hC dX6_touch_57 ?_
      refine ml_cells _ hC rfl (by omega) dX6_touch_59 ?_
      refine g_ild1 hC dX6_touch_60 ?_
      refine g_icmp_ne 106 hC dX6_touch_61 (by decide) (fun c61 => ?_) (fun c61 => ?_)
      · refine g_iconst 0 hC dX6_touch_106 (by decide) ?_
        refine g_iadd hC dX6_touch_107 ?_
        refine g_ist4 hC dX6_touch_108 rfl ?_
        refine g_inc5 1 hC dX6_touch_110 (by decide) rfl ?_
        refine g_goto 43 hC dX6_touch_113 (by decide) ?_
        (try simp only [b2i_eq0, Bool.not_eq_false, Int32.not_le, Int32.not_lt] at c48 c61)
        first
        | (rw [cnt_s1 (P := pTouch τ s k) (by simp [pTouch, c48, c61]), nI_1]; exact ih (c + 1) (by omega))
        | (rw [cnt_s0 (P := pTouch τ s k) (by simp [pTouch, c48, c61]), nI_1]; exact ih (c + 1) (by omega))
      · refine g_ild5 hC dX6_touch_64 ?_
        refine g_ald0 hC dX6_touch_66 ?_
        refine g_ild1 hC dX6_touch_67 ?_
        refine g_ild2 hC dX6_touch_68 ?_
        refine g_iconst 0 hC dX6_touch_69 (by decide) ?_
        refine k_X6_pl (s := s) (k := k) (w := 0) hC tw_4_164 dX6_touch_70 (by decide) ⟨by omega, by omega⟩ (Nat.le_of_ble_eq_true rfl) ⟨by omega, by omega, by omega⟩ ?_
        refine g_ald0 hC dX6_touch_73 ?_
        refine g_ild1 hC dX6_touch_74 ?_
        refine g_ild2 hC dX6_touch_75 ?_
        refine g_iconst 1 hC dX6_touch_76 (by decide) ?_
        refine k_X6_pl (s := s) (k := k) (w := 1) hC tw_4_164 dX6_touch_77 (by decide) ⟨by omega, by omega⟩ (Nat.le_of_ble_eq_true rfl) ⟨by omega, by omega, by omega⟩ ?_
        refine g_ald0 hC dX6_touch_80 ?_
        refine g_ild1 hC dX6_touch_81 ?_
        refine g_ild2 hC dX6_touch_82 ?_
        refine g_iconst 2 hC dX6_touch_83 (by decide) ?_
        refine k_X6_pl (s := s) (k := k) (w := 2) hC tw_4_164 dX6_touch_84 (by decide) ⟨by omega, by omega⟩ (Nat.le_of_ble_eq_true rfl) ⟨by omega, by omega, by omega⟩ ?_
        refine k_X6_height hC tw_4_133 dX6_touch_87 (by decide) ⟨by omega, by omega⟩ (Nat.le_of_ble_eq_true rfl) (by omega) ?_
        refine g_ild3 hC dX6_touch_90 ?_
        refine g_iadd hC dX6_touch_91 ?_
        refine g_ald0 hC dX6_touch_92 ?_
        refine g_ild1 hC dX6_touch_93 ?_
        refine g_ild2 hC dX6_touch_94 ?_
        refine g_iconst 3 hC dX6_touch_95 (by decide) ?_
        refine k_X6_pl (s := s) (k := k) (w := 3) hC tw_4_164 dX6_touch_96 (by decide) ⟨by omega, by omega⟩ (Nat.le_of_ble_eq_true rfl) ⟨by omega, by omega, by omega⟩ ?_
        refine g_icmp_le 106 hC dX6_touch_99 (by decide) (fun c99 => ?_) (fun c99 => ?_)
        · refine g_iconst 0 hC dX6_touch_106 (by decide) ?_
          refine g_iadd hC dX6_touch_107 ?_
          refine g_ist4 hC dX6_touch_108 rfl ?_
          refine g_inc5 1 hC dX6_touch_110 (by decide) rfl ?_
          refine g_goto 43 hC dX6_touch_113 (by decide) ?_
          (try simp only [b2i_eq0, Bool.not_eq_false, Int32.not_le, Int32.not_lt] at c48 c61 c99)
          first
          | (rw [cnt_s1 (P := pTouch τ s k) (by simp [pTouch, c48, c61, c99]), nI_1]; exact ih (c + 1) (by omega))
          | (rw [cnt_s0 (P := pTouch τ s k) (by simp [pTouch, c48, c61, c99]), nI_1]; exact ih (c + 1) (by omega))
        · refine g_iconst 1 hC dX6_touch_102 (by decide) ?_
          refine g_goto 107 hC dX6_touch_103 (by decide) ?_
          refine g_iadd hC dX6_touch_107 ?_
          refine g_ist4 hC dX6_touch_108 rfl ?_
          refine g_inc5 1 hC dX6_touch_110 (by decide) rfl ?_
          refine g_goto 43 hC dX6_touch_113 (by decide) ?_
          (try simp only [b2i_eq0, Bool.not_eq_false, Int32.not_le, Int32.not_lt] at c48 c61 c99)
          first
          | (rw [cnt_s1 (P := pTouch τ s k) (by simp [pTouch, c48, c61, c99]), nI_1]; exact ih (c + 1) (by omega))
          | (rw [cnt_s0 (P := pTouch τ s k) (by simp [pTouch, c48, c61, c99]), nI_1]; exact ih (c + 1) (by omega))
  refine g_ald0 hC dX6_touch_0 ?_
  refine g_ild1 hC dX6_touch_1 ?_
  refine g_ild2 hC dX6_touch_2 ?_
  refine g_iconst 0 hC dX6_touch_3 (by decide) ?_
  refine k_X6_pl (s := s) (k := k) (w := 0) hC tw_4_164 dX6_touch_4 (by decide) ⟨by omega, by omega⟩ (Nat.le_of_ble_eq_true rfl) ⟨by omega, by omega, by omega⟩ ?_
  refine g_mabs hC (by first | assumption | omega | decide) tw_4_109 (Nat.le_of_ble_eq_true rfl) ⟨by omega, by omega⟩ dX6_touch_7 ?_
  refine g_ald0 hC dX6_touch_10 ?_
  refine g_ild1 hC dX6_touch_11 ?_
  refine g_ild2 hC dX6_touch_12 ?_
  refine g_iconst 1 hC dX6_touch_13 (by decide) ?_
  refine k_X6_pl (s := s) (k := k) (w := 1) hC tw_4_164 dX6_touch_14 (by decide) ⟨by omega, by omega⟩ (Nat.le_of_ble_eq_true rfl) ⟨by omega, by omega, by omega⟩ ?_
  refine g_mabs hC (by first | assumption | omega | decide) tw_4_109 (Nat.le_of_ble_eq_true rfl) ⟨by omega, by omega⟩ dX6_touch_17 ?_
  refine g_ald0 hC dX6_touch_20 ?_
  refine g_ild1 hC dX6_touch_21 ?_
  refine g_ild2 hC dX6_touch_22 ?_
  refine g_iconst 2 hC dX6_touch_23 (by decide) ?_
  refine k_X6_pl (s := s) (k := k) (w := 2) hC tw_4_164 dX6_touch_24 (by decide) ⟨by omega, by omega⟩ (Nat.le_of_ble_eq_true rfl) ⟨by omega, by omega, by omega⟩ ?_
  refine g_mabs hC (by first | assumption | omega | decide) tw_4_109 (Nat.le_of_ble_eq_true rfl) ⟨by omega, by omega⟩ dX6_touch_27 ?_
  refine g_mmax hC (by first | assumption | omega | decide) tw_4_168 (Nat.le_of_ble_eq_true rfl) ⟨by omega, by omega⟩ dX6_touch_30 ?_
  refine g_mmax hC (by first | assumption | omega | decide) tw_4_168 (Nat.le_of_ble_eq_true rfl) ⟨by omega, by omega⟩ dX6_touch_33 ?_
  refine g_ist3 hC dX6_touch_36 rfl ?_
  refine g_iconst 0 hC dX6_touch_37 (by decide) ?_
  refine g_ist4 hC dX6_touch_38 rfl ?_
  refine g_iconst 0 hC dX6_touch_40 (by decide) ?_
  refine g_ist5 hC dX6_touch_41 rfl ?_
  exact lp 1000 0 (by omega)
theorem k_X6_touch {l : Launch} {X : gC} {cc : ByteArray} {own : String} {dd ca sa kc nc pc : Nat} {ls : List (Option Value)} {st : List Value} {σ : Mem} {idx : Nat} {s k : Nat} (hC : gOk wM l X cc own dd ca sa) (hlk : Cond.methodLink own idx yX6_touch ∈ TB) (hd : decode cc pc = .ok (.invokevirtual idx, 3)) (hdd : 1 + 1 ≤ dd) (hf : kc + 0 ≤ ca ∧ nc + 0 ≤ sa) (hrest : (st.map fun v => v.category).sum ≤ 8)  (hP : s < 8 ∧ k < 17) (kk : G wM X kc nc (pc + 3) ls (.int (nI (sTouch σ s k)) :: st) (σ)) : G wM X kc nc pc ls (.int (nI k) :: .int (nI s) :: .ref (gA X 0) :: st) σ := by
  exact g_cVI 2 hC (c_X6_touch l s k) hlk ⟨tw_4_162, tws_3_7, tw_1_7, tw_4_163⟩ (by decide +kernel) ⟨hdd, by decide⟩ hf rfl rfl rfl (gW_at wM _ _ (by decide)) hrest rfl hd hP (fun rr σ1 hq => by obtain ⟨rfl, rfl⟩ := hq; exact kk)
set_option maxRecDepth 100000 in
set_option maxHeartbeats 4000000 in
/-- X6_isFacet -/
theorem c_X6_isFacet (l : Launch) (s k : Nat) : gMZ wM l yX6_isFacet (.code yX6_isFacet cX6_isFacet 3 (some FieldType.boolean)) 2 0 0 (fun A => [.ref (A 0), .int (nI s), .int (nI k)]) (fun τ => s < 8 ∧ k < 17) (fun τ rr τ1 => rr = b2i (sFacet τ s k) ∧ τ1 = τ) := by
  refine gMZ_of (by decide) (fun A => Nat.le_of_ble_eq_true rfl) ?_
  intro X τ hC hP hE
  have hC : gOk wM l X cX6_isFacet "GemCutModel" 2 0 0 := hC
  show G wM X 0 0 0 [some (.ref (gA X 0)), some (.int (nI s)), some (.int (nI k))] [] τ
  refine g_ald0 hC dX6_isFacet_0 ?_
  refine g_ild1 hC dX6_isFacet_1 ?_
  refine g_ild2 hC dX6_isFacet_2 ?_
  refine k_X6_touch hC tw_4_160 dX6_isFacet_3 (by decide) ⟨by omega, by omega⟩ (Nat.le_of_ble_eq_true rfl) hP ?_
  refine g_if_le 13 hC dX6_isFacet_6 (by decide) (fun c6 => ?_) (fun c6 => ?_)
  · refine g_iconst 0 hC dX6_isFacet_13 (by decide) ?_
    exact hE _ _ _ _ _ _ dX6_isFacet_14 (Nat.le_refl _) (Nat.le_refl _) (by first | exact Or.inl rfl | exact Or.inr rfl | exact b2i_01 _) ⟨by (try simp only [b2i_eq0, Bool.not_eq_false, Int32.not_le, Int32.not_lt] at c6); simp [sFacet, b2i, Int32.not_lt, c6], rfl⟩
  · refine g_iconst 1 hC dX6_isFacet_9 (by decide) ?_
    refine g_goto 14 hC dX6_isFacet_10 (by decide) ?_
    exact hE _ _ _ _ _ _ dX6_isFacet_14 (Nat.le_refl _) (Nat.le_refl _) (by first | exact Or.inl rfl | exact Or.inr rfl | exact b2i_01 _) ⟨by (try simp only [b2i_eq0, Bool.not_eq_false, Int32.not_le, Int32.not_lt] at c6); simp [sFacet, b2i, Int32.not_lt, c6], rfl⟩
theorem k_X6_isFacet {l : Launch} {X : gC} {cc : ByteArray} {own : String} {dd ca sa kc nc pc : Nat} {ls : List (Option Value)} {st : List Value} {σ : Mem} {idx : Nat} {s k : Nat} (hC : gOk wM l X cc own dd ca sa) (hlk : Cond.methodLink own idx yX6_isFacet ∈ TB) (hd : decode cc pc = .ok (.invokevirtual idx, 3)) (hdd : 2 + 1 ≤ dd) (hf : kc + 0 ≤ ca ∧ nc + 0 ≤ sa) (hrest : (st.map fun v => v.category).sum ≤ 8)  (hP : s < 8 ∧ k < 17) (kk : G wM X kc nc (pc + 3) ls (.int (b2i (sFacet σ s k)) :: st) (σ)) : G wM X kc nc pc ls (.int (nI k) :: .int (nI s) :: .ref (gA X 0) :: st) σ := by
  exact g_cVZ 2 hC (c_X6_isFacet l s k) hlk ⟨tw_4_187, tws_3_11, tw_1_7, tw_4_188⟩ (by decide +kernel) ⟨hdd, by decide⟩ hf rfl rfl rfl (gW_at wM _ _ (by decide)) hrest rfl hd hP (fun rr σ1 hq => by obtain ⟨rfl, rfl⟩ := hq; exact kk)
set_option maxRecDepth 100000 in
set_option maxHeartbeats 4000000 in
/-- X6_facets -/
theorem c_X6_facets (l : Launch) (s : Nat) (po : Bool) : gMI wM l yX6_facets (.code yX6_facets cX6_facets 5 (some FieldType.int)) 3 0 0 (fun A => [.ref (A 0), .int (nI s), .int (b2i po)]) (fun τ => s < 8 ∧ MI τ) (fun τ rr τ1 => rr = nI (sFacets τ s po) ∧ τ1 = τ) := by
  refine gMI_of (by decide) (fun A => Nat.le_of_ble_eq_true rfl) ?_
  intro X τ hC hP hE
  have hC : gOk wM l X cX6_facets "GemCutModel" 3 0 0 := hC
  show G wM X 0 0 0 [some (.ref (gA X 0)), some (.int (nI s)), some (.int (b2i po)), none, none] [] τ
  obtain ⟨hm, hm2⟩ := MI_P hP.2 hP.1
  have lp : ∀ (m k : Nat), k + m = nP τ s → G wM X 0 0 5 [some (.ref (gA X 0)), some (.int (nI s)), some (.int (b2i po)), some (.int (nI (cnt (pFacets τ s po) k))), some (.int (nI k))] [] (τ) := by
    intro m
    induction m with
    | zero =>
      intro k hk 
      have hk : k = nP τ s := by omega
      subst hk
      refine g_ild4 hC dX6_facets_5 ?_
      refine g_ald0 hC dX6_facets_7 ?_
      refine mg_Model_many hC tw_4_31 dX6_facets_8 ?_
      refine g_ild1 hC dX6_facets_11 ?_
      refine ml_many s hC rfl hP.1 dX6_facets_12 ?_
      refine g_icmp_ge 56 hC dX6_facets_13 (by decide) (fun c13 => ?_) (fun c13 => absurd (by rw [hm]; exact nI_le (by omega) (by omega)) c13)
      refine g_ild3 hC dX6_facets_56 ?_
      exact hE _ _ _ _ _ _ dX6_facets_57 (Nat.le_refl _) (Nat.le_refl _) ⟨by rfl, rfl⟩
    | succ m ih =>
      intro k hk 
      refine g_ild4 hC dX6_facets_5 ?_
      refine g_ald0 hC dX6_facets_7 ?_
      refine mg_Model_many hC tw_4_31 dX6_facets_8 ?_
      refine g_ild1 hC dX6_facets_11 ?_
      refine ml_many s hC rfl hP.1 dX6_facets_12 ?_
      refine g_icmp_ge 56 hC dX6_facets_13 (by decide) (fun c13 => absurd c13 (by rw [hm]; exact nI_ge (by omega) (by omega))) (fun c13 => ?_)
      refine g_ild3 hC dX6_facets_16 ?_
      refine g_ald0 hC dX6_facets_17 ?_
      refine g_ild1 hC dX6_facets_18 ?_
      refine g_ild4 hC dX6_facets_19 ?_
      refine k_X6_isFacet hC tw_4_185 dX6_facets_21 (by decide) ⟨by omega, by omega⟩ (Nat.le_of_ble_eq_true rfl) ⟨hP.1, by omega⟩ ?_
      refine g_if_eq 47 hC dX6_facets_24 (by decide) (fun c24 => ?_) (fun c24 => ?_)
      · refine g_iconst 0 hC dX6_facets_47 (by decide) ?_
        refine g_iadd hC dX6_facets_48 ?_
        refine g_ist3 hC dX6_facets_49 rfl ?_
        refine g_inc4 1 hC dX6_facets_50 (by decide) rfl ?_
        refine g_goto 5 hC dX6_facets_53 (by decide) ?_
        (try simp only [b2i_eq0, Bool.not_eq_false, Int32.not_le, Int32.not_lt] at c13 c24)
        first
        | (rw [cnt_s1 (P := pFacets τ s po) (by simp [pFacets, c13, c24]), nI_1]; exact ih (k + 1) (by omega))
        | (rw [cnt_s0 (P := pFacets τ s po) (by simp [pFacets, c13, c24]), nI_1]; exact ih (k + 1) (by omega))
      · refine g_ild2 hC dX6_facets_27 ?_
        refine g_if_eq 43 hC dX6_facets_28 (by decide) (fun c28 => ?_) (fun c28 => ?_)
        · refine g_iconst 1 hC dX6_facets_43 (by decide) ?_
          refine g_goto 48 hC dX6_facets_44 (by decide) ?_
          refine g_iadd hC dX6_facets_48 ?_
          refine g_ist3 hC dX6_facets_49 rfl ?_
          refine g_inc4 1 hC dX6_facets_50 (by decide) rfl ?_
          refine g_goto 5 hC dX6_facets_53 (by decide) ?_
          (try simp only [b2i_eq0, Bool.not_eq_false, Int32.not_le, Int32.not_lt] at c13 c24 c28)
          first
          | (rw [cnt_s1 (P := pFacets τ s po) (by simp [pFacets, c13, c24, c28]), nI_1]; exact ih (k + 1) (by omega))
          | (rw [cnt_s0 (P := pFacets τ s po) (by simp [pFacets, c13, c24, c28]), nI_1]; exact ih (k + 1) (by omega))
        · refine g_ald0 hC dX6_facets_31 ?_
          refine g_ild1 hC dX6_facets_32 ?_
          refine g_ild4 hC dX6_facets_33 ?_
          refine g_iconst 4 hC dX6_facets_35 (by decide) ?_
          refine k_X6_pl (s := s) (k := k) (w := 4) hC tw_4_164 dX6_facets_36 (by decide) ⟨by omega, by omega⟩ (Nat.le_of_ble_eq_true rfl) ⟨by omega, by omega, by omega⟩ ?_
          refine g_iconst 1 hC dX6_facets_39 (by decide) ?_
          refine g_icmp_ne 47 hC dX6_facets_40 (by decide) (fun c40 => ?_) (fun c40 => ?_)
          · refine g_iconst 0 hC dX6_facets_47 (by decide) ?_
            refine g_iadd hC dX6_facets_48 ?_
            refine g_ist3 hC dX6_facets_49 rfl ?_
            refine g_inc4 1 hC dX6_facets_50 (by decide) rfl ?_
            refine g_goto 5 hC dX6_facets_53 (by decide) ?_
            (try simp only [b2i_eq0, Bool.not_eq_false, Int32.not_le, Int32.not_lt] at c13 c24 c28 c40)
            first
            | (rw [cnt_s1 (P := pFacets τ s po) (by simp [pFacets, c13, c24, c28, c40]), nI_1]; exact ih (k + 1) (by omega))
            | (rw [cnt_s0 (P := pFacets τ s po) (by simp [pFacets, c13, c24, c28, c40]), nI_1]; exact ih (k + 1) (by omega))
          · refine g_iconst 1 hC dX6_facets_43 (by decide) ?_
            refine g_goto 48 hC dX6_facets_44 (by decide) ?_
            refine g_iadd hC dX6_facets_48 ?_
            refine g_ist3 hC dX6_facets_49 rfl ?_
            refine g_inc4 1 hC dX6_facets_50 (by decide) rfl ?_
            refine g_goto 5 hC dX6_facets_53 (by decide) ?_
            (try simp only [b2i_eq0, Bool.not_eq_false, Int32.not_le, Int32.not_lt] at c13 c24 c28 c40)
            first
            | (rw [cnt_s1 (P := pFacets τ s po) (by simp [pFacets, c13, c24, c28, c40]), nI_1]; exact ih (k + 1) (by omega))
            | (rw [cnt_s0 (P := pFacets τ s po) (by simp [pFacets, c13, c24, c28, c40]), nI_1]; exact ih (k + 1) (by omega))
  refine g_iconst 0 hC dX6_facets_0 (by decide) ?_
  refine g_ist3 hC dX6_facets_1 rfl ?_
  refine g_iconst 0 hC dX6_facets_2 (by decide) ?_
  refine g_ist4 hC dX6_facets_3 rfl ?_
  exact lp (nP τ s) 0 (by omega)
theorem k_X6_facets {l : Launch} {X : gC} {cc : ByteArray} {own : String} {dd ca sa kc nc pc : Nat} {ls : List (Option Value)} {st : List Value} {σ : Mem} {idx : Nat} {s : Nat} {po : Bool} (hC : gOk wM l X cc own dd ca sa) (hlk : Cond.methodLink own idx yX6_facets ∈ TB) (hd : decode cc pc = .ok (.invokevirtual idx, 3)) (hdd : 3 + 1 ≤ dd) (hf : kc + 0 ≤ ca ∧ nc + 0 ≤ sa) (hrest : (st.map fun v => v.category).sum ≤ 8)  (hP : s < 8 ∧ MI σ) (kk : G wM X kc nc (pc + 3) ls (.int (nI (sFacets σ s po)) :: st) (σ)) : G wM X kc nc pc ls (.int (b2i po) :: .int (nI s) :: .ref (gA X 0) :: st) σ := by
  exact g_cVI 2 hC (c_X6_facets l s po) hlk ⟨tw_4_183, tws_3_10, tw_1_7, tw_4_184⟩ (by decide +kernel) ⟨hdd, by decide⟩ hf rfl rfl rfl (gW_at wM _ _ (by decide)) hrest rfl hd hP (fun rr σ1 hq => by obtain ⟨rfl, rfl⟩ := hq; exact kk)
set_option maxRecDepth 100000 in
set_option maxHeartbeats 4000000 in
/-- X6_product -/
theorem c_X6_product (l : Launch) (s a b : Nat) : gMI wM l yX6_product (.code yX6_product cX6_product 6 (some FieldType.int)) 1 0 0 (fun A => [.ref (A 0), .int (nI s), .int (nI a), .int (nI b)]) (fun τ => s < 8 ∧ a < 17 ∧ b < 17) (fun τ rr τ1 => rr = sProd τ s a b ∧ τ1 = τ) := by
  refine gMI_of (by decide) (fun A => Nat.le_of_ble_eq_true rfl) ?_
  intro X τ hC hP hE
  have hC : gOk wM l X cX6_product "GemCutModel" 1 0 0 := hC
  show G wM X 0 0 0 [some (.ref (gA X 0)), some (.int (nI s)), some (.int (nI a)), some (.int (nI b)), none, none] [] τ
  have lp : ∀ (m w : Nat), w + m = 3 → G wM X 0 0 6 [some (.ref (gA X 0)), some (.int (nI s)), some (.int (nI a)), some (.int (nI b)), some (.int (sumI (fun w => sPl τ s a w * sPl τ s b w) w)), some (.int (nI w))] [] (τ) := by
    intro m
    induction m with
    | zero =>
      intro w hk
      have hk : w = 3 := by omega
      subst hk
      refine g_ild5 hC dX6_product_6 ?_
      refine g_iconst 2 hC dX6_product_8 (by decide) ?_
      refine g_icmp_gt 40 hC dX6_product_9 (by decide) (fun c9 => ?_) (fun c9 => absurd (lit_lt (show (2 : Int32) = nI 2 by decide) (by omega) (by omega)) c9)
      refine g_ild4 hC dX6_product_40 ?_
      exact hE _ _ _ _ _ _ dX6_product_42 (Nat.le_refl _) (Nat.le_refl _) ⟨by rfl, rfl⟩
    | succ m ih =>
      intro w hk
      refine g_ild5 hC dX6_product_6 ?_
      refine g_iconst 2 hC dX6_product_8 (by decide) ?_
      refine g_icmp_gt 40 hC dX6_product_9 (by decide) (fun c9 => absurd c9 (lit_nlt (show (2 : Int32) = nI 2 by decide) (by omega) (by omega))) (fun c9 => ?_)
      refine g_ild4 hC dX6_product_12 ?_
      refine g_ald0 hC dX6_product_14 ?_
      refine g_ild1 hC dX6_product_15 ?_
      refine g_ild2 hC dX6_product_16 ?_
      refine g_ild5 hC dX6_product_17 ?_
      refine k_X6_pl (s := s) (k := a) (w := w) hC tw_4_164 dX6_product_19 (by decide) ⟨by omega, by omega⟩ (Nat.le_of_ble_eq_true rfl) ⟨by omega, by omega, by omega⟩ ?_
      refine g_ald0 hC dX6_product_22 ?_
      refine g_ild1 hC dX6_product_23 ?_
      refine g_ild3 hC dX6_product_24 ?_
      refine g_ild5 hC dX6_product_25 ?_
      refine k_X6_pl (s := s) (k := b) (w := w) hC tw_4_164 dX6_product_27 (by decide) ⟨by omega, by omega⟩ (Nat.le_of_ble_eq_true rfl) ⟨by omega, by omega, by omega⟩ ?_
      refine g_imul hC dX6_product_30 ?_
      refine g_iadd hC dX6_product_31 ?_
      refine g_ist4 hC dX6_product_32 rfl ?_
      refine g_inc5 1 hC dX6_product_34 (by decide) rfl ?_
      refine g_goto 6 hC dX6_product_37 (by decide) ?_
      rw [nI_1]
      exact ih (w + 1) (by omega)
  refine g_iconst 0 hC dX6_product_0 (by decide) ?_
  refine g_ist4 hC dX6_product_1 rfl ?_
  refine g_iconst 0 hC dX6_product_3 (by decide) ?_
  refine g_ist5 hC dX6_product_4 rfl ?_
  exact lp 3 0 (by omega)
theorem k_X6_product {l : Launch} {X : gC} {cc : ByteArray} {own : String} {dd ca sa kc nc pc : Nat} {ls : List (Option Value)} {st : List Value} {σ : Mem} {idx : Nat} {s a b : Nat} (hC : gOk wM l X cc own dd ca sa) (hlk : Cond.methodLink own idx yX6_product ∈ TB) (hd : decode cc pc = .ok (.invokevirtual idx, 3)) (hdd : 1 + 1 ≤ dd) (hf : kc + 0 ≤ ca ∧ nc + 0 ≤ sa) (hrest : (st.map fun v => v.category).sum ≤ 8)  (hP : s < 8 ∧ a < 17 ∧ b < 17) (kk : G wM X kc nc (pc + 3) ls (.int (sProd σ s a b) :: st) (σ)) : G wM X kc nc pc ls (.int (nI b) :: .int (nI a) :: .int (nI s) :: .ref (gA X 0) :: st) σ := by
  exact g_cVI 3 hC (c_X6_product l s a b) hlk ⟨tw_4_215, tws_4_0, tw_1_7, tw_4_216⟩ (by decide +kernel) ⟨hdd, by decide⟩ hf rfl rfl rfl (gW_at wM _ _ (by decide)) hrest rfl hd hP (fun rr σ1 hq => by obtain ⟨rfl, rfl⟩ := hq; exact kk)
set_option maxRecDepth 100000 in
set_option maxHeartbeats 4000000 in
/-- X6_planeTold -/
theorem c_X6_planeTold (l : Launch) (s k w : Nat) : gMI wM l yX6_planeTold (.code yX6_planeTold cX6_planeTold 4 (some FieldType.int)) 2 0 0 (fun A => [.ref (A 0), .int (nI s), .int (nI k), .int (nI w)]) (fun τ => s < 8 ∧ k < 17 ∧ w < 6) (fun τ rr τ1 => rr = sPt τ s k w ∧ τ1 = τ) := by
  refine gMI_of (by decide) (fun A => Nat.le_of_ble_eq_true rfl) ?_
  intro X τ hC hP hE
  have hC : gOk wM l X cX6_planeTold "GemCutModel" 2 0 0 := hC
  show G wM X 0 0 0 [some (.ref (gA X 0)), some (.int (nI s)), some (.int (nI k)), some (.int (nI w))] [] τ
  refine g_ild3 hC dX6_planeTold_0 ?_
  refine g_iconst 4 hC dX6_planeTold_1 (by decide) ?_
  refine g_icmp_ge 15 hC dX6_planeTold_2 (by decide) (fun c2 => ?_) (fun c2 => ?_)
  · have c2 : 4 ≤ w := by rw [show (4 : Int32) = nI 4 by decide] at c2; exact (nI_leI (by omega) (by omega)).mp c2
    refine g_ild3 hC dX6_planeTold_15 ?_
    refine g_iconst 4 hC dX6_planeTold_16 (by decide) ?_
    refine g_icmp_ne 29 hC dX6_planeTold_17 (by decide) (fun c17 => ?_) (fun c17 => ?_)
    · have c17 : ¬ w = 4 := fun h => c17 (by rw [h]; decide)
      refine g_ald0 hC dX6_planeTold_29 ?_
      refine g_ild1 hC dX6_planeTold_30 ?_
      refine g_ild2 hC dX6_planeTold_31 ?_
      refine g_iconst 4 hC dX6_planeTold_32 (by decide) ?_
      refine k_X6_pl (s := s) (k := k) (w := 4) hC tw_4_164 dX6_planeTold_33 (by decide) ⟨by omega, by omega⟩ (Nat.le_of_ble_eq_true rfl) ⟨by omega, by omega, by omega⟩ ?_
      exact hE _ _ _ _ _ _ dX6_planeTold_36 (Nat.le_refl _) (Nat.le_refl _) ⟨by rw [sPt, if_neg (by omega), if_neg c17], rfl⟩
    · have c17 : w = 4 := nI_inj (by omega) (by omega) (c17.trans (by decide))
      refine g_ald0 hC dX6_planeTold_20 ?_
      refine g_ild1 hC dX6_planeTold_21 ?_
      refine g_ild2 hC dX6_planeTold_22 ?_
      refine k_X6_touch (s := s) (k := k) hC tw_4_160 dX6_planeTold_23 (by decide) ⟨by omega, by omega⟩ (Nat.le_of_ble_eq_true rfl) ⟨by omega, by omega⟩ ?_
      refine g_goto 36 hC dX6_planeTold_26 (by decide) ?_
      exact hE _ _ _ _ _ _ dX6_planeTold_36 (Nat.le_refl _) (Nat.le_refl _) ⟨by rw [sPt, if_neg (by omega), if_pos c17], rfl⟩
  · have c2 : w < 4 := by rw [show (4 : Int32) = nI 4 by decide, nI_leI (by omega) (by omega)] at c2; omega
    refine g_ald0 hC dX6_planeTold_5 ?_
    refine g_ild1 hC dX6_planeTold_6 ?_
    refine g_ild2 hC dX6_planeTold_7 ?_
    refine g_ild3 hC dX6_planeTold_8 ?_
    refine k_X6_pl (s := s) (k := k) (w := w) hC tw_4_164 dX6_planeTold_9 (by decide) ⟨by omega, by omega⟩ (Nat.le_of_ble_eq_true rfl) ⟨by omega, by omega, by omega⟩ ?_
    refine g_goto 36 hC dX6_planeTold_12 (by decide) ?_
    exact hE _ _ _ _ _ _ dX6_planeTold_36 (Nat.le_refl _) (Nat.le_refl _) ⟨by rw [sPt, if_pos c2], rfl⟩
theorem k_X6_planeTold {l : Launch} {X : gC} {cc : ByteArray} {own : String} {dd ca sa kc nc pc : Nat} {ls : List (Option Value)} {st : List Value} {σ : Mem} {idx : Nat} {s k w : Nat} (hC : gOk wM l X cc own dd ca sa) (hlk : Cond.methodLink own idx yX6_planeTold ∈ TB) (hd : decode cc pc = .ok (.invokevirtual idx, 3)) (hdd : 2 + 1 ≤ dd) (hf : kc + 0 ≤ ca ∧ nc + 0 ≤ sa) (hrest : (st.map fun v => v.category).sum ≤ 8)  (hP : s < 8 ∧ k < 17 ∧ w < 6) (kk : G wM X kc nc (pc + 3) ls (.int (sPt σ s k w) :: st) (σ)) : G wM X kc nc pc ls (.int (nI w) :: .int (nI k) :: .int (nI s) :: .ref (gA X 0) :: st) σ := by
  exact g_cVI 3 hC (c_X6_planeTold l s k w) hlk ⟨tw_4_207, tws_3_15, tw_1_7, tw_4_208⟩ (by decide +kernel) ⟨hdd, by decide⟩ hf rfl rfl rfl (gW_at wM _ _ (by decide)) hrest rfl hd hP (fun rr σ1 hq => by obtain ⟨rfl, rfl⟩ := hq; exact kk)
