/-! the class's small methods, as they are, over its memory -/
theorem rv_Plane (E : gE) (σ : Mem) {i : Nat} (hi : xk i = 12) : (gW wX E σ)[i]? = some (E.2.1 i, .inr (1, [.int (σ i 0), .int (σ i 1), .int (σ i 2), .int (σ i 3), .int (σ i 4), .int (σ i 5), .int (σ i 6)])) := by rw [gW_at _ _ _ (isP_lt hi), xe_Plane _ _ hi]
theorem rv_Flaw (E : gE) (σ : Mem) {f : Nat} (hf : f < 10) : (gW wX E σ)[iFlaw f]? = some (E.2.1 (iFlaw f), .inr (0, [.int (σ (iFlaw f) 0), .ref (E.2.1 (iFlaw f + 1)), .int (σ (iFlaw f) 2), .ref (E.2.1 (iFlaw f + 2)), .ref (E.2.1 (iFlaw f + 3))])) := by rw [gW_at _ _ _ (iFlaw_lt hf), xe_Flaw _ _ hf]
theorem rv_Stone (E : gE) (σ : Mem) {s : Nat} (hs : s < 8) : (gW wX E σ)[iStone s]? = some (E.2.1 (iStone s), .inr (3, [.int (σ (iStone s) 0), .ref (E.2.1 (iStone s + 1)), .int (σ (iStone s) 2), .int (σ (iStone s) 3), .int (σ (iStone s) 4)])) := by rw [gW_at _ _ _ (iStone_lt hs), xe_Stone _ _ hs]
theorem rv_Trial (E : gE) (σ : Mem) : (gW wX E σ)[190]? = some (E.2.1 190, .inr (4, [.ref (E.2.1 1), .ref (E.2.1 (iStone (σ 190 1).toNatClampNeg)), .ref (E.2.1 191), .ref (E.2.1 192), .ref (E.2.1 193), .ref (E.2.1 194)])) := by rw [gW_at _ _ _ (show 190 < wX.1 by decide), xe_Trial]
def xHgt (σ : Mem) (i : Nat) (x y z : Int32) : Int32 := σ i 0 * x + σ i 1 * y + σ i 2 * z
def xTch (σ : Mem) (i : Nat) (x y z : Int32) : Bool := decide (σ i 3 < xHgt σ i x y z + σ i 4)
def xProd (σ : Mem) (i j : Nat) : Int32 := σ i 0 * σ j 0 + σ i 1 * σ j 1 + σ i 2 * σ j 2
def xAng (σ : Mem) (i j : Nat) : Int32 := if xProd σ i i * xProd σ j j = 0 then 0 else if xProd σ i j < 0 then 0 - 100 * xProd σ i j * xProd σ i j / (xProd σ i i * xProd σ j j) else 100 * xProd σ i j * xProd σ i j / (xProd σ i i * xProd σ j j)
def xOpp (σ : Mem) (i j : Nat) : Bool := σ i 0 == 0 - σ j 0 && σ i 1 == 0 - σ j 1 && σ i 2 == 0 - σ j 2
def xFct (σ : Mem) (i : Nat) : Bool := decide (0 < σ i 6)
def xTell (σ : Mem) (i w : Nat) : Int32 := if w = 0 then σ i 0 else if w = 1 then σ i 1 else if w = 2 then σ i 2 else if w = 3 then σ i 3 else if w = 4 then σ i 6 else b2i (!(σ i 5 == 0))
def xReach (p q r : Int32) : Int32 := jmax (jabs p) (jmax (jabs q) (jabs r))
def hSet (σ : Mem) (i : Nat) (p q r d : Int32) : Mem := fun a b => if a = i then (if b = 0 then p else if b = 1 then q else if b = 2 then r else if b = 3 then d else if b = 4 then xReach p q r else if b = 5 then 0 else if b = 6 then 0 else σ i b) else σ a b
theorem hSet_eq (σ : Mem) (i : Nat) (p q r d v : Int32) (hv : v = xReach p q r) : upd2 (upd2 (upd2 (upd2 (upd2 (upd2 (upd2 σ i 0 p) i 1 q) i 2 r) i 3 d) i 4 v) i 5 0) i 6 0 = hSet σ i p q r d := by
  subst hv
  funext a b
  unfold hSet upd2
  by_cases ha : a = i
  · subst ha
    simp only [if_true]
    by_cases h0 : b = 0
    · subst h0; simp
    · by_cases h1 : b = 1
      · subst h1; simp
      · by_cases h2 : b = 2
        · subst h2; simp
        · by_cases h3 : b = 3
          · subst h3; simp
          · by_cases h4 : b = 4
            · subst h4; simp
            · by_cases h5 : b = 5
              · subst h5; simp
              · by_cases h6 : b = 6
                · subst h6; simp
                · simp [h0, h1, h2, h3, h4, h5, h6]
  · simp [ha]
def xState (σ : Mem) (f s : Nat) : Int32 := if σ (iFlaw f + 2) s = 0 then -1 else if 0 < σ (iFlaw f + 3) s then 1 else 0
def xPts (σ : Mem) (f : Nat) (st : Int32) : Int32 := if st = 1 then 6 * σ (iFlaw f) 0 else if st = 0 then 2 * σ (iFlaw f) 0 else 0
def xSize (σ : Mem) : Int32 := σ 1 0 * σ 1 1 * σ 1 2
def xHolds (σ : Mem) (x y z : Int32) : Bool := !(decide (x < 0)) && !(decide (σ 1 0 ≤ x)) && (!(decide (y < 0)) && !(decide (σ 1 1 ≤ y))) && (!(decide (z < 0)) && !(decide (σ 1 2 ≤ z)))
def xIdx (σ : Mem) (x y z : Int32) : Int32 := (z * σ 1 1 + y) * σ 1 0 + x
def xOwn (σ : Mem) (x y z : Int32) : Int32 := if xHolds σ x y z = true then σ 2 (xIdx σ x y z).toNatClampNeg else -1
def xBare (σ : Mem) (s x y z : Int32) : Bool := !(xOwn σ (x - 1) y z == s) || !(xOwn σ (x + 1) y z == s) || !(xOwn σ x (y - 1) z == s) || !(xOwn σ x (y + 1) z == s) || !(xOwn σ x y (z - 1) == s) || !(xOwn σ x y (z + 1) == s)
/-- the rough's measures -/
def RI (σ : Mem) : Prop := (∃ c, 1 ≤ c ∧ c ≤ 10 ∧ σ 1 0 = nI c) ∧ (∃ c, 1 ≤ c ∧ c ≤ 10 ∧ σ 1 1 = nI c) ∧ (∃ c, 1 ≤ c ∧ c ≤ 10 ∧ σ 1 2 = nI c)
theorem box_lt {x y z C R L : Nat} (hx : x < C) (hy : y < R) (hz : z < L) : (z * R + y) * C + x < C * R * L := by
  have h1 : z * R + y + 1 ≤ R * L := by
    have : (z + 1) * R ≤ L * R := Nat.mul_le_mul_right R hz
    rw [Nat.add_mul] at this
    rw [Nat.mul_comm R L]
    omega
  have h2 : (z * R + y + 1) * C ≤ R * L * C := Nat.mul_le_mul_right C h1
  rw [Nat.add_mul] at h2
  rw [Nat.mul_assoc, Nat.mul_comm C (R * L)]
  omega
theorem holds_nI {σ : Mem} (hR : RI σ) {x y z : Int32} (h : xHolds σ x y z = true) : ∃ a b c C R L : Nat, x = nI a ∧ y = nI b ∧ z = nI c ∧ a < C ∧ b < R ∧ c < L ∧ C ≤ 10 ∧ R ≤ 10 ∧ L ≤ 10 ∧ σ 1 0 = nI C ∧ σ 1 1 = nI R ∧ σ 1 2 = nI L ∧ xIdx σ x y z = nI ((c * R + b) * C + a) ∧ (c * R + b) * C + a < 1000 := by
  obtain ⟨⟨C, a1, a2, a3⟩, ⟨R, b1, b2, b3⟩, ⟨L, c1, c2, c3⟩⟩ := hR
  simp only [xHolds, Bool.and_eq_true, Bool.not_eq_true', decide_eq_false_iff_not, a3, b3, c3] at h
  obtain ⟨⟨⟨h1, h2⟩, h3, h4⟩, h5, h6⟩ := h
  obtain ⟨a, ha, rfl⟩ := nI_of h1
  obtain ⟨b, hb, rfl⟩ := nI_of h3
  obtain ⟨c, hc, rfl⟩ := nI_of h5
  rw [nI_leI (by omega) ha] at h2
  rw [nI_leI (by omega) hb] at h4
  rw [nI_leI (by omega) hc] at h6
  have hb2 := box_lt (x := a) (y := b) (z := c) (C := C) (R := R) (L := L) (by omega) (by omega) (by omega)
  have hv := vol_rng ⟨a1, a2⟩ ⟨b1, b2⟩ ⟨c1, c2⟩
  refine ⟨a, b, c, C, R, L, rfl, rfl, rfl, by omega, by omega, by omega, a2, b2, c2, a3, b3, c3, ?_, by omega⟩
  unfold xIdx
  rw [a3, b3, nI_mul', nI_add, nI_mul', nI_add]
def hBeg (σ : Mem) (f : Nat) (v : Int32) : Mem := upd2 (upd2 σ (iFlaw f) 0 v) (iFlaw f) 2 0
def hAdd (σ : Mem) (f n : Nat) (v : Int32) : Mem := upd2 (upd2 σ (iFlaw f + 1) n v) (iFlaw f) 2 (nI (n + 1))
def xFacP (σ : Mem) (s : Nat) (po : Bool) (k : Nat) : Bool := xFct σ (iPl s k) && (!(σ (iPl s k) 5 == 0) || !po)
def xPairP (σ : Mem) (s a b : Nat) : Bool := xFct σ (iPl s a) && xFct σ (iPl s b) && xOpp σ (iPl s a) (iPl s b)
def xPairs (σ : Mem) (s n : Nat) : Nat := sumN (fun a => cnt (fun j => xPairP σ s a (a + 1 + j)) (n - (a + 1))) n
def hKeep (σ : Mem) (s n : Nat) (p q r d : Int32) : Mem := upd2 (hSet σ (iPl s n) p q r d) (iStone s) 2 (nI (n + 1))
theorem pl_ne_st (s k s2 : Nat) (hk : k < 16) : iPl s k ≠ iStone s2 := by unfold iPl iStone; omega
theorem pl_inj {s k s2 k2 : Nat} (hk : k < 16) (hk2 : k2 < 16) : iPl s k = iPl s2 k2 ↔ s = s2 ∧ k = k2 := by unfold iPl; omega
theorem st_inj {s s2 : Nat} : iStone s = iStone s2 ↔ s = s2 := by unfold iStone; omega

set_option maxRecDepth 100000 in
set_option maxHeartbeats 4000000 in
/-- X1_set -/
theorem c_X1_set (l : Launch) (i : Nat) (p q r d : Int32) (hi : xk i = 12) : gMV wX l yX1_set (.code yX1_set cX1_set 5 none) 1 0 0 (fun A => [.ref (A i), .int p, .int q, .int r, .int d]) (fun τ => True) (fun τ τ1 => τ1 = hSet τ i p q r d) := by
  refine gMV_of (by decide) (fun A => Nat.le_of_ble_eq_true rfl) ?_
  intro X τ hC hP hE
  have hC : gOk wX l X cX1_set "GemCut$Plane" 1 0 0 := hC
  show G wX X 0 0 0 [some (.ref (gA X i)), some (.int p), some (.int q), some (.int r), some (.int d)] [] τ
  refine g_ald0 hC dX1_set_0 ?_
  refine g_ild1 hC dX1_set_1 ?_
  refine xp_Plane_p hC (by first | assumption | omega | exact xk_pl _ (by assumption) _ (by omega) | decide) tw_1_111 dX1_set_2 ?_
  refine g_ald0 hC dX1_set_5 ?_
  refine g_ild2 hC dX1_set_6 ?_
  refine xp_Plane_q hC (by first | assumption | omega | exact xk_pl _ (by assumption) _ (by omega) | decide) tw_1_112 dX1_set_7 ?_
  refine g_ald0 hC dX1_set_10 ?_
  refine g_ild3 hC dX1_set_11 ?_
  refine xp_Plane_r hC (by first | assumption | omega | exact xk_pl _ (by assumption) _ (by omega) | decide) tw_1_113 dX1_set_12 ?_
  refine g_ald0 hC dX1_set_15 ?_
  refine g_ild4 hC dX1_set_16 ?_
  refine xp_Plane_d hC (by first | assumption | omega | exact xk_pl _ (by assumption) _ (by omega) | decide) tw_1_114 dX1_set_18 ?_
  refine g_ald0 hC dX1_set_21 ?_
  refine g_ald0 hC dX1_set_22 ?_
  refine xg_Plane_p hC (by first | assumption | omega | exact xk_pl _ (by assumption) _ (by omega) | decide) tw_1_111 dX1_set_23 ?_
  refine g_mabs hC (by first | assumption | omega | exact xk_pl _ (by assumption) _ (by omega) | decide) tw_2_172 (Nat.le_of_ble_eq_true rfl) ⟨by omega, by omega⟩ dX1_set_26 ?_
  refine g_ald0 hC dX1_set_29 ?_
  refine xg_Plane_q hC (by first | assumption | omega | exact xk_pl _ (by assumption) _ (by omega) | decide) tw_1_112 dX1_set_30 ?_
  refine g_mabs hC (by first | assumption | omega | exact xk_pl _ (by assumption) _ (by omega) | decide) tw_2_172 (Nat.le_of_ble_eq_true rfl) ⟨by omega, by omega⟩ dX1_set_33 ?_
  refine g_ald0 hC dX1_set_36 ?_
  refine xg_Plane_r hC (by first | assumption | omega | exact xk_pl _ (by assumption) _ (by omega) | decide) tw_1_113 dX1_set_37 ?_
  refine g_mabs hC (by first | assumption | omega | exact xk_pl _ (by assumption) _ (by omega) | decide) tw_2_172 (Nat.le_of_ble_eq_true rfl) ⟨by omega, by omega⟩ dX1_set_40 ?_
  refine g_mmax hC (by first | assumption | omega | exact xk_pl _ (by assumption) _ (by omega) | decide) tw_2_175 (Nat.le_of_ble_eq_true rfl) ⟨by omega, by omega⟩ dX1_set_43 ?_
  refine g_mmax hC (by first | assumption | omega | exact xk_pl _ (by assumption) _ (by omega) | decide) tw_2_175 (Nat.le_of_ble_eq_true rfl) ⟨by omega, by omega⟩ dX1_set_46 ?_
  refine xp_Plane_reach hC (by first | assumption | omega | exact xk_pl _ (by assumption) _ (by omega) | decide) tw_1_115 dX1_set_49 ?_
  refine g_ald0 hC dX1_set_52 ?_
  refine g_iconst 0 hC dX1_set_53 (by decide) ?_
  refine xp_Plane_polished hC (by first | assumption | omega | exact xk_pl _ (by assumption) _ (by omega) | decide) (by first | exact Or.inl rfl | exact Or.inr rfl | assumption) tw_1_117 dX1_set_54 ?_
  refine g_ald0 hC dX1_set_57 ?_
  refine g_iconst 0 hC dX1_set_58 (by decide) ?_
  refine xp_Plane_touching hC (by first | assumption | omega | exact xk_pl _ (by assumption) _ (by omega) | decide) tw_1_121 dX1_set_59 ?_
  exact hE _ _ _ _ _ dX1_set_62 (Nat.le_refl _) (Nat.le_refl _) (hSet_eq τ i p q r d _ (by simp [upd2, xReach, jmax, jabs]))
theorem k_X1_set {l : Launch} {X : gC} {cc : ByteArray} {own : String} {dd ca sa kc nc pc : Nat} {ls : List (Option Value)} {st : List Value} {σ : Mem} {idx : Nat} {i : Nat} {p q r d : Int32} (hC : gOk wX l X cc own dd ca sa) (hlk : Cond.methodLink own idx yX1_set ∈ TB) (hd : decode cc pc = .ok (.invokevirtual idx, 3)) (hdd : 1 + 1 ≤ dd) (hfr : kc + 0 ≤ ca ∧ nc + 0 ≤ sa) (hrest : (st.map fun v => v.category).sum ≤ 8) (hi : xk i = 12)  (kk : G wX X kc nc (pc + 3) ls st (hSet σ i p q r d)) : G wX X kc nc pc ls (.int d :: .int r :: .int q :: .int p :: .ref (gA X i) :: st) σ := by
  exact g_cVV 4 hC (c_X1_set l i p q r d hi) hlk ⟨tw_2_169, tw_2_170, tw_1_5, tw_2_171⟩ (by decide +kernel) ⟨hdd, by decide⟩ hfr rfl rfl rfl (rv_Plane _ _ hi) hrest rfl hd trivial (fun σ1 hq => by subst hq; exact kk)
set_option maxRecDepth 100000 in
set_option maxHeartbeats 4000000 in
/-- X1_heightOf -/
theorem c_X1_heightOf (l : Launch) (i : Nat) (x y z : Int32) (hi : xk i = 12) : gMI wX l yX1_heightOf (.code yX1_heightOf cX1_heightOf 4 (some FieldType.int)) 0 0 0 (fun A => [.ref (A i), .int x, .int y, .int z]) (fun τ => True) (fun τ rr τ1 => rr = xHgt τ i x y z ∧ τ1 = τ) := by
  refine gMI_of (by decide) (fun A => Nat.le_of_ble_eq_true rfl) ?_
  intro X τ hC hP hE
  have hC : gOk wX l X cX1_heightOf "GemCut$Plane" 0 0 0 := hC
  show G wX X 0 0 0 [some (.ref (gA X i)), some (.int x), some (.int y), some (.int z)] [] τ
  refine g_ald0 hC dX1_heightOf_0 ?_
  refine xg_Plane_p hC (by first | assumption | omega | exact xk_pl _ (by assumption) _ (by omega) | decide) tw_1_111 dX1_heightOf_1 ?_
  refine g_ild1 hC dX1_heightOf_4 ?_
  refine g_imul hC dX1_heightOf_5 ?_
  refine g_ald0 hC dX1_heightOf_6 ?_
  refine xg_Plane_q hC (by first | assumption | omega | exact xk_pl _ (by assumption) _ (by omega) | decide) tw_1_112 dX1_heightOf_7 ?_
  refine g_ild2 hC dX1_heightOf_10 ?_
  refine g_imul hC dX1_heightOf_11 ?_
  refine g_iadd hC dX1_heightOf_12 ?_
  refine g_ald0 hC dX1_heightOf_13 ?_
  refine xg_Plane_r hC (by first | assumption | omega | exact xk_pl _ (by assumption) _ (by omega) | decide) tw_1_113 dX1_heightOf_14 ?_
  refine g_ild3 hC dX1_heightOf_17 ?_
  refine g_imul hC dX1_heightOf_18 ?_
  refine g_iadd hC dX1_heightOf_19 ?_
  exact hE _ _ _ _ _ _ dX1_heightOf_20 (Nat.le_refl _) (Nat.le_refl _) ⟨by rfl, rfl⟩
theorem k_X1_heightOf {l : Launch} {X : gC} {cc : ByteArray} {own : String} {dd ca sa kc nc pc : Nat} {ls : List (Option Value)} {st : List Value} {σ : Mem} {idx : Nat} {i : Nat} {x y z : Int32} (hC : gOk wX l X cc own dd ca sa) (hlk : Cond.methodLink own idx yX1_heightOf ∈ TB) (hd : decode cc pc = .ok (.invokevirtual idx, 3)) (hdd : 0 + 1 ≤ dd) (hfr : kc + 0 ≤ ca ∧ nc + 0 ≤ sa) (hrest : (st.map fun v => v.category).sum ≤ 8) (hi : xk i = 12)  (kk : G wX X kc nc (pc + 3) ls (.int (xHgt σ i x y z) :: st) (σ)) : G wX X kc nc pc ls (.int z :: .int y :: .int x :: .ref (gA X i) :: st) σ := by
  exact g_cVI 3 hC (c_X1_heightOf l i x y z hi) hlk ⟨tw_2_4, tw_2_5, tw_1_5, tw_2_6⟩ (by decide +kernel) ⟨hdd, by decide⟩ hfr rfl rfl rfl (rv_Plane _ _ hi) hrest rfl hd trivial (fun rr σ1 hq => by obtain ⟨rfl, rfl⟩ := hq; exact kk)
set_option maxRecDepth 100000 in
set_option maxHeartbeats 4000000 in
/-- X1_touches -/
theorem c_X1_touches (l : Launch) (i : Nat) (x y z : Int32) (hi : xk i = 12) : gMZ wX l yX1_touches (.code yX1_touches cX1_touches 4 (some FieldType.boolean)) 1 0 0 (fun A => [.ref (A i), .int x, .int y, .int z]) (fun τ => True) (fun τ rr τ1 => rr = b2i (xTch τ i x y z) ∧ τ1 = τ) := by
  refine gMZ_of (by decide) (fun A => Nat.le_of_ble_eq_true rfl) ?_
  intro X τ hC hP hE
  have hC : gOk wX l X cX1_touches "GemCut$Plane" 1 0 0 := hC
  show G wX X 0 0 0 [some (.ref (gA X i)), some (.int x), some (.int y), some (.int z)] [] τ
  refine g_ald0 hC dX1_touches_0 ?_
  refine g_ild1 hC dX1_touches_1 ?_
  refine g_ild2 hC dX1_touches_2 ?_
  refine g_ild3 hC dX1_touches_3 ?_
  refine k_X1_heightOf hC tw_2_3 dX1_touches_4 (by decide) ⟨by omega, by omega⟩ (Nat.le_of_ble_eq_true rfl) hi ?_
  refine g_ald0 hC dX1_touches_7 ?_
  refine xg_Plane_reach hC (by first | assumption | omega | exact xk_pl _ (by assumption) _ (by omega) | decide) tw_1_115 dX1_touches_8 ?_
  refine g_iadd hC dX1_touches_11 ?_
  refine g_ald0 hC dX1_touches_12 ?_
  refine xg_Plane_d hC (by first | assumption | omega | exact xk_pl _ (by assumption) _ (by omega) | decide) tw_1_114 dX1_touches_13 ?_
  refine g_icmp_le 23 hC dX1_touches_16 (by decide) (fun c16 => ?_) (fun c16 => ?_)
  · refine g_iconst 0 hC dX1_touches_23 (by decide) ?_
    exact hE _ _ _ _ _ _ dX1_touches_24 (Nat.le_refl _) (Nat.le_refl _) (by first | exact Or.inl rfl | exact Or.inr rfl | exact b2i_01 _) ⟨by (try simp only [ne_eq, b2i_eq0, Bool.not_eq_false, Int32.not_le, Int32.not_lt, Int32.zero_sub] at c16); simp [xTch, b2i, Int32.not_lt, c16], rfl⟩
  · refine g_iconst 1 hC dX1_touches_19 (by decide) ?_
    refine g_goto 24 hC dX1_touches_20 (by decide) ?_
    exact hE _ _ _ _ _ _ dX1_touches_24 (Nat.le_refl _) (Nat.le_refl _) (by first | exact Or.inl rfl | exact Or.inr rfl | exact b2i_01 _) ⟨by (try simp only [ne_eq, b2i_eq0, Bool.not_eq_false, Int32.not_le, Int32.not_lt, Int32.zero_sub] at c16); simp [xTch, b2i, Int32.not_lt, c16], rfl⟩
theorem k_X1_touches {l : Launch} {X : gC} {cc : ByteArray} {own : String} {dd ca sa kc nc pc : Nat} {ls : List (Option Value)} {st : List Value} {σ : Mem} {idx : Nat} {i : Nat} {x y z : Int32} (hC : gOk wX l X cc own dd ca sa) (hlk : Cond.methodLink own idx yX1_touches ∈ TB) (hd : decode cc pc = .ok (.invokevirtual idx, 3)) (hdd : 1 + 1 ≤ dd) (hfr : kc + 0 ≤ ca ∧ nc + 0 ≤ sa) (hrest : (st.map fun v => v.category).sum ≤ 8) (hi : xk i = 12)  (kk : G wX X kc nc (pc + 3) ls (.int (b2i (xTch σ i x y z)) :: st) (σ)) : G wX X kc nc pc ls (.int z :: .int y :: .int x :: .ref (gA X i) :: st) σ := by
  exact g_cVZ 3 hC (c_X1_touches l i x y z hi) hlk ⟨tw_2_0, tw_2_1, tw_1_5, tw_2_2⟩ (by decide +kernel) ⟨hdd, by decide⟩ hfr rfl rfl rfl (rv_Plane _ _ hi) hrest rfl hd trivial (fun rr σ1 hq => by obtain ⟨rfl, rfl⟩ := hq; exact kk)
set_option maxRecDepth 100000 in
set_option maxHeartbeats 4000000 in
/-- X1_isFacet -/
theorem c_X1_isFacet (l : Launch) (i : Nat) (hi : xk i = 12) : gMZ wX l yX1_isFacet (.code yX1_isFacet cX1_isFacet 1 (some FieldType.boolean)) 0 0 0 (fun A => [.ref (A i)]) (fun τ => True) (fun τ rr τ1 => rr = b2i (xFct τ i) ∧ τ1 = τ) := by
  refine gMZ_of (by decide) (fun A => Nat.le_of_ble_eq_true rfl) ?_
  intro X τ hC hP hE
  have hC : gOk wX l X cX1_isFacet "GemCut$Plane" 0 0 0 := hC
  show G wX X 0 0 0 [some (.ref (gA X i))] [] τ
  refine g_ald0 hC dX1_isFacet_0 ?_
  refine xg_Plane_touching hC (by first | assumption | omega | exact xk_pl _ (by assumption) _ (by omega) | decide) tw_1_121 dX1_isFacet_1 ?_
  refine g_if_le 11 hC dX1_isFacet_4 (by decide) (fun c4 => ?_) (fun c4 => ?_)
  · refine g_iconst 0 hC dX1_isFacet_11 (by decide) ?_
    exact hE _ _ _ _ _ _ dX1_isFacet_12 (Nat.le_refl _) (Nat.le_refl _) (by first | exact Or.inl rfl | exact Or.inr rfl | exact b2i_01 _) ⟨by (try simp only [ne_eq, b2i_eq0, Bool.not_eq_false, Int32.not_le, Int32.not_lt, Int32.zero_sub] at c4); simp [xFct, b2i, Int32.not_lt, c4], rfl⟩
  · refine g_iconst 1 hC dX1_isFacet_7 (by decide) ?_
    refine g_goto 12 hC dX1_isFacet_8 (by decide) ?_
    exact hE _ _ _ _ _ _ dX1_isFacet_12 (Nat.le_refl _) (Nat.le_refl _) (by first | exact Or.inl rfl | exact Or.inr rfl | exact b2i_01 _) ⟨by (try simp only [ne_eq, b2i_eq0, Bool.not_eq_false, Int32.not_le, Int32.not_lt, Int32.zero_sub] at c4); simp [xFct, b2i, Int32.not_lt, c4], rfl⟩
theorem k_X1_isFacet {l : Launch} {X : gC} {cc : ByteArray} {own : String} {dd ca sa kc nc pc : Nat} {ls : List (Option Value)} {st : List Value} {σ : Mem} {idx : Nat} {i : Nat} (hC : gOk wX l X cc own dd ca sa) (hlk : Cond.methodLink own idx yX1_isFacet ∈ TB) (hd : decode cc pc = .ok (.invokevirtual idx, 3)) (hdd : 0 + 1 ≤ dd) (hfr : kc + 0 ≤ ca ∧ nc + 0 ≤ sa) (hrest : (st.map fun v => v.category).sum ≤ 8) (hi : xk i = 12)  (kk : G wX X kc nc (pc + 3) ls (.int (b2i (xFct σ i)) :: st) (σ)) : G wX X kc nc pc ls (.ref (gA X i) :: st) σ := by
  exact g_cVZ 0 hC (c_X1_isFacet l i hi) hlk ⟨tw_2_239, tw_3_0, tw_1_5, tw_3_1⟩ (by decide +kernel) ⟨hdd, by decide⟩ hfr rfl rfl rfl (rv_Plane _ _ hi) hrest rfl hd trivial (fun rr σ1 hq => by obtain ⟨rfl, rfl⟩ := hq; exact kk)
set_option maxRecDepth 100000 in
set_option maxHeartbeats 4000000 in
/-- X1_isOpposite -/
theorem c_X1_isOpposite (l : Launch) (i j : Nat) (hi : xk i = 12) (hj : xk j = 12) : gMZ wX l yX1_isOpposite (.code yX1_isOpposite cX1_isOpposite 2 (some FieldType.boolean)) 0 0 0 (fun A => [.ref (A i), .ref (A j)]) (fun τ => True) (fun τ rr τ1 => rr = b2i (xOpp τ i j) ∧ τ1 = τ) := by
  refine gMZ_of (by decide) (fun A => Nat.le_of_ble_eq_true rfl) ?_
  intro X τ hC hP hE
  have hC : gOk wX l X cX1_isOpposite "GemCut$Plane" 0 0 0 := hC
  show G wX X 0 0 0 [some (.ref (gA X i)), some (.ref (gA X j))] [] τ
  refine g_ald0 hC dX1_isOpposite_0 ?_
  refine xg_Plane_p hC hi tw_1_111 dX1_isOpposite_1 ?_
  refine g_ald1 hC dX1_isOpposite_4 ?_
  refine xg_Plane_p hC hj tw_1_111 dX1_isOpposite_5 ?_
  refine g_ineg hC dX1_isOpposite_8 ?_
  refine g_icmp_ne 40 hC dX1_isOpposite_9 (by decide) (fun c9 => ?_) (fun c9 => ?_)
  · refine g_iconst 0 hC dX1_isOpposite_40 (by decide) ?_
    exact hE _ _ _ _ _ _ dX1_isOpposite_41 (Nat.le_refl _) (Nat.le_refl _) (by first | exact Or.inl rfl | exact Or.inr rfl | exact b2i_01 _) ⟨by (try simp only [ne_eq] at c9); simp only [xOpp]; simp [b2i, -Int32.zero_sub, c9], rfl⟩
  · refine g_ald0 hC dX1_isOpposite_12 ?_
    refine xg_Plane_q hC hi tw_1_112 dX1_isOpposite_13 ?_
    refine g_ald1 hC dX1_isOpposite_16 ?_
    refine xg_Plane_q hC hj tw_1_112 dX1_isOpposite_17 ?_
    refine g_ineg hC dX1_isOpposite_20 ?_
    refine g_icmp_ne 40 hC dX1_isOpposite_21 (by decide) (fun c21 => ?_) (fun c21 => ?_)
    · refine g_iconst 0 hC dX1_isOpposite_40 (by decide) ?_
      exact hE _ _ _ _ _ _ dX1_isOpposite_41 (Nat.le_refl _) (Nat.le_refl _) (by first | exact Or.inl rfl | exact Or.inr rfl | exact b2i_01 _) ⟨by (try simp only [ne_eq] at c9 c21); simp only [xOpp]; simp [b2i, -Int32.zero_sub, c9, c21], rfl⟩
    · refine g_ald0 hC dX1_isOpposite_24 ?_
      refine xg_Plane_r hC hi tw_1_113 dX1_isOpposite_25 ?_
      refine g_ald1 hC dX1_isOpposite_28 ?_
      refine xg_Plane_r hC hj tw_1_113 dX1_isOpposite_29 ?_
      refine g_ineg hC dX1_isOpposite_32 ?_
      refine g_icmp_ne 40 hC dX1_isOpposite_33 (by decide) (fun c33 => ?_) (fun c33 => ?_)
      · refine g_iconst 0 hC dX1_isOpposite_40 (by decide) ?_
        exact hE _ _ _ _ _ _ dX1_isOpposite_41 (Nat.le_refl _) (Nat.le_refl _) (by first | exact Or.inl rfl | exact Or.inr rfl | exact b2i_01 _) ⟨by (try simp only [ne_eq] at c9 c21 c33); simp only [xOpp]; simp [b2i, -Int32.zero_sub, c9, c21, c33], rfl⟩
      · refine g_iconst 1 hC dX1_isOpposite_36 (by decide) ?_
        refine g_goto 41 hC dX1_isOpposite_37 (by decide) ?_
        exact hE _ _ _ _ _ _ dX1_isOpposite_41 (Nat.le_refl _) (Nat.le_refl _) (by first | exact Or.inl rfl | exact Or.inr rfl | exact b2i_01 _) ⟨by (try simp only [ne_eq] at c9 c21 c33); simp only [xOpp]; simp [b2i, -Int32.zero_sub, c9, c21, c33], rfl⟩
theorem k_X1_isOpposite {l : Launch} {X : gC} {cc : ByteArray} {own : String} {dd ca sa kc nc pc : Nat} {ls : List (Option Value)} {st : List Value} {σ : Mem} {idx : Nat} {i j : Nat} (hC : gOk wX l X cc own dd ca sa) (hlk : Cond.methodLink own idx yX1_isOpposite ∈ TB) (hd : decode cc pc = .ok (.invokevirtual idx, 3)) (hdd : 0 + 1 ≤ dd) (hfr : kc + 0 ≤ ca ∧ nc + 0 ≤ sa) (hrest : (st.map fun v => v.category).sum ≤ 8) (hi : xk i = 12) (hj : xk j = 12)  (kk : G wX X kc nc (pc + 3) ls (.int (b2i (xOpp σ i j)) :: st) (σ)) : G wX X kc nc pc ls (.ref (gA X j) :: .ref (gA X i) :: st) σ := by
  exact g_cVZ 1 hC (c_X1_isOpposite l i j hi hj) hlk ⟨tw_3_25, tw_3_26, tw_1_5, tw_3_27⟩ (by decide +kernel) ⟨hdd, by decide⟩ hfr rfl rfl rfl (rv_Plane _ _ hi) hrest rfl hd trivial (fun rr σ1 hq => by obtain ⟨rfl, rfl⟩ := hq; exact kk)
set_option maxRecDepth 100000 in
set_option maxHeartbeats 4000000 in
/-- X1_tell -/
theorem c_X1_tell (l : Launch) (i w : Nat) (hi : xk i = 12) : gMI wX l yX1_tell (.code yX1_tell cX1_tell 2 (some FieldType.int)) 0 0 0 (fun A => [.ref (A i), .int (nI w)]) (fun τ => w < 6) (fun τ rr τ1 => rr = xTell τ i w ∧ τ1 = τ) := by
  refine gMI_of (by decide) (fun A => Nat.le_of_ble_eq_true rfl) ?_
  intro X τ hC hP hE
  have hC : gOk wX l X cX1_tell "GemCut$Plane" 0 0 0 := hC
  show G wX X 0 0 0 [some (.ref (gA X i)), some (.int (nI w))] [] τ
  refine g_ild1 hC dX1_tell_0 ?_
  rcases (show w = 0 ∨ w = 1 ∨ w = 2 ∨ w = 3 ∨ w = 4 ∨ w = 5 by omega) with rfl | rfl | rfl | rfl | rfl | rfl
  · refine g_tin (off := 35) 36 hC dX1_tell_1 (by decide) (by decide) (by decide) (by decide) ?_
    refine g_ald0 hC dX1_tell_36 ?_
    refine xg_Plane_p hC (by first | assumption | omega | exact xk_pl _ (by assumption) _ (by omega) | decide) tw_1_111 dX1_tell_37 ?_
    exact hE _ _ _ _ _ _ dX1_tell_40 (Nat.le_refl _) (Nat.le_refl _) ⟨by first | rfl | (show _ = b2i _; rw [b2i]; simp []), rfl⟩
  · refine g_tin (off := 40) 41 hC dX1_tell_1 (by decide) (by decide) (by decide) (by decide) ?_
    refine g_ald0 hC dX1_tell_41 ?_
    refine xg_Plane_q hC (by first | assumption | omega | exact xk_pl _ (by assumption) _ (by omega) | decide) tw_1_112 dX1_tell_42 ?_
    exact hE _ _ _ _ _ _ dX1_tell_45 (Nat.le_refl _) (Nat.le_refl _) ⟨by first | rfl | (show _ = b2i _; rw [b2i]; simp []), rfl⟩
  · refine g_tin (off := 45) 46 hC dX1_tell_1 (by decide) (by decide) (by decide) (by decide) ?_
    refine g_ald0 hC dX1_tell_46 ?_
    refine xg_Plane_r hC (by first | assumption | omega | exact xk_pl _ (by assumption) _ (by omega) | decide) tw_1_113 dX1_tell_47 ?_
    exact hE _ _ _ _ _ _ dX1_tell_50 (Nat.le_refl _) (Nat.le_refl _) ⟨by first | rfl | (show _ = b2i _; rw [b2i]; simp []), rfl⟩
  · refine g_tin (off := 50) 51 hC dX1_tell_1 (by decide) (by decide) (by decide) (by decide) ?_
    refine g_ald0 hC dX1_tell_51 ?_
    refine xg_Plane_d hC (by first | assumption | omega | exact xk_pl _ (by assumption) _ (by omega) | decide) tw_1_114 dX1_tell_52 ?_
    exact hE _ _ _ _ _ _ dX1_tell_55 (Nat.le_refl _) (Nat.le_refl _) ⟨by first | rfl | (show _ = b2i _; rw [b2i]; simp []), rfl⟩
  · refine g_tin (off := 55) 56 hC dX1_tell_1 (by decide) (by decide) (by decide) (by decide) ?_
    refine g_ald0 hC dX1_tell_56 ?_
    refine xg_Plane_touching hC (by first | assumption | omega | exact xk_pl _ (by assumption) _ (by omega) | decide) tw_1_121 dX1_tell_57 ?_
    exact hE _ _ _ _ _ _ dX1_tell_60 (Nat.le_refl _) (Nat.le_refl _) ⟨by first | rfl | (show _ = b2i _; rw [b2i]; simp []), rfl⟩
  · refine g_tout 61 hC dX1_tell_1 (by decide) (by decide) ?_
    refine g_ald0 hC dX1_tell_61 ?_
    refine xg_Plane_polished hC (by first | assumption | omega | exact xk_pl _ (by assumption) _ (by omega) | decide) tw_1_117 dX1_tell_62 ?_
    refine g_if_eq 72 hC dX1_tell_65 (by decide) (fun c65 => ?_) (fun c65 => ?_)
    · refine g_iconst 0 hC dX1_tell_72 (by decide) ?_
      exact hE _ _ _ _ _ _ dX1_tell_73 (Nat.le_refl _) (Nat.le_refl _) ⟨by first | rfl | (show _ = b2i _; rw [b2i]; simp [c65]), rfl⟩
    · refine g_iconst 1 hC dX1_tell_68 (by decide) ?_
      refine g_goto 73 hC dX1_tell_69 (by decide) ?_
      exact hE _ _ _ _ _ _ dX1_tell_73 (Nat.le_refl _) (Nat.le_refl _) ⟨by first | rfl | (show _ = b2i _; rw [b2i]; simp [c65]), rfl⟩
theorem k_X1_tell {l : Launch} {X : gC} {cc : ByteArray} {own : String} {dd ca sa kc nc pc : Nat} {ls : List (Option Value)} {st : List Value} {σ : Mem} {idx : Nat} {i w : Nat} (hC : gOk wX l X cc own dd ca sa) (hlk : Cond.methodLink own idx yX1_tell ∈ TB) (hd : decode cc pc = .ok (.invokevirtual idx, 3)) (hdd : 0 + 1 ≤ dd) (hfr : kc + 0 ≤ ca ∧ nc + 0 ≤ sa) (hrest : (st.map fun v => v.category).sum ≤ 8) (hi : xk i = 12) (hP : w < 6) (kk : G wX X kc nc (pc + 3) ls (.int (xTell σ i w) :: st) (σ)) : G wX X kc nc pc ls (.int (nI w) :: .ref (gA X i) :: st) σ := by
  exact g_cVI 1 hC (c_X1_tell l i w hi) hlk ⟨tw_3_49, tw_3_50, tw_1_5, tw_3_51⟩ (by decide +kernel) ⟨hdd, by decide⟩ hfr rfl rfl rfl (rv_Plane _ _ hi) hrest rfl hd hP (fun rr σ1 hq => by obtain ⟨rfl, rfl⟩ := hq; exact kk)
set_option maxRecDepth 100000 in
set_option maxHeartbeats 4000000 in
/-- X0_begin -/
theorem c_X0_begin (l : Launch) (f : Nat) (v : Int32) (hf : f < 10) : gMV wX l yX0_begin (.code yX0_begin cX0_begin 2 none) 0 0 0 (fun A => [.ref (A (iFlaw f)), .int v]) (fun τ => True) (fun τ τ1 => τ1 = hBeg τ f v) := by
  refine gMV_of (by decide) (fun A => Nat.le_of_ble_eq_true rfl) ?_
  intro X τ hC hP hE
  have hC : gOk wX l X cX0_begin "GemCut$Flaw" 0 0 0 := hC
  show G wX X 0 0 0 [some (.ref (gA X (iFlaw f))), some (.int v)] [] τ
  refine g_ald0 hC dX0_begin_0 ?_
  refine g_ild1 hC dX0_begin_1 ?_
  refine xp_Flaw_severity hC (by first | assumption | omega | exact xk_pl _ (by assumption) _ (by omega) | decide) tw_1_37 dX0_begin_2 ?_
  refine g_ald0 hC dX0_begin_5 ?_
  refine g_iconst 0 hC dX0_begin_6 (by decide) ?_
  refine xp_Flaw_cellCount hC (by first | assumption | omega | exact xk_pl _ (by assumption) _ (by omega) | decide) tw_1_40 dX0_begin_7 ?_
  exact hE _ _ _ _ _ dX0_begin_10 (Nat.le_refl _) (Nat.le_refl _) rfl
theorem k_X0_begin {l : Launch} {X : gC} {cc : ByteArray} {own : String} {dd ca sa kc nc pc : Nat} {ls : List (Option Value)} {st : List Value} {σ : Mem} {idx : Nat} {f : Nat} {v : Int32} (hC : gOk wX l X cc own dd ca sa) (hlk : Cond.methodLink own idx yX0_begin ∈ TB) (hd : decode cc pc = .ok (.invokevirtual idx, 3)) (hdd : 0 + 1 ≤ dd) (hfr : kc + 0 ≤ ca ∧ nc + 0 ≤ sa) (hrest : (st.map fun v => v.category).sum ≤ 8) (hf : f < 10)  (kk : G wX X kc nc (pc + 3) ls st (hBeg σ f v)) : G wX X kc nc pc ls (.int v :: .ref (gA X (iFlaw f)) :: st) σ := by
  exact g_cVV 1 hC (c_X0_begin l f v hf) hlk ⟨tw_3_216, tw_3_217, tw_1_3, tw_3_218⟩ (by decide +kernel) ⟨hdd, by decide⟩ hfr rfl rfl rfl (rv_Flaw _ _ hf) hrest rfl hd trivial (fun σ1 hq => by subst hq; exact kk)
set_option maxRecDepth 100000 in
set_option maxHeartbeats 4000000 in
/-- X0_addCell -/
theorem c_X0_addCell (l : Launch) (f n : Nat) (v : Int32) (hf : f < 10) : gMV wX l yX0_addCell (.code yX0_addCell cX0_addCell 2 none) 0 0 0 (fun A => [.ref (A (iFlaw f)), .int v]) (fun τ => n < 63 ∧ τ (iFlaw f) 2 = nI n) (fun τ τ1 => τ1 = hAdd τ f n v) := by
  refine gMV_of (by decide) (fun A => Nat.le_of_ble_eq_true rfl) ?_
  intro X τ hC hP hE
  have hC : gOk wX l X cX0_addCell "GemCut$Flaw" 0 0 0 := hC
  show G wX X 0 0 0 [some (.ref (gA X (iFlaw f))), some (.int v)] [] τ
  refine g_ald0 hC dX0_addCell_0 ?_
  refine xg_Flaw_cellCount hC (by first | assumption | omega | exact xk_pl _ (by assumption) _ (by omega) | decide) tw_1_40 dX0_addCell_1 ?_
  refine g_bipush 63 hC dX0_addCell_4 (by decide) ?_
  refine g_icmp_ge 29 hC dX0_addCell_6 (by decide) (fun c6 => absurd c6 (by rw [hP.2]; exact lit_nle (show (63 : Int32) = nI 63 by decide) hP.1 (by decide))) (fun c6 => ?_)
  refine g_ald0 hC dX0_addCell_9 ?_
  refine xg_Flaw_cells hC (by first | assumption | omega | exact xk_pl _ (by assumption) _ (by omega) | decide) tw_1_38 dX0_addCell_10 ?_
  refine g_ald0 hC dX0_addCell_13 ?_
  refine xg_Flaw_cellCount hC (by first | assumption | omega | exact xk_pl _ (by assumption) _ (by omega) | decide) tw_1_40 dX0_addCell_14 ?_
  refine g_ild1 hC dX0_addCell_17 ?_
  refine xs_FC n hC (by first | assumption | omega | exact xk_pl _ (by assumption) _ (by omega) | decide) hP.2 hP.1 dX0_addCell_18 ?_
  refine g_ald0 hC dX0_addCell_19 ?_
  refine g_dup hC dX0_addCell_20 rfl ?_
  refine xg_Flaw_cellCount hC (by first | assumption | omega | exact xk_pl _ (by assumption) _ (by omega) | decide) tw_1_40 dX0_addCell_21 ?_
  refine g_iconst 1 hC dX0_addCell_24 (by decide) ?_
  refine g_iadd hC dX0_addCell_25 ?_
  refine xp_Flaw_cellCount hC (by first | assumption | omega | exact xk_pl _ (by assumption) _ (by omega) | decide) tw_1_40 dX0_addCell_26 ?_
  have h1 : upd2 τ (iFlaw f + 1) n v (iFlaw f) 2 = nI n := by rw [upd2_ni (by omega)]; exact hP.2
  rw [h1, nI_1]
  exact hE _ _ _ _ _ dX0_addCell_29 (Nat.le_refl _) (Nat.le_refl _) rfl
theorem k_X0_addCell {l : Launch} {X : gC} {cc : ByteArray} {own : String} {dd ca sa kc nc pc : Nat} {ls : List (Option Value)} {st : List Value} {σ : Mem} {idx : Nat} {f n : Nat} {v : Int32} (hC : gOk wX l X cc own dd ca sa) (hlk : Cond.methodLink own idx yX0_addCell ∈ TB) (hd : decode cc pc = .ok (.invokevirtual idx, 3)) (hdd : 0 + 1 ≤ dd) (hfr : kc + 0 ≤ ca ∧ nc + 0 ≤ sa) (hrest : (st.map fun v => v.category).sum ≤ 8) (hf : f < 10) (hP : n < 63 ∧ σ (iFlaw f) 2 = nI n) (kk : G wX X kc nc (pc + 3) ls st (hAdd σ f n v)) : G wX X kc nc pc ls (.int v :: .ref (gA X (iFlaw f)) :: st) σ := by
  exact g_cVV 1 hC (c_X0_addCell l f n v hf) hlk ⟨tw_3_221, tw_3_222, tw_1_3, tw_3_223⟩ (by decide +kernel) ⟨hdd, by decide⟩ hfr rfl rfl rfl (rv_Flaw _ _ hf) hrest rfl hd hP (fun σ1 hq => by subst hq; exact kk)
set_option maxRecDepth 100000 in
set_option maxHeartbeats 4000000 in
/-- X0_stateIn -/
theorem c_X0_stateIn (l : Launch) (f s : Nat) (hf : f < 10) : gMI wX l yX0_stateIn (.code yX0_stateIn cX0_stateIn 2 (some FieldType.int)) 0 0 0 (fun A => [.ref (A (iFlaw f)), .int (nI s)]) (fun τ => s < 8) (fun τ rr τ1 => rr = xState τ f s ∧ τ1 = τ) := by
  refine gMI_of (by decide) (fun A => Nat.le_of_ble_eq_true rfl) ?_
  intro X τ hC hP hE
  have hC : gOk wX l X cX0_stateIn "GemCut$Flaw" 0 0 0 := hC
  show G wX X 0 0 0 [some (.ref (gA X (iFlaw f))), some (.int (nI s))] [] τ
  refine g_ald0 hC dX0_stateIn_0 ?_
  refine xg_Flaw_cellsIn hC (by first | assumption | omega | exact xk_pl _ (by assumption) _ (by omega) | decide) tw_1_42 dX0_stateIn_1 ?_
  refine g_ild1 hC dX0_stateIn_4 ?_
  refine xl_FI s hC (by first | assumption | omega | exact xk_pl _ (by assumption) _ (by omega) | decide) rfl hP dX0_stateIn_5 ?_
  refine g_if_ne 11 hC dX0_stateIn_6 (by decide) (fun c6 => ?_) (fun c6 => ?_)
  · refine g_ald0 hC dX0_stateIn_11 ?_
    refine xg_Flaw_bareIn hC (by first | assumption | omega | exact xk_pl _ (by assumption) _ (by omega) | decide) tw_1_44 dX0_stateIn_12 ?_
    refine g_ild1 hC dX0_stateIn_15 ?_
    refine xl_FB s hC (by first | assumption | omega | exact xk_pl _ (by assumption) _ (by omega) | decide) rfl hP dX0_stateIn_16 ?_
    refine g_if_le 24 hC dX0_stateIn_17 (by decide) (fun c17 => ?_) (fun c17 => ?_)
    · refine g_iconst 0 hC dX0_stateIn_24 (by decide) ?_
      exact hE _ _ _ _ _ _ dX0_stateIn_25 (Nat.le_refl _) (Nat.le_refl _) ⟨by (try simp only [ne_eq, b2i_eq0, Bool.not_eq_false, Int32.not_le, Int32.not_lt, Int32.zero_sub] at c6 c17); simp [xState, Int32.not_lt, c6, c17], rfl⟩
    · refine g_iconst 1 hC dX0_stateIn_20 (by decide) ?_
      refine g_goto 25 hC dX0_stateIn_21 (by decide) ?_
      exact hE _ _ _ _ _ _ dX0_stateIn_25 (Nat.le_refl _) (Nat.le_refl _) ⟨by (try simp only [ne_eq, b2i_eq0, Bool.not_eq_false, Int32.not_le, Int32.not_lt, Int32.zero_sub] at c6 c17); simp [xState, Int32.not_lt, c6, c17], rfl⟩
  · refine g_iconst (-1) hC dX0_stateIn_9 (by decide) ?_
    exact hE _ _ _ _ _ _ dX0_stateIn_10 (Nat.le_refl _) (Nat.le_refl _) ⟨by (try simp only [ne_eq, b2i_eq0, Bool.not_eq_false, Int32.not_le, Int32.not_lt, Int32.zero_sub] at c6); simp [xState, Int32.not_lt, c6], rfl⟩
theorem k_X0_stateIn {l : Launch} {X : gC} {cc : ByteArray} {own : String} {dd ca sa kc nc pc : Nat} {ls : List (Option Value)} {st : List Value} {σ : Mem} {idx : Nat} {f s : Nat} (hC : gOk wX l X cc own dd ca sa) (hlk : Cond.methodLink own idx yX0_stateIn ∈ TB) (hd : decode cc pc = .ok (.invokevirtual idx, 3)) (hdd : 0 + 1 ≤ dd) (hfr : kc + 0 ≤ ca ∧ nc + 0 ≤ sa) (hrest : (st.map fun v => v.category).sum ≤ 8) (hf : f < 10) (hP : s < 8) (kk : G wX X kc nc (pc + 3) ls (.int (xState σ f s) :: st) (σ)) : G wX X kc nc pc ls (.int (nI s) :: .ref (gA X (iFlaw f)) :: st) σ := by
  exact g_cVI 1 hC (c_X0_stateIn l f s hf) hlk ⟨tw_2_131, tw_2_132, tw_1_3, tw_2_133⟩ (by decide +kernel) ⟨hdd, by decide⟩ hfr rfl rfl rfl (rv_Flaw _ _ hf) hrest rfl hd hP (fun rr σ1 hq => by obtain ⟨rfl, rfl⟩ := hq; exact kk)
set_option maxRecDepth 100000 in
set_option maxHeartbeats 4000000 in
/-- X0_pointsIf -/
theorem c_X0_pointsIf (l : Launch) (f : Nat) (v : Int32) (hf : f < 10) : gMI wX l yX0_pointsIf (.code yX0_pointsIf cX0_pointsIf 2 (some FieldType.int)) 0 0 0 (fun A => [.ref (A (iFlaw f)), .int v]) (fun τ => v = 0 ∨ v = 1 ∨ v = -1) (fun τ rr τ1 => rr = xPts τ f v ∧ τ1 = τ) := by
  refine gMI_of (by decide) (fun A => Nat.le_of_ble_eq_true rfl) ?_
  intro X τ hC hP hE
  have hC : gOk wX l X cX0_pointsIf "GemCut$Flaw" 0 0 0 := hC
  show G wX X 0 0 0 [some (.ref (gA X (iFlaw f))), some (.int v)] [] τ
  refine g_ild1 hC dX0_pointsIf_0 ?_
  rcases hP with rfl | rfl | rfl
  · refine g_look (off := 35) 36 hC dX0_pointsIf_1 (by decide) (by decide) (by decide) ?_
    refine g_iconst 2 hC dX0_pointsIf_36 (by decide) ?_
    refine g_ald0 hC dX0_pointsIf_37 ?_
    refine xg_Flaw_severity hC (by first | assumption | omega | exact xk_pl _ (by assumption) _ (by omega) | decide) tw_1_37 dX0_pointsIf_38 ?_
    refine g_imul hC dX0_pointsIf_41 ?_
    exact hE _ _ _ _ _ _ dX0_pointsIf_42 (Nat.le_refl _) (Nat.le_refl _) ⟨by rfl, rfl⟩
  · refine g_look (off := 27) 28 hC dX0_pointsIf_1 (by decide) (by decide) (by decide) ?_
    refine g_bipush 6 hC dX0_pointsIf_28 (by decide) ?_
    refine g_ald0 hC dX0_pointsIf_30 ?_
    refine xg_Flaw_severity hC (by first | assumption | omega | exact xk_pl _ (by assumption) _ (by omega) | decide) tw_1_37 dX0_pointsIf_31 ?_
    refine g_imul hC dX0_pointsIf_34 ?_
    exact hE _ _ _ _ _ _ dX0_pointsIf_35 (Nat.le_refl _) (Nat.le_refl _) ⟨by rfl, rfl⟩
  · refine g_look (off := 42) 43 hC dX0_pointsIf_1 (by decide) (by decide) (by decide) ?_
    refine g_iconst 0 hC dX0_pointsIf_43 (by decide) ?_
    exact hE _ _ _ _ _ _ dX0_pointsIf_44 (Nat.le_refl _) (Nat.le_refl _) ⟨by rfl, rfl⟩
theorem k_X0_pointsIf {l : Launch} {X : gC} {cc : ByteArray} {own : String} {dd ca sa kc nc pc : Nat} {ls : List (Option Value)} {st : List Value} {σ : Mem} {idx : Nat} {f : Nat} {v : Int32} (hC : gOk wX l X cc own dd ca sa) (hlk : Cond.methodLink own idx yX0_pointsIf ∈ TB) (hd : decode cc pc = .ok (.invokevirtual idx, 3)) (hdd : 0 + 1 ≤ dd) (hfr : kc + 0 ≤ ca ∧ nc + 0 ≤ sa) (hrest : (st.map fun v => v.category).sum ≤ 8) (hf : f < 10) (hP : v = 0 ∨ v = 1 ∨ v = -1) (kk : G wX X kc nc (pc + 3) ls (.int (xPts σ f v) :: st) (σ)) : G wX X kc nc pc ls (.int v :: .ref (gA X (iFlaw f)) :: st) σ := by
  exact g_cVI 1 hC (c_X0_pointsIf l f v hf) hlk ⟨tw_3_37, tw_3_38, tw_1_3, tw_3_39⟩ (by decide +kernel) ⟨hdd, by decide⟩ hfr rfl rfl rfl (rv_Flaw _ _ hf) hrest rfl hd hP (fun rr σ1 hq => by obtain ⟨rfl, rfl⟩ := hq; exact kk)
set_option maxRecDepth 100000 in
set_option maxHeartbeats 4000000 in
/-- X2_size -/
theorem c_X2_size (l : Launch) : gMI wX l yX2_size (.code yX2_size cX2_size 1 (some FieldType.int)) 0 0 0 (fun A => [.ref (A 1)]) (fun τ => True) (fun τ rr τ1 => rr = xSize τ ∧ τ1 = τ) := by
  refine gMI_of (by decide) (fun A => Nat.le_of_ble_eq_true rfl) ?_
  intro X τ hC hP hE
  have hC : gOk wX l X cX2_size "GemCut$Rough" 0 0 0 := hC
  show G wX X 0 0 0 [some (.ref (gA X 1))] [] τ
  refine g_ald0 hC dX2_size_0 ?_
  refine xg_Rough_columns hC tw_1_59 dX2_size_1 ?_
  refine g_ald0 hC dX2_size_4 ?_
  refine xg_Rough_rows hC tw_1_62 dX2_size_5 ?_
  refine g_imul hC dX2_size_8 ?_
  refine g_ald0 hC dX2_size_9 ?_
  refine xg_Rough_layers hC tw_1_65 dX2_size_10 ?_
  refine g_imul hC dX2_size_13 ?_
  exact hE _ _ _ _ _ _ dX2_size_14 (Nat.le_refl _) (Nat.le_refl _) ⟨by rfl, rfl⟩
theorem k_X2_size {l : Launch} {X : gC} {cc : ByteArray} {own : String} {dd ca sa kc nc pc : Nat} {ls : List (Option Value)} {st : List Value} {σ : Mem} {idx : Nat}  (hC : gOk wX l X cc own dd ca sa) (hlk : Cond.methodLink own idx yX2_size ∈ TB) (hd : decode cc pc = .ok (.invokevirtual idx, 3)) (hdd : 0 + 1 ≤ dd) (hfr : kc + 0 ≤ ca ∧ nc + 0 ≤ sa) (hrest : (st.map fun v => v.category).sum ≤ 8)   (kk : G wX X kc nc (pc + 3) ls (.int (xSize σ) :: st) (σ)) : G wX X kc nc pc ls (.ref (gA X 1) :: st) σ := by
  exact g_cVI 0 hC (c_X2_size l) hlk ⟨tw_1_200, tw_1_201, tw_1_2, tw_1_202⟩ (by decide +kernel) ⟨hdd, by decide⟩ hfr rfl rfl rfl (gW_at wX _ _ (by decide)) hrest rfl hd trivial (fun rr σ1 hq => by obtain ⟨rfl, rfl⟩ := hq; exact kk)
set_option maxRecDepth 100000 in
set_option maxHeartbeats 4000000 in
/-- X2_holds -/
theorem c_X2_holds (l : Launch) (x y z : Int32) : gMZ wX l yX2_holds (.code yX2_holds cX2_holds 4 (some FieldType.boolean)) 0 0 0 (fun A => [.ref (A 1), .int x, .int y, .int z]) (fun τ => True) (fun τ rr τ1 => rr = b2i (xHolds τ x y z) ∧ τ1 = τ) := by
  refine gMZ_of (by decide) (fun A => Nat.le_of_ble_eq_true rfl) ?_
  intro X τ hC hP hE
  have hC : gOk wX l X cX2_holds "GemCut$Rough" 0 0 0 := hC
  show G wX X 0 0 0 [some (.ref (gA X 1)), some (.int x), some (.int y), some (.int z)] [] τ
  refine g_ild1 hC dX2_holds_0 ?_
  refine g_if_lt 40 hC dX2_holds_1 (by decide) (fun c1 => ?_) (fun c1 => ?_)
  · refine g_iconst 0 hC dX2_holds_40 (by decide) ?_
    exact hE _ _ _ _ _ _ dX2_holds_41 (Nat.le_refl _) (Nat.le_refl _) (by first | exact Or.inl rfl | exact Or.inr rfl | exact b2i_01 _) ⟨by simp [xHolds, b2i, -Int32.not_le, -Int32.not_lt, c1], rfl⟩
  · refine g_ild1 hC dX2_holds_4 ?_
    refine g_ald0 hC dX2_holds_5 ?_
    refine xg_Rough_columns hC tw_1_59 dX2_holds_6 ?_
    refine g_icmp_ge 40 hC dX2_holds_9 (by decide) (fun c9 => ?_) (fun c9 => ?_)
    · refine g_iconst 0 hC dX2_holds_40 (by decide) ?_
      exact hE _ _ _ _ _ _ dX2_holds_41 (Nat.le_refl _) (Nat.le_refl _) (by first | exact Or.inl rfl | exact Or.inr rfl | exact b2i_01 _) ⟨by simp [xHolds, b2i, -Int32.not_le, -Int32.not_lt, c1, c9], rfl⟩
    · refine g_ild2 hC dX2_holds_12 ?_
      refine g_if_lt 40 hC dX2_holds_13 (by decide) (fun c13 => ?_) (fun c13 => ?_)
      · refine g_iconst 0 hC dX2_holds_40 (by decide) ?_
        exact hE _ _ _ _ _ _ dX2_holds_41 (Nat.le_refl _) (Nat.le_refl _) (by first | exact Or.inl rfl | exact Or.inr rfl | exact b2i_01 _) ⟨by simp [xHolds, b2i, -Int32.not_le, -Int32.not_lt, c1, c9, c13], rfl⟩
      · refine g_ild2 hC dX2_holds_16 ?_
        refine g_ald0 hC dX2_holds_17 ?_
        refine xg_Rough_rows hC tw_1_62 dX2_holds_18 ?_
        refine g_icmp_ge 40 hC dX2_holds_21 (by decide) (fun c21 => ?_) (fun c21 => ?_)
        · refine g_iconst 0 hC dX2_holds_40 (by decide) ?_
          exact hE _ _ _ _ _ _ dX2_holds_41 (Nat.le_refl _) (Nat.le_refl _) (by first | exact Or.inl rfl | exact Or.inr rfl | exact b2i_01 _) ⟨by simp [xHolds, b2i, -Int32.not_le, -Int32.not_lt, c1, c9, c13, c21], rfl⟩
        · refine g_ild3 hC dX2_holds_24 ?_
          refine g_if_lt 40 hC dX2_holds_25 (by decide) (fun c25 => ?_) (fun c25 => ?_)
          · refine g_iconst 0 hC dX2_holds_40 (by decide) ?_
            exact hE _ _ _ _ _ _ dX2_holds_41 (Nat.le_refl _) (Nat.le_refl _) (by first | exact Or.inl rfl | exact Or.inr rfl | exact b2i_01 _) ⟨by simp [xHolds, b2i, -Int32.not_le, -Int32.not_lt, c1, c9, c13, c21, c25], rfl⟩
          · refine g_ild3 hC dX2_holds_28 ?_
            refine g_ald0 hC dX2_holds_29 ?_
            refine xg_Rough_layers hC tw_1_65 dX2_holds_30 ?_
            refine g_icmp_ge 40 hC dX2_holds_33 (by decide) (fun c33 => ?_) (fun c33 => ?_)
            · refine g_iconst 0 hC dX2_holds_40 (by decide) ?_
              exact hE _ _ _ _ _ _ dX2_holds_41 (Nat.le_refl _) (Nat.le_refl _) (by first | exact Or.inl rfl | exact Or.inr rfl | exact b2i_01 _) ⟨by simp [xHolds, b2i, -Int32.not_le, -Int32.not_lt, c1, c9, c13, c21, c25, c33], rfl⟩
            · refine g_iconst 1 hC dX2_holds_36 (by decide) ?_
              refine g_goto 41 hC dX2_holds_37 (by decide) ?_
              exact hE _ _ _ _ _ _ dX2_holds_41 (Nat.le_refl _) (Nat.le_refl _) (by first | exact Or.inl rfl | exact Or.inr rfl | exact b2i_01 _) ⟨by simp [xHolds, b2i, -Int32.not_le, -Int32.not_lt, c1, c9, c13, c21, c25, c33], rfl⟩
theorem k_X2_holds {l : Launch} {X : gC} {cc : ByteArray} {own : String} {dd ca sa kc nc pc : Nat} {ls : List (Option Value)} {st : List Value} {σ : Mem} {idx : Nat} {x y z : Int32} (hC : gOk wX l X cc own dd ca sa) (hlk : Cond.methodLink own idx yX2_holds ∈ TB) (hd : decode cc pc = .ok (.invokevirtual idx, 3)) (hdd : 0 + 1 ≤ dd) (hfr : kc + 0 ≤ ca ∧ nc + 0 ≤ sa) (hrest : (st.map fun v => v.category).sum ≤ 8)   (kk : G wX X kc nc (pc + 3) ls (.int (b2i (xHolds σ x y z)) :: st) (σ)) : G wX X kc nc pc ls (.int z :: .int y :: .int x :: .ref (gA X 1) :: st) σ := by
  exact g_cVZ 3 hC (c_X2_holds l x y z) hlk ⟨tw_1_228, tw_1_229, tw_1_2, tw_1_230⟩ (by decide +kernel) ⟨hdd, by decide⟩ hfr rfl rfl rfl (gW_at wX _ _ (by decide)) hrest rfl hd trivial (fun rr σ1 hq => by obtain ⟨rfl, rfl⟩ := hq; exact kk)
set_option maxRecDepth 100000 in
set_option maxHeartbeats 4000000 in
/-- X2_indexOf -/
theorem c_X2_indexOf (l : Launch) (x y z : Int32) : gMI wX l yX2_indexOf (.code yX2_indexOf cX2_indexOf 4 (some FieldType.int)) 0 0 0 (fun A => [.ref (A 1), .int x, .int y, .int z]) (fun τ => True) (fun τ rr τ1 => rr = xIdx τ x y z ∧ τ1 = τ) := by
  refine gMI_of (by decide) (fun A => Nat.le_of_ble_eq_true rfl) ?_
  intro X τ hC hP hE
  have hC : gOk wX l X cX2_indexOf "GemCut$Rough" 0 0 0 := hC
  show G wX X 0 0 0 [some (.ref (gA X 1)), some (.int x), some (.int y), some (.int z)] [] τ
  refine g_ild3 hC dX2_indexOf_0 ?_
  refine g_ald0 hC dX2_indexOf_1 ?_
  refine xg_Rough_rows hC tw_1_62 dX2_indexOf_2 ?_
  refine g_imul hC dX2_indexOf_5 ?_
  refine g_ild2 hC dX2_indexOf_6 ?_
  refine g_iadd hC dX2_indexOf_7 ?_
  refine g_ald0 hC dX2_indexOf_8 ?_
  refine xg_Rough_columns hC tw_1_59 dX2_indexOf_9 ?_
  refine g_imul hC dX2_indexOf_12 ?_
  refine g_ild1 hC dX2_indexOf_13 ?_
  refine g_iadd hC dX2_indexOf_14 ?_
  exact hE _ _ _ _ _ _ dX2_indexOf_15 (Nat.le_refl _) (Nat.le_refl _) ⟨by rfl, rfl⟩
theorem k_X2_indexOf {l : Launch} {X : gC} {cc : ByteArray} {own : String} {dd ca sa kc nc pc : Nat} {ls : List (Option Value)} {st : List Value} {σ : Mem} {idx : Nat} {x y z : Int32} (hC : gOk wX l X cc own dd ca sa) (hlk : Cond.methodLink own idx yX2_indexOf ∈ TB) (hd : decode cc pc = .ok (.invokevirtual idx, 3)) (hdd : 0 + 1 ≤ dd) (hfr : kc + 0 ≤ ca ∧ nc + 0 ≤ sa) (hrest : (st.map fun v => v.category).sum ≤ 8)   (kk : G wX X kc nc (pc + 3) ls (.int (xIdx σ x y z) :: st) (σ)) : G wX X kc nc pc ls (.int z :: .int y :: .int x :: .ref (gA X 1) :: st) σ := by
  exact g_cVI 3 hC (c_X2_indexOf l x y z) hlk ⟨tw_1_232, tw_1_233, tw_1_2, tw_1_234⟩ (by decide +kernel) ⟨hdd, by decide⟩ hfr rfl rfl rfl (gW_at wX _ _ (by decide)) hrest rfl hd trivial (fun rr σ1 hq => by obtain ⟨rfl, rfl⟩ := hq; exact kk)
set_option maxRecDepth 100000 in
set_option maxHeartbeats 4000000 in
/-- X2_ownerAt -/
theorem c_X2_ownerAt (l : Launch) (x y z : Int32) : gMI wX l yX2_ownerAt (.code yX2_ownerAt cX2_ownerAt 4 (some FieldType.int)) 1 0 0 (fun A => [.ref (A 1), .int x, .int y, .int z]) (fun τ => RI τ) (fun τ rr τ1 => rr = xOwn τ x y z ∧ τ1 = τ) := by
  refine gMI_of (by decide) (fun A => Nat.le_of_ble_eq_true rfl) ?_
  intro X τ hC hP hE
  have hC : gOk wX l X cX2_ownerAt "GemCut$Rough" 1 0 0 := hC
  show G wX X 0 0 0 [some (.ref (gA X 1)), some (.int x), some (.int y), some (.int z)] [] τ
  refine g_ald0 hC dX2_ownerAt_0 ?_
  refine g_ild1 hC dX2_ownerAt_1 ?_
  refine g_ild2 hC dX2_ownerAt_2 ?_
  refine g_ild3 hC dX2_ownerAt_3 ?_
  refine k_X2_holds hC tw_1_227 dX2_ownerAt_4 (by decide) ⟨by omega, by omega⟩ (Nat.le_of_ble_eq_true rfl) ?_
  refine g_if_eq 25 hC dX2_ownerAt_7 (by decide) (fun c7 => ?_) (fun c7 => ?_)
  · (try simp only [ne_eq, b2i_eq0, Bool.not_eq_false, Int32.not_le, Int32.not_lt, Int32.zero_sub] at c7)
    refine g_iconst (-1) hC dX2_ownerAt_25 (by decide) ?_
    exact hE _ _ _ _ _ _ dX2_ownerAt_26 (Nat.le_refl _) (Nat.le_refl _) ⟨by simp [xOwn, c7], rfl⟩
  · (try simp only [ne_eq, b2i_eq0, Bool.not_eq_false, Int32.not_le, Int32.not_lt, Int32.zero_sub] at c7)
    obtain ⟨a, b, c, C, R, L, rfl, rfl, rfl, ha, hb, hc, hC1, hR1, hL1, e1, e2, e3, hix, hlt⟩ := holds_nI hP c7
    refine g_ald0 hC dX2_ownerAt_10 ?_
    refine xg_Rough_owner hC tw_1_68 dX2_ownerAt_11 ?_
    refine g_ald0 hC dX2_ownerAt_14 ?_
    refine g_ild1 hC dX2_ownerAt_15 ?_
    refine g_ild2 hC dX2_ownerAt_16 ?_
    refine g_ild3 hC dX2_ownerAt_17 ?_
    refine k_X2_indexOf hC tw_1_231 dX2_ownerAt_18 (by decide) ⟨by omega, by omega⟩ (Nat.le_of_ble_eq_true rfl) ?_
    refine xl_owner _ hC hix hlt dX2_ownerAt_21 ?_
    refine g_goto 26 hC dX2_ownerAt_22 (by decide) ?_
    exact hE _ _ _ _ _ _ dX2_ownerAt_26 (Nat.le_refl _) (Nat.le_refl _) ⟨by rw [xOwn, if_pos c7, hix, nI_clamp (by omega)], rfl⟩
theorem k_X2_ownerAt {l : Launch} {X : gC} {cc : ByteArray} {own : String} {dd ca sa kc nc pc : Nat} {ls : List (Option Value)} {st : List Value} {σ : Mem} {idx : Nat} {x y z : Int32} (hC : gOk wX l X cc own dd ca sa) (hlk : Cond.methodLink own idx yX2_ownerAt ∈ TB) (hd : decode cc pc = .ok (.invokevirtual idx, 3)) (hdd : 1 + 1 ≤ dd) (hfr : kc + 0 ≤ ca ∧ nc + 0 ≤ sa) (hrest : (st.map fun v => v.category).sum ≤ 8)  (hP : RI σ) (kk : G wX X kc nc (pc + 3) ls (.int (xOwn σ x y z) :: st) (σ)) : G wX X kc nc pc ls (.int z :: .int y :: .int x :: .ref (gA X 1) :: st) σ := by
  exact g_cVI 3 hC (c_X2_ownerAt l x y z) hlk ⟨tw_1_224, tw_1_225, tw_1_2, tw_1_226⟩ (by decide +kernel) ⟨hdd, by decide⟩ hfr rfl rfl rfl (gW_at wX _ _ (by decide)) hrest rfl hd hP (fun rr σ1 hq => by obtain ⟨rfl, rfl⟩ := hq; exact kk)
set_option maxRecDepth 100000 in
set_option maxHeartbeats 4000000 in
/-- X2_isBare -/
theorem c_X2_isBare (l : Launch) (s x y z : Int32) : gMZ wX l yX2_isBare (.code yX2_isBare cX2_isBare 5 (some FieldType.boolean)) 2 0 0 (fun A => [.ref (A 1), .int s, .int x, .int y, .int z]) (fun τ => RI τ) (fun τ rr τ1 => rr = b2i (xBare τ s x y z) ∧ τ1 = τ) := by
  refine gMZ_of (by decide) (fun A => Nat.le_of_ble_eq_true rfl) ?_
  intro X τ hC hP hE
  have hC : gOk wX l X cX2_isBare "GemCut$Rough" 2 0 0 := hC
  show G wX X 0 0 0 [some (.ref (gA X 1)), some (.int s), some (.int x), some (.int y), some (.int z)] [] τ
  refine g_ald0 hC dX2_isBare_0 ?_
  refine g_ild2 hC dX2_isBare_1 ?_
  refine g_iconst 1 hC dX2_isBare_2 (by decide) ?_
  refine g_isub hC dX2_isBare_3 ?_
  refine g_ild3 hC dX2_isBare_4 ?_
  refine g_ild4 hC dX2_isBare_5 ?_
  refine k_X2_ownerAt hC tw_1_223 dX2_isBare_7 (by decide) ⟨by omega, by omega⟩ (Nat.le_of_ble_eq_true rfl) hP ?_
  refine g_ild1 hC dX2_isBare_10 ?_
  refine g_icmp_ne 84 hC dX2_isBare_11 (by decide) (fun c11 => ?_) (fun c11 => ?_)
  · refine g_iconst 1 hC dX2_isBare_84 (by decide) ?_
    refine g_goto 89 hC dX2_isBare_85 (by decide) ?_
    exact hE _ _ _ _ _ _ dX2_isBare_89 (Nat.le_refl _) (Nat.le_refl _) (by first | exact Or.inl rfl | exact Or.inr rfl | exact b2i_01 _) ⟨by simp [xBare, b2i, c11], rfl⟩
  · refine g_ald0 hC dX2_isBare_14 ?_
    refine g_ild2 hC dX2_isBare_15 ?_
    refine g_iconst 1 hC dX2_isBare_16 (by decide) ?_
    refine g_iadd hC dX2_isBare_17 ?_
    refine g_ild3 hC dX2_isBare_18 ?_
    refine g_ild4 hC dX2_isBare_19 ?_
    refine k_X2_ownerAt hC tw_1_223 dX2_isBare_21 (by decide) ⟨by omega, by omega⟩ (Nat.le_of_ble_eq_true rfl) hP ?_
    refine g_ild1 hC dX2_isBare_24 ?_
    refine g_icmp_ne 84 hC dX2_isBare_25 (by decide) (fun c25 => ?_) (fun c25 => ?_)
    · refine g_iconst 1 hC dX2_isBare_84 (by decide) ?_
      refine g_goto 89 hC dX2_isBare_85 (by decide) ?_
      exact hE _ _ _ _ _ _ dX2_isBare_89 (Nat.le_refl _) (Nat.le_refl _) (by first | exact Or.inl rfl | exact Or.inr rfl | exact b2i_01 _) ⟨by simp [xBare, b2i, c11, c25], rfl⟩
    · refine g_ald0 hC dX2_isBare_28 ?_
      refine g_ild2 hC dX2_isBare_29 ?_
      refine g_ild3 hC dX2_isBare_30 ?_
      refine g_iconst 1 hC dX2_isBare_31 (by decide) ?_
      refine g_isub hC dX2_isBare_32 ?_
      refine g_ild4 hC dX2_isBare_33 ?_
      refine k_X2_ownerAt hC tw_1_223 dX2_isBare_35 (by decide) ⟨by omega, by omega⟩ (Nat.le_of_ble_eq_true rfl) hP ?_
      refine g_ild1 hC dX2_isBare_38 ?_
      refine g_icmp_ne 84 hC dX2_isBare_39 (by decide) (fun c39 => ?_) (fun c39 => ?_)
      · refine g_iconst 1 hC dX2_isBare_84 (by decide) ?_
        refine g_goto 89 hC dX2_isBare_85 (by decide) ?_
        exact hE _ _ _ _ _ _ dX2_isBare_89 (Nat.le_refl _) (Nat.le_refl _) (by first | exact Or.inl rfl | exact Or.inr rfl | exact b2i_01 _) ⟨by simp [xBare, b2i, c11, c25, c39], rfl⟩
      · refine g_ald0 hC dX2_isBare_42 ?_
        refine g_ild2 hC dX2_isBare_43 ?_
        refine g_ild3 hC dX2_isBare_44 ?_
        refine g_iconst 1 hC dX2_isBare_45 (by decide) ?_
        refine g_iadd hC dX2_isBare_46 ?_
        refine g_ild4 hC dX2_isBare_47 ?_
        refine k_X2_ownerAt hC tw_1_223 dX2_isBare_49 (by decide) ⟨by omega, by omega⟩ (Nat.le_of_ble_eq_true rfl) hP ?_
        refine g_ild1 hC dX2_isBare_52 ?_
        refine g_icmp_ne 84 hC dX2_isBare_53 (by decide) (fun c53 => ?_) (fun c53 => ?_)
        · refine g_iconst 1 hC dX2_isBare_84 (by decide) ?_
          refine g_goto 89 hC dX2_isBare_85 (by decide) ?_
          exact hE _ _ _ _ _ _ dX2_isBare_89 (Nat.le_refl _) (Nat.le_refl _) (by first | exact Or.inl rfl | exact Or.inr rfl | exact b2i_01 _) ⟨by simp [xBare, b2i, c11, c25, c39, c53], rfl⟩
        · refine g_ald0 hC dX2_isBare_56 ?_
          refine g_ild2 hC dX2_isBare_57 ?_
          refine g_ild3 hC dX2_isBare_58 ?_
          refine g_ild4 hC dX2_isBare_59 ?_
          refine g_iconst 1 hC dX2_isBare_61 (by decide) ?_
          refine g_isub hC dX2_isBare_62 ?_
          refine k_X2_ownerAt hC tw_1_223 dX2_isBare_63 (by decide) ⟨by omega, by omega⟩ (Nat.le_of_ble_eq_true rfl) hP ?_
          refine g_ild1 hC dX2_isBare_66 ?_
          refine g_icmp_ne 84 hC dX2_isBare_67 (by decide) (fun c67 => ?_) (fun c67 => ?_)
          · refine g_iconst 1 hC dX2_isBare_84 (by decide) ?_
            refine g_goto 89 hC dX2_isBare_85 (by decide) ?_
            exact hE _ _ _ _ _ _ dX2_isBare_89 (Nat.le_refl _) (Nat.le_refl _) (by first | exact Or.inl rfl | exact Or.inr rfl | exact b2i_01 _) ⟨by simp [xBare, b2i, c11, c25, c39, c53, c67], rfl⟩
          · refine g_ald0 hC dX2_isBare_70 ?_
            refine g_ild2 hC dX2_isBare_71 ?_
            refine g_ild3 hC dX2_isBare_72 ?_
            refine g_ild4 hC dX2_isBare_73 ?_
            refine g_iconst 1 hC dX2_isBare_75 (by decide) ?_
            refine g_iadd hC dX2_isBare_76 ?_
            refine k_X2_ownerAt hC tw_1_223 dX2_isBare_77 (by decide) ⟨by omega, by omega⟩ (Nat.le_of_ble_eq_true rfl) hP ?_
            refine g_ild1 hC dX2_isBare_80 ?_
            refine g_icmp_eq 88 hC dX2_isBare_81 (by decide) (fun c81 => ?_) (fun c81 => ?_)
            · refine g_iconst 0 hC dX2_isBare_88 (by decide) ?_
              exact hE _ _ _ _ _ _ dX2_isBare_89 (Nat.le_refl _) (Nat.le_refl _) (by first | exact Or.inl rfl | exact Or.inr rfl | exact b2i_01 _) ⟨by simp [xBare, b2i, c11, c25, c39, c53, c67, c81], rfl⟩
            · refine g_iconst 1 hC dX2_isBare_84 (by decide) ?_
              refine g_goto 89 hC dX2_isBare_85 (by decide) ?_
              exact hE _ _ _ _ _ _ dX2_isBare_89 (Nat.le_refl _) (Nat.le_refl _) (by first | exact Or.inl rfl | exact Or.inr rfl | exact b2i_01 _) ⟨by simp [xBare, b2i, c11, c25, c39, c53, c67, c81], rfl⟩
theorem k_X2_isBare {l : Launch} {X : gC} {cc : ByteArray} {own : String} {dd ca sa kc nc pc : Nat} {ls : List (Option Value)} {st : List Value} {σ : Mem} {idx : Nat} {s x y z : Int32} (hC : gOk wX l X cc own dd ca sa) (hlk : Cond.methodLink own idx yX2_isBare ∈ TB) (hd : decode cc pc = .ok (.invokevirtual idx, 3)) (hdd : 2 + 1 ≤ dd) (hfr : kc + 0 ≤ ca ∧ nc + 0 ≤ sa) (hrest : (st.map fun v => v.category).sum ≤ 8)  (hP : RI σ) (kk : G wX X kc nc (pc + 3) ls (.int (b2i (xBare σ s x y z)) :: st) (σ)) : G wX X kc nc pc ls (.int z :: .int y :: .int x :: .int s :: .ref (gA X 1) :: st) σ := by
  exact g_cVZ 4 hC (c_X2_isBare l s x y z) hlk ⟨tw_1_220, tw_1_221, tw_1_2, tw_1_222⟩ (by decide +kernel) ⟨hdd, by decide⟩ hfr rfl rfl rfl (gW_at wX _ _ (by decide)) hrest rfl hd hP (fun rr σ1 hq => by obtain ⟨rfl, rfl⟩ := hq; exact kk)
set_option maxRecDepth 100000 in
set_option maxHeartbeats 4000000 in
/-- X3_dropPlanes -/
theorem c_X3_dropPlanes (l : Launch) (s : Nat) (hs : s < 8) : gMV wX l yX3_dropPlanes (.code yX3_dropPlanes cX3_dropPlanes 1 none) 0 0 0 (fun A => [.ref (A (iStone s))]) (fun τ => True) (fun τ τ1 => τ1 = upd2 τ (iStone s) 2 0) := by
  refine gMV_of (by decide) (fun A => Nat.le_of_ble_eq_true rfl) ?_
  intro X τ hC hP hE
  have hC : gOk wX l X cX3_dropPlanes "GemCut$Stone" 0 0 0 := hC
  show G wX X 0 0 0 [some (.ref (gA X (iStone s)))] [] τ
  refine g_ald0 hC dX3_dropPlanes_0 ?_
  refine g_iconst 0 hC dX3_dropPlanes_1 (by decide) ?_
  refine xp_Stone_planeCount hC (by first | assumption | omega | exact xk_pl _ (by assumption) _ (by omega) | decide) tw_1_145 dX3_dropPlanes_2 ?_
  exact hE _ _ _ _ _ dX3_dropPlanes_5 (Nat.le_refl _) (Nat.le_refl _) rfl
theorem k_X3_dropPlanes {l : Launch} {X : gC} {cc : ByteArray} {own : String} {dd ca sa kc nc pc : Nat} {ls : List (Option Value)} {st : List Value} {σ : Mem} {idx : Nat} {s : Nat} (hC : gOk wX l X cc own dd ca sa) (hlk : Cond.methodLink own idx yX3_dropPlanes ∈ TB) (hd : decode cc pc = .ok (.invokevirtual idx, 3)) (hdd : 0 + 1 ≤ dd) (hfr : kc + 0 ≤ ca ∧ nc + 0 ≤ sa) (hrest : (st.map fun v => v.category).sum ≤ 8) (hs : s < 8)  (kk : G wX X kc nc (pc + 3) ls st (upd2 σ (iStone s) 2 0)) : G wX X kc nc pc ls (.ref (gA X (iStone s)) :: st) σ := by
  exact g_cVV 0 hC (c_X3_dropPlanes l s hs) hlk ⟨tw_1_204, tw_1_205, tw_1_4, tw_1_206⟩ (by decide +kernel) ⟨hdd, by decide⟩ hfr rfl rfl rfl (rv_Stone _ _ hs) hrest rfl hd trivial (fun σ1 hq => by subst hq; exact kk)
set_option maxRecDepth 100000 in
set_option maxHeartbeats 4000000 in
/-- X3_keep -/
theorem c_X3_keep (l : Launch) (s n : Nat) (p q r d : Int32) (hs : s < 8) : gMV wX l yX3_keep (.code yX3_keep cX3_keep 5 none) 2 0 0 (fun A => [.ref (A (iStone s)), .int p, .int q, .int r, .int d]) (fun τ => n < 16 ∧ τ (iStone s) 2 = nI n) (fun τ τ1 => τ1 = hKeep τ s n p q r d) := by
  refine gMV_of (by decide) (fun A => Nat.le_of_ble_eq_true rfl) ?_
  intro X τ hC hP hE
  have hC : gOk wX l X cX3_keep "GemCut$Stone" 2 0 0 := hC
  show G wX X 0 0 0 [some (.ref (gA X (iStone s))), some (.int p), some (.int q), some (.int r), some (.int d)] [] τ
  refine g_ald0 hC dX3_keep_0 ?_
  refine xg_Stone_planeCount hC (by first | assumption | omega | exact xk_pl _ (by assumption) _ (by omega) | decide) tw_1_145 dX3_keep_1 ?_
  refine g_bipush 16 hC dX3_keep_4 (by decide) ?_
  refine g_icmp_ge 36 hC dX3_keep_6 (by decide) (fun c6 => absurd c6 (by rw [hP.2]; exact lit_nle (show (16 : Int32) = nI 16 by decide) hP.1 (by decide))) (fun c6 => ?_)
  refine g_ald0 hC dX3_keep_9 ?_
  refine xg_Stone_planes hC (by first | assumption | omega | exact xk_pl _ (by assumption) _ (by omega) | decide) tw_1_142 dX3_keep_10 ?_
  refine g_ald0 hC dX3_keep_13 ?_
  refine xg_Stone_planeCount hC (by first | assumption | omega | exact xk_pl _ (by assumption) _ (by omega) | decide) tw_1_145 dX3_keep_14 ?_
  refine xl_Pls n hC (by first | assumption | omega | exact xk_pl _ (by assumption) _ (by omega) | decide) hP.2 hP.1 dX3_keep_17 ?_
  refine g_ild1 hC dX3_keep_18 ?_
  refine g_ild2 hC dX3_keep_19 ?_
  refine g_ild3 hC dX3_keep_20 ?_
  refine g_ild4 hC dX3_keep_21 ?_
  refine k_X1_set hC tw_2_224 dX3_keep_23 (by decide) ⟨by omega, by omega⟩ (Nat.le_of_ble_eq_true rfl) (xk_pl s hs n hP.1) ?_
  refine g_ald0 hC dX3_keep_26 ?_
  refine g_dup hC dX3_keep_27 rfl ?_
  refine xg_Stone_planeCount hC (by first | assumption | omega | exact xk_pl _ (by assumption) _ (by omega) | decide) tw_1_145 dX3_keep_28 ?_
  refine g_iconst 1 hC dX3_keep_31 (by decide) ?_
  refine g_iadd hC dX3_keep_32 ?_
  refine xp_Stone_planeCount hC (by first | assumption | omega | exact xk_pl _ (by assumption) _ (by omega) | decide) tw_1_145 dX3_keep_33 ?_
  have h1 : hSet τ (iPl s n) p q r d (iStone s) 2 = nI n := by unfold hSet; rw [if_neg (fun h => pl_ne_st s n s hP.1 h.symm)]; exact hP.2
  rw [h1, nI_1]
  exact hE _ _ _ _ _ dX3_keep_36 (Nat.le_refl _) (Nat.le_refl _) rfl
theorem k_X3_keep {l : Launch} {X : gC} {cc : ByteArray} {own : String} {dd ca sa kc nc pc : Nat} {ls : List (Option Value)} {st : List Value} {σ : Mem} {idx : Nat} {s n : Nat} {p q r d : Int32} (hC : gOk wX l X cc own dd ca sa) (hlk : Cond.methodLink own idx yX3_keep ∈ TB) (hd : decode cc pc = .ok (.invokevirtual idx, 3)) (hdd : 2 + 1 ≤ dd) (hfr : kc + 0 ≤ ca ∧ nc + 0 ≤ sa) (hrest : (st.map fun v => v.category).sum ≤ 8) (hs : s < 8) (hP : n < 16 ∧ σ (iStone s) 2 = nI n) (kk : G wX X kc nc (pc + 3) ls st (hKeep σ s n p q r d)) : G wX X kc nc pc ls (.int d :: .int r :: .int q :: .int p :: .ref (gA X (iStone s)) :: st) σ := by
  exact g_cVV 4 hC (c_X3_keep l s n p q r d hs) hlk ⟨tw_2_221, tw_2_222, tw_1_4, tw_2_223⟩ (by decide +kernel) ⟨hdd, by decide⟩ hfr rfl rfl rfl (rv_Stone _ _ hs) hrest rfl hd hP (fun σ1 hq => by subst hq; exact kk)
set_option maxRecDepth 100000 in
set_option maxHeartbeats 4000000 in
/-- X3_facets -/
theorem c_X3_facets (l : Launch) (s n : Nat) (po : Bool) (hs : s < 8) : gMI wX l yX3_facets (.code yX3_facets cX3_facets 4 (some FieldType.int)) 1 0 0 (fun A => [.ref (A (iStone s)), .int (b2i po)]) (fun τ => n ≤ 16 ∧ τ (iStone s) 2 = nI n) (fun τ rr τ1 => rr = nI (cnt (xFacP τ s po) n) ∧ τ1 = τ) := by
  refine gMI_of (by decide) (fun A => Nat.le_of_ble_eq_true rfl) ?_
  intro X τ hC hP hE
  have hC : gOk wX l X cX3_facets "GemCut$Stone" 1 0 0 := hC
  show G wX X 0 0 0 [some (.ref (gA X (iStone s))), some (.int (b2i po)), none, none] [] τ
  obtain ⟨hn, hm⟩ := hP
  have lp : ∀ (m k : Nat), k + m = n → G wX X 0 0 4 [some (.ref (gA X (iStone s))), some (.int (b2i po)), some (.int (nI (cnt (xFacP τ s po) k))), some (.int (nI k))] [] (τ) := by
    intro m
    induction m with
    | zero =>
      intro k hk 
      have hk : k = n := by omega
      rw [hk]
      refine g_ild3 hC dX3_facets_4 ?_
      refine g_ald0 hC dX3_facets_5 ?_
      refine xg_Stone_planeCount hC (by first | assumption | omega | exact xk_pl _ (by assumption) _ (by omega) | decide) tw_1_145 dX3_facets_6 ?_
      refine g_icmp_ge 49 hC dX3_facets_9 (by decide) (fun c9 => ?_) (fun c9 => absurd (by rw [hm]; exact nI_le (by omega) (by omega)) c9)
      refine g_ild2 hC dX3_facets_49 ?_
      exact hE _ _ _ _ _ _ dX3_facets_50 (Nat.le_refl _) (Nat.le_refl _) ⟨by rfl, rfl⟩
    | succ m ih =>
      intro k hk 
      refine g_ild3 hC dX3_facets_4 ?_
      refine g_ald0 hC dX3_facets_5 ?_
      refine xg_Stone_planeCount hC (by first | assumption | omega | exact xk_pl _ (by assumption) _ (by omega) | decide) tw_1_145 dX3_facets_6 ?_
      refine g_icmp_ge 49 hC dX3_facets_9 (by decide) (fun c9 => absurd c9 (by rw [hm]; exact nI_ge (by omega) (by omega))) (fun c9 => ?_)
      refine g_ald0 hC dX3_facets_12 ?_
      refine xg_Stone_planes hC (by first | assumption | omega | exact xk_pl _ (by assumption) _ (by omega) | decide) tw_1_142 dX3_facets_13 ?_
      refine g_ild3 hC dX3_facets_16 ?_
      refine xl_Pls k hC (by first | assumption | omega | exact xk_pl _ (by assumption) _ (by omega) | decide) rfl (by omega) dX3_facets_17 ?_
      refine k_X1_isFacet hC tw_3_19 dX3_facets_18 (by decide) ⟨by omega, by omega⟩ (Nat.le_of_ble_eq_true rfl) (xk_pl s hs k (by omega)) ?_
      refine g_if_eq 43 hC dX3_facets_21 (by decide) (fun c21 => ?_) (fun c21 => ?_)
      · refine g_inc3 1 hC dX3_facets_43 (by decide) rfl ?_
        refine g_goto 4 hC dX3_facets_46 (by decide) ?_
        (try simp only [ne_eq, b2i_eq0, Bool.not_eq_false, Int32.not_le, Int32.not_lt, Int32.zero_sub] at c9 c21)
        first
        | (rw [show nI (cnt (xFacP τ s po) k) + 1 = nI (cnt (xFacP τ s po) (k + 1)) from cnt_s1 (by simp [xFacP, c9, c21]), nI_1]; exact ih (k + 1) (by omega))
        | (rw [show nI (cnt (xFacP τ s po) k) = nI (cnt (xFacP τ s po) (k + 1)) by rw [cnt_f (by simp [xFacP, c9, c21])], nI_1]; exact ih (k + 1) (by omega))
      · refine g_ald0 hC dX3_facets_24 ?_
        refine xg_Stone_planes hC (by first | assumption | omega | exact xk_pl _ (by assumption) _ (by omega) | decide) tw_1_142 dX3_facets_25 ?_
        refine g_ild3 hC dX3_facets_28 ?_
        refine xl_Pls k hC (by first | assumption | omega | exact xk_pl _ (by assumption) _ (by omega) | decide) rfl (by omega) dX3_facets_29 ?_
        refine xg_Plane_polished hC (by first | assumption | omega | exact xk_pl _ (by assumption) _ (by omega) | decide) tw_1_118 dX3_facets_30 ?_
        refine g_if_ne 40 hC dX3_facets_33 (by decide) (fun c33 => ?_) (fun c33 => ?_)
        · refine g_inc2 1 hC dX3_facets_40 (by decide) rfl ?_
          refine g_inc3 1 hC dX3_facets_43 (by decide) rfl ?_
          refine g_goto 4 hC dX3_facets_46 (by decide) ?_
          (try simp only [ne_eq, b2i_eq0, Bool.not_eq_false, Int32.not_le, Int32.not_lt, Int32.zero_sub] at c9 c21 c33)
          first
          | (rw [show nI (cnt (xFacP τ s po) k) + 1 = nI (cnt (xFacP τ s po) (k + 1)) from cnt_s1 (by simp [xFacP, c9, c21, c33]), nI_1]; exact ih (k + 1) (by omega))
          | (rw [show nI (cnt (xFacP τ s po) k) = nI (cnt (xFacP τ s po) (k + 1)) by rw [cnt_f (by simp [xFacP, c9, c21, c33])], nI_1]; exact ih (k + 1) (by omega))
        · refine g_ild1 hC dX3_facets_36 ?_
          refine g_if_ne 43 hC dX3_facets_37 (by decide) (fun c37 => ?_) (fun c37 => ?_)
          · refine g_inc3 1 hC dX3_facets_43 (by decide) rfl ?_
            refine g_goto 4 hC dX3_facets_46 (by decide) ?_
            (try simp only [ne_eq, b2i_eq0, Bool.not_eq_false, Int32.not_le, Int32.not_lt, Int32.zero_sub] at c9 c21 c33 c37)
            first
            | (rw [show nI (cnt (xFacP τ s po) k) + 1 = nI (cnt (xFacP τ s po) (k + 1)) from cnt_s1 (by simp [xFacP, c9, c21, c33, c37]), nI_1]; exact ih (k + 1) (by omega))
            | (rw [show nI (cnt (xFacP τ s po) k) = nI (cnt (xFacP τ s po) (k + 1)) by rw [cnt_f (by simp [xFacP, c9, c21, c33, c37])], nI_1]; exact ih (k + 1) (by omega))
          · refine g_inc2 1 hC dX3_facets_40 (by decide) rfl ?_
            refine g_inc3 1 hC dX3_facets_43 (by decide) rfl ?_
            refine g_goto 4 hC dX3_facets_46 (by decide) ?_
            (try simp only [ne_eq, b2i_eq0, Bool.not_eq_false, Int32.not_le, Int32.not_lt, Int32.zero_sub] at c9 c21 c33 c37)
            first
            | (rw [show nI (cnt (xFacP τ s po) k) + 1 = nI (cnt (xFacP τ s po) (k + 1)) from cnt_s1 (by simp [xFacP, c9, c21, c33, c37]), nI_1]; exact ih (k + 1) (by omega))
            | (rw [show nI (cnt (xFacP τ s po) k) = nI (cnt (xFacP τ s po) (k + 1)) by rw [cnt_f (by simp [xFacP, c9, c21, c33, c37])], nI_1]; exact ih (k + 1) (by omega))
  refine g_iconst 0 hC dX3_facets_0 (by decide) ?_
  refine g_ist2 hC dX3_facets_1 rfl ?_
  refine g_iconst 0 hC dX3_facets_2 (by decide) ?_
  refine g_ist3 hC dX3_facets_3 rfl ?_
  exact lp n 0 (by omega)
theorem k_X3_facets {l : Launch} {X : gC} {cc : ByteArray} {own : String} {dd ca sa kc nc pc : Nat} {ls : List (Option Value)} {st : List Value} {σ : Mem} {idx : Nat} {s n : Nat} {po : Bool} (hC : gOk wX l X cc own dd ca sa) (hlk : Cond.methodLink own idx yX3_facets ∈ TB) (hd : decode cc pc = .ok (.invokevirtual idx, 3)) (hdd : 1 + 1 ≤ dd) (hfr : kc + 0 ≤ ca ∧ nc + 0 ≤ sa) (hrest : (st.map fun v => v.category).sum ≤ 8) (hs : s < 8) (hP : n ≤ 16 ∧ σ (iStone s) 2 = nI n) (kk : G wX X kc nc (pc + 3) ls (.int (nI (cnt (xFacP σ s po) n)) :: st) (σ)) : G wX X kc nc pc ls (.int (b2i po) :: .ref (gA X (iStone s)) :: st) σ := by
  exact g_cVI 1 hC (c_X3_facets l s n po hs) hlk ⟨tw_3_16, tw_3_17, tw_1_4, tw_3_18⟩ (by decide +kernel) ⟨hdd, by decide⟩ hfr rfl rfl rfl (rv_Stone _ _ hs) hrest rfl hd hP (fun rr σ1 hq => by obtain ⟨rfl, rfl⟩ := hq; exact kk)
set_option maxRecDepth 100000 in
set_option maxHeartbeats 4000000 in
/-- X3_oppositePairs -/
theorem c_X3_oppositePairs (l : Launch) (s n : Nat) (hs : s < 8) : gMI wX l yX3_oppositePairs (.code yX3_oppositePairs cX3_oppositePairs 4 (some FieldType.int)) 1 0 0 (fun A => [.ref (A (iStone s))]) (fun τ => n ≤ 16 ∧ τ (iStone s) 2 = nI n) (fun τ rr τ1 => rr = nI (xPairs τ s n) ∧ τ1 = τ) := by
  refine gMI_of (by decide) (fun A => Nat.le_of_ble_eq_true rfl) ?_
  intro X τ hC hP hE
  have hC : gOk wX l X cX3_oppositePairs "GemCut$Stone" 1 0 0 := hC
  show G wX X 0 0 0 [some (.ref (gA X (iStone s))), none, none, none] [] τ
  obtain ⟨hn, hm⟩ := hP
  have lpa : ∀ (m a : Nat), a + m = n → G wX X 0 0 4 [some (.ref (gA X (iStone s))), some (.int (nI (sumN (fun a => cnt (fun j => xPairP τ s a (a + 1 + j)) (n - (a + 1))) a))), some (.int (nI a)), none] [] τ := by
    intro m
    induction m with
    | zero =>
      intro a ha
      have ha : a = n := by omega
      rw [ha]
      refine g_ild2 hC dX3_oppositePairs_4 ?_
      refine g_ald0 hC dX3_oppositePairs_5 ?_
      refine xg_Stone_planeCount hC (by first | assumption | omega | exact xk_pl _ (by assumption) _ (by omega) | decide) tw_1_145 dX3_oppositePairs_6 ?_
      refine g_icmp_ge 81 hC dX3_oppositePairs_9 (by decide) (fun c9 => ?_) (fun c9 => absurd (by rw [hm]; exact nI_le (by omega) (by omega)) c9)
      refine g_ild1 hC dX3_oppositePairs_81 ?_
      exact hE _ _ _ _ _ _ dX3_oppositePairs_82 (Nat.le_refl _) (Nat.le_refl _) ⟨by rfl, rfl⟩
    | succ m iha =>
      intro a ha
      have lpb : ∀ (m b : Nat), b + m = n - (a + 1) → G wX X 0 0 16 [some (.ref (gA X (iStone s))), some (.int (nI (sumN (fun a => cnt (fun j => xPairP τ s a (a + 1 + j)) (n - (a + 1))) a + cnt (fun j => xPairP τ s a (a + 1 + j)) b))), some (.int (nI a)), some (.int (nI (a + 1 + b)))] [] τ := by
        intro m
        induction m with
        | zero =>
          intro b hb
          have hb : b = n - (a + 1) := by omega
          refine g_ild3 hC dX3_oppositePairs_16 ?_
          refine g_ald0 hC dX3_oppositePairs_17 ?_
          refine xg_Stone_planeCount hC (by first | assumption | omega | exact xk_pl _ (by assumption) _ (by omega) | decide) tw_1_145 dX3_oppositePairs_18 ?_
          refine g_icmp_ge 75 hC dX3_oppositePairs_21 (by decide) (fun c21 => ?_) (fun c21 => absurd (by rw [hm]; exact nI_le (by omega) (by omega)) c21)
          refine g_inc2 1 hC dX3_oppositePairs_75 (by decide) rfl ?_
          refine g_goto 4 hC dX3_oppositePairs_78 (by decide) ?_
          refine g_keep [true, true, true, false] ?_
          rw [nI_1, show sumN (fun a => cnt (fun j => xPairP τ s a (a + 1 + j)) (n - (a + 1))) a + cnt (fun j => xPairP τ s a (a + 1 + j)) b = sumN (fun a => cnt (fun j => xPairP τ s a (a + 1 + j)) (n - (a + 1))) (a + 1) by rw [sumN, hb]]
          exact iha (a + 1) (by omega)
        | succ m ihb =>
          intro b hb
          refine g_ild3 hC dX3_oppositePairs_16 ?_
          refine g_ald0 hC dX3_oppositePairs_17 ?_
          refine xg_Stone_planeCount hC (by first | assumption | omega | exact xk_pl _ (by assumption) _ (by omega) | decide) tw_1_145 dX3_oppositePairs_18 ?_
          refine g_icmp_ge 75 hC dX3_oppositePairs_21 (by decide) (fun c21 => absurd c21 (by rw [hm]; exact nI_ge (by omega) (by omega))) (fun c21 => ?_)
          refine g_ald0 hC dX3_oppositePairs_24 ?_
          refine xg_Stone_planes hC (by first | assumption | omega | exact xk_pl _ (by assumption) _ (by omega) | decide) tw_1_142 dX3_oppositePairs_25 ?_
          refine g_ild2 hC dX3_oppositePairs_28 ?_
          refine xl_Pls a hC (by first | assumption | omega | exact xk_pl _ (by assumption) _ (by omega) | decide) rfl (by omega) dX3_oppositePairs_29 ?_
          refine k_X1_isFacet (i := iPl s a) hC tw_3_19 dX3_oppositePairs_30 (by decide) ⟨by omega, by omega⟩ (Nat.le_of_ble_eq_true rfl) (xk_pl s hs a (by omega)) ?_
          refine g_if_eq 69 hC dX3_oppositePairs_33 (by decide) (fun c33 => ?_) (fun c33 => ?_)
          · refine g_inc3 1 hC dX3_oppositePairs_69 (by decide) rfl ?_
            refine g_goto 16 hC dX3_oppositePairs_72 (by decide) ?_
            (try simp only [ne_eq, b2i_eq0, Bool.not_eq_false, Int32.not_le, Int32.not_lt, Int32.zero_sub] at c21 c33)
            first
            | (rw [show nI (sumN (fun a => cnt (fun j => xPairP τ s a (a + 1 + j)) (n - (a + 1))) a + cnt (fun j => xPairP τ s a (a + 1 + j)) b) + 1 = nI (sumN (fun a => cnt (fun j => xPairP τ s a (a + 1 + j)) (n - (a + 1))) a + cnt (fun j => xPairP τ s a (a + 1 + j)) (b + 1)) by rw [cnt_t (P := (fun j => xPairP τ s a (a + 1 + j))) (by simp [xPairP, c21, c33]), ← Nat.add_assoc, nI_succ], nI_1]
               exact ihb (b + 1) (by omega))
            | (rw [show nI (sumN (fun a => cnt (fun j => xPairP τ s a (a + 1 + j)) (n - (a + 1))) a + cnt (fun j => xPairP τ s a (a + 1 + j)) b) = nI (sumN (fun a => cnt (fun j => xPairP τ s a (a + 1 + j)) (n - (a + 1))) a + cnt (fun j => xPairP τ s a (a + 1 + j)) (b + 1)) by rw [cnt_f (P := (fun j => xPairP τ s a (a + 1 + j))) (by simp [xPairP, c21, c33])], nI_1]
               exact ihb (b + 1) (by omega))
          · refine g_ald0 hC dX3_oppositePairs_36 ?_
            refine xg_Stone_planes hC (by first | assumption | omega | exact xk_pl _ (by assumption) _ (by omega) | decide) tw_1_142 dX3_oppositePairs_37 ?_
            refine g_ild3 hC dX3_oppositePairs_40 ?_
            refine xl_Pls (a + 1 + b) hC (by first | assumption | omega | exact xk_pl _ (by assumption) _ (by omega) | decide) rfl (by omega) dX3_oppositePairs_41 ?_
            refine k_X1_isFacet (i := iPl s (a + 1 + b)) hC tw_3_19 dX3_oppositePairs_42 (by decide) ⟨by omega, by omega⟩ (Nat.le_of_ble_eq_true rfl) (xk_pl s hs (a + 1 + b) (by omega)) ?_
            refine g_if_eq 69 hC dX3_oppositePairs_45 (by decide) (fun c45 => ?_) (fun c45 => ?_)
            · refine g_inc3 1 hC dX3_oppositePairs_69 (by decide) rfl ?_
              refine g_goto 16 hC dX3_oppositePairs_72 (by decide) ?_
              (try simp only [ne_eq, b2i_eq0, Bool.not_eq_false, Int32.not_le, Int32.not_lt, Int32.zero_sub] at c21 c33 c45)
              first
              | (rw [show nI (sumN (fun a => cnt (fun j => xPairP τ s a (a + 1 + j)) (n - (a + 1))) a + cnt (fun j => xPairP τ s a (a + 1 + j)) b) + 1 = nI (sumN (fun a => cnt (fun j => xPairP τ s a (a + 1 + j)) (n - (a + 1))) a + cnt (fun j => xPairP τ s a (a + 1 + j)) (b + 1)) by rw [cnt_t (P := (fun j => xPairP τ s a (a + 1 + j))) (by simp [xPairP, c21, c33, c45]), ← Nat.add_assoc, nI_succ], nI_1]
                 exact ihb (b + 1) (by omega))
              | (rw [show nI (sumN (fun a => cnt (fun j => xPairP τ s a (a + 1 + j)) (n - (a + 1))) a + cnt (fun j => xPairP τ s a (a + 1 + j)) b) = nI (sumN (fun a => cnt (fun j => xPairP τ s a (a + 1 + j)) (n - (a + 1))) a + cnt (fun j => xPairP τ s a (a + 1 + j)) (b + 1)) by rw [cnt_f (P := (fun j => xPairP τ s a (a + 1 + j))) (by simp [xPairP, c21, c33, c45])], nI_1]
                 exact ihb (b + 1) (by omega))
            · refine g_ald0 hC dX3_oppositePairs_48 ?_
              refine xg_Stone_planes hC (by first | assumption | omega | exact xk_pl _ (by assumption) _ (by omega) | decide) tw_1_142 dX3_oppositePairs_49 ?_
              refine g_ild2 hC dX3_oppositePairs_52 ?_
              refine xl_Pls a hC (by first | assumption | omega | exact xk_pl _ (by assumption) _ (by omega) | decide) rfl (by omega) dX3_oppositePairs_53 ?_
              refine g_ald0 hC dX3_oppositePairs_54 ?_
              refine xg_Stone_planes hC (by first | assumption | omega | exact xk_pl _ (by assumption) _ (by omega) | decide) tw_1_142 dX3_oppositePairs_55 ?_
              refine g_ild3 hC dX3_oppositePairs_58 ?_
              refine xl_Pls (a + 1 + b) hC (by first | assumption | omega | exact xk_pl _ (by assumption) _ (by omega) | decide) rfl (by omega) dX3_oppositePairs_59 ?_
              refine k_X1_isOpposite (i := iPl s a) (j := iPl s (a + 1 + b)) hC tw_3_24 dX3_oppositePairs_60 (by decide) ⟨by omega, by omega⟩ (Nat.le_of_ble_eq_true rfl) (xk_pl s hs a (by omega)) (xk_pl s hs (a + 1 + b) (by omega)) ?_
              refine g_if_eq 69 hC dX3_oppositePairs_63 (by decide) (fun c63 => ?_) (fun c63 => ?_)
              · refine g_inc3 1 hC dX3_oppositePairs_69 (by decide) rfl ?_
                refine g_goto 16 hC dX3_oppositePairs_72 (by decide) ?_
                (try simp only [ne_eq, b2i_eq0, Bool.not_eq_false, Int32.not_le, Int32.not_lt, Int32.zero_sub] at c21 c33 c45 c63)
                first
                | (rw [show nI (sumN (fun a => cnt (fun j => xPairP τ s a (a + 1 + j)) (n - (a + 1))) a + cnt (fun j => xPairP τ s a (a + 1 + j)) b) + 1 = nI (sumN (fun a => cnt (fun j => xPairP τ s a (a + 1 + j)) (n - (a + 1))) a + cnt (fun j => xPairP τ s a (a + 1 + j)) (b + 1)) by rw [cnt_t (P := (fun j => xPairP τ s a (a + 1 + j))) (by simp [xPairP, c21, c33, c45, c63]), ← Nat.add_assoc, nI_succ], nI_1]
                   exact ihb (b + 1) (by omega))
                | (rw [show nI (sumN (fun a => cnt (fun j => xPairP τ s a (a + 1 + j)) (n - (a + 1))) a + cnt (fun j => xPairP τ s a (a + 1 + j)) b) = nI (sumN (fun a => cnt (fun j => xPairP τ s a (a + 1 + j)) (n - (a + 1))) a + cnt (fun j => xPairP τ s a (a + 1 + j)) (b + 1)) by rw [cnt_f (P := (fun j => xPairP τ s a (a + 1 + j))) (by simp [xPairP, c21, c33, c45, c63])], nI_1]
                   exact ihb (b + 1) (by omega))
              · refine g_inc1 1 hC dX3_oppositePairs_66 (by decide) rfl ?_
                refine g_inc3 1 hC dX3_oppositePairs_69 (by decide) rfl ?_
                refine g_goto 16 hC dX3_oppositePairs_72 (by decide) ?_
                (try simp only [ne_eq, b2i_eq0, Bool.not_eq_false, Int32.not_le, Int32.not_lt, Int32.zero_sub] at c21 c33 c45 c63)
                first
                | (rw [show nI (sumN (fun a => cnt (fun j => xPairP τ s a (a + 1 + j)) (n - (a + 1))) a + cnt (fun j => xPairP τ s a (a + 1 + j)) b) + 1 = nI (sumN (fun a => cnt (fun j => xPairP τ s a (a + 1 + j)) (n - (a + 1))) a + cnt (fun j => xPairP τ s a (a + 1 + j)) (b + 1)) by rw [cnt_t (P := (fun j => xPairP τ s a (a + 1 + j))) (by simp [xPairP, c21, c33, c45, c63]), ← Nat.add_assoc, nI_succ], nI_1]
                   exact ihb (b + 1) (by omega))
                | (rw [show nI (sumN (fun a => cnt (fun j => xPairP τ s a (a + 1 + j)) (n - (a + 1))) a + cnt (fun j => xPairP τ s a (a + 1 + j)) b) = nI (sumN (fun a => cnt (fun j => xPairP τ s a (a + 1 + j)) (n - (a + 1))) a + cnt (fun j => xPairP τ s a (a + 1 + j)) (b + 1)) by rw [cnt_f (P := (fun j => xPairP τ s a (a + 1 + j))) (by simp [xPairP, c21, c33, c45, c63])], nI_1]
                   exact ihb (b + 1) (by omega))
      refine g_ild2 hC dX3_oppositePairs_4 ?_
      refine g_ald0 hC dX3_oppositePairs_5 ?_
      refine xg_Stone_planeCount hC (by first | assumption | omega | exact xk_pl _ (by assumption) _ (by omega) | decide) tw_1_145 dX3_oppositePairs_6 ?_
      refine g_icmp_ge 81 hC dX3_oppositePairs_9 (by decide) (fun c9 => absurd c9 (by rw [hm]; exact nI_ge (by omega) (by omega))) (fun c9 => ?_)
      refine g_ild2 hC dX3_oppositePairs_12 ?_
      refine g_iconst 1 hC dX3_oppositePairs_13 (by decide) ?_
      refine g_iadd hC dX3_oppositePairs_14 ?_
      refine g_ist3 hC dX3_oppositePairs_15 rfl ?_
      rw [nI_1]
      have h0 := lpb (n - (a + 1)) 0 (by omega)
      exact h0
  refine g_iconst 0 hC dX3_oppositePairs_0 (by decide) ?_
  refine g_ist1 hC dX3_oppositePairs_1 rfl ?_
  refine g_iconst 0 hC dX3_oppositePairs_2 (by decide) ?_
  refine g_ist2 hC dX3_oppositePairs_3 rfl ?_
  exact lpa n 0 (by omega)
theorem k_X3_oppositePairs {l : Launch} {X : gC} {cc : ByteArray} {own : String} {dd ca sa kc nc pc : Nat} {ls : List (Option Value)} {st : List Value} {σ : Mem} {idx : Nat} {s n : Nat} (hC : gOk wX l X cc own dd ca sa) (hlk : Cond.methodLink own idx yX3_oppositePairs ∈ TB) (hd : decode cc pc = .ok (.invokevirtual idx, 3)) (hdd : 1 + 1 ≤ dd) (hfr : kc + 0 ≤ ca ∧ nc + 0 ≤ sa) (hrest : (st.map fun v => v.category).sum ≤ 8) (hs : s < 8) (hP : n ≤ 16 ∧ σ (iStone s) 2 = nI n) (kk : G wX X kc nc (pc + 3) ls (.int (nI (xPairs σ s n)) :: st) (σ)) : G wX X kc nc pc ls (.ref (gA X (iStone s)) :: st) σ := by
  exact g_cVI 0 hC (c_X3_oppositePairs l s n hs) hlk ⟨tw_3_21, tw_3_22, tw_1_4, tw_3_23⟩ (by decide +kernel) ⟨hdd, by decide⟩ hfr rfl rfl rfl (rv_Stone _ _ hs) hrest rfl hd hP (fun rr σ1 hq => by obtain ⟨rfl, rfl⟩ := hq; exact kk)
