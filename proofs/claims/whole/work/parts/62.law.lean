/-! the law's world: the class, the answer row, the reference -/
def lE (E : gE) (ρ : Nat → Int32) (i : Nat) : va_E := if 196 ≤ i then mE (shE 196 E) ρ (i - 196) else oE E ρ i
def wL : gL := (201, lE)
theorem emb_l : gEmb wL wXo 0 := ⟨by decide, fun E ρ j hj => by
  have h : j < 196 := hj
  show lE E ρ j = oE E ρ j
  unfold lE
  rw [if_neg (by omega)]⟩
theorem emb_x : gEmb wL wX 0 := ⟨by decide, fun E ρ j hj => by
  have h : j < 195 := hj
  show lE E ρ j = xE E ρ j
  unfold lE oE
  rw [if_neg (by omega), if_neg (by omega)]⟩
theorem emb_m : gEmb wL wM 196 := ⟨by decide, fun E ρ j hj => by
  unfold wL wM
  dsimp only
  unfold lE
  rw [if_pos (by omega), Nat.add_sub_cancel]⟩
theorem le_out (E : gE) (ρ : Nat → Int32) : wL.2 E ρ 195 = .inl (E.2.2 5, 1, .inr (.inl (fun j => (ρ j).toInt64))) := rfl
def gNcX (X : gC) : Prop := match X with
  | (_, _, _, _, s, _, _, _, _, _, _, _, _, _, _) => gNc s
def gScr (X : gC) (b L : Nat) (xs : Nat → Int32) : Prop := match X with
  | (_, _, _, _, s, _, _, _, _, _, _, H0, A, _, _) => va_X b L xs s H0 ∧ b < H0.size ∧ ¬ A b
theorem g_sld {Lw : gL} {l : Launch} {X : gC} {cc : ByteArray} {own : String} {dd ca sa k n pc : Nat} {ls : List (Option Value)} {st : List Value} {σ : Mem} {b L j : Nat} {xs : Nat → Int32} {x : Int32} (hC : gOk Lw l X cc own dd ca sa) (hS0 : gScr X b L xs) (hx0 : x = nI j) (hj : j < L) (hL : L < 2 ^ 31) (hd : decode cc pc = .ok (.iaload, 1)) (kk : G Lw X k n (pc + 1) ls (.int (xs j) :: st) σ) : G Lw X k n pc ls (.int x :: .ref b :: st) σ := by
  obtain ⟨p, l', e, R, s, m, args, below, meth, c, nL, H0, A, E, Q⟩ := X
  obtain ⟨hx, hb, hml, hown, hTB, hK, hD, hA, hR, hlocks, rfl, hh0, hNs⟩ := hC
  have hS0 : va_X b L xs s H0 ∧ b < H0.size ∧ ¬ A b := hS0
  subst hx0
  have hcl : (nI j).toNatClampNeg = j := nI_clamp (by omega)
  exact fun H locs arr hn hP hS hl => va_sld hx hb hS0.1 hS0.2.1 hS0.2.2 hS (vp_in_nI hj hL) hd (by rw [hcl]; exact kk H locs arr hn hP hS hl)
theorem g_slen {Lw : gL} {l : Launch} {X : gC} {cc : ByteArray} {own : String} {dd ca sa k n pc : Nat} {ls : List (Option Value)} {st : List Value} {σ : Mem} {b L : Nat} {xs : Nat → Int32} (hC : gOk Lw l X cc own dd ca sa) (hS0 : gScr X b L xs) (hd : decode cc pc = .ok (.arraylength, 1)) (kk : G Lw X k n (pc + 1) ls (.int (nI L) :: st) σ) : G Lw X k n pc ls (.ref b :: st) σ := by
  obtain ⟨p, l', e, R, s, m, args, below, meth, c, nL, H0, A, E, Q⟩ := X
  obtain ⟨hx, hb, hml, hown, hTB, hK, hD, hA, hR, hlocks, rfl, hh0, hNs⟩ := hC
  have hS0 : va_X b L xs s H0 ∧ b < H0.size ∧ ¬ A b := hS0
  exact fun H locs arr hn hP hS hl => va_slen hx hb hS0.1 hS0.2.1 hS0.2.2 hS hd (kk H locs arr hn hP hS hl)
theorem g_lcmp {Lw : gL} {l : Launch} {X : gC} {cc : ByteArray} {own : String} {dd ca sa k n pc : Nat} {ls : List (Option Value)} {st : List Value} {σ : Mem} {x y : Int64} (hC : gOk Lw l X cc own dd ca sa) (hxy : x = y) (hd : decode cc pc = .ok (.lcmp, 1)) (kk : G Lw X k n (pc + 1) ls (.int 0 :: st) σ) : G Lw X k n pc ls (.long y :: .long x :: st) σ := by
  subst hxy
  obtain ⟨p, l', e, R, s, m, args, below, meth, c, nL, H0, A, E, Q⟩ := X
  obtain ⟨hx, hb, hml, hown, hTB, hK, hD, hA, hR, hlocks, rfl, hh0, hNs⟩ := hC
  have h0 : lg_cmp x x = 0 := by
    unfold lg_cmp
    rw [if_neg (by rw [gt_iff_lt, Int64.lt_iff_toInt_lt]; omega), if_pos rfl]
  exact fun H locs arr hn hP hS hl => W.lcmp hx hb hd (by rw [h0]; exact kk H locs arr hn hP hS hl)
theorem g_dcmp {Lw : gL} {l : Launch} {X : gC} {cc : ByteArray} {own : String} {dd ca sa k n pc : Nat} {ls : List (Option Value)} {st : List Value} {σ : Mem} {x y : UInt64} {op : CmpOp} (hC : gOk Lw l X cc own dd ca sa) (hd : decode cc pc = .ok (.dcmp op, 1)) (kk : G Lw X k n (pc + 1) ls (.int (Op.cmpValue (FP.dcmp x y) op) :: st) σ) : G Lw X k n pc ls (.double y :: .double x :: st) σ := by
  obtain ⟨p, l', e, R, s, m, args, below, meth, c, nL, H0, A, E, Q⟩ := X
  obtain ⟨hx, hb, hml, hown, hTB, hK, hD, hA, hR, hlocks, rfl, hh0, hNs⟩ := hC
  exact fun H locs arr hn hP hS hl => lv_dcmp hx hb hd (kk H locs arr hn hP hS hl)
theorem g_wSI {Lw Lc : gL} {o : Nat} (hE : gEmb Lw Lc o) {l : Launch} {X : gC} {cc : ByteArray} {own : String} {dd ca sa k n pc : Nat} {ls : List (Option Value)} {st : List Value} {σ : Mem} {y : MethodName} {idx : Nat} {bytes : ByteArray} {maxL d mc ms : Nat} {hh : List (Nat × Nat × Nat × Nat)} (na : Nat) {av : (Nat → Nat) → List Value} {P : Mem → Prop} {Q : Mem → Int32 → Mem → Prop} {As rest : List Value} (hC : gOk Lw l X cc own dd ca sa) (hZ0 : gZY X) (hN0 : gNcX X) (hM : gWI Lc l y (.codeWith y bytes maxL (some .int) hh) d mc ms av P Q) (hw1 : Cond.methodLink own idx y ∈ TB) (hw2 : Cond.static y ∈ TB ∧ Cond.initialized y.cls ∈ TB ∧ Cond.codeWith y bytes maxL (some .int) hh ∈ TB) (hy : y.cls ≠ "java/lang/invoke/MethodHandle" ∧ y.cls ≠ "java/lang/invoke/VarHandle" ∧ (parseMethodDescriptor y.desc).map (fun d => d.parameters.length) = some na) (hR9 : d + 1 ≤ dd ∧ maxL ≤ 21) (hf : k + mc ≤ ca ∧ n + ms ≤ sa) (ha : av (fun j => gA X (j + o)) = As) (hna : As.length = na) (hrest : (rest.map fun v => v.category).sum ≤ 8) (hst : st = As.reverse ++ rest) (hd : decode cc pc = .ok (.invokestatic idx, 3)) (hP : P (shM o σ)) (kk : ∀ (r : Int32) (σ1 : Mem), Q (shM o σ) r σ1 → G Lw X (k + mc) (n + ms) (pc + 3) ls (.int r :: rest) (ptM o Lc.1 σ σ1)) : G Lw X k n pc ls st σ := by
  obtain ⟨p, l', e, R, s, m, args, below, meth, c, nL, H0, A, E, Qs⟩ := X
  obtain ⟨hx, hb, hml, hown, hTB, hK, hD, hA, hR, hlocks, rfl, hh0, hNs⟩ := hC
  have hZ : gZ A s s.heap ∧ gY s := hZ0
  have hN : gNc s := hN0
  subst hR
  have hRR : (gR d mc ms).frames + 1 ≤ (gR dd ca sa).frames ∧ 8 + (maxL + 11) + (gR d mc ms).locals ≤ (gR dd ca sa).locals := by
    refine ⟨hR9.1, ?_⟩
    show 8 + (maxL + 11) + 40 * d ≤ 40 * dd
    omega
  intro H locs arr hn hP0 hS hl
  have hAA : ∀ q, va_A (gW Lc (shE o E) (shM o σ)) H.size q → A q := fun q h => h.elim (fun ⟨i, e1, h1⟩ => (emb_D hE (hD σ)).2 i (q, e1) h1) (fun h1 => hA q (Nat.le_trans hS.1 h1))
  exact vx_calli (vx_runSX (As := As) (rest := rest) (Ts := TB) (own := own) ⟨hx, hb, hml, hown, hTB⟩ (hM (shE o E) (shM o σ) H.size hP) (vx_cwSW (ret := (some .int)) (bytes := bytes) (maxL := maxL) (hh := hh) na hTB (gi_cons hw1 (gi_cons hw2.1 (gi_cons hw2.2.1 (gi_cons hw2.2.2 gi_self)))) rfl rfl rfl hy hRR) ⟨gPreW_blind, fun U hU hW => ⟨by rw [← ha]; rfl, ⟨by rw [hU], by rw [hU]; exact emb_sub hE hP0, va_K.moved hW.alike hK, (emb_D hE (hD σ)).weaken (fun _ _ _ _ => trivial), gN.warm hW hNs⟩, by rw [hU]; exact gZ.moved hW.alike ⟨((by rw [hh0] at hZ; exact hZ.1.1 : vx_Zq _ _ _ A s H0).kept hS.2.1).narrow hAA, ((by rw [hh0] at hZ; exact hZ.1.2 : vx_Zq _ _ _ A s H0).kept hS.2.1).narrow hAA⟩, gY.warm hW hZ.2, gNc.moved hW.alike hN⟩⟩ rfl hna hl.1 hst (lv_room hrest) hd hf) hS (fun q _ h => hAA q h) hAA (fun q _ h => hAA q h) (fun Ex ce q9 u t H1 locs1 ht _ _ hB _ _ hS1 hce hcv hcl => hB.elim) (fun r u t H1 locs1 ht _ hq hB _ hk1 hS1 => kk r u hq H1 locs1 arr hn (emb_P hE hP0 (hD σ) hk1 (by rw [← ht]; exact hB)) hS1 hl)
/-! memories of the law -/
theorem ptM_id (o n : Nat) (σ : Mem) : ptM o n σ (shM o σ) = σ := by
  funext i
  unfold ptM shM
  by_cases h : o ≤ i ∧ i < o + n
  · rw [if_pos h, Nat.sub_add_cancel h.1]
  · rw [if_neg h]
theorem sh_pt (n : Nat) (h : n ≤ 196) (σ σ1 : Mem) : shM 196 (ptM 0 n σ σ1) = shM 196 σ := by
  funext j
  exact ptM_out (by omega)
theorem RS_law {σ σ1 t1 m2 : Mem} (h : RS σ1 m2) (hs : ∀ id, id < 190 → σ id = σ1 id) (hq : Qf m2 t1) (ht : ∀ j, j < 5 → shM 196 σ j = t1 j) : RS σ (shM 196 σ) := by
  have h1 : RS σ m2 := RS_f9 h (fun id j hid => by rw [hs id hid])
  have h2 : RS σ t1 := RS_Qf h1 hq
  refine RS_Qf h2 ⟨fun j _ => by rw [ht 0 (by omega)], ht 1 (by omega), ht 2 (by omega), ht 4 (by omega), fun s k w _ _ _ => by unfold sPl; rw [ht 3 (by omega)]⟩
theorem Qf_rf (t : Mem) : Qf t t := ⟨fun _ _ => rfl, rfl, rfl, rfl, fun _ _ _ _ _ _ => rfl⟩
theorem mTh2 (t : Mem) : mTh (mTh t) = mTh t := mTh_id (by simp [mTh, upd2])
theorem th_0 (t : Mem) : mTh t 0 0 = 0 := by simp [mTh, upd2]
theorem RS_th {σ t : Mem} (h : RS σ t) : RS σ (mTh t) := RS_Qf h (Qf_th t 0)
/-- the first half of a step: the wrapper was called over σ; the second: the reference answered -/
theorem lw_step {σ σ1 τ1 : Mem} {m : Int32 × Mem} {rr : Int32} (hw : wP m rr σ1) (hq : Qf m.2 τ1) (h0 : τ1 0 0 = m.2 0 0) : RS (ptM 196 5 (ptM 0 196 σ σ1) τ1) (shM 196 (ptM 196 5 (ptM 0 196 σ σ1) τ1)) ∧ shM 196 (ptM 196 5 (ptM 0 196 σ σ1) τ1) 0 0 = rr ∧ (rr = 0 → ptM 196 5 (ptM 0 196 σ σ1) τ1 195 0 = m.1) := by
  have k1 : ∀ id, id < 196 → ptM 196 5 (ptM 0 196 σ σ1) τ1 id = σ1 id := fun id h => (ptM_out (by omega)).trans (ptM_in (o := 0) (n := 196) h)
  have k2 : ∀ j, j < 5 → shM 196 (ptM 196 5 (ptM 0 196 σ σ1) τ1) j = τ1 j := fun j h => ptM_in h
  refine ⟨RS_law hw.2.1 (fun id h => k1 id (by omega)) hq k2, ?_, fun hr => ?_⟩
  · rw [k2 0 (by omega), h0]; exact hw.1
  · rw [k1 195 (by omega)]; exact hw.2.2 hr
theorem le_sub7 {i L : Nat} (hi : i ≤ 100000) (hL : L ≤ 100000) : nI L - 7 < nI i ↔ L < i + 7 := by
  rw [nI_iI, nI_iI, show (7 : Int32) = iI 7 by decide, iI_sub, iI_lt (by omega) (by omega)]
  omega

theorem mTake_th (t : Mem) (co ro la : Int32) : mTake (mTh t) co ro la = mTake t co ro la := by simp only [mTake, mFail, mTh2]
theorem mFlaw_th (t : Mem) (x y z ra se : Int32) : mFlaw (mTh t) x y z ra se = mFlaw t x y z ra se := by simp only [mFlaw, mFail, mTh2]
theorem mCell_th (t : Mem) (x y z : Int32) : mCell (mTh t) x y z = mCell t x y z := by simp only [mCell, mFail, mTh2]
theorem mFlawIn_th (t : Mem) (f s w : Int32) : mFlawIn (mTh t) f s w = mFlawIn t f s w := by simp only [mFlawIn, mFail, mTh2]
theorem mSaw_th (t : Mem) (s p q r d : Int32) : mSaw (mTh t) s p q r d = mSaw t s p q r d := by simp only [mSaw, mFail, mTh2]
theorem mCut_th (t : Mem) (s p q r d : Int32) : mCut (mTh t) s p q r d = mCut t s p q r d := by simp only [mCut, mFail, mTh2]
theorem mPolish_th (t : Mem) (s k : Int32) : mPolish (mTh t) s k = mPolish t s k := by simp only [mPolish, mFail, mTh2]
theorem mStone_th (t : Mem) (s w : Int32) : mStone (mTh t) s w = mStone t s w := by simp only [mStone, mFail, mTh2]
theorem mPlane_th (t : Mem) (s k w : Int32) : mPlane (mTh t) s k w = mPlane t s k w := by simp only [mPlane, mFail, mTh2]
theorem mAngle_th (t : Mem) (s a b : Int32) : mAngle (mTh t) s a b = mAngle t s a b := by simp only [mAngle, mFail, mTh2]
theorem mCount_th (t : Mem) (w : Int32) : mCount (mTh t) w = mCount t w := by simp only [mCount, mFail, mTh2]
theorem mWould_th (t : Mem) (s p q r d w : Int32) : mWould (mTh t) s p q r d w = mWould t s p q r d w := by simp only [mWould, mFail, mTh2]
theorem mDepth_th (t : Mem) (s p q r : Int32) : mDepth (mTh t) s p q r = mDepth t s p q r := by simp only [mDepth, mFail, mTh2]
theorem mRid_th (t : Mem) (f s w : Int32) : mRid (mTh t) f s w = mRid t f s w := by simp only [mRid, mFail, mTh2]
theorem mDress_th (t : Mem) : mDress (mTh t) = mDress t := by simp only [mDress, mTh2]
