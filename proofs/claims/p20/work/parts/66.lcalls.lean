/-! no exception where the reference's number is 0 -/
theorem mf_no {t : Mem} {m : Int32 × Mem} {v : Int32} (hv : ¬ v = 0) (h : m.2 0 0 = 0) : ¬ m = mFail t v := fun e => by
  rw [e] at h
  exact hv ((upd2_at (mTh t) 0 0 v).symm.trans h)
theorem no_xc1 {m : Int32 × Mem} {t : Mem} {ex : String} (h : m.2 0 0 = 0) : ¬ xc1 m t ex := fun e => mf_no (by decide) h e.2
theorem no_xcT {m : Int32 × Mem} {t : Mem} {ex : String} (h : m.2 0 0 = 0) : ¬ xcT m t ex := fun e => mf_no (by decide) h e.2
theorem no_xcP {m : Int32 × Mem} {t : Mem} {ex : String} (h : m.2 0 0 = 0) : ¬ xcP m t ex := fun e => e.elim (fun e => mf_no (by decide) h e.2) (fun e => mf_no (by decide) h e.2)
theorem no_xc2 {m : Int32 × Mem} {t : Mem} {ex : String} (h : m.2 0 0 = 0) : ¬ xc2 m t ex := fun e => e.elim (fun e => mf_no (by decide) h e.2) (fun e => mf_no (by decide) h e.2)
theorem no_xc3 {m : Int32 × Mem} {t : Mem} {ex : String} (h : m.2 0 0 = 0) : ¬ xc3 m t ex := fun e => e.elim (fun e => mf_no (by decide) h e.2) (fun e => e.elim (fun e => mf_no (by decide) h e.2) (fun e => mf_no (by decide) h e.2))
/-! what the reference answers there -/
section QQ
variable {t : Mem}
theorem st_ok (hM : MI t) {s : Nat} (hs : s < nS t) : sStone t (nI s) = true := by
  have h8 := (MI_S hM).2.2
  unfold sStone; rw [(MI_S hM).1, sIn_rng (by omega)]
  exact ⟨nI_pos' (by omega), nI_lt hs (by omega)⟩
theorem fl_ok (hM : MI t) {f : Nat} (hf : f < nF t) : sIn (nI f) 0 (t 0 5 - 1) = true := by
  have h8 := (MI_F hM).2
  rw [(MI_F hM).1, sIn_rng (by omega)]
  exact ⟨nI_pos' (by omega), nI_lt hf (by omega)⟩
theorem pl_ok (hM : MI t) {s k : Nat} (hs : s < nS t) (hk : k < nP t s) : sPlane t (nI s) (nI k) = true := by
  have h8 := (MI_S hM).2.2
  have h9 := MI_P hM (show s < 8 by omega)
  unfold sPlane; rw [st_ok hM hs, Bool.true_and, nI_clamp (by omega), h9.1, sIn_rng (by omega)]
  exact ⟨nI_pos' (by omega), nI_lt hk (by omega)⟩
theorem wh_ok {w hi : Int32} {i : Nat} (n : Nat) (hn : n < 100) (h : hi = nI n - 1) (hi2 : i < n) (hw : w = nI i) : sIn w 0 hi = true := by
  subst h; subst hw
  rw [sIn_rng (by omega)]
  exact ⟨nI_pos' (by omega), nI_lt hi2 (by omega)⟩
theorem tn_n {i : Nat} (h : i < 1000) : tn (nI i) = i := nI_clamp (by omega)
theorem q_stone (hM : MI t) (h0 : t 0 0 = 0) {s w : Nat} (hs : s < nS t) (hw : w < 9) : mStone t (nI s) (nI w) = (sSt t s w, t) := by
  have h8 := (MI_S hM).2.2
  unfold mStone; rw [mTh_id h0, if_pos ⟨st_ok hM hs, wh_ok 9 (by decide) (by decide) hw rfl⟩, tn_n (by omega), tn_n (by omega)]
theorem q_count (h0 : t 0 0 = 0) {w : Nat} (hw : w < 8) : mCount t (nI w) = (sCt t w, t) := by
  unfold mCount; rw [mTh_id h0, if_pos (wh_ok 8 (by decide) (by decide) hw rfl), tn_n (by omega)]
theorem q_plane (hM : MI t) (h0 : t 0 0 = 0) {s k w : Nat} (hs : s < nS t) (hk : k < nP t s) (hw : w < 6) : mPlane t (nI s) (nI k) (nI w) = (sPt t s k w, t) := by
  have h8 := (MI_S hM).2.2
  have h9 := MI_P hM (show s < 8 by omega)
  unfold mPlane; rw [mTh_id h0, if_pos ⟨pl_ok hM hs hk, wh_ok 6 (by decide) (by decide) hw rfl⟩, tn_n (by omega), tn_n (by omega), tn_n (by omega)]
theorem q_flawIn (hM : MI t) (h0 : t 0 0 = 0) {f s w : Nat} (hf : f < nF t) (hs : s < nS t) (hw : w < 3) : mFlawIn t (nI f) (nI s) (nI w) = (sFt t f (nI s) (nI w), t) := by
  have h8 := (MI_F hM).2
  unfold mFlawIn; rw [mTh_id h0, if_pos ⟨fl_ok hM hf, st_ok hM hs, wh_ok 3 (by decide) (by decide) hw rfl⟩, tn_n (by omega)]
theorem ce_ok (hM : MI t) {x y z : Nat} (hx : x < nC t) (hy : y < nR t) (hz : z < nL t) : sCell t (nI x) (nI y) (nI z) = true := by
  obtain ⟨⟨hC1, hC2, hC3⟩, ⟨hR1, hR2, hR3⟩, ⟨hL1, hL2, hL3⟩⟩ := MI_C hM
  unfold sCell
  rw [hC1, hR1, hL1, (sIn_rng (by omega)).mpr ⟨nI_pos' (by omega), nI_lt hx (by omega)⟩, (sIn_rng (by omega)).mpr ⟨nI_pos' (by omega), nI_lt hy (by omega)⟩, (sIn_rng (by omega)).mpr ⟨nI_pos' (by omega), nI_lt hz (by omega)⟩]
  rfl
theorem q_cell (hM : MI t) (h0 : t 0 0 = 0) {x y z : Nat} (hx : x < nC t) (hy : y < nR t) (hz : z < nL t) : mCell t (nI x) (nI y) (nI z) = (t 1 (x + 10 * (y + 10 * z)), t) := by
  obtain ⟨⟨hC1, hC2, hC3⟩, ⟨hR1, hR2, hR3⟩, ⟨hL1, hL2, hL3⟩⟩ := MI_C hM
  unfold mCell; rw [mTh_id h0, if_pos (ce_ok hM hx hy hz), sAt_nI, tn, nI_clamp (by omega)]
theorem q_would (hM : MI t) (h0 : t 0 0 = 0) {s w : Nat} {p q r d : Int32} (hs : s < nS t) (ht : sTilt p q r d = true) (hw : w < 4) : mWould t (nI s) p q r d (nI w) = (sLook t s p q r d w, gLook t s p q r d) := by
  have h8 := (MI_S hM).2.2
  unfold mWould; rw [mTh_id h0, if_pos ⟨st_ok hM hs, wh_ok 4 (by decide) (by decide) hw rfl⟩, if_pos ht, tn_n (by omega), tn_n (by omega)]
theorem q_depth (hM : MI t) (h0 : t 0 0 = 0) {s : Nat} {p q r : Int32} (hs : s < nS t) (ht : sTilt p q r 0 = true) (hw : ¬ nI (sWt t (nI s)) = 0) : mDepth t (nI s) p q r = (sDep t s p q r, t) := by
  have h8 := (MI_S hM).2.2
  unfold mDepth; rw [mTh_id h0, if_pos (st_ok hM hs), if_pos ht, if_neg hw, tn_n (by omega)]
def sRw (t : Mem) (f s w : Nat) : Int32 := if w = 0 then (sRidS t f s 27).1 else if w = 1 then (sRidS t f s 27).2.1 else (sRidS t f s 27).2.2
theorem q_rid (hM : MI t) (h0 : t 0 0 = 0) {f s w : Nat} (hf : f < nF t) (hs : s < nS t) (hw : w < 3) (hc : ¬ nI (sFc t f (nI s) false) = 0) : mRid t (nI f) (nI s) (nI w) = (sRw t f s w, t) := by
  have h8 := (MI_F hM).2
  have h9 := (MI_S hM).2.2
  unfold mRid sRw; rw [mTh_id h0, if_pos ⟨fl_ok hM hf, st_ok hM hs, wh_ok 3 (by decide) (by decide) hw rfl⟩, tn_n (by omega), tn_n (by omega), if_neg hc]
  rcases (show w = 0 ∨ w = 1 ∨ w = 2 by omega) with rfl | rfl | rfl <;> rfl
theorem q_saw (hM : MI t) (h0 : t 0 0 = 0) {s : Nat} {p q r d : Int32} (hs : s < nS t) (ht : sTilt p q r d = true) (h8 : nS t < 8) (h1 : 0 < sTurn t (nI s) p q r d) (h2 : sTurn t (nI s) p q r d < sWt t (nI s)) : mSaw t (nI s) p q r d = (nI (nS t), gSaw t s p q r d) := by
  have h9 := fx_w (t := t) (nI s)
  have e7 := (MI_S hM).1
  have hn : ¬ (t 0 7 = 8 ∨ nI (sTurn t (nI s) p q r d) = 0 ∨ nI (sTurn t (nI s) p q r d) = nI (sWt t (nI s))) := by
    rintro (h | h | h)
    · rw [e7, show (8 : Int32) = nI 8 by decide, nI_eq (by omega) (by omega)] at h; omega
    · exact nI_ne0 h1 (by omega) h
    · rw [nI_eq (by omega) (by omega)] at h; omega
  unfold mSaw gSaw; rw [mTh_id h0, if_pos (st_ok hM hs), if_pos ht, if_neg hn, e7, nI_1]
theorem q_cut (hM : MI t) (h0 : t 0 0 = 0) {s : Nat} {p q r d : Int32} (hs : s < nS t) (ht : sTilt p q r d = true) (h16 : nP t s < 16) (hw : ¬ t 0 10 < 3 * nI (sTurn t (nI s) p q r d)) : mCut t (nI s) p q r d = (nI (sTurn t (nI s) p q r d), gCut t s p q r d (3 * nI (sTurn t (nI s) p q r d))) := by
  have h8 := (MI_S hM).2.2
  have e4 := (MI_P hM (show s < 8 by omega)).1
  have hn : ¬ (t 4 s = 16 ∨ t 0 10 < 3 * nI (sTurn t (nI s) p q r d)) := by
    rintro (h | h)
    · rw [e4, show (16 : Int32) = nI 16 by decide, nI_eq (by omega) (by omega)] at h; omega
    · exact hw h
  unfold mCut gCut; rw [mTh_id h0, if_pos (st_ok hM hs), if_pos ht, tn_n (by omega), if_neg hn]
theorem q_polish (hM : MI t) (h0 : t 0 0 = 0) {s k : Nat} (hs : s < nS t) (hk : k < nP t s) (h1 : ¬ nI (sTouch t s k) = 0) (h2 : ¬ sPl t s k 4 = 1) (hw : ¬ t 0 10 < nI (sTouch t s k) + 5) : mPolish t (nI s) (nI k) = (nI (sTouch t s k) + 5, gPol t s k (nI (sTouch t s k) + 5)) := by
  have h8 := (MI_S hM).2.2
  have h9 := (MI_P hM (show s < 8 by omega)).2
  unfold mPolish gPol; rw [mTh_id h0, if_pos (pl_ok hM hs hk), tn_n (by omega), tn_n (by omega), if_neg (fun h => h.elim h1 (fun h => h.elim h2 hw))]
theorem q_take (h0 : t 0 0 = 0) {a b d : Nat} (ha : 1 ≤ a ∧ a ≤ 10) (hb : 1 ≤ b ∧ b ≤ 10) (hd : 1 ≤ d ∧ d ≤ 10) : mTake t (nI a) (nI b) (nI d) = (nI a * nI b * nI d, gBegin t (nI a) (nI b) (nI d)) := by
  have h : ∀ a, 1 ≤ a ∧ a ≤ 10 → sIn (nI a) 1 10 = true := fun a ha => by
    unfold sIn
    rw [Bool.and_eq_true, decide_eq_true_iff, decide_eq_true_iff, show (1 : Int32) = nI 1 by decide, show (10 : Int32) = nI 10 by decide]
    exact ⟨nI_le ha.1 (by omega), nI_le ha.2 (by omega)⟩
  unfold mTake; rw [mTh_id h0, if_pos ⟨h a ha, h b hb, h d hd⟩]
theorem q_flaw (hM : MI t) (h0 : t 0 0 = 0) {x y z ra se : Nat} (hx : x < nC t) (hy : y < nR t) (hz : z < nL t) (hr : ra ≤ 3) (hs : 1 ≤ se ∧ se ≤ 9) (hf : nF t < 10) : mFlaw t (nI x) (nI y) (nI z) (nI ra) (nI se) = (nI (nF t), gFlaw t (nI x) (nI y) (nI z) (nI ra) (nI se)) := by
  have h1 : sIn (nI ra) 0 3 = true ∧ sIn (nI se) 1 9 = true := by
    unfold sIn
    simp only [Bool.and_eq_true, decide_eq_true_iff]
    rw [show (3 : Int32) = nI 3 by decide, show (1 : Int32) = nI 1 by decide, show (9 : Int32) = nI 9 by decide]
    exact ⟨⟨nI_pos' (by omega), nI_le hr (by omega)⟩, nI_le hs.1 (by omega), nI_le hs.2 (by omega)⟩
  have h2 : ¬ t 0 5 = 10 := fun h => by
    rw [(MI_F hM).1, show (10 : Int32) = nI 10 by decide, nI_eq (by omega) (by omega)] at h; omega
  unfold mFlaw; rw [mTh_id h0, if_pos (ce_ok hM hx hy hz), if_pos h1, if_neg h2, (MI_F hM).1]
end QQ
theorem Qf_sym {t t' : Mem} (h : Qf t t') : Qf t' t := ⟨fun j hj => (h.1 j hj).symm, h.2.1.symm, h.2.2.1.symm, h.2.2.2.1.symm, fun s k w hs hk hw => (h.2.2.2.2 s k w hs (by rw [← Qf_nP h]; exact hk) hw).symm⟩
theorem RS_unlook {σ t : Mem} {s : Nat} {p q r d : Int32} (h6 : M16 t) (hs : s < 8) (h : RS σ (gLook t s p q r d)) : RS σ t := RS_Qf h (Qf_sym (Qf_e (Qe_look h6 hs p q r d)))
/-! the calls -/
section CX
variable {l : Launch} {X : gC} {A : Nat → Nat} {es : va_W} {cc : ByteArray} {own : String} {dd ca sa kc nc pc b L idx : Nat} {xs : Nat → Int32} {ls : List (Option Value)} {st : List Value} {σ t : Mem}
theorem e_take {co ro la v : Int32} {t2 : Mem} (hst : l.stackTraces = false) (hC : uOk l wX X A es cc own dd ca sa) (hL : uL X b L xs) (hR : RS σ t) (h0 : t 0 0 = 0) (hm : mTake t co ro la = (v, t2)) (h2 : t2 0 0 = 0) (hlk : Cond.methodLink own idx yX5_take ∈ TB) (hd : decode cc pc = .ok (.invokevirtual idx, 3)) (hdd : 8 ≤ dd) (hf : kc + 1 ≤ ca ∧ nc + 6 ≤ sa) (hrest : (st.map fun v => v.category).sum ≤ 8) (kk : ∀ σ1, RS σ1 t2 → G (wU wX es) (uX wX X A es) (kc + 1) (nc + 6) (pc + 3) ls (.int v :: st) σ1) : G (wU wX es) (uX wX X A es) kc nc pc ls (.int la :: .int ro :: .int co :: .ref (A 0) :: st) σ :=
  u_xVI 3 hC hL.2.1 (c_X5_take l hst t co ro la) hlk ⟨tw_3_170, tw_3_171, tw_1_1, tw_3_172⟩ (by decide +kernel) ⟨hdd, by decide⟩ hf rfl rfl hrest rfl hd ⟨hR, h0⟩ (fun Ex σ1 h => no_xcT (by rw [hm]; exact h2) h.1) (fun r σ1 hq => by
    obtain ⟨h3, h4, -⟩ := hq
    rw [hm] at h3 h4
    have h3 : r = v := h3
    subst h3
    exact kk σ1 h4)
theorem e_flaw {x y z ra se v : Int32} {t2 : Mem} (hst : l.stackTraces = false) (hC : uOk l wX X A es cc own dd ca sa) (hL : uL X b L xs) (hR : RS σ t) (h0 : t 0 0 = 0) (hm : mFlaw t x y z ra se = (v, t2)) (h2 : t2 0 0 = 0) (hlk : Cond.methodLink own idx yX5_flaw ∈ TB) (hd : decode cc pc = .ok (.invokevirtual idx, 3)) (hdd : 8 ≤ dd) (hf : kc + 2 ≤ ca ∧ nc + 12 ≤ sa) (hrest : (st.map fun v => v.category).sum ≤ 8) (kk : ∀ σ1, RS σ1 t2 → G (wU wX es) (uX wX X A es) (kc + 2) (nc + 12) (pc + 3) ls (.int v :: st) σ1) : G (wU wX es) (uX wX X A es) kc nc pc ls (.int se :: .int ra :: .int z :: .int y :: .int x :: .ref (A 0) :: st) σ :=
  u_xVI 5 hC hL.2.1 (c_X5_flaw l hst t x y z ra se) hlk ⟨tw_3_206, tw_3_207, tw_1_1, tw_3_208⟩ (by decide +kernel) ⟨hdd, by decide⟩ hf rfl rfl hrest rfl hd ⟨hR, h0⟩ (fun Ex σ1 h => no_xc3 (by rw [hm]; exact h2) h.1) (fun r σ1 hq => by
    obtain ⟨h3, h4, -⟩ := hq
    rw [hm] at h3 h4
    have h3 : r = v := h3
    subst h3
    exact kk σ1 h4)
theorem e_cell {x y z v : Int32} {t2 : Mem} (hst : l.stackTraces = false) (hC : uOk l wX X A es cc own dd ca sa) (hL : uL X b L xs) (hR : RS σ t) (h0 : t 0 0 = 0) (hm : mCell t x y z = (v, t2)) (h2 : t2 0 0 = 0) (hlk : Cond.methodLink own idx yX5_cell ∈ TB) (hd : decode cc pc = .ok (.invokevirtual idx, 3)) (hdd : 8 ≤ dd) (hf : kc + 1 ≤ ca ∧ nc + 6 ≤ sa) (hrest : (st.map fun v => v.category).sum ≤ 8) (kk : ∀ σ1, RS σ1 t2 → G (wU wX es) (uX wX X A es) (kc + 1) (nc + 6) (pc + 3) ls (.int v :: st) σ1) : G (wU wX es) (uX wX X A es) kc nc pc ls (.int z :: .int y :: .int x :: .ref (A 0) :: st) σ :=
  u_xVI 3 hC hL.2.1 (c_X5_cell l hst t x y z) hlk ⟨tw_2_31, tw_2_32, tw_1_1, tw_2_33⟩ (by decide +kernel) ⟨hdd, by decide⟩ hf rfl rfl hrest rfl hd ⟨hR, h0⟩ (fun Ex σ1 h => no_xc1 (by rw [hm]; exact h2) h.1) (fun r σ1 hq => by
    obtain ⟨h3, h4, -⟩ := hq
    rw [hm] at h3 h4
    have h3 : r = v := h3
    subst h3
    exact kk σ1 h4)
theorem e_flawIn {f s w v : Int32} {t2 : Mem} (hst : l.stackTraces = false) (hC : uOk l wX X A es cc own dd ca sa) (hL : uL X b L xs) (hR : RS σ t) (h0 : t 0 0 = 0) (hm : mFlawIn t f s w = (v, t2)) (h2 : t2 0 0 = 0) (hlk : Cond.methodLink own idx yX5_flawIn ∈ TB) (hd : decode cc pc = .ok (.invokevirtual idx, 3)) (hdd : 8 ≤ dd) (hf : kc + 3 ≤ ca ∧ nc + 18 ≤ sa) (hrest : (st.map fun v => v.category).sum ≤ 8) (kk : ∀ σ1, RS σ1 t2 → G (wU wX es) (uX wX X A es) (kc + 3) (nc + 18) (pc + 3) ls (.int v :: st) σ1) : G (wU wX es) (uX wX X A es) kc nc pc ls (.int w :: .int s :: .int f :: .ref (A 0) :: st) σ :=
  u_xVI 3 hC hL.2.1 (c_X5_flawIn l hst t f s w) hlk ⟨tw_2_109, tw_2_110, tw_1_1, tw_2_111⟩ (by decide +kernel) ⟨hdd, by decide⟩ hf rfl rfl hrest rfl hd ⟨hR, h0⟩ (fun Ex σ1 h => no_xc1 (by rw [hm]; exact h2) h.1) (fun r σ1 hq => by
    obtain ⟨h3, h4, -⟩ := hq
    rw [hm] at h3 h4
    have h3 : r = v := h3
    subst h3
    exact kk σ1 h4)
theorem e_saw {s p q r d v : Int32} {t2 : Mem} (hst : l.stackTraces = false) (hC : uOk l wX X A es cc own dd ca sa) (hL : uL X b L xs) (hR : RS σ t) (h0 : t 0 0 = 0) (hm : mSaw t s p q r d = (v, t2)) (h2 : t2 0 0 = 0) (hlk : Cond.methodLink own idx yX5_saw ∈ TB) (hd : decode cc pc = .ok (.invokevirtual idx, 3)) (hdd : 8 ≤ dd) (hf : kc + 4 ≤ ca ∧ nc + 24 ≤ sa) (hrest : (st.map fun v => v.category).sum ≤ 8) (kk : ∀ σ1, RS σ1 t2 → G (wU wX es) (uX wX X A es) (kc + 4) (nc + 24) (pc + 3) ls (.int v :: st) σ1) : G (wU wX es) (uX wX X A es) kc nc pc ls (.int d :: .int r :: .int q :: .int p :: .int s :: .ref (A 0) :: st) σ :=
  u_xVI 5 hC hL.2.1 (c_X5_saw l hst t s p q r d) hlk ⟨tw_2_135, tw_2_136, tw_1_1, tw_2_137⟩ (by decide +kernel) ⟨hdd, by decide⟩ hf rfl rfl hrest rfl hd ⟨hR, h0⟩ (fun Ex σ1 h => no_xc3 (by rw [hm]; exact h2) h.1) (fun r σ1 hq => by
    obtain ⟨h3, h4, -⟩ := hq
    rw [hm] at h3 h4
    have h3 : r = v := h3
    subst h3
    exact kk σ1 h4)
theorem e_cut {s p q r d v : Int32} {t2 : Mem} (hst : l.stackTraces = false) (hC : uOk l wX X A es cc own dd ca sa) (hL : uL X b L xs) (hR : RS σ t) (h0 : t 0 0 = 0) (hm : mCut t s p q r d = (v, t2)) (h2 : t2 0 0 = 0) (hlk : Cond.methodLink own idx yX5_cut ∈ TB) (hd : decode cc pc = .ok (.invokevirtual idx, 3)) (hdd : 8 ≤ dd) (hf : kc + 4 ≤ ca ∧ nc + 24 ≤ sa) (hrest : (st.map fun v => v.category).sum ≤ 8) (kk : ∀ σ1, RS σ1 t2 → G (wU wX es) (uX wX X A es) (kc + 4) (nc + 24) (pc + 3) ls (.int v :: st) σ1) : G (wU wX es) (uX wX X A es) kc nc pc ls (.int d :: .int r :: .int q :: .int p :: .int s :: .ref (A 0) :: st) σ :=
  u_xVI 5 hC hL.2.1 (c_X5_cut l hst t s p q r d) hlk ⟨tw_2_216, tw_2_217, tw_1_1, tw_2_218⟩ (by decide +kernel) ⟨hdd, by decide⟩ hf rfl rfl hrest rfl hd ⟨hR, h0⟩ (fun Ex σ1 h => no_xc3 (by rw [hm]; exact h2) h.1) (fun r σ1 hq => by
    obtain ⟨h3, h4, -⟩ := hq
    rw [hm] at h3 h4
    have h3 : r = v := h3
    subst h3
    exact kk σ1 h4)
theorem e_polish {s k v : Int32} {t2 : Mem} (hst : l.stackTraces = false) (hC : uOk l wX X A es cc own dd ca sa) (hL : uL X b L xs) (hR : RS σ t) (h0 : t 0 0 = 0) (hm : mPolish t s k = (v, t2)) (h2 : t2 0 0 = 0) (hlk : Cond.methodLink own idx yX5_polish ∈ TB) (hd : decode cc pc = .ok (.invokevirtual idx, 3)) (hdd : 8 ≤ dd) (hf : kc + 3 ≤ ca ∧ nc + 18 ≤ sa) (hrest : (st.map fun v => v.category).sum ≤ 8) (kk : ∀ σ1, RS σ1 t2 → G (wU wX es) (uX wX X A es) (kc + 3) (nc + 18) (pc + 3) ls (.int v :: st) σ1) : G (wU wX es) (uX wX X A es) kc nc pc ls (.int k :: .int s :: .ref (A 0) :: st) σ :=
  u_xVI 2 hC hL.2.1 (c_X5_polish l hst t s k) hlk ⟨tw_2_230, tw_2_231, tw_1_1, tw_2_232⟩ (by decide +kernel) ⟨hdd, by decide⟩ hf rfl rfl hrest rfl hd ⟨hR, h0⟩ (fun Ex σ1 h => no_xcP (by rw [hm]; exact h2) h.1) (fun r σ1 hq => by
    obtain ⟨h3, h4, -⟩ := hq
    rw [hm] at h3 h4
    have h3 : r = v := h3
    subst h3
    exact kk σ1 h4)
theorem e_stone {s w v : Int32} {t2 : Mem} (hst : l.stackTraces = false) (hC : uOk l wX X A es cc own dd ca sa) (hL : uL X b L xs) (hR : RS σ t) (h0 : t 0 0 = 0) (hm : mStone t s w = (v, t2)) (h2 : t2 0 0 = 0) (hlk : Cond.methodLink own idx yX5_stone ∈ TB) (hd : decode cc pc = .ok (.invokevirtual idx, 3)) (hdd : 8 ≤ dd) (hf : kc + 2 ≤ ca ∧ nc + 12 ≤ sa) (hrest : (st.map fun v => v.category).sum ≤ 8) (kk : ∀ σ1, RS σ1 t2 → G (wU wX es) (uX wX X A es) (kc + 2) (nc + 12) (pc + 3) ls (.int v :: st) σ1) : G (wU wX es) (uX wX X A es) kc nc pc ls (.int w :: .int s :: .ref (A 0) :: st) σ :=
  u_xVI 2 hC hL.2.1 (c_X5_stone l hst t s w) hlk ⟨tw_3_8, tw_3_9, tw_1_1, tw_3_10⟩ (by decide +kernel) ⟨hdd, by decide⟩ hf rfl rfl hrest rfl hd ⟨hR, h0⟩ (fun Ex σ1 h => no_xc1 (by rw [hm]; exact h2) h.1) (fun r σ1 hq => by
    obtain ⟨h3, h4, -⟩ := hq
    rw [hm] at h3 h4
    have h3 : r = v := h3
    subst h3
    exact kk σ1 h4)
theorem e_plane {s k w v : Int32} {t2 : Mem} (hst : l.stackTraces = false) (hC : uOk l wX X A es cc own dd ca sa) (hL : uL X b L xs) (hR : RS σ t) (h0 : t 0 0 = 0) (hm : mPlane t s k w = (v, t2)) (h2 : t2 0 0 = 0) (hlk : Cond.methodLink own idx yX5_plane ∈ TB) (hd : decode cc pc = .ok (.invokevirtual idx, 3)) (hdd : 8 ≤ dd) (hf : kc + 3 ≤ ca ∧ nc + 18 ≤ sa) (hrest : (st.map fun v => v.category).sum ≤ 8) (kk : ∀ σ1, RS σ1 t2 → G (wU wX es) (uX wX X A es) (kc + 3) (nc + 18) (pc + 3) ls (.int v :: st) σ1) : G (wU wX es) (uX wX X A es) kc nc pc ls (.int w :: .int k :: .int s :: .ref (A 0) :: st) σ :=
  u_xVI 3 hC hL.2.1 (c_X5_plane l hst t s k w) hlk ⟨tw_3_45, tw_3_46, tw_1_1, tw_3_47⟩ (by decide +kernel) ⟨hdd, by decide⟩ hf rfl rfl hrest rfl hd ⟨hR, h0⟩ (fun Ex σ1 h => no_xc1 (by rw [hm]; exact h2) h.1) (fun r σ1 hq => by
    obtain ⟨h3, h4, -⟩ := hq
    rw [hm] at h3 h4
    have h3 : r = v := h3
    subst h3
    exact kk σ1 h4)
theorem e_count {w v : Int32} {t2 : Mem} (hst : l.stackTraces = false) (hC : uOk l wX X A es cc own dd ca sa) (hL : uL X b L xs) (hR : RS σ t) (h0 : t 0 0 = 0) (hm : mCount t w = (v, t2)) (h2 : t2 0 0 = 0) (hlk : Cond.methodLink own idx yX5_count ∈ TB) (hd : decode cc pc = .ok (.invokevirtual idx, 3)) (hdd : 8 ≤ dd) (hf : kc + 1 ≤ ca ∧ nc + 6 ≤ sa) (hrest : (st.map fun v => v.category).sum ≤ 8) (kk : ∀ σ1, RS σ1 t2 → G (wU wX es) (uX wX X A es) (kc + 1) (nc + 6) (pc + 3) ls (.int v :: st) σ1) : G (wU wX es) (uX wX X A es) kc nc pc ls (.int w :: .ref (A 0) :: st) σ :=
  u_xVI 1 hC hL.2.1 (c_X5_count l hst t w) hlk ⟨tw_3_53, tw_3_54, tw_1_1, tw_3_55⟩ (by decide +kernel) ⟨hdd, by decide⟩ hf rfl rfl hrest rfl hd ⟨hR, h0⟩ (fun Ex σ1 h => no_xc1 (by rw [hm]; exact h2) h.1) (fun r σ1 hq => by
    obtain ⟨h3, h4, -⟩ := hq
    rw [hm] at h3 h4
    have h3 : r = v := h3
    subst h3
    exact kk σ1 h4)
theorem e_would {s p q r d w v : Int32} {t2 : Mem} (hst : l.stackTraces = false) (hC : uOk l wX X A es cc own dd ca sa) (hL : uL X b L xs) (hR : RS σ t) (h0 : t 0 0 = 0) (hm : mWould t s p q r d w = (v, t2)) (h2 : t2 0 0 = 0) (hlk : Cond.methodLink own idx yX5_would ∈ TB) (hd : decode cc pc = .ok (.invokevirtual idx, 3)) (hdd : 8 ≤ dd) (hf : kc + 4 ≤ ca ∧ nc + 24 ≤ sa) (hrest : (st.map fun v => v.category).sum ≤ 8) (kk : ∀ σ1, RS σ1 t2 → G (wU wX es) (uX wX X A es) (kc + 4) (nc + 24) (pc + 3) ls (.int v :: st) σ1) : G (wU wX es) (uX wX X A es) kc nc pc ls (.int w :: .int d :: .int r :: .int q :: .int p :: .int s :: .ref (A 0) :: st) σ :=
  u_xVI 6 hC hL.2.1 (c_X5_would l hst t s p q r d w) hlk ⟨tw_3_74, tw_3_75, tw_1_1, tw_3_76⟩ (by decide +kernel) ⟨hdd, by decide⟩ hf rfl rfl hrest rfl hd ⟨hR, h0⟩ (fun Ex σ1 h => no_xc2 (by rw [hm]; exact h2) h.1) (fun r σ1 hq => by
    obtain ⟨h3, h4, -⟩ := hq
    rw [hm] at h3 h4
    have h3 : r = v := h3
    subst h3
    exact kk σ1 h4)
theorem e_depth {s p q r v : Int32} {t2 : Mem} (hst : l.stackTraces = false) (hC : uOk l wX X A es cc own dd ca sa) (hL : uL X b L xs) (hR : RS σ t) (h0 : t 0 0 = 0) (hm : mDepth t s p q r = (v, t2)) (h2 : t2 0 0 = 0) (hlk : Cond.methodLink own idx yX5_depth ∈ TB) (hd : decode cc pc = .ok (.invokevirtual idx, 3)) (hdd : 8 ≤ dd) (hf : kc + 3 ≤ ca ∧ nc + 18 ≤ sa) (hrest : (st.map fun v => v.category).sum ≤ 8) (kk : ∀ σ1, RS σ1 t2 → G (wU wX es) (uX wX X A es) (kc + 3) (nc + 18) (pc + 3) ls (.int v :: st) σ1) : G (wU wX es) (uX wX X A es) kc nc pc ls (.int r :: .int q :: .int p :: .int s :: .ref (A 0) :: st) σ :=
  u_xVI 4 hC hL.2.1 (c_X5_depth l hst t s p q r) hlk ⟨tw_3_120, tw_3_121, tw_1_1, tw_3_122⟩ (by decide +kernel) ⟨hdd, by decide⟩ hf rfl rfl hrest rfl hd ⟨hR, h0⟩ (fun Ex σ1 h => no_xc3 (by rw [hm]; exact h2) h.1) (fun r σ1 hq => by
    obtain ⟨h3, h4, -⟩ := hq
    rw [hm] at h3 h4
    have h3 : r = v := h3
    subst h3
    exact kk σ1 h4)
theorem e_rid {f s w v : Int32} {t2 : Mem} (hst : l.stackTraces = false) (hC : uOk l wX X A es cc own dd ca sa) (hL : uL X b L xs) (hR : RS σ t) (h0 : t 0 0 = 0) (hm : mRid t f s w = (v, t2)) (h2 : t2 0 0 = 0) (hlk : Cond.methodLink own idx yX5_rid ∈ TB) (hd : decode cc pc = .ok (.invokevirtual idx, 3)) (hdd : 8 ≤ dd) (hf : kc + 3 ≤ ca ∧ nc + 18 ≤ sa) (hrest : (st.map fun v => v.category).sum ≤ 8) (kk : ∀ σ1, RS σ1 t2 → G (wU wX es) (uX wX X A es) (kc + 3) (nc + 18) (pc + 3) ls (.int v :: st) σ1) : G (wU wX es) (uX wX X A es) kc nc pc ls (.int w :: .int s :: .int f :: .ref (A 0) :: st) σ :=
  u_xVI 3 hC hL.2.1 (c_X5_rid l hst t f s w) hlk ⟨tw_3_134, tw_3_135, tw_1_1, tw_3_136⟩ (by decide +kernel) ⟨hdd, by decide⟩ hf rfl rfl hrest rfl hd ⟨hR, h0⟩ (fun Ex σ1 h => no_xc1 (by rw [hm]; exact h2) h.1) (fun r σ1 hq => by
    obtain ⟨h3, h4, -⟩ := hq
    rw [hm] at h3 h4
    have h3 : r = v := h3
    subst h3
    exact kk σ1 h4)
theorem x_stone {wv : Int32} (s w : Nat) (hst : l.stackTraces = false) (hC : uOk l wX X A es cc own dd ca sa) (hL : uL X b L xs) (hR : RS σ t) (h0 : t 0 0 = 0) (hs : s < nS t) (hw : w < 9) (hwv : wv = nI w) (hlk : Cond.methodLink own idx yX5_stone ∈ TB) (hd : decode cc pc = .ok (.invokevirtual idx, 3)) (hdd : 8 ≤ dd) (hf : kc + 2 ≤ ca ∧ nc + 12 ≤ sa) (hrest : (st.map fun v => v.category).sum ≤ 8) (kk : ∀ σ1, RS σ1 t → G (wU wX es) (uX wX X A es) (kc + 2) (nc + 12) (pc + 3) ls (.int (sSt t s w) :: st) σ1) : G (wU wX es) (uX wX X A es) kc nc pc ls (.int wv :: .int (nI s) :: .ref (A 0) :: st) σ := by
  subst hwv
  exact e_stone hst hC hL hR h0 (q_stone hR.1 h0 hs hw) (h0) hlk hd hdd hf hrest kk
theorem x_count {wv : Int32} (w : Nat) (hst : l.stackTraces = false) (hC : uOk l wX X A es cc own dd ca sa) (hL : uL X b L xs) (hR : RS σ t) (h0 : t 0 0 = 0) (hw : w < 8) (hwv : wv = nI w) (hlk : Cond.methodLink own idx yX5_count ∈ TB) (hd : decode cc pc = .ok (.invokevirtual idx, 3)) (hdd : 8 ≤ dd) (hf : kc + 1 ≤ ca ∧ nc + 6 ≤ sa) (hrest : (st.map fun v => v.category).sum ≤ 8) (kk : ∀ σ1, RS σ1 t → G (wU wX es) (uX wX X A es) (kc + 1) (nc + 6) (pc + 3) ls (.int (sCt t w) :: st) σ1) : G (wU wX es) (uX wX X A es) kc nc pc ls (.int wv :: .ref (A 0) :: st) σ := by
  subst hwv
  exact e_count hst hC hL hR h0 (q_count h0 hw) (h0) hlk hd hdd hf hrest kk
theorem x_plane {wv : Int32} (s k w : Nat) (hst : l.stackTraces = false) (hC : uOk l wX X A es cc own dd ca sa) (hL : uL X b L xs) (hR : RS σ t) (h0 : t 0 0 = 0) (hs : s < nS t) (hk : k < nP t s) (hw : w < 6) (hwv : wv = nI w) (hlk : Cond.methodLink own idx yX5_plane ∈ TB) (hd : decode cc pc = .ok (.invokevirtual idx, 3)) (hdd : 8 ≤ dd) (hf : kc + 3 ≤ ca ∧ nc + 18 ≤ sa) (hrest : (st.map fun v => v.category).sum ≤ 8) (kk : ∀ σ1, RS σ1 t → G (wU wX es) (uX wX X A es) (kc + 3) (nc + 18) (pc + 3) ls (.int (sPt t s k w) :: st) σ1) : G (wU wX es) (uX wX X A es) kc nc pc ls (.int wv :: .int (nI k) :: .int (nI s) :: .ref (A 0) :: st) σ := by
  subst hwv
  exact e_plane hst hC hL hR h0 (q_plane hR.1 h0 hs hk hw) (h0) hlk hd hdd hf hrest kk
theorem x_flawIn {wv : Int32} (f s w : Nat) (hst : l.stackTraces = false) (hC : uOk l wX X A es cc own dd ca sa) (hL : uL X b L xs) (hR : RS σ t) (h0 : t 0 0 = 0) (hf9 : f < nF t) (hs : s < nS t) (hw : w < 3) (hwv : wv = nI w) (hlk : Cond.methodLink own idx yX5_flawIn ∈ TB) (hd : decode cc pc = .ok (.invokevirtual idx, 3)) (hdd : 8 ≤ dd) (hf : kc + 3 ≤ ca ∧ nc + 18 ≤ sa) (hrest : (st.map fun v => v.category).sum ≤ 8) (kk : ∀ σ1, RS σ1 t → G (wU wX es) (uX wX X A es) (kc + 3) (nc + 18) (pc + 3) ls (.int (sFt t f (nI s) wv) :: st) σ1) : G (wU wX es) (uX wX X A es) kc nc pc ls (.int wv :: .int (nI s) :: .int (nI f) :: .ref (A 0) :: st) σ := by
  subst hwv
  exact e_flawIn hst hC hL hR h0 (q_flawIn hR.1 h0 hf9 hs hw) (h0) hlk hd hdd hf hrest kk
theorem x_cell (x y z : Nat) (hst : l.stackTraces = false) (hC : uOk l wX X A es cc own dd ca sa) (hL : uL X b L xs) (hR : RS σ t) (h0 : t 0 0 = 0) (hx : x < nC t) (hy : y < nR t) (hz : z < nL t) (hlk : Cond.methodLink own idx yX5_cell ∈ TB) (hd : decode cc pc = .ok (.invokevirtual idx, 3)) (hdd : 8 ≤ dd) (hf : kc + 1 ≤ ca ∧ nc + 6 ≤ sa) (hrest : (st.map fun v => v.category).sum ≤ 8) (kk : ∀ σ1, RS σ1 t → G (wU wX es) (uX wX X A es) (kc + 1) (nc + 6) (pc + 3) ls (.int (t 1 (x + 10 * (y + 10 * z))) :: st) σ1) : G (wU wX es) (uX wX X A es) kc nc pc ls (.int (nI z) :: .int (nI y) :: .int (nI x) :: .ref (A 0) :: st) σ := by
  exact e_cell hst hC hL hR h0 (q_cell hR.1 h0 hx hy hz) (h0) hlk hd hdd hf hrest kk
theorem x_would {wv p q r d : Int32} (s w : Nat) (hst : l.stackTraces = false) (hC : uOk l wX X A es cc own dd ca sa) (hL : uL X b L xs) (hR : RS σ t) (h0 : t 0 0 = 0) (hs : s < nS t) (ht : sTilt p q r d = true) (hw : w < 4) (hwv : wv = nI w) (hlk : Cond.methodLink own idx yX5_would ∈ TB) (hd : decode cc pc = .ok (.invokevirtual idx, 3)) (hdd : 8 ≤ dd) (hf : kc + 4 ≤ ca ∧ nc + 24 ≤ sa) (hrest : (st.map fun v => v.category).sum ≤ 8) (kk : ∀ σ1, RS σ1 t → G (wU wX es) (uX wX X A es) (kc + 4) (nc + 24) (pc + 3) ls (.int (sLook t s p q r d w) :: st) σ1) : G (wU wX es) (uX wX X A es) kc nc pc ls (.int wv :: .int d :: .int r :: .int q :: .int p :: .int (nI s) :: .ref (A 0) :: st) σ := by
  subst hwv
  exact e_would hst hC hL hR h0 (q_would hR.1 h0 hs ht hw) (by show gLook t s p q r d 0 0 = 0; simp [gLook, h0]) hlk hd hdd hf hrest (fun σ1 h => kk σ1 (RS_unlook hR.2.2.1 (Nat.lt_of_lt_of_le hs (MI_S hR.1).2.2) h))
theorem x_depth {p q r : Int32} (s : Nat) (hst : l.stackTraces = false) (hC : uOk l wX X A es cc own dd ca sa) (hL : uL X b L xs) (hR : RS σ t) (h0 : t 0 0 = 0) (hs : s < nS t) (ht : sTilt p q r 0 = true) (hw : ¬ nI (sWt t (nI s)) = 0) (hlk : Cond.methodLink own idx yX5_depth ∈ TB) (hd : decode cc pc = .ok (.invokevirtual idx, 3)) (hdd : 8 ≤ dd) (hf : kc + 3 ≤ ca ∧ nc + 18 ≤ sa) (hrest : (st.map fun v => v.category).sum ≤ 8) (kk : ∀ σ1, RS σ1 t → G (wU wX es) (uX wX X A es) (kc + 3) (nc + 18) (pc + 3) ls (.int (sDep t s p q r) :: st) σ1) : G (wU wX es) (uX wX X A es) kc nc pc ls (.int r :: .int q :: .int p :: .int (nI s) :: .ref (A 0) :: st) σ := by
  exact e_depth hst hC hL hR h0 (q_depth hR.1 h0 hs ht hw) (h0) hlk hd hdd hf hrest kk
theorem x_rid {wv : Int32} (f s w : Nat) (hst : l.stackTraces = false) (hC : uOk l wX X A es cc own dd ca sa) (hL : uL X b L xs) (hR : RS σ t) (h0 : t 0 0 = 0) (hf9 : f < nF t) (hs : s < nS t) (hw : w < 3) (hc : ¬ nI (sFc t f (nI s) false) = 0) (hwv : wv = nI w) (hlk : Cond.methodLink own idx yX5_rid ∈ TB) (hd : decode cc pc = .ok (.invokevirtual idx, 3)) (hdd : 8 ≤ dd) (hf : kc + 3 ≤ ca ∧ nc + 18 ≤ sa) (hrest : (st.map fun v => v.category).sum ≤ 8) (kk : ∀ σ1, RS σ1 t → G (wU wX es) (uX wX X A es) (kc + 3) (nc + 18) (pc + 3) ls (.int (sRw t f s w) :: st) σ1) : G (wU wX es) (uX wX X A es) kc nc pc ls (.int wv :: .int (nI s) :: .int (nI f) :: .ref (A 0) :: st) σ := by
  subst hwv
  exact e_rid hst hC hL hR h0 (q_rid hR.1 h0 hf9 hs hw hc) (h0) hlk hd hdd hf hrest kk
theorem x_saw {p q r d : Int32} (s : Nat) (hst : l.stackTraces = false) (hC : uOk l wX X A es cc own dd ca sa) (hL : uL X b L xs) (hR : RS σ t) (h0 : t 0 0 = 0) (hs : s < nS t) (ht : sTilt p q r d = true) (h8 : nS t < 8) (h1 : 0 < sTurn t (nI s) p q r d) (h2 : sTurn t (nI s) p q r d < sWt t (nI s)) (hlk : Cond.methodLink own idx yX5_saw ∈ TB) (hd : decode cc pc = .ok (.invokevirtual idx, 3)) (hdd : 8 ≤ dd) (hf : kc + 4 ≤ ca ∧ nc + 24 ≤ sa) (hrest : (st.map fun v => v.category).sum ≤ 8) (kk : ∀ σ1, RS σ1 (gSaw t s p q r d) → G (wU wX es) (uX wX X A es) (kc + 4) (nc + 24) (pc + 3) ls (.int (nI (nS t)) :: st) σ1) : G (wU wX es) (uX wX X A es) kc nc pc ls (.int d :: .int r :: .int q :: .int p :: .int (nI s) :: .ref (A 0) :: st) σ := by
  exact e_saw hst hC hL hR h0 (q_saw hR.1 h0 hs ht h8 h1 h2) (by show gSaw t s p q r d 0 0 = 0; rw [sw_0 (by decide)]; exact h0) hlk hd hdd hf hrest kk
theorem x_cut {p q r d : Int32} (s : Nat) (hst : l.stackTraces = false) (hC : uOk l wX X A es cc own dd ca sa) (hL : uL X b L xs) (hR : RS σ t) (h0 : t 0 0 = 0) (hs : s < nS t) (ht : sTilt p q r d = true) (h16 : nP t s < 16) (hw : ¬ t 0 10 < 3 * nI (sTurn t (nI s) p q r d)) (hlk : Cond.methodLink own idx yX5_cut ∈ TB) (hd : decode cc pc = .ok (.invokevirtual idx, 3)) (hdd : 8 ≤ dd) (hf : kc + 4 ≤ ca ∧ nc + 24 ≤ sa) (hrest : (st.map fun v => v.category).sum ≤ 8) (kk : ∀ σ1, RS σ1 (gCut t s p q r d (3 * nI (sTurn t (nI s) p q r d))) → G (wU wX es) (uX wX X A es) (kc + 4) (nc + 24) (pc + 3) ls (.int (nI (sTurn t (nI s) p q r d)) :: st) σ1) : G (wU wX es) (uX wX X A es) kc nc pc ls (.int d :: .int r :: .int q :: .int p :: .int (nI s) :: .ref (A 0) :: st) σ := by
  exact e_cut hst hC hL hR h0 (q_cut hR.1 h0 hs ht h16 hw) ((ct_0 (by decide)).trans h0) hlk hd hdd hf hrest kk
theorem x_polish (s k : Nat) (hst : l.stackTraces = false) (hC : uOk l wX X A es cc own dd ca sa) (hL : uL X b L xs) (hR : RS σ t) (h0 : t 0 0 = 0) (hs : s < nS t) (hk : k < nP t s) (h1 : ¬ nI (sTouch t s k) = 0) (h2 : ¬ sPl t s k 4 = 1) (hw : ¬ t 0 10 < nI (sTouch t s k) + 5) (hlk : Cond.methodLink own idx yX5_polish ∈ TB) (hd : decode cc pc = .ok (.invokevirtual idx, 3)) (hdd : 8 ≤ dd) (hf : kc + 3 ≤ ca ∧ nc + 18 ≤ sa) (hrest : (st.map fun v => v.category).sum ≤ 8) (kk : ∀ σ1, RS σ1 (gPol t s k (nI (sTouch t s k) + 5)) → G (wU wX es) (uX wX X A es) (kc + 3) (nc + 18) (pc + 3) ls (.int (nI (sTouch t s k) + 5) :: st) σ1) : G (wU wX es) (uX wX X A es) kc nc pc ls (.int (nI k) :: .int (nI s) :: .ref (A 0) :: st) σ := by
  exact e_polish hst hC hL hR h0 (q_polish hR.1 h0 hs hk h1 h2 hw) ((po_0 (by decide)).trans h0) hlk hd hdd hf hrest kk
theorem x_take (a b9 d : Nat) (hst : l.stackTraces = false) (hC : uOk l wX X A es cc own dd ca sa) (hL : uL X b L xs) (hR : RS σ t) (h0 : t 0 0 = 0) (ha : 1 ≤ a ∧ a ≤ 10) (hb : 1 ≤ b9 ∧ b9 ≤ 10) (hd9 : 1 ≤ d ∧ d ≤ 10) (hlk : Cond.methodLink own idx yX5_take ∈ TB) (hd : decode cc pc = .ok (.invokevirtual idx, 3)) (hdd : 8 ≤ dd) (hf : kc + 1 ≤ ca ∧ nc + 6 ≤ sa) (hrest : (st.map fun v => v.category).sum ≤ 8) (kk : ∀ σ1, RS σ1 (gBegin t (nI a) (nI b9) (nI d)) → G (wU wX es) (uX wX X A es) (kc + 1) (nc + 6) (pc + 3) ls (.int (nI a * nI b9 * nI d) :: st) σ1) : G (wU wX es) (uX wX X A es) kc nc pc ls (.int (nI d) :: .int (nI b9) :: .int (nI a) :: .ref (A 0) :: st) σ := by
  exact e_take hst hC hL hR h0 (q_take h0 ha hb hd9) (by simp [gBegin, gCells, upd2, h0]) hlk hd hdd hf hrest kk
theorem x_flaw (x y z ra se : Nat) (hst : l.stackTraces = false) (hC : uOk l wX X A es cc own dd ca sa) (hL : uL X b L xs) (hR : RS σ t) (h0 : t 0 0 = 0) (hx : x < nC t) (hy : y < nR t) (hz : z < nL t) (hr : ra ≤ 3) (hs : 1 ≤ se ∧ se ≤ 9) (hf9 : nF t < 10) (hlk : Cond.methodLink own idx yX5_flaw ∈ TB) (hd : decode cc pc = .ok (.invokevirtual idx, 3)) (hdd : 8 ≤ dd) (hf : kc + 2 ≤ ca ∧ nc + 12 ≤ sa) (hrest : (st.map fun v => v.category).sum ≤ 8) (kk : ∀ σ1, RS σ1 (gFlaw t (nI x) (nI y) (nI z) (nI ra) (nI se)) → G (wU wX es) (uX wX X A es) (kc + 2) (nc + 12) (pc + 3) ls (.int (nI (nF t)) :: st) σ1) : G (wU wX es) (uX wX X A es) kc nc pc ls (.int (nI se) :: .int (nI ra) :: .int (nI z) :: .int (nI y) :: .int (nI x) :: .ref (A 0) :: st) σ := by
  exact e_flaw hst hC hL hR h0 (q_flaw hR.1 h0 hx hy hz hr hs hf9) (by simp [gFlaw, h0]) hlk hd hdd hf hrest kk
theorem x_dress (hC : uOk l wX X A es cc own dd ca sa) (hR : RS σ t) (h0 : t 0 0 = 0) (hlk : Cond.methodLink own idx yX5_dress ∈ TB) (hd : decode cc pc = .ok (.invokevirtual idx, 3)) (hdd : 8 ≤ dd) (hf : kc + 0 ≤ ca ∧ nc + 0 ≤ sa) (hrest : (st.map fun v => v.category).sum ≤ 8) (kk : ∀ σ1, RS σ1 (upd2 t 0 10 400) → G (wU wX es) (uX wX X A es) kc nc (pc + 3) ls (.int (t 0 10) :: st) σ1) : G (wU wX es) (uX wX X A es) kc nc pc ls (.ref (A 0) :: st) σ :=
  u_VI 0 hC (c_X5_dress l t) hlk ⟨tw_3_4, tw_3_5, tw_1_1, tw_3_6⟩ (by decide +kernel) ⟨by omega, by decide⟩ hf rfl rfl hrest rfl hd ⟨hR, h0⟩ (fun r σ1 hq => by
    obtain ⟨h3, h4, -⟩ := hq
    have hm : mDress t = (t 0 10, upd2 t 0 10 400) := by unfold mDress; rw [mTh_id h0]
    rw [hm] at h3 h4
    have h3 : r = t 0 10 := h3
    subst h3
    exact kk σ1 h4)
theorem x_kept (hC : uOk l wX X A es cc own dd ca sa) (hR : RS σ t) (hlk : Cond.methodLink own idx yX5_kept ∈ TB) (hd : decode cc pc = .ok (.invokevirtual idx, 3)) (hdd : 8 ≤ dd) (hf : kc + 0 ≤ ca ∧ nc + 0 ≤ sa) (hrest : (st.map fun v => v.category).sum ≤ 8) (kk : ∀ σ1, RS σ1 t → G (wU wX es) (uX wX X A es) kc nc (pc + 3) ls (.double (FP.ddiv (FP.i2d (sCt t 1)) (FP.i2d (sCt t 0))) :: st) σ1) : G (wU wX es) (uX wX X A es) kc nc pc ls (.ref (A 0) :: st) σ :=
  u_VD 0 hC (c_X5_kept l t) hlk ⟨tw_3_147, tw_3_148, tw_1_1, tw_3_149⟩ (by decide +kernel) ⟨by omega, by decide⟩ hf rfl rfl hrest rfl hd hR (fun r σ1 hq => by
    obtain ⟨h3, rfl⟩ := hq
    subst h3
    exact kk _ hR)
end CX
