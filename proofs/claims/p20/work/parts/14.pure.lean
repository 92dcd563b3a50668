/-! the reference's pure words (of whole), [14, 15] -/
abbrev tn (x : Int32) : Nat := x.toNatClampNeg
abbrev mTh (τ : Mem) : Mem := upd2 τ 0 0 0
abbrev mFail (τ : Mem) (v : Int32) : Int32 × Mem := (0, upd2 (mTh τ) 0 0 v)
def gRow5 (a b c d e : Int32) (j : Nat) : Int32 := if j = 0 then a else if j = 1 then b else if j = 2 then c else if j = 3 then d else e
/-- a plane put behind those of a stone -/
def gPut (τ : Mem) (s : Nat) (p q r d : Int32) : Mem := fun i j => if i = 3 then (if 5 * (17 * s + nP τ s) ≤ j ∧ j < 5 * (17 * s + nP τ s) + 5 then gRow5 p q r d 0 (j - 5 * (17 * s + nP τ s)) else τ 3 j) else if i = 4 ∧ j = s then τ 4 s + 1 else τ i j
def mCell (τ : Mem) (x y z : Int32) : Int32 × Mem := if sCell (mTh τ) x y z = true then ((mTh τ) 1 (tn (sAt x y z)), mTh τ) else mFail τ 1
def mFlawIn (τ : Mem) (f s w : Int32) : Int32 × Mem := if sIn f 0 ((mTh τ) 0 5 - 1) = true ∧ sStone (mTh τ) s = true ∧ sIn w 0 2 = true then (sFt (mTh τ) (tn f) s w, mTh τ) else mFail τ 1
def mStone (τ : Mem) (s w : Int32) : Int32 × Mem := if sStone (mTh τ) s = true ∧ sIn w 0 8 = true then (sSt (mTh τ) (tn s) (tn w), mTh τ) else mFail τ 1
def mPlane (τ : Mem) (s k w : Int32) : Int32 × Mem := if sPlane (mTh τ) s k = true ∧ sIn w 0 5 = true then (sPt (mTh τ) (tn s) (tn k) (tn w), mTh τ) else mFail τ 1
def mCount (τ : Mem) (w : Int32) : Int32 × Mem := if sIn w 0 7 = true then (sCt (mTh τ) (tn w), mTh τ) else mFail τ 1
def sAng (τ : Mem) (s a b : Nat) : Int32 := if sProd τ s a b < 0 then 0 - 100 * sProd τ s a b * sProd τ s a b / (sProd τ s a a * sProd τ s b b) else 100 * sProd τ s a b * sProd τ s a b / (sProd τ s a a * sProd τ s b b)
def mAngle (τ : Mem) (s a b : Int32) : Int32 × Mem := if sPlane (mTh τ) s a = true ∧ sPlane (mTh τ) s b = true then (sAng (mTh τ) (tn s) (tn a) (tn b), mTh τ) else mFail τ 1
def mDress (τ : Mem) : Int32 × Mem := ((mTh τ) 0 10, upd2 (mTh τ) 0 10 400)
def mPolish (τ : Mem) (s k : Int32) : Int32 × Mem := if sPlane (mTh τ) s k = true then
    (if nI (sTouch (mTh τ) (tn s) (tn k)) = 0 ∨ sPl (mTh τ) (tn s) (tn k) 4 = 1 ∨ (mTh τ) 0 10 < nI (sTouch (mTh τ) (tn s) (tn k)) + 5 then mFail τ 2
     else (nI (sTouch (mTh τ) (tn s) (tn k)) + 5, gSpend (upd2 (mTh τ) 3 (5 * (17 * tn s + tn k) + 4) 1) (nI (sTouch (mTh τ) (tn s) (tn k)) + 5)))
  else mFail τ 1
/-- no two of the planes that are kept have squares whose product is 0 -/
def MZ (τ : Mem) : Prop := ∀ s a b, s < nS τ → a < nP τ s → b < nP τ s → ¬ sProd τ s a a * sProd τ s b b = 0
/-- no cell bears a mark -/
def NM (τ : Mem) : Prop := ∀ k, k < 1000 → ¬ τ 1 k = -2
theorem MZ_th {τ : Mem} (h : MZ τ) : MZ (mTh τ) := by
  have hs : nS (mTh τ) = nS τ := by unfold nS mTh; rw [upd2_nj (by decide)]
  have hp : ∀ s, nP (mTh τ) s = nP τ s := fun s => by unfold nP mTh; rw [upd2_ni (by decide)]
  have hq : ∀ s a b, sProd (mTh τ) s a b = sProd τ s a b := fun s a b => by unfold sProd sPl mTh; simp only [upd2_ni (show (3 : Nat) ≠ 0 by decide)]
  intro s a b h1 h2 h3
  rw [hs] at h1
  rw [hp] at h2 h3
  rw [hq, hq]
  exact h s a b h1 h2 h3
theorem NM_th {τ : Mem} (h : NM τ) : NM (mTh τ) := fun k hk => by rw [show (mTh τ) 1 k = τ 1 k by simp only [mTh]; rw [upd2_ni (by decide)]]; exact h k hk
theorem back_turn {τ : Mem} (h : NM τ) (s p q r d : Int32) : gBack (gTurn τ s p q r d (-2) 1000) s 1000 = τ := by
  funext i k
  unfold gBack
  by_cases hi : i = 1
  · subst hi
    by_cases hk : k < 1000
    · by_cases ht : pTurn τ s p q r d k = true
      · have h1 : gTurn τ s p q r d (-2) 1000 1 k = -2 := by simp [gTurn, hk, ht]
        rw [if_pos ⟨rfl, hk, h1⟩]
        simp [pTurn] at ht
        exact ht.1.symm
      · have h1 : gTurn τ s p q r d (-2) 1000 1 k = τ 1 k := by simp [gTurn, ht]
        rw [if_neg (by rw [h1]; exact fun hh => h k hk hh.2.2), h1]
    · rw [if_neg (fun hh => hk hh.2.1)]
      simp [gTurn, hk]
  · rw [if_neg (fun hh => hi hh.1)]
    simp [gTurn, hi]
def mSaw (τ : Mem) (s p q r d : Int32) : Int32 × Mem :=
  if sStone (mTh τ) s = true then
    (if sTilt p q r d = true then
      (if (mTh τ) 0 7 = 8 ∨ nI (sTurn (mTh τ) s p q r d) = 0 ∨ nI (sTurn (mTh τ) s p q r d) = nI (sWt (mTh τ) s) then mFail τ 3
       else ((mTh τ) 0 7, upd2 (upd2 (gTurn (mTh τ) s p q r d ((mTh τ) 0 7) 1000) 4 (nS (mTh τ)) 0) 0 7 ((mTh τ) 0 7 + 1)))
     else mFail τ 2)
  else mFail τ 1
def mCut (τ : Mem) (s p q r d : Int32) : Int32 × Mem :=
  if sStone (mTh τ) s = true then
    (if sTilt p q r d = true then
      (if (mTh τ) 4 (tn s) = 16 ∨ (mTh τ) 0 10 < 3 * nI (sTurn (mTh τ) s p q r d) then mFail τ 3
       else (nI (sTurn (mTh τ) s p q r d), gSpend (gPut (gTurn (mTh τ) s p q r d (-1) 1000) (tn s) p q r d) (3 * nI (sTurn (mTh τ) s p q r d))))
     else mFail τ 2)
  else mFail τ 1
theorem nP_turn (τ : Mem) (s p q r d t : Int32) (n k : Nat) : nP (gTurn τ s p q r d t n) k = nP τ k := by simp [nP, gTurn]
theorem MI_turn {τ : Mem} (h : MI τ) (s p q r d t : Int32) (n : Nat) : MI (gTurn τ s p q r d t n) := by
  have h0 : ∀ i, i ≠ 1 → gTurn τ s p q r d t n i = τ i := fun i hi => by funext k; simp [gTurn, hi]
  refine ⟨?_, ?_, ?_, ?_, ?_, ?_⟩
  · rw [h0 0 (by decide)]; exact h.1
  · rw [h0 0 (by decide)]; exact h.2.1
  · rw [h0 0 (by decide)]; exact h.2.2.1
  · rw [h0 0 (by decide)]; exact h.2.2.2.1
  · rw [h0 0 (by decide)]; exact h.2.2.2.2.1
  · rw [h0 4 (by decide)]; exact h.2.2.2.2.2
theorem pidx {s n : Nat} {x : Int32} (h : x = nI n) : 5 * (17 * nI s + x) = nI (5 * (17 * s + n)) := by
  rw [h, show (17 : Int32) = nI 17 by decide, show (5 : Int32) = nI 5 by decide, nI_mul', nI_add, nI_mul']
/-- another rough -/
def gCells (τ : Mem) (n : Nat) : Mem := fun i k => if i = 1 ∧ k < n then (if sCell τ (kx k) (ky k) (kz k) = true then 0 else -1) else τ i k
def gBegin (τ : Mem) (c r l : Int32) : Mem :=
  upd2 (upd2 (upd2 (upd2 (upd2 (gCells (upd2 (upd2 (upd2 τ 0 1 c) 0 2 r) 0 3 l) 1000) 0 5 0) 0 7 1) 4 0 0) 0 10 400) 0 11 0
theorem gCells_0 {τ : Mem} : gCells τ 0 = τ := by funext i k; simp [gCells]
theorem gCells_c (τ : Mem) (n : Nat) (x y z : Int32) : sCell (gCells τ n) x y z = sCell τ x y z := by simp [sCell, gCells]
theorem gCells_s {τ : Mem} {n : Nat} {v : Int32} (h : v = if sCell τ (kx n) (ky n) (kz n) = true then 0 else -1) : upd2 (gCells τ n) 1 n v = gCells τ (n + 1) := by
  subst h
  funext i k
  unfold upd2 gCells
  by_cases hi : i = 1
  · subst hi
    by_cases hk : k = n
    · subst hk; simp
    · simp only [hk, if_true, if_false, true_and]
      by_cases h2 : k < n
      · simp [h2, show k < n + 1 by omega]
      · simp [h2, show ¬ k < n + 1 by omega]
  · simp [hi]
def mTake (τ : Mem) (c r l : Int32) : Int32 × Mem := if sIn c 1 10 = true ∧ sIn r 1 10 = true ∧ sIn l 1 10 = true then (c * r * l, gBegin (mTh τ) c r l) else mFail τ 1
/-- a flaw told: its five numbers behind the others -/
def gFlaw (τ : Mem) (x y z ra se : Int32) : Mem := fun i j => if i = 2 then (if 5 * nF τ ≤ j ∧ j < 5 * nF τ + 5 then gRow5 x y z ra se (j - 5 * nF τ) else τ 2 j) else if i = 0 ∧ j = 5 then τ 0 5 + 1 else τ i j
def mFlaw (τ : Mem) (x y z ra se : Int32) : Int32 × Mem :=
  if sCell (mTh τ) x y z = true then
    (if sIn ra 0 3 = true ∧ sIn se 1 9 = true then (if (mTh τ) 0 5 = 10 then mFail τ 3 else ((mTh τ) 0 5, gFlaw (mTh τ) x y z ra se)) else mFail τ 2)
  else mFail τ 1
theorem fidx {n : Nat} {x : Int32} (h : x = nI n) : 5 * x = nI (5 * n) := by rw [h, show (5 : Int32) = nI 5 by decide, nI_mul']
/-- what is looked at: a cut by marks, the plane put behind, and all taken back -/
def gMark (τ : Mem) (s : Nat) (p q r d : Int32) : Mem := gPut (gTurn τ (nI s) p q r d (-2) 1000) s p q r d
def sLook (τ : Mem) (s : Nat) (p q r d : Int32) (w : Nat) : Int32 :=
  if w = 0 then nI (sTurn τ (nI s) p q r d) else if w = 1 then sWorth (gMark τ s p q r d) s else if w = 2 then nI (sFin (gMark τ s p q r d) (nI s) 1) else nI (sPairs (gMark τ s p q r d) s)
/-- behind it: only the place behind the stone's planes has changed -/
def gLook (τ : Mem) (s : Nat) (p q r d : Int32) : Mem := fun i j => if i = 3 ∧ 5 * (17 * s + nP τ s) ≤ j ∧ j < 5 * (17 * s + nP τ s) + 5 then gRow5 p q r d 0 (j - 5 * (17 * s + nP τ s)) else τ i j
theorem MI_mark {τ : Mem} (h : MI τ) {s : Nat} (hs : s < 8) (hp : nP τ s ≤ 16) (p q r d : Int32) : MI (gMark τ s p q r d) := by
  have h1 := MI_turn h (nI s) p q r d (-2) 1000
  have h0 : ∀ j, gMark τ s p q r d 0 j = τ 0 j := fun j => by simp [gMark, gPut, gTurn]
  refine ⟨?_, ?_, ?_, ?_, ?_, ?_⟩
  · rw [h0]; exact h.1
  · rw [h0]; exact h.2.1
  · rw [h0]; exact h.2.2.1
  · rw [h0]; exact h.2.2.2.1
  · rw [h0]; exact h.2.2.2.2.1
  · intro a ha
    by_cases e : a = s
    · subst e
      refine ⟨nP τ a + 1, by omega, ?_⟩
      have := (MI_P h ha).1
      rw [nI_succ, ← this]
      simp [gMark, gPut, gTurn]
    · obtain ⟨m, hm, he⟩ := h.2.2.2.2.2 a ha
      exact ⟨m, hm, by simp [gMark, gPut, gTurn, e, he]⟩
theorem look_back {τ : Mem} (hM : MI τ) (hN : NM τ) {s : Nat} (hs : s < 8) (p q r d : Int32) : gBack (upd2 (gMark τ s p q r d) 4 s (gMark τ s p q r d 4 s - 1)) (nI s) 1000 = gLook τ s p q r d := by
  funext i k
  have hb := congrFun (congrFun (back_turn hN (nI s) p q r d) i) k
  by_cases hi : i = 1
  · subst hi
    simp only [gBack, upd2, gMark, gPut, gLook] at hb ⊢
    simpa using hb
  · by_cases h3 : i = 3
    · subst h3
      simp [gBack, upd2, gMark, gPut, gLook, nP_turn, gTurn]
    · by_cases h4 : i = 4
      · subst h4
        by_cases hk : k = s
        · subst hk
          have h1 : τ 4 k + 1 - 1 = τ 4 k := by rw [(MI_P hM hs).1, nI_1, nI_pred]
          simp [gBack, upd2, gMark, gPut, gLook, gTurn, h1]
        · simp [gBack, upd2, gMark, gPut, gLook, gTurn, hk]
      · simp [gBack, upd2, gMark, gPut, gLook, gTurn, hi, h3, h4]
def mWould (τ : Mem) (s p q r d w : Int32) : Int32 × Mem :=
  if sStone (mTh τ) s = true ∧ sIn w 0 3 = true then (if sTilt p q r d = true then (sLook (mTh τ) (tn s) p q r d (tn w), gLook (mTh τ) (tn s) p q r d) else mFail τ 2) else mFail τ 1
/-- every stone keeps 16 planes at most -/
def M16 (τ : Mem) : Prop := ∀ s, s < 8 → nP τ s ≤ 16
theorem M16_th {τ : Mem} (h : M16 τ) : M16 (mTh τ) := fun s hs => by
  have : nP (mTh τ) s = nP τ s := by unfold nP mTh; rw [upd2_ni (by decide)]
  rw [this]; exact h s hs
