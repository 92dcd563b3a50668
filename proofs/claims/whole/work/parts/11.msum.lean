/-- the answer of stone, by what is asked -/
def pSf (τ : Mem) (s : Int32) (k : Nat) : Bool := τ 1 k == s && sSurf τ k
def sSt (τ : Mem) (s w : Nat) : Int32 :=
  if w = 0 then nI (sWt τ (nI s)) else if w = 1 then τ 4 s else if w = 2 then nI (sFacets τ s false) else if w = 3 then nI (sFacets τ s true)
  else if w = 4 then nI (sPairs τ s) else if w = 5 then nI (sFin τ (nI s) 1) else if w = 6 then nI (sFin τ (nI s) 0) else if w = 7 then sWorth τ s else nI (cnt (pSf τ (nI s)) 1000)
def sCtv (τ : Mem) (w : Nat) (s : Nat) : Int32 := if w = 1 then nI (sWt τ (nI s)) else if w = 6 then sWorth τ s else b2i (decide (0 < nI (sWt τ (nI s))))
def sCt (τ : Mem) (w : Nat) : Int32 :=
  if w = 0 then τ 0 1 * τ 0 2 * τ 0 3 else if w = 2 then τ 0 7 else if w = 4 then τ 0 5 else if w = 5 then τ 0 10 else if w = 7 then τ 0 11
  else sumI (sCtv τ w) (nS τ)
def sTilt (p q r d : Int32) : Bool := sIn p (-3) 3 && sIn q (-3) 3 && sIn r (-3) 3 && (!(p == 0) || !(q == 0) || !(r == 0)) && sIn d (-100) 100
def gSpend (τ : Mem) (v : Int32) : Mem := upd2 (upd2 τ 0 10 (τ 0 10 - v)) 0 11 (τ 0 11 + v)
/-- what 'end' has found among the first cells: the best height, and whether there was none yet -/
def sEndS (τ : Mem) (s : Int32) (C : Nat → Bool) (p q r : Int32) (g : Bool) : Nat → Int32 × Bool
  | 0 => (0, true)
  | k + 1 => if (τ 1 k == s && C k) = true then (if ((sEndS τ s C p q r g k).2 || (decide ((sEndS τ s C p q r g k).1 < sHgt k p q r) == g)) = true then (sHgt k p q r, false) else ((sEndS τ s C p q r g k).1, false)) else sEndS τ s C p q r g k
def sEC (τ : Mem) (f : Option Nat) (k : Nat) : Bool := match f with
  | none => true
  | some f => sFlawed τ f k
def sEnd (τ : Mem) (s : Int32) (f : Option Nat) (p q r : Int32) (g : Bool) : Int32 := (sEndS τ s (sEC τ f) p q r g 1000).1
def oI (f : Option Nat) : Int32 := match f with
  | none => -1
  | some f => nI f
theorem MI_th {τ : Mem} (h : MI τ) (v : Int32) : MI (upd2 τ 0 0 v) := by
  refine ⟨?_, ?_, ?_, ?_, ?_, ?_⟩
  · rw [upd2_nj (by decide)]; exact h.1
  · rw [upd2_nj (by decide)]; exact h.2.1
  · rw [upd2_nj (by decide)]; exact h.2.2.1
  · rw [upd2_nj (by decide)]; exact h.2.2.2.1
  · rw [upd2_nj (by decide)]; exact h.2.2.2.2.1
  · intro s hs; rw [upd2_ni (by decide)]; exact h.2.2.2.2.2 s hs
theorem sPlane_nI {τ : Mem} {s k : Int32} (hM : MI τ) (h : sPlane τ s k = true) : ∃ a b, a < 8 ∧ a < nS τ ∧ b < nP τ a ∧ b < 17 ∧ s = nI a ∧ k = nI b ∧ s.toNatClampNeg = a ∧ k.toNatClampNeg = b := by
  simp only [sPlane, Bool.and_eq_true] at h
  obtain ⟨j, hj, rfl⟩ := sStone_nI hM h.1
  have hc : (nI j).toNatClampNeg = j := nI_clamp (by omega)
  obtain ⟨e1, e2⟩ := MI_P hM hj
  rw [hc, e1] at h
  have h1 := h.1
  rw [sStone, (MI_S hM).1] at h1
  obtain ⟨j2, e5, e6⟩ := (sIn_nI (MI_S hM).2.1 (by have := (MI_S hM).2.2; omega)).mp h1
  have : j = j2 := nI_inj (by omega) (by have := (MI_S hM).2.2; omega) e6
  subst this
  rcases Nat.lt_or_ge (nP τ j) 1 with q | q
  · exfalso
    have h3 : nP τ j = 0 := by omega
    have h4 := h.2
    rw [h3] at h4
    simp only [sIn, Bool.and_eq_true, decide_eq_true_iff] at h4
    have h5 := Int32.le_trans h4.1 h4.2
    exact absurd h5 (by decide)
  · obtain ⟨m, hm, rfl⟩ := (sIn_nI q (by omega)).mp h.2
    exact ⟨j, m, hj, e5, hm, by omega, rfl, rfl, hc, nI_clamp (by omega)⟩
theorem sStone_at {τ : Mem} {s : Int32} (hM : MI τ) (h : sStone τ s = true) : ∃ a, a < 8 ∧ a < nS τ ∧ s = nI a ∧ s.toNatClampNeg = a := by
  rw [sStone, (MI_S hM).1] at h
  obtain ⟨j, e5, rfl⟩ := (sIn_nI (MI_S hM).2.1 (by have := (MI_S hM).2.2; omega)).mp h
  exact ⟨j, by have := (MI_S hM).2.2; omega, e5, rfl, nI_clamp (by have := (MI_S hM).2.2; omega)⟩
theorem sIn_at {v hi : Int32} {n : Nat} (hh : hi = nI n) (hn : n < 1000) (h : sIn v 0 hi = true) : ∃ a, a ≤ n ∧ v = nI a ∧ v.toNatClampNeg = a := by
  have h1 : sIn v 0 (nI (n + 1) - 1) = true := by rw [nI_pred, ← hh]; exact h
  obtain ⟨j, e5, rfl⟩ := (sIn_nI (by omega) (by omega)).mp h1
  exact ⟨j, by omega, rfl, nI_clamp (by omega)⟩
theorem sFlaw_at {τ : Mem} {f : Int32} (hM : MI τ) (h : sIn f 0 (τ 0 5 - 1) = true) : ∃ a, a < 10 ∧ a < nF τ ∧ f = nI a ∧ f.toNatClampNeg = a := by
  obtain ⟨e1, e2⟩ := MI_F hM
  rw [e1] at h
  rcases Nat.lt_or_ge (nF τ) 1 with q | q
  · exfalso
    rw [show nF τ = 0 by omega] at h
    simp only [sIn, Bool.and_eq_true, decide_eq_true_iff] at h
    exact absurd (Int32.le_trans h.1 h.2) (by decide)
  · obtain ⟨m, hm, rfl⟩ := (sIn_nI q (by omega)).mp h
    exact ⟨m, by omega, hm, rfl, nI_clamp (by omega)⟩

set_option maxRecDepth 100000 in
set_option maxHeartbeats 4000000 in
/-- X6_pairs -/
theorem c_X6_pairs (l : Launch) (s : Nat) : gMI wM l yX6_pairs (.code yX6_pairs cX6_pairs 7 (some FieldType.int)) 3 0 0 (fun A => [.ref (A 0), .int (nI s)]) (fun τ => s < 8 ∧ MI τ) (fun τ rr τ1 => rr = nI (sPairs τ s) ∧ τ1 = τ) := by
  refine gMI_of (by decide) (fun A => Nat.le_of_ble_eq_true rfl) ?_
  intro X τ hC hP hE
  have hC : gOk wM l X cX6_pairs "GemCutModel" 3 0 0 := hC
  show G wM X 0 0 0 [some (.ref (gA X 0)), some (.int (nI s)), none, none, none, none, none] [] τ
  obtain ⟨hm, hm2⟩ := MI_P hP.2 hP.1
  have hs := hP.1
  have lpa : ∀ (m a : Nat), a + m = nP τ s → G wM X 0 0 4 [some (.ref (gA X 0)), some (.int (nI s)), some (.int (nI (sumN (fun a => cnt (pPair τ s a) a) a))), some (.int (nI a)), none, none, none] [] τ := by
    intro m
    induction m with
    | zero =>
      intro a ha
      have ha : a = nP τ s := by omega
      subst ha
      refine g_ild3 hC dX6_pairs_4 ?_
      refine g_ald0 hC dX6_pairs_5 ?_
      refine mg_Model_many hC tw_4_31 dX6_pairs_6 ?_
      refine g_ild1 hC dX6_pairs_9 ?_
      refine ml_many s hC rfl hP.1 dX6_pairs_10 ?_
      refine g_icmp_ge 118 hC dX6_pairs_11 (by decide) (fun c11 => ?_) (fun c11 => absurd (by rw [hm]; exact nI_le (by omega) (by omega)) c11)
      refine g_ild2 hC dX6_pairs_118 ?_
      exact hE _ _ _ _ _ _ dX6_pairs_119 (Nat.le_refl _) (Nat.le_refl _) ⟨by rfl, rfl⟩
    | succ m iha =>
      intro a ha
      have lpb : ∀ (m b : Nat), b + m = a → G wM X 0 0 17 [some (.ref (gA X 0)), some (.int (nI s)), some (.int (nI (sumN (fun a => cnt (pPair τ s a) a) a + cnt (pPair τ s a) b))), some (.int (nI a)), some (.int (nI b)), none, none] [] τ := by
        intro m
        induction m with
        | zero =>
          intro b hb
          have hb : a = b := by omega
          subst hb
          refine g_ild4 hC dX6_pairs_17 ?_
          refine g_ild3 hC dX6_pairs_19 ?_
          refine g_icmp_ge 112 hC dX6_pairs_20 (by decide) (fun c20 => ?_) (fun c20 => absurd (nI_le (by omega) (by omega)) c20)
          refine g_inc3 1 hC dX6_pairs_112 (by decide) rfl ?_
          refine g_goto 4 hC dX6_pairs_115 (by decide) ?_
          rw [nI_1, show sumN (fun a => cnt (pPair τ s a) a) a + cnt (pPair τ s a) a = sumN (fun a => cnt (pPair τ s a) a) (a + 1) from rfl]
          refine g_keep [true, true, true, true, false, false, false] ?_
          exact iha (a + 1) (by omega)
        | succ m ihb =>
          intro b hb
          have lpw : ∀ (m w : Nat), w + m = 3 → G wM X 0 0 29 [some (.ref (gA X 0)), some (.int (nI s)), some (.int (nI (sumN (fun a => cnt (pPair τ s a) a) a + cnt (pPair τ s a) b))), some (.int (nI a)), some (.int (nI b)), some (.int (b2i (sOpp τ s a b w))), some (.int (nI w))] [] τ := by
            intro m
            induction m with
            | zero =>
              intro w hw
              have hw : w = 3 := by omega
              subst hw
              refine g_ild6 hC dX6_pairs_29 ?_
              refine g_iconst 2 hC dX6_pairs_31 (by decide) ?_
              refine g_icmp_gt 74 hC dX6_pairs_32 (by decide) (fun c32 => ?_) (fun c32 => absurd (lit_lt (show (2 : Int32) = nI 2 by decide) (by omega) (by omega)) c32)
              refine g_ild2 hC dX6_pairs_74 ?_
              refine g_ild5 hC dX6_pairs_75 ?_
              refine g_if_eq 103 hC dX6_pairs_77 (by decide) (fun c77 => ?_) (fun c77 => ?_)
              · refine g_iconst 0 hC dX6_pairs_103 (by decide) ?_
                refine g_iadd hC dX6_pairs_104 ?_
                refine g_ist2 hC dX6_pairs_105 rfl ?_
                refine g_inc4 1 hC dX6_pairs_106 (by decide) rfl ?_
                refine g_goto 17 hC dX6_pairs_109 (by decide) ?_
                (try simp only [b2i_eq0, Bool.not_eq_false, Int32.not_le, Int32.not_lt, Int32.zero_sub] at c32 c77)
                first
                | (rw [show nI (sumN (fun a => cnt (pPair τ s a) a) a + cnt (pPair τ s a) b) + 1 = nI (sumN (fun a => cnt (pPair τ s a) a) a + cnt (pPair τ s a) (b + 1)) by rw [cnt_t (P := pPair τ s a) (by simp [pPair, c32, c77]), ← Nat.add_assoc, nI_succ], nI_1]
                   refine g_keep [true, true, true, true, true, false, false] ?_
                   exact ihb (b + 1) (by omega))
                | (rw [show nI (sumN (fun a => cnt (pPair τ s a) a) a + cnt (pPair τ s a) b) + 0 = nI (sumN (fun a => cnt (pPair τ s a) a) a + cnt (pPair τ s a) (b + 1)) by rw [cnt_f (P := pPair τ s a) (by simp [pPair, c32, c77]), Int32.add_zero], nI_1]
                   refine g_keep [true, true, true, true, true, false, false] ?_
                   exact ihb (b + 1) (by omega))
              · refine g_ald0 hC dX6_pairs_80 ?_
                refine g_ild1 hC dX6_pairs_81 ?_
                refine g_ild3 hC dX6_pairs_82 ?_
                refine k_X6_isFacet (s := s) (k := a) hC tw_4_185 dX6_pairs_83 (by decide) ⟨by omega, by omega⟩ (Nat.le_of_ble_eq_true rfl) ⟨by omega, by omega⟩ ?_
                refine g_if_eq 103 hC dX6_pairs_86 (by decide) (fun c86 => ?_) (fun c86 => ?_)
                · refine g_iconst 0 hC dX6_pairs_103 (by decide) ?_
                  refine g_iadd hC dX6_pairs_104 ?_
                  refine g_ist2 hC dX6_pairs_105 rfl ?_
                  refine g_inc4 1 hC dX6_pairs_106 (by decide) rfl ?_
                  refine g_goto 17 hC dX6_pairs_109 (by decide) ?_
                  (try simp only [b2i_eq0, Bool.not_eq_false, Int32.not_le, Int32.not_lt, Int32.zero_sub] at c32 c77 c86)
                  first
                  | (rw [show nI (sumN (fun a => cnt (pPair τ s a) a) a + cnt (pPair τ s a) b) + 1 = nI (sumN (fun a => cnt (pPair τ s a) a) a + cnt (pPair τ s a) (b + 1)) by rw [cnt_t (P := pPair τ s a) (by simp [pPair, c32, c77, c86]), ← Nat.add_assoc, nI_succ], nI_1]
                     refine g_keep [true, true, true, true, true, false, false] ?_
                     exact ihb (b + 1) (by omega))
                  | (rw [show nI (sumN (fun a => cnt (pPair τ s a) a) a + cnt (pPair τ s a) b) + 0 = nI (sumN (fun a => cnt (pPair τ s a) a) a + cnt (pPair τ s a) (b + 1)) by rw [cnt_f (P := pPair τ s a) (by simp [pPair, c32, c77, c86]), Int32.add_zero], nI_1]
                     refine g_keep [true, true, true, true, true, false, false] ?_
                     exact ihb (b + 1) (by omega))
                · refine g_ald0 hC dX6_pairs_89 ?_
                  refine g_ild1 hC dX6_pairs_90 ?_
                  refine g_ild4 hC dX6_pairs_91 ?_
                  refine k_X6_isFacet (s := s) (k := b) hC tw_4_185 dX6_pairs_93 (by decide) ⟨by omega, by omega⟩ (Nat.le_of_ble_eq_true rfl) ⟨by omega, by omega⟩ ?_
                  refine g_if_eq 103 hC dX6_pairs_96 (by decide) (fun c96 => ?_) (fun c96 => ?_)
                  · refine g_iconst 0 hC dX6_pairs_103 (by decide) ?_
                    refine g_iadd hC dX6_pairs_104 ?_
                    refine g_ist2 hC dX6_pairs_105 rfl ?_
                    refine g_inc4 1 hC dX6_pairs_106 (by decide) rfl ?_
                    refine g_goto 17 hC dX6_pairs_109 (by decide) ?_
                    (try simp only [b2i_eq0, Bool.not_eq_false, Int32.not_le, Int32.not_lt, Int32.zero_sub] at c32 c77 c86 c96)
                    first
                    | (rw [show nI (sumN (fun a => cnt (pPair τ s a) a) a + cnt (pPair τ s a) b) + 1 = nI (sumN (fun a => cnt (pPair τ s a) a) a + cnt (pPair τ s a) (b + 1)) by rw [cnt_t (P := pPair τ s a) (by simp [pPair, c32, c77, c86, c96]), ← Nat.add_assoc, nI_succ], nI_1]
                       refine g_keep [true, true, true, true, true, false, false] ?_
                       exact ihb (b + 1) (by omega))
                    | (rw [show nI (sumN (fun a => cnt (pPair τ s a) a) a + cnt (pPair τ s a) b) + 0 = nI (sumN (fun a => cnt (pPair τ s a) a) a + cnt (pPair τ s a) (b + 1)) by rw [cnt_f (P := pPair τ s a) (by simp [pPair, c32, c77, c86, c96]), Int32.add_zero], nI_1]
                       refine g_keep [true, true, true, true, true, false, false] ?_
                       exact ihb (b + 1) (by omega))
                  · refine g_iconst 1 hC dX6_pairs_99 (by decide) ?_
                    refine g_goto 104 hC dX6_pairs_100 (by decide) ?_
                    refine g_iadd hC dX6_pairs_104 ?_
                    refine g_ist2 hC dX6_pairs_105 rfl ?_
                    refine g_inc4 1 hC dX6_pairs_106 (by decide) rfl ?_
                    refine g_goto 17 hC dX6_pairs_109 (by decide) ?_
                    (try simp only [b2i_eq0, Bool.not_eq_false, Int32.not_le, Int32.not_lt, Int32.zero_sub] at c32 c77 c86 c96)
                    first
                    | (rw [show nI (sumN (fun a => cnt (pPair τ s a) a) a + cnt (pPair τ s a) b) + 1 = nI (sumN (fun a => cnt (pPair τ s a) a) a + cnt (pPair τ s a) (b + 1)) by rw [cnt_t (P := pPair τ s a) (by simp [pPair, c32, c77, c86, c96]), ← Nat.add_assoc, nI_succ], nI_1]
                       refine g_keep [true, true, true, true, true, false, false] ?_
                       exact ihb (b + 1) (by omega))
                    | (rw [show nI (sumN (fun a => cnt (pPair τ s a) a) a + cnt (pPair τ s a) b) + 0 = nI (sumN (fun a => cnt (pPair τ s a) a) a + cnt (pPair τ s a) (b + 1)) by rw [cnt_f (P := pPair τ s a) (by simp [pPair, c32, c77, c86, c96]), Int32.add_zero], nI_1]
                       refine g_keep [true, true, true, true, true, false, false] ?_
                       exact ihb (b + 1) (by omega))
            | succ m ihw =>
              intro w hw
              refine g_ild6 hC dX6_pairs_29 ?_
              refine g_iconst 2 hC dX6_pairs_31 (by decide) ?_
              refine g_icmp_gt 74 hC dX6_pairs_32 (by decide) (fun c32 => absurd c32 (lit_nlt (show (2 : Int32) = nI 2 by decide) (by omega) (by omega))) (fun c32 => ?_)
              refine g_ild5 hC dX6_pairs_35 ?_
              refine g_if_eq 65 hC dX6_pairs_37 (by decide) (fun c37 => ?_) (fun c37 => ?_)
              · refine g_iconst 0 hC dX6_pairs_65 (by decide) ?_
                refine g_ist5 hC dX6_pairs_66 rfl ?_
                refine g_inc6 1 hC dX6_pairs_68 (by decide) rfl ?_
                refine g_goto 29 hC dX6_pairs_71 (by decide) ?_
                (try simp only [b2i_eq0, Bool.not_eq_false, Int32.not_le, Int32.not_lt, Int32.zero_sub] at c32 c37)
                have e1 : sOpp τ s a b (w + 1) = (sOpp τ s a b w && (sPl τ s a w == 0 - sPl τ s b w)) := rfl
                have e2 := ihw (w + 1) (by omega)
                rw [nI_1]
                first
                | (rw [show sOpp τ s a b (w + 1) = true by rw [e1]; simp [c32, c37]] at e2; exact e2)
                | (rw [show sOpp τ s a b (w + 1) = false by rw [e1]; simp [c32, c37]] at e2; exact e2)
              · refine g_ald0 hC dX6_pairs_40 ?_
                refine g_ild1 hC dX6_pairs_41 ?_
                refine g_ild3 hC dX6_pairs_42 ?_
                refine g_ild6 hC dX6_pairs_43 ?_
                refine k_X6_pl (s := s) (k := a) (w := w) hC tw_4_164 dX6_pairs_45 (by decide) ⟨by omega, by omega⟩ (Nat.le_of_ble_eq_true rfl) ⟨by omega, by omega, by omega⟩ ?_
                refine g_ald0 hC dX6_pairs_48 ?_
                refine g_ild1 hC dX6_pairs_49 ?_
                refine g_ild4 hC dX6_pairs_50 ?_
                refine g_ild6 hC dX6_pairs_52 ?_
                refine k_X6_pl (s := s) (k := b) (w := w) hC tw_4_164 dX6_pairs_54 (by decide) ⟨by omega, by omega⟩ (Nat.le_of_ble_eq_true rfl) ⟨by omega, by omega, by omega⟩ ?_
                refine g_ineg hC dX6_pairs_57 ?_
                refine g_icmp_ne 65 hC dX6_pairs_58 (by decide) (fun c58 => ?_) (fun c58 => ?_)
                · refine g_iconst 0 hC dX6_pairs_65 (by decide) ?_
                  refine g_ist5 hC dX6_pairs_66 rfl ?_
                  refine g_inc6 1 hC dX6_pairs_68 (by decide) rfl ?_
                  refine g_goto 29 hC dX6_pairs_71 (by decide) ?_
                  (try simp only [b2i_eq0, Bool.not_eq_false, Int32.not_le, Int32.not_lt, Int32.zero_sub] at c32 c37 c58)
                  have e1 : sOpp τ s a b (w + 1) = (sOpp τ s a b w && (sPl τ s a w == 0 - sPl τ s b w)) := rfl
                  have e2 := ihw (w + 1) (by omega)
                  rw [nI_1]
                  first
                  | (rw [show sOpp τ s a b (w + 1) = true by rw [e1]; simp [c32, c37, c58]] at e2; exact e2)
                  | (rw [show sOpp τ s a b (w + 1) = false by rw [e1]; simp [c32, c37, c58]] at e2; exact e2)
                · refine g_iconst 1 hC dX6_pairs_61 (by decide) ?_
                  refine g_goto 66 hC dX6_pairs_62 (by decide) ?_
                  refine g_ist5 hC dX6_pairs_66 rfl ?_
                  refine g_inc6 1 hC dX6_pairs_68 (by decide) rfl ?_
                  refine g_goto 29 hC dX6_pairs_71 (by decide) ?_
                  (try simp only [b2i_eq0, Bool.not_eq_false, Int32.not_le, Int32.not_lt, Int32.zero_sub] at c32 c37 c58)
                  have e1 : sOpp τ s a b (w + 1) = (sOpp τ s a b w && (sPl τ s a w == 0 - sPl τ s b w)) := rfl
                  have e2 := ihw (w + 1) (by omega)
                  rw [nI_1]
                  first
                  | (rw [show sOpp τ s a b (w + 1) = true by rw [e1]; simp [c32, c37, c58]] at e2; exact e2)
                  | (rw [show sOpp τ s a b (w + 1) = false by rw [e1]; simp [c32, c37, c58]] at e2; exact e2)
          refine g_ild4 hC dX6_pairs_17 ?_
          refine g_ild3 hC dX6_pairs_19 ?_
          refine g_icmp_ge 112 hC dX6_pairs_20 (by decide) (fun c20 => absurd c20 (nI_ge (by omega) (by omega))) (fun c20 => ?_)
          refine g_iconst 1 hC dX6_pairs_23 (by decide) ?_
          refine g_ist5 hC dX6_pairs_24 rfl ?_
          refine g_iconst 0 hC dX6_pairs_26 (by decide) ?_
          refine g_ist6 hC dX6_pairs_27 rfl ?_
          exact lpw 3 0 (by omega)
      refine g_ild3 hC dX6_pairs_4 ?_
      refine g_ald0 hC dX6_pairs_5 ?_
      refine mg_Model_many hC tw_4_31 dX6_pairs_6 ?_
      refine g_ild1 hC dX6_pairs_9 ?_
      refine ml_many s hC rfl hP.1 dX6_pairs_10 ?_
      refine g_icmp_ge 118 hC dX6_pairs_11 (by decide) (fun c11 => absurd c11 (by rw [hm]; exact nI_ge (by omega) (by omega))) (fun c11 => ?_)
      refine g_iconst 0 hC dX6_pairs_14 (by decide) ?_
      refine g_ist4 hC dX6_pairs_15 rfl ?_
      have h0 := lpb a 0 (by omega)
      exact h0
  refine g_iconst 0 hC dX6_pairs_0 (by decide) ?_
  refine g_ist2 hC dX6_pairs_1 rfl ?_
  refine g_iconst 0 hC dX6_pairs_2 (by decide) ?_
  refine g_ist3 hC dX6_pairs_3 rfl ?_
  exact lpa (nP τ s) 0 (by omega)
theorem k_X6_pairs {l : Launch} {X : gC} {cc : ByteArray} {own : String} {dd ca sa kc nc pc : Nat} {ls : List (Option Value)} {st : List Value} {σ : Mem} {idx : Nat} {s : Nat} (hC : gOk wM l X cc own dd ca sa) (hlk : Cond.methodLink own idx yX6_pairs ∈ TB) (hd : decode cc pc = .ok (.invokevirtual idx, 3)) (hdd : 3 + 1 ≤ dd) (hf : kc + 0 ≤ ca ∧ nc + 0 ≤ sa) (hrest : (st.map fun v => v.category).sum ≤ 8)  (hP : s < 8 ∧ MI σ) (kk : G wM X kc nc (pc + 3) ls (.int (nI (sPairs σ s)) :: st) (σ)) : G wM X kc nc pc ls (.int (nI s) :: .ref (gA X 0) :: st) σ := by
  exact g_cVI 1 hC (c_X6_pairs l s) hlk ⟨tw_4_191, tws_3_12, tw_1_7, tw_4_192⟩ (by decide +kernel) ⟨hdd, by decide⟩ hf rfl rfl rfl (gW_at wM _ _ (by decide)) hrest rfl hd hP (fun rr σ1 hq => by obtain ⟨rfl, rfl⟩ := hq; exact kk)
set_option maxRecDepth 100000 in
set_option maxHeartbeats 4000000 in
/-- X6_flawsIn -/
theorem c_X6_flawsIn (l : Launch) (s how : Int32) : gMI wM l yX6_flawsIn (.code yX6_flawsIn cX6_flawsIn 5 (some FieldType.int)) 6 0 0 (fun A => [.ref (A 0), .int s, .int how]) (fun τ => MI τ) (fun τ rr τ1 => rr = nI (sFin τ s how) ∧ τ1 = τ) := by
  refine gMI_of (by decide) (fun A => Nat.le_of_ble_eq_true rfl) ?_
  intro X τ hC hP hE
  have hC : gOk wM l X cX6_flawsIn "GemCutModel" 6 0 0 := hC
  show G wM X 0 0 0 [some (.ref (gA X 0)), some (.int s), some (.int how), none, none] [] τ
  obtain ⟨hm, hm2⟩ := MI_F hP
  have lp : ∀ (m f : Nat), f + m = nF τ → G wM X 0 0 5 [some (.ref (gA X 0)), some (.int s), some (.int how), some (.int (nI (cnt (pFin τ s how) f))), some (.int (nI f))] [] (τ) := by
    intro m
    induction m with
    | zero =>
      intro f hk 
      have hk : f = nF τ := by omega
      subst hk
      refine g_ild4 hC dX6_flawsIn_5 ?_
      refine g_ald0 hC dX6_flawsIn_7 ?_
      refine mg_Model_flaws hC tw_4_27 dX6_flawsIn_8 ?_
      refine g_icmp_ge 40 hC dX6_flawsIn_11 (by decide) (fun c11 => ?_) (fun c11 => absurd (by rw [hm]; exact nI_le (by omega) (by omega)) c11)
      refine g_ild3 hC dX6_flawsIn_40 ?_
      exact hE _ _ _ _ _ _ dX6_flawsIn_41 (Nat.le_refl _) (Nat.le_refl _) ⟨by rfl, rfl⟩
    | succ m ih =>
      intro f hk 
      refine g_ild4 hC dX6_flawsIn_5 ?_
      refine g_ald0 hC dX6_flawsIn_7 ?_
      refine mg_Model_flaws hC tw_4_27 dX6_flawsIn_8 ?_
      refine g_icmp_ge 40 hC dX6_flawsIn_11 (by decide) (fun c11 => absurd c11 (by rw [hm]; exact nI_ge (by omega) (by omega))) (fun c11 => ?_)
      refine g_ild3 hC dX6_flawsIn_14 ?_
      refine g_ald0 hC dX6_flawsIn_15 ?_
      refine g_ild4 hC dX6_flawsIn_16 ?_
      refine g_ild1 hC dX6_flawsIn_18 ?_
      refine g_iconst 2 hC dX6_flawsIn_19 (by decide) ?_
      refine k_X6_flawTold (f := f) (s := s) (w := 2) hC tw_4_93 dX6_flawsIn_20 (by decide) ⟨by omega, by omega⟩ (Nat.le_of_ble_eq_true rfl) ⟨by omega, hP⟩ ?_
      refine g_ild2 hC dX6_flawsIn_23 ?_
      refine g_icmp_ne 31 hC dX6_flawsIn_24 (by decide) (fun c24 => ?_) (fun c24 => ?_)
      · refine g_iconst 0 hC dX6_flawsIn_31 (by decide) ?_
        refine g_iadd hC dX6_flawsIn_32 ?_
        refine g_ist3 hC dX6_flawsIn_33 rfl ?_
        refine g_inc4 1 hC dX6_flawsIn_34 (by decide) rfl ?_
        refine g_goto 5 hC dX6_flawsIn_37 (by decide) ?_
        (try simp only [b2i_eq0, Bool.not_eq_false, Int32.not_le, Int32.not_lt, Int32.zero_sub] at c11 c24)
        first
        | (rw [cnt_s1 (P := pFin τ s how) (by simp [pFin, c11, c24]), nI_1]; exact ih (f + 1) (by omega))
        | (rw [cnt_s0 (P := pFin τ s how) (by simp [pFin, c11, c24]), nI_1]; exact ih (f + 1) (by omega))
      · refine g_iconst 1 hC dX6_flawsIn_27 (by decide) ?_
        refine g_goto 32 hC dX6_flawsIn_28 (by decide) ?_
        refine g_iadd hC dX6_flawsIn_32 ?_
        refine g_ist3 hC dX6_flawsIn_33 rfl ?_
        refine g_inc4 1 hC dX6_flawsIn_34 (by decide) rfl ?_
        refine g_goto 5 hC dX6_flawsIn_37 (by decide) ?_
        (try simp only [b2i_eq0, Bool.not_eq_false, Int32.not_le, Int32.not_lt, Int32.zero_sub] at c11 c24)
        first
        | (rw [cnt_s1 (P := pFin τ s how) (by simp [pFin, c11, c24]), nI_1]; exact ih (f + 1) (by omega))
        | (rw [cnt_s0 (P := pFin τ s how) (by simp [pFin, c11, c24]), nI_1]; exact ih (f + 1) (by omega))
  refine g_iconst 0 hC dX6_flawsIn_0 (by decide) ?_
  refine g_ist3 hC dX6_flawsIn_1 rfl ?_
  refine g_iconst 0 hC dX6_flawsIn_2 (by decide) ?_
  refine g_ist4 hC dX6_flawsIn_3 rfl ?_
  exact lp (nF τ) 0 (by omega)
theorem k_X6_flawsIn {l : Launch} {X : gC} {cc : ByteArray} {own : String} {dd ca sa kc nc pc : Nat} {ls : List (Option Value)} {st : List Value} {σ : Mem} {idx : Nat} {s how : Int32} (hC : gOk wM l X cc own dd ca sa) (hlk : Cond.methodLink own idx yX6_flawsIn ∈ TB) (hd : decode cc pc = .ok (.invokevirtual idx, 3)) (hdd : 6 + 1 ≤ dd) (hf : kc + 0 ≤ ca ∧ nc + 0 ≤ sa) (hrest : (st.map fun v => v.category).sum ≤ 8)  (hP : MI σ) (kk : G wM X kc nc (pc + 3) ls (.int (nI (sFin σ s how)) :: st) (σ)) : G wM X kc nc pc ls (.int how :: .int s :: .ref (gA X 0) :: st) σ := by
  exact g_cVI 2 hC (c_X6_flawsIn l s how) hlk ⟨tw_4_195, tws_3_13, tw_1_7, tw_4_196⟩ (by decide +kernel) ⟨hdd, by decide⟩ hf rfl rfl rfl (gW_at wM _ _ (by decide)) hrest rfl hd hP (fun rr σ1 hq => by obtain ⟨rfl, rfl⟩ := hq; exact kk)
set_option maxRecDepth 100000 in
set_option maxHeartbeats 4000000 in
/-- X6_worth -/
theorem c_X6_worth (l : Launch) (s : Nat) : gMI wM l yX6_worth (.code yX6_worth cX6_worth 6 (some FieldType.int)) 6 0 0 (fun A => [.ref (A 0), .int (nI s)]) (fun τ => s < 8 ∧ MI τ) (fun τ rr τ1 => rr = sWorth τ s ∧ τ1 = τ) := by
  refine gMI_of (by decide) (fun A => Nat.le_of_ble_eq_true rfl) ?_
  intro X τ hC hP hE
  have hC : gOk wM l X cX6_worth "GemCutModel" 6 0 0 := hC
  show G wM X 0 0 0 [some (.ref (gA X 0)), some (.int (nI s)), none, none, none, none] [] τ
  obtain ⟨hm, hm2⟩ := MI_F hP.2
  have lp : ∀ (m f : Nat), f + m = nF τ → ¬ nI (sWt τ (nI s)) = 0 → G wM X 0 0 17 [some (.ref (gA X 0)), some (.int (nI s)), some (.int (nI (sWt τ (nI s)))), some (.int (sPts τ (nI s) f)), some (.int (nI f)), none] [] (τ) := by
    intro m
    induction m with
    | zero =>
      intro f hk hw
      have hk : f = nF τ := by omega
      subst hk
      refine g_ild4 hC dX6_worth_17 ?_
      refine g_ald0 hC dX6_worth_19 ?_
      refine mg_Model_flaws hC tw_4_27 dX6_worth_20 ?_
      refine g_icmp_ge 82 hC dX6_worth_23 (by decide) (fun c23 => ?_) (fun c23 => absurd (by rw [hm]; exact nI_le (by omega) (by omega)) c23)
      refine g_ild2 hC dX6_worth_82 ?_
      refine g_ild2 hC dX6_worth_83 ?_
      refine g_imul hC dX6_worth_84 ?_
      refine g_bipush 10 hC dX6_worth_85 (by decide) ?_
      refine g_idiv hC dX6_worth_87 (by decide) ?_
      refine g_bipush 10 hC dX6_worth_88 (by decide) ?_
      refine g_ild2 hC dX6_worth_90 ?_
      refine g_imul hC dX6_worth_91 ?_
      refine g_iadd hC dX6_worth_92 ?_
      refine g_bipush 10 hC dX6_worth_93 (by decide) ?_
      refine g_bipush 100 hC dX6_worth_95 (by decide) ?_
      refine g_ild3 hC dX6_worth_97 ?_
      refine g_isub hC dX6_worth_98 ?_
      refine g_mmax hC (by first | assumption | omega | decide) tw_4_168 (Nat.le_of_ble_eq_true rfl) ⟨by omega, by omega⟩ dX6_worth_99 ?_
      refine g_imul hC dX6_worth_102 ?_
      refine g_bipush 100 hC dX6_worth_103 (by decide) ?_
      refine g_idiv hC dX6_worth_105 (by decide) ?_
      refine g_bipush 25 hC dX6_worth_106 (by decide) ?_
      refine g_ald0 hC dX6_worth_108 ?_
      refine g_ild1 hC dX6_worth_109 ?_
      refine g_iconst 1 hC dX6_worth_110 (by decide) ?_
      refine k_X6_facets (s := s) (po := true) hC tw_4_181 dX6_worth_111 (by decide) ⟨by omega, by omega⟩ (Nat.le_of_ble_eq_true rfl) hP ?_
      refine g_imul hC dX6_worth_114 ?_
      refine g_iadd hC dX6_worth_115 ?_
      refine g_bipush 40 hC dX6_worth_116 (by decide) ?_
      refine g_ald0 hC dX6_worth_118 ?_
      refine g_ild1 hC dX6_worth_119 ?_
      refine k_X6_pairs (s := s) hC tw_4_189 dX6_worth_120 (by decide) ⟨by omega, by omega⟩ (Nat.le_of_ble_eq_true rfl) hP ?_
      refine g_imul hC dX6_worth_123 ?_
      refine g_iadd hC dX6_worth_124 ?_
      exact hE _ _ _ _ _ _ dX6_worth_125 (Nat.le_refl _) (Nat.le_refl _) ⟨by rw [sWorth, if_neg hw]; rfl, rfl⟩
    | succ m ih =>
      intro f hk hw
      refine g_ild4 hC dX6_worth_17 ?_
      refine g_ald0 hC dX6_worth_19 ?_
      refine mg_Model_flaws hC tw_4_27 dX6_worth_20 ?_
      refine g_icmp_ge 82 hC dX6_worth_23 (by decide) (fun c23 => absurd c23 (by rw [hm]; exact nI_ge (by omega) (by omega))) (fun c23 => ?_)
      refine g_ald0 hC dX6_worth_26 ?_
      refine g_ild4 hC dX6_worth_27 ?_
      refine g_ild1 hC dX6_worth_29 ?_
      refine g_iconst 2 hC dX6_worth_30 (by decide) ?_
      refine k_X6_flawTold (f := f) (s := nI s) (w := 2) hC tw_4_93 dX6_worth_31 (by decide) ⟨by omega, by omega⟩ (Nat.le_of_ble_eq_true rfl) ⟨by omega, hP.2⟩ ?_
      refine g_ist5 hC dX6_worth_34 rfl ?_
      refine g_ild3 hC dX6_worth_36 ?_
      refine g_ild5 hC dX6_worth_37 ?_
      refine g_iconst 1 hC dX6_worth_39 (by decide) ?_
      refine g_icmp_ne 56 hC dX6_worth_40 (by decide) (fun c40 => ?_) (fun c40 => ?_)
      · refine g_ild5 hC dX6_worth_56 ?_
        refine g_if_ne 73 hC dX6_worth_58 (by decide) (fun c58 => ?_) (fun c58 => ?_)
        · refine g_iconst 0 hC dX6_worth_73 (by decide) ?_
          refine g_iadd hC dX6_worth_74 ?_
          refine g_ist3 hC dX6_worth_75 rfl ?_
          refine g_inc4 1 hC dX6_worth_76 (by decide) rfl ?_
          refine g_goto 17 hC dX6_worth_79 (by decide) ?_
          (try simp only [b2i_eq0, Bool.not_eq_false, Int32.not_le, Int32.not_lt, Int32.zero_sub] at c23 c40 c58)
          rw [nI_1]
          first
          | (rw [show sPts τ (nI s) f + 6 * sFl τ f 4 = sPts τ (nI s) (f + 1) by rw [sPts, sumI]; simp [c23, c40, c58]]; refine g_keep [true, true, true, true, true, false] ?_; exact ih (f + 1) (by omega) hw)
          | (rw [show sPts τ (nI s) f + 2 * sFl τ f 4 = sPts τ (nI s) (f + 1) by rw [sPts, sumI]; simp [c23, c40, c58]]; refine g_keep [true, true, true, true, true, false] ?_; exact ih (f + 1) (by omega) hw)
          | (rw [show sPts τ (nI s) f + 0 = sPts τ (nI s) (f + 1) by rw [sPts, sumI]; simp [c23, c40, c58]]; refine g_keep [true, true, true, true, true, false] ?_; exact ih (f + 1) (by omega) hw)
        · refine g_iconst 2 hC dX6_worth_61 (by decide) ?_
          refine g_ald0 hC dX6_worth_62 ?_
          refine g_ild4 hC dX6_worth_63 ?_
          refine g_iconst 4 hC dX6_worth_65 (by decide) ?_
          refine k_X6_fl (f := f) (w := 4) hC tw_4_105 dX6_worth_66 (by decide) ⟨by omega, by omega⟩ (Nat.le_of_ble_eq_true rfl) ⟨by omega, by omega⟩ ?_
          refine g_imul hC dX6_worth_69 ?_
          refine g_goto 74 hC dX6_worth_70 (by decide) ?_
          refine g_iadd hC dX6_worth_74 ?_
          refine g_ist3 hC dX6_worth_75 rfl ?_
          refine g_inc4 1 hC dX6_worth_76 (by decide) rfl ?_
          refine g_goto 17 hC dX6_worth_79 (by decide) ?_
          (try simp only [b2i_eq0, Bool.not_eq_false, Int32.not_le, Int32.not_lt, Int32.zero_sub] at c23 c40 c58)
          rw [nI_1]
          first
          | (rw [show sPts τ (nI s) f + 6 * sFl τ f 4 = sPts τ (nI s) (f + 1) by rw [sPts, sumI]; simp [c23, c40, c58]]; refine g_keep [true, true, true, true, true, false] ?_; exact ih (f + 1) (by omega) hw)
          | (rw [show sPts τ (nI s) f + 2 * sFl τ f 4 = sPts τ (nI s) (f + 1) by rw [sPts, sumI]; simp [c23, c40, c58]]; refine g_keep [true, true, true, true, true, false] ?_; exact ih (f + 1) (by omega) hw)
          | (rw [show sPts τ (nI s) f + 0 = sPts τ (nI s) (f + 1) by rw [sPts, sumI]; simp [c23, c40, c58]]; refine g_keep [true, true, true, true, true, false] ?_; exact ih (f + 1) (by omega) hw)
      · refine g_bipush 6 hC dX6_worth_43 (by decide) ?_
        refine g_ald0 hC dX6_worth_45 ?_
        refine g_ild4 hC dX6_worth_46 ?_
        refine g_iconst 4 hC dX6_worth_48 (by decide) ?_
        refine k_X6_fl (f := f) (w := 4) hC tw_4_105 dX6_worth_49 (by decide) ⟨by omega, by omega⟩ (Nat.le_of_ble_eq_true rfl) ⟨by omega, by omega⟩ ?_
        refine g_imul hC dX6_worth_52 ?_
        refine g_goto 74 hC dX6_worth_53 (by decide) ?_
        refine g_iadd hC dX6_worth_74 ?_
        refine g_ist3 hC dX6_worth_75 rfl ?_
        refine g_inc4 1 hC dX6_worth_76 (by decide) rfl ?_
        refine g_goto 17 hC dX6_worth_79 (by decide) ?_
        (try simp only [b2i_eq0, Bool.not_eq_false, Int32.not_le, Int32.not_lt, Int32.zero_sub] at c23 c40)
        rw [nI_1]
        first
        | (rw [show sPts τ (nI s) f + 6 * sFl τ f 4 = sPts τ (nI s) (f + 1) by rw [sPts, sumI]; simp [c23, c40]]; refine g_keep [true, true, true, true, true, false] ?_; exact ih (f + 1) (by omega) hw)
        | (rw [show sPts τ (nI s) f + 2 * sFl τ f 4 = sPts τ (nI s) (f + 1) by rw [sPts, sumI]; simp [c23, c40]]; refine g_keep [true, true, true, true, true, false] ?_; exact ih (f + 1) (by omega) hw)
        | (rw [show sPts τ (nI s) f + 0 = sPts τ (nI s) (f + 1) by rw [sPts, sumI]; simp [c23, c40]]; refine g_keep [true, true, true, true, true, false] ?_; exact ih (f + 1) (by omega) hw)
  refine g_ald0 hC dX6_worth_0 ?_
  refine g_ild1 hC dX6_worth_1 ?_
  refine k_X6_weight (s := nI s) hC tw_4_125 dX6_worth_2 (by decide) ⟨by omega, by omega⟩ (Nat.le_of_ble_eq_true rfl) ?_
  refine g_ist2 hC dX6_worth_5 rfl ?_
  refine g_ild2 hC dX6_worth_6 ?_
  refine g_if_ne 12 hC dX6_worth_7 (by decide) (fun c7 => ?_) (fun c7 => ?_)
  · refine g_iconst 0 hC dX6_worth_12 (by decide) ?_
    refine g_ist3 hC dX6_worth_13 rfl ?_
    refine g_iconst 0 hC dX6_worth_14 (by decide) ?_
    refine g_ist4 hC dX6_worth_15 rfl ?_
    exact lp (nF τ) 0 (by omega) c7
  · refine g_iconst 0 hC dX6_worth_10 (by decide) ?_
    exact hE _ _ _ _ _ _ dX6_worth_11 (Nat.le_refl _) (Nat.le_refl _) ⟨by rw [sWorth, if_pos c7], rfl⟩
theorem k_X6_worth {l : Launch} {X : gC} {cc : ByteArray} {own : String} {dd ca sa kc nc pc : Nat} {ls : List (Option Value)} {st : List Value} {σ : Mem} {idx : Nat} {s : Nat} (hC : gOk wM l X cc own dd ca sa) (hlk : Cond.methodLink own idx yX6_worth ∈ TB) (hd : decode cc pc = .ok (.invokevirtual idx, 3)) (hdd : 6 + 1 ≤ dd) (hf : kc + 0 ≤ ca ∧ nc + 0 ≤ sa) (hrest : (st.map fun v => v.category).sum ≤ 8)  (hP : s < 8 ∧ MI σ) (kk : G wM X kc nc (pc + 3) ls (.int (sWorth σ s) :: st) (σ)) : G wM X kc nc pc ls (.int (nI s) :: .ref (gA X 0) :: st) σ := by
  exact g_cVI 1 hC (c_X6_worth l s) hlk ⟨tw_4_199, tws_3_14, tw_1_7, tw_4_200⟩ (by decide +kernel) ⟨hdd, by decide⟩ hf rfl rfl rfl (gW_at wM _ _ (by decide)) hrest rfl hd hP (fun rr σ1 hq => by obtain ⟨rfl, rfl⟩ := hq; exact kk)
