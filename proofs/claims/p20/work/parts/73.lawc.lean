/-! the weights -/
def cz (t : Mem) (x y j z : Nat) : Nat := cnt (fun z => t 1 (x + 10 * (y + 10 * z)) == nI j) z
def cyS (t : Mem) (x j y : Nat) : Nat := sumN (fun y => cz t x y j (nL t)) y
theorem wSum_s (t : Mem) (j x : Nat) : wSum t j (x + 1) = wSum t j x + cyS t x j (nR t) := rfl
theorem m1_lt {a : Nat} (h : a < 2 ^ 31) : (-1 : Int32) < nI a := Int32.lt_of_lt_of_le (by decide) (nI_pos' h)
theorem m1_nlt {a : Nat} (h : a < 2 ^ 31) : ¬ nI a < (-1 : Int32) := fun h9 => Int32.lt_irrefl (Int32.lt_trans h9 (m1_lt h))
set_option maxRecDepth 100000 in
set_option maxHeartbeats 4000000 in
theorem lw_898 {l : Launch} {X : gC} {A : Nat → Nat} {b L : Nat} {xs : Nat → Int32} (hst : l.stackTraces = false) (hL : uL X b L xs) (hLs : L < 2 ^ 31) {es : va_W} {t : Mem} (h0 : t 0 0 = 0) {qs C R Lz i : Nat} {dr : Int32} (eC : nC t = C) (eR : nR t = R) (eL : nL t = Lz) {n qw : Nat} (hlen : es.length = n) {x y : Nat} (hx : x < nC t) (hy : y < nR t) {V : Nat → Nat} {k9 n9 : Nat} (hb : k9 ≤ 600074 ∧ n9 ≤ 7301550) (kk : ∀ (σ1 : Mem) (g : Nat → Int32), RS σ1 t → (∀ j, j < 8 → g j = nI (V j + cz t x y j (nL t))) → uOk l wX X A (es ++ [(qw, .inl (zY X 0, 8, .inl g))]) cL_law "GemCutLaw" 10 600074 7301550 → G (wU wX (es ++ [(qw, .inl (zY X 0, 8, .inl g))])) (uX wX X A (es ++ [(qw, .inl (zY X 0, 8, .inl g))])) k9 n9 955 [some (.ref b), some (.ref (A 0)), some (.ref qs), some (.int (nI C)), some (.int (nI R)), some (.int (nI Lz)), some (.int dr), some (.int (nI i)), none, none, none, none, none, none, none, none, none, none, none, none, none, some (.ref qw), some (.int (nI x)), some (.int (nI y)), none, none, none, none, none, none, none, none] [] σ1) : ∀ (m z kc nc : Nat) (g : Nat → Int32) (σ : Mem), z + m = nL t → RS σ t → (∀ j, j < 8 → g j = nI (V j + cz t x y j z)) → kc + 2 * m ≤ k9 ∧ nc + 12 * m ≤ n9 → uOk l wX X A (es ++ [(qw, .inl (zY X 0, 8, .inl g))]) cL_law "GemCutLaw" 10 600074 7301550 → G (wU wX (es ++ [(qw, .inl (zY X 0, 8, .inl g))])) (uX wX X A (es ++ [(qw, .inl (zY X 0, 8, .inl g))])) kc nc 898 [some (.ref b), some (.ref (A 0)), some (.ref qs), some (.int (nI C)), some (.int (nI R)), some (.int (nI Lz)), some (.int dr), some (.int (nI i)), none, none, none, none, none, none, none, none, none, none, none, none, none, some (.ref qw), some (.int (nI x)), some (.int (nI y)), some (.int (nI z)), none, none, none, none, none, none, none] [] σ := by
  intro m
  induction m with
  | zero =>
    intro z kc nc g σ hz hR hg hf hC
    obtain ⟨⟨-, c1, c2⟩, ⟨-, r1, r2⟩, ⟨-, l1, l2⟩⟩ := MI_C hR.1
    obtain rfl : z = nL t := by omega
    refine g_ild24 hC dL_law_898 ?_
    refine g_ild5 hC dL_law_900 ?_
    refine g_icmp_ge 955 hC dL_law_902 (by decide) (fun c902 => ?_) (fun c902 => absurd (nI_le (by omega) (by omega)) c902)
    refine g_keep [true, true, true, true, true, true, true, true, false, false, false, false, false, false, false, false, false, false, false, false, false, true, true, true, false, false, false, false, false, false, false, false] ?_
    refine g_widen (k1 := k9) (n1 := n9) (by omega) (by omega) ?_
    exact kk σ g hR hg hC
  | succ m ih =>
    intro z kc nc g σ hz hR hg hf hC
    obtain ⟨⟨-, c1, c2⟩, ⟨-, r1, r2⟩, ⟨-, l1, l2⟩⟩ := MI_C hR.1
    have hS9 := MI_S hR.1
    have e2 : sCt t 2 = nI (nS t) := hS9.1
    have hz9 : z < nL t := by omega
    refine g_ild24 hC dL_law_898 ?_
    refine g_ild5 hC dL_law_900 ?_
    refine g_icmp_ge 955 hC dL_law_902 (by decide) (fun c902 => absurd c902 (nI_ge (by omega) (by omega))) (fun c902 => ?_)
    refine g_ald1 hC dL_law_905 ?_
    refine g_ild22 hC dL_law_906 ?_
    refine g_ild23 hC dL_law_908 ?_
    refine g_ild24 hC dL_law_910 ?_
    refine x_cell x y z hst hC hL hR h0 hx hy hz9 tw_2_30 dL_law_912 (by decide) ⟨by omega, by omega⟩ (Nat.le_of_ble_eq_true rfl) ?_
    intro σ hR
    rcases fx_own hR.1 hR.2.1 (k := x + 10 * (y + 10 * z)) (by omega) with ev | ⟨a, ha, ev⟩
    · rw [ev]
      refine g_ist25 hC dL_law_915 rfl ?_
      refine g_ild25 hC dL_law_917 ?_
      refine g_iconst (-1) hC dL_law_919 (by decide) ?_
      refine g_icmp_lt 933 hC dL_law_920 (by decide) (fun c920 => absurd c920 (by decide)) (fun c920 => ?_)
      refine g_ild25 hC dL_law_923 ?_
      refine g_ald1 hC dL_law_925 ?_
      refine g_iconst 2 hC dL_law_926 (by decide) ?_
      refine x_count 2 hst hC hL hR h0 (by decide) (by decide) tw_3_52 dL_law_927 (by decide) ⟨by omega, by omega⟩ (Nat.le_of_ble_eq_true rfl) ?_
      intro σ hR
      rw [e2]
      refine g_icmp_lt 935 hC dL_law_930 (by decide) (fun c930 => ?_) (fun c930 => absurd (m1_lt (by omega)) c930)
      refine g_ild25 hC dL_law_935 ?_
      refine g_if_lt 949 hC dL_law_937 (by decide) (fun c937 => ?_) (fun c937 => absurd (by decide) c937)
      refine g_inc24 1 hC dL_law_949 (by decide) rfl ?_
      refine g_goto 898 hC dL_law_952 (by decide) ?_
      refine g_keep [true, true, true, true, true, true, true, true, false, false, false, false, false, false, false, false, false, false, false, false, false, true, true, true, true, false, false, false, false, false, false, false] ?_
      rw [nI_1]
      refine ih (z + 1) _ _ g σ (by omega) hR (fun j hj => ?_) ⟨by omega, by omega⟩ hC
      rw [hg j hj]
      have : cz t x y j (z + 1) = cz t x y j z := cnt_f (by rw [ev]; exact beq_eq_false_iff_ne.mpr (fx_m1 (by omega)))
      rw [this]
    · rw [ev]
      refine g_ist25 hC dL_law_915 rfl ?_
      refine g_ild25 hC dL_law_917 ?_
      refine g_iconst (-1) hC dL_law_919 (by decide) ?_
      refine g_icmp_lt 933 hC dL_law_920 (by decide) (fun c920 => absurd c920 (m1_nlt (by omega))) (fun c920 => ?_)
      refine g_ild25 hC dL_law_923 ?_
      refine g_ald1 hC dL_law_925 ?_
      refine g_iconst 2 hC dL_law_926 (by decide) ?_
      refine x_count 2 hst hC hL hR h0 (by decide) (by decide) tw_3_52 dL_law_927 (by decide) ⟨by omega, by omega⟩ (Nat.le_of_ble_eq_true rfl) ?_
      intro σ hR
      rw [e2]
      refine g_icmp_lt 935 hC dL_law_930 (by decide) (fun c930 => ?_) (fun c930 => absurd (nI_lt ha (by omega)) c930)
      refine g_ild25 hC dL_law_935 ?_
      refine g_if_lt 949 hC dL_law_937 (by decide) (fun c937 => absurd c937 (nI_pos (by omega))) (fun c937 => ?_)
      refine g_ald21 hC dL_law_940 ?_
      refine g_ild25 hC dL_law_942 ?_
      refine g_dup2 hC dL_law_944 rfl rfl ?_
      refine u_iald (j := n) a hC (get_end' hlen) rfl (by omega) (by decide) dL_law_945 ?_
      refine g_iconst 1 hC dL_law_946 (by decide) ?_
      refine g_iadd hC dL_law_947 ?_
      refine u_iast (j := n) a hC (get_end' hlen) rfl (by omega) (by decide) dL_law_948 ?_
      rw [set_end' hlen]
      intro hC
      refine g_inc24 1 hC dL_law_949 (by decide) rfl ?_
      refine g_goto 898 hC dL_law_952 (by decide) ?_
      refine g_keep [true, true, true, true, true, true, true, true, false, false, false, false, false, false, false, false, false, false, false, false, false, true, true, true, true, false, false, false, false, false, false, false] ?_
      rw [nI_1]
      refine ih (z + 1) _ _ (upd g a (g a + 1)) σ (by omega) hR (fun j hj => ?_) ⟨by omega, by omega⟩ hC
      by_cases h9 : j = a
      · subst h9
        have : cz t x y j (z + 1) = cz t x y j z + 1 := cnt_t (by rw [ev]; exact beq_self_eq_true _)
        rw [this, ← Nat.add_assoc, ← nI_1, ← hg j hj]
        exact upd_at g j _
      · have : cz t x y j (z + 1) = cz t x y j z := cnt_f (by rw [ev]; exact beq_eq_false_iff_ne.mpr (fx_ne (by omega) (by omega) (fun h => h9 h.symm)))
        rw [this, ← hg j hj]
        exact upd_ne g _ h9
set_option maxRecDepth 100000 in
set_option maxHeartbeats 4000000 in
theorem lw_888 {l : Launch} {X : gC} {A : Nat → Nat} {b L : Nat} {xs : Nat → Int32} (hst : l.stackTraces = false) (hL : uL X b L xs) (hLs : L < 2 ^ 31) {es : va_W} {t : Mem} (h0 : t 0 0 = 0) {qs C R Lz i : Nat} {dr : Int32} (eC : nC t = C) (eR : nR t = R) (eL : nL t = Lz) {n qw : Nat} (hlen : es.length = n) {x : Nat} (hx : x < nC t) {V : Nat → Nat} {k9 n9 : Nat} (hb : k9 ≤ 600074 ∧ n9 ≤ 7301550) (kk : ∀ (σ1 : Mem) (g : Nat → Int32), RS σ1 t → (∀ j, j < 8 → g j = nI (V j + cyS t x j (nR t))) → uOk l wX X A (es ++ [(qw, .inl (zY X 0, 8, .inl g))]) cL_law "GemCutLaw" 10 600074 7301550 → G (wU wX (es ++ [(qw, .inl (zY X 0, 8, .inl g))])) (uX wX X A (es ++ [(qw, .inl (zY X 0, 8, .inl g))])) k9 n9 961 [some (.ref b), some (.ref (A 0)), some (.ref qs), some (.int (nI C)), some (.int (nI R)), some (.int (nI Lz)), some (.int dr), some (.int (nI i)), none, none, none, none, none, none, none, none, none, none, none, none, none, some (.ref qw), some (.int (nI x)), none, none, none, none, none, none, none, none, none] [] σ1) : ∀ (m y kc nc : Nat) (g : Nat → Int32) (σ : Mem), y + m = nR t → RS σ t → (∀ j, j < 8 → g j = nI (V j + cyS t x j y)) → kc + 20 * m ≤ k9 ∧ nc + 120 * m ≤ n9 → uOk l wX X A (es ++ [(qw, .inl (zY X 0, 8, .inl g))]) cL_law "GemCutLaw" 10 600074 7301550 → G (wU wX (es ++ [(qw, .inl (zY X 0, 8, .inl g))])) (uX wX X A (es ++ [(qw, .inl (zY X 0, 8, .inl g))])) kc nc 888 [some (.ref b), some (.ref (A 0)), some (.ref qs), some (.int (nI C)), some (.int (nI R)), some (.int (nI Lz)), some (.int dr), some (.int (nI i)), none, none, none, none, none, none, none, none, none, none, none, none, none, some (.ref qw), some (.int (nI x)), some (.int (nI y)), none, none, none, none, none, none, none, none] [] σ := by
  intro m
  induction m with
  | zero =>
    intro y kc nc g σ hy hR hg hf hC
    obtain ⟨⟨-, c1, c2⟩, ⟨-, r1, r2⟩, ⟨-, l1, l2⟩⟩ := MI_C hR.1
    obtain rfl : y = nR t := by omega
    refine g_ild23 hC dL_law_888 ?_
    refine g_ild4 hC dL_law_890 ?_
    refine g_icmp_ge 961 hC dL_law_892 (by decide) (fun c892 => ?_) (fun c892 => absurd (nI_le (by omega) (by omega)) c892)
    refine g_keep [true, true, true, true, true, true, true, true, false, false, false, false, false, false, false, false, false, false, false, false, false, true, true, false, false, false, false, false, false, false, false, false] ?_
    refine g_widen (k1 := k9) (n1 := n9) (by omega) (by omega) ?_
    exact kk σ g hR hg hC
  | succ m ih =>
    intro y kc nc g σ hy hR hg hf hC
    obtain ⟨⟨-, c1, c2⟩, ⟨-, r1, r2⟩, ⟨-, l1, l2⟩⟩ := MI_C hR.1
    have hy9 : y < nR t := by omega
    refine g_ild23 hC dL_law_888 ?_
    refine g_ild4 hC dL_law_890 ?_
    refine g_icmp_ge 961 hC dL_law_892 (by decide) (fun c892 => absurd c892 (nI_ge (by omega) (by omega))) (fun c892 => ?_)
    refine g_iconst 0 hC dL_law_895 (by decide) ?_
    refine g_ist24 hC dL_law_896 rfl ?_
    refine lw_898 (V := fun j => V j + cyS t x j y) (k9 := kc + 20) (n9 := nc + 120) hst hL hLs h0 eC eR eL hlen hx hy9 ⟨by omega, by omega⟩ ?_ (nL t) 0 kc nc g σ (by omega) hR (fun j hj => hg j hj) ⟨by omega, by omega⟩ hC
    intro σ g hR hg hC
    have hg : ∀ j, j < 8 → g j = nI (V j + cyS t x j (y + 1)) := fun j hj => by rw [hg j hj, Nat.add_assoc]; rfl
    refine g_inc23 1 hC dL_law_955 (by decide) rfl ?_
    refine g_goto 888 hC dL_law_958 (by decide) ?_
    rw [nI_1]
    exact ih (y + 1) _ _ g σ (by omega) hR hg ⟨by omega, by omega⟩ hC
set_option maxRecDepth 100000 in
set_option maxHeartbeats 4000000 in
theorem lw_879 {l : Launch} {X : gC} {A : Nat → Nat} {b L : Nat} {xs : Nat → Int32} (hst : l.stackTraces = false) (hL : uL X b L xs) (hLs : L < 2 ^ 31) {es : va_W} {t : Mem} (h0 : t 0 0 = 0) {qs C R Lz i : Nat} {dr : Int32} (eC : nC t = C) (eR : nR t = R) (eL : nL t = Lz) {n qw : Nat} (hlen : es.length = n) {k9 n9 : Nat} (hb : k9 ≤ 600074 ∧ n9 ≤ 7301550) (kk : ∀ (σ1 : Mem) (g : Nat → Int32), RS σ1 t → (∀ j, j < 8 → g j = nI (sWt t (nI j))) → uOk l wX X A (es ++ [(qw, .inl (zY X 0, 8, .inl g))]) cL_law "GemCutLaw" 10 600074 7301550 → G (wU wX (es ++ [(qw, .inl (zY X 0, 8, .inl g))])) (uX wX X A (es ++ [(qw, .inl (zY X 0, 8, .inl g))])) k9 n9 967 [some (.ref b), some (.ref (A 0)), some (.ref qs), some (.int (nI C)), some (.int (nI R)), some (.int (nI Lz)), some (.int dr), some (.int (nI i)), none, none, none, none, none, none, none, none, none, none, none, none, none, some (.ref qw), none, none, none, none, none, none, none, none, none, none] [] σ1) : ∀ (m x kc nc : Nat) (g : Nat → Int32) (σ : Mem), x + m = nC t → RS σ t → (∀ j, j < 8 → g j = nI (wSum t j x)) → kc + 200 * m ≤ k9 ∧ nc + 1200 * m ≤ n9 → uOk l wX X A (es ++ [(qw, .inl (zY X 0, 8, .inl g))]) cL_law "GemCutLaw" 10 600074 7301550 → G (wU wX (es ++ [(qw, .inl (zY X 0, 8, .inl g))])) (uX wX X A (es ++ [(qw, .inl (zY X 0, 8, .inl g))])) kc nc 879 [some (.ref b), some (.ref (A 0)), some (.ref qs), some (.int (nI C)), some (.int (nI R)), some (.int (nI Lz)), some (.int dr), some (.int (nI i)), none, none, none, none, none, none, none, none, none, none, none, none, none, some (.ref qw), some (.int (nI x)), none, none, none, none, none, none, none, none, none] [] σ := by
  intro m
  induction m with
  | zero =>
    intro x kc nc g σ hx hR hg hf hC
    obtain ⟨⟨-, c1, c2⟩, ⟨-, r1, r2⟩, ⟨-, l1, l2⟩⟩ := MI_C hR.1
    obtain rfl : x = nC t := by omega
    refine g_ild22 hC dL_law_879 ?_
    refine g_ild3 hC dL_law_881 ?_
    refine g_icmp_ge 967 hC dL_law_882 (by decide) (fun c882 => ?_) (fun c882 => absurd (nI_le (by omega) (by omega)) c882)
    refine g_keep [true, true, true, true, true, true, true, true, false, false, false, false, false, false, false, false, false, false, false, false, false, true, false, false, false, false, false, false, false, false, false, false] ?_
    refine g_widen (k1 := k9) (n1 := n9) (by omega) (by omega) ?_
    exact kk σ g hR (fun j hj => by rw [hg j hj, fx_wts hR.1 hR.2.1 hj]) hC
  | succ m ih =>
    intro x kc nc g σ hx hR hg hf hC
    obtain ⟨⟨-, c1, c2⟩, ⟨-, r1, r2⟩, ⟨-, l1, l2⟩⟩ := MI_C hR.1
    have hx9 : x < nC t := by omega
    refine g_ild22 hC dL_law_879 ?_
    refine g_ild3 hC dL_law_881 ?_
    refine g_icmp_ge 967 hC dL_law_882 (by decide) (fun c882 => absurd c882 (nI_ge (by omega) (by omega))) (fun c882 => ?_)
    refine g_iconst 0 hC dL_law_885 (by decide) ?_
    refine g_ist23 hC dL_law_886 rfl ?_
    refine lw_888 (V := fun j => wSum t j x) (k9 := kc + 200) (n9 := nc + 1200) hst hL hLs h0 eC eR eL hlen hx9 ⟨by omega, by omega⟩ ?_ (nR t) 0 kc nc g σ (by omega) hR (fun j hj => hg j hj) ⟨by omega, by omega⟩ hC
    intro σ g hR hg hC
    have hg : ∀ j, j < 8 → g j = nI (wSum t j (x + 1)) := hg
    refine g_inc22 1 hC dL_law_961 (by decide) rfl ?_
    refine g_goto 879 hC dL_law_964 (by decide) ?_
    rw [nI_1]
    exact ih (x + 1) _ _ g σ (by omega) hR hg ⟨by omega, by omega⟩ hC
set_option maxRecDepth 100000 in
set_option maxHeartbeats 4000000 in
theorem lw_870 {l : Launch} {X : gC} {A : Nat → Nat} {b L : Nat} {xs : Nat → Int32} (hst : l.stackTraces = false) (hL : uL X b L xs) (hLs : L < 2 ^ 31) {es : va_W} {kc nc : Nat} {σ t : Mem} (hR : RS σ t) (h0 : t 0 0 = 0) {qs C R Lz i : Nat} {dr : Int32} (eC : nC t = C) (eR : nR t = R) (eL : nL t = Lz) (hf : kc + 2001 ≤ 600074 ∧ nc + 12008 ≤ 7301550) (hC : uOk l wX X A es cL_law "GemCutLaw" 10 600074 7301550) (kk : ∀ (qw : Nat) (σ1 : Mem) (g : Nat → Int32), RS σ1 t → (∀ j, j < 8 → g j = nI (sWt t (nI j))) → uOk l wX X A (es ++ [(qw, .inl (zY X 0, 8, .inl g))]) cL_law "GemCutLaw" 10 600074 7301550 → G (wU wX (es ++ [(qw, .inl (zY X 0, 8, .inl g))])) (uX wX X A (es ++ [(qw, .inl (zY X 0, 8, .inl g))])) (kc + 2001) (nc + 12008) 967 [some (.ref b), some (.ref (A 0)), some (.ref qs), some (.int (nI C)), some (.int (nI R)), some (.int (nI Lz)), some (.int dr), some (.int (nI i)), none, none, none, none, none, none, none, none, none, none, none, none, none, some (.ref qw), none, none, none, none, none, none, none, none, none, none] [] σ1) : G (wU wX es) (uX wX X A es) kc nc 870 [some (.ref b), some (.ref (A 0)), some (.ref qs), some (.int (nI C)), some (.int (nI R)), some (.int (nI Lz)), some (.int dr), some (.int (nI i)), none, none, none, none, none, none, none, none, none, none, none, none, none, none, none, none, none, none, none, none, none, none, none, none] [] σ := by
  have hM := hR.1
  obtain ⟨⟨-, c1, c2⟩, ⟨-, r1, r2⟩, ⟨-, l1, l2⟩⟩ := MI_C hM
  refine g_bipush 8 hC dL_law_870 (by decide) ?_
  refine u_newa (t0 := 0) (N' := 8) (ty := .int) .int hC tw_1_57 rfl (fun _ => rfl) (fun _ => rfl) (fun _ _ => rfl) (by decide) (by decide) (by decide) ⟨by omega, by omega⟩ dL_law_872 ?_
  intro qw hC
  refine g_ast21 hC dL_law_874 rfl ?_
  refine g_iconst 0 hC dL_law_876 (by decide) ?_
  refine g_ist22 hC dL_law_877 rfl ?_
  exact lw_879 (k9 := kc + 2001) (n9 := nc + 12008) hst hL hLs h0 eC eR eL rfl ⟨by omega, by omega⟩ (kk qw) (nC t) 0 _ _ (fun _ => 0) σ (by omega) hR (fun j hj => rfl) ⟨by omega, by omega⟩ hC
