/-! the times -/
set_option maxRecDepth 100000 in
set_option maxHeartbeats 4000000 in
theorem lw_54 {l : Launch} {X : gC} {A : Nat → Nat} {b L : Nat} {xs : Nat → Int32} (hst : l.stackTraces = false) (hL : uL X b L xs) (hLs : L < 2 ^ 31) {qs C R Lz qr qf qp F js jf : Nat} {ff : Nat → Option Nat} {sv : Nat → Int32} (hEnd : ∀ (k n : Nat) (ls : List (Option Value)) (es : va_W) (σ : Mem), uOk l wX X A es cL_law "GemCutLaw" 10 600074 7301550 → k ≤ 600074 → n ≤ 7301550 → G (wU wX es) (uX wX X A es) k n 1455 ls [] σ) : ∀ (m i kc nc : Nat) (es : va_W) (σ t : Mem) (dr : Int32), i + m = 12 → RS σ t → lI t C R Lz F sv dr → es[js]? = some (qs, .inr (6, [.ref qr, .ref qf, .ref qp, .int 400, .int 0])) → es[jf]? = some (qf, .inl (zY X 5, F, .inr (.inr (.inr (.inr ff))))) → (∀ j, j < F → ∃ (a i5 : Nat) (g5 : Nat → Int32), ff j = some a ∧ es[i5]? = some (a, .inl (zY X 0, 5, .inl g5)) ∧ g5 4 = sv j) → kc + 4500 * m ≤ 600074 ∧ nc + 27000 * m ≤ 7301550 → uOk l wX X A es cL_law "GemCutLaw" 10 600074 7301550 → G (wU wX es) (uX wX X A es) kc nc 54 [some (.ref b), some (.ref (A 0)), some (.ref qs), some (.int (nI C)), some (.int (nI R)), some (.int (nI Lz)), some (.int dr), some (.int (nI i)), none, none, none, none, none, none, none, none, none, none, none, none, none, none, none, none, none, none, none, none, none, none, none, none] [] σ := by
  intro m
  induction m with
  | zero =>
    intro i kc nc es σ t dr hk hR hI hsim hfa hrow hf hC
    obtain rfl : i = 12 := by omega
    refine g_ild7 hC dL_law_54 ?_
    refine g_bipush 12 hC dL_law_56 (by decide) ?_
    refine g_icmp_ge 1455 hC dL_law_58 (by decide) (fun c58 => ?_) (fun c58 => absurd (by decide) c58)
    exact hEnd _ _ _ es σ hC (by omega) (by omega)
  | succ m ih =>
    intro i kc nc es σ t dr hk hR hI hsim hfa hrow hf hC
    have hCb : 1 ≤ C ∧ C ≤ 10 := by
      have h9 := (MI_C hR.1).1.2
      rw [hI.2.1] at h9
      exact h9
    refine g_ild7 hC dL_law_54 ?_
    refine g_bipush 12 hC dL_law_56 (by decide) ?_
    refine g_icmp_ge 1455 hC dL_law_58 (by decide) (fun c58 => absurd c58 (nI_ge (b := 12) (by omega) (by decide))) (fun c58 => ?_)
    refine lw_61 hst hL hLs hR hI.1 (by omega) hCb ⟨by omega, by omega⟩ hC ?_
    intro q f x j σ hj ht hR hC
    have hq : (es ++ ([(q, .inl (zY X 0, 4, .inl f))] : va_W))[es.length]? = some (q, .inl (zY X 0, 4, .inl f)) := get_end' rfl
    have hsim : (es ++ ([(q, .inl (zY X 0, 4, .inl f))] : va_W))[js]? = some (qs, .inr (6, [.ref qr, .ref qf, .ref qp, .int 400, .int 0])) := ge_app hsim _
    have hfa : (es ++ ([(q, .inl (zY X 0, 4, .inl f))] : va_W))[jf]? = some (qf, .inl (zY X 5, F, .inr (.inr (.inr (.inr ff))))) := ge_app hfa _
    have hrow : ∀ j, j < F → ∃ (a i5 : Nat) (g5 : Nat → Int32), ff j = some a ∧ (es ++ ([(q, .inl (zY X 0, 4, .inl f))] : va_W))[i5]? = some (a, .inl (zY X 0, 5, .inl g5)) ∧ g5 4 = sv j := fun j hj => by
      obtain ⟨a, i5, g5, h1, h2, h3⟩ := hrow j hj
      exact ⟨a, i5, g5, h1, ge_app h2 _, h3⟩
    generalize hes : es ++ ([(q, .inl (zY X 0, 4, .inl f))] : va_W) = es1 at hC hq hsim hfa hrow ⊢
    clear hes
    refine lw_103 hst hL hLs hR hI.1 hq hj ht ⟨by omega, by omega⟩ hC ?_
    intro σ hR
    refine lw_243 hst hL hLs hR hI.1 hq hj ht ⟨by omega, by omega⟩ hC ?_
    intro σ hR
    refine lw_318 hst hL hLs hR hI.1 hq hj ht hI ⟨by omega, by omega⟩ hC ?_
    intro σ t1 dr1 hR hI hS
    refine lw_697 hst hL hLs hR hI.1 (j := j) (by omega) hI ⟨by omega, by omega⟩ hC ?_
    intro σ t2 hR hI
    refine lw_870 hst hL hLs hR hI.1 hI.2.1 hI.2.2.1 hI.2.2.2.1 ⟨by omega, by omega⟩ hC ?_
    intro qw σ g hR hg hC
    have hw : (es1 ++ ([(qw, .inl (zY X 0, 8, .inl g))] : va_W))[es1.length]? = some (qw, .inl (zY X 0, 8, .inl g)) := get_end' rfl
    have hsim : (es1 ++ ([(qw, .inl (zY X 0, 8, .inl g))] : va_W))[js]? = some (qs, .inr (6, [.ref qr, .ref qf, .ref qp, .int 400, .int 0])) := ge_app hsim _
    have hfa : (es1 ++ ([(qw, .inl (zY X 0, 8, .inl g))] : va_W))[jf]? = some (qf, .inl (zY X 5, F, .inr (.inr (.inr (.inr ff))))) := ge_app hfa _
    have hrow : ∀ j, j < F → ∃ (a i5 : Nat) (g5 : Nat → Int32), ff j = some a ∧ (es1 ++ ([(qw, .inl (zY X 0, 8, .inl g))] : va_W))[i5]? = some (a, .inl (zY X 0, 5, .inl g5)) ∧ g5 4 = sv j := fun j hj => by
      obtain ⟨a, i5, g5, h1, h2, h3⟩ := hrow j hj
      exact ⟨a, i5, g5, h1, ge_app h2 _, h3⟩
    generalize hes : es1 ++ ([(qw, .inl (zY X 0, 8, .inl g))] : va_W) = es2 at hC hw hsim hfa hrow ⊢
    clear hes
    refine lw_967 hst hL hLs hR hI.1 hw hg hsim hfa hrow hI.2.2.2.2.1 hI.2.2.2.2.2.1 ⟨by omega, by omega⟩ hC ?_
    intro σ hR
    refine lw_1406 hst hL hLs hR hI.1 hI.2.1 hI.2.2.1 hI.2.2.2.1 ⟨by omega, by omega⟩ hC ?_
    intro σ hR
    exact ih (i + 1) _ _ es2 σ t2 dr1 (by omega) hR hI hsim hfa hrow ⟨by omega, by omega⟩ hC
