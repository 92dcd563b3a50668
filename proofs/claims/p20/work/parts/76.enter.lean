section ZL
variable {l : Launch} {X : gC} {A : Nat → Nat} {n : Nat} {e : Nat → va_E} {cc : ByteArray} {own : String} {dd ca sa k m pc : Nat} {ls : List (Option Value)} {st : List Value}
/-- the cells counted in another order -/
theorem z_fin {Lw : gL} {A' : Nat → Nat} (g : Nat → Nat) (σ : Mem) (hg : ∀ i, i < Lw.1 → g i < n) (hi : ∀ i j, i < Lw.1 → j < Lw.1 → g i = g j → i = j) (hA' : ∀ i, i < Lw.1 → A' i = A (g i)) (he : ∀ i, i < Lw.1 → vEq (e (g i)) (Lw.2 ((gEv X).1, A', zY X) (σ i) i)) (hC : zOk l X A n cc own dd ca sa) (kk : gOk Lw l (sx X A') cc own dd ca sa → G Lw (sx X A') k m pc ls st σ) : G (pZ n e) (sx X A) k m pc ls st zM := by
  obtain ⟨p, l', e', R, s, mm, args, below, meth, c, nL, H0, Af, E, Q⟩ := X
  obtain ⟨hx, hb, hml, hown, hTB, hK, hD, hA, hR, hlocks, hl', hh0, hNs⟩ := hC e
  have ix : ∀ (σ' : Mem) (i : Nat) (q : Nat × va_E), (gW Lw (E.1, A', E.2.2) σ')[i]? = some q → i < Lw.1 ∧ q = (A' i, Lw.2 (E.1, A', E.2.2) (σ' i) i) := fun σ' i q hq => by
    have h1 : i < Lw.1 := by
      have := (List.getElem?_eq_some_iff.mp hq).1
      rwa [gW_len] at this
    rw [gW_at Lw (E.1, A', E.2.2) σ' h1] at hq
    exact ⟨h1, (Option.some.inj hq).symm⟩
  refine fun H locs arr hn hP hS hl => kk ⟨hx, hb, hml, hown, hTB, hK, fun σ' => ⟨fun i j p q hp hq hpq => ?_, fun i q hq => ?_⟩, hA, hR, hlocks, hl', hh0, hNs⟩ H locs arr hn (fun i q hq => ?_) hS hl
  · obtain ⟨h1, rfl⟩ := ix σ' i p hp
    obtain ⟨h2, rfl⟩ := ix σ' j q hq
    have h3 : A (g i) = A (g j) := by rw [← hA' i h1, ← hA' j h2]; exact hpq
    exact hi i j h1 h2 ((hD zM).1 (g i) (g j) _ _ (pW_at e E.1 A E.2.2 (hg i h1)) (pW_at e E.1 A E.2.2 (hg j h2)) h3)
  · obtain ⟨h1, rfl⟩ := ix σ' i q hq
    have h3 := (hD zM).2 (g i) _ (pW_at e E.1 A E.2.2 (hg i h1))
    show Af (A' i)
    rw [hA' i h1]; exact h3
  · obtain ⟨h1, rfl⟩ := ix σ i q hq
    have h3 := hP (g i) _ (pW_at e E.1 A E.2.2 (hg i h1))
    show va_at E.1 vwCl (A' i, Lw.2 (E.1, A', E.2.2) (σ i) i) H
    rw [hA' i h1]
    exact (he i h1).at h3
theorem z_callL {y : MethodName} {bytes : ByteArray} {maxL d mc ms ci nb idx a : Nat} {fs0 as rest : List Value} {Q : va_G → (Nat → ClassId) → (Nat → Nat) → (Nat → va_E) → Prop} (na : Nat) (hC : zOk l X A (n + 1) cc own dd ca sa) (hI : zO X) (hM : gKI l y (.code y bytes maxL none) d mc ms ci fs0 as nb Q) (ha : A n = a) (he : e n = .inr (ci, fs0)) (hw1 : Cond.methodLink own idx y ∈ TB) (hw2 : Cond.instanceMethod y ∈ TB ∧ Cond.initialized y.cls ∈ TB ∧ Cond.code y bytes maxL none ∈ TB) (hy1 : y.name = "<init>") (hy : y.cls ≠ "java/lang/invoke/MethodHandle" ∧ y.cls ≠ "java/lang/invoke/VarHandle" ∧ (parseMethodDescriptor y.desc).map (fun d => d.parameters.length) = some na) (hR9 : d + 1 ≤ dd ∧ maxL ≤ 21) (hf : k + mc ≤ ca ∧ m + ms ≤ sa) (hna : as.length = na) (hrest : (rest.map fun v => v.category).sum ≤ 8) (hst : st = as.reverse ++ .ref a :: rest) (hd : decode cc pc = .ok (.invokespecial idx, 3))
    (kk : ∀ (Ab : Nat → Nat) (eb : Nat → va_E), Ab 0 = a → Q (gEv X).1 (zY X) Ab eb → zOk l X (jA n A Ab) (n + nb) cc own dd ca sa → G (pZ (n + nb) (jE n e eb)) (sx X (jA n A Ab)) (k + mc) (m + ms) (pc + 3) ls rest zM) : G (pZ (n + 1) e) (sx X A) k m pc ls st zM := by
  subst ha
  obtain ⟨p, l', e', R, s, mm, args, below, meth, c, nL, H0, Af, E, Qs⟩ := X
  obtain ⟨hx, hb, hml, hown, hTB, hK, hD, hA, hR, hlocks, hl', hh0, hNs⟩ := hC e
  have hR : R = gR dd ca sa := hR
  subst hR
  have hl' : l' = l := hl'
  subst hl'
  have hI : gO s := hI
  have hRR : (gR d mc ms).frames + 1 ≤ (gR dd ca sa).frames ∧ 8 + (maxL + 11) + (gR d mc ms).locals ≤ (gR dd ca sa).locals := by
    refine ⟨hR9.1, ?_⟩
    show 8 + (maxL + 11) + 40 * d ≤ 40 * dd
    omega
  intro H locs arr hn hP hS hl
  have hat : (gW (pZ (n + 1) e) (E.1, A, E.2.2) zM)[n]? = some (A n, .inr (ci, fs0)) := by rw [pW_at e E.1 A E.2.2 (Nat.lt_succ_self n), he]
  have hs : [n].map (fun i => (gW (pZ (n + 1) e) (E.1, A, E.2.2) zM)[i]?) = [(A n, (.inr (ci, fs0) : va_E))].map some := by
    show [(gW (pZ (n + 1) e) (E.1, A, E.2.2) zM)[n]?] = _
    rw [hat]; rfl
  have hPc : va_P E.1 vwCl [(A n, .inr (ci, fs0))] H := hP.by (fun _ => n) (fun k2 q hk => by
    obtain rfl : k2 = 0 := by have := (List.getElem?_eq_some_iff.mp hk).1; simp at this; omega
    cases hk; exact hat)
  have hDc := (hD zM).sub (ws' := [(A n, .inr (ci, fs0))]) [n] rfl hs
  have hFc := va_free (wc := [(A n, .inr (ci, fs0))]) (hD zM) hS hA [n] hs
  refine va_callv (va_runI (As := as) (rest := rest) (b := A n) (Ts := TB) (own := own) ⟨hx, hb, hml, hown, hTB⟩ (hM E.1 E.2.2 (A n) H.size) (cwI na hTB (gi_cons hw2.2.2 gi_self) rfl rfl rfl (hTB _ hw2.2.1) (hTB _ hw1) (hTB _ hw2.1) hy1 hy hRR) ⟨fun a U g mk q => by obtain ⟨q0, q1, qP, qK, qD, qN, qO⟩ := q; exact ⟨q0, q1, qP, va_K.moved (u := U) (U := U.calling g mk a) (Vm.Alike.refl U.vm) qK, qD, gN.same (u := U) (U := U.calling g mk a) rfl qN, gO.moved (u := U) (U := U.calling g mk a) (Vm.Alike.refl U.vm) qO⟩, fun U hU hW => ⟨rfl, by rw [hU], by rw [hU]; exact hPc, va_K.moved hW.alike hK, hDc.weaken (fun _ _ _ _ => trivial), gN.warm hW hNs, gO.moved hW.alike hI⟩⟩ rfl hna hl.1 hst (lv_room hrest) hd hf) hS (fun q _ h => hFc q h) hFc (fun u t H1 locs1 ht hvm hw hB hz1 hk1 hS1 => ?_)
  have hB1 := hB.1
  rw [ht] at hB1
  obtain ⟨hP2, hD2⟩ := va_join (wr := gW (pZ n e) (E.1, A, E.2.2) zM) (w1 := gW (pZ nb u.2) (E.1, u.1, E.2.2) zM) hP (hD zM) [n] (List.range n) hs (by
    show _ = ((List.range n).map _).map some
    rw [List.map_map]
    exact List.map_congr_left (fun i hi => pW_at e E.1 A E.2.2 (Nat.lt_succ_of_lt (List.mem_range.mp hi)))) (nd_range n) (fun i hi => by have := List.mem_range.mp hi; simp; omega) hk1 hFc hB1 hB.2
  rw [← pW_app] at hP2 hD2
  exact kk u.1 u.2 hw.1 hw.2 (fun e2 => ⟨hx, hb, hml, hown, hTB, hK, fun σ => pD_e hD2, hA, rfl, hlocks, rfl, hh0, hNs⟩) H1 locs1 arr hn hP2 hS1 hl
end ZL
theorem xE_vE2 {D : va_G} {cy : Nat → ClassId} {A A' : Nat → Nat} (hA : ∀ i, i < 195 → A' i = A i) {i : Nat} (hi : i < 195) (ρ : Nat → Int32) (hp : i = 190 → (ρ 1).toNatClampNeg < 9) : vEq (xE (D, A, cy) ρ i) (xE (D, A', cy) ρ i) := by
  have h5 : xk i = 5 → i + 3 < 195 := fun h => by
    rcases Nat.lt_or_ge i 45 with q | q
    · omega
    · exfalso
      unfold xk at h
      rw [if_neg (by omega), if_neg (by omega)] at h
      split at h <;> (try split at h) <;> (try split at h) <;> (try split at h) <;> omega
  have h10 : xk i = 10 → i + 1 < 195 := fun h => by
    rcases Nat.lt_or_ge i 190 with q | q
    · omega
    · exfalso
      unfold xk at h
      rw [if_neg (by omega), if_neg (by omega), if_neg (by omega), if_neg (by omega)] at h
      split at h <;> omega
  have h11 : xk i = 11 → i + 17 < 195 := fun h => by
    unfold xk at h
    split at h
    · omega
    · split at h
      · omega
      · split at h
        · omega
        · split at h
          · split at h
            · omega
            · split at h <;> omega
          · split at h <;> omega
  have h13 : xk i = 13 → (ρ 1).toNatClampNeg < 9 := fun h => hp (by
    unfold xk at h
    split at h
    · omega
    · split at h
      · omega
      · split at h
        · omega
        · split at h
          · split at h
            · omega
            · split at h <;> omega
          · split at h <;> omega)
  unfold xE
  generalize hx : xk i = x at h5 h10 h11 h13
  match x, h5, h10, h11, h13 with
  | 0, _, _, _, _ => left; show (Sum.inr _ : va_E) = Sum.inr _; dsimp only; rw [hA 1 (by omega), hA 45 (by omega), hA 190 (by omega)]
  | 1, _, _, _, _ => left; show (Sum.inr _ : va_E) = Sum.inr _; dsimp only; rw [hA 2 (by omega), hA 3 (by omega), hA 4 (by omega)]
  | 2, _, _, _, _ => exact Or.inl rfl
  | 3, _, _, _, _ => exact Or.inl rfl
  | 4, _, _, _, _ => exact Or.inr ⟨cy 2, 10, _, _, rfl, rfl, fun j hj => congrArg some (hA (iFlaw j) (by unfold iFlaw; omega)).symm⟩
  | 5, h, _, _, _ => left; have := h rfl; show (Sum.inr _ : va_E) = Sum.inr _; dsimp only; rw [hA (i + 1) (by omega), hA (i + 2) (by omega), hA (i + 3) (by omega)]
  | 6, _, _, _, _ => exact Or.inl rfl
  | 7, _, _, _, _ => exact Or.inl rfl
  | 8, _, _, _, _ => exact Or.inl rfl
  | 9, _, _, _, _ => exact Or.inr ⟨cy 4, 8, _, _, rfl, rfl, fun j hj => congrArg some (hA (iStone j) (by unfold iStone; omega)).symm⟩
  | 10, _, h, _, _ => left; have := h rfl; show (Sum.inr _ : va_E) = Sum.inr _; dsimp only; rw [hA (i + 1) (by omega)]
  | 11, _, _, h, _ => have := h rfl; exact Or.inr ⟨cy 3, 16, _, _, rfl, rfl, fun j hj => congrArg some (hA (i + 1 + j) (by omega)).symm⟩
  | 12, _, _, _, _ => exact Or.inl rfl
  | 13, _, _, _, h => have := h rfl; left; show (Sum.inr _ : va_E) = Sum.inr _; dsimp only; rw [hA 1 (by omega), hA (iStone (ρ 1).toNatClampNeg) (by unfold iStone; omega), hA 191 (by omega), hA 192 (by omega), hA 193 (by omega), hA 194 (by omega)]
  | 14, _, _, _, _ => exact Or.inl rfl
  | 15, _, _, _, _ => exact Or.inl rfl
  | 16, _, _, _, _ => exact Or.inl rfl
  | x + 17, _, _, _, _ => exact Or.inl rfl
theorem vEq_tr {a b c : va_E} (h1 : vEq a b) (h2 : vEq b c) : vEq a c := by
  rcases h1 with rfl | ⟨cA, N, f, f', rfl, rfl, hf⟩
  · exact h2
  · rcases h2 with h2 | ⟨cA2, N2, g, g', e1, rfl, hg⟩
    · subst h2
      exact Or.inr ⟨cA, N, f, f', rfl, rfl, hf⟩
    · cases e1
      exact Or.inr ⟨cA, N, f, g', rfl, rfl, fun j hj => (hf j hj).trans (hg j hj)⟩
theorem xE_cut {D : va_G} {cy : Nat → ClassId} {A A' : Nat → Nat} {σ1 t : Mem} (hR : RS σ1 t) (hA : ∀ i, i < 195 → A' i = A i) (hT : ∀ i, 195 ≤ i → A i = A 190) : ∃ σ' : Mem, RS σ' t ∧ ∀ i, i < 195 → vEq (xE (D, A, cy) (σ1 i) i) (xE (D, A', cy) (σ' i) i) := by
  by_cases h : (σ1 190 1).toNatClampNeg < 9
  · exact ⟨σ1, hR, fun i hi => xE_vE2 hA hi _ (fun e => by subst e; exact h)⟩
  · refine ⟨upd2 σ1 190 1 8, RS_f9 hR (F9_up (F9.rf σ1) (by decide) 8), fun i hi => ?_⟩
    by_cases e : i = 190
    · subst e
      left
      show (.inr (4, [.ref (A 1), .ref (A (iStone (σ1 190 1).toNatClampNeg)), .ref (A 191), .ref (A 192), .ref (A 193), .ref (A 194)]) : va_E) = .inr (4, [.ref (A' 1), .ref (A' (iStone (upd2 σ1 190 1 8 190 1).toNatClampNeg)), .ref (A' 191), .ref (A' 192), .ref (A' 193), .ref (A' 194)])
      rw [upd2_at, hT (iStone (σ1 190 1).toNatClampNeg) (by unfold iStone; omega), show iStone ((8 : Int32).toNatClampNeg) = 190 by decide, hA 1 (by omega), hA 190 (by omega), hA 191 (by omega), hA 192 (by omega), hA 193 (by omega), hA 194 (by omega)]
    · rw [upd2_ni e]; exact xE_vE2 hA hi _ (fun h => absurd h e)
theorem pZ_sw {n : Nat} {e : Nat → va_E} {D : va_G} {A A2 : Nat → Nat} {cy : Nat → ClassId} {σ : Mem} (h : ∀ i, i < n → A2 i = A i) : gW (pZ n e) (D, A2, cy) σ = gW (pZ n e) (D, A, cy) σ := by
  apply List.ext_getElem?
  intro i
  rcases Nat.lt_or_ge i n with hi | hi
  · rw [gW_at _ _ _ (show i < (pZ n e).1 from hi), gW_at _ _ _ (show i < (pZ n e).1 from hi)]
    show some (A2 i, e i) = some (A i, e i)
    rw [h i hi]
  · rw [List.getElem?_eq_none (by rw [gW_len]; exact hi), List.getElem?_eq_none (by rw [gW_len]; exact hi)]
theorem zOk_sw {l : Launch} {X : gC} {A A2 : Nat → Nat} {n : Nat} {cc : ByteArray} {own : String} {dd ca sa : Nat} (h : ∀ i, i < n → A2 i = A i) (hC : zOk l X A n cc own dd ca sa) : zOk l X A2 n cc own dd ca sa := by
  intro e
  obtain ⟨p, l', e', R, s, mm, args, below, meth, c, nL, H0, Af, E, Q⟩ := X
  obtain ⟨hx, hb, hml, hown, hTB, hK, hD, hA, hR, hlocks, hl', hh0, hNs⟩ := hC e
  exact ⟨hx, hb, hml, hown, hTB, hK, fun σ => (pZ_sw (σ := σ) h).symm ▸ hD σ, hA, hR, hlocks, hl', hh0, hNs⟩
theorem z_sw {X : gC} {A A2 : Nat → Nat} {n : Nat} {e : Nat → va_E} {k m pc : Nat} {ls : List (Option Value)} {st : List Value} {σ : Mem} (h : ∀ i, i < n → A2 i = A i) (kk : G (pZ n e) (sx X A2) k m pc ls st σ) : G (pZ n e) (sx X A) k m pc ls st σ := by
  obtain ⟨p, l', e', R, s, mm, args, below, meth, c, nL, H0, Af, E, Q⟩ := X
  intro H locs arr hn hP hS hl
  exact kk H locs arr hn ((pZ_sw (σ := σ) h).symm ▸ hP) hS hl
theorem G_sw {Lw : gL} {X : gC} {k m pc : Nat} {ls : List (Option Value)} {st : List Value} {σ1 σ2 : Mem} (h : gW Lw (gEv X) σ1 = gW Lw (gEv X) σ2) (kk : G Lw X k m pc ls st σ2) : G Lw X k m pc ls st σ1 := by
  obtain ⟨p, l', e', R, s, mm, args, below, meth, c, nL, H0, Af, E, Q⟩ := X
  have h : gW Lw E σ1 = gW Lw E σ2 := h
  intro H locs arr hn hP hS hl
  exact kk H locs arr hn (h ▸ hP) hS hl
/-! the reference's memory at its start -/
theorem up_a (Z : Mem) : upd2 (upd2 (upd2 Z 0 7 1) 0 5 0) 0 7 1 = upd2 (upd2 Z 0 5 0) 0 7 1 := by
  funext i j
  by_cases hi : i = 0
  · subst hi
    by_cases h7 : j = 7
    · subst h7; rw [upd2_at, upd2_at]
    · rw [upd2_nj h7, upd2_nj h7]
      by_cases h5 : j = 5
      · subst h5; rw [upd2_at, upd2_at]
      · rw [upd2_nj h5, upd2_nj h5, upd2_nj h7]
  · rw [upd2_ni hi, upd2_ni hi, upd2_ni hi, upd2_ni hi, upd2_ni hi]
abbrev zS : Mem := upd2 (upd2 (upd2 zM 0 1 6) 0 2 6) 0 3 6
theorem up_b : upd2 (upd2 (upd2 (upd2 zS 0 7 1) 0 1 6) 0 2 6) 0 3 6 = upd2 zS 0 7 1 := by
  funext i j
  by_cases hi : i = 0
  · subst hi
    by_cases h3 : j = 3
    · subst h3; rw [upd2_at, upd2_nj (show (3 : Nat) ≠ 7 by decide)]; rfl
    · rw [upd2_nj h3]
      by_cases h2 : j = 2
      · subst h2; rw [upd2_at, upd2_nj (show (2 : Nat) ≠ 7 by decide)]; rfl
      · rw [upd2_nj h2]
        by_cases h1 : j = 1
        · subst h1; rw [upd2_at, upd2_nj (show (1 : Nat) ≠ 7 by decide)]; rfl
        · rw [upd2_nj h1]
  · rw [upd2_ni hi, upd2_ni hi, upd2_ni hi]
theorem up_c : gCells (upd2 zS 0 7 1) 1000 = upd2 (gCells zS 1000) 0 7 1 := by
  funext i j
  by_cases hi : i = 1
  · subst hi
    rw [upd2_ni (show (1 : Nat) ≠ 0 by decide)]
    have hs : ∀ x y z, sCell (upd2 zS 0 7 1) x y z = sCell zS x y z := fun x y z => by
      unfold sCell
      rw [upd2_nj (show (1 : Nat) ≠ 7 by decide), upd2_nj (show (2 : Nat) ≠ 7 by decide), upd2_nj (show (3 : Nat) ≠ 7 by decide)]
    have hv : upd2 zS 0 7 1 1 j = zS 1 j := by rw [upd2_ni (show (1 : Nat) ≠ 0 by decide)]
    show (if (1 : Nat) = 1 ∧ j < 1000 then (if sCell (upd2 zS 0 7 1) (kx j) (ky j) (kz j) = true then (0 : Int32) else -1) else upd2 zS 0 7 1 1 j) = (if (1 : Nat) = 1 ∧ j < 1000 then (if sCell zS (kx j) (ky j) (kz j) = true then (0 : Int32) else -1) else zS 1 j)
    rw [hs, hv]
  · have g1 : ∀ τ : Mem, ∀ j, gCells τ 1000 i j = τ i j := fun τ j => if_neg (fun h => hi h.1)
    rw [g1]
    by_cases h0 : i = 0
    · subst h0
      by_cases h7 : j = 7
      · subst h7; rw [upd2_at, upd2_at]
      · rw [upd2_nj h7, upd2_nj h7, g1]
    · rw [upd2_ni h0, upd2_ni h0, g1]
theorem tS_eq : gBegin zM 6 6 6 = gBegin (upd2 zS 0 7 1) 6 6 6 := by
  unfold gBegin
  rw [up_b, up_c, up_a]
theorem tS_RM : RM (gBegin zM 6 6 6) ∧ Fsh (gBegin zM 6 6 6) 6 6 6 := by
  rw [tS_eq]
  have hM : MI (upd2 zS 0 7 1) := by
    refine ⟨⟨6, by decide, by decide, rfl⟩, ⟨6, by decide, by decide, rfl⟩, ⟨6, by decide, by decide, rfl⟩, ⟨0, by decide, rfl⟩, ⟨1, by decide, by decide, rfl⟩, fun s hs => ⟨0, by decide, ?_⟩⟩
    rfl
  have h6 : M16 (upd2 zS 0 7 1) := fun s hs => by
    show (0 : Int32).toNatClampNeg ≤ 16
    decide
  exact beg_RM (t := upd2 zS 0 7 1) hM h6 (co := 6) (ro := 6) (la := 6) ⟨by decide, by decide⟩ ⟨by decide, by decide⟩ ⟨by decide, by decide⟩

set_option maxRecDepth 100000 in
set_option maxHeartbeats 4000000 in
theorem c_X5_ini2 (l : Launch) (t0 : Mem) (hM : MI t0) (hW : MW t0) (h6 : M16 t0) (hF : Fsh t0 6 6 6) : gKI l yX5_init (.code yX5_init cX5_init 2 none) 6 194 5121 5 [.null, .null, .null, .int 0, .int 0, .int 0] [] 195 (fun D cy A e => ∃ σ : Mem, RS σ t0 ∧ (∀ i, i < 195 → e i = wX.2 (D, A, cy) (σ i) i) ∧ ∀ i, 195 ≤ i → A i = A 190) := by
  refine gKI_of (by decide) rfl (fun _ => Nat.le_of_ble_eq_true rfl) ?_
  intro X h0 hC hI hE
  have hC : zOk l X (fun _ => h0) 1 cX5_init "GemCut" 6 194 5121 := hC
  show G (pZ 1 (fun _ => .inr (5, [.null, .null, .null, .int 0, .int 0, .int 0]))) (sx X (fun _ => h0)) 0 0 0 [some (.ref h0), none] [] zM
  have fin : ∀ (cs ss : Nat) (A : Nat → Nat) (e : Nat → va_E), cs ≤ 194 → ss ≤ 5121 → A 0 = h0 → (∀ i, i < 195 → vEq (e i) (wX.2 (gEv (sx X A)) (hNew i) i)) → zOk l X A 195 cX5_init "GemCut" 6 194 5121 → G (pZ 195 e) (sx X A) cs ss 73 [some (.ref h0), some (.int (nI 8))] [] zM := by
    intro cs ss A e hcs hss h0A he hC9
    obtain ⟨A2, hT, hT2⟩ : ∃ A2 : Nat → Nat, (∀ i, i < 195 → A2 i = A i) ∧ ∀ i, 195 ≤ i → A2 i = A2 190 := ⟨fun i => if i < 195 then A i else A 190, fun i hi => if_pos hi, fun i hi => (if_neg (by omega)).trans (if_pos (by omega)).symm⟩
    have h0A2 : A2 0 = h0 := (hT 0 (by omega)).trans h0A
    have he2 : ∀ i, i < 195 → vEq (e i) (wX.2 (gEv (sx X A2)) (hNew i) i) := fun i hi => vEq_tr (he i hi) (by
      rw [show gEv (sx X A) = ((gEv X).1, A, zY X) from by obtain ⟨p, l', e', R, s, mm, args, below, meth, c, nL, H0, Af, E, Q⟩ := X; rfl, show gEv (sx X A2) = ((gEv X).1, A2, zY X) from by obtain ⟨p, l', e', R, s, mm, args, below, meth, c, nL, H0, Af, E, Q⟩ := X; rfl]
      exact xE_vE2 hT hi _ (fun h => by
        subst h
        rw [show hNew 190 1 = 0 from rfl]; decide))
    refine z_sw hT ?_
    have hC9 := zOk_sw hT hC9
    clear he h0A
    subst h0A2
    refine z_to (Lw := wX) hNew rfl he2 ?_
    have hG := z_gOk (Lw := wX) hC9
    obtain ⟨p, l', e', R, s, mm, args, below, meth, c, nL, H0, Af, E, Q⟩ := X
    refine g_ald0 hG dX5_init_73 ?_
    refine g_bipush 6 hG dX5_init_74 (by decide) ?_
    refine g_bipush 6 hG dX5_init_76 (by decide) ?_
    refine g_bipush 6 hG dX5_init_78 (by decide) ?_
    refine k_X5_beginRough (t := t0) (co := 6) (ro := 6) (la := 6) hG tw_1_191 dX5_init_80 (by decide) ⟨by omega, by omega⟩ (Nat.le_of_ble_eq_true rfl) ⟨hM, hW, h6, hF, ⟨by decide, by decide, by decide⟩, by decide, fun s hs => hN_st hs⟩ ?_
    intro σ1 hR1
    refine z_from _ ?_
    exact hE _ _ _ _ _ _ dX5_init_83 (by omega) (by omega) rfl hC9 ⟨σ1, hR1, fun i hi => rfl, hT2⟩
  have lp : ∀ (w k cs ss : Nat) (A : Nat → Nat) (e : Nat → va_E) (f : Nat → Option Nat), k + w = 8 → cs = 45 + 18 * k → ss = 2865 + 133 * k → A 0 = h0 → e 0 = .inr (5, [.ref (A 1), .ref (A 45), .null, .int 0, .int 0, .int 0]) → roQ (zY X) (fun i => A (1 + i)) (fun i => e (1 + i)) → e 45 = .inl (zY X 4, 8, .inr (.inr (.inr (.inr f)))) → (∀ j, j < k → f j = some (A (46 + 18 * j))) → (∀ j, j < k → stQ (nI j) (zY X) (fun i => A (46 + 18 * j + i)) (fun i => e (46 + 18 * j + i))) → zOk l X A (46 + 18 * k) cX5_init "GemCut" 6 194 5121 → G (pZ (46 + 18 * k) e) (sx X A) cs ss 26 [some (.ref h0), some (.int (nI k))] [] zM := by
    intro w
    induction w with
    | zero =>
      intro k cs ss A e f hkw hcs hss h0A he0 her he45 hf hb hC
      obtain rfl : k = 8 := by omega
      refine g_ild1 (hC _) dX5_init_26 ?_
      refine g_bipush 8 (hC _) dX5_init_27 (by decide) ?_
      refine g_icmp_ge 52 (hC _) dX5_init_29 (by decide) (fun c => ?_) (fun c => absurd (by decide) c)
      refine g_ald0 (hC _) dX5_init_52 ?_
      refine z_new (ci := 4) (C := "GemCut$Trial") (T := TX4) (N := 6) (fs := [.null, .null, .null, .null, .null, .null]) tyX4 hC iw_X4 tyX4_ok tw_1_164 tw_1_165 tw_1_6 rfl (fun j hj => by match j, hj with | 0, _ => rfl | 1, _ => rfl | 2, _ => rfl | 3, _ => rfl | 4, _ => rfl | 5, _ => rfl) ⟨by omega, by omega⟩ dX5_init_53 ?_
      intro q hC
      refine g_dup (hC _) dX5_init_56 rfl ?_
      have u1 : ∀ i, i < 190 → uA A 190 q i = A i := fun i hi => uA_ne (by omega)
      have u3 : ∀ i, i < 190 → uE e 190 (.inr (4, [.null, .null, .null, .null, .null, .null])) i = e i := fun i hi => uE_ne (by omega)
      refine g_ald0 (hC _) dX5_init_57 ?_
      refine z_get (i := 0) (ci := 5) (C := "GemCut") (T := TX5) (N := 6) (v := .ref (A 1)) hC ((u1 0 (by omega)).trans h0A) iw_X5 rfl (by omega) ((u3 0 (by omega)).trans he0) 0 (by decide) tw_2_11 rfl dX5_init_58 ?_
      refine g_ald0 (hC _) dX5_init_61 ?_
      refine z_get (i := 0) (ci := 5) (C := "GemCut") (T := TX5) (N := 6) (v := .ref (A 45)) hC ((u1 0 (by omega)).trans h0A) iw_X5 rfl (by omega) ((u3 0 (by omega)).trans he0) 1 (by decide) tw_2_12 rfl dX5_init_62 ?_
      refine g_iconst 0 (hC _) dX5_init_65 (by decide) ?_
      refine z_ald (i := 45) (j := 0) (t0 := 4) (v := A 46) hC (u1 45 (by omega)) (by omega) ((u3 45 (by omega)).trans he45) (fun _ => rfl) (by decide) (by omega) (by omega) (hf 0 (by omega)) dX5_init_66 ?_
      refine z_callI (n := 190) (as := [.ref (A 1), .ref (A 46)]) (rest := [.ref q, .ref h0]) 2 hC hI (c_X4_init l (A 1) (A 46)) (uA_at _ _ _) (uE_at _ _ _) tw_1_166 ⟨tw_1_167, tw_1_6, tw_1_168⟩ rfl ⟨by decide, by decide, by decide +kernel⟩ ⟨by decide, by decide⟩ ⟨by omega, by omega⟩ rfl (Nat.le_of_ble_eq_true rfl) rfl dX5_init_67 ?_
      intro Ab eb hA0 hQ hC
      have k1 : ∀ i, i < 190 → jA 190 (uA A 190 q) Ab i = A i := fun i hi => (jA_lt hi).trans (u1 i hi)
      have k2 : jA 190 (uA A 190 q) Ab 190 = q := (jA_ge 0).trans hA0
      have k3 : ∀ i, i < 190 → jE 190 (uE e 190 (.inr (4, [.null, .null, .null, .null, .null, .null]) : va_E)) eb i = e i := fun i hi => (jE_lt hi).trans (u3 i hi)
      refine z_putF (i := 0) (ci := 5) (C := "GemCut") (T := TX5) (N := 6) (fs := [.ref (A 1), .ref (A 45), .null, .int 0, .int 0, .int 0]) (ty := (.object "GemCut$Trial")) tyX5 hC hI ((k1 0 (by omega)).trans h0A) iw_X5 tyX5_ok nmX5 rfl (by omega) ((k3 0 (by omega)).trans he0) 2 (by decide) tw_2_13 rfl rfl (by decide +kernel) rfl rfl (by simp) dX5_init_70 ?_
      refine fin _ _ _ _ (by omega) (by omega) ((k1 0 (by omega)).trans h0A) ?_ hC
      rw [show gEv (sx X (jA 190 (uA A 190 q) Ab)) = ((gEv X).1, jA 190 (uA A 190 q) Ab, zY X) from by obtain ⟨p, l', e', R, s, mm, args, below, meth, c, nL, H0, Af, E, Q⟩ := X; rfl]
      refine asm ?_ ?_ ⟨f, (uE_ne (by omega)).trans ((k3 45 (by omega)).trans he45), fun j hj => by rw [k1 _ (by omega)]; exact hf j hj⟩ (fun j hj => ?_) ?_
      · rw [uE_at, k1 1 (by omega), k1 45 (by omega), k2]; rfl
      · exact roQ.as her (fun i hi => k1 _ (by omega)) (fun i hi => (uE_ne (by omega)).trans (k3 _ (by omega)))
      · exact stQ.as (hb j hj) (fun i hi => k1 _ (by omega)) (fun i hi => (uE_ne (by omega)).trans (k3 _ (by omega)))
      · obtain ⟨g0, g1, g2, g3, g4⟩ := hQ
        have b1 : ∀ i, jA 190 (uA A 190 q) Ab (190 + i) = Ab i := fun i => jA_ge i
        have b3 : ∀ i, uE (jE 190 (uE e 190 (.inr (4, [.null, .null, .null, .null, .null, .null]) : va_E)) eb) 0 (.inr (5, [Value.ref (A 1), Value.ref (A 45), Value.null, Value.int 0, Value.int 0, Value.int 0].set 2 (Value.ref q))) (190 + i) = eb i := fun i => (uE_ne (by omega)).trans (jE_ge i)
        refine ⟨(b3 0).trans ?_, (b3 1).trans g1, (b3 2).trans g2, (b3 3).trans g3, (b3 4).trans g4⟩
        rw [k1 1 (by omega), k1 46 (by omega)]
        show eb 0 = (.inr (4, [.ref (A 1), .ref (A 46), .ref (jA 190 (uA A 190 q) Ab (190 + 1)), .ref (jA 190 (uA A 190 q) Ab (190 + 2)), .ref (jA 190 (uA A 190 q) Ab (190 + 3)), .ref (jA 190 (uA A 190 q) Ab (190 + 4))]) : va_E)
        rw [b1 1, b1 2, b1 3, b1 4]
        exact g0
    | succ w ih =>
      intro k cs ss A e f hkw hcs hss h0A he0 her he45 hf hb hC
      refine g_ild1 (hC _) dX5_init_26 ?_
      refine g_bipush 8 (hC _) dX5_init_27 (by decide) ?_
      refine g_icmp_ge 52 (hC _) dX5_init_29 (by decide) (fun c => absurd c (nI_ge (b := 8) (by omega) (by omega))) (fun c => ?_)
      refine g_ald0 (hC _) dX5_init_32 ?_
      refine z_get (i := 0) (ci := 5) (C := "GemCut") (T := TX5) (N := 6) (v := .ref (A 45)) hC h0A iw_X5 rfl (by omega) he0 1 (by decide) tw_2_12 rfl dX5_init_33 ?_
      refine g_ild1 (hC _) dX5_init_36 ?_
      refine z_new (ci := 3) (C := "GemCut$Stone") (T := TX3) (N := 5) (fs := [.int 0, .null, .int 0, .int 0, .int 0]) tyX3 hC iw_X3 tyX3_ok tw_1_97 tw_1_99 tw_1_4 rfl (fun j hj => by match j, hj with | 0, _ => rfl | 1, _ => rfl | 2, _ => rfl | 3, _ => rfl | 4, _ => rfl) ⟨by omega, by omega⟩ dX5_init_37 ?_
      intro q hC
      refine g_dup (hC _) dX5_init_40 rfl ?_
      refine g_ild1 (hC _) dX5_init_41 ?_
      refine z_callI (n := 46 + 18 * k) (as := [.int (nI k)]) (rest := [.ref q, .int (nI k), .ref (A 45)]) 1 hC hI (c_X3_init l (nI k)) (uA_at _ _ _) (uE_at _ _ _) tw_1_100 ⟨tw_1_101, tw_1_4, tw_1_102⟩ rfl ⟨by decide, by decide, by decide +kernel⟩ ⟨by decide, by decide⟩ ⟨by omega, by omega⟩ rfl (Nat.le_of_ble_eq_true rfl) rfl dX5_init_42 ?_
      intro Ab eb hA0 hQ hC
      have k1 : ∀ i, i < 46 + 18 * k → jA (46 + 18 * k) (uA A (46 + 18 * k) q) Ab i = A i := fun i hi => (jA_lt hi).trans (uA_ne (by omega))
      have k2 : jA (46 + 18 * k) (uA A (46 + 18 * k) q) Ab (46 + 18 * k) = q := (jA_ge 0).trans hA0
      have k3 : ∀ i, i < 46 + 18 * k → jE (46 + 18 * k) (uE e (46 + 18 * k) (.inr (3, [.int 0, .null, .int 0, .int 0, .int 0]) : va_E)) eb i = e i := fun i hi => (jE_lt hi).trans (uE_ne (by omega))
      have k4 : jE (46 + 18 * k) (uE e (46 + 18 * k) (.inr (3, [.int 0, .null, .int 0, .int 0, .int 0]) : va_E)) eb (46 + 18 * k) = .inr (3, [.int (nI k), .ref (Ab 1), .int 0, .int 0, .int 0]) := (jE_ge 0).trans hQ.1
      refine z_ast (i := 45) (iv := 46 + 18 * k) (t0 := 4) (j := k) (N := 8) (ci := 3) (r := (RX3, TX3, 5)) (f := f) hC (k1 45 (by omega)) k2 (by omega) (by omega) ((k3 45 (by omega)).trans he45) k4 (fun _ => rfl) rfl rfl (by omega) (by omega) dX5_init_45 ?_
      refine g_inc1 1 (hC _) dX5_init_46 (by decide) rfl ?_
      refine g_goto 26 (hC _) dX5_init_49 (by decide) ?_
      rw [nI_1]
      refine ih (k + 1) _ _ _ (uE (jE (46 + 18 * k) (uE e (46 + 18 * k) (.inr (3, [.int 0, .null, .int 0, .int 0, .int 0]) : va_E)) eb) 45 _) (va_up f k (some q)) (by omega) (by omega) (by omega) ((k1 0 (by omega)).trans h0A) ?_ ?_ (uE_at _ _ _) (fun j hj => ?_) (fun j hj => ?_) hC
      · rw [uE_ne (by decide), k3 0 (by omega), k1 1 (by omega), k1 45 (by omega)]; exact he0
      · exact roQ.as her (fun i hi => k1 _ (by omega)) (fun i hi => (uE_ne (by omega)).trans (k3 _ (by omega)))
      · by_cases hjk : j = k
        · subst hjk; rw [k2]; simp [va_up]
        · rw [k1 (46 + 18 * j) (by omega), ← hf j (by omega)]; simp [va_up, hjk]
      · by_cases hjk : j = k
        · subst hjk
          exact stQ.as (cy := zY X) (A := Ab) (e := eb) hQ (fun i hi => jA_ge i) (fun i hi => (uE_ne (by omega)).trans (jE_ge i))
        · exact stQ.as (hb j (by omega)) (fun i hi => k1 _ (by omega)) (fun i hi => (uE_ne (by omega)).trans (k3 _ (by omega)))
  refine g_ald0 (hC _) dX5_init_0 ?_
  refine z_obj (hC _) (by decide) tw_1_21 dX5_init_1 (Nat.le_of_ble_eq_true rfl) ?_
  refine g_ald0 (hC _) dX5_init_4 ?_
  refine z_new (ci := 2) (C := "GemCut$Rough") (T := TX2) (N := 7) (fs := [.int 0, .int 0, .int 0, .null, .null, .null, .int 0]) tyX2 hC iw_X2 tyX2_ok tw_1_24 tw_1_25 tw_1_2 rfl (fun j hj => by match j, hj with | 0, _ => rfl | 1, _ => rfl | 2, _ => rfl | 3, _ => rfl | 4, _ => rfl | 5, _ => rfl | 6, _ => rfl) ⟨by omega, by omega⟩ dX5_init_5 ?_
  intro q1 hC
  refine g_dup (hC _) dX5_init_8 rfl ?_
  refine z_callI (n := 1) (as := []) (rest := [.ref q1, .ref h0]) 0 hC hI (c_X2_init l) rfl rfl tw_1_26 ⟨tw_1_27, tw_1_2, tw_1_28⟩ rfl ⟨by decide, by decide, by decide +kernel⟩ ⟨by decide, by decide⟩ ⟨by omega, by omega⟩ rfl (Nat.le_of_ble_eq_true rfl) rfl dX5_init_9 ?_
  intro Ab eb hA0 hQ hC
  have k2 : jA 1 (uA (fun _ => h0) 1 q1) Ab 1 = q1 := (jA_ge 0).trans hA0
  have k5 : ∀ i, jA 1 (uA (fun _ => h0) 1 q1) Ab (1 + i) = Ab i := fun i => jA_ge i
  refine z_putF (i := 0) (ci := 5) (C := "GemCut") (T := TX5) (N := 6) (fs := [.null, .null, .null, .int 0, .int 0, .int 0]) (ty := (.object "GemCut$Rough")) tyX5 hC hI rfl iw_X5 tyX5_ok nmX5 rfl (by omega) rfl 0 (by decide) tw_2_11 rfl rfl (by decide +kernel) rfl rfl (by simp) dX5_init_12 ?_
  refine g_ald0 (hC _) dX5_init_15 ?_
  refine g_bipush 8 (hC _) dX5_init_16 (by decide) ?_
  refine z_newq (t0 := 4) (N' := 8) (C := "GemCut$Stone") hC hI (fun _ h => h.2.2) tw_1_97 (fun _ => rfl) (by decide) (by decide) (by decide) ⟨by omega, by omega⟩ dX5_init_18 ?_
  intro q2 hC
  refine z_putF (i := 0) (ci := 5) (C := "GemCut") (T := TX5) (N := 6) (fs := [.ref q1, .null, .null, .int 0, .int 0, .int 0]) (ty := (.array (.object "GemCut$Stone"))) tyX5 hC hI rfl iw_X5 tyX5_ok nmX5 rfl (by omega) rfl 1 (by decide) tw_2_12 rfl rfl (by decide +kernel) rfl rfl (by simp) dX5_init_21 ?_
  refine g_iconst 0 (hC _) dX5_init_24 (by decide) ?_
  refine g_ist1 (hC _) dX5_init_25 rfl ?_
  refine lp 8 0 _ _ _ _ (fun _ => none) (by omega) rfl rfl rfl ?_ ?_ rfl (fun j hj => absurd hj (by omega)) (fun j hj => absurd hj (by omega)) hC
  · rw [uE_at, show uA (jA 1 (uA (fun _ => h0) 1 q1) Ab) 45 q2 45 = q2 from uA_at _ _ _, show uA (jA 1 (uA (fun _ => h0) 1 q1) Ab) 45 q2 1 = q1 from (uA_ne (by decide)).trans k2]; rfl
  · exact roQ.as (cy := zY X) (A := Ab) (e := eb) hQ (fun i hi => (uA_ne (by omega)).trans (k5 i)) (fun i hi => (uE_ne (by omega)).trans ((uE_ne (by omega)).trans ((uE_ne (by omega)).trans (jE_ge i))))
/-! behind build -/
set_option maxRecDepth 100000 in
set_option maxHeartbeats 4000000 in
theorem lw_15 {l : Launch} {X : gC} {A : Nat → Nat} {b L : Nat} {xs : Nat → Int32} (hst : l.stackTraces = false) (hL : uL X b L xs) (hLs : L < 2 ^ 31) (hEnd : ∀ (A : Nat → Nat) (k n : Nat) (ls : List (Option Value)) (es : va_W) (σ : Mem), uOk l wX X A es cL_law "GemCutLaw" 10 600074 7301550 → k ≤ 600074 → n ≤ 7301550 → G (wU wX es) (uX wX X A es) k n 1455 ls [] σ) {es : va_W} {σ t1 : Mem} {r qr qf : Nat} (hR : RS σ t1) (h01 : t1 0 0 = 0) (h10 : t1 0 10 = 400) (h11 : t1 0 11 = 0) (hsi : siO es r qr qf) (hro : roO (zY X) es qr t1) (hfl : flO (zY X) es qf t1) (hC : uOk l wX X A es cL_law "GemCutLaw" 10 600074 7301550) : G (wU wX es) (uX wX X A es) 335 6367 15 [some (.ref b), some (.ref (A 0)), none, none, none, none, none, none, none, none, none, none, none, none, none, none, none, none, none, none, none, none, none, none, none, none, none, none, none, none, none, none] [.ref r] σ := by
  obtain ⟨js, qp, hsim⟩ := hsi
  obtain ⟨i2, i1, i0, q1, q2, f2, f1, g0, h2, hf2, h1, hf1, h3⟩ := hro
  obtain ⟨jf, ff, hfa, hrow⟩ := hfl
  obtain ⟨⟨-, c1, c2⟩, ⟨-, r1, r2⟩, ⟨-, l1, l2⟩⟩ := MI_C hR.1
  have hF9 := MI_F hR.1
  refine g_ast2 hC dL_law_15 rfl ?_
  refine g_ald2 hC dL_law_16 ?_
  refine g_ifnn 22 hC dL_law_17 (by decide) ?_
  refine g_ald2 hC dL_law_22 ?_
  refine u_get (j := js) (ci := 6) (C := "GemCutLaw$Sim") (T := TX6) (N := 5) (fs := [.ref qr, .ref qf, .ref qp, .int 400, .int 0]) (v := .ref qr) hC hsim iw_X6 rfl 0 (by decide) tw_3_189 rfl dL_law_23 ?_
  refine u_alen (j := i2) (t0 := 6) hC h2 (fun _ => rfl) dL_law_26 ?_
  refine g_ist3 hC dL_law_27 rfl ?_
  refine g_ald2 hC dL_law_28 ?_
  refine u_get (j := js) (ci := 6) (C := "GemCutLaw$Sim") (T := TX6) (N := 5) (fs := [.ref qr, .ref qf, .ref qp, .int 400, .int 0]) (v := .ref qr) hC hsim iw_X6 rfl 0 (by decide) tw_3_189 rfl dL_law_29 ?_
  refine g_iconst 0 hC dL_law_32 (by decide) ?_
  refine u_aald (j := i2) (t0 := 6) (t := (.array .int)) 0 hC h2 (fun _ => rfl) rfl (by omega) (by omega) hf2 dL_law_33 ?_
  refine u_alen (j := i1) (t0 := 5) hC h1 (fun _ => rfl) dL_law_34 ?_
  refine g_ist4 hC dL_law_35 rfl ?_
  refine g_ald2 hC dL_law_37 ?_
  refine u_get (j := js) (ci := 6) (C := "GemCutLaw$Sim") (T := TX6) (N := 5) (fs := [.ref qr, .ref qf, .ref qp, .int 400, .int 0]) (v := .ref qr) hC hsim iw_X6 rfl 0 (by decide) tw_3_189 rfl dL_law_38 ?_
  refine g_iconst 0 hC dL_law_41 (by decide) ?_
  refine u_aald (j := i2) (t0 := 6) (t := (.array .int)) 0 hC h2 (fun _ => rfl) rfl (by omega) (by omega) hf2 dL_law_42 ?_
  refine g_iconst 0 hC dL_law_43 (by decide) ?_
  refine u_aald (j := i1) (t0 := 5) (t := .int) 0 hC h1 (fun _ => rfl) rfl (by omega) (by omega) hf1 dL_law_44 ?_
  refine u_alen (j := i0) (t0 := 0) hC h3 (fun _ => rfl) dL_law_45 ?_
  refine g_ist5 hC dL_law_46 rfl ?_
  refine g_iconst 0 hC dL_law_48 (by decide) ?_
  refine g_ist6 hC dL_law_49 rfl ?_
  refine g_iconst 0 hC dL_law_51 (by decide) ?_
  refine g_ist7 hC dL_law_52 rfl ?_
  exact lw_54 (C := nC t1) (R := nR t1) (Lz := nL t1) (F := nF t1) (sv := fun j => sFl t1 j 4) hst hL hLs (fun k n ls es σ => hEnd A k n ls es σ) 12 0 335 6367 es σ t1 0 rfl hR ⟨h01, rfl, rfl, rfl, rfl, fun _ _ => rfl, by rw [h10, h11]⟩ hsim hfa hrow ⟨by decide, by decide⟩ hC
/-! the entry -/
set_option maxRecDepth 100000 in
set_option maxHeartbeats 4000000 in
theorem lw_pre {l : Launch} {X : gC} {b L : Nat} {xs : Nat → Int32} (hst : l.stackTraces = false) (hC : zOk l X (fun _ => 0) 0 cL_law "GemCutLaw" 10 600074 7301550) (hL : uL X b L xs) (hLs : L < 2 ^ 31) (hEnd : ∀ (A : Nat → Nat) (k n : Nat) (ls : List (Option Value)) (es : va_W) (σ : Mem), uOk l wX X A es cL_law "GemCutLaw" 10 600074 7301550 → k ≤ 600074 → n ≤ 7301550 → G (wU wX es) (uX wX X A es) k n 1455 ls [] σ) : G (pZ 0 (fun _ => zP)) (sx X (fun _ => 0)) 0 0 0 [some (.ref b), none, none, none, none, none, none, none, none, none, none, none, none, none, none, none, none, none, none, none, none, none, none, none, none, none, none, none, none, none, none, none] [] zM := by
  have hO : zO X := by
    obtain ⟨p, l', e', R, s, mm, args, below, meth, c, nL, H0, Af, E, Q⟩ := X
    exact hL.2.2.1
  obtain ⟨⟨hM, hW, h6⟩, hF⟩ := tS_RM
  have h00 : gBegin zM 6 6 6 0 0 = 0 := by simp [gBegin, gCells, upd2, zM]
  generalize gBegin zM 6 6 6 = t0 at hM hW h6 hF h00
  refine z_new (ci := 5) (C := "GemCut") (T := TX5) (N := 6) (fs := [.null, .null, .null, .int 0, .int 0, .int 0]) tyX5 hC iw_X5 tyX5_ok tw_1_16 tw_1_17 tw_1_1 rfl (fun j hj => by match j, hj with | 0, _ => rfl | 1, _ => rfl | 2, _ => rfl | 3, _ => rfl | 4, _ => rfl | 5, _ => rfl) ⟨by omega, by omega⟩ dL_law_0 ?_
  intro q1 hC
  refine g_dup (hC _) dL_law_3 rfl ?_
  refine z_callL (n := 0) (as := []) (rest := [.ref q1]) 0 hC hO (c_X5_ini2 l t0 hM hW h6 hF) (uA_at _ _ _) (uE_at _ _ _) tw_1_18 ⟨tw_1_19, tw_1_1, tw_1_20⟩ rfl ⟨by decide, by decide, by decide +kernel⟩ ⟨by decide, by decide⟩ ⟨by omega, by omega⟩ rfl (Nat.le_of_ble_eq_true rfl) rfl dL_law_4 ?_
  intro Ab eb hA1 hQ1 hC
  obtain ⟨σ1, hR1, he1, hT1⟩ := hQ1
  have hAi : ∀ i, i < 195 → aU wX Ab [] i = Ab i := fun i hi => aU_lt hi
  have hcu : ∀ i, i < 195 → cutE 195 (aU wX Ab []) i = Ab i := fun i hi => (if_pos hi).trans (hAi i hi)
  obtain ⟨σ, hR, hv⟩ := xE_cut (D := (gEv X).1) (cy := zY X) hR1 hcu hT1
  refine z_fin (Lw := wU wX []) (A' := aU wX Ab []) (fun i => i) σ (fun i hi => hi) (fun i j _ _ h => h) (fun i hi => ?_) (fun i hi => ?_) hC (fun hG => ?_)
  · have hi : i < 195 := hi
    rw [hAi i hi]
    show Ab i = (if i < 0 then _ else Ab (i - 0))
    rw [if_neg (by omega), Nat.sub_zero]
  · have hi : i < 195 := hi
    have e1 : jE 0 (uE (fun _ => zP) 0 (.inr (5, [.null, .null, .null, .int 0, .int 0, .int 0]))) eb i = eb i := by
      show (if i < 0 then _ else eb (i - 0)) = eb i
      rw [if_neg (by omega), Nat.sub_zero]
    show vEq (jE 0 _ eb i) (if i < 195 then xE ((gEv X).1, cutE 195 (aU wX Ab []), zY X) (σ i) i else _)
    rw [if_pos hi, e1, he1 i hi]
    exact hv i hi
  · subst hA1
    have hC : uOk l wX X Ab [] cL_law "GemCutLaw" 10 600074 7301550 := hG
    refine g_ast1 hC dL_law_7 rfl ?_
    refine g_ald1 hC dL_law_8 ?_
    refine g_ald0 hC dL_law_9 ?_
    refine g_bipush 6 hC dL_law_10 (by decide) ?_
    refine u_cB 3 hC hL (fun sz => c_build l hst b L hLs xs _ _ _ σ t0 hR h00 sz) (fun r u h => by
      obtain ⟨σ2, es2, t1, qr, qf, h1, -⟩ := h
      exact ⟨σ2, es2, h1⟩) tw_3_166 ⟨tw_3_167, tw_1_0, tw_3_168⟩ (by decide +kernel) ⟨by decide, by decide⟩ ⟨by omega, by omega⟩ rfl (Nat.le_of_ble_eq_true rfl) rfl dL_law_12 ?_
    intro r σ3 nw hJ hC
    obtain ⟨σ2, es2, t1, qr, qf, e1, hR2, h01, h10, h11, hsi, hro, hfl⟩ := hJ
    obtain ⟨e2, e3⟩ := List.append_inj e1 (by rw [gW_len, gW_len])
    subst e3
    refine G_sw (σ2 := σ2) ?_ ?_
    · obtain ⟨p, l', e', R, s, mm, args, below, meth, c, nL, H0, Af, E, Q⟩ := X
      show gW (wU wX nw) (E.1, aU wX Ab nw, E.2.2) σ3 = gW (wU wX nw) (E.1, aU wX Ab nw, E.2.2) σ2
      rw [wU_list, wU_list]
      exact congrArg (· ++ nw) e2
    · exact lw_15 hst hL hLs hEnd hR2 h01 h10 h11 hsi hro hfl hC
