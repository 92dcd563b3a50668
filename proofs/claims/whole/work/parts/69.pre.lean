/-! the law's own objects -/
def zO (X : gC) : Prop := match X with
  | (_, _, _, _, s, _, _, _, _, _, _, _, _, _, _) => gO s
theorem sx_ZY {X : gC} {A : Nat → Nat} (h : gZY X) : gZY (sx X A) := by obtain ⟨p, l', e', R, s, mm, args, below, meth, c, nL, H0, Af, E, Q⟩ := X; exact h
theorem sx_Nc {X : gC} {A : Nat → Nat} (h : gNcX X) : gNcX (sx X A) := by obtain ⟨p, l', e', R, s, mm, args, below, meth, c, nL, H0, Af, E, Q⟩ := X; exact h
theorem sx_Scr {X : gC} {A : Nat → Nat} {b L : Nat} {xs : Nat → Int32} (h : gScr X b L xs) : gScr (sx X A) b L xs := by obtain ⟨p, l', e', R, s, mm, args, below, meth, c, nL, H0, Af, E, Q⟩ := X; exact h
section ZL
variable {l : Launch} {X : gC} {A : Nat → Nat} {n : Nat} {e : Nat → va_E} {cc : ByteArray} {own : String} {dd ca sa k m pc : Nat} {ls : List (Option Value)} {st : List Value}
theorem z_newl (hC : zOk l X A n cc own dd ca sa) (hf : k + 1 ≤ ca ∧ m + 1 ≤ sa) (hd : decode cc pc = .ok (.newarray .long, 2))
    (kk : ∀ q, zOk l X (uA A n q) (n + 1) cc own dd ca sa → G (pZ (n + 1) (uE e n (.inl (zY X 5, 1, .inr (.inl (fun _ => 0)))))) (sx X (uA A n q)) (k + 1) (m + 1) (pc + 2) ls (.ref q :: st) zM) : G (pZ n e) (sx X A) k m pc ls (.int 1 :: st) zM := by
  obtain ⟨p, l', e', R, s, mm, args, below, meth, c, nL, H0, Af, E, Q⟩ := X
  obtain ⟨hx, hb, hml, hown, hTB, hK, hD, hA, hR, hlocks, hl', hh0, hNs⟩ := hC e
  have hR : R = gR dd ca sa := hR
  subst hR
  intro H locs arr hn hP hS hl
  refine va_newa (atype := .long) (ty := .long) (N' := 1) (a0 := (1, .inr (.inl (fun _ => 0)))) hx hb (hTB _ tw_5_15) rfl hK hP (hD zM) hS hA (fun _ => rfl) (by decide) (by decide) (by decide) hf.1 hf.2 hd ?_
  intro q cA H1 hK1 hP1 hD1 hS1
  have hcA : cA = E.2.2 5 := by
    have h1 : s.vm.findClass ("[" ++ FieldType.long.toString) = some (E.2.2 5) := (hK.2 5 _ rfl).2
    have h2 : s.vm.findClass ("[" ++ FieldType.long.toString) = some cA := (hK1.2 6 (cA, .long) rfl).2
    exact Option.some.inj (h2.symm.trans h1)
  subst hcA
  rw [← pW_snoc n e A q (.inl (E.2.2 5, 1, .inr (.inl (fun _ => 0)))) E.1 E.2.2] at hP1 hD1
  exact kk q (fun e2 => ⟨hx, hb, hml, hown, hTB, hK, fun σ => pD_e hD1, hA, rfl, hlocks, hl', hh0, hNs⟩) H1 locs arr hn hP1 hS1 hl
/-- the cells counted in another order -/
theorem z_fin {Lw : gL} {A' : Nat → Nat} (g : Nat → Nat) (σ : Mem) (hg : ∀ i, i < Lw.1 → g i < n) (hi : ∀ i j, i < Lw.1 → j < Lw.1 → g i = g j → i = j) (hA' : ∀ i, i < Lw.1 → A' i = A (g i)) (he : ∀ i, i < Lw.1 → vEq (e (g i)) (Lw.2 ((gEv X).1, A', zY X) (σ i) i)) (hC : zOk l X A n cc own dd ca sa) (kk : gOk Lw l (sx X A') cc own dd ca sa → G Lw (sx X A') k m pc ls st σ) : G (pZ n e) (sx X A) k m pc ls st zM := by
  obtain ⟨p, l', e', R, s, mm, args, below, meth, c, nL, H0, Af, E, Q⟩ := X
  obtain ⟨hx, hb, hml, hown, hTB, hK, hD, hA, hR, hlocks, hl', hh0, hNs⟩ := hC e
  have ix : ∀ (σ' : Mem) (i : Nat) (q : Nat × va_E), (gW Lw (E.1, A', E.2.2) σ')[i]? = some q → i < Lw.1 ∧ q = (A' i, Lw.2 (E.1, A', E.2.2) (σ' i) i) := fun σ' i q hq => by
    have h1 : i < Lw.1 := by
      have := (List.getElem?_eq_some_iff.mp hq).1
      rwa [gW_len] at this
    rw [gW_at Lw (E.1, A', E.2.2) σ' h1] at hq
    exact ⟨h1, (Option.some.inj hq).symm⟩
  refine fun H locs arr hn hP hS hl => kk ⟨hx, hb, hml, hown, hTB, hK, fun σ' => ⟨fun i j p q hp hq hpq => ?_, fun i q hq => ?_⟩, hA, hR, hlocks, hl', hh0, hNs⟩ H locs arr hn (fun i q hq => ?_) hS hl
  · obtain ⟨h1, rfl⟩ := ix σ' i p hp
    obtain ⟨h2, rfl⟩ := ix σ' j q hq
    have h3 : A (g i) = A (g j) := by rw [← hA' i h1, ← hA' j h2]; exact hpq
    exact hi i j h1 h2 ((hD zM).1 (g i) (g j) _ _ (pW_at e E.1 A E.2.2 (hg i h1)) (pW_at e E.1 A E.2.2 (hg j h2)) h3)
  · obtain ⟨h1, rfl⟩ := ix σ' i q hq
    have h3 := (hD zM).2 (g i) _ (pW_at e E.1 A E.2.2 (hg i h1))
    show Af (A' i)
    rw [hA' i h1]; exact h3
  · obtain ⟨h1, rfl⟩ := ix σ i q hq
    have h3 := hP (g i) _ (pW_at e E.1 A E.2.2 (hg i h1))
    show va_at E.1 vwCl (A' i, Lw.2 (E.1, A', E.2.2) (σ i) i) H
    rw [hA' i h1]
    exact (he i h1).at h3
theorem z_callL {y : MethodName} {bytes : ByteArray} {maxL d mc ms ci nb idx a : Nat} {fs0 as rest : List Value} {Q : va_G → (Nat → ClassId) → (Nat → Nat) → (Nat → va_E) → Prop} (na : Nat) (hC : zOk l X A (n + 1) cc own dd ca sa) (hI : zO X) (hM : gKI l y (.code y bytes maxL none) d mc ms ci fs0 as nb Q) (ha : A n = a) (he : e n = .inr (ci, fs0)) (hw1 : Cond.methodLink own idx y ∈ TB) (hw2 : Cond.instanceMethod y ∈ TB ∧ Cond.initialized y.cls ∈ TB ∧ Cond.code y bytes maxL none ∈ TB) (hy1 : y.name = "<init>") (hy : y.cls ≠ "java/lang/invoke/MethodHandle" ∧ y.cls ≠ "java/lang/invoke/VarHandle" ∧ (parseMethodDescriptor y.desc).map (fun d => d.parameters.length) = some na) (hR9 : d + 1 ≤ dd ∧ maxL ≤ 21) (hf : k + mc ≤ ca ∧ m + ms ≤ sa) (hna : as.length = na) (hrest : (rest.map fun v => v.category).sum ≤ 8) (hst : st = as.reverse ++ .ref a :: rest) (hd : decode cc pc = .ok (.invokespecial idx, 3))
    (kk : ∀ (Ab : Nat → Nat) (eb : Nat → va_E), Ab 0 = a → Q (gEv X).1 (zY X) Ab eb → zOk l X (jA n A Ab) (n + nb) cc own dd ca sa → G (pZ (n + nb) (jE n e eb)) (sx X (jA n A Ab)) (k + mc) (m + ms) (pc + 3) ls rest zM) : G (pZ (n + 1) e) (sx X A) k m pc ls st zM := by
  subst ha
  obtain ⟨p, l', e', R, s, mm, args, below, meth, c, nL, H0, Af, E, Qs⟩ := X
  obtain ⟨hx, hb, hml, hown, hTB, hK, hD, hA, hR, hlocks, hl', hh0, hNs⟩ := hC e
  have hR : R = gR dd ca sa := hR
  subst hR
  have hl' : l' = l := hl'
  subst hl'
  have hI : gO s := hI
  have hRR : (gR d mc ms).frames + 1 ≤ (gR dd ca sa).frames ∧ 8 + (maxL + 11) + (gR d mc ms).locals ≤ (gR dd ca sa).locals := by
    refine ⟨hR9.1, ?_⟩
    show 8 + (maxL + 11) + 40 * d ≤ 40 * dd
    omega
  intro H locs arr hn hP hS hl
  have hat : (gW (pZ (n + 1) e) (E.1, A, E.2.2) zM)[n]? = some (A n, .inr (ci, fs0)) := by rw [pW_at e E.1 A E.2.2 (Nat.lt_succ_self n), he]
  have hs : [n].map (fun i => (gW (pZ (n + 1) e) (E.1, A, E.2.2) zM)[i]?) = [(A n, (.inr (ci, fs0) : va_E))].map some := by
    show [(gW (pZ (n + 1) e) (E.1, A, E.2.2) zM)[n]?] = _
    rw [hat]; rfl
  have hPc : va_P E.1 vwCl [(A n, .inr (ci, fs0))] H := hP.by (fun _ => n) (fun k2 q hk => by
    obtain rfl : k2 = 0 := by have := (List.getElem?_eq_some_iff.mp hk).1; simp at this; omega
    cases hk; exact hat)
  have hDc := (hD zM).sub (ws' := [(A n, .inr (ci, fs0))]) [n] rfl hs
  have hFc := va_free (wc := [(A n, .inr (ci, fs0))]) (hD zM) hS hA [n] hs
  refine va_callv (va_runI (As := as) (rest := rest) (b := A n) (Ts := TB) (own := own) ⟨hx, hb, hml, hown, hTB⟩ (hM E.1 E.2.2 (A n) H.size) (cwI na hTB (gi_cons hw2.2.2 gi_self) rfl rfl rfl (hTB _ hw2.2.1) (hTB _ hw1) (hTB _ hw2.1) hy1 hy hRR) ⟨fun a U g mk q => by obtain ⟨q0, q1, qP, qK, qD, qN, qO⟩ := q; exact ⟨q0, q1, qP, va_K.moved (u := U) (U := U.calling g mk a) (Vm.Alike.refl U.vm) qK, qD, gN.same (u := U) (U := U.calling g mk a) rfl qN, gO.moved (u := U) (U := U.calling g mk a) (Vm.Alike.refl U.vm) qO⟩, fun U hU hW => ⟨rfl, by rw [hU], by rw [hU]; exact hPc, va_K.moved hW.alike hK, hDc.weaken (fun _ _ _ _ => trivial), gN.warm hW hNs, gO.moved hW.alike hI⟩⟩ rfl hna hl.1 hst (lv_room hrest) hd hf) hS (fun q _ h => hFc q h) hFc (fun u t H1 locs1 ht hvm hw hB hz1 hk1 hS1 => ?_)
  have hB1 := hB.1
  rw [ht] at hB1
  obtain ⟨hP2, hD2⟩ := va_join (wr := gW (pZ n e) (E.1, A, E.2.2) zM) (w1 := gW (pZ nb u.2) (E.1, u.1, E.2.2) zM) hP (hD zM) [n] (List.range n) hs (by
    show _ = ((List.range n).map _).map some
    rw [List.map_map]
    exact List.map_congr_left (fun i hi => pW_at e E.1 A E.2.2 (Nat.lt_succ_of_lt (List.mem_range.mp hi)))) (nd_range n) (fun i hi => by have := List.mem_range.mp hi; simp; omega) hk1 hFc hB1 hB.2
  rw [← pW_app] at hP2 hD2
  exact kk u.1 u.2 hw.1 hw.2 (fun e2 => ⟨hx, hb, hml, hown, hTB, hK, fun σ => pD_e hD2, hA, rfl, hlocks, rfl, hh0, hNs⟩) H1 locs1 arr hn hP2 hS1 hl
end ZL
theorem xE_vEq {D : va_G} {cy : Nat → ClassId} {A A' : Nat → Nat} (hA : ∀ i, ¬ (195 ≤ i ∧ i ≤ 200) → A' i = A i) {i : Nat} (hi : i < 195) (ρ : Nat → Int32) : vEq (xE (D, A, cy) ρ i) (xE (D, A', cy) ρ i) := by
  have h5 : xk i = 5 → i + 3 < 195 := fun h => by
    rcases Nat.lt_or_ge i 45 with q | q
    · omega
    · exfalso
      unfold xk at h
      rw [if_neg (by omega), if_neg (by omega)] at h
      split at h <;> (try split at h) <;> (try split at h) <;> (try split at h) <;> omega
  have h10 : xk i = 10 → i + 1 < 195 := fun h => by
    rcases Nat.lt_or_ge i 190 with q | q
    · omega
    · exfalso
      unfold xk at h
      rw [if_neg (by omega), if_neg (by omega), if_neg (by omega), if_neg (by omega)] at h
      split at h <;> omega
  have h11 : xk i = 11 → i + 17 < 195 := fun h => by
    unfold xk at h
    split at h
    · omega
    · split at h
      · omega
      · split at h
        · omega
        · split at h
          · split at h
            · omega
            · split at h <;> omega
          · split at h <;> omega
  unfold xE
  generalize hx : xk i = x at h5 h10 h11
  match x, h5, h10, h11 with
  | 0, _, _, _ => left; show (Sum.inr _ : va_E) = Sum.inr _; dsimp only; rw [hA 1 (by omega), hA 45 (by omega), hA 190 (by omega)]
  | 1, _, _, _ => left; show (Sum.inr _ : va_E) = Sum.inr _; dsimp only; rw [hA 2 (by omega), hA 3 (by omega), hA 4 (by omega)]
  | 2, _, _, _ => exact Or.inl rfl
  | 3, _, _, _ => exact Or.inl rfl
  | 4, _, _, _ => exact Or.inr ⟨cy 2, 10, _, _, rfl, rfl, fun j hj => congrArg some (hA (iFlaw j) (by unfold iFlaw; omega)).symm⟩
  | 5, h, _, _ => left; have := h rfl; show (Sum.inr _ : va_E) = Sum.inr _; dsimp only; rw [hA (i + 1) (by omega), hA (i + 2) (by omega), hA (i + 3) (by omega)]
  | 6, _, _, _ => exact Or.inl rfl
  | 7, _, _, _ => exact Or.inl rfl
  | 8, _, _, _ => exact Or.inl rfl
  | 9, _, _, _ => exact Or.inr ⟨cy 4, 8, _, _, rfl, rfl, fun j hj => congrArg some (hA (iStone j) (by unfold iStone; omega)).symm⟩
  | 10, _, h, _ => left; have := h rfl; show (Sum.inr _ : va_E) = Sum.inr _; dsimp only; rw [hA (i + 1) (by omega)]
  | 11, _, _, h => have := h rfl; exact Or.inr ⟨cy 3, 16, _, _, rfl, rfl, fun j hj => congrArg some (hA (i + 1 + j) (by omega)).symm⟩
  | 12, _, _, _ => exact Or.inl rfl
  | 13, _, _, _ => left; show (Sum.inr _ : va_E) = Sum.inr _; dsimp only; rw [hA 1 (by omega), hA (iStone (ρ 1).toNatClampNeg) (by unfold iStone; omega), hA 191 (by omega), hA 192 (by omega), hA 193 (by omega), hA 194 (by omega)]
  | 14, _, _, _ => exact Or.inl rfl
  | 15, _, _, _ => exact Or.inl rfl
  | 16, _, _, _ => exact Or.inl rfl
  | x + 17, _, _, _ => exact Or.inl rfl
/-! the reference's memory at its start -/
theorem up_a (Z : Mem) : upd2 (upd2 (upd2 Z 0 7 1) 0 5 0) 0 7 1 = upd2 (upd2 Z 0 5 0) 0 7 1 := by
  funext i j
  by_cases hi : i = 0
  · subst hi
    by_cases h7 : j = 7
    · subst h7; rw [upd2_at, upd2_at]
    · rw [upd2_nj h7, upd2_nj h7]
      by_cases h5 : j = 5
      · subst h5; rw [upd2_at, upd2_at]
      · rw [upd2_nj h5, upd2_nj h5, upd2_nj h7]
  · rw [upd2_ni hi, upd2_ni hi, upd2_ni hi, upd2_ni hi, upd2_ni hi]
abbrev zS : Mem := upd2 (upd2 (upd2 zM 0 1 6) 0 2 6) 0 3 6
theorem up_b : upd2 (upd2 (upd2 (upd2 zS 0 7 1) 0 1 6) 0 2 6) 0 3 6 = upd2 zS 0 7 1 := by
  funext i j
  by_cases hi : i = 0
  · subst hi
    by_cases h3 : j = 3
    · subst h3; rw [upd2_at, upd2_nj (show (3 : Nat) ≠ 7 by decide)]; rfl
    · rw [upd2_nj h3]
      by_cases h2 : j = 2
      · subst h2; rw [upd2_at, upd2_nj (show (2 : Nat) ≠ 7 by decide)]; rfl
      · rw [upd2_nj h2]
        by_cases h1 : j = 1
        · subst h1; rw [upd2_at, upd2_nj (show (1 : Nat) ≠ 7 by decide)]; rfl
        · rw [upd2_nj h1]
  · rw [upd2_ni hi, upd2_ni hi, upd2_ni hi]
theorem up_c : gCells (upd2 zS 0 7 1) 1000 = upd2 (gCells zS 1000) 0 7 1 := by
  funext i j
  by_cases hi : i = 1
  · subst hi
    rw [upd2_ni (show (1 : Nat) ≠ 0 by decide)]
    have hs : ∀ x y z, sCell (upd2 zS 0 7 1) x y z = sCell zS x y z := fun x y z => by
      unfold sCell
      rw [upd2_nj (show (1 : Nat) ≠ 7 by decide), upd2_nj (show (2 : Nat) ≠ 7 by decide), upd2_nj (show (3 : Nat) ≠ 7 by decide)]
    have hv : upd2 zS 0 7 1 1 j = zS 1 j := by rw [upd2_ni (show (1 : Nat) ≠ 0 by decide)]
    show (if (1 : Nat) = 1 ∧ j < 1000 then (if sCell (upd2 zS 0 7 1) (kx j) (ky j) (kz j) = true then (0 : Int32) else -1) else upd2 zS 0 7 1 1 j) = (if (1 : Nat) = 1 ∧ j < 1000 then (if sCell zS (kx j) (ky j) (kz j) = true then (0 : Int32) else -1) else zS 1 j)
    rw [hs, hv]
  · have g1 : ∀ τ : Mem, ∀ j, gCells τ 1000 i j = τ i j := fun τ j => if_neg (fun h => hi h.1)
    rw [g1]
    by_cases h0 : i = 0
    · subst h0
      by_cases h7 : j = 7
      · subst h7; rw [upd2_at, upd2_at]
      · rw [upd2_nj h7, upd2_nj h7, g1]
    · rw [upd2_ni h0, upd2_ni h0, g1]
theorem tS_eq : gBegin zM 6 6 6 = gBegin (upd2 zS 0 7 1) 6 6 6 := by
  unfold gBegin
  rw [up_b, up_c, up_a]
theorem tS_RM : RM (gBegin zM 6 6 6) ∧ Fsh (gBegin zM 6 6 6) 6 6 6 := by
  rw [tS_eq]
  have hM : MI (upd2 zS 0 7 1) := by
    refine ⟨⟨6, by decide, by decide, rfl⟩, ⟨6, by decide, by decide, rfl⟩, ⟨6, by decide, by decide, rfl⟩, ⟨0, by decide, rfl⟩, ⟨1, by decide, by decide, rfl⟩, fun s hs => ⟨0, by decide, ?_⟩⟩
    rfl
  have h6 : M16 (upd2 zS 0 7 1) := fun s hs => by
    show (0 : Int32).toNatClampNeg ≤ 16
    decide
  exact beg_RM (t := upd2 zS 0 7 1) hM h6 (co := 6) (ro := 6) (la := 6) ⟨by decide, by decide⟩ ⟨by decide, by decide⟩ ⟨by decide, by decide⟩

