def hNew : Mem := fun i j => if j = 0 ∧ 46 ≤ i ∧ i < 190 ∧ (i - 46) % 18 = 0 then nI ((i - 46) / 18) else 0
theorem hN_j {i j : Nat} (h : j ≠ 0) : hNew i j = 0 := by simp [hNew, h]
theorem hN_row {i : Nat} (h : ¬ (46 ≤ i ∧ i < 190 ∧ (i - 46) % 18 = 0)) : hNew i = fun _ => 0 := by
  funext j
  unfold hNew
  rw [if_neg (fun hh => h hh.2)]
theorem hN_st {s : Nat} (h : s < 8) : hNew (iStone s) 0 = nI s := by
  unfold hNew iStone
  rw [if_pos ⟨rfl, by omega, by omega, by omega⟩]
  congr 1
  omega
/-- the parts that the constructors laid are the class's world -/
theorem asm {D : va_G} {cy : Nat → ClassId} {A : Nat → Nat} {e : Nat → va_E} (h0 : e 0 = .inr (5, [.ref (A 1), .ref (A 45), .ref (A 190), .int 0, .int 0, .int 0])) (hr : roQ cy (fun i => A (1 + i)) (fun i => e (1 + i))) (h45 : ∃ f : Nat → Option Nat, e 45 = .inl (cy 4, 8, .inr (.inr (.inr (.inr f)))) ∧ ∀ j, j < 8 → f j = some (A (46 + 18 * j))) (hs : ∀ j, j < 8 → stQ (nI j) cy (fun i => A (46 + 18 * j + i)) (fun i => e (46 + 18 * j + i))) (ht : trQ (A 1) (A 46) cy (fun i => A (190 + i)) (fun i => e (190 + i))) : ∀ i, i < 195 → vEq (e i) (wX.2 (D, A, cy) (hNew i) i) := by
  obtain ⟨r0, r1, r2, ⟨fr, r3, hfr⟩, rf⟩ := hr
  obtain ⟨f45, h45, hf45⟩ := h45
  obtain ⟨t0, t1, t2, t3, t4⟩ := ht
  intro i hi
  rcases Nat.lt_or_ge i 5 with h5 | h5
  · match i, h5 with
    | 0, _ => exact Or.inl h0
    | 1, _ => exact Or.inl r0
    | 2, _ => rw [xe_owner, hN_row (by omega)]; exact Or.inl r1
    | 3, _ => rw [xe_bare, hN_row (by omega)]; exact Or.inl r2
    | 4, _ =>
      rw [xe_flawsA]
      refine Or.inr ⟨_, _, _, _, r3, rfl, fun j hj => ?_⟩
      rw [hfr j hj, show iFlaw j = 1 + (4 + 4 * j) by unfold iFlaw; omega]
  · rcases Nat.lt_or_ge i 45 with h45' | h45'
    · obtain ⟨f, c, hf, hc, rfl⟩ : ∃ f c, f < 10 ∧ c < 4 ∧ i = iFlaw f + c := ⟨(i - 5) / 4, (i - 5) % 4, by omega, by omega, by unfold iFlaw; omega⟩
      obtain ⟨f0, f1, f2, f3⟩ := rf f hf
      have e1 : iFlaw f = 1 + (4 + 4 * f) := by unfold iFlaw; omega
      match c, hc with
      | 0, _ =>
        show vEq (e (iFlaw f)) (wX.2 (D, A, cy) (hNew (iFlaw f)) (iFlaw f))
        rw [xe_Flaw _ _ hf, hN_row (by omega), e1]
        exact Or.inl f0
      | 1, _ => rw [xe_FC _ _ hf, hN_row (by omega), e1]; exact Or.inl f1
      | 2, _ => rw [xe_FI _ _ hf, hN_row (by omega), e1]; exact Or.inl f2
      | 3, _ => rw [xe_FB _ _ hf, hN_row (by omega), e1]; exact Or.inl f3
    · rcases Nat.lt_or_ge i 46 with h46 | h46
      · obtain rfl : i = 45 := by omega
        rw [xe_stonesA]
        exact Or.inr ⟨_, _, _, _, h45, rfl, fun j hj => by rw [hf45 j hj]; rfl⟩
      · rcases Nat.lt_or_ge i 190 with h190 | h190
        · obtain ⟨s, c, hs8, hc, rfl⟩ : ∃ s c, s < 8 ∧ c < 18 ∧ i = iStone s + c := ⟨(i - 46) / 18, (i - 46) % 18, by omega, by omega, by unfold iStone; omega⟩
          obtain ⟨s0, ⟨fs, s1, hfs⟩, s2⟩ := hs s hs8
          match c, hc with
          | 0, _ =>
            show vEq (e (iStone s)) (wX.2 (D, A, cy) (hNew (iStone s)) (iStone s))
            rw [xe_Stone _ _ hs8, hN_st hs8, hN_j (by decide), hN_j (by decide), hN_j (by decide)]
            exact Or.inl s0
          | 1, _ =>
            rw [xe_Pls _ _ hs8]
            refine Or.inr ⟨_, _, _, _, s1, rfl, fun j hj => ?_⟩
            rw [hfs j hj, show iStone s + 1 + 1 + j = 46 + 18 * s + (2 + j) by unfold iStone; omega]
          | c + 2, hc2 =>
            have hx : xk (iStone s + (c + 2)) = 12 := by
              rw [show iStone s + (c + 2) = iPl s c by unfold iStone iPl; omega]
              exact xk_pl s hs8 c (by omega)
            rw [xe_Plane _ _ hx, hN_row (by unfold iStone; omega)]
            have h9 := s2 c (by omega)
            rw [show iStone s + (c + 2) = 46 + 18 * s + (2 + c) by unfold iStone; omega]
            exact Or.inl h9
        · match i, h190, hi with
          | 190, _, _ => exact Or.inl t0
          | 191, _, _ => rw [xe_Plane _ _ xk_tried, hN_row (by omega)]; exact Or.inl t1
          | 192, _, _ => rw [xe_heights, hN_row (by omega)]; exact Or.inl t2
          | 193, _, _ => rw [xe_upTo, hN_row (by omega)]; exact Or.inl t3
          | 194, _, _ => rw [xe_floors, hN_row (by omega)]; exact Or.inl t4
          | j + 195, _, h => exact absurd h (by omega)
section ZT
variable {l : Launch} {X : gC} {A : Nat → Nat} {n : Nat} {e : Nat → va_E} {cc : ByteArray} {own : String} {dd ca sa k m pc : Nat} {ls : List (Option Value)} {st : List Value}
theorem gW_pZ (Lw : gL) (E : gE) (σ : Mem) : gW Lw E σ = gW (pZ Lw.1 (fun i => Lw.2 E (σ i) i)) (E.1, E.2.1, E.2.2) zM := rfl
theorem z_gOk {Lw : gL} (hC : zOk l X A Lw.1 cc own dd ca sa) : gOk Lw l (sx X A) cc own dd ca sa := by
  obtain ⟨p, l', e', R, s, mm, args, below, meth, c, nL, H0, Af, E, Q⟩ := X
  obtain ⟨hx, hb, hml, hown, hTB, hK, hD, hA, hR, hlocks, hl', hh0, hNs⟩ := hC (fun _ => zP)
  exact ⟨hx, hb, hml, hown, hTB, hK, fun σ => pD_e (e' := fun i => Lw.2 (E.1, A, E.2.2) (σ i) i) (σ := zM) (σ' := zM) (hD zM), hA, hR, hlocks, hl', hh0, hNs⟩
theorem z_to {Lw : gL} (σ : Mem) (hn : Lw.1 = n) (h : ∀ i, i < n → vEq (e i) (Lw.2 (gEv (sx X A)) (σ i) i)) (kk : G Lw (sx X A) k m pc ls st σ) : G (pZ n e) (sx X A) k m pc ls st zM := by
  obtain ⟨p, l', e', R, s, mm, args, below, meth, c, nL, H0, Af, E, Q⟩ := X
  subst hn
  intro H locs arr hn2 hP hS hl
  refine kk H locs arr hn2 (fun i q hq => ?_) hS hl
  have hi : i < Lw.1 := by
    have := (List.getElem?_eq_some_iff.mp hq).1
    rwa [gW_len] at this
  have h1 := hP i _ (pW_at e E.1 A E.2.2 hi)
  have h2 := gW_at Lw (E.1, A, E.2.2) σ hi
  have hq : (gW Lw (E.1, A, E.2.2) σ)[i]? = some q := hq
  rw [h2] at hq
  cases hq
  exact (h i hi).at h1
theorem z_from {Lw : gL} (σ : Mem) (kk : G (pZ Lw.1 (fun i => Lw.2 (gEv (sx X A)) (σ i) i)) (sx X A) k m pc ls st zM) : G Lw (sx X A) k m pc ls st σ := by
  obtain ⟨p, l', e', R, s, mm, args, below, meth, c, nL, H0, Af, E, Q⟩ := X
  exact kk
theorem z_ald {i N j t0 a v : Nat} {f : Nat → Option Nat} {x : Int32} {ct : String} (hC : zOk l X A n cc own dd ca sa) (ha : A i = a) (hi : i < n) (he : e i = .inl (zY X t0, N, .inr (.inr (.inr (.inr f))))) (ht : ∀ cy, (gT cy)[t0]? = some (cy t0, .object ct)) (hx0 : x = nI j) (hj : j < N) (hN : N < 2 ^ 31) (hf : f j = some v) (hd : decode cc pc = .ok (.aaload, 1)) (kk : G (pZ n e) (sx X A) k m (pc + 1) ls (.ref v :: st) zM) : G (pZ n e) (sx X A) k m pc ls (.int x :: .ref a :: st) zM := by
  subst ha
  obtain ⟨p, l', e', R, s, mm, args, below, meth, c, nL, H0, Af, E, Q⟩ := X
  exact g_aald (i := i) (hC e) hi he ht hx0 hj hN hf hd kk
end ZT

