/-! a row of five made on the way: the reference's world with one cell more -/
def mE6 (E : gE) (ρ : Nat → Int32) (i : Nat) : va_E := if i = 5 then .inl (E.2.2 0, 5, .inl ρ) else mE E ρ i
def wM6 : gL := (6, mE6)
def upd5 (σ : Mem) : Mem := fun i j => if i = 5 then 0 else σ i j
def updR (σ : Mem) (i : Nat) (ρ : Nat → Int32) : Mem := fun a => if a = i then ρ else σ a
theorem gW_congr {Lw : gL} {E : gE} {σ σ' : Mem} (h : ∀ i, i < Lw.1 → σ i = σ' i) : gW Lw E σ = gW Lw E σ' := by
  apply List.ext_getElem?
  intro q
  by_cases hq : q < Lw.1
  · rw [gW_at _ _ _ hq, gW_at _ _ _ hq, h q hq]
  · rw [List.getElem?_eq_none (by rw [gW_len]; omega), List.getElem?_eq_none (by rw [gW_len]; omega)]
/-- only the cells of the world count -/
theorem g_mem {Lw : gL} {X : gC} {k n pc : Nat} {ls : List (Option Value)} {st : List Value} {σ : Mem} (σ' : Mem) (h : ∀ i, i < Lw.1 → σ i = σ' i) (kk : G Lw X k n pc ls st σ') : G Lw X k n pc ls st σ := by
  obtain ⟨p, l', e, R, s, m, args, below, meth, c, nL, H0, A, E, Q⟩ := X
  exact fun H locs arr hn hP hS hl => kk H locs arr hn (by rw [← gW_congr h]; exact hP) hS hl
theorem gW_setR {Lw : gL} {E : gE} {σ : Mem} {i : Nat} {ρ : Nat → Int32} {e : va_E} (h : i < Lw.1) (he : Lw.2 E ρ i = e) : (gW Lw E σ).set i (E.2.1 i, e) = gW Lw E (updR σ i ρ) := by
  apply List.ext_getElem?
  intro q
  by_cases hq : q < Lw.1
  · rw [gW_at _ _ _ hq, List.getElem?_set]
    by_cases hqi : i = q
    · subst hqi
      rw [if_pos rfl, if_pos (by rw [gW_len]; exact h)]
      simp [updR, he]
    · rw [if_neg hqi, gW_at _ _ _ hq]
      simp [updR, show ¬ q = i from fun z => hqi z.symm]
  · rw [List.getElem?_eq_none (by rw [List.length_set, gW_len]; omega), List.getElem?_eq_none (by rw [gW_len]; omega)]
theorem gW6 (E : gE) (q : Nat) (σ : Mem) : gW wM6 (E.1, (fun i => if i = 5 then q else E.2.1 i), E.2.2) σ = gW wM E σ ++ [(q, .inl (E.2.2 0, 5, .inl (σ 5)))] := by
  apply List.ext_getElem?
  intro i
  rcases Nat.lt_or_ge i 5 with h | h
  · rw [gW_at _ _ _ (show i < wM6.1 by show i < 6; omega), List.getElem?_append_left (by rw [gW_len]; exact h), gW_at _ _ _ (show i < wM.1 by exact h)]
    have h5 : ¬ i = 5 := by omega
    show some (_, mE6 _ _ _) = some (_, mE _ _ _)
    simp only [mE6, h5, if_false]
    match i, h with
    | 0, _ => rfl
    | 1, _ => rfl
    | 2, _ => rfl
    | 3, _ => rfl
    | 4, _ => rfl
  · rcases Nat.lt_or_ge i 6 with h6 | h6
    · obtain rfl : i = 5 := by omega
      rw [gW_at _ _ _ (show 5 < wM6.1 by show 5 < 6; omega), List.getElem?_append_right (by rw [gW_len]; exact h), gW_len]
      rfl
    · rw [List.getElem?_eq_none (by rw [gW_len]; exact h6), List.getElem?_eq_none (by rw [List.length_append, gW_len]; exact h6)]

theorem g_newM {l : Launch} {X : gC} {cc : ByteArray} {own : String} {dd ca sa k n pc : Nat} {ls : List (Option Value)} {st : List Value} {σ : Mem} (hC : gOk wM l X cc own dd ca sa) (hd : decode cc pc = .ok (.newarray .int, 2)) (hf : k + 1 ≤ ca ∧ n + 5 ≤ sa)
    (kk : ∀ (X1 : gC), gOk wM6 l X1 cc own dd ca sa → (∀ i, i < 5 → gA X1 i = gA X i) → (∀ (k n pc : Nat) (ls : List (Option Value)) (st : List Value) (σ : Mem), G wM X k n pc ls st σ → G wM6 X1 k n pc ls st σ) → G wM6 X1 (k + 1) (n + 5) (pc + 2) ls (.ref (gA X1 5) :: st) (upd5 σ)) : G wM X k n pc ls (.int 5 :: st) σ := by
  obtain ⟨p, l', e, R, s, m, args, below, meth, c, nL, H0, A, E, Q⟩ := X
  obtain ⟨hx, hb, hml, hown, hTB, hK, hD, hA, hR, hlocks, rfl, hh0, hNs⟩ := hC
  subst hR
  intro H locs arr hn hP hS hl
  refine va_newa (atype := .int) (ty := .int) (N' := 5) (a0 := (5, .inl (fun _ => 0))) hx hb (hTB _ tw_1_57) rfl hK hP (hD σ) hS hA (fun cA => rfl) (by decide) (by decide) (by decide) hf.1 hf.2 hd ?_
  intro q cA H1 hK1 hP1 hD1 hS1
  have hcA : cA = E.2.2 0 := by
    have h1 := (hK.2 0 _ rfl).2
    have h2 := (hK1.2 6 (cA, .int) rfl).2
    exact Option.some.inj (h2.symm.trans h1)
  subst hcA
  have hw : gW wM6 (E.1, (fun i => if i = 5 then q else E.2.1 i), E.2.2) (upd5 σ) = gW wM E σ ++ [(q, .inl (E.2.2 0, 5, .inl (fun _ => 0)))] := by
    rw [gW6, gW_congr (σ := upd5 σ) (σ' := σ) (fun i hi => by
      have hi5 : i < 5 := hi
      funext j; simp [upd5, show ¬ i = 5 by omega])]
    rfl
  refine kk (p, l', e, gR dd ca sa, s, m, args, below, meth, c, nL, H0, A, (E.1, (fun i => if i = 5 then q else E.2.1 i), E.2.2), Q) ⟨hx, hb, hml, hown, hTB, hK, fun σ1 => gW_fix (σ := upd5 σ) (by rw [hw]; exact hD1) σ1, hA, rfl, hlocks, rfl, hh0, hNs⟩ (fun i hi => ?_) (fun k1 n1 pc1 ls1 st1 σ1 h H2 locs2 arr2 hn2 hP2 hS2 hl2 => h H2 locs2 arr2 hn2 (fun i x hx1 => hP2 i x ?_) hS2 hl2) H1 locs arr hn (by rw [hw]; exact hP1) hS1 hl
  · show (if i = 5 then q else E.2.1 i) = E.2.1 i
    rw [if_neg (by omega)]
  · rw [gW6, List.getElem?_append_left (List.getElem?_eq_some_iff.mp hx1).1]
    exact hx1
theorem g_copy5 {Lw : gL} {l : Launch} {X : gC} {cc : ByteArray} {own : String} {dd ca sa k n pc : Nat} {ls : List (Option Value)} {st : List Value} {σ : Mem} {i j M dp idx : Nat} {f g : Nat → Int32} {x : Int32} (hC : gOk Lw l X cc own dd ca sa) (hdd : 1 ≤ dd) (hlk : Cond.methodLink own idx arraycopyName ∈ TB) (hi : i < Lw.1) (hj : j < Lw.1) (he : Lw.2 (gEv X) (σ i) i = .inl ((gEv X).2.2 0, 5, .inl f)) (he2 : Lw.2 (gEv X) (σ j) j = .inl ((gEv X).2.2 0, M, .inl g)) (hx0 : x = nI dp) (hM : dp + 5 ≤ M) (hM2 : M < 2 ^ 31) (he3 : Lw.2 (gEv X) (va_cpy f g 0 dp 5) j = .inl ((gEv X).2.2 0, M, .inl (va_cpy f g 0 dp 5))) (hrest : (st.map fun v => v.category).sum ≤ 8) (hd : decode cc pc = .ok (.invokestatic idx, 3)) (kk : G Lw X k n (pc + 3) ls st (updR σ j (va_cpy f g 0 dp 5))) : G Lw X k n pc ls (.int 5 :: .int x :: .ref (gA X j) :: .int 0 :: .ref (gA X i) :: st) σ := by
  obtain ⟨p, l', e, R, s, m, args, below, meth, c, nL, H0, A, E, Q⟩ := X
  obtain ⟨hx, hb, hml, hown, hTB, hK, hD, hA, hR, hlocks, rfl, hh0, hNs⟩ := hC
  subst hR
  subst hx0
  have hcl : (nI dp).toNatClampNeg = dp := nI_clamp (by omega)
  have hh3 : Lw.2 E (va_cpy f g 0 dp 5) j = .inl (E.2.2 0, M, .inl (va_cpy f g 0 dp 5)) := he3
  refine fun H locs arr hn hP hS hl => va_copyi hx hb (hml.trans hl.1.symm) hown (hTB _ hlk) (hTB _ tw_4_77) (hTB _ tw_4_76) (hTB _ tw_1_15) hK hP (hD σ) hS i j 0 0 (f := f) (g := g) (n0 := 5) (n1 := M) (ty := .int) (by rw [gW_at _ _ _ hi]; exact congrArg (fun z => some (E.2.1 i, z)) he) (by rw [gW_at _ _ _ hj]; exact congrArg (fun z => some (E.2.1 j, z)) he2) rfl rfl rfl (by decide) (nI_pos (by omega)) (by decide) (by decide) (by rw [hcl]; exact hM) (fun _ _ => rfl) hdd ?_ hd (fun H1 locs1 hP1 _ hS1 => kk H1 locs1 arr hn ?_ hS1 hl)
  · have h1 : nativeFrameWords "java/lang/System" "arraycopy" 5 ≤ 20 := by decide
    show _ ≤ 40 * dd
    omega
  · rw [← gW_setR hj hh3]
    rw [hcl] at hP1
    exact hP1
theorem ne_Model (E : gE) (ρ : Nat → Int32) : wM6.2 E ρ 0 = .inr (6, [.int (ρ 0), .int (ρ 1), .int (ρ 2), .int (ρ 3), .ref (E.2.1 1), .int (ρ 5), .ref (E.2.1 2), .int (ρ 7), .ref (E.2.1 3), .ref (E.2.1 4), .int (ρ 10), .int (ρ 11)]) := rfl
theorem ne_cells (E : gE) (ρ : Nat → Int32) : wM6.2 E ρ 1 = .inl (E.2.2 0, 1000, .inl ρ) := rfl
theorem ne_flawTable (E : gE) (ρ : Nat → Int32) : wM6.2 E ρ 2 = .inl (E.2.2 0, 50, .inl ρ) := rfl
theorem ne_planeTable (E : gE) (ρ : Nat → Int32) : wM6.2 E ρ 3 = .inl (E.2.2 0, 680, .inl ρ) := rfl
theorem ne_many (E : gE) (ρ : Nat → Int32) : wM6.2 E ρ 4 = .inl (E.2.2 0, 8, .inl ρ) := rfl
theorem ne_tmp (E : gE) (ρ : Nat → Int32) : wM6.2 E ρ 5 = .inl (E.2.2 0, 5, .inl ρ) := rfl
theorem ng_Model_thrown {l : Launch} {X : gC} {cc : ByteArray} {own : String} {dd ca sa k n pc : Nat} {ls : List (Option Value)} {st : List Value} {σ : Mem} {idx : Nat}  (hC : gOk wM6 l X cc own dd ca sa)  (hlk : Cond.fieldLink own idx "GemCutModel" "thrown" "I" ∈ TB) (hd : decode cc pc = .ok (.getfield idx, 3)) (kk : G wM6 X k n (pc + 3) ls (.int (σ (0) 0) :: st) σ) : G wM6 X k n pc ls (.ref (gA X (0)) :: st) σ := g_get hC iw_X6 rfl (by decide) (ne_Model _ _) 0 (by decide) hlk rfl hd kk
theorem np_Model_thrown {l : Launch} {X : gC} {cc : ByteArray} {own : String} {dd ca sa k n pc : Nat} {ls : List (Option Value)} {st : List Value} {σ : Mem} {idx : Nat} {x : Int32}  (hC : gOk wM6 l X cc own dd ca sa)  (hlk : Cond.fieldLink own idx "GemCutModel" "thrown" "I" ∈ TB) (hd : decode cc pc = .ok (.putfield idx, 3)) (kk : G wM6 X k n (pc + 3) ls st (upd2 σ (0) 0 x)) : G wM6 X k n pc ls (.int x :: .ref (gA X (0)) :: st) σ := g_put (ty := .int) tyX6 hC iw_X6 tyX6_ok nmX6 rfl (by decide) (ne_Model _ _) 0 (by decide) hlk rfl (by decide +kernel) rfl rfl (Nat.le_of_ble_eq_true rfl) (by rw [ne_Model _ _]; rfl) hd kk
theorem ng_Model_columns {l : Launch} {X : gC} {cc : ByteArray} {own : String} {dd ca sa k n pc : Nat} {ls : List (Option Value)} {st : List Value} {σ : Mem} {idx : Nat}  (hC : gOk wM6 l X cc own dd ca sa)  (hlk : Cond.fieldLink own idx "GemCutModel" "columns" "I" ∈ TB) (hd : decode cc pc = .ok (.getfield idx, 3)) (kk : G wM6 X k n (pc + 3) ls (.int (σ (0) 1) :: st) σ) : G wM6 X k n pc ls (.ref (gA X (0)) :: st) σ := g_get hC iw_X6 rfl (by decide) (ne_Model _ _) 1 (by decide) hlk rfl hd kk
theorem np_Model_columns {l : Launch} {X : gC} {cc : ByteArray} {own : String} {dd ca sa k n pc : Nat} {ls : List (Option Value)} {st : List Value} {σ : Mem} {idx : Nat} {x : Int32}  (hC : gOk wM6 l X cc own dd ca sa)  (hlk : Cond.fieldLink own idx "GemCutModel" "columns" "I" ∈ TB) (hd : decode cc pc = .ok (.putfield idx, 3)) (kk : G wM6 X k n (pc + 3) ls st (upd2 σ (0) 1 x)) : G wM6 X k n pc ls (.int x :: .ref (gA X (0)) :: st) σ := g_put (ty := .int) tyX6 hC iw_X6 tyX6_ok nmX6 rfl (by decide) (ne_Model _ _) 1 (by decide) hlk rfl (by decide +kernel) rfl rfl (Nat.le_of_ble_eq_true rfl) (by rw [ne_Model _ _]; rfl) hd kk
theorem ng_Model_rows {l : Launch} {X : gC} {cc : ByteArray} {own : String} {dd ca sa k n pc : Nat} {ls : List (Option Value)} {st : List Value} {σ : Mem} {idx : Nat}  (hC : gOk wM6 l X cc own dd ca sa)  (hlk : Cond.fieldLink own idx "GemCutModel" "rows" "I" ∈ TB) (hd : decode cc pc = .ok (.getfield idx, 3)) (kk : G wM6 X k n (pc + 3) ls (.int (σ (0) 2) :: st) σ) : G wM6 X k n pc ls (.ref (gA X (0)) :: st) σ := g_get hC iw_X6 rfl (by decide) (ne_Model _ _) 2 (by decide) hlk rfl hd kk
theorem np_Model_rows {l : Launch} {X : gC} {cc : ByteArray} {own : String} {dd ca sa k n pc : Nat} {ls : List (Option Value)} {st : List Value} {σ : Mem} {idx : Nat} {x : Int32}  (hC : gOk wM6 l X cc own dd ca sa)  (hlk : Cond.fieldLink own idx "GemCutModel" "rows" "I" ∈ TB) (hd : decode cc pc = .ok (.putfield idx, 3)) (kk : G wM6 X k n (pc + 3) ls st (upd2 σ (0) 2 x)) : G wM6 X k n pc ls (.int x :: .ref (gA X (0)) :: st) σ := g_put (ty := .int) tyX6 hC iw_X6 tyX6_ok nmX6 rfl (by decide) (ne_Model _ _) 2 (by decide) hlk rfl (by decide +kernel) rfl rfl (Nat.le_of_ble_eq_true rfl) (by rw [ne_Model _ _]; rfl) hd kk
theorem ng_Model_layers {l : Launch} {X : gC} {cc : ByteArray} {own : String} {dd ca sa k n pc : Nat} {ls : List (Option Value)} {st : List Value} {σ : Mem} {idx : Nat}  (hC : gOk wM6 l X cc own dd ca sa)  (hlk : Cond.fieldLink own idx "GemCutModel" "layers" "I" ∈ TB) (hd : decode cc pc = .ok (.getfield idx, 3)) (kk : G wM6 X k n (pc + 3) ls (.int (σ (0) 3) :: st) σ) : G wM6 X k n pc ls (.ref (gA X (0)) :: st) σ := g_get hC iw_X6 rfl (by decide) (ne_Model _ _) 3 (by decide) hlk rfl hd kk
theorem np_Model_layers {l : Launch} {X : gC} {cc : ByteArray} {own : String} {dd ca sa k n pc : Nat} {ls : List (Option Value)} {st : List Value} {σ : Mem} {idx : Nat} {x : Int32}  (hC : gOk wM6 l X cc own dd ca sa)  (hlk : Cond.fieldLink own idx "GemCutModel" "layers" "I" ∈ TB) (hd : decode cc pc = .ok (.putfield idx, 3)) (kk : G wM6 X k n (pc + 3) ls st (upd2 σ (0) 3 x)) : G wM6 X k n pc ls (.int x :: .ref (gA X (0)) :: st) σ := g_put (ty := .int) tyX6 hC iw_X6 tyX6_ok nmX6 rfl (by decide) (ne_Model _ _) 3 (by decide) hlk rfl (by decide +kernel) rfl rfl (Nat.le_of_ble_eq_true rfl) (by rw [ne_Model _ _]; rfl) hd kk
theorem ng_Model_cells {l : Launch} {X : gC} {cc : ByteArray} {own : String} {dd ca sa k n pc : Nat} {ls : List (Option Value)} {st : List Value} {σ : Mem} {idx : Nat}  (hC : gOk wM6 l X cc own dd ca sa)  (hlk : Cond.fieldLink own idx "GemCutModel" "cells" "[I" ∈ TB) (hd : decode cc pc = .ok (.getfield idx, 3)) (kk : G wM6 X k n (pc + 3) ls (.ref (gA X (1)) :: st) σ) : G wM6 X k n pc ls (.ref (gA X (0)) :: st) σ := g_get hC iw_X6 rfl (by decide) (ne_Model _ _) 4 (by decide) hlk rfl hd kk
theorem ng_Model_flaws {l : Launch} {X : gC} {cc : ByteArray} {own : String} {dd ca sa k n pc : Nat} {ls : List (Option Value)} {st : List Value} {σ : Mem} {idx : Nat}  (hC : gOk wM6 l X cc own dd ca sa)  (hlk : Cond.fieldLink own idx "GemCutModel" "flaws" "I" ∈ TB) (hd : decode cc pc = .ok (.getfield idx, 3)) (kk : G wM6 X k n (pc + 3) ls (.int (σ (0) 5) :: st) σ) : G wM6 X k n pc ls (.ref (gA X (0)) :: st) σ := g_get hC iw_X6 rfl (by decide) (ne_Model _ _) 5 (by decide) hlk rfl hd kk
theorem np_Model_flaws {l : Launch} {X : gC} {cc : ByteArray} {own : String} {dd ca sa k n pc : Nat} {ls : List (Option Value)} {st : List Value} {σ : Mem} {idx : Nat} {x : Int32}  (hC : gOk wM6 l X cc own dd ca sa)  (hlk : Cond.fieldLink own idx "GemCutModel" "flaws" "I" ∈ TB) (hd : decode cc pc = .ok (.putfield idx, 3)) (kk : G wM6 X k n (pc + 3) ls st (upd2 σ (0) 5 x)) : G wM6 X k n pc ls (.int x :: .ref (gA X (0)) :: st) σ := g_put (ty := .int) tyX6 hC iw_X6 tyX6_ok nmX6 rfl (by decide) (ne_Model _ _) 5 (by decide) hlk rfl (by decide +kernel) rfl rfl (Nat.le_of_ble_eq_true rfl) (by rw [ne_Model _ _]; rfl) hd kk
theorem ng_Model_flawTable {l : Launch} {X : gC} {cc : ByteArray} {own : String} {dd ca sa k n pc : Nat} {ls : List (Option Value)} {st : List Value} {σ : Mem} {idx : Nat}  (hC : gOk wM6 l X cc own dd ca sa)  (hlk : Cond.fieldLink own idx "GemCutModel" "flawTable" "[I" ∈ TB) (hd : decode cc pc = .ok (.getfield idx, 3)) (kk : G wM6 X k n (pc + 3) ls (.ref (gA X (2)) :: st) σ) : G wM6 X k n pc ls (.ref (gA X (0)) :: st) σ := g_get hC iw_X6 rfl (by decide) (ne_Model _ _) 6 (by decide) hlk rfl hd kk
theorem ng_Model_stones {l : Launch} {X : gC} {cc : ByteArray} {own : String} {dd ca sa k n pc : Nat} {ls : List (Option Value)} {st : List Value} {σ : Mem} {idx : Nat}  (hC : gOk wM6 l X cc own dd ca sa)  (hlk : Cond.fieldLink own idx "GemCutModel" "stones" "I" ∈ TB) (hd : decode cc pc = .ok (.getfield idx, 3)) (kk : G wM6 X k n (pc + 3) ls (.int (σ (0) 7) :: st) σ) : G wM6 X k n pc ls (.ref (gA X (0)) :: st) σ := g_get hC iw_X6 rfl (by decide) (ne_Model _ _) 7 (by decide) hlk rfl hd kk
theorem np_Model_stones {l : Launch} {X : gC} {cc : ByteArray} {own : String} {dd ca sa k n pc : Nat} {ls : List (Option Value)} {st : List Value} {σ : Mem} {idx : Nat} {x : Int32}  (hC : gOk wM6 l X cc own dd ca sa)  (hlk : Cond.fieldLink own idx "GemCutModel" "stones" "I" ∈ TB) (hd : decode cc pc = .ok (.putfield idx, 3)) (kk : G wM6 X k n (pc + 3) ls st (upd2 σ (0) 7 x)) : G wM6 X k n pc ls (.int x :: .ref (gA X (0)) :: st) σ := g_put (ty := .int) tyX6 hC iw_X6 tyX6_ok nmX6 rfl (by decide) (ne_Model _ _) 7 (by decide) hlk rfl (by decide +kernel) rfl rfl (Nat.le_of_ble_eq_true rfl) (by rw [ne_Model _ _]; rfl) hd kk
theorem ng_Model_planeTable {l : Launch} {X : gC} {cc : ByteArray} {own : String} {dd ca sa k n pc : Nat} {ls : List (Option Value)} {st : List Value} {σ : Mem} {idx : Nat}  (hC : gOk wM6 l X cc own dd ca sa)  (hlk : Cond.fieldLink own idx "GemCutModel" "planeTable" "[I" ∈ TB) (hd : decode cc pc = .ok (.getfield idx, 3)) (kk : G wM6 X k n (pc + 3) ls (.ref (gA X (3)) :: st) σ) : G wM6 X k n pc ls (.ref (gA X (0)) :: st) σ := g_get hC iw_X6 rfl (by decide) (ne_Model _ _) 8 (by decide) hlk rfl hd kk
theorem ng_Model_many {l : Launch} {X : gC} {cc : ByteArray} {own : String} {dd ca sa k n pc : Nat} {ls : List (Option Value)} {st : List Value} {σ : Mem} {idx : Nat}  (hC : gOk wM6 l X cc own dd ca sa)  (hlk : Cond.fieldLink own idx "GemCutModel" "many" "[I" ∈ TB) (hd : decode cc pc = .ok (.getfield idx, 3)) (kk : G wM6 X k n (pc + 3) ls (.ref (gA X (4)) :: st) σ) : G wM6 X k n pc ls (.ref (gA X (0)) :: st) σ := g_get hC iw_X6 rfl (by decide) (ne_Model _ _) 9 (by decide) hlk rfl hd kk
theorem ng_Model_wheel {l : Launch} {X : gC} {cc : ByteArray} {own : String} {dd ca sa k n pc : Nat} {ls : List (Option Value)} {st : List Value} {σ : Mem} {idx : Nat}  (hC : gOk wM6 l X cc own dd ca sa)  (hlk : Cond.fieldLink own idx "GemCutModel" "wheel" "I" ∈ TB) (hd : decode cc pc = .ok (.getfield idx, 3)) (kk : G wM6 X k n (pc + 3) ls (.int (σ (0) 10) :: st) σ) : G wM6 X k n pc ls (.ref (gA X (0)) :: st) σ := g_get hC iw_X6 rfl (by decide) (ne_Model _ _) 10 (by decide) hlk rfl hd kk
theorem np_Model_wheel {l : Launch} {X : gC} {cc : ByteArray} {own : String} {dd ca sa k n pc : Nat} {ls : List (Option Value)} {st : List Value} {σ : Mem} {idx : Nat} {x : Int32}  (hC : gOk wM6 l X cc own dd ca sa)  (hlk : Cond.fieldLink own idx "GemCutModel" "wheel" "I" ∈ TB) (hd : decode cc pc = .ok (.putfield idx, 3)) (kk : G wM6 X k n (pc + 3) ls st (upd2 σ (0) 10 x)) : G wM6 X k n pc ls (.int x :: .ref (gA X (0)) :: st) σ := g_put (ty := .int) tyX6 hC iw_X6 tyX6_ok nmX6 rfl (by decide) (ne_Model _ _) 10 (by decide) hlk rfl (by decide +kernel) rfl rfl (Nat.le_of_ble_eq_true rfl) (by rw [ne_Model _ _]; rfl) hd kk
theorem ng_Model_spent {l : Launch} {X : gC} {cc : ByteArray} {own : String} {dd ca sa k n pc : Nat} {ls : List (Option Value)} {st : List Value} {σ : Mem} {idx : Nat}  (hC : gOk wM6 l X cc own dd ca sa)  (hlk : Cond.fieldLink own idx "GemCutModel" "spent" "I" ∈ TB) (hd : decode cc pc = .ok (.getfield idx, 3)) (kk : G wM6 X k n (pc + 3) ls (.int (σ (0) 11) :: st) σ) : G wM6 X k n pc ls (.ref (gA X (0)) :: st) σ := g_get hC iw_X6 rfl (by decide) (ne_Model _ _) 11 (by decide) hlk rfl hd kk
theorem np_Model_spent {l : Launch} {X : gC} {cc : ByteArray} {own : String} {dd ca sa k n pc : Nat} {ls : List (Option Value)} {st : List Value} {σ : Mem} {idx : Nat} {x : Int32}  (hC : gOk wM6 l X cc own dd ca sa)  (hlk : Cond.fieldLink own idx "GemCutModel" "spent" "I" ∈ TB) (hd : decode cc pc = .ok (.putfield idx, 3)) (kk : G wM6 X k n (pc + 3) ls st (upd2 σ (0) 11 x)) : G wM6 X k n pc ls (.int x :: .ref (gA X (0)) :: st) σ := g_put (ty := .int) tyX6 hC iw_X6 tyX6_ok nmX6 rfl (by decide) (ne_Model _ _) 11 (by decide) hlk rfl (by decide +kernel) rfl rfl (Nat.le_of_ble_eq_true rfl) (by rw [ne_Model _ _]; rfl) hd kk
theorem nl_cells {l : Launch} {X : gC} {cc : ByteArray} {own : String} {dd ca sa k n pc : Nat} {ls : List (Option Value)} {st : List Value} {σ : Mem} {x : Int32} (j : Nat)  (hC : gOk wM6 l X cc own dd ca sa)  (hx0 : x = nI j) (hj : j < 1000) (hd : decode cc pc = .ok (.iaload, 1)) (kk : G wM6 X k n (pc + 1) ls (.int (σ (1) j) :: st) σ) : G wM6 X k n pc ls (.int x :: .ref (gA X (1)) :: st) σ := g_iald hC (by decide) (ne_cells _ _) hx0 hj (by decide) hd kk
theorem ns_cells {l : Launch} {X : gC} {cc : ByteArray} {own : String} {dd ca sa k n pc : Nat} {ls : List (Option Value)} {st : List Value} {σ : Mem} {x y : Int32} (j : Nat)  (hC : gOk wM6 l X cc own dd ca sa)  (hx0 : x = nI j) (hj : j < 1000) (hd : decode cc pc = .ok (.iastore, 1)) (kk : G wM6 X k n (pc + 1) ls st (upd2 σ (1) j y)) : G wM6 X k n pc ls (.int y :: .int x :: .ref (gA X (1)) :: st) σ := g_iast hC (by decide) (ne_cells _ _) hx0 hj (by decide) (ne_cells _ _) hd kk
theorem nl_flawTable {l : Launch} {X : gC} {cc : ByteArray} {own : String} {dd ca sa k n pc : Nat} {ls : List (Option Value)} {st : List Value} {σ : Mem} {x : Int32} (j : Nat)  (hC : gOk wM6 l X cc own dd ca sa)  (hx0 : x = nI j) (hj : j < 50) (hd : decode cc pc = .ok (.iaload, 1)) (kk : G wM6 X k n (pc + 1) ls (.int (σ (2) j) :: st) σ) : G wM6 X k n pc ls (.int x :: .ref (gA X (2)) :: st) σ := g_iald hC (by decide) (ne_flawTable _ _) hx0 hj (by decide) hd kk
theorem ns_flawTable {l : Launch} {X : gC} {cc : ByteArray} {own : String} {dd ca sa k n pc : Nat} {ls : List (Option Value)} {st : List Value} {σ : Mem} {x y : Int32} (j : Nat)  (hC : gOk wM6 l X cc own dd ca sa)  (hx0 : x = nI j) (hj : j < 50) (hd : decode cc pc = .ok (.iastore, 1)) (kk : G wM6 X k n (pc + 1) ls st (upd2 σ (2) j y)) : G wM6 X k n pc ls (.int y :: .int x :: .ref (gA X (2)) :: st) σ := g_iast hC (by decide) (ne_flawTable _ _) hx0 hj (by decide) (ne_flawTable _ _) hd kk
theorem nl_planeTable {l : Launch} {X : gC} {cc : ByteArray} {own : String} {dd ca sa k n pc : Nat} {ls : List (Option Value)} {st : List Value} {σ : Mem} {x : Int32} (j : Nat)  (hC : gOk wM6 l X cc own dd ca sa)  (hx0 : x = nI j) (hj : j < 680) (hd : decode cc pc = .ok (.iaload, 1)) (kk : G wM6 X k n (pc + 1) ls (.int (σ (3) j) :: st) σ) : G wM6 X k n pc ls (.int x :: .ref (gA X (3)) :: st) σ := g_iald hC (by decide) (ne_planeTable _ _) hx0 hj (by decide) hd kk
theorem ns_planeTable {l : Launch} {X : gC} {cc : ByteArray} {own : String} {dd ca sa k n pc : Nat} {ls : List (Option Value)} {st : List Value} {σ : Mem} {x y : Int32} (j : Nat)  (hC : gOk wM6 l X cc own dd ca sa)  (hx0 : x = nI j) (hj : j < 680) (hd : decode cc pc = .ok (.iastore, 1)) (kk : G wM6 X k n (pc + 1) ls st (upd2 σ (3) j y)) : G wM6 X k n pc ls (.int y :: .int x :: .ref (gA X (3)) :: st) σ := g_iast hC (by decide) (ne_planeTable _ _) hx0 hj (by decide) (ne_planeTable _ _) hd kk
theorem nl_many {l : Launch} {X : gC} {cc : ByteArray} {own : String} {dd ca sa k n pc : Nat} {ls : List (Option Value)} {st : List Value} {σ : Mem} {x : Int32} (j : Nat)  (hC : gOk wM6 l X cc own dd ca sa)  (hx0 : x = nI j) (hj : j < 8) (hd : decode cc pc = .ok (.iaload, 1)) (kk : G wM6 X k n (pc + 1) ls (.int (σ (4) j) :: st) σ) : G wM6 X k n pc ls (.int x :: .ref (gA X (4)) :: st) σ := g_iald hC (by decide) (ne_many _ _) hx0 hj (by decide) hd kk
theorem ns_many {l : Launch} {X : gC} {cc : ByteArray} {own : String} {dd ca sa k n pc : Nat} {ls : List (Option Value)} {st : List Value} {σ : Mem} {x y : Int32} (j : Nat)  (hC : gOk wM6 l X cc own dd ca sa)  (hx0 : x = nI j) (hj : j < 8) (hd : decode cc pc = .ok (.iastore, 1)) (kk : G wM6 X k n (pc + 1) ls st (upd2 σ (4) j y)) : G wM6 X k n pc ls (.int y :: .int x :: .ref (gA X (4)) :: st) σ := g_iast hC (by decide) (ne_many _ _) hx0 hj (by decide) (ne_many _ _) hd kk
theorem nl_tmp {l : Launch} {X : gC} {cc : ByteArray} {own : String} {dd ca sa k n pc : Nat} {ls : List (Option Value)} {st : List Value} {σ : Mem} {x : Int32} (j : Nat)  (hC : gOk wM6 l X cc own dd ca sa)  (hx0 : x = nI j) (hj : j < 5) (hd : decode cc pc = .ok (.iaload, 1)) (kk : G wM6 X k n (pc + 1) ls (.int (σ (5) j) :: st) σ) : G wM6 X k n pc ls (.int x :: .ref (gA X (5)) :: st) σ := g_iald hC (by decide) (ne_tmp _ _) hx0 hj (by decide) hd kk
theorem ns_tmp {l : Launch} {X : gC} {cc : ByteArray} {own : String} {dd ca sa k n pc : Nat} {ls : List (Option Value)} {st : List Value} {σ : Mem} {x y : Int32} (j : Nat)  (hC : gOk wM6 l X cc own dd ca sa)  (hx0 : x = nI j) (hj : j < 5) (hd : decode cc pc = .ok (.iastore, 1)) (kk : G wM6 X k n (pc + 1) ls st (upd2 σ (5) j y)) : G wM6 X k n pc ls (.int y :: .int x :: .ref (gA X (5)) :: st) σ := g_iast hC (by decide) (ne_tmp _ _) hx0 hj (by decide) (ne_tmp _ _) hd kk
