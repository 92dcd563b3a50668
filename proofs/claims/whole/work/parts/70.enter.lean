set_option maxRecDepth 100000 in
set_option maxHeartbeats 4000000 in
theorem lw_pre {l : Launch} {X : gC} {b L : Nat} {xs : Nat → Int32} (hst : l.stackTraces = false) (hC : zOk l X (fun _ => 0) 0 cL_law "GemCutLaw" 10 601024 7293033) (hO : zO X) (hZ : gZY X) (hN : gNcX X) (hS : gScr X b L xs) (hL : L ≤ 3584) (hEnd : ∀ (A : Nat → Nat) (k n : Nat) (ls : List (Option Value)) (σ : Mem), gOk wL l (sx X A) cL_law "GemCutLaw" 10 601024 7293033 → k ≤ 601024 → n ≤ 7293033 → G wL (sx X A) k n 1392 ls [] σ) : G (pZ 0 (fun _ => zP)) (sx X (fun _ => 0)) 0 0 0 [some (.ref b), none, none, none, none, none, none, none, none] [] zM := by
  obtain ⟨⟨hM, hW, h6⟩, hF⟩ := tS_RM
  refine z_new (ci := 5) (C := "GemCut") (T := TX5) (N := 6) (fs := [.null, .null, .null, .int 0, .int 0, .int 0]) tyX5 hC iw_X5 tyX5_ok tw_1_16 tw_1_17 tw_1_1 rfl (fun j hj => by match j, hj with | 0, _ => rfl | 1, _ => rfl | 2, _ => rfl | 3, _ => rfl | 4, _ => rfl | 5, _ => rfl) ⟨by omega, by omega⟩ dL_law_0 ?_
  intro q1 hC
  refine g_dup (hC _) dL_law_3 rfl ?_
  refine z_callL (n := 0) (as := []) (rest := [.ref q1]) 0 hC hO (c_X5_init l (gBegin zM 6 6 6) hM hW h6 hF) (uA_at _ _ _) (uE_at _ _ _) tw_1_18 ⟨tw_1_19, tw_1_1, tw_1_20⟩ rfl ⟨by decide, by decide, by decide +kernel⟩ ⟨by decide, by decide⟩ ⟨by omega, by omega⟩ rfl (Nat.le_of_ble_eq_true rfl) rfl dL_law_4 ?_
  intro Ab eb hA1 hQ1 hC
  refine g_ast1 (hC _) dL_law_7 rfl ?_
  refine z_new (ci := 6) (C := "GemCutModel") (T := TX6) (N := 12) (fs := [.int 0, .int 0, .int 0, .int 0, .null, .int 0, .null, .int 0, .null, .null, .int 0, .int 0]) tyX6 hC iw_X6 tyX6_ok tw_4_5 tw_4_6 tw_1_7 rfl (fun j hj => by match j, hj with | 0, _ => rfl | 1, _ => rfl | 2, _ => rfl | 3, _ => rfl | 4, _ => rfl | 5, _ => rfl | 6, _ => rfl | 7, _ => rfl | 8, _ => rfl | 9, _ => rfl | 10, _ => rfl | 11, _ => rfl) ⟨by omega, by omega⟩ dL_law_8 ?_
  intro q2 hC
  refine g_dup (hC _) dL_law_11 rfl ?_
  refine z_callL (n := 0 + 195) (as := []) (rest := [.ref q2]) 0 hC hO (c_X6_init l) (uA_at _ _ _) (uE_at _ _ _) tw_4_7 ⟨tw_4_8, tw_1_7, tw_4_9⟩ rfl ⟨by decide, by decide, by decide +kernel⟩ ⟨by decide, by decide⟩ ⟨by omega, by omega⟩ rfl (Nat.le_of_ble_eq_true rfl) rfl dL_law_12 ?_
  intro Ab2 eb2 hA2 hQ2 hC
  refine g_ast2 (hC _) dL_law_15 rfl ?_
  refine g_iconst 1 (hC _) dL_law_16 (by decide) ?_
  refine z_newl hC ⟨by omega, by omega⟩ dL_law_17 ?_
  intro q3 hC
  refine g_ast3 (hC _) dL_law_19 rfl ?_
  refine g_iconst 0 (hC _) dL_law_20 (by decide) ?_
  refine g_ist4 (hC _) dL_law_21 rfl ?_
  obtain ⟨σ1, hR1, he1⟩ := hQ1
  obtain ⟨σ2, hσ2, he2⟩ := hQ2
  generalize hAA : uA (jA (0 + 195) (uA (jA 0 (uA (fun _ => 0) 0 q1) Ab) (0 + 195) q2) Ab2) (0 + 195 + 5) q3 = AA at hC ⊢
  generalize hEE : uE (jE (0 + 195) (uE (jE 0 (uE (fun _ => zP) 0 _) eb) (0 + 195) _) eb2) (0 + 195 + 5) _ = EE
  have a1 : ∀ i, i < 195 → AA i = Ab i := fun i hi => by
    rw [← hAA, uA_ne (by omega), jA_lt (by omega), uA_ne (by omega)]
    show (if i < 0 then _ else Ab (i - 0)) = Ab i
    rw [if_neg (by omega), Nat.sub_zero]
  have a2 : ∀ i, i < 5 → AA (195 + i) = Ab2 i := fun i hi => by
    rw [← hAA, uA_ne (by omega)]
    exact jA_ge (n := 195) i
  have a3 : AA 200 = q3 := by rw [← hAA]; exact uA_at _ _ _
  have e1 : ∀ i, i < 195 → EE i = eb i := fun i hi => by
    rw [← hEE, uE_ne (by omega), jE_lt (by omega), uE_ne (by omega)]
    show (if i < 0 then _ else eb (i - 0)) = eb i
    rw [if_neg (by omega), Nat.sub_zero]
  have e2 : ∀ i, i < 5 → EE (195 + i) = eb2 i := fun i hi => by
    rw [← hEE, uE_ne (by omega)]
    exact jE_ge (n := 195) i
  have e3 : EE 200 = .inl (zY X 5, 1, .inr (.inl (fun _ => 0))) := by rw [← hEE]; exact uE_at _ _ _
  obtain ⟨A', hA'⟩ : ∃ A' : Nat → Nat, A' = fun i => if i = 195 then q3 else if 196 ≤ i ∧ i ≤ 200 then Ab2 (i - 196) else Ab i := ⟨_, rfl⟩
  have c1 : ∀ i, ¬ (195 ≤ i ∧ i ≤ 200) → A' i = Ab i := fun i hi => by rw [hA']; simp only []; rw [if_neg (by omega), if_neg (by omega)]
  have c2 : A' 195 = q3 := by rw [hA']; exact if_pos rfl
  have c3 : ∀ j, j < 5 → A' (196 + j) = Ab2 j := fun j hj => by rw [hA']; simp only []; rw [if_neg (by omega), if_pos (by omega), Nat.add_sub_cancel_left]
  obtain ⟨σ, hσ⟩ : ∃ σ : Mem, σ = fun i => if i < 195 then σ1 i else if i = 195 then (fun _ => 0) else σ2 (i - 196) := ⟨_, rfl⟩
  have s1 : ∀ i, i < 195 → σ i = σ1 i := fun i hi => by rw [hσ]; simp only []; rw [if_pos hi]
  have s2 : σ 195 = fun _ => 0 := by rw [hσ]; exact (if_neg (by omega)).trans (if_pos rfl)
  have s3 : ∀ j, σ (196 + j) = σ2 j := fun j => by rw [hσ]; simp only []; rw [if_neg (by omega), if_neg (by omega), Nat.add_sub_cancel_left]
  refine z_fin (Lw := wL) (A' := A') (fun i => if i < 195 then i else if i = 195 then 200 else i - 1) σ (fun i hi => ?_) (fun i j hi hj hij => ?_) (fun i hi => ?_) (fun i hi => ?_) hC (fun hG => ?_)
  · have hi : i < 201 := hi
    try dsimp only
    split
    · omega
    · split <;> omega
  · have hi : i < 201 := hi
    have hj : j < 201 := hj
    try dsimp only at hij
    split at hij <;> split at hij <;> (try split at hij) <;> (try split at hij) <;> omega
  · have hi : i < 201 := hi
    try dsimp only
    rcases Nat.lt_or_ge i 195 with h | h
    · rw [if_pos h, c1 i (by omega), a1 i h]
    · rw [if_neg (by omega)]
      by_cases h5 : i = 195
      · rw [if_pos h5, h5, c2, a3]
      · rw [if_neg h5]
        obtain ⟨j, rfl⟩ : ∃ j, i = 196 + j := ⟨i - 196, by omega⟩
        rw [c3 j (by omega), show 196 + j - 1 = 195 + j by omega, a2 j (by omega)]
  · have hi : i < 201 := hi
    try dsimp only
    rcases Nat.lt_or_ge i 195 with h | h
    · rw [if_pos h, e1 i h, he1 i h, s1 i h]
      have h9 := xE_vEq (D := (gEv X).1) (cy := zY X) c1 h (σ1 i)
      have h8 : wL.2 ((gEv X).1, A', zY X) (σ1 i) i = xE ((gEv X).1, A', zY X) (σ1 i) i := by
        show lE _ _ _ = _
        unfold lE oE
        rw [if_neg (by omega), if_neg (by omega)]
      rw [h8]
      exact h9
    · rw [if_neg (by omega)]
      by_cases h5 : i = 195
      · subst h5
        rw [if_pos rfl, e3, s2]
        exact Or.inl rfl
      · rw [if_neg h5]
        obtain ⟨j, rfl⟩ : ∃ j, i = 196 + j := ⟨i - 196, by omega⟩
        rw [show 196 + j - 1 = 195 + j by omega, e2 j (by omega), he2 j (by omega), s3 j]
        have h8 : wL.2 ((gEv X).1, A', zY X) (σ2 j) (196 + j) = mE (shE 196 ((gEv X).1, A', zY X)) (σ2 j) j := by
          show lE _ _ _ = _
          unfold lE
          rw [if_pos (by omega), Nat.add_sub_cancel_left]
        rw [h8]
        left
        have g : ∀ i, i < 5 → (shE 196 ((gEv X).1, A', zY X)).2.1 i = Ab2 i := fun i hi => by
          show A' (i + 196) = Ab2 i
          rw [Nat.add_comm]; exact c3 i hi
        show mE ((gEv X).1, Ab2, zY X) (σ2 j) j = mE (shE 196 ((gEv X).1, A', zY X)) (σ2 j) j
        have hj5 : j < 5 := by omega
        match j, hj5 with
        | 0, _ => rw [show mE (shE 196 ((gEv X).1, A', zY X)) (σ2 0) 0 = .inr (6, [.int (σ2 0 0), .int (σ2 0 1), .int (σ2 0 2), .int (σ2 0 3), .ref ((shE 196 ((gEv X).1, A', zY X)).2.1 1), .int (σ2 0 5), .ref ((shE 196 ((gEv X).1, A', zY X)).2.1 2), .int (σ2 0 7), .ref ((shE 196 ((gEv X).1, A', zY X)).2.1 3), .ref ((shE 196 ((gEv X).1, A', zY X)).2.1 4), .int (σ2 0 10), .int (σ2 0 11)]) from rfl, g 1 (by omega), g 2 (by omega), g 3 (by omega), g 4 (by omega)]; rfl
        | 1, _ => rfl
        | 2, _ => rfl
        | 3, _ => rfl
        | 4, _ => rfl
  · have b1 : gA (sx X A') 0 = q1 := by rw [sx_A, c1 0 (by omega)]; exact hA1
    have b2 : gA (sx X A') 196 = q2 := by rw [sx_A, show (196 : Nat) = 196 + 0 from rfl, c3 0 (by omega)]; exact hA2
    have b3 : gA (sx X A') 195 = q3 := by rw [sx_A]; exact c2
    have hR : RS σ (shM 196 σ) := RS_law hR1 (fun id h => s1 id (by omega)) (Qf_rf _) (fun j hj => by
      show σ (j + 196) = _
      rw [Nat.add_comm, s3 j, hσ2])
    have hlp := lw_loop (X := sx X A') hst hG (sx_ZY hZ) (sx_Nc hN) (sx_Scr hS) hL (fun k n ls σ h1 h2 => hEnd A' k n ls σ hG h1 h2) 513 0 0
    rw [b1, b2, b3] at hlp
    exact hlp _ _ σ rfl rfl (by decide) (by decide) hR
