/-! the law: what stays -/
def lI (t : Mem) (C R Lz F : Nat) (sv : Nat → Int32) (dr : Int32) : Prop := t 0 0 = 0 ∧ nC t = C ∧ nR t = R ∧ nL t = Lz ∧ nF t = F ∧ (∀ j, j < F → sFl t j 4 = sv j) ∧ t 0 10 + t 0 11 = 400 + dr
theorem lI_saw {t : Mem} {C R Lz F s : Nat} {sv : Nat → Int32} {dr p q r d : Int32} (h : lI t C R Lz F sv dr) : lI (gSaw t s p q r d) C R Lz F sv dr :=
  ⟨by rw [sw_0 (by decide)]; exact h.1, by rw [sw_nC]; exact h.2.1, by rw [sw_nR]; exact h.2.2.1, by rw [sw_nL]; exact h.2.2.2.1, by rw [sw_nF]; exact h.2.2.2.2.1, fun j hj => by rw [sw_sFl]; exact h.2.2.2.2.2.1 j hj, by rw [sw_0 (by decide), sw_0 (by decide)]; exact h.2.2.2.2.2.2⟩
theorem i32a (a b v : Int32) : (a - v) + (b + v) = a + b := by grind
theorem i32b (a b c d : Int32) (h : a + b = c + d) : c + b = c + (d + (c - a)) := by grind
theorem i32c (a t : Int32) : a - (t + 5) = a - t - 5 := by grind
theorem lI_cut {t : Mem} {C R Lz F s : Nat} {sv : Nat → Int32} {dr p q r d v : Int32} (h : lI t C R Lz F sv dr) : lI (gCut t s p q r d v) C R Lz F sv dr :=
  ⟨by rw [ct_0 (by decide)]; exact h.1, by rw [ct_nC]; exact h.2.1, by rw [ct_nR]; exact h.2.2.1, by rw [ct_nL]; exact h.2.2.2.1, by rw [ct_nF]; exact h.2.2.2.2.1, fun j hj => by rw [ct_sFl]; exact h.2.2.2.2.2.1 j hj, by rw [ct_10, ct_11, i32a]; exact h.2.2.2.2.2.2⟩
theorem lI_pol {t : Mem} {C R Lz F s k : Nat} {sv : Nat → Int32} {dr v : Int32} (h : lI t C R Lz F sv dr) : lI (gPol t s k v) C R Lz F sv dr :=
  ⟨by rw [po_0 (by decide)]; exact h.1, by unfold nC; rw [po_0 (by decide)]; exact h.2.1, by unfold nR; rw [po_0 (by decide)]; exact h.2.2.1, by unfold nL; rw [po_0 (by decide)]; exact h.2.2.2.1, by unfold nF; rw [po_0 (by decide)]; exact h.2.2.2.2.1, fun j hj => by unfold sFl; rw [po_id (by decide) (by decide)]; exact h.2.2.2.2.2.1 j hj, by rw [po_10, po_11, i32a]; exact h.2.2.2.2.2.2⟩
theorem dr_0 {t : Mem} {j : Nat} (h : j ≠ 10) : upd2 t 0 10 400 0 j = t 0 j := by simp [upd2, h]
theorem lI_dr {t : Mem} {C R Lz F : Nat} {sv : Nat → Int32} {dr : Int32} (h : lI t C R Lz F sv dr) : lI (upd2 t 0 10 400) C R Lz F sv (dr + (400 - t 0 10)) :=
  ⟨by rw [dr_0 (by decide)]; exact h.1, by unfold nC; rw [dr_0 (by decide)]; exact h.2.1, by unfold nR; rw [dr_0 (by decide)]; exact h.2.2.1, by unfold nL; rw [dr_0 (by decide)]; exact h.2.2.2.1, by unfold nF; rw [dr_0 (by decide)]; exact h.2.2.2.2.1, fun j hj => by rw [show sFl (upd2 t 0 10 400) j 4 = sFl t j 4 by simp [sFl, upd2]]; exact h.2.2.2.2.2.1 j hj, by rw [dr_0 (j := 11) (by decide), show upd2 t 0 10 400 0 10 = 400 by simp [upd2]]; exact i32b _ _ _ _ h.2.2.2.2.2.2⟩
theorem nI_subE {a b c : Nat} (h : a + b = c) : nI c - nI b = nI a := by rw [← h, Nat.add_comm]; exact nI_cancel b a
set_option maxRecDepth 100000 in
set_option maxHeartbeats 4000000 in
theorem lw_61 {l : Launch} {X : gC} {A : Nat → Nat} {b L : Nat} {xs : Nat → Int32} (hst : l.stackTraces = false) (hL : uL X b L xs) (hLs : L < 2 ^ 31) {es : va_W} {kc nc : Nat} {σ t : Mem} (hR : RS σ t) (h0 : t 0 0 = 0) {qs C R Lz i : Nat} {dr : Int32} (hi : i < 12) (hCb : 1 ≤ C ∧ C ≤ 10) (hf : kc + 2 ≤ 600074 ∧ nc + 10 ≤ 7301550) (hC : uOk l wX X A es cL_law "GemCutLaw" 10 600074 7301550) (kk : ∀ (q : Nat) (f : Nat → Int32) (x : Int32) (j : Nat) (σ1 : Mem), j < nS t → sTilt (f 0) (f 1) (f 2) (f 3) = true → RS σ1 t → uOk l wX X A (es ++ [(q, .inl (zY X 0, 4, .inl f))]) cL_law "GemCutLaw" 10 600074 7301550 → G (wU wX (es ++ [(q, .inl (zY X 0, 4, .inl f))])) (uX wX X A (es ++ [(q, .inl (zY X 0, 4, .inl f))])) (kc + 2) (nc + 10) 103 [some (.ref b), some (.ref (A 0)), some (.ref qs), some (.int (nI C)), some (.int (nI R)), some (.int (nI Lz)), some (.int dr), some (.int (nI i)), some (.int x), some (.int (nI (nS t))), some (.int (nI j)), some (.ref q), none, none, none, none, none, none, none, none, none, none, none, none, none, none, none, none, none, none, none, none] [] σ1) : G (wU wX es) (uX wX X A es) kc nc 61 [some (.ref b), some (.ref (A 0)), some (.ref qs), some (.int (nI C)), some (.int (nI R)), some (.int (nI Lz)), some (.int dr), some (.int (nI i)), none, none, none, none, none, none, none, none, none, none, none, none, none, none, none, none, none, none, none, none, none, none, none, none] [] σ := by
  have hS1 := MI_S hR.1
  refine g_ald0 hC dL_law_61 ?_
  refine g_ild7 hC dL_law_62 ?_
  refine r_cell (k9 := i) hC hL (by omega) hLs tw_3_154 dL_law_64 (by decide) ⟨by omega, by omega⟩ (Nat.le_of_ble_eq_true rfl) ?_
  refine g_bipush 11 hC dL_law_67 (by decide) ?_
  refine g_ild7 hC dL_law_69 ?_
  refine g_imul hC dL_law_71 ?_
  refine g_iadd hC dL_law_72 ?_
  generalize sCel L xs i + 11 * nI i = x
  refine g_ist8 hC dL_law_73 rfl ?_
  refine g_ald1 hC dL_law_75 ?_
  refine g_iconst 2 hC dL_law_76 (by decide) ?_
  refine x_count 2 hst hC hL hR h0 (by decide) (by decide) tw_3_52 dL_law_77 (by decide) ⟨by omega, by omega⟩ (Nat.le_of_ble_eq_true rfl) ?_
  intro σ hR
  rw [show sCt t 2 = nI (nS t) from hS1.1]
  refine g_ist9 hC dL_law_80 rfl ?_
  refine g_ild8 hC dL_law_82 ?_
  refine g_ild9 hC dL_law_84 ?_
  refine r_below hC hL (nI_ne0 (by omega) (by omega)) tw_3_150 dL_law_86 (by decide) ⟨by omega, by omega⟩ (Nat.le_of_ble_eq_true rfl) ?_
  obtain ⟨j, hj, ej⟩ := bel_nI x (n := nS t) (by omega) (by omega)
  rw [ej]
  refine g_ist10 hC dL_law_89 rfl ?_
  refine g_ild8 hC dL_law_91 ?_
  refine g_iconst 3 hC dL_law_93 (by decide) ?_
  refine g_ishr hC dL_law_94 ?_
  refine g_ild3 hC dL_law_95 ?_
  refine g_iconst 1 hC dL_law_96 (by decide) ?_
  refine g_isub hC dL_law_97 ?_
  rw [nI_sub1 C hCb.1]
  refine u_cR (wc := []) (J := pJ (zY X)) 2 [] hC hL (fun sz => c_plane l _ (C - 1) (by omega) b L xs _ _ sz) rfl rfl (fun r u h => by
    obtain ⟨f, h1, -⟩ := h
    exact ⟨_, h1⟩) tw_3_158 ⟨tw_3_159, tw_1_0, tw_3_160⟩ (by decide +kernel) ⟨by decide, by decide⟩ ⟨by omega, by omega⟩ rfl (Nat.le_of_ble_eq_true rfl) rfl dL_law_98 ?_
  intro q nw hp hC
  obtain ⟨f, rfl, ht⟩ := hp
  refine g_ast11 hC dL_law_101 rfl ?_
  exact kk q f x j σ hj ht hR hC
set_option maxRecDepth 100000 in
set_option maxHeartbeats 4000000 in
theorem lw_103 {l : Launch} {X : gC} {A : Nat → Nat} {b L : Nat} {xs : Nat → Int32} (hst : l.stackTraces = false) (hL : uL X b L xs) (hLs : L < 2 ^ 31) {es : va_W} {kc nc : Nat} {σ t : Mem} (hR : RS σ t) (h0 : t 0 0 = 0) {qs C R Lz i : Nat} {dr : Int32} {q jq j : Nat} {f : Nat → Int32} {x : Int32} (hq : es[jq]? = some (q, .inl (zY X 0, 4, .inl f))) (hj : j < nS t) (ht : sTilt (f 0) (f 1) (f 2) (f 3) = true) (hf : kc + 23 ≤ 600074 ∧ nc + 138 ≤ 7301550) (hC : uOk l wX X A es cL_law "GemCutLaw" 10 600074 7301550) (kk : ∀ (σ1 : Mem), RS σ1 t → G (wU wX es) (uX wX X A es) (kc + 23) (nc + 138) 243 [some (.ref b), some (.ref (A 0)), some (.ref qs), some (.int (nI C)), some (.int (nI R)), some (.int (nI Lz)), some (.int dr), some (.int (nI i)), some (.int x), some (.int (nI (nS t))), some (.int (nI j)), some (.ref q), some (.int (nI (sWt t (nI j)))), some (.int (nI (nP t j))), some (.int (t 0 10)), some (.int (t 0 11)), some (.int (sCt t 1)), some (.int (nI (sTurn t (nI j) (f 0) (f 1) (f 2) (f 3)))), some (.int (sWorth (gMark t j (f 0) (f 1) (f 2) (f 3)) j)), some (.int (nI (sFin (gMark t j (f 0) (f 1) (f 2) (f 3)) (nI j) 1))), some (.int (nI (sPairs (gMark t j (f 0) (f 1) (f 2) (f 3)) j))), none, none, none, none, none, none, none, none, none, none, none] [] σ1) : G (wU wX es) (uX wX X A es) kc nc 103 [some (.ref b), some (.ref (A 0)), some (.ref qs), some (.int (nI C)), some (.int (nI R)), some (.int (nI Lz)), some (.int dr), some (.int (nI i)), some (.int x), some (.int (nI (nS t))), some (.int (nI j)), some (.ref q), none, none, none, none, none, none, none, none, none, none, none, none, none, none, none, none, none, none, none, none] [] σ := by
  have hS1 := MI_S hR.1
  have e13 : sSt t j 1 = nI (nP t j) := (MI_P hR.1 (by omega)).1
  refine g_ald1 hC dL_law_103 ?_
  refine g_ild10 hC dL_law_104 ?_
  refine g_iconst 0 hC dL_law_106 (by decide) ?_
  refine x_stone j 0 hst hC hL hR h0 hj (by decide) (by decide) tw_3_7 dL_law_107 (by decide) ⟨by omega, by omega⟩ (Nat.le_of_ble_eq_true rfl) ?_
  intro σ hR
  refine g_ist12 hC dL_law_110 rfl ?_
  refine g_ald1 hC dL_law_112 ?_
  refine g_ild10 hC dL_law_113 ?_
  refine g_iconst 1 hC dL_law_115 (by decide) ?_
  refine x_stone j 1 hst hC hL hR h0 hj (by decide) (by decide) tw_3_7 dL_law_116 (by decide) ⟨by omega, by omega⟩ (Nat.le_of_ble_eq_true rfl) ?_
  intro σ hR
  rw [e13]
  refine g_ist13 hC dL_law_119 rfl ?_
  refine g_ald1 hC dL_law_121 ?_
  refine g_iconst 5 hC dL_law_122 (by decide) ?_
  refine x_count 5 hst hC hL hR h0 (by decide) (by decide) tw_3_52 dL_law_123 (by decide) ⟨by omega, by omega⟩ (Nat.le_of_ble_eq_true rfl) ?_
  intro σ hR
  refine g_ist14 hC dL_law_126 rfl ?_
  refine g_ald1 hC dL_law_128 ?_
  refine g_bipush 7 hC dL_law_129 (by decide) ?_
  refine x_count 7 hst hC hL hR h0 (by decide) (by decide) tw_3_52 dL_law_131 (by decide) ⟨by omega, by omega⟩ (Nat.le_of_ble_eq_true rfl) ?_
  intro σ hR
  refine g_ist15 hC dL_law_134 rfl ?_
  refine g_ald1 hC dL_law_136 ?_
  refine g_iconst 1 hC dL_law_137 (by decide) ?_
  refine x_count 1 hst hC hL hR h0 (by decide) (by decide) tw_3_52 dL_law_138 (by decide) ⟨by omega, by omega⟩ (Nat.le_of_ble_eq_true rfl) ?_
  intro σ hR
  refine g_ist16 hC dL_law_141 rfl ?_
  refine g_ald1 hC dL_law_143 ?_
  refine g_ild10 hC dL_law_144 ?_
  refine g_ald11 hC dL_law_146 ?_
  refine g_iconst 0 hC dL_law_148 (by decide) ?_
  refine u_iald (j := jq) 0 hC hq rfl (by decide) (by decide) dL_law_149 ?_
  refine g_ald11 hC dL_law_150 ?_
  refine g_iconst 1 hC dL_law_152 (by decide) ?_
  refine u_iald (j := jq) 1 hC hq rfl (by decide) (by decide) dL_law_153 ?_
  refine g_ald11 hC dL_law_154 ?_
  refine g_iconst 2 hC dL_law_156 (by decide) ?_
  refine u_iald (j := jq) 2 hC hq rfl (by decide) (by decide) dL_law_157 ?_
  refine g_ald11 hC dL_law_158 ?_
  refine g_iconst 3 hC dL_law_160 (by decide) ?_
  refine u_iald (j := jq) 3 hC hq rfl (by decide) (by decide) dL_law_161 ?_
  refine g_iconst 0 hC dL_law_162 (by decide) ?_
  refine x_would j 0 hst hC hL hR h0 hj ht (by decide) (by decide) tw_3_73 dL_law_163 (by decide) ⟨by omega, by omega⟩ (Nat.le_of_ble_eq_true rfl) ?_
  intro σ hR
  refine g_ist17 hC dL_law_166 rfl ?_
  refine g_ald1 hC dL_law_168 ?_
  refine g_ild10 hC dL_law_169 ?_
  refine g_ald11 hC dL_law_171 ?_
  refine g_iconst 0 hC dL_law_173 (by decide) ?_
  refine u_iald (j := jq) 0 hC hq rfl (by decide) (by decide) dL_law_174 ?_
  refine g_ald11 hC dL_law_175 ?_
  refine g_iconst 1 hC dL_law_177 (by decide) ?_
  refine u_iald (j := jq) 1 hC hq rfl (by decide) (by decide) dL_law_178 ?_
  refine g_ald11 hC dL_law_179 ?_
  refine g_iconst 2 hC dL_law_181 (by decide) ?_
  refine u_iald (j := jq) 2 hC hq rfl (by decide) (by decide) dL_law_182 ?_
  refine g_ald11 hC dL_law_183 ?_
  refine g_iconst 3 hC dL_law_185 (by decide) ?_
  refine u_iald (j := jq) 3 hC hq rfl (by decide) (by decide) dL_law_186 ?_
  refine g_iconst 1 hC dL_law_187 (by decide) ?_
  refine x_would j 1 hst hC hL hR h0 hj ht (by decide) (by decide) tw_3_73 dL_law_188 (by decide) ⟨by omega, by omega⟩ (Nat.le_of_ble_eq_true rfl) ?_
  intro σ hR
  refine g_ist18 hC dL_law_191 rfl ?_
  refine g_ald1 hC dL_law_193 ?_
  refine g_ild10 hC dL_law_194 ?_
  refine g_ald11 hC dL_law_196 ?_
  refine g_iconst 0 hC dL_law_198 (by decide) ?_
  refine u_iald (j := jq) 0 hC hq rfl (by decide) (by decide) dL_law_199 ?_
  refine g_ald11 hC dL_law_200 ?_
  refine g_iconst 1 hC dL_law_202 (by decide) ?_
  refine u_iald (j := jq) 1 hC hq rfl (by decide) (by decide) dL_law_203 ?_
  refine g_ald11 hC dL_law_204 ?_
  refine g_iconst 2 hC dL_law_206 (by decide) ?_
  refine u_iald (j := jq) 2 hC hq rfl (by decide) (by decide) dL_law_207 ?_
  refine g_ald11 hC dL_law_208 ?_
  refine g_iconst 3 hC dL_law_210 (by decide) ?_
  refine u_iald (j := jq) 3 hC hq rfl (by decide) (by decide) dL_law_211 ?_
  refine g_iconst 2 hC dL_law_212 (by decide) ?_
  refine x_would j 2 hst hC hL hR h0 hj ht (by decide) (by decide) tw_3_73 dL_law_213 (by decide) ⟨by omega, by omega⟩ (Nat.le_of_ble_eq_true rfl) ?_
  intro σ hR
  refine g_ist19 hC dL_law_216 rfl ?_
  refine g_ald1 hC dL_law_218 ?_
  refine g_ild10 hC dL_law_219 ?_
  refine g_ald11 hC dL_law_221 ?_
  refine g_iconst 0 hC dL_law_223 (by decide) ?_
  refine u_iald (j := jq) 0 hC hq rfl (by decide) (by decide) dL_law_224 ?_
  refine g_ald11 hC dL_law_225 ?_
  refine g_iconst 1 hC dL_law_227 (by decide) ?_
  refine u_iald (j := jq) 1 hC hq rfl (by decide) (by decide) dL_law_228 ?_
  refine g_ald11 hC dL_law_229 ?_
  refine g_iconst 2 hC dL_law_231 (by decide) ?_
  refine u_iald (j := jq) 2 hC hq rfl (by decide) (by decide) dL_law_232 ?_
  refine g_ald11 hC dL_law_233 ?_
  refine g_iconst 3 hC dL_law_235 (by decide) ?_
  refine u_iald (j := jq) 3 hC hq rfl (by decide) (by decide) dL_law_236 ?_
  refine g_iconst 3 hC dL_law_237 (by decide) ?_
  refine x_would j 3 hst hC hL hR h0 hj ht (by decide) (by decide) tw_3_73 dL_law_238 (by decide) ⟨by omega, by omega⟩ (Nat.le_of_ble_eq_true rfl) ?_
  intro σ hR
  refine g_ist20 hC dL_law_241 rfl ?_
  exact kk σ hR
set_option maxRecDepth 100000 in
set_option maxHeartbeats 4000000 in
theorem lw_243 {l : Launch} {X : gC} {A : Nat → Nat} {b L : Nat} {xs : Nat → Int32} (hst : l.stackTraces = false) (hL : uL X b L xs) (hLs : L < 2 ^ 31) {es : va_W} {kc nc : Nat} {σ t : Mem} (hR : RS σ t) (h0 : t 0 0 = 0) {qs C R Lz i : Nat} {dr : Int32} {q jq j : Nat} {f : Nat → Int32} {x : Int32} (hq : es[jq]? = some (q, .inl (zY X 0, 4, .inl f))) (hj : j < nS t) (ht : sTilt (f 0) (f 1) (f 2) (f 3) = true) (hf : kc + 7 ≤ 600074 ∧ nc + 42 ≤ 7301550) (hC : uOk l wX X A es cL_law "GemCutLaw" 10 600074 7301550) (kk : ∀ (σ1 : Mem), RS σ1 t → G (wU wX es) (uX wX X A es) (kc + 7) (nc + 42) 318 [some (.ref b), some (.ref (A 0)), some (.ref qs), some (.int (nI C)), some (.int (nI R)), some (.int (nI Lz)), some (.int dr), some (.int (nI i)), some (.int x), some (.int (nI (nS t))), some (.int (nI j)), some (.ref q), some (.int (nI (sWt t (nI j)))), some (.int (nI (nP t j))), some (.int (t 0 10)), some (.int (t 0 11)), some (.int (sCt t 1)), some (.int (nI (sTurn t (nI j) (f 0) (f 1) (f 2) (f 3)))), some (.int (sWorth (gMark t j (f 0) (f 1) (f 2) (f 3)) j)), some (.int (nI (sFin (gMark t j (f 0) (f 1) (f 2) (f 3)) (nI j) 1))), some (.int (nI (sPairs (gMark t j (f 0) (f 1) (f 2) (f 3)) j))), none, none, none, none, none, none, none, none, none, none, none] [] σ1) : G (wU wX es) (uX wX X A es) kc nc 243 [some (.ref b), some (.ref (A 0)), some (.ref qs), some (.int (nI C)), some (.int (nI R)), some (.int (nI Lz)), some (.int dr), some (.int (nI i)), some (.int x), some (.int (nI (nS t))), some (.int (nI j)), some (.ref q), some (.int (nI (sWt t (nI j)))), some (.int (nI (nP t j))), some (.int (t 0 10)), some (.int (t 0 11)), some (.int (sCt t 1)), some (.int (nI (sTurn t (nI j) (f 0) (f 1) (f 2) (f 3)))), some (.int (sWorth (gMark t j (f 0) (f 1) (f 2) (f 3)) j)), some (.int (nI (sFin (gMark t j (f 0) (f 1) (f 2) (f 3)) (nI j) 1))), some (.int (nI (sPairs (gMark t j (f 0) (f 1) (f 2) (f 3)) j))), none, none, none, none, none, none, none, none, none, none, none] [] σ := by
  have hS1 := MI_S hR.1
  have hW9 := fx_w (t := t) (nI j)
  have hT9 := fx_t (t := t) (p := f 0) (q := f 1) (r := f 2) (d := f 3) (nI j)
  have hTW := fx_le (t := t) (s := j) (p := f 0) (q := f 1) (r := f 2) (d := f 3)
  refine g_ild17 hC dL_law_243 ?_
  refine g_if_lt 255 hC dL_law_245 (by decide) (fun c245 => absurd c245 (nI_pos (by omega))) (fun c245 => ?_)
  refine g_ild17 hC dL_law_248 ?_
  refine g_ild12 hC dL_law_250 ?_
  refine g_icmp_le 257 hC dL_law_252 (by decide) (fun c252 => ?_) (fun c252 => absurd (nI_le hTW (by omega)) c252)
  refine g_ild12 hC dL_law_257 ?_
  refine g_if_le 318 hC dL_law_259 (by decide) (fun c259 => ?_) (fun c259 => ?_)
  · refine g_widen (k1 := kc + 7) (n1 := nc + 42) (by omega) (by omega) ?_
    exact kk σ hR
  · refine g_ild17 hC dL_law_262 ?_
    refine g_ild12 hC dL_law_264 ?_
    refine g_icmp_ge 318 hC dL_law_266 (by decide) (fun c266 => ?_) (fun c266 => ?_)
    · refine g_widen (k1 := kc + 7) (n1 := nc + 42) (by omega) (by omega) ?_
      exact kk σ hR
    · refine g_ald1 hC dL_law_269 ?_
      refine g_ild10 hC dL_law_270 ?_
      refine g_ald11 hC dL_law_272 ?_
      refine g_iconst 0 hC dL_law_274 (by decide) ?_
      refine u_iald (j := jq) 0 hC hq rfl (by decide) (by decide) dL_law_275 ?_
      refine g_ald11 hC dL_law_276 ?_
      refine g_iconst 1 hC dL_law_278 (by decide) ?_
      refine u_iald (j := jq) 1 hC hq rfl (by decide) (by decide) dL_law_279 ?_
      refine g_ald11 hC dL_law_280 ?_
      refine g_iconst 2 hC dL_law_282 (by decide) ?_
      refine u_iald (j := jq) 2 hC hq rfl (by decide) (by decide) dL_law_283 ?_
      refine g_ald1 hC dL_law_284 ?_
      refine g_ild10 hC dL_law_285 ?_
      refine g_ald11 hC dL_law_287 ?_
      refine g_iconst 0 hC dL_law_289 (by decide) ?_
      refine u_iald (j := jq) 0 hC hq rfl (by decide) (by decide) dL_law_290 ?_
      refine g_ald11 hC dL_law_291 ?_
      refine g_iconst 1 hC dL_law_293 (by decide) ?_
      refine u_iald (j := jq) 1 hC hq rfl (by decide) (by decide) dL_law_294 ?_
      refine g_ald11 hC dL_law_295 ?_
      refine g_iconst 2 hC dL_law_297 (by decide) ?_
      refine u_iald (j := jq) 2 hC hq rfl (by decide) (by decide) dL_law_298 ?_
      have hw0 : ¬ nI (sWt t (nI j)) = 0 := fun h => c259 (by rw [h]; decide)
      have hdp := fx_dep hR.1 hR.2.1 hR.2.2.1 (s := j) (by omega) (tilt_slp ht) hw0
      refine x_depth j hst hC hL hR h0 hj (tilt_d ht ⟨by decide, by decide⟩) hw0 tw_3_119 dL_law_299 (by decide) ⟨by omega, by omega⟩ (Nat.le_of_ble_eq_true rfl) ?_
      intro σ hR
      refine g_iconst 1 hC dL_law_302 (by decide) ?_
      refine x_would j 1 hst hC hL hR h0 hj (tilt_d ht ⟨by omega, by omega⟩) (by decide) (by decide) tw_3_73 dL_law_303 (by decide) ⟨by omega, by omega⟩ (Nat.le_of_ble_eq_true rfl) ?_
      intro σ hR
      refine g_ild18 hC dL_law_306 ?_
      refine g_icmp_ge 318 hC dL_law_308 (by decide) (fun c308 => ?_) (fun c308 => ?_)
      · refine g_widen (k1 := kc + 7) (n1 := nc + 42) (by omega) (by omega) ?_
        exact kk σ hR
      · refine g_ild17 hC dL_law_311 ?_
        refine g_if_le 318 hC dL_law_313 (by decide) (fun c313 => ?_) (fun c313 => absurd ((nI_le0 hT9).mpr (Nat.eq_zero_of_not_pos (fun h9 => c308 (fx_best hR.1 hR.2.1 hR.2.2.1 (by omega) (tilt_slp ht) h9 (by
          rcases Nat.lt_or_ge (sTurn t (nI j) (f 0) (f 1) (f 2) (f 3)) (sWt t (nI j)) with h | h
          · exact h
          · exact absurd (nI_le h (by omega)) c266))))) c313)
        refine g_widen (k1 := kc + 7) (n1 := nc + 42) (by omega) (by omega) ?_
        exact kk σ hR
