/-! build -/
theorem get_end' {ws : va_W} {x : Nat × va_E} {n : Nat} (h : ws.length = n) : (ws ++ [x])[n]? = some x := by subst h; simp
theorem set_end' {ws : va_W} {x y : Nat × va_E} {n : Nat} (h : ws.length = n) : (ws ++ [x]).set n y = ws ++ [y] := by subst h; simp
theorem ge_app {es : va_W} {j : Nat} {v : Nat × va_E} (h : es[j]? = some v) (nw : va_W) : (es ++ nw)[j]? = some v := by
  rw [List.getElem?_append_left (List.getElem?_eq_some_iff.mp h).1]; exact h
theorem get_app {E : va_W} (G : va_W) {n : Nat} (h : E.length = n) (i : Nat) : (E ++ G)[n + i]? = G[i]? := by
  subst h
  rw [List.getElem?_append_right (by omega), Nat.add_sub_cancel_left]
theorem app4 (E G : va_W) (x y : Nat × va_E) : ((E ++ G) ++ [x]) ++ [y] = E ++ (G ++ [x, y]) := by simp
theorem bel4 (v : Int32) : ∃ j, j ≤ 3 ∧ sBel v 4 = nI j := by
  obtain ⟨j, hj, e⟩ := bel_nI v (n := 4) (by decide) (by decide)
  exact ⟨j, by omega, e⟩
theorem bel2 (v : Int32) : ∃ j, j ≤ 3 ∧ sBel v 2 = nI j := by
  obtain ⟨j, hj, e⟩ := bel_nI v (n := 2) (by decide) (by decide)
  exact ⟨j, by omega, e⟩
theorem idx4 {k : Nat} (h : k < 100) : (4 : Int32) + (nI k - nI k / 2 * 2) = nI (4 + k % 2) := by
  rw [show (2 : Int32) = nI 2 by decide, pk_rem (by omega) (by omega) (by omega), show (4 : Int32) = nI 4 by decide, nI_add]
def flO (cy : Nat → ClassId) (es : va_W) (qf : Nat) (t : Mem) : Prop := ∃ (i : Nat) (f : Nat → Option Nat), es[i]? = some (qf, .inl (cy 5, nF t, .inr (.inr (.inr (.inr f))))) ∧ ∀ j, j < nF t → ∃ (a i : Nat) (g : Nat → Int32), f j = some a ∧ es[i]? = some (a, .inl (cy 0, 5, .inl g)) ∧ g 4 = sFl t j 4
def roO (cy : Nat → ClassId) (es : va_W) (qr : Nat) (t : Mem) : Prop := ∃ (i2 i1 i0 q1 q2 : Nat) (f2 f1 : Nat → Option Nat) (g : Nat → Int32), es[i2]? = some (qr, .inl (cy 6, nC t, .inr (.inr (.inr (.inr f2))))) ∧ f2 0 = some q1 ∧ es[i1]? = some (q1, .inl (cy 5, nR t, .inr (.inr (.inr (.inr f1))))) ∧ f1 0 = some q2 ∧ es[i0]? = some (q2, .inl (cy 0, nL t, .inl g))
def siO (es : va_W) (r qr qf : Nat) : Prop := ∃ (i qp : Nat), es[i]? = some (r, .inr (6, [.ref qr, .ref qf, .ref qp, .int 400, .int 0]))
def bJ (D : va_G) (cy : Nat → ClassId) (A : Nat → Nat) (r : Nat) (u : va_W) : Prop := ∃ (σ1 : Mem) (es : va_W) (t1 : Mem) (qr qf : Nat), u = uB wX D A cy σ1 ++ es ∧ RS σ1 t1 ∧ t1 0 0 = 0 ∧ t1 0 10 = 400 ∧ t1 0 11 = 0 ∧ siO es r qr qf ∧ roO cy es qr t1 ∧ flO cy es qf t1
set_option maxRecDepth 100000 in
set_option maxHeartbeats 4000000 in
theorem bd_row {l : Launch} {X : gC} {A : Nat → Nat} {b L : Nat} {xs : Nat → Int32} {kc nc : Nat} {es : va_W} {n k c r d F qz qs : Nat} {fz : Nat → Int32} {σ : Mem} (hC : uOk l wX X A es cL_build "GemCutLaw" 8 140 1240) (hL : uL X b L xs) (hLs : L < 2 ^ 31) (hlen : es.length = n) (hz : es[0]? = some (qz, .inl (zY X 0, 3, .inl fz))) (z0 : fz 0 = nI c) (z1 : fz 1 = nI r) (z2 : fz 2 = nI d) (hc : 1 ≤ c ∧ c ≤ 10) (hr : 1 ≤ r ∧ r ≤ 10) (hd : 1 ≤ d ∧ d ≤ 10) (hk : k ≤ 3) (hkc : kc + 1 ≤ 140 ∧ nc + 5 ≤ 1240) (kk : ∀ (qn : Nat) (g : Nat → Int32) (v : Int32) (x0 y0 z0 ra se : Nat), x0 < c → y0 < r → z0 < d → ra ≤ 3 → se < 9 → g 0 = nI x0 → g 1 = nI y0 → g 2 = nI z0 → g 3 = nI ra → g 4 = nI (1 + se) → uOk l wX X A (es ++ [(qn, .inl (zY X 0, 5, .inl g))]) cL_build "GemCutLaw" 8 140 1240 → G (wU wX (es ++ [(qn, .inl (zY X 0, 5, .inl g))])) (uX wX X A (es ++ [(qn, .inl (zY X 0, 5, .inl g))])) (kc + 1) (nc + 5) 219 [some (.ref (A 0)), some (.ref b), some (.int 6), some (.ref qz), some (.ref qs), some (.int (nI F)), some (.int (nI k)), some (.int v), some (.ref qn)] [] σ) : G (wU wX es) (uX wX X A es) kc nc 114 [some (.ref (A 0)), some (.ref b), some (.int 6), some (.ref qz), some (.ref qs), some (.int (nI F)), some (.int (nI k)), none, none] [] σ := by
  have k199 : ∀ (qn : Nat) (v n9 : Int32) (x0 y0 z0 : Nat) (f9 : Nat → Int32), x0 < c → y0 < r → z0 < d → ¬ n9 = 0 → (∀ v, ∃ j, j ≤ 3 ∧ sBel v n9 = nI j) → f9 = upd (upd (upd (fun _ => 0) 0 (nI x0)) 1 (nI y0)) 2 (nI z0) → uOk l wX X A (es ++ [(qn, .inl (zY X 0, 5, .inl f9))]) cL_build "GemCutLaw" 8 140 1240 → G (wU wX (es ++ [(qn, .inl (zY X 0, 5, .inl f9))])) (uX wX X A (es ++ [(qn, .inl (zY X 0, 5, .inl f9))])) (kc + 1) (nc + 5) 199 [some (.ref (A 0)), some (.ref b), some (.int 6), some (.ref qz), some (.ref qs), some (.int (nI F)), some (.int (nI k)), some (.int v), none] [.int n9, .int (v >>> ((6 : Int32) &&& 31)), .int 3, .ref qn, .ref qn] σ := by
    intro qn v n9 x0 y0 z0 f9 hx0 hy0 hz0 hn0 hn1 hf9 hC
    refine r_below hC hL hn0 tw_3_150 dL_build_199 (by decide) ⟨by omega, by omega⟩ (Nat.le_of_ble_eq_true rfl) ?_
    obtain ⟨ra, hra, era⟩ := hn1 (v >>> ((6 : Int32) &&& 31))
    rw [era]
    refine u_iast (j := n) 3 hC (get_end' hlen) rfl (by decide) (by decide) dL_build_202 ?_
    rw [set_end' hlen]
    intro hC
    refine g_dup hC dL_build_203 rfl ?_
    refine g_iconst 4 hC dL_build_204 (by decide) ?_
    refine g_iconst 1 hC dL_build_205 (by decide) ?_
    refine g_ild7 hC dL_build_206 ?_
    refine g_iconst 3 hC dL_build_208 (by decide) ?_
    refine g_ishr hC dL_build_209 ?_
    refine g_bipush 9 hC dL_build_210 (by decide) ?_
    refine r_below hC hL (by decide) tw_3_150 dL_build_212 (by decide) ⟨by omega, by omega⟩ (Nat.le_of_ble_eq_true rfl) ?_
    obtain ⟨se, hse, ese⟩ := bel_nI (v >>> ((3 : Int32) &&& 31)) (n := 9) (by decide) (by decide)
    rw [show sBel (v >>> ((3 : Int32) &&& 31)) 9 = nI se from ese]
    refine g_iadd hC dL_build_215 ?_
    rw [show (1 : Int32) + nI se = nI (1 + se) from nI_add 1 se]
    refine u_iast (j := n) 4 hC (get_end' hlen) rfl (by decide) (by decide) dL_build_216 ?_
    rw [set_end' hlen]
    intro hC
    refine g_ast8 hC dL_build_217 rfl ?_
    refine kk qn _ v x0 y0 z0 ra se hx0 hy0 hz0 hra hse ?_ ?_ ?_ ?_ ?_ hC
    · rw [hf9]; simp [upd]
    · rw [hf9]; simp [upd]
    · rw [hf9]; simp [upd]
    · simp [upd]
    · simp [upd]
  refine g_ald1 hC dL_build_114 ?_
  refine g_iconst 4 hC dL_build_115 (by decide) ?_
  refine g_ild6 hC dL_build_116 ?_
  refine g_iconst 2 hC dL_build_118 (by decide) ?_
  refine g_irem hC dL_build_119 (by decide) ?_
  refine g_iadd hC dL_build_120 ?_
  rw [idx4 (by omega)]
  refine r_cell (k9 := 4 + k % 2) hC hL (by omega) hLs tw_3_154 dL_build_121 (by decide) ⟨by omega, by omega⟩ (Nat.le_of_ble_eq_true rfl) ?_
  refine g_ild6 hC dL_build_124 ?_
  refine g_ishr hC dL_build_126 ?_
  refine g_bipush 7 hC dL_build_127 (by decide) ?_
  refine g_ild6 hC dL_build_129 ?_
  refine g_imul hC dL_build_131 ?_
  refine g_iadd hC dL_build_132 ?_
  generalize (sCel L xs (4 + k % 2) >>> (nI k &&& 31)) + 7 * nI k = v
  refine g_ist7 hC dL_build_133 rfl ?_
  refine g_iconst 5 hC dL_build_135 (by decide) ?_
  refine u_newa (t0 := 0) (N' := 5) (ty := .int) .int hC tw_1_57 rfl (fun _ => rfl) (fun _ => rfl) (fun _ _ => rfl) (by decide) (by decide) (by decide) ⟨by omega, by omega⟩ dL_build_136 ?_
  intro qn hC
  refine g_dup hC dL_build_138 rfl ?_
  refine g_iconst 0 hC dL_build_139 (by decide) ?_
  refine g_ild7 hC dL_build_140 ?_
  refine g_ald3 hC dL_build_142 ?_
  refine g_iconst 0 hC dL_build_143 (by decide) ?_
  refine u_iald (j := 0) 0 hC (ge_app hz _) rfl (by decide) (by decide) dL_build_144 ?_
  rw [z0]
  refine r_below hC hL (nI_ne0 (by omega) (by omega)) tw_3_150 dL_build_145 (by decide) ⟨by omega, by omega⟩ (Nat.le_of_ble_eq_true rfl) ?_
  obtain ⟨x0, hx0, ex0⟩ := bel_nI v (n := c) (by omega) (by omega)
  rw [ex0]
  refine u_iast (j := n) 0 hC (get_end' hlen) rfl (by decide) (by decide) dL_build_148 ?_
  rw [set_end' hlen]
  intro hC
  refine g_dup hC dL_build_149 rfl ?_
  refine g_iconst 1 hC dL_build_150 (by decide) ?_
  refine g_ild7 hC dL_build_151 ?_
  refine g_iconst 2 hC dL_build_153 (by decide) ?_
  refine g_ishr hC dL_build_154 ?_
  refine g_ald3 hC dL_build_155 ?_
  refine g_iconst 1 hC dL_build_156 (by decide) ?_
  refine u_iald (j := 0) 1 hC (ge_app hz _) rfl (by decide) (by decide) dL_build_157 ?_
  rw [z1]
  refine r_below hC hL (nI_ne0 (by omega) (by omega)) tw_3_150 dL_build_158 (by decide) ⟨by omega, by omega⟩ (Nat.le_of_ble_eq_true rfl) ?_
  obtain ⟨y0, hy0, ey0⟩ := bel_nI (v >>> ((2 : Int32) &&& 31)) (n := r) (by omega) (by omega)
  rw [ey0]
  refine u_iast (j := n) 1 hC (get_end' hlen) rfl (by decide) (by decide) dL_build_161 ?_
  rw [set_end' hlen]
  intro hC
  refine g_dup hC dL_build_162 rfl ?_
  refine g_iconst 2 hC dL_build_163 (by decide) ?_
  refine g_ild7 hC dL_build_164 ?_
  refine g_iconst 4 hC dL_build_166 (by decide) ?_
  refine g_ishr hC dL_build_167 ?_
  refine g_ald3 hC dL_build_168 ?_
  refine g_iconst 2 hC dL_build_169 (by decide) ?_
  refine u_iald (j := 0) 2 hC (ge_app hz _) rfl (by decide) (by decide) dL_build_170 ?_
  rw [z2]
  refine r_below hC hL (nI_ne0 (by omega) (by omega)) tw_3_150 dL_build_171 (by decide) ⟨by omega, by omega⟩ (Nat.le_of_ble_eq_true rfl) ?_
  obtain ⟨z0, hz0, ez0⟩ := bel_nI (v >>> ((4 : Int32) &&& 31)) (n := d) (by omega) (by omega)
  rw [ez0]
  refine u_iast (j := n) 2 hC (get_end' hlen) rfl (by decide) (by decide) dL_build_174 ?_
  rw [set_end' hlen]
  intro hC
  refine g_dup hC dL_build_175 rfl ?_
  refine g_iconst 3 hC dL_build_176 (by decide) ?_
  refine g_ild7 hC dL_build_177 ?_
  refine g_bipush 6 hC dL_build_179 (by decide) ?_
  refine g_ishr hC dL_build_181 ?_
  refine g_ild7 hC dL_build_182 ?_
  refine g_bipush 8 hC dL_build_184 (by decide) ?_
  refine g_ishr hC dL_build_186 ?_
  refine g_iconst 2 hC dL_build_187 (by decide) ?_
  refine r_below hC hL (by decide) tw_3_150 dL_build_188 (by decide) ⟨by omega, by omega⟩ (Nat.le_of_ble_eq_true rfl) ?_
  refine g_if_ne 198 hC dL_build_191 (by decide) (fun c191 => ?_) (fun c191 => ?_)
  · refine g_iconst 2 hC dL_build_198 (by decide) ?_
    first | exact k199 qn v 4 x0 y0 z0 _ hx0 hy0 hz0 (by decide) bel4 rfl hC | exact k199 qn v 2 x0 y0 z0 _ hx0 hy0 hz0 (by decide) bel2 rfl hC
  · refine g_iconst 4 hC dL_build_194 (by decide) ?_
    refine g_goto 199 hC dL_build_195 (by decide) ?_
    first | exact k199 qn v 4 x0 y0 z0 _ hx0 hy0 hz0 (by decide) bel4 rfl hC | exact k199 qn v 2 x0 y0 z0 _ hx0 hy0 hz0 (by decide) bel2 rfl hC
set_option maxRecDepth 100000 in
set_option maxHeartbeats 4000000 in
theorem bd_add {l : Launch} {X : gC} {A : Nat → Nat} {b L : Nat} {xs : Nat → Int32} {kc nc : Nat} (hst : l.stackTraces = false) {es : va_W} {k c r d F qz qs q qf qp qn pa x0 y0 z0 ra se : Nat} {v : Int32} {f : Nat → Option Nat} {ad : Nat → Nat} {gl : Nat → Nat → Int32} {g : Nat → Int32} {σ t : Mem} (hC : uOk l wX X A es cL_build "GemCutLaw" 8 140 1240) (hL : uL X b L xs) (hR : RS σ t) (h0 : t 0 0 = 0) (hnC : nC t = c) (hnR : nR t = r) (hnL : nL t = d) (hnF : nF t = k) (hk : k ≤ 3) (hx0 : x0 < c) (hy0 : y0 < r) (hz0 : z0 < d) (hra : ra ≤ 3) (hse : se < 9) (g0 : g 0 = nI x0) (g1 : g 1 = nI y0) (g2 : g 2 = nI z0) (g3 : g 3 = nI ra) (g4 : g 4 = nI (1 + se)) (hsim : es[1]? = some (qs, .inr (6, [.ref q, .ref qf, .ref qp, .int 400, .int 0]))) (hnw : es[8 + 2 * k]? = some (qn, .inl (zY X 0, 5, .inl g))) (hpa : pa = 2 ∧ k = 0 ∨ pa = 7 + 2 * k ∧ 1 ≤ k) (hcur : es[pa]? = some (qf, .inl (zY X 5, k, .inr (.inr (.inr (.inr f)))))) (hrows : ∀ j, j < k → f j = some (ad j) ∧ es[8 + 2 * j]? = some (ad j, .inl (zY X 0, 5, .inl (gl j)))) (hkc : kc + 3 ≤ 140 ∧ nc + 20 ≤ 1240)
    (kk : ∀ (r9 : Nat) (f' : Nat → Option Nat) (σ1 : Mem), (∀ j, j < k → f' j = f j) → f' k = some qn → RS σ1 (gFlaw t (nI x0) (nI y0) (nI z0) (nI ra) (nI (1 + se))) → uOk l wX X A ((es ++ ([(r9, .inl (zY X 5, k + 1, .inr (.inr (.inr (.inr f')))))] : va_W)).set 1 (qs, .inr (6, [.ref q, .ref r9, .ref qp, .int 400, .int 0]))) cL_build "GemCutLaw" 8 140 1240 → G (wU wX ((es ++ ([(r9, .inl (zY X 5, k + 1, .inr (.inr (.inr (.inr f')))))] : va_W)).set 1 (qs, .inr (6, [.ref q, .ref r9, .ref qp, .int 400, .int 0])))) (uX wX X A ((es ++ ([(r9, .inl (zY X 5, k + 1, .inr (.inr (.inr (.inr f')))))] : va_W)).set 1 (qs, .inr (6, [.ref q, .ref r9, .ref qp, .int 400, .int 0])))) (kc + 3) (nc + 20) 107 [some (.ref (A 0)), some (.ref b), some (.int 6), some (.ref qz), some (.ref qs), some (.int (nI F)), some (.int (nI (k + 1))), none, none] [] σ1) : G (wU wX es) (uX wX X A es) kc nc 219 [some (.ref (A 0)), some (.ref b), some (.int 6), some (.ref qz), some (.ref qs), some (.int (nI F)), some (.int (nI k)), some (.int v), some (.ref qn)] [] σ := by
  refine g_ald0 hC dL_build_219 ?_
  refine g_ald8 hC dL_build_220 ?_
  refine g_iconst 0 hC dL_build_222 (by decide) ?_
  refine u_iald (j := 8 + 2 * k) 0 hC hnw rfl (by decide) (by decide) dL_build_223 ?_
  rw [g0]
  refine g_ald8 hC dL_build_224 ?_
  refine g_iconst 1 hC dL_build_226 (by decide) ?_
  refine u_iald (j := 8 + 2 * k) 1 hC hnw rfl (by decide) (by decide) dL_build_227 ?_
  rw [g1]
  refine g_ald8 hC dL_build_228 ?_
  refine g_iconst 2 hC dL_build_230 (by decide) ?_
  refine u_iald (j := 8 + 2 * k) 2 hC hnw rfl (by decide) (by decide) dL_build_231 ?_
  rw [g2]
  refine g_ald8 hC dL_build_232 ?_
  refine g_iconst 3 hC dL_build_234 (by decide) ?_
  refine u_iald (j := 8 + 2 * k) 3 hC hnw rfl (by decide) (by decide) dL_build_235 ?_
  rw [g3]
  refine g_ald8 hC dL_build_236 ?_
  refine g_iconst 4 hC dL_build_238 (by decide) ?_
  refine u_iald (j := 8 + 2 * k) 4 hC hnw rfl (by decide) (by decide) dL_build_239 ?_
  rw [g4]
  refine x_flaw x0 y0 z0 ra (1 + se) hst hC hL hR h0 (by omega) (by omega) (by omega) hra ⟨by omega, by omega⟩ (by omega) tw_3_205 dL_build_240 (by decide) ⟨by omega, by omega⟩ (Nat.le_of_ble_eq_true rfl) ?_
  intro σ1 hR1
  rw [hnF]
  refine g_ild6 hC dL_build_243 ?_
  refine g_icmp_eq 250 hC dL_build_245 (by decide) (fun c245 => ?_) (fun c245 => absurd rfl c245)
  refine g_ald4 hC dL_build_250 ?_
  refine g_ald4 hC dL_build_252 ?_
  refine u_get (j := 1) (ci := 6) (C := "GemCutLaw$Sim") (T := TX6) (N := 5) (fs := [.ref q, .ref qf, .ref qp, .int 400, .int 0]) (v := .ref qf) hC hsim iw_X6 rfl 1 (by decide) tw_3_191 rfl dL_build_254 ?_
  refine g_ald8 hC dL_build_257 ?_
  refine u_cR (wc := ((qf, .inl (zY X 5, k, .inr (.inr (.inr (.inr f))))) :: (qn, .inl (zY X 0, 5, .inl g)) :: ((List.range k).map (fun j => ((ad j, .inl (zY X 0, 5, .inl (gl j))) : Nat × va_E))))) (J := mJ (zY X) ((qf, .inl (zY X 5, k, .inr (.inr (.inr (.inr f))))) :: (qn, .inl (zY X 0, 5, .inl g)) :: ((List.range k).map (fun j => ((ad j, .inl (zY X 0, 5, .inl (gl j))) : Nat × va_E)))) k qn f) 2 (pa :: (8 + 2 * k) :: (List.range k).map (fun j => 8 + 2 * j)) hC hL (fun sz => c_more l qf qn k 5 f g ((List.range k).map (fun j => ((ad j, .inl (zY X 0, 5, .inl (gl j))) : Nat × va_E))) (by omega) b L xs _ _ (fun j hj => ⟨ad j, _, (hrows j hj).1, by rw [List.getElem?_map, List.getElem?_range hj]; rfl⟩) (by simp) sz) ?_ ?_ (fun r u h => by
    obtain ⟨f', h1, -⟩ := h
    exact ⟨_, h1⟩) tw_3_225 ⟨tw_3_226, tw_1_11, tw_3_227⟩ (by decide +kernel) ⟨by decide, by decide⟩ ⟨by omega, by omega⟩ rfl (Nat.le_of_ble_eq_true rfl) rfl dL_build_259 ?_
  · rcases (show k = 0 ∨ k = 1 ∨ k = 2 ∨ k = 3 by omega) with rfl | rfl | rfl | rfl
    · rcases hpa with ⟨rfl, -⟩ | ⟨-, h⟩
      · decide
      · omega
    · rcases hpa with ⟨-, h⟩ | ⟨rfl, -⟩
      · omega
      · decide
    · rcases hpa with ⟨-, h⟩ | ⟨rfl, -⟩
      · omega
      · decide
    · rcases hpa with ⟨-, h⟩ | ⟨rfl, -⟩
      · omega
      · decide
  · rw [List.map_cons, List.map_cons, List.map_cons, List.map_cons, List.map_map, List.map_map]
    refine List.cons_eq_cons.mpr ⟨hcur, List.cons_eq_cons.mpr ⟨hnw, List.map_congr_left (fun j hj => (hrows j (List.mem_range.mp hj)).2)⟩⟩
  intro r9 nw hmJ hC
  obtain ⟨f', hnw9, hf', hfk⟩ := hmJ
  have hnw9 := List.append_cancel_left hnw9
  subst hnw9
  refine u_put (j := 1) (ci := 6) (C := "GemCutLaw$Sim") (T := TX6) (N := 5) (fs := [.ref q, .ref qf, .ref qp, .int 400, .int 0]) (ty := (.array (.array .int))) tyX6 hC (ge_app hsim _) iw_X6 tyX6_ok nmX6 rfl 1 (by decide) tw_3_191 rfl (by decide +kernel) rfl rfl (by simp) dL_build_262 ?_
  intro hC
  refine g_inc6 1 hC dL_build_265 (by decide) rfl ?_
  refine g_goto 107 hC dL_build_268 (by decide) ?_
  rw [nI_1]
  refine g_keep [true, true, true, true, true, true, true, false, false] ?_
  exact kk r9 f' σ1 hf' hfk hR1 hC
set_option maxRecDepth 100000 in
set_option maxHeartbeats 4000000 in
theorem bd_lp {l : Launch} {X : gC} {A : Nat → Nat} {b L : Nat} {xs : Nat → Int32} (hst : l.stackTraces = false) (hL : uL X b L xs) (hLs : L < 2 ^ 31) (hE : ∀ (k n pc : Nat) (ls : List (Option Value)) (r : Nat) (es' : va_W) (σ' : Mem), decode cL_build pc = .ok (.areturn, 1) → k ≤ 140 → n ≤ 1240 → uOk l wX X A es' cL_build "GemCutLaw" 8 140 1240 → bJ (gEv X).1 (zY X) A r (uB wX (gEv X).1 A (zY X) σ' ++ es') → G (wU wX es') (uX wX X A es') k n pc ls [.ref r] σ') {fz : Nat → Int32} {c r d qz : Nat} (z0 : fz 0 = nI c) (z1 : fz 1 = nI r) (z2 : fz 2 = nI d) (hc : 1 ≤ c ∧ c ≤ 10) (hr : 1 ≤ r ∧ r ≤ 10) (hd : 1 ≤ d ∧ d ≤ 10) {qs qf0 qp qi q F : Nat} {fp f2 f1 : Nat → Option Nat} (hF : F ≤ 4) (hf2 : f2 0 = some (q + 1)) (hf1 : f1 0 = some (q + 2)) : ∀ (m k : Nat) (t σ : Mem) (qf pa : Nat) (G9 : va_W) (f : Nat → Option Nat) (ad : Nat → Nat) (gl : Nat → Nat → Int32), k + m = F → RS σ t → t 0 0 = 0 → t 0 10 = 400 → t 0 11 = 0 → nC t = c → nR t = r → nL t = d → nF t = k → G9.length = 2 * k → (pa = 2 ∧ k = 0 ∨ pa = 7 + 2 * k ∧ 1 ≤ k) → (([(qz, .inl (zY X 0, 3, .inl fz)), (qs, .inr (6, [.ref q, .ref qf, .ref qp, .int 400, .int 0])), (qf0, .inl (zY X 5, 0, .inr (.inr (.inr (.inr (fun _ => none)))))), (qp, .inl (zY X 6, 1, .inr (.inr (.inr (.inr fp))))), (qi, .inl (zY X 5, 0, .inr (.inr (.inr (.inr (fun _ => none)))))), (q, .inl (zY X 6, c, .inr (.inr (.inr (.inr f2))))), (q + 1, .inl (zY X 5, r, .inr (.inr (.inr (.inr f1))))), (q + 2, .inl (zY X 0, d, .inl (fun _ => 0)))] : va_W) ++ G9)[pa]? = some (qf, .inl (zY X 5, k, .inr (.inr (.inr (.inr f))))) → (∀ j, j < k → f j = some (ad j) ∧ G9[2 * j]? = some (ad j, .inl (zY X 0, 5, .inl (gl j))) ∧ gl j 4 = sFl t j 4) → uOk l wX X A (([(qz, .inl (zY X 0, 3, .inl fz)), (qs, .inr (6, [.ref q, .ref qf, .ref qp, .int 400, .int 0])), (qf0, .inl (zY X 5, 0, .inr (.inr (.inr (.inr (fun _ => none)))))), (qp, .inl (zY X 6, 1, .inr (.inr (.inr (.inr fp))))), (qi, .inl (zY X 5, 0, .inr (.inr (.inr (.inr (fun _ => none)))))), (q, .inl (zY X 6, c, .inr (.inr (.inr (.inr f2))))), (q + 1, .inl (zY X 5, r, .inr (.inr (.inr (.inr f1))))), (q + 2, .inl (zY X 0, d, .inl (fun _ => 0)))] : va_W) ++ G9) cL_build "GemCutLaw" 8 140 1240 → G (wU wX (([(qz, .inl (zY X 0, 3, .inl fz)), (qs, .inr (6, [.ref q, .ref qf, .ref qp, .int 400, .int 0])), (qf0, .inl (zY X 5, 0, .inr (.inr (.inr (.inr (fun _ => none)))))), (qp, .inl (zY X 6, 1, .inr (.inr (.inr (.inr fp))))), (qi, .inl (zY X 5, 0, .inr (.inr (.inr (.inr (fun _ => none)))))), (q, .inl (zY X 6, c, .inr (.inr (.inr (.inr f2))))), (q + 1, .inl (zY X 5, r, .inr (.inr (.inr (.inr f1))))), (q + 2, .inl (zY X 0, d, .inl (fun _ => 0)))] : va_W) ++ G9)) (uX wX X A (([(qz, .inl (zY X 0, 3, .inl fz)), (qs, .inr (6, [.ref q, .ref qf, .ref qp, .int 400, .int 0])), (qf0, .inl (zY X 5, 0, .inr (.inr (.inr (.inr (fun _ => none)))))), (qp, .inl (zY X 6, 1, .inr (.inr (.inr (.inr fp))))), (qi, .inl (zY X 5, 0, .inr (.inr (.inr (.inr (fun _ => none)))))), (q, .inl (zY X 6, c, .inr (.inr (.inr (.inr f2))))), (q + 1, .inl (zY X 5, r, .inr (.inr (.inr (.inr f1))))), (q + 2, .inl (zY X 0, d, .inl (fun _ => 0)))] : va_W) ++ G9)) (120 + 4 * k) (1130 + 25 * k) 107 [some (.ref (A 0)), some (.ref b), some (.int 6), some (.ref qz), some (.ref qs), some (.int (nI F)), some (.int (nI k)), none, none] [] σ := by
  intro m
  induction m with
  | zero =>
    intro k t σ qf pa G9 f ad gl hk hR h0 h10 h11 hnC hnR hnL hnF hGl hpa hcur hrows hC
    obtain rfl : k = F := by omega
    refine g_ild6 hC dL_build_107 ?_
    refine g_ild5 hC dL_build_109 ?_
    refine g_icmp_ge 271 hC dL_build_111 (by decide) (fun c111 => ?_) (fun c111 => absurd (nI_le (by omega) (by omega)) c111)
    refine g_ald4 hC dL_build_271 ?_
    refine hE _ _ _ _ _ _ σ dL_build_273 (by omega) (by omega) hC ⟨σ, _, t, q, qf, rfl, hR, h0, h10, h11, ⟨1, qp, rfl⟩, ⟨5, 6, 7, q + 1, q + 2, f2, f1, (fun _ => 0), ?_, hf2, ?_, hf1, ?_⟩, ⟨pa, f, by rw [hnF]; exact hcur, fun j hj => ?_⟩⟩
    · rw [hnC]; rfl
    · rw [hnR]; rfl
    · rw [hnL]; rfl
    · rw [hnF] at hj
      obtain ⟨e1, e2, e3⟩ := hrows j hj
      exact ⟨ad j, 8 + 2 * j, gl j, e1, (get_app G9 rfl (2 * j)).trans e2, e3⟩
  | succ m ih =>
    intro k t σ qf pa G9 f ad gl hk hR h0 h10 h11 hnC hnR hnL hnF hGl hpa hcur hrows hC
    have hl8 : (([(qz, .inl (zY X 0, 3, .inl fz)), (qs, .inr (6, [.ref q, .ref qf, .ref qp, .int 400, .int 0])), (qf0, .inl (zY X 5, 0, .inr (.inr (.inr (.inr (fun _ => none)))))), (qp, .inl (zY X 6, 1, .inr (.inr (.inr (.inr fp))))), (qi, .inl (zY X 5, 0, .inr (.inr (.inr (.inr (fun _ => none)))))), (q, .inl (zY X 6, c, .inr (.inr (.inr (.inr f2))))), (q + 1, .inl (zY X 5, r, .inr (.inr (.inr (.inr f1))))), (q + 2, .inl (zY X 0, d, .inl (fun _ => 0)))] : va_W) ++ G9).length = 8 + 2 * k := by rw [List.length_append, hGl]; rfl
    refine g_ild6 hC dL_build_107 ?_
    refine g_ild5 hC dL_build_109 ?_
    refine g_icmp_ge 271 hC dL_build_111 (by decide) (fun c111 => absurd c111 (nI_ge (by omega) (by omega))) (fun c111 => ?_)
    refine bd_row hC hL hLs hl8 rfl z0 z1 z2 hc hr hd (by omega) ⟨by omega, by omega⟩ ?_
    intro qn g v x0 y0 z0 ra se hx0 hy0 hz0 hra hse g0 g1 g2 g3 g4 hC
    refine bd_add hst hC hL hR h0 hnC hnR hnL hnF (by omega) hx0 hy0 hz0 hra hse g0 g1 g2 g3 g4 (ge_app rfl _) (get_end' hl8) hpa (ge_app hcur _) (fun j hj => ⟨(hrows j hj).1, ge_app ((get_app G9 rfl (2 * j)).trans (hrows j hj).2.1) _⟩) ⟨by omega, by omega⟩ ?_
    intro r9 f' σ1 hf' hfk hR1 hC
    have hC : uOk l wX X A (((([(qz, .inl (zY X 0, 3, .inl fz)), (qs, .inr (6, [.ref q, .ref r9, .ref qp, .int 400, .int 0])), (qf0, .inl (zY X 5, 0, .inr (.inr (.inr (.inr (fun _ => none)))))), (qp, .inl (zY X 6, 1, .inr (.inr (.inr (.inr fp))))), (qi, .inl (zY X 5, 0, .inr (.inr (.inr (.inr (fun _ => none)))))), (q, .inl (zY X 6, c, .inr (.inr (.inr (.inr f2))))), (q + 1, .inl (zY X 5, r, .inr (.inr (.inr (.inr f1))))), (q + 2, .inl (zY X 0, d, .inl (fun _ => 0)))] : va_W) ++ G9) ++ [(qn, .inl (zY X 0, 5, .inl g))]) ++ [(r9, .inl (zY X 5, k + 1, .inr (.inr (.inr (.inr f')))))]) cL_build "GemCutLaw" 8 140 1240 := hC
    show G (wU wX (((([(qz, .inl (zY X 0, 3, .inl fz)), (qs, .inr (6, [.ref q, .ref r9, .ref qp, .int 400, .int 0])), (qf0, .inl (zY X 5, 0, .inr (.inr (.inr (.inr (fun _ => none)))))), (qp, .inl (zY X 6, 1, .inr (.inr (.inr (.inr fp))))), (qi, .inl (zY X 5, 0, .inr (.inr (.inr (.inr (fun _ => none)))))), (q, .inl (zY X 6, c, .inr (.inr (.inr (.inr f2))))), (q + 1, .inl (zY X 5, r, .inr (.inr (.inr (.inr f1))))), (q + 2, .inl (zY X 0, d, .inl (fun _ => 0)))] : va_W) ++ G9) ++ [(qn, .inl (zY X 0, 5, .inl g))]) ++ [(r9, .inl (zY X 5, k + 1, .inr (.inr (.inr (.inr f')))))])) (uX wX X A (((([(qz, .inl (zY X 0, 3, .inl fz)), (qs, .inr (6, [.ref q, .ref r9, .ref qp, .int 400, .int 0])), (qf0, .inl (zY X 5, 0, .inr (.inr (.inr (.inr (fun _ => none)))))), (qp, .inl (zY X 6, 1, .inr (.inr (.inr (.inr fp))))), (qi, .inl (zY X 5, 0, .inr (.inr (.inr (.inr (fun _ => none)))))), (q, .inl (zY X 6, c, .inr (.inr (.inr (.inr f2))))), (q + 1, .inl (zY X 5, r, .inr (.inr (.inr (.inr f1))))), (q + 2, .inl (zY X 0, d, .inl (fun _ => 0)))] : va_W) ++ G9) ++ [(qn, .inl (zY X 0, 5, .inl g))]) ++ [(r9, .inl (zY X 5, k + 1, .inr (.inr (.inr (.inr f')))))])) _ _ 107 _ [] σ1
    rw [app4] at hC ⊢
    refine g_widen (k1 := 120 + 4 * (k + 1)) (n1 := 1130 + 25 * (k + 1)) (by omega) (by omega) ?_
    have hnF9 : nF t < 10 := by omega
    have e9 : sFl (gFlaw t (nI x0) (nI y0) (nI z0) (nI ra) (nI (1 + se))) k 4 = nI (1 + se) := by
      have h := fw_new (t := t) (x := nI x0) (y := nI y0) (z := nI z0) (ra := nI ra) (se := nI (1 + se)) (w := 4) (by decide)
      rw [hnF] at h
      rw [h]; rfl
    have e8 : ∀ j, j < k → sFl (gFlaw t (nI x0) (nI y0) (nI z0) (nI ra) (nI (1 + se))) j 4 = sFl t j 4 := fun j hj => fw_old (by omega) (by decide)
    have a0 : (gFlaw t (nI x0) (nI y0) (nI z0) (nI ra) (nI (1 + se))) 0 0 = 0 := by simp [gFlaw, h0]
    have a10 : (gFlaw t (nI x0) (nI y0) (nI z0) (nI ra) (nI (1 + se))) 0 10 = 400 := by rw [fw_0 (by decide)]; exact h10
    have a11 : (gFlaw t (nI x0) (nI y0) (nI z0) (nI ra) (nI (1 + se))) 0 11 = 0 := by rw [fw_0 (by decide)]; exact h11
    have aC : nC (gFlaw t (nI x0) (nI y0) (nI z0) (nI ra) (nI (1 + se))) = c := by rw [fw_nC]; exact hnC
    have aR : nR (gFlaw t (nI x0) (nI y0) (nI z0) (nI ra) (nI (1 + se))) = r := by rw [fw_nR]; exact hnR
    have aL : nL (gFlaw t (nI x0) (nI y0) (nI z0) (nI ra) (nI (1 + se))) = d := by rw [fw_nL]; exact hnL
    have aF : nF (gFlaw t (nI x0) (nI y0) (nI z0) (nI ra) (nI (1 + se))) = k + 1 := by rw [(fw_nF hR.1 hnF9).2, hnF]
    generalize gFlaw t (nI x0) (nI y0) (nI z0) (nI ra) (nI (1 + se)) = t1 at hR1 e9 e8 a0 a10 a11 aC aR aL aF
    have aG : (G9 ++ ([(qn, .inl (zY X 0, 5, .inl g)), (r9, .inl (zY X 5, k + 1, .inr (.inr (.inr (.inr f')))))] : va_W)).length = 2 * (k + 1) := by rw [List.length_append, hGl]; show 2 * k + 2 = _; omega
    generalize hG1 : G9 ++ [(qn, .inl (zY X 0, 5, .inl g)), (r9, .inl (zY X 5, k + 1, .inr (.inr (.inr (.inr f')))))] = G1 at hC aG ⊢
    have g1a : ∀ i, i < 2 * k → G1[i]? = G9[i]? := fun i hi => by rw [← hG1, List.getElem?_append_left (by omega)]
    have g1b : G1[2 * k]? = some (qn, .inl (zY X 0, 5, .inl g)) := by rw [← hG1, List.getElem?_append_right (by omega), hGl, Nat.sub_self]; rfl
    have g1c : G1[2 * k + 1]? = some (r9, .inl (zY X 5, k + 1, .inr (.inr (.inr (.inr f'))))) := by rw [← hG1, List.getElem?_append_right (by omega), hGl, Nat.add_sub_cancel_left]; rfl
    refine ih (k + 1) t1 σ1 r9 (7 + 2 * (k + 1)) G1 f' (fun j => if j = k then qn else ad j) (fun j => if j = k then g else gl j) (by omega) hR1 a0 a10 a11 aC aR aL aF aG (Or.inr ⟨rfl, by omega⟩) ?_ (fun j hj => ?_) hC
    · rw [show 7 + 2 * (k + 1) = 8 + (2 * k + 1) by omega]
      exact (get_app _ rfl (2 * k + 1)).trans g1c
    · by_cases h9 : j = k
      · subst h9
        refine ⟨by rw [hfk, if_pos rfl], ?_, ?_⟩
        · rw [if_pos rfl, if_pos rfl]; exact g1b
        · rw [if_pos rfl, g4, e9]
      · obtain ⟨e1, e2, e3⟩ := hrows j (by omega)
        refine ⟨by rw [hf' j (by omega), e1, if_neg h9], ?_, ?_⟩
        · rw [g1a _ (by omega), if_neg h9, if_neg h9]; exact e2
        · rw [if_neg h9, e3, e8 j (by omega)]
set_option maxRecDepth 100000 in
set_option maxHeartbeats 4000000 in
theorem bd_46 {l : Launch} {X : gC} {A : Nat → Nat} {b L : Nat} {xs : Nat → Int32} (hst : l.stackTraces = false) (hL : uL X b L xs) (hLs : L < 2 ^ 31) (hE : ∀ (k n pc : Nat) (ls : List (Option Value)) (r : Nat) (es' : va_W) (σ' : Mem), decode cL_build pc = .ok (.areturn, 1) → k ≤ 140 → n ≤ 1240 → uOk l wX X A es' cL_build "GemCutLaw" 8 140 1240 → bJ (gEv X).1 (zY X) A r (uB wX (gEv X).1 A (zY X) σ' ++ es') → G (wU wX es') (uX wX X A es') k n pc ls [.ref r] σ') {σ t : Mem} (hR : RS σ t) (h0 : t 0 0 = 0) {fz : Nat → Int32} {c r d qz : Nat} (hc : 1 ≤ c ∧ c ≤ 10) (hr : 1 ≤ r ∧ r ≤ 10) (hd9 : 1 ≤ d ∧ d ≤ 10) (z0 : fz 0 = nI c) (z1 : fz 1 = nI r) (z2 : fz 2 = nI d) (hC : uOk l wX X A [(qz, .inl (zY X 0, 3, .inl fz))] cL_build "GemCutLaw" 8 140 1240) : G (wU wX [(qz, .inl (zY X 0, 3, .inl fz))]) (uX wX X A [(qz, .inl (zY X 0, 3, .inl fz))]) 1 3 46 [some (.ref (A 0)), some (.ref b), some (.int 6), some (.ref qz), none, none, none, none, none] [] σ := by
  refine g_ald0 hC dL_build_46 ?_
  refine g_ald3 hC dL_build_47 ?_
  refine g_iconst 0 hC dL_build_48 (by decide) ?_
  refine u_iald (j := 0) 0 hC rfl rfl (by decide) (by decide) dL_build_49 ?_
  rw [z0]
  refine g_ald3 hC dL_build_50 ?_
  refine g_iconst 1 hC dL_build_51 (by decide) ?_
  refine u_iald (j := 0) 1 hC rfl rfl (by decide) (by decide) dL_build_52 ?_
  rw [z1]
  refine g_ald3 hC dL_build_53 ?_
  refine g_iconst 2 hC dL_build_54 (by decide) ?_
  refine u_iald (j := 0) 2 hC rfl rfl (by decide) (by decide) dL_build_55 ?_
  rw [z2]
  refine x_take c r d hst hC hL hR h0 hc hr hd9 tw_3_169 dL_build_56 (by decide) ⟨by omega, by omega⟩ (Nat.le_of_ble_eq_true rfl) ?_
  intro σ1 hR1
  obtain ⟨-, ⟨b1, b2, b3, b5, b7, -, b10, b11, -⟩⟩ := beg_RM hR.1 hR.2.2.1 hc hr hd9
  have b0 : gBegin t (nI c) (nI r) (nI d) 0 0 = 0 := by simp [gBegin, gCells, upd2, h0]
  generalize gBegin t (nI c) (nI r) (nI d) = t1 at b0 b1 b2 b3 b5 b7 b10 b11 hR1
  refine g_ald3 hC dL_build_59 ?_
  refine g_iconst 0 hC dL_build_60 (by decide) ?_
  refine u_iald (j := 0) 0 hC rfl rfl (by decide) (by decide) dL_build_61 ?_
  rw [z0]
  refine g_ald3 hC dL_build_62 ?_
  refine g_iconst 1 hC dL_build_63 (by decide) ?_
  refine u_iald (j := 0) 1 hC rfl rfl (by decide) (by decide) dL_build_64 ?_
  rw [z1]
  refine g_imul hC dL_build_65 ?_
  refine g_ald3 hC dL_build_66 ?_
  refine g_iconst 2 hC dL_build_67 (by decide) ?_
  refine u_iald (j := 0) 2 hC rfl rfl (by decide) (by decide) dL_build_68 ?_
  rw [z2]
  refine g_imul hC dL_build_69 ?_
  refine g_icmp_eq 75 hC dL_build_70 (by decide) (fun c70 => ?_) (fun c70 => absurd rfl c70)
  refine u_new (ci := 6) (C := "GemCutLaw$Sim") (T := TX6) (N := 5) (fs := [.null, .null, .null, .int 0, .int 0]) tyX6 hC iw_X6 tyX6_ok tw_3_177 tw_3_178 tw_1_11 rfl (fun j hj => by match j, hj with | 0, _ => rfl | 1, _ => rfl | 2, _ => rfl | 3, _ => rfl | 4, _ => rfl) ⟨by omega, by omega⟩ dL_build_75 ?_
  intro qs hC
  refine g_dup hC dL_build_78 rfl ?_
  refine g_ald3 hC dL_build_79 ?_
  refine g_iconst 0 hC dL_build_80 (by decide) ?_
  refine u_iald (j := 0) 0 hC rfl rfl (by decide) (by decide) dL_build_81 ?_
  rw [z0]
  refine g_ald3 hC dL_build_82 ?_
  refine g_iconst 1 hC dL_build_83 (by decide) ?_
  refine u_iald (j := 0) 1 hC rfl rfl (by decide) (by decide) dL_build_84 ?_
  rw [z1]
  refine g_ald3 hC dL_build_85 ?_
  refine g_iconst 2 hC dL_build_86 (by decide) ?_
  refine u_iald (j := 0) 2 hC rfl rfl (by decide) (by decide) dL_build_87 ?_
  rw [z2]
  refine u_cV (J := sJ (zY X) qs c r d) (As := [.int (nI c), .int (nI r), .int (nI d)]) 3 hC hL (fun sz => c_sim l qs c r d hc hr hd9 b L xs _ _ sz) tw_3_179 ⟨tw_3_180, tw_1_11, tw_3_181⟩ rfl ⟨by decide, by decide, by decide +kernel⟩ ⟨by decide, by decide⟩ ⟨by omega, by omega⟩ rfl (Nat.le_of_ble_eq_true rfl) rfl dL_build_88 ?_
  intro u hu hC
  obtain ⟨qf0, qp, qi, q, fp, f2, f1, rfl, hf2, hf1⟩ := hu
  refine g_ast4 hC dL_build_91 rfl ?_
  refine g_ald1 hC dL_build_93 ?_
  refine g_iconst 3 hC dL_build_94 (by decide) ?_
  refine r_cell (k9 := 3) hC hL (by decide) hLs tw_3_154 dL_build_95 (by decide) ⟨by omega, by omega⟩ (Nat.le_of_ble_eq_true rfl) ?_
  refine g_iconst 5 hC dL_build_98 (by decide) ?_
  refine r_below hC hL (by decide) tw_3_150 dL_build_99 (by decide) ⟨by omega, by omega⟩ (Nat.le_of_ble_eq_true rfl) ?_
  obtain ⟨F, hF, eF⟩ := bel_nI (sCel L xs 3) (n := 5) (by decide) (by decide)
  rw [show sBel (sCel L xs 3) 5 = nI F from eF]
  refine g_ist5 hC dL_build_102 rfl ?_
  refine g_iconst 0 hC dL_build_104 (by decide) ?_
  refine g_ist6 hC dL_build_105 rfl ?_
  refine g_widen (k1 := 120 + 4 * 0) (n1 := 1130 + 25 * 0) (by omega) (by omega) ?_
  exact bd_lp hst hL hLs hE z0 z1 z2 hc hr hd9 (by omega) hf2 hf1 F 0 t1 σ1 qf0 2 [] (fun _ => none) (fun _ => 0) (fun _ _ => 0) (by omega) hR1 b0 b10 b11 (by unfold nC; rw [b1]; exact nI_clamp (by omega)) (by unfold nR; rw [b2]; exact nI_clamp (by omega)) (by unfold nL; rw [b3]; exact nI_clamp (by omega)) (by unfold nF; rw [b5]; rfl) rfl (Or.inl ⟨rfl, rfl⟩) rfl (fun j hj => absurd hj (by omega)) hC
set_option maxRecDepth 100000 in
set_option maxHeartbeats 4000000 in
theorem c_build (l : Launch) (hst : l.stackTraces = false) (b L : Nat) (hLs : L < 2 ^ 31) (xs : Nat → Int32) (D : va_G) (cy : Nat → ClassId) (A : Nat → Nat) (σ t : Mem) (hR : RS σ t) (h0 : t 0 0 = 0) (sz : Nat) : Met l yL_build (.code yL_build cL_build 9 (some (.object "GemCutLaw$Sim")) :: TB) (gR 8 140 1240) (vPre D cy b L xs (uB wX D A cy σ ++ []) sz [.ref (A 0), .ref b, .int 6]) (va_Qr (fun u : Nat × va_W => bJ D cy A u.1 u.2) (fun u r t => r = u.1 ∧ vC D (uB wX D A cy σ ++ []) sz u.2 t) (va_A (uB wX D A cy σ ++ []) sz)) 140 1240 (va_A (uB wX D A cy σ ++ []) sz) := by
  refine vR_of (B := wX) (A := A) (σ := σ) (es := []) (J := bJ D cy A) (by decide) (Or.inl ⟨_, rfl⟩) (Nat.le_of_ble_eq_true rfl) ?_
  intro X hC hL hcy hDD hE
  subst hcy
  subst hDD
  have hI := hL.2.2
  show G (wU wX []) (uX wX X A []) 0 0 0 [some (.ref (A 0)), some (.ref b), some (.int 6), none, none, none, none, none, none] [] σ
  refine g_iconst 3 hC dL_build_0 (by decide) ?_
  refine u_newa (t0 := 0) (N' := 3) (ty := .int) .int hC tw_1_57 rfl (fun _ => rfl) (fun _ => rfl) (fun _ _ => rfl) (by decide) (by decide) (by decide) ⟨by omega, by omega⟩ dL_build_1 ?_
  intro qz hC
  have hC : uOk l wX X A [(qz, .inl (zY X 0, 3, .inl (fun _ => 0)))] cL_build "GemCutLaw" 8 140 1240 := hC
  show G (wU wX [(qz, .inl (zY X 0, 3, .inl (fun _ => 0)))]) (uX wX X A [(qz, .inl (zY X 0, 3, .inl (fun _ => 0)))]) 1 3 3 [some (.ref (A 0)), some (.ref b), some (.int 6), none, none, none, none, none, none] [.ref qz] σ
  refine g_dup hC dL_build_3 rfl ?_
  refine g_iconst 0 hC dL_build_4 (by decide) ?_
  refine g_iconst 1 hC dL_build_5 (by decide) ?_
  refine g_ald1 hC dL_build_6 ?_
  refine g_iconst 0 hC dL_build_7 (by decide) ?_
  refine r_cell (k9 := 0) hC hL (by decide) hLs tw_3_154 dL_build_8 (by decide) ⟨by omega, by omega⟩ (Nat.le_of_ble_eq_true rfl) ?_
  refine g_ild2 hC dL_build_11 ?_
  refine r_below hC hL (by decide) tw_3_150 dL_build_12 (by decide) ⟨by omega, by omega⟩ (Nat.le_of_ble_eq_true rfl) ?_
  obtain ⟨s0, hs0, es0⟩ := bel_nI (sCel L xs 0) (n := 6) (by decide) (by decide)
  rw [show sBel (sCel L xs 0) 6 = nI s0 from es0]
  refine g_iadd hC dL_build_15 ?_
  rw [show (1 : Int32) + nI s0 = nI (1 + s0) from nI_add 1 s0]
  refine u_iast (j := 0) 0 hC rfl rfl (by decide) (by decide) dL_build_16 ?_
  intro hC
  refine g_dup hC dL_build_17 rfl ?_
  refine g_iconst 1 hC dL_build_18 (by decide) ?_
  refine g_iconst 1 hC dL_build_19 (by decide) ?_
  refine g_ald1 hC dL_build_20 ?_
  refine g_iconst 1 hC dL_build_21 (by decide) ?_
  refine r_cell (k9 := 1) hC hL (by decide) hLs tw_3_154 dL_build_22 (by decide) ⟨by omega, by omega⟩ (Nat.le_of_ble_eq_true rfl) ?_
  refine g_ild2 hC dL_build_25 ?_
  refine r_below hC hL (by decide) tw_3_150 dL_build_26 (by decide) ⟨by omega, by omega⟩ (Nat.le_of_ble_eq_true rfl) ?_
  obtain ⟨s1, hs1, es1⟩ := bel_nI (sCel L xs 1) (n := 6) (by decide) (by decide)
  rw [show sBel (sCel L xs 1) 6 = nI s1 from es1]
  refine g_iadd hC dL_build_29 ?_
  rw [show (1 : Int32) + nI s1 = nI (1 + s1) from nI_add 1 s1]
  refine u_iast (j := 0) 1 hC rfl rfl (by decide) (by decide) dL_build_30 ?_
  intro hC
  refine g_dup hC dL_build_31 rfl ?_
  refine g_iconst 2 hC dL_build_32 (by decide) ?_
  refine g_iconst 1 hC dL_build_33 (by decide) ?_
  refine g_ald1 hC dL_build_34 ?_
  refine g_iconst 2 hC dL_build_35 (by decide) ?_
  refine r_cell (k9 := 2) hC hL (by decide) hLs tw_3_154 dL_build_36 (by decide) ⟨by omega, by omega⟩ (Nat.le_of_ble_eq_true rfl) ?_
  refine g_ild2 hC dL_build_39 ?_
  refine r_below hC hL (by decide) tw_3_150 dL_build_40 (by decide) ⟨by omega, by omega⟩ (Nat.le_of_ble_eq_true rfl) ?_
  obtain ⟨s2, hs2, es2⟩ := bel_nI (sCel L xs 2) (n := 6) (by decide) (by decide)
  rw [show sBel (sCel L xs 2) 6 = nI s2 from es2]
  refine g_iadd hC dL_build_43 ?_
  rw [show (1 : Int32) + nI s2 = nI (1 + s2) from nI_add 1 s2]
  refine u_iast (j := 0) 2 hC rfl rfl (by decide) (by decide) dL_build_44 ?_
  intro hC
  refine g_ast3 hC dL_build_45 rfl ?_
  exact bd_46 hst hL hLs hE hR h0 (c := 1 + s0) (r := 1 + s1) (d := 1 + s2) (by omega) (by omega) (by omega) (by simp [upd]) (by simp [upd]) (by simp [upd]) hC
