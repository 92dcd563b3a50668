set_option maxRecDepth 100000 in
set_option maxHeartbeats 4000000 in
theorem lc_take {l : Launch} {X : gC} {b L i k n : Nat} {xs : Nat → Int32} {σ : Mem} (hst : l.stackTraces = false) (hC : gOk wL l X cL_law "GemCutLaw" 10 601024 7293033) (hZ : gZY X) (hN : gNcX X) (hS : gScr X b L xs) (hL : L ≤ 3584) (hi : i + 7 ≤ L) (hk : k + 168 ≤ 601024) (hn : n + 844 ≤ 7293033) (hR : RS σ (shM 196 σ)) (kk : ∀ (k2 n2 : Nat) (σ2 : Mem), k2 ≤ k + 168 → n2 ≤ n + 844 → RS σ2 (shM 196 σ2) → G wL X k2 n2 1386 [some (.ref b), some (.ref (gA X 0)), some (.ref (gA X 196)), some (.ref (gA X 195)), some (.int (nI i)), none, none, none, none] [] σ2) : G wL X k n 124 [some (.ref b), some (.ref (gA X 0)), some (.ref (gA X 196)), some (.ref (gA X 195)), some (.int (nI i)), none, none, none, none] [] σ := by
  have hNM := NM_of hR.1 hR.2.1
  refine g_ald1 hC dL_law_124 ?_
  refine g_ald0 hC dL_law_125 ?_
  refine g_ild4 hC dL_law_126 ?_
  refine g_iconst 1 hC dL_law_128 (by decide) ?_
  refine g_iadd hC dL_law_129 ?_
  refine g_sld (j := i + 1) hC hS (nI_add i 1) (by omega) (by omega) dL_law_130 ?_
  refine g_ald0 hC dL_law_131 ?_
  refine g_ild4 hC dL_law_132 ?_
  refine g_iconst 2 hC dL_law_134 (by decide) ?_
  refine g_iadd hC dL_law_135 ?_
  refine g_sld (j := i + 2) hC hS (nI_add i 2) (by omega) (by omega) dL_law_136 ?_
  refine g_ald0 hC dL_law_137 ?_
  refine g_ild4 hC dL_law_138 ?_
  refine g_iconst 3 hC dL_law_140 (by decide) ?_
  refine g_iadd hC dL_law_141 ?_
  refine g_sld (j := i + 3) hC hS (nI_add i 3) (by omega) (by omega) dL_law_142 ?_
  refine g_ald3 hC dL_law_143 ?_
  refine g_wSI (o := 0) emb_l 5 hC hZ hN (c_L_take l hst (mTh (shM 196 σ)) (xs (i + 1)) (xs (i + 2)) (xs (i + 3))) tw_2_115 ⟨tw_2_116, tw_1_0, tw_2_117⟩ (by decide +kernel) ⟨by decide, by decide⟩ ⟨by omega, by omega⟩ rfl rfl (Nat.le_of_ble_eq_true rfl) rfl dL_law_144 ⟨RS_th hR, th_0 _⟩ (fun rr σ1 hw => ?_)
  rw [mTake_th] at hw
  show G wL X _ _ _ _ _ (ptM 0 196 σ σ1)
  refine g_ist5 hC dL_law_147 rfl ?_
  refine g_ald2 hC dL_law_149 ?_
  refine g_ald0 hC dL_law_150 ?_
  refine g_ild4 hC dL_law_151 ?_
  refine g_iconst 1 hC dL_law_153 (by decide) ?_
  refine g_iadd hC dL_law_154 ?_
  refine g_sld (j := i + 1) hC hS (nI_add i 1) (by omega) (by omega) dL_law_155 ?_
  refine g_ald0 hC dL_law_156 ?_
  refine g_ild4 hC dL_law_157 ?_
  refine g_iconst 2 hC dL_law_159 (by decide) ?_
  refine g_iadd hC dL_law_160 ?_
  refine g_sld (j := i + 2) hC hS (nI_add i 2) (by omega) (by omega) dL_law_161 ?_
  refine g_ald0 hC dL_law_162 ?_
  refine g_ild4 hC dL_law_163 ?_
  refine g_iconst 3 hC dL_law_165 (by decide) ?_
  refine g_iadd hC dL_law_166 ?_
  refine g_sld (j := i + 3) hC hS (nI_add i 3) (by omega) (by omega) dL_law_167 ?_
  refine g_eVI (o := 196) emb_m 3 hC (c_X6_take l (xs (i + 1)) (xs (i + 2)) (xs (i + 3))) tw_4_63 ⟨tw_4_64, tw_4_65, tw_1_7, tw_4_66⟩ (by decide +kernel) ⟨by decide, by decide⟩ ⟨by omega, by omega⟩ rfl rfl rfl (gW_at wL _ _ (i := 196) (by decide)) (Nat.le_of_ble_eq_true rfl) rfl dL_law_168 trivial (fun r2 τ1 hq => ?_)
  rw [sh_pt _ (by decide)] at hq
  show G wL X _ _ _ _ _ (ptM 196 5 (ptM 0 196 σ σ1) τ1)
  obtain ⟨s1, s2, s3⟩ := lw_step (σ := σ) (τ1 := τ1) hw (by rw [hq.2]; exact Qf_rf _) (by rw [hq.2])
  generalize ptM 196 5 (ptM 0 196 σ σ1) τ1 = σ2 at s1 s2 s3 ⊢
  refine g_ist6 hC dL_law_171 rfl ?_
  refine g_ald2 hC dL_law_173 ?_
  refine g_eVI (o := 196) emb_m 0 hC (c_X6_thrown l) tw_4_59 ⟨tw_4_60, tw_4_61, tw_1_7, tw_4_62⟩ (by decide +kernel) ⟨by decide, by decide⟩ ⟨by omega, by omega⟩ rfl rfl rfl (gW_at wL _ _ (i := 196) (by decide)) (Nat.le_of_ble_eq_true rfl) rfl dL_law_174 trivial (fun r3 τ3 hq3 => ?_)
  obtain ⟨rfl, rfl⟩ := hq3
  rw [ptM_id, s2]
  refine g_ild5 hC dL_law_177 ?_
  refine g_icmp_eq 184 hC dL_law_179 (by decide) (fun _ => ?_) (fun c => absurd rfl c)
  refine g_ild5 hC dL_law_184 ?_
  refine g_if_ne 201 hC dL_law_186 (by decide) (fun c => ?_) (fun c => ?_)
  · refine g_goto 1386 hC dL_law_201 (by decide) ?_
    refine g_keep [true, true, true, true, true, false, false, false, false] ?_
    exact kk _ _ _ (by omega) (by omega) s1
  · refine g_ald3 hC dL_law_189 ?_
    refine g_iconst 0 hC dL_law_190 (by decide) ?_
    refine g_lald (i := 195) hC (by decide) (fun ρ => le_out _ ρ) dL_law_191 ?_
    refine g_ild6 hC dL_law_192 ?_
    refine g_i2l hC dL_law_194 ?_
    refine g_lcmp hC (by rw [s3 c, hq.1]) dL_law_195 ?_
    refine g_if_eq 201 hC dL_law_196 (by decide) (fun _ => ?_) (fun c => absurd rfl c)
    refine g_goto 1386 hC dL_law_201 (by decide) ?_
    refine g_keep [true, true, true, true, true, false, false, false, false] ?_
    exact kk _ _ _ (by omega) (by omega) s1
set_option maxRecDepth 100000 in
set_option maxHeartbeats 4000000 in
theorem lc_flaw {l : Launch} {X : gC} {b L i k n : Nat} {xs : Nat → Int32} {σ : Mem} (hst : l.stackTraces = false) (hC : gOk wL l X cL_law "GemCutLaw" 10 601024 7293033) (hZ : gZY X) (hN : gNcX X) (hS : gScr X b L xs) (hL : L ≤ 3584) (hi : i + 7 ≤ L) (hk : k + 168 ≤ 601024) (hn : n + 844 ≤ 7293033) (hR : RS σ (shM 196 σ)) (kk : ∀ (k2 n2 : Nat) (σ2 : Mem), k2 ≤ k + 168 → n2 ≤ n + 844 → RS σ2 (shM 196 σ2) → G wL X k2 n2 1386 [some (.ref b), some (.ref (gA X 0)), some (.ref (gA X 196)), some (.ref (gA X 195)), some (.int (nI i)), none, none, none, none] [] σ2) : G wL X k n 204 [some (.ref b), some (.ref (gA X 0)), some (.ref (gA X 196)), some (.ref (gA X 195)), some (.int (nI i)), none, none, none, none] [] σ := by
  have hNM := NM_of hR.1 hR.2.1
  refine g_ald1 hC dL_law_204 ?_
  refine g_ald0 hC dL_law_205 ?_
  refine g_ild4 hC dL_law_206 ?_
  refine g_iconst 1 hC dL_law_208 (by decide) ?_
  refine g_iadd hC dL_law_209 ?_
  refine g_sld (j := i + 1) hC hS (nI_add i 1) (by omega) (by omega) dL_law_210 ?_
  refine g_ald0 hC dL_law_211 ?_
  refine g_ild4 hC dL_law_212 ?_
  refine g_iconst 2 hC dL_law_214 (by decide) ?_
  refine g_iadd hC dL_law_215 ?_
  refine g_sld (j := i + 2) hC hS (nI_add i 2) (by omega) (by omega) dL_law_216 ?_
  refine g_ald0 hC dL_law_217 ?_
  refine g_ild4 hC dL_law_218 ?_
  refine g_iconst 3 hC dL_law_220 (by decide) ?_
  refine g_iadd hC dL_law_221 ?_
  refine g_sld (j := i + 3) hC hS (nI_add i 3) (by omega) (by omega) dL_law_222 ?_
  refine g_ald0 hC dL_law_223 ?_
  refine g_ild4 hC dL_law_224 ?_
  refine g_iconst 4 hC dL_law_226 (by decide) ?_
  refine g_iadd hC dL_law_227 ?_
  refine g_sld (j := i + 4) hC hS (nI_add i 4) (by omega) (by omega) dL_law_228 ?_
  refine g_ald0 hC dL_law_229 ?_
  refine g_ild4 hC dL_law_230 ?_
  refine g_iconst 5 hC dL_law_232 (by decide) ?_
  refine g_iadd hC dL_law_233 ?_
  refine g_sld (j := i + 5) hC hS (nI_add i 5) (by omega) (by omega) dL_law_234 ?_
  refine g_ald3 hC dL_law_235 ?_
  refine g_wSI (o := 0) emb_l 7 hC hZ hN (c_L_flaw l hst (mTh (shM 196 σ)) (xs (i + 1)) (xs (i + 2)) (xs (i + 3)) (xs (i + 4)) (xs (i + 5))) tw_2_194 ⟨tw_2_195, tw_1_0, tw_2_196⟩ (by decide +kernel) ⟨by decide, by decide⟩ ⟨by omega, by omega⟩ rfl rfl (Nat.le_of_ble_eq_true rfl) rfl dL_law_236 ⟨RS_th hR, th_0 _⟩ (fun rr σ1 hw => ?_)
  rw [mFlaw_th] at hw
  show G wL X _ _ _ _ _ (ptM 0 196 σ σ1)
  refine g_ist5 hC dL_law_239 rfl ?_
  refine g_ald2 hC dL_law_241 ?_
  refine g_ald0 hC dL_law_242 ?_
  refine g_ild4 hC dL_law_243 ?_
  refine g_iconst 1 hC dL_law_245 (by decide) ?_
  refine g_iadd hC dL_law_246 ?_
  refine g_sld (j := i + 1) hC hS (nI_add i 1) (by omega) (by omega) dL_law_247 ?_
  refine g_ald0 hC dL_law_248 ?_
  refine g_ild4 hC dL_law_249 ?_
  refine g_iconst 2 hC dL_law_251 (by decide) ?_
  refine g_iadd hC dL_law_252 ?_
  refine g_sld (j := i + 2) hC hS (nI_add i 2) (by omega) (by omega) dL_law_253 ?_
  refine g_ald0 hC dL_law_254 ?_
  refine g_ild4 hC dL_law_255 ?_
  refine g_iconst 3 hC dL_law_257 (by decide) ?_
  refine g_iadd hC dL_law_258 ?_
  refine g_sld (j := i + 3) hC hS (nI_add i 3) (by omega) (by omega) dL_law_259 ?_
  refine g_ald0 hC dL_law_260 ?_
  refine g_ild4 hC dL_law_261 ?_
  refine g_iconst 4 hC dL_law_263 (by decide) ?_
  refine g_iadd hC dL_law_264 ?_
  refine g_sld (j := i + 4) hC hS (nI_add i 4) (by omega) (by omega) dL_law_265 ?_
  refine g_ald0 hC dL_law_266 ?_
  refine g_ild4 hC dL_law_267 ?_
  refine g_iconst 5 hC dL_law_269 (by decide) ?_
  refine g_iadd hC dL_law_270 ?_
  refine g_sld (j := i + 5) hC hS (nI_add i 5) (by omega) (by omega) dL_law_271 ?_
  refine g_eVI (o := 196) emb_m 5 hC (c_X6_flaw l (xs (i + 1)) (xs (i + 2)) (xs (i + 3)) (xs (i + 4)) (xs (i + 5))) tw_4_71 ⟨tw_4_72, tw_4_73, tw_1_7, tw_4_74⟩ (by decide +kernel) ⟨by decide, by decide⟩ ⟨by omega, by omega⟩ rfl rfl rfl (gW_at wL _ _ (i := 196) (by decide)) (Nat.le_of_ble_eq_true rfl) rfl dL_law_272 (by rw [sh_pt _ (by decide)]; exact hR.1) (fun r2 τ1 hq => ?_)
  rw [sh_pt _ (by decide)] at hq
  show G wL X _ _ _ _ _ (ptM 196 5 (ptM 0 196 σ σ1) τ1)
  obtain ⟨s1, s2, s3⟩ := lw_step (σ := σ) (τ1 := τ1) hw (by rw [hq.2]; exact Qf_rf _) (by rw [hq.2])
  generalize ptM 196 5 (ptM 0 196 σ σ1) τ1 = σ2 at s1 s2 s3 ⊢
  refine g_ist6 hC dL_law_275 rfl ?_
  refine g_ald2 hC dL_law_277 ?_
  refine g_eVI (o := 196) emb_m 0 hC (c_X6_thrown l) tw_4_59 ⟨tw_4_60, tw_4_61, tw_1_7, tw_4_62⟩ (by decide +kernel) ⟨by decide, by decide⟩ ⟨by omega, by omega⟩ rfl rfl rfl (gW_at wL _ _ (i := 196) (by decide)) (Nat.le_of_ble_eq_true rfl) rfl dL_law_278 trivial (fun r3 τ3 hq3 => ?_)
  obtain ⟨rfl, rfl⟩ := hq3
  rw [ptM_id, s2]
  refine g_ild5 hC dL_law_281 ?_
  refine g_icmp_eq 288 hC dL_law_283 (by decide) (fun _ => ?_) (fun c => absurd rfl c)
  refine g_ild5 hC dL_law_288 ?_
  refine g_if_ne 305 hC dL_law_290 (by decide) (fun c => ?_) (fun c => ?_)
  · refine g_goto 1386 hC dL_law_305 (by decide) ?_
    refine g_keep [true, true, true, true, true, false, false, false, false] ?_
    exact kk _ _ _ (by omega) (by omega) s1
  · refine g_ald3 hC dL_law_293 ?_
    refine g_iconst 0 hC dL_law_294 (by decide) ?_
    refine g_lald (i := 195) hC (by decide) (fun ρ => le_out _ ρ) dL_law_295 ?_
    refine g_ild6 hC dL_law_296 ?_
    refine g_i2l hC dL_law_298 ?_
    refine g_lcmp hC (by rw [s3 c, hq.1]) dL_law_299 ?_
    refine g_if_eq 305 hC dL_law_300 (by decide) (fun _ => ?_) (fun c => absurd rfl c)
    refine g_goto 1386 hC dL_law_305 (by decide) ?_
    refine g_keep [true, true, true, true, true, false, false, false, false] ?_
    exact kk _ _ _ (by omega) (by omega) s1
set_option maxRecDepth 100000 in
set_option maxHeartbeats 4000000 in
theorem lc_cell {l : Launch} {X : gC} {b L i k n : Nat} {xs : Nat → Int32} {σ : Mem} (hst : l.stackTraces = false) (hC : gOk wL l X cL_law "GemCutLaw" 10 601024 7293033) (hZ : gZY X) (hN : gNcX X) (hS : gScr X b L xs) (hL : L ≤ 3584) (hi : i + 7 ≤ L) (hk : k + 168 ≤ 601024) (hn : n + 844 ≤ 7293033) (hR : RS σ (shM 196 σ)) (kk : ∀ (k2 n2 : Nat) (σ2 : Mem), k2 ≤ k + 168 → n2 ≤ n + 844 → RS σ2 (shM 196 σ2) → G wL X k2 n2 1386 [some (.ref b), some (.ref (gA X 0)), some (.ref (gA X 196)), some (.ref (gA X 195)), some (.int (nI i)), none, none, none, none] [] σ2) : G wL X k n 308 [some (.ref b), some (.ref (gA X 0)), some (.ref (gA X 196)), some (.ref (gA X 195)), some (.int (nI i)), none, none, none, none] [] σ := by
  have hNM := NM_of hR.1 hR.2.1
  refine g_ald1 hC dL_law_308 ?_
  refine g_ald0 hC dL_law_309 ?_
  refine g_ild4 hC dL_law_310 ?_
  refine g_iconst 1 hC dL_law_312 (by decide) ?_
  refine g_iadd hC dL_law_313 ?_
  refine g_sld (j := i + 1) hC hS (nI_add i 1) (by omega) (by omega) dL_law_314 ?_
  refine g_ald0 hC dL_law_315 ?_
  refine g_ild4 hC dL_law_316 ?_
  refine g_iconst 2 hC dL_law_318 (by decide) ?_
  refine g_iadd hC dL_law_319 ?_
  refine g_sld (j := i + 2) hC hS (nI_add i 2) (by omega) (by omega) dL_law_320 ?_
  refine g_ald0 hC dL_law_321 ?_
  refine g_ild4 hC dL_law_322 ?_
  refine g_iconst 3 hC dL_law_324 (by decide) ?_
  refine g_iadd hC dL_law_325 ?_
  refine g_sld (j := i + 3) hC hS (nI_add i 3) (by omega) (by omega) dL_law_326 ?_
  refine g_ald3 hC dL_law_327 ?_
  refine g_wSI (o := 0) emb_l 5 hC hZ hN (c_L_cell l hst (mTh (shM 196 σ)) (xs (i + 1)) (xs (i + 2)) (xs (i + 3))) tw_3_17 ⟨tw_3_18, tw_1_0, tw_3_19⟩ (by decide +kernel) ⟨by decide, by decide⟩ ⟨by omega, by omega⟩ rfl rfl (Nat.le_of_ble_eq_true rfl) rfl dL_law_328 ⟨RS_th hR, th_0 _⟩ (fun rr σ1 hw => ?_)
  rw [mCell_th] at hw
  show G wL X _ _ _ _ _ (ptM 0 196 σ σ1)
  refine g_ist5 hC dL_law_331 rfl ?_
  refine g_ald2 hC dL_law_333 ?_
  refine g_ald0 hC dL_law_334 ?_
  refine g_ild4 hC dL_law_335 ?_
  refine g_iconst 1 hC dL_law_337 (by decide) ?_
  refine g_iadd hC dL_law_338 ?_
  refine g_sld (j := i + 1) hC hS (nI_add i 1) (by omega) (by omega) dL_law_339 ?_
  refine g_ald0 hC dL_law_340 ?_
  refine g_ild4 hC dL_law_341 ?_
  refine g_iconst 2 hC dL_law_343 (by decide) ?_
  refine g_iadd hC dL_law_344 ?_
  refine g_sld (j := i + 2) hC hS (nI_add i 2) (by omega) (by omega) dL_law_345 ?_
  refine g_ald0 hC dL_law_346 ?_
  refine g_ild4 hC dL_law_347 ?_
  refine g_iconst 3 hC dL_law_349 (by decide) ?_
  refine g_iadd hC dL_law_350 ?_
  refine g_sld (j := i + 3) hC hS (nI_add i 3) (by omega) (by omega) dL_law_351 ?_
  refine g_eVI (o := 196) emb_m 3 hC (c_X6_cell l (xs (i + 1)) (xs (i + 2)) (xs (i + 3))) tw_4_78 ⟨tw_4_79, tw_4_80, tw_1_7, tw_4_81⟩ (by decide +kernel) ⟨by decide, by decide⟩ ⟨by omega, by omega⟩ rfl rfl rfl (gW_at wL _ _ (i := 196) (by decide)) (Nat.le_of_ble_eq_true rfl) rfl dL_law_352 (by rw [sh_pt _ (by decide)]; exact hR.1) (fun r2 τ1 hq => ?_)
  rw [sh_pt _ (by decide)] at hq
  show G wL X _ _ _ _ _ (ptM 196 5 (ptM 0 196 σ σ1) τ1)
  obtain ⟨s1, s2, s3⟩ := lw_step (σ := σ) (τ1 := τ1) hw (by rw [hq.2]; exact Qf_rf _) (by rw [hq.2])
  generalize ptM 196 5 (ptM 0 196 σ σ1) τ1 = σ2 at s1 s2 s3 ⊢
  refine g_ist6 hC dL_law_355 rfl ?_
  refine g_ald2 hC dL_law_357 ?_
  refine g_eVI (o := 196) emb_m 0 hC (c_X6_thrown l) tw_4_59 ⟨tw_4_60, tw_4_61, tw_1_7, tw_4_62⟩ (by decide +kernel) ⟨by decide, by decide⟩ ⟨by omega, by omega⟩ rfl rfl rfl (gW_at wL _ _ (i := 196) (by decide)) (Nat.le_of_ble_eq_true rfl) rfl dL_law_358 trivial (fun r3 τ3 hq3 => ?_)
  obtain ⟨rfl, rfl⟩ := hq3
  rw [ptM_id, s2]
  refine g_ild5 hC dL_law_361 ?_
  refine g_icmp_eq 368 hC dL_law_363 (by decide) (fun _ => ?_) (fun c => absurd rfl c)
  refine g_ild5 hC dL_law_368 ?_
  refine g_if_ne 385 hC dL_law_370 (by decide) (fun c => ?_) (fun c => ?_)
  · refine g_goto 1386 hC dL_law_385 (by decide) ?_
    refine g_keep [true, true, true, true, true, false, false, false, false] ?_
    exact kk _ _ _ (by omega) (by omega) s1
  · refine g_ald3 hC dL_law_373 ?_
    refine g_iconst 0 hC dL_law_374 (by decide) ?_
    refine g_lald (i := 195) hC (by decide) (fun ρ => le_out _ ρ) dL_law_375 ?_
    refine g_ild6 hC dL_law_376 ?_
    refine g_i2l hC dL_law_378 ?_
    refine g_lcmp hC (by rw [s3 c, hq.1]) dL_law_379 ?_
    refine g_if_eq 385 hC dL_law_380 (by decide) (fun _ => ?_) (fun c => absurd rfl c)
    refine g_goto 1386 hC dL_law_385 (by decide) ?_
    refine g_keep [true, true, true, true, true, false, false, false, false] ?_
    exact kk _ _ _ (by omega) (by omega) s1
set_option maxRecDepth 100000 in
set_option maxHeartbeats 4000000 in
theorem lc_flawIn {l : Launch} {X : gC} {b L i k n : Nat} {xs : Nat → Int32} {σ : Mem} (hst : l.stackTraces = false) (hC : gOk wL l X cL_law "GemCutLaw" 10 601024 7293033) (hZ : gZY X) (hN : gNcX X) (hS : gScr X b L xs) (hL : L ≤ 3584) (hi : i + 7 ≤ L) (hk : k + 168 ≤ 601024) (hn : n + 844 ≤ 7293033) (hR : RS σ (shM 196 σ)) (kk : ∀ (k2 n2 : Nat) (σ2 : Mem), k2 ≤ k + 168 → n2 ≤ n + 844 → RS σ2 (shM 196 σ2) → G wL X k2 n2 1386 [some (.ref b), some (.ref (gA X 0)), some (.ref (gA X 196)), some (.ref (gA X 195)), some (.int (nI i)), none, none, none, none] [] σ2) : G wL X k n 388 [some (.ref b), some (.ref (gA X 0)), some (.ref (gA X 196)), some (.ref (gA X 195)), some (.int (nI i)), none, none, none, none] [] σ := by
  have hNM := NM_of hR.1 hR.2.1
  refine g_ald1 hC dL_law_388 ?_
  refine g_ald0 hC dL_law_389 ?_
  refine g_ild4 hC dL_law_390 ?_
  refine g_iconst 1 hC dL_law_392 (by decide) ?_
  refine g_iadd hC dL_law_393 ?_
  refine g_sld (j := i + 1) hC hS (nI_add i 1) (by omega) (by omega) dL_law_394 ?_
  refine g_ald0 hC dL_law_395 ?_
  refine g_ild4 hC dL_law_396 ?_
  refine g_iconst 2 hC dL_law_398 (by decide) ?_
  refine g_iadd hC dL_law_399 ?_
  refine g_sld (j := i + 2) hC hS (nI_add i 2) (by omega) (by omega) dL_law_400 ?_
  refine g_ald0 hC dL_law_401 ?_
  refine g_ild4 hC dL_law_402 ?_
  refine g_iconst 3 hC dL_law_404 (by decide) ?_
  refine g_iadd hC dL_law_405 ?_
  refine g_sld (j := i + 3) hC hS (nI_add i 3) (by omega) (by omega) dL_law_406 ?_
  refine g_ald3 hC dL_law_407 ?_
  refine g_wSI (o := 0) emb_l 5 hC hZ hN (c_L_flawIn l hst (mTh (shM 196 σ)) (xs (i + 1)) (xs (i + 2)) (xs (i + 3))) tw_3_25 ⟨tw_3_26, tw_1_0, tw_3_27⟩ (by decide +kernel) ⟨by decide, by decide⟩ ⟨by omega, by omega⟩ rfl rfl (Nat.le_of_ble_eq_true rfl) rfl dL_law_408 ⟨RS_th hR, th_0 _⟩ (fun rr σ1 hw => ?_)
  rw [mFlawIn_th] at hw
  show G wL X _ _ _ _ _ (ptM 0 196 σ σ1)
  refine g_ist5 hC dL_law_411 rfl ?_
  refine g_ald2 hC dL_law_413 ?_
  refine g_ald0 hC dL_law_414 ?_
  refine g_ild4 hC dL_law_415 ?_
  refine g_iconst 1 hC dL_law_417 (by decide) ?_
  refine g_iadd hC dL_law_418 ?_
  refine g_sld (j := i + 1) hC hS (nI_add i 1) (by omega) (by omega) dL_law_419 ?_
  refine g_ald0 hC dL_law_420 ?_
  refine g_ild4 hC dL_law_421 ?_
  refine g_iconst 2 hC dL_law_423 (by decide) ?_
  refine g_iadd hC dL_law_424 ?_
  refine g_sld (j := i + 2) hC hS (nI_add i 2) (by omega) (by omega) dL_law_425 ?_
  refine g_ald0 hC dL_law_426 ?_
  refine g_ild4 hC dL_law_427 ?_
  refine g_iconst 3 hC dL_law_429 (by decide) ?_
  refine g_iadd hC dL_law_430 ?_
  refine g_sld (j := i + 3) hC hS (nI_add i 3) (by omega) (by omega) dL_law_431 ?_
  refine g_eVI (o := 196) emb_m 3 hC (c_X6_flawIn l (xs (i + 1)) (xs (i + 2)) (xs (i + 3))) tw_4_85 ⟨tw_4_86, tw_4_87, tw_1_7, tw_4_88⟩ (by decide +kernel) ⟨by decide, by decide⟩ ⟨by omega, by omega⟩ rfl rfl rfl (gW_at wL _ _ (i := 196) (by decide)) (Nat.le_of_ble_eq_true rfl) rfl dL_law_432 (by rw [sh_pt _ (by decide)]; exact hR.1) (fun r2 τ1 hq => ?_)
  rw [sh_pt _ (by decide)] at hq
  show G wL X _ _ _ _ _ (ptM 196 5 (ptM 0 196 σ σ1) τ1)
  obtain ⟨s1, s2, s3⟩ := lw_step (σ := σ) (τ1 := τ1) hw (by rw [hq.2]; exact Qf_rf _) (by rw [hq.2])
  generalize ptM 196 5 (ptM 0 196 σ σ1) τ1 = σ2 at s1 s2 s3 ⊢
  refine g_ist6 hC dL_law_435 rfl ?_
  refine g_ald2 hC dL_law_437 ?_
  refine g_eVI (o := 196) emb_m 0 hC (c_X6_thrown l) tw_4_59 ⟨tw_4_60, tw_4_61, tw_1_7, tw_4_62⟩ (by decide +kernel) ⟨by decide, by decide⟩ ⟨by omega, by omega⟩ rfl rfl rfl (gW_at wL _ _ (i := 196) (by decide)) (Nat.le_of_ble_eq_true rfl) rfl dL_law_438 trivial (fun r3 τ3 hq3 => ?_)
  obtain ⟨rfl, rfl⟩ := hq3
  rw [ptM_id, s2]
  refine g_ild5 hC dL_law_441 ?_
  refine g_icmp_eq 448 hC dL_law_443 (by decide) (fun _ => ?_) (fun c => absurd rfl c)
  refine g_ild5 hC dL_law_448 ?_
  refine g_if_ne 465 hC dL_law_450 (by decide) (fun c => ?_) (fun c => ?_)
  · refine g_goto 1386 hC dL_law_465 (by decide) ?_
    refine g_keep [true, true, true, true, true, false, false, false, false] ?_
    exact kk _ _ _ (by omega) (by omega) s1
  · refine g_ald3 hC dL_law_453 ?_
    refine g_iconst 0 hC dL_law_454 (by decide) ?_
    refine g_lald (i := 195) hC (by decide) (fun ρ => le_out _ ρ) dL_law_455 ?_
    refine g_ild6 hC dL_law_456 ?_
    refine g_i2l hC dL_law_458 ?_
    refine g_lcmp hC (by rw [s3 c, hq.1]) dL_law_459 ?_
    refine g_if_eq 465 hC dL_law_460 (by decide) (fun _ => ?_) (fun c => absurd rfl c)
    refine g_goto 1386 hC dL_law_465 (by decide) ?_
    refine g_keep [true, true, true, true, true, false, false, false, false] ?_
    exact kk _ _ _ (by omega) (by omega) s1
