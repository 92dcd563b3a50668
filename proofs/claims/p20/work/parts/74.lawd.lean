/-! the stones -/
set_option maxRecDepth 100000 in
set_option maxHeartbeats 4000000 in
theorem lw_1055 {l : Launch} {X : gC} {A : Nat → Nat} {b L : Nat} {xs : Nat → Int32} (hst : l.stackTraces = false) (hL : uL X b L xs) (hLs : L < 2 ^ 31) {es : va_W} {kc nc : Nat} {σ t : Mem} (hR : RS σ t) (h0 : t 0 0 = 0) {qs C R Lz i : Nat} {dr : Int32} {jw js jf qw qr qf qp F : Nat} {g : Nat → Int32} {ff : Nat → Option Nat} {sv : Nat → Int32} (hw : es[jw]? = some (qw, .inl (zY X 0, 8, .inl g))) (hg : ∀ j, j < 8 → g j = nI (sWt t (nI j))) (hsim : es[js]? = some (qs, .inr (6, [.ref qr, .ref qf, .ref qp, .int 400, .int 0]))) (hfa : es[jf]? = some (qf, .inl (zY X 5, F, .inr (.inr (.inr (.inr ff)))))) (hrow : ∀ j, j < F → ∃ (a i : Nat) (g : Nat → Int32), ff j = some a ∧ es[i]? = some (a, .inl (zY X 0, 5, .inl g)) ∧ g 4 = sv j) (eF : nF t = F) (esv : ∀ j, j < F → sFl t j 4 = sv j) {s : Nat} (hs : s < nS t) {a c : Int32} {k9 n9 : Nat} (hb : k9 ≤ 600074 ∧ n9 ≤ 7301550) (hk : kc + 12 ≤ k9 ∧ nc + 72 ≤ n9) (hC : uOk l wX X A es cL_law "GemCutLaw" 10 600074 7301550) (kk : ∀ (σ1 : Mem), RS σ1 t → G (wU wX es) (uX wX X A es) k9 n9 1115 [some (.ref b), some (.ref (A 0)), some (.ref qs), some (.int (nI C)), some (.int (nI R)), some (.int (nI Lz)), some (.int dr), some (.int (nI i)), none, none, none, none, none, none, none, none, none, none, none, none, none, some (.ref qw), some (.int a), some (.int c), some (.int (nI s)), some (.int (nI (sWt t (nI s)))), none, none, none, none, none, none] [] σ1) : G (wU wX es) (uX wX X A es) kc nc 1055 [some (.ref b), some (.ref (A 0)), some (.ref qs), some (.int (nI C)), some (.int (nI R)), some (.int (nI Lz)), some (.int dr), some (.int (nI i)), none, none, none, none, none, none, none, none, none, none, none, none, none, some (.ref qw), some (.int a), some (.int c), some (.int (nI s)), some (.int (nI (sWt t (nI s)))), none, none, none, none, none, none] [] σ := by
  have hS9 := MI_S hR.1
  have hP9 := MI_P hR.1 (s := s) (by omega)
  have hF9 := MI_F hR.1
  have e1 : sSt t s 1 = nI (nP t s) := hP9.1
  have f1 := fx_fct (t := t) (s := s)
  have f2 := fx_fct2 (t := t) (s := s)
  have f3 := fx_fin (t := t) (s := s)
  refine g_ald1 hC dL_law_1055 ?_
  refine g_ild24 hC dL_law_1056 ?_
  refine g_iconst 3 hC dL_law_1058 (by decide) ?_
  refine x_stone s 3 hst hC hL hR h0 hs (by decide) (by decide) tw_3_7 dL_law_1059 (by decide) ⟨by omega, by omega⟩ (Nat.le_of_ble_eq_true rfl) ?_
  intro σ hR
  refine g_ald1 hC dL_law_1062 ?_
  refine g_ild24 hC dL_law_1063 ?_
  refine g_iconst 2 hC dL_law_1065 (by decide) ?_
  refine x_stone s 2 hst hC hL hR h0 hs (by decide) (by decide) tw_3_7 dL_law_1066 (by decide) ⟨by omega, by omega⟩ (Nat.le_of_ble_eq_true rfl) ?_
  intro σ hR
  refine g_icmp_gt 1113 hC dL_law_1069 (by decide) (fun c1069 => absurd c1069 (nI_nlt f1 (by omega))) (fun c1069 => ?_)
  refine g_ald1 hC dL_law_1072 ?_
  refine g_ild24 hC dL_law_1073 ?_
  refine g_iconst 2 hC dL_law_1075 (by decide) ?_
  refine x_stone s 2 hst hC hL hR h0 hs (by decide) (by decide) tw_3_7 dL_law_1076 (by decide) ⟨by omega, by omega⟩ (Nat.le_of_ble_eq_true rfl) ?_
  intro σ hR
  refine g_ald1 hC dL_law_1079 ?_
  refine g_ild24 hC dL_law_1080 ?_
  refine g_iconst 1 hC dL_law_1082 (by decide) ?_
  refine x_stone s 1 hst hC hL hR h0 hs (by decide) (by decide) tw_3_7 dL_law_1083 (by decide) ⟨by omega, by omega⟩ (Nat.le_of_ble_eq_true rfl) ?_
  intro σ hR
  rw [e1]
  refine g_icmp_gt 1113 hC dL_law_1086 (by decide) (fun c1086 => absurd c1086 (nI_nlt f2 (by omega))) (fun c1086 => ?_)
  refine g_ald1 hC dL_law_1089 ?_
  refine g_ild24 hC dL_law_1090 ?_
  refine g_iconst 5 hC dL_law_1092 (by decide) ?_
  refine x_stone s 5 hst hC hL hR h0 hs (by decide) (by decide) tw_3_7 dL_law_1093 (by decide) ⟨by omega, by omega⟩ (Nat.le_of_ble_eq_true rfl) ?_
  intro σ hR
  refine g_ald1 hC dL_law_1096 ?_
  refine g_ild24 hC dL_law_1097 ?_
  refine g_bipush 6 hC dL_law_1099 (by decide) ?_
  refine x_stone s 6 hst hC hL hR h0 hs (by decide) (by decide) tw_3_7 dL_law_1101 (by decide) ⟨by omega, by omega⟩ (Nat.le_of_ble_eq_true rfl) ?_
  intro σ hR
  refine g_iadd hC dL_law_1104 ?_
  refine g_ald2 hC dL_law_1105 ?_
  refine u_get (j := js) (ci := 6) (C := "GemCutLaw$Sim") (T := TX6) (N := 5) (fs := [.ref qr, .ref qf, .ref qp, .int 400, .int 0]) (v := .ref qf) hC hsim iw_X6 rfl 1 (by decide) tw_3_191 rfl dL_law_1106 ?_
  refine u_alen (j := jf) (t0 := 5) hC hfa (fun _ => rfl) dL_law_1109 ?_
  refine g_icmp_le 1115 hC dL_law_1110 (by decide) (fun c1110 => ?_) (fun c1110 => absurd (by rw [show sSt t s 5 + sSt t s 6 = nI (sFin t (nI s) 1 + sFin t (nI s) 0) from nI_add _ _]; exact nI_le (by omega) (by omega)) c1110)
  refine g_widen (k1 := k9) (n1 := n9) (by omega) (by omega) ?_
  exact kk σ hR
set_option maxRecDepth 100000 in
set_option maxHeartbeats 4000000 in
theorem lw_986 {l : Launch} {X : gC} {A : Nat → Nat} {b L : Nat} {xs : Nat → Int32} (hst : l.stackTraces = false) (hL : uL X b L xs) (hLs : L < 2 ^ 31) {es : va_W} {kc nc : Nat} {σ t : Mem} (hR : RS σ t) (h0 : t 0 0 = 0) {qs C R Lz i : Nat} {dr : Int32} {jw js jf qw qr qf qp F : Nat} {g : Nat → Int32} {ff : Nat → Option Nat} {sv : Nat → Int32} (hw : es[jw]? = some (qw, .inl (zY X 0, 8, .inl g))) (hg : ∀ j, j < 8 → g j = nI (sWt t (nI j))) (hsim : es[js]? = some (qs, .inr (6, [.ref qr, .ref qf, .ref qp, .int 400, .int 0]))) (hfa : es[jf]? = some (qf, .inl (zY X 5, F, .inr (.inr (.inr (.inr ff)))))) (hrow : ∀ j, j < F → ∃ (a i : Nat) (g : Nat → Int32), ff j = some a ∧ es[i]? = some (a, .inl (zY X 0, 5, .inl g)) ∧ g 4 = sv j) (eF : nF t = F) (esv : ∀ j, j < F → sFl t j 4 = sv j) {s : Nat} (hs : s < nS t) {a c : Int32} (hf : kc + 20 ≤ 600074 ∧ nc + 120 ≤ 7301550) (hC : uOk l wX X A es cL_law "GemCutLaw" 10 600074 7301550) (kk : ∀ (σ1 : Mem), RS σ1 t → G (wU wX es) (uX wX X A es) (kc + 20) (nc + 120) 1115 [some (.ref b), some (.ref (A 0)), some (.ref qs), some (.int (nI C)), some (.int (nI R)), some (.int (nI Lz)), some (.int dr), some (.int (nI i)), none, none, none, none, none, none, none, none, none, none, none, none, none, some (.ref qw), some (.int (a + nI (sWt t (nI s)))), some (.int (c + sWorth t s)), some (.int (nI s)), some (.int (nI (sWt t (nI s)))), none, none, none, none, none, none] [] σ1) : G (wU wX es) (uX wX X A es) kc nc 986 [some (.ref b), some (.ref (A 0)), some (.ref qs), some (.int (nI C)), some (.int (nI R)), some (.int (nI Lz)), some (.int dr), some (.int (nI i)), none, none, none, none, none, none, none, none, none, none, none, none, none, some (.ref qw), some (.int a), some (.int c), some (.int (nI s)), none, none, none, none, none, none, none] [] σ := by
  have hS9 := MI_S hR.1
  have hW9 := fx_w (t := t) (nI s)
  have f1 := fx_surf_le (t := t) (s := s)
  refine g_ald1 hC dL_law_986 ?_
  refine g_ild24 hC dL_law_987 ?_
  refine g_iconst 0 hC dL_law_989 (by decide) ?_
  refine x_stone s 0 hst hC hL hR h0 hs (by decide) (by decide) tw_3_7 dL_law_990 (by decide) ⟨by omega, by omega⟩ (Nat.le_of_ble_eq_true rfl) ?_
  intro σ hR
  refine g_ist25 hC dL_law_993 rfl ?_
  refine g_ild22 hC dL_law_995 ?_
  refine g_ild25 hC dL_law_997 ?_
  refine g_iadd hC dL_law_999 ?_
  refine g_ist22 hC dL_law_1000 rfl ?_
  refine g_ild23 hC dL_law_1002 ?_
  refine g_ald1 hC dL_law_1004 ?_
  refine g_ild24 hC dL_law_1005 ?_
  refine g_bipush 7 hC dL_law_1007 (by decide) ?_
  refine x_stone s 7 hst hC hL hR h0 hs (by decide) (by decide) tw_3_7 dL_law_1009 (by decide) ⟨by omega, by omega⟩ (Nat.le_of_ble_eq_true rfl) ?_
  intro σ hR
  refine g_iadd hC dL_law_1012 ?_
  refine g_ist23 hC dL_law_1013 rfl ?_
  refine g_ild25 hC dL_law_1015 ?_
  refine g_ald21 hC dL_law_1017 ?_
  refine g_ild24 hC dL_law_1019 ?_
  refine u_iald (j := jw) s hC hw rfl (by omega) (by decide) dL_law_1021 ?_
  rw [hg s (by omega)]
  refine g_icmp_ne 1113 hC dL_law_1022 (by decide) (fun c1022 => absurd c1022 (fun h => h rfl)) (fun c1022 => ?_)
  refine g_ald1 hC dL_law_1025 ?_
  refine g_ild24 hC dL_law_1026 ?_
  refine g_bipush 8 hC dL_law_1028 (by decide) ?_
  refine x_stone s 8 hst hC hL hR h0 hs (by decide) (by decide) tw_3_7 dL_law_1030 (by decide) ⟨by omega, by omega⟩ (Nat.le_of_ble_eq_true rfl) ?_
  intro σ hR
  refine g_ild25 hC dL_law_1033 ?_
  refine g_icmp_gt 1113 hC dL_law_1035 (by decide) (fun c1035 => absurd c1035 (nI_nlt f1 (by omega))) (fun c1035 => ?_)
  refine g_ild25 hC dL_law_1038 ?_
  refine g_if_le 1055 hC dL_law_1040 (by decide) (fun c1040 => ?_) (fun c1040 => ?_)
  · exact lw_1055 hst hL hLs hR h0 hw hg hsim hfa hrow eF esv hs ⟨by omega, by omega⟩ ⟨by omega, by omega⟩ hC kk
  · refine g_ald1 hC dL_law_1043 ?_
    refine g_ild24 hC dL_law_1044 ?_
    refine g_bipush 8 hC dL_law_1046 (by decide) ?_
    refine x_stone s 8 hst hC hL hR h0 hs (by decide) (by decide) tw_3_7 dL_law_1048 (by decide) ⟨by omega, by omega⟩ (Nat.le_of_ble_eq_true rfl) ?_
    intro σ hR
    refine g_iconst 1 hC dL_law_1051 (by decide) ?_
    refine g_icmp_lt 1113 hC dL_law_1052 (by decide) (fun c1052 => absurd c1052 (nI_nlt (b := 1) (fx_surf_pos hR.1 (Nat.pos_of_ne_zero (fun h => c1040 (by show nI (sWt t (nI s)) ≤ 0; rw [h]; decide)))) (Nat.lt_of_le_of_lt (cnt_le _ _) (by decide)))) (fun c1052 => ?_)
    exact lw_1055 hst hL hLs hR h0 hw hg hsim hfa hrow eF esv hs ⟨by omega, by omega⟩ ⟨by omega, by omega⟩ hC kk
/-! getting rid of a flaw -/
set_option maxRecDepth 100000 in
set_option maxHeartbeats 4000000 in
theorem lw_1242 {l : Launch} {X : gC} {A : Nat → Nat} {b L : Nat} {xs : Nat → Int32} (hst : l.stackTraces = false) (hL : uL X b L xs) (hLs : L < 2 ^ 31) {es : va_W} {kc nc : Nat} {σ t : Mem} (hR : RS σ t) (h0 : t 0 0 = 0) {qs C R Lz i : Nat} {dr : Int32} {qw : Nat} {s : Nat} (hs : s < nS t) {a c : Int32} {o pt : Int32} {k : Nat} (hkF : k < nF t) (hA : ¬ nI (sFc t k (nI s) false) = 0) {k9 n9 : Nat} (hb : k9 ≤ 600074 ∧ n9 ≤ 7301550) (hk : kc + 16 ≤ k9 ∧ nc + 96 ≤ n9) (hC : uOk l wX X A es cL_law "GemCutLaw" 10 600074 7301550) (kk : ∀ (σ1 : Mem), RS σ1 t → G (wU wX es) (uX wX X A es) k9 n9 1322 [some (.ref b), some (.ref (A 0)), some (.ref qs), some (.int (nI C)), some (.int (nI R)), some (.int (nI Lz)), some (.int dr), some (.int (nI i)), none, none, none, none, none, none, none, none, none, none, none, none, none, some (.ref qw), some (.int a), some (.int c), some (.int (nI s)), some (.int o), some (.int pt), some (.int (nI k)), none, none, none, none] [] σ1) : G (wU wX es) (uX wX X A es) kc nc 1242 [some (.ref b), some (.ref (A 0)), some (.ref qs), some (.int (nI C)), some (.int (nI R)), some (.int (nI Lz)), some (.int dr), some (.int (nI i)), none, none, none, none, none, none, none, none, none, none, none, none, none, some (.ref qw), some (.int a), some (.int c), some (.int (nI s)), some (.int o), some (.int pt), some (.int (nI k)), some (.int (nI (sFc t k (nI s) false))), none, none, none] [] σ := by
  have hS9 := MI_S hR.1
  obtain ⟨y, hy, hy13, y1, y2, y3, y4⟩ := fx_rid (t := t) (s := s) (f := k) hA
  have hr := rTi_all y hy
  obtain ⟨e1, e2, e3⟩ : (nI y / 9 - 1 = rP y) ∧ (nI y / 3 - nI y / 3 / 3 * 3 - 1 = rQ y) ∧ (nI y - nI y / 3 * 3 - 1 = rR y) := by
    simp only [rTi, Bool.or_eq_true, Bool.and_eq_true, beq_iff_eq] at hr
    rcases hr with h | ⟨⟨⟨-, e1⟩, e2⟩, e3⟩
    · exact absurd h hy13
    · exact ⟨e1, e2, e3⟩
  refine g_ald1 hC dL_law_1242 ?_
  refine g_ild27 hC dL_law_1243 ?_
  refine g_ild24 hC dL_law_1245 ?_
  refine g_iconst 0 hC dL_law_1247 (by decide) ?_
  refine x_rid k s 0 hst hC hL hR h0 hkF hs (by decide) hA (by decide) tw_3_133 dL_law_1248 (by decide) ⟨by omega, by omega⟩ (Nat.le_of_ble_eq_true rfl) ?_
  intro σ hR
  rw [show sRw t k s 0 = nI y from y1]
  refine g_ist30 hC dL_law_1251 rfl ?_
  refine g_ald1 hC dL_law_1253 ?_
  refine g_ild27 hC dL_law_1254 ?_
  refine g_ild24 hC dL_law_1256 ?_
  refine g_iconst 1 hC dL_law_1258 (by decide) ?_
  refine x_rid k s 1 hst hC hL hR h0 hkF hs (by decide) hA (by decide) tw_3_133 dL_law_1259 (by decide) ⟨by omega, by omega⟩ (Nat.le_of_ble_eq_true rfl) ?_
  intro σ hR
  rw [show sRw t k s 1 = (sRidS t k s 27).2.1 from rfl]
  refine g_ist31 hC dL_law_1262 rfl ?_
  refine g_ald1 hC dL_law_1264 ?_
  refine g_ild24 hC dL_law_1265 ?_
  refine g_ild30 hC dL_law_1267 ?_
  refine g_bipush 9 hC dL_law_1269 (by decide) ?_
  refine g_idiv hC dL_law_1271 (by decide) ?_
  refine g_iconst 1 hC dL_law_1272 (by decide) ?_
  refine g_isub hC dL_law_1273 ?_
  refine g_ild30 hC dL_law_1274 ?_
  refine g_iconst 3 hC dL_law_1276 (by decide) ?_
  refine g_idiv hC dL_law_1277 (by decide) ?_
  refine g_iconst 3 hC dL_law_1278 (by decide) ?_
  refine g_irem hC dL_law_1279 (by decide) ?_
  refine g_iconst 1 hC dL_law_1280 (by decide) ?_
  refine g_isub hC dL_law_1281 ?_
  refine g_ild30 hC dL_law_1282 ?_
  refine g_iconst 3 hC dL_law_1284 (by decide) ?_
  refine g_irem hC dL_law_1285 (by decide) ?_
  refine g_iconst 1 hC dL_law_1286 (by decide) ?_
  refine g_isub hC dL_law_1287 ?_
  refine g_ild31 hC dL_law_1288 ?_
  refine g_iconst 0 hC dL_law_1290 (by decide) ?_
  rw [e1, e2, e3]
  refine x_would s 0 hst hC hL hR h0 hs y2 (by decide) (by decide) tw_3_73 dL_law_1291 (by decide) ⟨by omega, by omega⟩ (Nat.le_of_ble_eq_true rfl) ?_
  intro σ hR
  refine g_ald1 hC dL_law_1294 ?_
  refine g_ild27 hC dL_law_1295 ?_
  refine g_ild24 hC dL_law_1297 ?_
  refine g_iconst 2 hC dL_law_1299 (by decide) ?_
  refine x_rid k s 2 hst hC hL hR h0 hkF hs (by decide) hA (by decide) tw_3_133 dL_law_1300 (by decide) ⟨by omega, by omega⟩ (Nat.le_of_ble_eq_true rfl) ?_
  intro σ hR
  refine g_icmp_ne 1320 hC dL_law_1303 (by decide) (fun c1303 => absurd c1303 (fun h => h y3.symm)) (fun c1303 => ?_)
  refine g_ald1 hC dL_law_1306 ?_
  refine g_ild27 hC dL_law_1307 ?_
  refine g_ild24 hC dL_law_1309 ?_
  refine g_iconst 2 hC dL_law_1311 (by decide) ?_
  refine x_rid k s 2 hst hC hL hR h0 hkF hs (by decide) hA (by decide) tw_3_133 dL_law_1312 (by decide) ⟨by omega, by omega⟩ (Nat.le_of_ble_eq_true rfl) ?_
  intro σ hR
  refine g_ild28 hC dL_law_1315 ?_
  refine g_icmp_ge 1322 hC dL_law_1317 (by decide) (fun c1317 => ?_) (fun c1317 => absurd y4 c1317)
  refine g_keep [true, true, true, true, true, true, true, true, false, false, false, false, false, false, false, false, false, false, false, false, false, true, true, true, true, true, true, true, false, false, false, false] ?_
  refine g_widen (k1 := k9) (n1 := n9) (by omega) (by omega) ?_
  exact kk σ hR
/-! the flaws in a stone -/
set_option maxRecDepth 100000 in
set_option maxHeartbeats 4000000 in
theorem lw_1121 {l : Launch} {X : gC} {A : Nat → Nat} {b L : Nat} {xs : Nat → Int32} (hst : l.stackTraces = false) (hL : uL X b L xs) (hLs : L < 2 ^ 31) {es : va_W} {t : Mem} (h0 : t 0 0 = 0) {qs C R Lz i : Nat} {dr : Int32} {jw js jf qw qr qf qp F : Nat} {g : Nat → Int32} {ff : Nat → Option Nat} {sv : Nat → Int32} (hw : es[jw]? = some (qw, .inl (zY X 0, 8, .inl g))) (hg : ∀ j, j < 8 → g j = nI (sWt t (nI j))) (hsim : es[js]? = some (qs, .inr (6, [.ref qr, .ref qf, .ref qp, .int 400, .int 0]))) (hfa : es[jf]? = some (qf, .inl (zY X 5, F, .inr (.inr (.inr (.inr ff)))))) (hrow : ∀ j, j < F → ∃ (a i : Nat) (g : Nat → Int32), ff j = some a ∧ es[i]? = some (a, .inl (zY X 0, 5, .inl g)) ∧ g 4 = sv j) (eF : nF t = F) (esv : ∀ j, j < F → sFl t j 4 = sv j) {s : Nat} (hs : s < nS t) {a c : Int32} {o : Int32} {k9 n9 : Nat} (hb : k9 ≤ 600074 ∧ n9 ≤ 7301550) (hC : uOk l wX X A es cL_law "GemCutLaw" 10 600074 7301550) (kk : ∀ (σ1 : Mem), RS σ1 t → G (wU wX es) (uX wX X A es) k9 n9 1328 [some (.ref b), some (.ref (A 0)), some (.ref qs), some (.int (nI C)), some (.int (nI R)), some (.int (nI Lz)), some (.int dr), some (.int (nI i)), none, none, none, none, none, none, none, none, none, none, none, none, none, some (.ref qw), some (.int a), some (.int c), some (.int (nI s)), some (.int o), some (.int (sPts t (nI s) F)), none, none, none, none, none] [] σ1) : ∀ (m k kc nc : Nat) (σ : Mem), k + m = F → RS σ t → kc + 25 * m ≤ k9 ∧ nc + 150 * m ≤ n9 → G (wU wX es) (uX wX X A es) kc nc 1121 [some (.ref b), some (.ref (A 0)), some (.ref qs), some (.int (nI C)), some (.int (nI R)), some (.int (nI Lz)), some (.int dr), some (.int (nI i)), none, none, none, none, none, none, none, none, none, none, none, none, none, some (.ref qw), some (.int a), some (.int c), some (.int (nI s)), some (.int o), some (.int (sPts t (nI s) k)), some (.int (nI k)), none, none, none, none] [] σ := by
  intro m
  induction m with
  | zero =>
    intro k kc nc σ hk hR hf
    have hF9 := MI_F hR.1
    obtain rfl : k = F := by omega
    refine g_ild27 hC dL_law_1121 ?_
    refine g_ald2 hC dL_law_1123 ?_
    refine u_get (j := js) (ci := 6) (C := "GemCutLaw$Sim") (T := TX6) (N := 5) (fs := [.ref qr, .ref qf, .ref qp, .int 400, .int 0]) (v := .ref qf) hC hsim iw_X6 rfl 1 (by decide) tw_3_191 rfl dL_law_1124 ?_
    refine u_alen (j := jf) (t0 := 5) hC hfa (fun _ => rfl) dL_law_1127 ?_
    refine g_icmp_ge 1328 hC dL_law_1128 (by decide) (fun c1128 => ?_) (fun c1128 => absurd (nI_le (by omega) (by omega)) c1128)
    refine g_keep [true, true, true, true, true, true, true, true, false, false, false, false, false, false, false, false, false, false, false, false, false, true, true, true, true, true, true, false, false, false, false, false] ?_
    refine g_widen (k1 := k9) (n1 := n9) (by omega) (by omega) ?_
    exact kk σ hR
  | succ m ih =>
    intro k kc nc σ hk hR hf
    have hS9 := MI_S hR.1
    have hF9 := MI_F hR.1
    have hkF : k < nF t := by omega
    have hk9 : k < F := by omega
    have fle := fx_fc (t := t) (s := s) k
    have fl1 := fx_fc1 (t := t) (s := s) k false
    have fin : ∀ (kc1 nc1 : Nat) (σ : Mem), RS σ t → kc1 ≤ kc + 25 → nc1 ≤ nc + 150 → G (wU wX es) (uX wX X A es) kc1 nc1 1322 [some (.ref b), some (.ref (A 0)), some (.ref qs), some (.int (nI C)), some (.int (nI R)), some (.int (nI Lz)), some (.int dr), some (.int (nI i)), none, none, none, none, none, none, none, none, none, none, none, none, none, some (.ref qw), some (.int a), some (.int c), some (.int (nI s)), some (.int o), some (.int (sPts t (nI s) (k + 1))), some (.int (nI k)), none, none, none, none] [] σ := by
      intro kc1 nc1 σ hR q1 q2
      refine g_inc27 1 hC dL_law_1322 (by decide) rfl ?_
      refine g_goto 1121 hC dL_law_1325 (by decide) ?_
      rw [nI_1]
      exact ih (k + 1) _ _ σ (by omega) hR ⟨by omega, by omega⟩
    refine g_ild27 hC dL_law_1121 ?_
    refine g_ald2 hC dL_law_1123 ?_
    refine u_get (j := js) (ci := 6) (C := "GemCutLaw$Sim") (T := TX6) (N := 5) (fs := [.ref qr, .ref qf, .ref qp, .int 400, .int 0]) (v := .ref qf) hC hsim iw_X6 rfl 1 (by decide) tw_3_191 rfl dL_law_1124 ?_
    refine u_alen (j := jf) (t0 := 5) hC hfa (fun _ => rfl) dL_law_1127 ?_
    refine g_icmp_ge 1328 hC dL_law_1128 (by decide) (fun c1128 => absurd c1128 (nI_ge (by omega) (by omega))) (fun c1128 => ?_)
    refine g_ald1 hC dL_law_1131 ?_
    refine g_ild27 hC dL_law_1132 ?_
    refine g_ild24 hC dL_law_1134 ?_
    refine g_iconst 0 hC dL_law_1136 (by decide) ?_
    refine x_flawIn k s 0 hst hC hL hR h0 hkF hs (by decide) (by decide) tw_2_108 dL_law_1137 (by decide) ⟨by omega, by omega⟩ (Nat.le_of_ble_eq_true rfl) ?_
    intro σ hR
    rw [show sFt t k (nI s) 0 = nI (sFc t k (nI s) false) from rfl]
    refine g_ist28 hC dL_law_1140 rfl ?_
    refine g_ald1 hC dL_law_1142 ?_
    refine g_ild27 hC dL_law_1143 ?_
    refine g_ild24 hC dL_law_1145 ?_
    refine g_iconst 1 hC dL_law_1147 (by decide) ?_
    refine x_flawIn k s 1 hst hC hL hR h0 hkF hs (by decide) (by decide) tw_2_108 dL_law_1148 (by decide) ⟨by omega, by omega⟩ (Nat.le_of_ble_eq_true rfl) ?_
    intro σ hR
    rw [show sFt t k (nI s) 1 = nI (sFc t k (nI s) true) from rfl]
    refine g_ist29 hC dL_law_1151 rfl ?_
    refine g_ild29 hC dL_law_1153 ?_
    refine g_ild28 hC dL_law_1155 ?_
    refine g_icmp_gt 1191 hC dL_law_1157 (by decide) (fun c1157 => absurd c1157 (nI_nlt fle (by omega))) (fun c1157 => ?_)
    obtain ⟨ra, ri, gr, r1, r2, r3⟩ := hrow k hk9
    by_cases hA : nI (sFc t k (nI s) false) = 0
    · have e2 : sFt t k (nI s) 2 = -1 := by rw [fx_ft2, if_pos hA]
      have eP : sPts t (nI s) k + 0 = sPts t (nI s) (k + 1) := by rw [fx_pts, if_pos hA]
      refine g_ald1 hC dL_law_1160 ?_
      refine g_ild27 hC dL_law_1161 ?_
      refine g_ild24 hC dL_law_1163 ?_
      refine g_iconst 2 hC dL_law_1165 (by decide) ?_
      refine x_flawIn k s 2 hst hC hL hR h0 hkF hs (by decide) (by decide) tw_2_108 dL_law_1166 (by decide) ⟨by omega, by omega⟩ (Nat.le_of_ble_eq_true rfl) ?_
      intro σ hR
      refine g_ild28 hC dL_law_1169 ?_
      refine g_if_ne 1178 hC dL_law_1171 (by decide) (fun c1171 => absurd c1171 (fun h => h hA)) (fun c1171 => ?_)
      refine g_iconst (-1) hC dL_law_1174 (by decide) ?_
      refine g_goto 1188 hC dL_law_1175 (by decide) ?_
      refine g_icmp_eq 1193 hC dL_law_1188 (by decide) (fun c1188 => ?_) (fun c1188 => absurd e2 c1188)
      refine g_ild26 hC dL_law_1193 ?_
      refine g_ild28 hC dL_law_1195 ?_
      refine g_if_ne 1204 hC dL_law_1197 (by decide) (fun c1197 => absurd c1197 (fun h => h hA)) (fun c1197 => ?_)
      refine g_iconst 0 hC dL_law_1200 (by decide) ?_
      refine g_goto 1225 hC dL_law_1201 (by decide) ?_
      refine g_iadd hC dL_law_1225 ?_
      refine g_ist26 hC dL_law_1226 rfl ?_
      refine g_ild28 hC dL_law_1228 ?_
      refine g_if_eq 1322 hC dL_law_1230 (by decide) (fun c1230 => ?_) (fun c1230 => absurd hA c1230)
      refine g_keep [true, true, true, true, true, true, true, true, false, false, false, false, false, false, false, false, false, false, false, false, false, true, true, true, true, true, true, true, false, false, false, false] ?_
      rw [eP]
      exact fin _ _ σ hR (by omega) (by omega)
    · by_cases hB : 0 < nI (sFc t k (nI s) true)
      · have e2 : sFt t k (nI s) 2 = 1 := by rw [fx_ft2, if_neg hA, if_pos hB]
        have eP : sPts t (nI s) k + 6 * sFl t k 4 = sPts t (nI s) (k + 1) := by rw [fx_pts, if_neg hA, if_pos hB]
        refine g_ald1 hC dL_law_1160 ?_
        refine g_ild27 hC dL_law_1161 ?_
        refine g_ild24 hC dL_law_1163 ?_
        refine g_iconst 2 hC dL_law_1165 (by decide) ?_
        refine x_flawIn k s 2 hst hC hL hR h0 hkF hs (by decide) (by decide) tw_2_108 dL_law_1166 (by decide) ⟨by omega, by omega⟩ (Nat.le_of_ble_eq_true rfl) ?_
        intro σ hR
        refine g_ild28 hC dL_law_1169 ?_
        refine g_if_ne 1178 hC dL_law_1171 (by decide) (fun c1171 => ?_) (fun c1171 => absurd c1171 hA)
        refine g_ild29 hC dL_law_1178 ?_
        refine g_if_le 1187 hC dL_law_1180 (by decide) (fun c1180 => absurd c1180 (Int32.not_le.mpr hB)) (fun c1180 => ?_)
        refine g_iconst 1 hC dL_law_1183 (by decide) ?_
        refine g_goto 1188 hC dL_law_1184 (by decide) ?_
        refine g_icmp_eq 1193 hC dL_law_1188 (by decide) (fun c1188 => ?_) (fun c1188 => absurd e2 c1188)
        refine g_ild26 hC dL_law_1193 ?_
        refine g_ild28 hC dL_law_1195 ?_
        refine g_if_ne 1204 hC dL_law_1197 (by decide) (fun c1197 => ?_) (fun c1197 => absurd c1197 hA)
        refine g_ild29 hC dL_law_1204 ?_
        refine g_if_le 1214 hC dL_law_1206 (by decide) (fun c1206 => absurd c1206 (Int32.not_le.mpr hB)) (fun c1206 => ?_)
        refine g_bipush 6 hC dL_law_1209 (by decide) ?_
        refine g_goto 1215 hC dL_law_1211 (by decide) ?_
        refine g_ald2 hC dL_law_1215 ?_
        refine u_get (j := js) (ci := 6) (C := "GemCutLaw$Sim") (T := TX6) (N := 5) (fs := [.ref qr, .ref qf, .ref qp, .int 400, .int 0]) (v := .ref qf) hC hsim iw_X6 rfl 1 (by decide) tw_3_191 rfl dL_law_1216 ?_
        refine g_ild27 hC dL_law_1219 ?_
        refine u_aald (j := jf) (t0 := 5) (t := .int) k hC hfa (fun _ => rfl) rfl hk9 (by omega) r1 dL_law_1221 ?_
        refine g_iconst 4 hC dL_law_1222 (by decide) ?_
        refine u_iald (j := ri) 4 hC r2 rfl (by decide) (by decide) dL_law_1223 ?_
        rw [r3, ← esv k hk9]
        refine g_imul hC dL_law_1224 ?_
        refine g_iadd hC dL_law_1225 ?_
        refine g_ist26 hC dL_law_1226 rfl ?_
        refine g_ild28 hC dL_law_1228 ?_
        refine g_if_eq 1322 hC dL_law_1230 (by decide) (fun c1230 => absurd c1230 hA) (fun c1230 => ?_)
        refine g_ild27 hC dL_law_1233 ?_
        refine g_iconst 1 hC dL_law_1235 (by decide) ?_
        refine g_icmp_le 1242 hC dL_law_1236 (by decide) (fun c1236 => ?_) (fun c1236 => ?_)
        · refine g_keep [true, true, true, true, true, true, true, true, false, false, false, false, false, false, false, false, false, false, false, false, false, true, true, true, true, true, true, true, true, false, false, false] ?_
          rw [eP]
          exact lw_1242 hst hL hLs hR h0 hs hkF hA (k9 := kc + 25) (n9 := nc + 150) ⟨by omega, by omega⟩ ⟨by omega, by omega⟩ hC (fun σ hR => fin _ _ σ hR (by omega) (by omega))
        · refine g_goto 1322 hC dL_law_1239 (by decide) ?_
          refine g_keep [true, true, true, true, true, true, true, true, false, false, false, false, false, false, false, false, false, false, false, false, false, true, true, true, true, true, true, true, false, false, false, false] ?_
          rw [eP]
          exact fin _ _ σ hR (by omega) (by omega)
      · have e2 : sFt t k (nI s) 2 = 0 := by rw [fx_ft2, if_neg hA, if_neg hB]
        have eP : sPts t (nI s) k + 2 * sFl t k 4 = sPts t (nI s) (k + 1) := by rw [fx_pts, if_neg hA, if_neg hB]
        refine g_ald1 hC dL_law_1160 ?_
        refine g_ild27 hC dL_law_1161 ?_
        refine g_ild24 hC dL_law_1163 ?_
        refine g_iconst 2 hC dL_law_1165 (by decide) ?_
        refine x_flawIn k s 2 hst hC hL hR h0 hkF hs (by decide) (by decide) tw_2_108 dL_law_1166 (by decide) ⟨by omega, by omega⟩ (Nat.le_of_ble_eq_true rfl) ?_
        intro σ hR
        refine g_ild28 hC dL_law_1169 ?_
        refine g_if_ne 1178 hC dL_law_1171 (by decide) (fun c1171 => ?_) (fun c1171 => absurd c1171 hA)
        refine g_ild29 hC dL_law_1178 ?_
        refine g_if_le 1187 hC dL_law_1180 (by decide) (fun c1180 => ?_) (fun c1180 => absurd (Int32.not_lt.mp hB) c1180)
        refine g_iconst 0 hC dL_law_1187 (by decide) ?_
        refine g_icmp_eq 1193 hC dL_law_1188 (by decide) (fun c1188 => ?_) (fun c1188 => absurd e2 c1188)
        refine g_ild26 hC dL_law_1193 ?_
        refine g_ild28 hC dL_law_1195 ?_
        refine g_if_ne 1204 hC dL_law_1197 (by decide) (fun c1197 => ?_) (fun c1197 => absurd c1197 hA)
        refine g_ild29 hC dL_law_1204 ?_
        refine g_if_le 1214 hC dL_law_1206 (by decide) (fun c1206 => ?_) (fun c1206 => absurd (Int32.not_lt.mp hB) c1206)
        refine g_iconst 2 hC dL_law_1214 (by decide) ?_
        refine g_ald2 hC dL_law_1215 ?_
        refine u_get (j := js) (ci := 6) (C := "GemCutLaw$Sim") (T := TX6) (N := 5) (fs := [.ref qr, .ref qf, .ref qp, .int 400, .int 0]) (v := .ref qf) hC hsim iw_X6 rfl 1 (by decide) tw_3_191 rfl dL_law_1216 ?_
        refine g_ild27 hC dL_law_1219 ?_
        refine u_aald (j := jf) (t0 := 5) (t := .int) k hC hfa (fun _ => rfl) rfl hk9 (by omega) r1 dL_law_1221 ?_
        refine g_iconst 4 hC dL_law_1222 (by decide) ?_
        refine u_iald (j := ri) 4 hC r2 rfl (by decide) (by decide) dL_law_1223 ?_
        rw [r3, ← esv k hk9]
        refine g_imul hC dL_law_1224 ?_
        refine g_iadd hC dL_law_1225 ?_
        refine g_ist26 hC dL_law_1226 rfl ?_
        refine g_ild28 hC dL_law_1228 ?_
        refine g_if_eq 1322 hC dL_law_1230 (by decide) (fun c1230 => absurd c1230 hA) (fun c1230 => ?_)
        refine g_ild27 hC dL_law_1233 ?_
        refine g_iconst 1 hC dL_law_1235 (by decide) ?_
        refine g_icmp_le 1242 hC dL_law_1236 (by decide) (fun c1236 => ?_) (fun c1236 => ?_)
        · refine g_keep [true, true, true, true, true, true, true, true, false, false, false, false, false, false, false, false, false, false, false, false, false, true, true, true, true, true, true, true, true, false, false, false] ?_
          rw [eP]
          exact lw_1242 hst hL hLs hR h0 hs hkF hA (k9 := kc + 25) (n9 := nc + 150) ⟨by omega, by omega⟩ ⟨by omega, by omega⟩ hC (fun σ hR => fin _ _ σ hR (by omega) (by omega))
        · refine g_goto 1322 hC dL_law_1239 (by decide) ?_
          refine g_keep [true, true, true, true, true, true, true, true, false, false, false, false, false, false, false, false, false, false, false, false, false, true, true, true, true, true, true, true, false, false, false, false] ?_
          rw [eP]
          exact fin _ _ σ hR (by omega) (by omega)
/-! the worth -/
set_option maxRecDepth 100000 in
set_option maxHeartbeats 4000000 in
theorem lw_1328 {l : Launch} {X : gC} {A : Nat → Nat} {b L : Nat} {xs : Nat → Int32} (hst : l.stackTraces = false) (hL : uL X b L xs) (hLs : L < 2 ^ 31) {es : va_W} {kc nc : Nat} {σ t : Mem} (hR : RS σ t) (h0 : t 0 0 = 0) {qs C R Lz i : Nat} {dr : Int32} {qw : Nat} {s : Nat} (hs : s < nS t) {a c : Int32} {F : Nat} (eF : nF t = F) {k9 n9 : Nat} (hb : k9 ≤ 600074 ∧ n9 ≤ 7301550) (hk : kc + 6 ≤ k9 ∧ nc + 36 ≤ n9) (hC : uOk l wX X A es cL_law "GemCutLaw" 10 600074 7301550) (kk : ∀ (σ1 : Mem), RS σ1 t → G (wU wX es) (uX wX X A es) k9 n9 1400 [some (.ref b), some (.ref (A 0)), some (.ref qs), some (.int (nI C)), some (.int (nI R)), some (.int (nI Lz)), some (.int dr), some (.int (nI i)), none, none, none, none, none, none, none, none, none, none, none, none, none, some (.ref qw), some (.int a), some (.int c), some (.int (nI s)), none, none, none, none, none, none, none] [] σ1) : G (wU wX es) (uX wX X A es) kc nc 1328 [some (.ref b), some (.ref (A 0)), some (.ref qs), some (.int (nI C)), some (.int (nI R)), some (.int (nI Lz)), some (.int dr), some (.int (nI i)), none, none, none, none, none, none, none, none, none, none, none, none, none, some (.ref qw), some (.int a), some (.int c), some (.int (nI s)), some (.int (nI (sWt t (nI s)))), some (.int (sPts t (nI s) F)), none, none, none, none, none] [] σ := by
  have hS9 := MI_S hR.1
  subst eF
  refine g_ald1 hC dL_law_1328 ?_
  refine g_ild24 hC dL_law_1329 ?_
  refine g_bipush 7 hC dL_law_1331 (by decide) ?_
  refine x_stone s 7 hst hC hL hR h0 hs (by decide) (by decide) tw_3_7 dL_law_1333 (by decide) ⟨by omega, by omega⟩ (Nat.le_of_ble_eq_true rfl) ?_
  intro σ hR
  refine g_ild25 hC dL_law_1336 ?_
  refine g_if_ne 1345 hC dL_law_1338 (by decide) (fun c1338 => ?_) (fun c1338 => ?_)
  · refine g_ild25 hC dL_law_1345 ?_
    refine g_ild25 hC dL_law_1347 ?_
    refine g_imul hC dL_law_1349 ?_
    refine g_bipush 10 hC dL_law_1350 (by decide) ?_
    refine g_idiv hC dL_law_1352 (by decide) ?_
    refine g_bipush 10 hC dL_law_1353 (by decide) ?_
    refine g_ild25 hC dL_law_1355 ?_
    refine g_imul hC dL_law_1357 ?_
    refine g_iadd hC dL_law_1358 ?_
    refine g_bipush 10 hC dL_law_1359 (by decide) ?_
    refine g_bipush 100 hC dL_law_1361 (by decide) ?_
    refine g_ild26 hC dL_law_1363 ?_
    refine g_isub hC dL_law_1365 ?_
    refine g_mmax hC (by first | assumption | omega | exact xk_pl _ (by assumption) _ (by omega) | decide) tw_3_164 (Nat.le_of_ble_eq_true rfl) ⟨by omega, by omega⟩ dL_law_1366 ?_
    refine g_imul hC dL_law_1369 ?_
    refine g_bipush 100 hC dL_law_1370 (by decide) ?_
    refine g_idiv hC dL_law_1372 (by decide) ?_
    refine g_bipush 25 hC dL_law_1373 (by decide) ?_
    refine g_ald1 hC dL_law_1375 ?_
    refine g_ild24 hC dL_law_1376 ?_
    refine g_iconst 3 hC dL_law_1378 (by decide) ?_
    refine x_stone s 3 hst hC hL hR h0 hs (by decide) (by decide) tw_3_7 dL_law_1379 (by decide) ⟨by omega, by omega⟩ (Nat.le_of_ble_eq_true rfl) ?_
    intro σ hR
    refine g_imul hC dL_law_1382 ?_
    refine g_iadd hC dL_law_1383 ?_
    refine g_bipush 40 hC dL_law_1384 (by decide) ?_
    refine g_ald1 hC dL_law_1386 ?_
    refine g_ild24 hC dL_law_1387 ?_
    refine g_iconst 4 hC dL_law_1389 (by decide) ?_
    refine x_stone s 4 hst hC hL hR h0 hs (by decide) (by decide) tw_3_7 dL_law_1390 (by decide) ⟨by omega, by omega⟩ (Nat.le_of_ble_eq_true rfl) ?_
    intro σ hR
    refine g_imul hC dL_law_1393 ?_
    refine g_iadd hC dL_law_1394 ?_
    refine g_icmp_eq 1400 hC dL_law_1395 (by decide) (fun c1395 => ?_) (fun c1395 => absurd (by show sWorth t s = _; unfold sWorth; rw [if_neg c1338]; rfl) c1395)
    refine g_keep [true, true, true, true, true, true, true, true, false, false, false, false, false, false, false, false, false, false, false, false, false, true, true, true, true, false, false, false, false, false, false, false] ?_
    refine g_widen (k1 := k9) (n1 := n9) (by omega) (by omega) ?_
    exact kk σ hR
  · refine g_iconst 0 hC dL_law_1341 (by decide) ?_
    refine g_goto 1395 hC dL_law_1342 (by decide) ?_
    refine g_icmp_eq 1400 hC dL_law_1395 (by decide) (fun c1395 => ?_) (fun c1395 => absurd (by show sWorth t s = _; unfold sWorth; rw [if_pos c1338]) c1395)
    refine g_keep [true, true, true, true, true, true, true, true, false, false, false, false, false, false, false, false, false, false, false, false, false, true, true, true, true, false, false, false, false, false, false, false] ?_
    refine g_widen (k1 := k9) (n1 := n9) (by omega) (by omega) ?_
    exact kk σ hR
/-! all the stones -/
set_option maxRecDepth 100000 in
set_option maxHeartbeats 4000000 in
theorem lw_976 {l : Launch} {X : gC} {A : Nat → Nat} {b L : Nat} {xs : Nat → Int32} (hst : l.stackTraces = false) (hL : uL X b L xs) (hLs : L < 2 ^ 31) {es : va_W} {t : Mem} (h0 : t 0 0 = 0) {qs C R Lz i : Nat} {dr : Int32} {jw js jf qw qr qf qp F : Nat} {g : Nat → Int32} {ff : Nat → Option Nat} {sv : Nat → Int32} (hw : es[jw]? = some (qw, .inl (zY X 0, 8, .inl g))) (hg : ∀ j, j < 8 → g j = nI (sWt t (nI j))) (hsim : es[js]? = some (qs, .inr (6, [.ref qr, .ref qf, .ref qp, .int 400, .int 0]))) (hfa : es[jf]? = some (qf, .inl (zY X 5, F, .inr (.inr (.inr (.inr ff)))))) (hrow : ∀ j, j < F → ∃ (a i : Nat) (g : Nat → Int32), ff j = some a ∧ es[i]? = some (a, .inl (zY X 0, 5, .inl g)) ∧ g 4 = sv j) (eF : nF t = F) (esv : ∀ j, j < F → sFl t j 4 = sv j) {k9 n9 : Nat} (hb : k9 ≤ 600074 ∧ n9 ≤ 7301550) (hC : uOk l wX X A es cL_law "GemCutLaw" 10 600074 7301550) (kk : ∀ (σ1 : Mem), RS σ1 t → G (wU wX es) (uX wX X A es) k9 n9 1406 [some (.ref b), some (.ref (A 0)), some (.ref qs), some (.int (nI C)), some (.int (nI R)), some (.int (nI Lz)), some (.int dr), some (.int (nI i)), none, none, none, none, none, none, none, none, none, none, none, none, none, none, some (.int (sCt t 1)), some (.int (sCt t 6)), none, none, none, none, none, none, none, none] [] σ1) : ∀ (m s kc nc : Nat) (σ : Mem), s + m = nS t → RS σ t → kc + 277 * m + 1 ≤ k9 ∧ nc + 1662 * m + 6 ≤ n9 → G (wU wX es) (uX wX X A es) kc nc 976 [some (.ref b), some (.ref (A 0)), some (.ref qs), some (.int (nI C)), some (.int (nI R)), some (.int (nI Lz)), some (.int dr), some (.int (nI i)), none, none, none, none, none, none, none, none, none, none, none, none, none, some (.ref qw), some (.int (sumI (sCtv t 1) s)), some (.int (sumI (sCtv t 6) s)), some (.int (nI s)), none, none, none, none, none, none, none] [] σ := by
  intro m
  induction m with
  | zero =>
    intro s kc nc σ hk hR hf
    have hS9 := MI_S hR.1
    have e2 : sCt t 2 = nI (nS t) := hS9.1
    obtain rfl : s = nS t := by omega
    refine g_ild24 hC dL_law_976 ?_
    refine g_ald1 hC dL_law_978 ?_
    refine g_iconst 2 hC dL_law_979 (by decide) ?_
    refine x_count 2 hst hC hL hR h0 (by decide) (by decide) tw_3_52 dL_law_980 (by decide) ⟨by omega, by omega⟩ (Nat.le_of_ble_eq_true rfl) ?_
    intro σ hR
    rw [e2]
    refine g_icmp_ge 1406 hC dL_law_983 (by decide) (fun c983 => ?_) (fun c983 => absurd (nI_le (by omega) (by omega)) c983)
    refine g_keep [true, true, true, true, true, true, true, true, false, false, false, false, false, false, false, false, false, false, false, false, false, false, true, true, false, false, false, false, false, false, false, false] ?_
    refine g_widen (k1 := k9) (n1 := n9) (by omega) (by omega) ?_
    exact kk σ hR
  | succ m ih =>
    intro s kc nc σ hk hR hf
    have hS9 := MI_S hR.1
    have hF9 := MI_F hR.1
    have e2 : sCt t 2 = nI (nS t) := hS9.1
    have hs : s < nS t := by omega
    refine g_ild24 hC dL_law_976 ?_
    refine g_ald1 hC dL_law_978 ?_
    refine g_iconst 2 hC dL_law_979 (by decide) ?_
    refine x_count 2 hst hC hL hR h0 (by decide) (by decide) tw_3_52 dL_law_980 (by decide) ⟨by omega, by omega⟩ (Nat.le_of_ble_eq_true rfl) ?_
    intro σ hR
    rw [e2]
    refine g_icmp_ge 1406 hC dL_law_983 (by decide) (fun c983 => absurd c983 (nI_ge (by omega) (by omega))) (fun c983 => ?_)
    refine lw_986 hst hL hLs hR h0 hw hg hsim hfa hrow eF esv hs ⟨by omega, by omega⟩ hC ?_
    intro σ hR
    refine g_iconst 0 hC dL_law_1115 (by decide) ?_
    refine g_ist26 hC dL_law_1116 rfl ?_
    refine g_iconst 0 hC dL_law_1118 (by decide) ?_
    refine g_ist27 hC dL_law_1119 rfl ?_
    refine lw_1121 hst hL hLs h0 hw hg hsim hfa hrow eF esv hs (k9 := kc + 271) (n9 := nc + 1626) ⟨by omega, by omega⟩ hC ?_ F 0 _ _ σ (by omega) hR ⟨by omega, by omega⟩
    intro σ hR
    refine lw_1328 hst hL hLs hR h0 hs eF (k9 := kc + 277) (n9 := nc + 1662) ⟨by omega, by omega⟩ ⟨by omega, by omega⟩ hC ?_
    intro σ hR
    refine g_inc24 1 hC dL_law_1400 (by decide) rfl ?_
    refine g_goto 976 hC dL_law_1403 (by decide) ?_
    rw [nI_1]
    exact ih (s + 1) _ _ σ (by omega) hR ⟨by omega, by omega⟩
set_option maxRecDepth 100000 in
set_option maxHeartbeats 4000000 in
theorem lw_967 {l : Launch} {X : gC} {A : Nat → Nat} {b L : Nat} {xs : Nat → Int32} (hst : l.stackTraces = false) (hL : uL X b L xs) (hLs : L < 2 ^ 31) {es : va_W} {kc nc : Nat} {σ t : Mem} (hR : RS σ t) (h0 : t 0 0 = 0) {qs C R Lz i : Nat} {dr : Int32} {jw js jf qw qr qf qp F : Nat} {g : Nat → Int32} {ff : Nat → Option Nat} {sv : Nat → Int32} (hw : es[jw]? = some (qw, .inl (zY X 0, 8, .inl g))) (hg : ∀ j, j < 8 → g j = nI (sWt t (nI j))) (hsim : es[js]? = some (qs, .inr (6, [.ref qr, .ref qf, .ref qp, .int 400, .int 0]))) (hfa : es[jf]? = some (qf, .inl (zY X 5, F, .inr (.inr (.inr (.inr ff)))))) (hrow : ∀ j, j < F → ∃ (a i : Nat) (g : Nat → Int32), ff j = some a ∧ es[i]? = some (a, .inl (zY X 0, 5, .inl g)) ∧ g 4 = sv j) (eF : nF t = F) (esv : ∀ j, j < F → sFl t j 4 = sv j) (hf : kc + 2217 ≤ 600074 ∧ nc + 13302 ≤ 7301550) (hC : uOk l wX X A es cL_law "GemCutLaw" 10 600074 7301550) (kk : ∀ (σ1 : Mem), RS σ1 t → G (wU wX es) (uX wX X A es) (kc + 2217) (nc + 13302) 1406 [some (.ref b), some (.ref (A 0)), some (.ref qs), some (.int (nI C)), some (.int (nI R)), some (.int (nI Lz)), some (.int dr), some (.int (nI i)), none, none, none, none, none, none, none, none, none, none, none, none, none, none, some (.int (sCt t 1)), some (.int (sCt t 6)), none, none, none, none, none, none, none, none] [] σ1) : G (wU wX es) (uX wX X A es) kc nc 967 [some (.ref b), some (.ref (A 0)), some (.ref qs), some (.int (nI C)), some (.int (nI R)), some (.int (nI Lz)), some (.int dr), some (.int (nI i)), none, none, none, none, none, none, none, none, none, none, none, none, none, some (.ref qw), none, none, none, none, none, none, none, none, none, none] [] σ := by
  have hS9 := MI_S hR.1
  refine g_iconst 0 hC dL_law_967 (by decide) ?_
  refine g_ist22 hC dL_law_968 rfl ?_
  refine g_iconst 0 hC dL_law_970 (by decide) ?_
  refine g_ist23 hC dL_law_971 rfl ?_
  refine g_iconst 0 hC dL_law_973 (by decide) ?_
  refine g_ist24 hC dL_law_974 rfl ?_
  exact lw_976 hst hL hLs h0 hw hg hsim hfa hrow eF esv (k9 := kc + 2217) (n9 := nc + 13302) ⟨by omega, by omega⟩ hC kk (nS t) 0 _ _ σ (by omega) hR ⟨by omega, by omega⟩
/-! the share that is kept -/
theorem fp_self {x : UInt64} (h : vf_n64 x) : Op.cmpValue (FP.dcmp x x) .l = 0 := by
  have hn : FP.Core.decode FP.Core.b64 x.toNat ≠ .nan := by
    intro h9
    unfold FP.Core.decode at h9
    by_cases h1 : FP.Core.fieldE FP.Core.b64 x.toNat = FP.Core.b64.exps - 1
    · rw [if_pos h1] at h9
      by_cases h2 : FP.Core.fieldT FP.Core.b64 x.toNat = 0
      · rw [if_pos h2] at h9; cases h9
      · unfold vf_n64 at h
        have h3 := UInt64.le_iff_toNat_le.mp h
        rw [UInt64.toNat_and] at h3
        have h4 : x.toNat &&& (2 ^ 63 - 1) ≤ 9218868437227405312 := h3
        rw [Nat.and_two_pow_sub_one_eq_mod] at h4
        have h5 : x.toNat / 4503599627370496 % 2048 = 2047 := h1
        have h6 : ¬ x.toNat % 4503599627370496 = 0 := h2
        omega
    · rw [if_neg h1] at h9
      by_cases h2 : FP.Core.fieldE FP.Core.b64 x.toNat = 0
      · rw [if_pos h2] at h9; cases h9
      · rw [if_neg h2] at h9; cases h9
  have hc : ∀ a : Int, compare a a = .eq := fun a => by simp [compare, compareOfLessAndEq]
  show Op.cmpValue (FP.Core.order (FP.Core.decode FP.Core.b64 x.toNat) (FP.Core.decode FP.Core.b64 x.toNat)) .l = 0
  generalize FP.Core.decode FP.Core.b64 x.toNat = d at hn
  have h9 : FP.Core.order d d = some .eq := by
    cases d with
    | nan => exact absurd rfl hn
    | inf => exact congrArg some (hc _)
    | fin s c q => exact congrArg some (hc _)
  rw [h9]; rfl
set_option maxRecDepth 100000 in
set_option maxHeartbeats 4000000 in
theorem lw_1406 {l : Launch} {X : gC} {A : Nat → Nat} {b L : Nat} {xs : Nat → Int32} (hst : l.stackTraces = false) (hL : uL X b L xs) (hLs : L < 2 ^ 31) {es : va_W} {kc nc : Nat} {σ t : Mem} (hR : RS σ t) (h0 : t 0 0 = 0) {qs C R Lz i : Nat} {dr : Int32} (eC : nC t = C) (eR : nR t = R) (eL : nL t = Lz) (hf : kc + 2 ≤ 600074 ∧ nc + 12 ≤ 7301550) (hC : uOk l wX X A es cL_law "GemCutLaw" 10 600074 7301550) (kk : ∀ (σ1 : Mem), RS σ1 t → G (wU wX es) (uX wX X A es) (kc + 2) (nc + 12) 54 [some (.ref b), some (.ref (A 0)), some (.ref qs), some (.int (nI C)), some (.int (nI R)), some (.int (nI Lz)), some (.int dr), some (.int (nI (i + 1))), none, none, none, none, none, none, none, none, none, none, none, none, none, none, none, none, none, none, none, none, none, none, none, none] [] σ1) : G (wU wX es) (uX wX X A es) kc nc 1406 [some (.ref b), some (.ref (A 0)), some (.ref qs), some (.int (nI C)), some (.int (nI R)), some (.int (nI Lz)), some (.int dr), some (.int (nI i)), none, none, none, none, none, none, none, none, none, none, none, none, none, none, some (.int (sCt t 1)), some (.int (sCt t 6)), none, none, none, none, none, none, none, none] [] σ := by
  have hN := kept_num hR.1
  have e0 : nI C * nI R * nI Lz = sCt t 0 := by
    rw [sCt_0 hR.1, eC, eR, eL, nI_mul', nI_mul']
  refine g_ald1 hC dL_law_1406 ?_
  refine g_iconst 1 hC dL_law_1407 (by decide) ?_
  refine x_count 1 hst hC hL hR h0 (by decide) (by decide) tw_3_52 dL_law_1408 (by decide) ⟨by omega, by omega⟩ (Nat.le_of_ble_eq_true rfl) ?_
  intro σ hR
  refine g_ild22 hC dL_law_1411 ?_
  refine g_icmp_ne 1447 hC dL_law_1413 (by decide) (fun c1413 => absurd c1413 (fun h => h rfl)) (fun c1413 => ?_)
  refine g_ald1 hC dL_law_1416 ?_
  refine g_bipush 6 hC dL_law_1417 (by decide) ?_
  refine x_count 6 hst hC hL hR h0 (by decide) (by decide) tw_3_52 dL_law_1419 (by decide) ⟨by omega, by omega⟩ (Nat.le_of_ble_eq_true rfl) ?_
  intro σ hR
  refine g_ild23 hC dL_law_1422 ?_
  refine g_icmp_ne 1447 hC dL_law_1424 (by decide) (fun c1424 => absurd c1424 (fun h => h rfl)) (fun c1424 => ?_)
  refine g_ald1 hC dL_law_1427 ?_
  refine x_kept hC hR tw_3_146 dL_law_1428 (by decide) ⟨by omega, by omega⟩ (Nat.le_of_ble_eq_true rfl) ?_
  intro σ hR
  refine g_ild22 hC dL_law_1431 ?_
  refine g_i2d hC dL_law_1433 ?_
  refine g_ild3 hC dL_law_1434 ?_
  refine g_ild4 hC dL_law_1435 ?_
  refine g_imul hC dL_law_1437 ?_
  refine g_ild5 hC dL_law_1438 ?_
  refine g_imul hC dL_law_1440 ?_
  rw [e0]
  refine g_i2d hC dL_law_1441 ?_
  refine g_ddiv hC dL_law_1442 hN ?_
  refine g_dcmp (op := .l) hC dL_law_1443 ?_
  refine g_if_eq 1449 hC dL_law_1444 (by decide) (fun c1444 => ?_) (fun c1444 => absurd (fp_self hN) c1444)
  refine g_inc7 1 hC dL_law_1449 (by decide) rfl ?_
  refine g_goto 54 hC dL_law_1452 (by decide) ?_
  refine g_keep [true, true, true, true, true, true, true, true, false, false, false, false, false, false, false, false, false, false, false, false, false, false, false, false, false, false, false, false, false, false, false, false] ?_
  rw [nI_1]
  exact kk σ hR
