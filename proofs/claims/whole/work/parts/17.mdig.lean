def rP (k : Nat) : Int32 := nI k / 9 - 1
def rQ (k : Nat) : Int32 := nI k / 3 - nI k / 3 / 3 * 3 - 1
def rR (k : Nat) : Int32 := nI k - nI k / 3 * 3 - 1
def sRidD (τ : Mem) (f s k : Nat) : Int32 := sEnd τ (nI s) (some f) (rP k) (rQ k) (rR k) false - 1
def sRidL (τ : Mem) (f s k : Nat) : Int32 := sLook τ s (rP k) (rQ k) (rR k) (sRidD τ f s k) 0
/-- the plane with the least loss among the first ones: its number, its depth, the loss -/
def sRidS (τ : Mem) (f s : Nat) : Nat → Int32 × Int32 × Int32
  | 0 => (-1, 0, 1001)
  | k + 1 => if k = 13 then sRidS τ f s k else if sRidL τ f s k < (sRidS τ f s k).2.2 then (nI k, sRidD τ f s k, sRidL τ f s k) else sRidS τ f s k
def mRid (τ : Mem) (f s w : Int32) : Int32 × Mem :=
  if sIn f 0 ((mTh τ) 0 5 - 1) = true ∧ sStone (mTh τ) s = true ∧ sIn w 0 2 = true then
    (if nI (sFc (mTh τ) (tn f) s false) = 0 then (if w = 1 then -1000 else -1, mTh τ)
     else (if w = 0 then (sRidS (mTh τ) (tn f) (tn s) 27).1 else if w = 1 then (sRidS (mTh τ) (tn f) (tn s) 27).2.1 else (sRidS (mTh τ) (tn f) (tn s) 27).2.2, mTh τ))
  else mFail τ 1
theorem r_ne : ∀ k, k < 27 → ¬ k = 13 → ¬ nI k = 13 := by decide +kernel
/-! the checksum -/
def dg (d : Int64) (x : Int32) : Int64 := d * 31 + x.toInt64
def foldF (F : Nat → Int64 → Int64) : Nat → Int64 → Int64
  | 0, d => d
  | n + 1, d => F n (foldF F n d)
def nC (τ : Mem) : Nat := (τ 0 1).toNatClampNeg
def nR (τ : Mem) : Nat := (τ 0 2).toNatClampNeg
def nL (τ : Mem) : Nat := (τ 0 3).toNatClampNeg
theorem MI_C {τ : Mem} (h : MI τ) : (τ 0 1 = nI (nC τ) ∧ 1 ≤ nC τ ∧ nC τ ≤ 10) ∧ (τ 0 2 = nI (nR τ) ∧ 1 ≤ nR τ ∧ nR τ ≤ 10) ∧ (τ 0 3 = nI (nL τ) ∧ 1 ≤ nL τ ∧ nL τ ≤ 10) := by
  obtain ⟨⟨a, a1, a2, a3⟩, ⟨b, b1, b2, b3⟩, ⟨c, c1, c2, c3⟩, -⟩ := h
  have e1 : nC τ = a := by unfold nC; rw [a3]; exact nI_clamp (by omega)
  have e2 : nR τ = b := by unfold nR; rw [b3]; exact nI_clamp (by omega)
  have e3 : nL τ = c := by unfold nL; rw [c3]; exact nI_clamp (by omega)
  rw [e1, e2, e3]
  exact ⟨⟨a3, a1, a2⟩, ⟨b3, b1, b2⟩, ⟨c3, c1, c2⟩⟩
def mF1 (τ : Mem) (w : Nat) (d : Int64) : Int64 := dg d (sCt τ w)
def mFx (τ : Mem) (y z x : Nat) (d : Int64) : Int64 := dg d (τ 1 (x + 10 * (y + 10 * z)))
def mFy (τ : Mem) (z y : Nat) (d : Int64) : Int64 := foldF (mFx τ y z) (nC τ) d
def mFz (τ : Mem) (z : Nat) (d : Int64) : Int64 := foldF (mFy τ z) (nR τ) d
def mFw (τ : Mem) (s w : Nat) (d : Int64) : Int64 := dg d (sSt τ s w)
def mFp (τ : Mem) (s k w : Nat) (d : Int64) : Int64 := dg d (sPt τ s k w)
def mFk (τ : Mem) (s k : Nat) (d : Int64) : Int64 := foldF (mFp τ s k) 6 d
def mFs (τ : Mem) (s : Nat) (d : Int64) : Int64 := foldF (mFk τ s) (nP τ s) (foldF (mFw τ s) 9 d)
def mFv (τ : Mem) (f s w : Nat) (d : Int64) : Int64 := dg d (sFt τ f (nI s) (nI w))
def mFt (τ : Mem) (f s : Nat) (d : Int64) : Int64 := foldF (mFv τ f s) 3 d
def mFf (τ : Mem) (f : Nat) (d : Int64) : Int64 := foldF (mFt τ f) (nS τ) d
def mD1 (τ : Mem) : Int64 := foldF (mF1 τ) 8 577
def mD2 (τ : Mem) : Int64 := foldF (mFz τ) (nL τ) (mD1 τ)
def mD3 (τ : Mem) : Int64 := foldF (mFs τ) (nS τ) (mD2 τ)
def mDig (τ : Mem) : Int64 := foldF (mFf τ) (nF τ) (mD3 τ)
/-- a place that javac uses again holds nothing that is wanted -/
theorem foldF_s {F : Nat → Int64 → Int64} {n : Nat} {d : Int64} : F n (foldF F n d) = foldF F (n + 1) d := rfl
theorem foldF_0 {F : Nat → Int64 → Int64} {d : Int64} : foldF F 0 d = d := rfl
section FS
variable {τ : Mem} {d : Int64} {s k w f x y z : Nat}
theorem mF1_s : foldF (mF1 τ) (w + 1) d = foldF (mF1 τ) w d * 31 + (sCt τ w).toInt64 := by rw [← foldF_s, mF1]; rfl
theorem mFx_s : foldF (mFx τ y z) (x + 1) d = foldF (mFx τ y z) x d * 31 + (τ 1 (x + 10 * (y + 10 * z))).toInt64 := by rw [← foldF_s, mFx]; rfl
theorem mFy_s : foldF (mFy τ z) (y + 1) d = foldF (mFx τ y z) (nC τ) (foldF (mFy τ z) y d) := by rw [← foldF_s, mFy]
theorem mFz_s : foldF (mFz τ) (z + 1) d = foldF (mFy τ z) (nR τ) (foldF (mFz τ) z d) := by rw [← foldF_s, mFz]
theorem mFw_s : foldF (mFw τ s) (w + 1) d = foldF (mFw τ s) w d * 31 + (sSt τ s w).toInt64 := by rw [← foldF_s, mFw]; rfl
theorem mFp_s : foldF (mFp τ s k) (w + 1) d = foldF (mFp τ s k) w d * 31 + (sPt τ s k w).toInt64 := by rw [← foldF_s, mFp]; rfl
theorem mFk_s : foldF (mFk τ s) (k + 1) d = foldF (mFp τ s k) 6 (foldF (mFk τ s) k d) := by rw [← foldF_s, mFk]
theorem mFs_s : foldF (mFs τ) (s + 1) d = foldF (mFk τ s) (nP τ s) (foldF (mFw τ s) 9 (foldF (mFs τ) s d)) := by rw [← foldF_s, mFs]
theorem mFv_s : foldF (mFv τ f s) (w + 1) d = foldF (mFv τ f s) w d * 31 + (sFt τ f (nI s) (nI w)).toInt64 := by rw [← foldF_s, mFv]; rfl
theorem mFt_s : foldF (mFt τ f) (s + 1) d = foldF (mFv τ f s) 3 (foldF (mFt τ f) s d) := by rw [← foldF_s, mFt]
theorem mFf_s : foldF (mFf τ) (f + 1) d = foldF (mFt τ f) (nS τ) (foldF (mFf τ) f d) := by rw [← foldF_s, mFf]
end FS

theorem g_widen {Lw : gL} {X : gC} {k n k1 n1 pc : Nat} {ls : List (Option Value)} {st : List Value} {σ : Mem} (h1 : k ≤ k1) (h2 : n ≤ n1) (kk : G Lw X k1 n1 pc ls st σ) : G Lw X k n pc ls st σ := by
  obtain ⟨p, l', e, R, s, m, args, below, meth, c, nL, H0, A, E, Q⟩ := X
  exact fun H locs arr hn hP hS hl => W.widen h1 h2 (kk H locs arr hn hP hS hl)
set_option maxRecDepth 100000 in
set_option maxHeartbeats 4000000 in
/-- X6_rid -/
theorem c_X6_rid (l : Launch) (f s w : Int32) : gMI wM l yX6_rid (.code yX6_rid cX6_rid 13 (some FieldType.int)) 8 27 135 (fun A => [.ref (A 0), .int f, .int s, .int w]) (fun τ => MI τ ∧ NM τ ∧ M16 τ) (fun τ rr τ1 => rr = (mRid τ f s w).1 ∧ Qe (mRid τ f s w).2 τ1) := by
  refine gMI_of (by decide) (fun A => Nat.le_of_ble_eq_true rfl) ?_
  intro X τ hC hP hE
  have hC : gOk wM l X cX6_rid "GemCutModel" 8 27 135 := hC
  show G wM X 0 0 0 [some (.ref (gA X 0)), some (.int f), some (.int s), some (.int w), none, none, none, none, none, none, none, none, none] [] τ
  refine g_ald0 hC dX6_rid_0 ?_
  refine g_iconst 0 hC dX6_rid_1 (by decide) ?_
  refine mp_Model_thrown hC tw_4_22 dX6_rid_2 ?_
  refine g_ild1 hC dX6_rid_5 ?_
  refine g_iconst 0 hC dX6_rid_6 (by decide) ?_
  refine g_ald0 hC dX6_rid_7 ?_
  refine mg_Model_flaws hC tw_4_27 dX6_rid_8 ?_
  refine g_iconst 1 hC dX6_rid_11 (by decide) ?_
  refine g_isub hC dX6_rid_12 ?_
  refine k_X6_isIn hC tw_4_19 dX6_rid_13 (by decide) ⟨by omega, by omega⟩ (Nat.le_of_ble_eq_true rfl) ?_
  refine g_if_eq 36 hC dX6_rid_16 (by decide) (fun c16 => ?_) (fun c16 => ?_)
  · refine g_ald0 hC dX6_rid_36 ?_
    refine g_iconst 1 hC dX6_rid_37 (by decide) ?_
    refine k_X6_fail hC tw_4_67 dX6_rid_38 (by decide) ⟨by omega, by omega⟩ (Nat.le_of_ble_eq_true rfl) ?_
    (try simp only [ne_eq, b2i_eq0, Bool.not_eq_false, Int32.not_le, Int32.not_lt, Int32.zero_sub] at c16)
    exact hE _ _ _ _ _ _ dX6_rid_41 (by omega) (by omega) ⟨by simp [mRid, c16], by rw [show (mRid τ f s w).2 = _ by simp [mRid, c16]; rfl]; exact Qe.rf _⟩
  · refine g_ald0 hC dX6_rid_19 ?_
    refine g_ild2 hC dX6_rid_20 ?_
    refine k_X6_isStone hC tw_4_89 dX6_rid_21 (by decide) ⟨by omega, by omega⟩ (Nat.le_of_ble_eq_true rfl) ?_
    refine g_if_eq 36 hC dX6_rid_24 (by decide) (fun c24 => ?_) (fun c24 => ?_)
    · refine g_ald0 hC dX6_rid_36 ?_
      refine g_iconst 1 hC dX6_rid_37 (by decide) ?_
      refine k_X6_fail hC tw_4_67 dX6_rid_38 (by decide) ⟨by omega, by omega⟩ (Nat.le_of_ble_eq_true rfl) ?_
      (try simp only [ne_eq, b2i_eq0, Bool.not_eq_false, Int32.not_le, Int32.not_lt, Int32.zero_sub] at c16 c24)
      exact hE _ _ _ _ _ _ dX6_rid_41 (by omega) (by omega) ⟨by simp [mRid, c16, c24], by rw [show (mRid τ f s w).2 = _ by simp [mRid, c16, c24]; rfl]; exact Qe.rf _⟩
    · refine g_ild3 hC dX6_rid_27 ?_
      refine g_iconst 0 hC dX6_rid_28 (by decide) ?_
      refine g_iconst 2 hC dX6_rid_29 (by decide) ?_
      refine k_X6_isIn hC tw_4_19 dX6_rid_30 (by decide) ⟨by omega, by omega⟩ (Nat.le_of_ble_eq_true rfl) ?_
      refine g_if_ne 42 hC dX6_rid_33 (by decide) (fun c33 => ?_) (fun c33 => ?_)
      · (try simp only [ne_eq, b2i_eq0, Bool.not_eq_false, Int32.not_le, Int32.not_lt, Int32.zero_sub] at c16 c24 c33)
        have hM : MI (mTh τ) := MI_th hP.1 0
        have hN : NM (mTh τ) := NM_th hP.2.1
        have h6 : M16 (mTh τ) := M16_th hP.2.2
        obtain ⟨s0, hs1, hs2, rfl, hs4⟩ := sStone_at hM c24
        obtain ⟨f0, hf1, hf2, rfl, hf4⟩ := sFlaw_at hM c16
        obtain ⟨w0, hw1, rfl, hw4⟩ := sIn_at (n := 2) (by decide) (by decide) c33
        have hok := And.intro c16 (And.intro c24 c33)
        refine g_ald0 hC dX6_rid_42 ?_
        refine g_ild1 hC dX6_rid_43 ?_
        refine g_ild2 hC dX6_rid_44 ?_
        refine g_iconst 0 hC dX6_rid_45 (by decide) ?_
        refine k_X6_flawCells (f := f0) (op := false) hC tw_4_97 dX6_rid_46 (by decide) ⟨by omega, by omega⟩ (Nat.le_of_ble_eq_true rfl) ⟨hf1, hM⟩ ?_
        refine g_if_ne 65 hC dX6_rid_49 (by decide) (fun c49 => ?_) (fun c49 => ?_)
        · have lp : ∀ (m k : Nat), k + m = 27 → ∀ τ1, Qe (mTh τ) τ1 → G wM X k (5 * k) 79 [some (.ref (gA X 0)), some (.int (nI f0)), some (.int (nI s0)), some (.int (nI w0)), some (.int (sRidS (mTh τ) f0 s0 k).1), some (.int (sRidS (mTh τ) f0 s0 k).2.1), some (.int (sRidS (mTh τ) f0 s0 k).2.2), some (.int (nI k)), none, none, none, none, none] [] τ1 := by
            intro m
            induction m with
            | zero =>
              intro k hk τ1 hQ
              have hk : k = 27 := by omega
              subst hk
              refine g_ild7 hC dX6_rid_79 ?_
              refine g_bipush 27 hC dX6_rid_81 (by decide) ?_
              refine g_icmp_ge 184 hC dX6_rid_83 (by decide) (fun c83 => ?_) (fun c83 => absurd (lit_le (show (27 : Int32) = nI 27 by decide) (by omega) (by omega)) c83)
              refine g_ild3 hC dX6_rid_184 ?_
              refine g_if_ne 193 hC dX6_rid_185 (by decide) (fun c185 => ?_) (fun c185 => ?_)
              · refine g_ild3 hC dX6_rid_193 ?_
                refine g_iconst 1 hC dX6_rid_194 (by decide) ?_
                refine g_icmp_ne 203 hC dX6_rid_195 (by decide) (fun c195 => ?_) (fun c195 => ?_)
                · refine g_ild6 hC dX6_rid_203 ?_
                  refine hE _ _ _ _ _ _ dX6_rid_205 (by omega) (by omega) ⟨?_, by rw [mRid, if_pos hok]; simp only [tn, hf4, if_neg c49]; exact hQ⟩
                  rw [mRid, if_pos hok]
                  simp only [tn, hf4, hs4, if_neg c49]
                  first
                  | (rw [if_pos c185])
                  | (rw [if_neg c185, if_pos c195])
                  | (rw [if_neg c185, if_neg c195])
                · refine g_ild5 hC dX6_rid_198 ?_
                  refine g_goto 205 hC dX6_rid_200 (by decide) ?_
                  refine hE _ _ _ _ _ _ dX6_rid_205 (by omega) (by omega) ⟨?_, by rw [mRid, if_pos hok]; simp only [tn, hf4, if_neg c49]; exact hQ⟩
                  rw [mRid, if_pos hok]
                  simp only [tn, hf4, hs4, if_neg c49]
                  first
                  | (rw [if_pos c185])
                  | (rw [if_neg c185, if_pos c195])
                  | (rw [if_neg c185, if_neg c195])
              · refine g_ild4 hC dX6_rid_188 ?_
                refine g_goto 205 hC dX6_rid_190 (by decide) ?_
                refine hE _ _ _ _ _ _ dX6_rid_205 (by omega) (by omega) ⟨?_, by rw [mRid, if_pos hok]; simp only [tn, hf4, if_neg c49]; exact hQ⟩
                rw [mRid, if_pos hok]
                simp only [tn, hf4, hs4, if_neg c49]
                first
                | (rw [if_pos c185])
                | (rw [if_neg c185, if_pos c195])
                | (rw [if_neg c185, if_neg c195])
            | succ m ih =>
              intro k hk τ1 hQ
              refine g_ild7 hC dX6_rid_79 ?_
              refine g_bipush 27 hC dX6_rid_81 (by decide) ?_
              refine g_icmp_ge 184 hC dX6_rid_83 (by decide) (fun c83 => absurd c83 (lit_nle (show (27 : Int32) = nI 27 by decide) (by omega) (by omega))) (fun c83 => ?_)
              refine g_ild7 hC dX6_rid_86 ?_
              refine g_bipush 9 hC dX6_rid_88 (by decide) ?_
              refine g_idiv hC dX6_rid_90 (by decide) ?_
              refine g_iconst 1 hC dX6_rid_91 (by decide) ?_
              refine g_isub hC dX6_rid_92 ?_
              refine g_ist8 hC dX6_rid_93 rfl ?_
              refine g_ild7 hC dX6_rid_95 ?_
              refine g_iconst 3 hC dX6_rid_97 (by decide) ?_
              refine g_idiv hC dX6_rid_98 (by decide) ?_
              refine g_iconst 3 hC dX6_rid_99 (by decide) ?_
              refine g_irem hC dX6_rid_100 (by decide) ?_
              refine g_iconst 1 hC dX6_rid_101 (by decide) ?_
              refine g_isub hC dX6_rid_102 ?_
              refine g_ist9 hC dX6_rid_103 rfl ?_
              refine g_ild7 hC dX6_rid_105 ?_
              refine g_iconst 3 hC dX6_rid_107 (by decide) ?_
              refine g_irem hC dX6_rid_108 (by decide) ?_
              refine g_iconst 1 hC dX6_rid_109 (by decide) ?_
              refine g_isub hC dX6_rid_110 ?_
              refine g_ist10 hC dX6_rid_111 rfl ?_
              refine g_ild7 hC dX6_rid_113 ?_
              refine g_bipush 13 hC dX6_rid_115 (by decide) ?_
              refine g_icmp_ne 123 hC dX6_rid_117 (by decide) (fun c117 => ?_) (fun c117 => ?_)
              · refine g_ald0 hC dX6_rid_123 ?_
                refine g_ild2 hC dX6_rid_124 ?_
                refine g_ild1 hC dX6_rid_125 ?_
                refine g_ild8 hC dX6_rid_126 ?_
                refine g_ild9 hC dX6_rid_128 ?_
                refine g_ild10 hC dX6_rid_130 ?_
                refine g_iconst 0 hC dX6_rid_132 (by decide) ?_
                refine k_X6_end (s := nI s0) (o := some f0) (g := false) hC tw_4_237 dX6_rid_133 (by decide) ⟨by omega, by omega⟩ (Nat.le_of_ble_eq_true rfl) (fun f hf => by cases hf; exact hf1) ?_
                rw [Qe_End hQ]
                refine g_iconst 1 hC dX6_rid_136 (by decide) ?_
                refine g_isub hC dX6_rid_137 ?_
                refine g_ist11 hC dX6_rid_138 rfl ?_
                refine g_ald0 hC dX6_rid_140 ?_
                refine g_ild2 hC dX6_rid_141 ?_
                refine g_ild8 hC dX6_rid_142 ?_
                refine g_ild9 hC dX6_rid_144 ?_
                refine g_ild10 hC dX6_rid_146 ?_
                refine g_ild11 hC dX6_rid_148 ?_
                refine g_iconst 0 hC dX6_rid_150 (by decide) ?_
                refine k_X6_look (s := s0) (w := 0) hC tw_4_229 dX6_rid_151 (by decide) ⟨by omega, by omega⟩ (Nat.le_of_ble_eq_true rfl) ⟨hs1, Qe_MI hQ hM, Qe_NM hQ hN, Qe_M16 hQ h6 s0 hs1, by decide⟩ ?_
                rw [Qe_Look hQ hM h6 hs1]
                refine g_ist12 hC dX6_rid_154 rfl ?_
                refine g_ild12 hC dX6_rid_156 ?_
                refine g_ild6 hC dX6_rid_158 ?_
                refine g_icmp_lt 166 hC dX6_rid_160 (by decide) (fun c160 => ?_) (fun c160 => ?_)
                · refine g_ild7 hC dX6_rid_166 ?_
                  refine g_ist4 hC dX6_rid_168 rfl ?_
                  refine g_ild11 hC dX6_rid_170 ?_
                  refine g_ist5 hC dX6_rid_172 rfl ?_
                  refine g_ild12 hC dX6_rid_174 ?_
                  refine g_ist6 hC dX6_rid_176 rfl ?_
                  refine g_inc7 1 hC dX6_rid_178 (by decide) rfl ?_
                  refine g_goto 79 hC dX6_rid_181 (by decide) ?_
                  (try simp only [ne_eq, b2i_eq0, Bool.not_eq_false, Int32.not_le, Int32.not_lt, Int32.zero_sub] at c83 c117 c160)
                  refine g_keep [true, true, true, true, true, true, true, true, false, false, false, false, false] ?_
                  rw [nI_1]
                  first
                  | (have hk13 : k = 13 := nI_inj (by omega) (by omega) (c117.trans (by decide))
                     have e3 := ih (k + 1) (by omega) _ hQ
                     rw [sRidS, if_pos hk13] at e3
                     exact e3)
                  | (have hk13 : ¬ k = 13 := fun h => c117 (by rw [h]; decide)
                     have e3 := ih (k + 1) (by omega) _ (Qe_tr hQ (Qe_look (Qe_M16 hQ h6) hs1 (rP k) (rQ k) (rR k) (sRidD (mTh τ) f0 s0 k)))
                     rw [sRidS, if_neg hk13] at e3
                     first
                     | (have hlt : sRidL (mTh τ) f0 s0 k < (sRidS (mTh τ) f0 s0 k).2.2 := c160
                        rw [if_pos hlt] at e3; exact e3)
                     | (have hlt : ¬ sRidL (mTh τ) f0 s0 k < (sRidS (mTh τ) f0 s0 k).2.2 := Int32.not_lt.mpr c160
                        rw [if_neg hlt] at e3; exact e3))
                · refine g_goto 178 hC dX6_rid_163 (by decide) ?_
                  refine g_inc7 1 hC dX6_rid_178 (by decide) rfl ?_
                  refine g_goto 79 hC dX6_rid_181 (by decide) ?_
                  (try simp only [ne_eq, b2i_eq0, Bool.not_eq_false, Int32.not_le, Int32.not_lt, Int32.zero_sub] at c83 c117 c160)
                  refine g_keep [true, true, true, true, true, true, true, true, false, false, false, false, false] ?_
                  rw [nI_1]
                  first
                  | (have hk13 : k = 13 := nI_inj (by omega) (by omega) (c117.trans (by decide))
                     have e3 := ih (k + 1) (by omega) _ hQ
                     rw [sRidS, if_pos hk13] at e3
                     exact e3)
                  | (have hk13 : ¬ k = 13 := fun h => c117 (by rw [h]; decide)
                     have e3 := ih (k + 1) (by omega) _ (Qe_tr hQ (Qe_look (Qe_M16 hQ h6) hs1 (rP k) (rQ k) (rR k) (sRidD (mTh τ) f0 s0 k)))
                     rw [sRidS, if_neg hk13] at e3
                     first
                     | (have hlt : sRidL (mTh τ) f0 s0 k < (sRidS (mTh τ) f0 s0 k).2.2 := c160
                        rw [if_pos hlt] at e3; exact e3)
                     | (have hlt : ¬ sRidL (mTh τ) f0 s0 k < (sRidS (mTh τ) f0 s0 k).2.2 := Int32.not_lt.mpr c160
                        rw [if_neg hlt] at e3; exact e3))
              · refine g_widen (k1 := k + 1) (n1 := 5 * (k + 1)) (by omega) (by omega) ?_
                refine g_goto 178 hC dX6_rid_120 (by decide) ?_
                refine g_inc7 1 hC dX6_rid_178 (by decide) rfl ?_
                refine g_goto 79 hC dX6_rid_181 (by decide) ?_
                skip
                refine g_keep [true, true, true, true, true, true, true, true, false, false, false, false, false] ?_
                rw [nI_1]
                first
                | (have hk13 : k = 13 := nI_inj (by omega) (by omega) (c117.trans (by decide))
                   have e3 := ih (k + 1) (by omega) _ hQ
                   rw [sRidS, if_pos hk13] at e3
                   exact e3)
                | (have hk13 : ¬ k = 13 := fun h => c117 (by rw [h]; decide)
                   have e3 := ih (k + 1) (by omega) _ (Qe_tr hQ (Qe_look (Qe_M16 hQ h6) hs1 (rP k) (rQ k) (rR k) (sRidD (mTh τ) f0 s0 k)))
                   rw [sRidS, if_neg hk13] at e3
                   first
                   | (have hlt : sRidL (mTh τ) f0 s0 k < (sRidS (mTh τ) f0 s0 k).2.2 := c160
                      rw [if_pos hlt] at e3; exact e3)
                   | (have hlt : ¬ sRidL (mTh τ) f0 s0 k < (sRidS (mTh τ) f0 s0 k).2.2 := Int32.not_lt.mpr c160
                      rw [if_neg hlt] at e3; exact e3))
          refine g_iconst (-1) hC dX6_rid_65 (by decide) ?_
          refine g_ist4 hC dX6_rid_66 rfl ?_
          refine g_iconst 0 hC dX6_rid_68 (by decide) ?_
          refine g_ist5 hC dX6_rid_69 rfl ?_
          refine g_sipush 1001 hC dX6_rid_71 (by decide) ?_
          refine g_ist6 hC dX6_rid_74 rfl ?_
          refine g_iconst 0 hC dX6_rid_76 (by decide) ?_
          refine g_ist7 hC dX6_rid_77 rfl ?_
          exact lp 27 0 (by omega) _ (Qe.rf _)
        · refine g_ild3 hC dX6_rid_52 ?_
          refine g_iconst 1 hC dX6_rid_53 (by decide) ?_
          refine g_icmp_ne 63 hC dX6_rid_54 (by decide) (fun c54 => ?_) (fun c54 => ?_)
          · refine g_iconst (-1) hC dX6_rid_63 (by decide) ?_
            exact hE _ _ _ _ _ _ dX6_rid_64 (by omega) (by omega) ⟨by rw [mRid, if_pos hok]; simp only [tn, hf4, if_pos c49]; first | rw [if_pos c54] | rw [if_neg c54], by rw [mRid, if_pos hok]; simp only [tn, hf4, if_pos c49]; exact Qe.rf _⟩
          · refine g_sipush (-1000) hC dX6_rid_57 (by decide) ?_
            refine g_goto 64 hC dX6_rid_60 (by decide) ?_
            exact hE _ _ _ _ _ _ dX6_rid_64 (by omega) (by omega) ⟨by rw [mRid, if_pos hok]; simp only [tn, hf4, if_pos c49]; first | rw [if_pos c54] | rw [if_neg c54], by rw [mRid, if_pos hok]; simp only [tn, hf4, if_pos c49]; exact Qe.rf _⟩
      · refine g_ald0 hC dX6_rid_36 ?_
        refine g_iconst 1 hC dX6_rid_37 (by decide) ?_
        refine k_X6_fail hC tw_4_67 dX6_rid_38 (by decide) ⟨by omega, by omega⟩ (Nat.le_of_ble_eq_true rfl) ?_
        (try simp only [ne_eq, b2i_eq0, Bool.not_eq_false, Int32.not_le, Int32.not_lt, Int32.zero_sub] at c16 c24 c33)
        exact hE _ _ _ _ _ _ dX6_rid_41 (by omega) (by omega) ⟨by simp [mRid, c16, c24, c33], by rw [show (mRid τ f s w).2 = _ by simp [mRid, c16, c24, c33]; rfl]; exact Qe.rf _⟩
theorem k_X6_rid {l : Launch} {X : gC} {cc : ByteArray} {own : String} {dd ca sa kc nc pc : Nat} {ls : List (Option Value)} {st : List Value} {σ : Mem} {idx : Nat} {f s w : Int32} (hC : gOk wM l X cc own dd ca sa) (hlk : Cond.methodLink own idx yX6_rid ∈ TB) (hd : decode cc pc = .ok (.invokevirtual idx, 3)) (hdd : 8 + 1 ≤ dd) (hf : kc + 27 ≤ ca ∧ nc + 135 ≤ sa) (hrest : (st.map fun v => v.category).sum ≤ 8)  (hP : MI σ ∧ NM σ ∧ M16 σ) (kk : ∀ (rr : Int32) (σ1 : Mem), rr = (mRid σ f s w).1 ∧ Qe (mRid σ f s w).2 σ1 → G wM X (kc + 27) (nc + 135) (pc + 3) ls (.int rr :: st) σ1) : G wM X kc nc pc ls (.int w :: .int s :: .int f :: .ref (gA X 0) :: st) σ := by
  exact g_cVI 3 hC (c_X6_rid l f s w) hlk ⟨tw_5_2, tw_5_3, tw_1_7, tw_5_4⟩ (by decide +kernel) ⟨hdd, by decide⟩ hf rfl rfl rfl (gW_at wM _ _ (by decide)) hrest rfl hd hP kk
set_option maxRecDepth 100000 in
set_option maxHeartbeats 4000000 in
/-- X6_digest -/
theorem c_X6_digest (l : Launch) : gML wM l yX6_digest (.code yX6_digest cX6_digest 6 (some FieldType.long)) 8 0 0 (fun A => [.ref (A 0)]) (fun τ => MI τ) (fun τ rr τ1 => rr = mDig (mTh τ) ∧ τ1 = mTh τ) := by
  refine gML_of (by decide) (fun A => Nat.le_of_ble_eq_true rfl) ?_
  intro X τ hC hP hE
  have hC : gOk wM l X cX6_digest "GemCutModel" 8 0 0 := hC
  show G wM X 0 0 0 [some (.ref (gA X 0)), none, none, none, none, none] [] τ
  have hM : MI (mTh τ) := MI_th hP 0
  obtain ⟨⟨hC1, hC2, hC3⟩, ⟨hR1, hR2, hR3⟩, ⟨hL1, hL2, hL3⟩⟩ := MI_C hM
  obtain ⟨hF1, hF2⟩ := MI_F hM
  obtain ⟨hS1, hS2, hS3⟩ := MI_S hM
  have lpf : ∀ (m f : Nat), f + m = nF (mTh τ) → G wM X 0 0 211 [some (.ref (gA X 0)), some (.long (foldF (mFf (mTh τ)) f (mD3 (mTh τ)))), none, some (.int (nI f)), none, none] [] (mTh τ) := by
    intro m
    induction m with
    | zero =>
      intro f hf
      have hf : f = nF (mTh τ) := by omega
      rw [hf]
      refine g_ild3 hC dX6_digest_211 ?_
      refine g_ald0 hC dX6_digest_212 ?_
      refine mg_Model_flaws hC tw_4_27 dX6_digest_213 ?_
      refine g_icmp_ge 275 hC dX6_digest_216 (by decide) (fun c216 => ?_) (fun c216 => absurd (by rw [hF1]; exact nI_le (by omega) (by omega)) c216)
      refine g_lld1 hC dX6_digest_275 ?_
      exact hE _ _ _ _ _ _ dX6_digest_276 (Nat.le_refl _) (Nat.le_refl _) ⟨rfl, rfl⟩
    | succ m ihf =>
      intro f hf
      have lps : ∀ (m s : Nat), s + m = nS (mTh τ) → G wM X 0 0 222 [some (.ref (gA X 0)), some (.long (foldF (mFt (mTh τ) f) s (foldF (mFf (mTh τ)) f (mD3 (mTh τ))))), none, some (.int (nI f)), some (.int (nI s)), none] [] (mTh τ) := by
        intro m
        induction m with
        | zero =>
          intro s hs
          have hs : s = nS (mTh τ) := by omega
          rw [hs]
          refine g_ild4 hC dX6_digest_222 ?_
          refine g_ald0 hC dX6_digest_224 ?_
          refine mg_Model_stones hC tw_4_29 dX6_digest_225 ?_
          refine g_icmp_ge 269 hC dX6_digest_228 (by decide) (fun c228 => ?_) (fun c228 => absurd (by rw [hS1]; exact nI_le (by omega) (by omega)) c228)
          refine g_inc3 1 hC dX6_digest_269 (by decide) rfl ?_
          refine g_goto 211 hC dX6_digest_272 (by decide) ?_
          refine g_keep [true, true, true, true, false, false] ?_
          rw [← mFf_s, nI_1]
          exact ihf (f + 1) (by omega)
        | succ m ihs =>
          intro s hs
          have lpw : ∀ (m w : Nat), w + m = 3 → G wM X 0 0 234 [some (.ref (gA X 0)), some (.long (foldF (mFv (mTh τ) f s) w (foldF (mFt (mTh τ) f) s (foldF (mFf (mTh τ)) f (mD3 (mTh τ)))))), none, some (.int (nI f)), some (.int (nI s)), some (.int (nI w))] [] (mTh τ) := by
            intro m
            induction m with
            | zero =>
              intro w hw
              have hw : w = 3 := by omega
              subst hw
              refine g_ild5 hC dX6_digest_234 ?_
              refine g_iconst 3 hC dX6_digest_236 (by decide) ?_
              refine g_icmp_ge 263 hC dX6_digest_237 (by decide) (fun c237 => ?_) (fun c237 => absurd (lit_le (show (3 : Int32) = nI 3 by decide) (by omega) (by omega)) c237)
              refine g_inc4 1 hC dX6_digest_263 (by decide) rfl ?_
              refine g_goto 222 hC dX6_digest_266 (by decide) ?_
              refine g_keep [true, true, true, true, true, false] ?_
              rw [← mFt_s, nI_1]
              exact ihs (s + 1) (by omega)
            | succ m ihw =>
              intro w hw
              refine g_ild5 hC dX6_digest_234 ?_
              refine g_iconst 3 hC dX6_digest_236 (by decide) ?_
              refine g_icmp_ge 263 hC dX6_digest_237 (by decide) (fun c237 => absurd c237 (lit_nle (show (3 : Int32) = nI 3 by decide) (by omega) (by omega))) (fun c237 => ?_)
              refine g_lld1 hC dX6_digest_240 ?_
              refine g_ldc2 hC tw_5_14 dX6_digest_241 ?_
              refine g_lmul hC dX6_digest_244 ?_
              refine g_ald0 hC dX6_digest_245 ?_
              refine g_ild3 hC dX6_digest_246 ?_
              refine g_ild4 hC dX6_digest_247 ?_
              refine g_ild5 hC dX6_digest_249 ?_
              refine k_X6_flawTold (f := f) (s := nI s) (w := nI w) hC tw_4_93 dX6_digest_251 (by decide) ⟨by omega, by omega⟩ (Nat.le_of_ble_eq_true rfl) ⟨by omega, hM⟩ ?_
              refine g_i2l hC dX6_digest_254 ?_
              refine g_ladd hC dX6_digest_255 ?_
              refine g_lst1 hC dX6_digest_256 rfl ?_
              refine g_inc5 1 hC dX6_digest_257 (by decide) rfl ?_
              refine g_goto 234 hC dX6_digest_260 (by decide) ?_
              rw [← mFv_s, nI_1]
              exact ihw (w + 1) (by omega)
          refine g_ild4 hC dX6_digest_222 ?_
          refine g_ald0 hC dX6_digest_224 ?_
          refine mg_Model_stones hC tw_4_29 dX6_digest_225 ?_
          refine g_icmp_ge 269 hC dX6_digest_228 (by decide) (fun c228 => absurd c228 (by rw [hS1]; exact nI_ge (by omega) (by omega))) (fun c228 => ?_)
          refine g_iconst 0 hC dX6_digest_231 (by decide) ?_
          refine g_ist5 hC dX6_digest_232 rfl ?_
          have e9 := lpw 3 0 (by omega)
          rw [foldF_0] at e9
          exact e9
      refine g_ild3 hC dX6_digest_211 ?_
      refine g_ald0 hC dX6_digest_212 ?_
      refine mg_Model_flaws hC tw_4_27 dX6_digest_213 ?_
      refine g_icmp_ge 275 hC dX6_digest_216 (by decide) (fun c216 => absurd c216 (by rw [hF1]; exact nI_ge (by omega) (by omega))) (fun c216 => ?_)
      refine g_iconst 0 hC dX6_digest_219 (by decide) ?_
      refine g_ist4 hC dX6_digest_220 rfl ?_
      have e9 := lps (nS (mTh τ)) 0 (by omega)
      rw [foldF_0] at e9
      exact e9
  have lps : ∀ (m s : Nat), s + m = nS (mTh τ) → G wM X 0 0 111 [some (.ref (gA X 0)), some (.long (foldF (mFs (mTh τ)) s (mD2 (mTh τ)))), none, some (.int (nI s)), none, none] [] (mTh τ) := by
    intro m
    induction m with
    | zero =>
      intro s hs
      have hs : s = nS (mTh τ) := by omega
      rw [hs]
      refine g_ild3 hC dX6_digest_111 ?_
      refine g_ald0 hC dX6_digest_112 ?_
      refine mg_Model_stones hC tw_4_29 dX6_digest_113 ?_
      refine g_icmp_ge 209 hC dX6_digest_116 (by decide) (fun c116 => ?_) (fun c116 => absurd (by rw [hS1]; exact nI_le (by omega) (by omega)) c116)
      refine g_iconst 0 hC dX6_digest_209 (by decide) ?_
      refine g_ist3 hC dX6_digest_210 rfl ?_
      rw [show foldF (mFs (mTh τ)) (nS (mTh τ)) (mD2 (mTh τ)) = mD3 (mTh τ) from rfl]
      have e9 := lpf (nF (mTh τ)) 0 (by omega)
      rw [foldF_0] at e9
      exact e9
    | succ m ihs =>
      intro s hs
      obtain ⟨hm, hm2⟩ := MI_P hM (show s < 8 by omega)
      have lpk : ∀ (m k : Nat), k + m = nP (mTh τ) s → G wM X 0 0 153 [some (.ref (gA X 0)), some (.long (foldF (mFk (mTh τ) s) k (foldF (mFw (mTh τ) s) 9 (foldF (mFs (mTh τ)) s (mD2 (mTh τ)))))), none, some (.int (nI s)), some (.int (nI k)), none] [] (mTh τ) := by
        intro m
        induction m with
        | zero =>
          intro k hk
          have hk : k = nP (mTh τ) s := by omega
          rw [hk]
          refine g_ild4 hC dX6_digest_153 ?_
          refine g_ald0 hC dX6_digest_155 ?_
          refine mg_Model_many hC tw_4_31 dX6_digest_156 ?_
          refine g_ild3 hC dX6_digest_159 ?_
          refine ml_many s hC rfl (by omega) dX6_digest_160 ?_
          refine g_icmp_ge 203 hC dX6_digest_161 (by decide) (fun c161 => ?_) (fun c161 => absurd (by rw [hm]; exact nI_le (by omega) (by omega)) c161)
          refine g_inc3 1 hC dX6_digest_203 (by decide) rfl ?_
          refine g_goto 111 hC dX6_digest_206 (by decide) ?_
          refine g_keep [true, true, true, true, false, false] ?_
          rw [← mFs_s, nI_1]
          exact ihs (s + 1) (by omega)
        | succ m ihk =>
          intro k hk
          have lpw : ∀ (m w : Nat), w + m = 6 → G wM X 0 0 167 [some (.ref (gA X 0)), some (.long (foldF (mFp (mTh τ) s k) w (foldF (mFk (mTh τ) s) k (foldF (mFw (mTh τ) s) 9 (foldF (mFs (mTh τ)) s (mD2 (mTh τ))))))), none, some (.int (nI s)), some (.int (nI k)), some (.int (nI w))] [] (mTh τ) := by
            intro m
            induction m with
            | zero =>
              intro w hw
              have hw : w = 6 := by omega
              subst hw
              refine g_ild5 hC dX6_digest_167 ?_
              refine g_bipush 6 hC dX6_digest_169 (by decide) ?_
              refine g_icmp_ge 197 hC dX6_digest_171 (by decide) (fun c171 => ?_) (fun c171 => absurd (lit_le (show (6 : Int32) = nI 6 by decide) (by omega) (by omega)) c171)
              refine g_inc4 1 hC dX6_digest_197 (by decide) rfl ?_
              refine g_goto 153 hC dX6_digest_200 (by decide) ?_
              refine g_keep [true, true, true, true, true, false] ?_
              rw [← mFk_s, nI_1]
              exact ihk (k + 1) (by omega)
            | succ m ihw =>
              intro w hw
              refine g_ild5 hC dX6_digest_167 ?_
              refine g_bipush 6 hC dX6_digest_169 (by decide) ?_
              refine g_icmp_ge 197 hC dX6_digest_171 (by decide) (fun c171 => absurd c171 (lit_nle (show (6 : Int32) = nI 6 by decide) (by omega) (by omega))) (fun c171 => ?_)
              refine g_lld1 hC dX6_digest_174 ?_
              refine g_ldc2 hC tw_5_14 dX6_digest_175 ?_
              refine g_lmul hC dX6_digest_178 ?_
              refine g_ald0 hC dX6_digest_179 ?_
              refine g_ild3 hC dX6_digest_180 ?_
              refine g_ild4 hC dX6_digest_181 ?_
              refine g_ild5 hC dX6_digest_183 ?_
              refine k_X6_planeTold (s := s) (k := k) (w := w) hC tw_4_205 dX6_digest_185 (by decide) ⟨by omega, by omega⟩ (Nat.le_of_ble_eq_true rfl) ⟨by omega, by omega, by omega⟩ ?_
              refine g_i2l hC dX6_digest_188 ?_
              refine g_ladd hC dX6_digest_189 ?_
              refine g_lst1 hC dX6_digest_190 rfl ?_
              refine g_inc5 1 hC dX6_digest_191 (by decide) rfl ?_
              refine g_goto 167 hC dX6_digest_194 (by decide) ?_
              rw [← mFp_s, nI_1]
              exact ihw (w + 1) (by omega)
          refine g_ild4 hC dX6_digest_153 ?_
          refine g_ald0 hC dX6_digest_155 ?_
          refine mg_Model_many hC tw_4_31 dX6_digest_156 ?_
          refine g_ild3 hC dX6_digest_159 ?_
          refine ml_many s hC rfl (by omega) dX6_digest_160 ?_
          refine g_icmp_ge 203 hC dX6_digest_161 (by decide) (fun c161 => absurd c161 (by rw [hm]; exact nI_ge (by omega) (by omega))) (fun c161 => ?_)
          refine g_iconst 0 hC dX6_digest_164 (by decide) ?_
          refine g_ist5 hC dX6_digest_165 rfl ?_
          have e9 := lpw 6 0 (by omega)
          rw [foldF_0] at e9
          exact e9
      have lpw : ∀ (m w : Nat), w + m = 9 → G wM X 0 0 122 [some (.ref (gA X 0)), some (.long (foldF (mFw (mTh τ) s) w (foldF (mFs (mTh τ)) s (mD2 (mTh τ))))), none, some (.int (nI s)), some (.int (nI w)), none] [] (mTh τ) := by
        intro m
        induction m with
        | zero =>
          intro w hw
          have hw : w = 9 := by omega
          subst hw
          refine g_ild4 hC dX6_digest_122 ?_
          refine g_bipush 9 hC dX6_digest_124 (by decide) ?_
          refine g_icmp_ge 150 hC dX6_digest_126 (by decide) (fun c126 => ?_) (fun c126 => absurd (lit_le (show (9 : Int32) = nI 9 by decide) (by omega) (by omega)) c126)
          refine g_iconst 0 hC dX6_digest_150 (by decide) ?_
          refine g_ist4 hC dX6_digest_151 rfl ?_
          have e9 := lpk (nP (mTh τ) s) 0 (by omega)
          rw [foldF_0] at e9
          exact e9
        | succ m ihw =>
          intro w hw
          refine g_ild4 hC dX6_digest_122 ?_
          refine g_bipush 9 hC dX6_digest_124 (by decide) ?_
          refine g_icmp_ge 150 hC dX6_digest_126 (by decide) (fun c126 => absurd c126 (lit_nle (show (9 : Int32) = nI 9 by decide) (by omega) (by omega))) (fun c126 => ?_)
          refine g_lld1 hC dX6_digest_129 ?_
          refine g_ldc2 hC tw_5_14 dX6_digest_130 ?_
          refine g_lmul hC dX6_digest_133 ?_
          refine g_ald0 hC dX6_digest_134 ?_
          refine g_ild3 hC dX6_digest_135 ?_
          refine g_ild4 hC dX6_digest_136 ?_
          refine k_X6_stoneTold (s := s) (w := w) hC tw_4_177 dX6_digest_138 (by decide) ⟨by omega, by omega⟩ (Nat.le_of_ble_eq_true rfl) ⟨by omega, hM, by omega⟩ ?_
          refine g_i2l hC dX6_digest_141 ?_
          refine g_ladd hC dX6_digest_142 ?_
          refine g_lst1 hC dX6_digest_143 rfl ?_
          refine g_inc4 1 hC dX6_digest_144 (by decide) rfl ?_
          refine g_goto 122 hC dX6_digest_147 (by decide) ?_
          rw [← mFw_s, nI_1]
          exact ihw (w + 1) (by omega)
      refine g_ild3 hC dX6_digest_111 ?_
      refine g_ald0 hC dX6_digest_112 ?_
      refine mg_Model_stones hC tw_4_29 dX6_digest_113 ?_
      refine g_icmp_ge 209 hC dX6_digest_116 (by decide) (fun c116 => absurd c116 (by rw [hS1]; exact nI_ge (by omega) (by omega))) (fun c116 => ?_)
      refine g_iconst 0 hC dX6_digest_119 (by decide) ?_
      refine g_ist4 hC dX6_digest_120 rfl ?_
      have e9 := lpw 9 0 (by omega)
      rw [foldF_0] at e9
      exact e9
  have lpz : ∀ (m z : Nat), z + m = nL (mTh τ) → G wM X 0 0 38 [some (.ref (gA X 0)), some (.long (foldF (mFz (mTh τ)) z (mD1 (mTh τ)))), none, some (.int (nI z)), none, none] [] (mTh τ) := by
    intro m
    induction m with
    | zero =>
      intro z hz
      have hz : z = nL (mTh τ) := by omega
      rw [hz]
      refine g_ild3 hC dX6_digest_38 ?_
      refine g_ald0 hC dX6_digest_39 ?_
      refine mg_Model_layers hC tw_4_25 dX6_digest_40 ?_
      refine g_icmp_ge 109 hC dX6_digest_43 (by decide) (fun c43 => ?_) (fun c43 => absurd (by rw [hL1]; exact nI_le (by omega) (by omega)) c43)
      refine g_iconst 0 hC dX6_digest_109 (by decide) ?_
      refine g_ist3 hC dX6_digest_110 rfl ?_
      rw [show foldF (mFz (mTh τ)) (nL (mTh τ)) (mD1 (mTh τ)) = mD2 (mTh τ) from rfl]
      have e9 := lps (nS (mTh τ)) 0 (by omega)
      rw [foldF_0] at e9
      exact e9
    | succ m ihz =>
      intro z hz
      have lpy : ∀ (m y : Nat), y + m = nR (mTh τ) → G wM X 0 0 49 [some (.ref (gA X 0)), some (.long (foldF (mFy (mTh τ) z) y (foldF (mFz (mTh τ)) z (mD1 (mTh τ))))), none, some (.int (nI z)), some (.int (nI y)), none] [] (mTh τ) := by
        intro m
        induction m with
        | zero =>
          intro y hy
          have hy : y = nR (mTh τ) := by omega
          rw [hy]
          refine g_ild4 hC dX6_digest_49 ?_
          refine g_ald0 hC dX6_digest_51 ?_
          refine mg_Model_rows hC tw_4_24 dX6_digest_52 ?_
          refine g_icmp_ge 103 hC dX6_digest_55 (by decide) (fun c55 => ?_) (fun c55 => absurd (by rw [hR1]; exact nI_le (by omega) (by omega)) c55)
          refine g_inc3 1 hC dX6_digest_103 (by decide) rfl ?_
          refine g_goto 38 hC dX6_digest_106 (by decide) ?_
          refine g_keep [true, true, true, true, false, false] ?_
          rw [← mFz_s, nI_1]
          exact ihz (z + 1) (by omega)
        | succ m ihy =>
          intro y hy
          have lpx : ∀ (m x : Nat), x + m = nC (mTh τ) → G wM X 0 0 61 [some (.ref (gA X 0)), some (.long (foldF (mFx (mTh τ) y z) x (foldF (mFy (mTh τ) z) y (foldF (mFz (mTh τ)) z (mD1 (mTh τ)))))), none, some (.int (nI z)), some (.int (nI y)), some (.int (nI x))] [] (mTh τ) := by
            intro m
            induction m with
            | zero =>
              intro x hx
              have hx : x = nC (mTh τ) := by omega
              rw [hx]
              refine g_ild5 hC dX6_digest_61 ?_
              refine g_ald0 hC dX6_digest_63 ?_
              refine mg_Model_columns hC tw_4_23 dX6_digest_64 ?_
              refine g_icmp_ge 97 hC dX6_digest_67 (by decide) (fun c67 => ?_) (fun c67 => absurd (by rw [hC1]; exact nI_le (by omega) (by omega)) c67)
              refine g_inc4 1 hC dX6_digest_97 (by decide) rfl ?_
              refine g_goto 49 hC dX6_digest_100 (by decide) ?_
              refine g_keep [true, true, true, true, true, false] ?_
              rw [← mFy_s, nI_1]
              exact ihy (y + 1) (by omega)
            | succ m ihx =>
              intro x hx
              refine g_ild5 hC dX6_digest_61 ?_
              refine g_ald0 hC dX6_digest_63 ?_
              refine mg_Model_columns hC tw_4_23 dX6_digest_64 ?_
              refine g_icmp_ge 97 hC dX6_digest_67 (by decide) (fun c67 => absurd c67 (by rw [hC1]; exact nI_ge (by omega) (by omega))) (fun c67 => ?_)
              refine g_lld1 hC dX6_digest_70 ?_
              refine g_ldc2 hC tw_5_14 dX6_digest_71 ?_
              refine g_lmul hC dX6_digest_74 ?_
              refine g_ald0 hC dX6_digest_75 ?_
              refine mg_Model_cells hC tw_4_26 dX6_digest_76 ?_
              refine g_ild5 hC dX6_digest_79 ?_
              refine g_ild4 hC dX6_digest_81 ?_
              refine g_ild3 hC dX6_digest_83 ?_
              refine k_X6_at hC tw_4_82 dX6_digest_84 (by decide) ⟨by omega, by omega⟩ (Nat.le_of_ble_eq_true rfl) ?_
              refine ml_cells (x + 10 * (y + 10 * z)) hC (sAt_nI x y z) (by omega) dX6_digest_87 ?_
              refine g_i2l hC dX6_digest_88 ?_
              refine g_ladd hC dX6_digest_89 ?_
              refine g_lst1 hC dX6_digest_90 rfl ?_
              refine g_inc5 1 hC dX6_digest_91 (by decide) rfl ?_
              refine g_goto 61 hC dX6_digest_94 (by decide) ?_
              rw [← mFx_s, nI_1]
              exact ihx (x + 1) (by omega)
          refine g_ild4 hC dX6_digest_49 ?_
          refine g_ald0 hC dX6_digest_51 ?_
          refine mg_Model_rows hC tw_4_24 dX6_digest_52 ?_
          refine g_icmp_ge 103 hC dX6_digest_55 (by decide) (fun c55 => absurd c55 (by rw [hR1]; exact nI_ge (by omega) (by omega))) (fun c55 => ?_)
          refine g_iconst 0 hC dX6_digest_58 (by decide) ?_
          refine g_ist5 hC dX6_digest_59 rfl ?_
          have e9 := lpx (nC (mTh τ)) 0 (by omega)
          rw [foldF_0] at e9
          exact e9
      refine g_ild3 hC dX6_digest_38 ?_
      refine g_ald0 hC dX6_digest_39 ?_
      refine mg_Model_layers hC tw_4_25 dX6_digest_40 ?_
      refine g_icmp_ge 109 hC dX6_digest_43 (by decide) (fun c43 => absurd c43 (by rw [hL1]; exact nI_ge (by omega) (by omega))) (fun c43 => ?_)
      refine g_iconst 0 hC dX6_digest_46 (by decide) ?_
      refine g_ist4 hC dX6_digest_47 rfl ?_
      have e9 := lpy (nR (mTh τ)) 0 (by omega)
      rw [foldF_0] at e9
      exact e9
  have lpw : ∀ (m w : Nat), w + m = 8 → G wM X 0 0 11 [some (.ref (gA X 0)), some (.long (foldF (mF1 (mTh τ)) w 577)), none, some (.int (nI w)), none, none] [] (mTh τ) := by
    intro m
    induction m with
    | zero =>
      intro w hw
      have hw : w = 8 := by omega
      subst hw
      refine g_ild3 hC dX6_digest_11 ?_
      refine g_bipush 8 hC dX6_digest_12 (by decide) ?_
      refine g_icmp_ge 36 hC dX6_digest_14 (by decide) (fun c14 => ?_) (fun c14 => absurd (lit_le (show (8 : Int32) = nI 8 by decide) (by omega) (by omega)) c14)
      refine g_iconst 0 hC dX6_digest_36 (by decide) ?_
      refine g_ist3 hC dX6_digest_37 rfl ?_
      rw [show foldF (mF1 (mTh τ)) 8 577 = mD1 (mTh τ) from rfl]
      have e9 := lpz (nL (mTh τ)) 0 (by omega)
      rw [foldF_0] at e9
      exact e9
    | succ m ihw =>
      intro w hw
      refine g_ild3 hC dX6_digest_11 ?_
      refine g_bipush 8 hC dX6_digest_12 (by decide) ?_
      refine g_icmp_ge 36 hC dX6_digest_14 (by decide) (fun c14 => absurd c14 (lit_nle (show (8 : Int32) = nI 8 by decide) (by omega) (by omega))) (fun c14 => ?_)
      refine g_lld1 hC dX6_digest_17 ?_
      refine g_ldc2 hC tw_5_14 dX6_digest_18 ?_
      refine g_lmul hC dX6_digest_21 ?_
      refine g_ald0 hC dX6_digest_22 ?_
      refine g_ild3 hC dX6_digest_23 ?_
      refine k_X6_counted (w := w) hC tw_4_221 dX6_digest_24 (by decide) ⟨by omega, by omega⟩ (Nat.le_of_ble_eq_true rfl) ⟨hM, by omega⟩ ?_
      refine g_i2l hC dX6_digest_27 ?_
      refine g_ladd hC dX6_digest_28 ?_
      refine g_lst1 hC dX6_digest_29 rfl ?_
      refine g_inc3 1 hC dX6_digest_30 (by decide) rfl ?_
      refine g_goto 11 hC dX6_digest_33 (by decide) ?_
      rw [← mF1_s, nI_1]
      exact ihw (w + 1) (by omega)
  refine g_ald0 hC dX6_digest_0 ?_
  refine g_iconst 0 hC dX6_digest_1 (by decide) ?_
  refine mp_Model_thrown hC tw_4_22 dX6_digest_2 ?_
  refine g_ldc2 hC tw_5_13 dX6_digest_5 ?_
  refine g_lst1 hC dX6_digest_8 rfl ?_
  refine g_iconst 0 hC dX6_digest_9 (by decide) ?_
  refine g_ist3 hC dX6_digest_10 rfl ?_
  have e9 := lpw 8 0 (by omega)
  rw [foldF_0] at e9
  exact e9
theorem k_X6_digest {l : Launch} {X : gC} {cc : ByteArray} {own : String} {dd ca sa kc nc pc : Nat} {ls : List (Option Value)} {st : List Value} {σ : Mem} {idx : Nat}  (hC : gOk wM l X cc own dd ca sa) (hlk : Cond.methodLink own idx yX6_digest ∈ TB) (hd : decode cc pc = .ok (.invokevirtual idx, 3)) (hdd : 8 + 1 ≤ dd) (hf : kc + 0 ≤ ca ∧ nc + 0 ≤ sa) (hrest : (st.map fun v => v.category).sum ≤ 8)  (hP : MI σ) (kk : G wM X kc nc (pc + 3) ls (.long (mDig (mTh σ)) :: st) (mTh σ)) : G wM X kc nc pc ls (.ref (gA X 0) :: st) σ := by
  exact g_cVL 0 hC (c_X6_digest l) hlk ⟨tw_5_10, tw_5_11, tw_1_7, tw_5_12⟩ (by decide +kernel) ⟨hdd, by decide⟩ hf rfl rfl rfl (gW_at wM _ _ (by decide)) hrest rfl hd hP (fun rr σ1 hq => by obtain ⟨rfl, rfl⟩ := hq; exact kk)
