/-! the survey's steps -/
def hForget (σ : Mem) (s n : Nat) : Mem := fun id j => if id = iStone s ∧ (j = 3 ∨ j = 4) then 0 else if iPl s 0 ≤ id ∧ id < iPl s 0 + n ∧ j = 6 then 0 else σ id j
def hCount (σ : Mem) (s n : Nat) (x y z : Int32) (b : Bool) : Mem := fun id j => if id = iStone s ∧ j = 3 then σ id 3 + 1 else if id = iStone s ∧ j = 4 then σ id 4 + b2i b else if iPl s 0 ≤ id ∧ id < iPl s 0 + n ∧ j = 6 then σ id 6 + b2i (xTch σ id x y z) else σ id j
theorem pl_off (s k : Nat) : iPl s k = iPl s 0 + k := by unfold iPl; omega
theorem pl_in {s k n : Nat} : (iPl s 0 ≤ iPl s k ∧ iPl s k < iPl s 0 + n) ↔ k < n := by rw [pl_off s k]; omega
theorem forget_0 (σ : Mem) (s : Nat) : upd2 (upd2 σ (iStone s) 3 0) (iStone s) 4 0 = hForget σ s 0 := by
  funext id j
  unfold hForget upd2
  by_cases h1 : id = iStone s
  · subst h1
    by_cases h3 : j = 3
    · subst h3; simp
    · by_cases h4 : j = 4
      · subst h4; simp
      · simp [h3, h4]
        intro a b; omega
  · have : ¬ (iPl s 0 ≤ id ∧ id < iPl s 0 + 0 ∧ j = 6) := by omega
    rw [if_neg h1, if_neg h1, if_neg (fun q => h1 q.1), if_neg this]
theorem forget_s {σ : Mem} {s k : Nat} (hk : k < 16) : upd2 (hForget σ s k) (iPl s k) 6 0 = hForget σ s (k + 1) := by
  funext id j
  unfold upd2 hForget
  by_cases h : id = iPl s k
  · subst h
    have h1 := pl_ne_st s k s hk
    have h2 : iPl s 0 ≤ iPl s k ∧ iPl s k < iPl s 0 + (k + 1) := pl_in.mpr (by omega)
    have h3 : ¬ (iPl s k < iPl s 0 + k) := fun q => absurd ((pl_in (s := s) (k := k) (n := k)).mp ⟨h2.1, q⟩) (by omega)
    by_cases h6 : j = 6
    · subst h6; simp [h1, h2.1, h2.2]
    · simp [h1, h6]
  · have h2 : (iPl s 0 ≤ id ∧ id < iPl s 0 + (k + 1) ∧ j = 6) ↔ (iPl s 0 ≤ id ∧ id < iPl s 0 + k ∧ j = 6) := by
      rw [pl_off s k] at h
      omega
    simp only [h, if_false, h2]
theorem count_0 (σ : Mem) (s : Nat) (x y z : Int32) (b : Bool) : upd2 (upd2 σ (iStone s) 3 (σ (iStone s) 3 + 1)) (iStone s) 4 (upd2 σ (iStone s) 3 (σ (iStone s) 3 + 1) (iStone s) 4 + b2i b) = hCount σ s 0 x y z b := by
  funext id j
  unfold hCount upd2
  by_cases h1 : id = iStone s
  · subst h1
    by_cases h3 : j = 3
    · subst h3; simp
    · by_cases h4 : j = 4
      · subst h4; simp
      · simp [h3, h4]
        intro a b; omega
  · have : ¬ (iPl s 0 ≤ id ∧ id < iPl s 0 + 0 ∧ j = 6) := by omega
    rw [if_neg h1, if_neg h1, if_neg (fun q => h1 q.1), if_neg (fun q => h1 q.1), if_neg this]
theorem count_at {σ : Mem} {s k : Nat} {x y z : Int32} {b : Bool} (hk : k < 16) : hCount σ s k x y z b (iPl s k) = σ (iPl s k) := by
  funext j
  unfold hCount
  have h1 := pl_ne_st s k s hk
  have h3 : ¬ (iPl s 0 ≤ iPl s k ∧ iPl s k < iPl s 0 + k ∧ j = 6) := fun q => absurd ((pl_in (s := s) (k := k) (n := k)).mp ⟨q.1, q.2.1⟩) (by omega)
  simp only [h1, false_and, if_false, h3]
theorem count_tch {σ : Mem} {s k : Nat} {x y z : Int32} {b : Bool} (hk : k < 16) : xTch (hCount σ s k x y z b) (iPl s k) x y z = xTch σ (iPl s k) x y z := by
  unfold xTch xHgt
  rw [count_at hk]
theorem count_s1 {σ : Mem} {s k : Nat} {x y z : Int32} {b : Bool} (hk : k < 16) (ht : xTch σ (iPl s k) x y z = true) : upd2 (hCount σ s k x y z b) (iPl s k) 6 (hCount σ s k x y z b (iPl s k) 6 + 1) = hCount σ s (k + 1) x y z b := by
  rw [count_at hk]
  funext id j
  unfold upd2 hCount
  by_cases h : id = iPl s k
  · subst h
    have h1 := pl_ne_st s k s hk
    have h2 : iPl s 0 ≤ iPl s k ∧ iPl s k < iPl s 0 + (k + 1) := pl_in.mpr (by omega)
    have h3 : ¬ (iPl s k < iPl s 0 + k) := fun q => absurd ((pl_in (s := s) (k := k) (n := k)).mp ⟨h2.1, q⟩) (by omega)
    by_cases h6 : j = 6
    · subst h6; simp [h1, h2.1, h2.2, ht, b2i]
    · simp [h1, h6]
  · have h2 : (iPl s 0 ≤ id ∧ id < iPl s 0 + (k + 1) ∧ j = 6) ↔ (iPl s 0 ≤ id ∧ id < iPl s 0 + k ∧ j = 6) := by
      rw [pl_off s k] at h
      omega
    simp only [h, if_false, h2]
theorem count_s0 {σ : Mem} {s k : Nat} {x y z : Int32} {b : Bool} (hk : k < 16) (ht : xTch σ (iPl s k) x y z = false) : hCount σ s k x y z b = hCount σ s (k + 1) x y z b := by
  funext id j
  unfold hCount
  by_cases h : id = iPl s k
  · subst h
    have h1 := pl_ne_st s k s hk
    have h2 : iPl s 0 ≤ iPl s k ∧ iPl s k < iPl s 0 + (k + 1) := pl_in.mpr (by omega)
    have h3 : ¬ (iPl s k < iPl s 0 + k) := fun q => absurd ((pl_in (s := s) (k := k) (n := k)).mp ⟨h2.1, q⟩) (by omega)
    by_cases h6 : j = 6
    · subst h6; simp [h1, h2.1, h2.2, h3, ht, b2i]
    · simp [h1, h6]
  · have h2 : (iPl s 0 ≤ id ∧ id < iPl s 0 + (k + 1) ∧ j = 6) ↔ (iPl s 0 ≤ id ∧ id < iPl s 0 + k ∧ j = 6) := by
      rw [pl_off s k] at h
      omega
    simp only [h2]
/-! a flaw's survey -/
def fcl (σ : Mem) (f q : Nat) : Nat := (σ (iFlaw f + 1) q).toNatClampNeg
def hFz (σ : Mem) (f n : Nat) : Mem := fun id j => if (id = iFlaw f + 2 ∨ id = iFlaw f + 3) ∧ j < n then 0 else σ id j
def pF2 (σ : Mem) (f j q : Nat) : Bool := σ 2 (fcl σ f q) == nI j
def pF3 (σ : Mem) (f j q : Nat) : Bool := σ 2 (fcl σ f q) == nI j && !(σ 3 (fcl σ f q) == 0)
def hFs (σ : Mem) (f k : Nat) : Mem := fun id j => if id = iFlaw f + 2 ∧ j < 8 then nI (cnt (pF2 σ f j) k) else if id = iFlaw f + 3 ∧ j < 8 then nI (cnt (pF3 σ f j) k) else σ id j
theorem fz_0 (σ : Mem) (f : Nat) : hFz σ f 0 = σ := by funext id j; simp [hFz]
theorem fz_s (σ : Mem) (f n : Nat) : upd2 (upd2 (hFz σ f n) (iFlaw f + 2) n 0) (iFlaw f + 3) n 0 = hFz σ f (n + 1) := by
  funext id j
  unfold upd2 hFz
  by_cases h2 : id = iFlaw f + 2
  · subst h2
    by_cases hj : j = n
    · subst hj; simp
    · by_cases hlt : j < n
      · simp [hlt, hj, show j < n + 1 by omega]
      · simp [hlt, hj, show ¬ j < n + 1 by omega]
  · by_cases h3 : id = iFlaw f + 3
    · subst h3
      by_cases hj : j = n
      · subst hj; simp
      · by_cases hlt : j < n
        · simp [hlt, hj, show j < n + 1 by omega]
        · simp [hlt, hj, show ¬ j < n + 1 by omega]
    · simp [h2, h3]
theorem fz_fs (σ : Mem) (f : Nat) : hFz σ f 8 = hFs σ f 0 := by
  funext id j
  unfold hFz hFs
  by_cases h2 : id = iFlaw f + 2
  · subst h2
    by_cases hj : j < 8
    · simp [hj, cnt, nI_0]
    · simp [hj]
  · by_cases h3 : id = iFlaw f + 3
    · subst h3
      by_cases hj : j < 8
      · simp [hj, cnt, nI_0]
      · simp [hj]
    · simp [h2, h3]
theorem fs_low {σ : Mem} {f k id : Nat} (h : id ≠ iFlaw f + 2) (h3 : id ≠ iFlaw f + 3) : hFs σ f k id = σ id := by funext j; simp [hFs, h, h3]
theorem fs_skip {σ : Mem} {f k : Nat} (h : ∀ j, j < 8 → pF2 σ f j k = false) : hFs σ f k = hFs σ f (k + 1) := by
  funext id j
  unfold hFs
  by_cases h2 : id = iFlaw f + 2 ∧ j < 8
  · rw [if_pos h2, if_pos h2, cnt_f (h j h2.2)]
  · rw [if_neg h2, if_neg h2]
    by_cases h3 : id = iFlaw f + 3 ∧ j < 8
    · rw [if_pos h3, if_pos h3, cnt_f]
      have := h j h3.2
      unfold pF2 at this
      unfold pF3
      rw [this, Bool.false_and]
    · rw [if_neg h3, if_neg h3]
theorem fs_step {σ : Mem} {f k o : Nat} (ho : o < 8) (he : σ 2 (fcl σ f k) = nI o) {v : Int32} (hv : v = if σ 3 (fcl σ f k) = 0 then 0 else 1) :
    upd2 (upd2 (hFs σ f k) (iFlaw f + 2) o (hFs σ f k (iFlaw f + 2) o + 1)) (iFlaw f + 3) o (upd2 (hFs σ f k) (iFlaw f + 2) o (hFs σ f k (iFlaw f + 2) o + 1) (iFlaw f + 3) o + v) = hFs σ f (k + 1) := by
  subst hv
  have p2 : ∀ j, j < 8 → pF2 σ f j k = decide (j = o) := by
    intro j hj
    unfold pF2
    rw [he]
    by_cases e : j = o
    · subst e; simp
    · have : ¬ nI o = nI j := fun q => e (nI_inj (by omega) (by omega) q).symm
      simp [e, this]
  have p3 : ∀ j, j < 8 → pF3 σ f j k = (decide (j = o) && !(σ 3 (fcl σ f k) == 0)) := by
    intro j hj
    have := p2 j hj
    unfold pF2 at this
    unfold pF3
    rw [this]
  funext id j
  unfold upd2
  by_cases h2 : id = iFlaw f + 2
  · subst h2
    have h23 : ¬ iFlaw f + 2 = iFlaw f + 3 := by omega
    rw [if_neg h23, if_pos rfl]
    by_cases hj : j = o
    · subst hj
      rw [if_pos rfl]
      simp only [hFs, ho, and_self, if_true]
      rw [cnt_t (by rw [p2 j ho]; simp), nI_succ]
    · rw [if_neg hj]
      by_cases hj8 : j < 8
      · simp only [hFs, hj8, and_self, if_true]
        rw [cnt_f (by rw [p2 j hj8]; simp [hj])]
      · simp [hFs, hj8]
  · by_cases h3 : id = iFlaw f + 3
    · subst h3
      have h32 : ¬ iFlaw f + 3 = iFlaw f + 2 := by omega
      rw [if_pos rfl]
      by_cases hj : j = o
      · subst hj
        rw [if_pos rfl, if_neg h32]
        simp only [hFs, ho, and_self, if_true, h32, false_and, if_false]
        by_cases hb : σ 3 (fcl σ f k) = 0
        · rw [cnt_f (by rw [p3 j ho, hb]; simp), if_pos hb, Int32.add_zero]
        · rw [cnt_t (by rw [p3 j ho]; simp [hb]), if_neg hb, nI_succ]
      · rw [if_neg hj, if_neg h32]
        by_cases hj8 : j < 8
        · simp only [hFs, hj8, and_self, if_true, h32, false_and, if_false]
          rw [cnt_f (by rw [p3 j hj8]; simp [hj])]
        · simp [hFs, hj8]
    · simp [h2, h3, hFs]
/-! the survey's invariants -/
def live (τ : Mem) (i : Nat) : Prop := ∃ s, s < nS τ ∧ τ 1 (CI τ i) = nI s
def Iv (τ σ0 : Mem) (n : Nat) (σ : Mem) : Prop :=
  Fr σ0 σ ∧
  (∀ s, s < nS τ → σ (iStone s) 3 = nI (cnt (fun i => pWt τ (nI s) (CI τ i)) n) ∧ σ (iStone s) 4 = nI (cnt (fun i => pSf τ (nI s) (CI τ i)) n)) ∧
  (∀ s k, s < nS τ → k < nP τ s → σ (iPl s k) 6 = nI (cnt (fun i => pTouch τ s k (CI τ i)) n)) ∧
  (∀ i, i < n → live τ i → σ 3 i = b2i (sSurf τ (CI τ i)))
theorem Iv_dead {τ σ0 σ : Mem} {n : Nat} (h : Iv τ σ0 n σ) (hd : ¬ live τ n) : Iv τ σ0 (n + 1) σ := by
  obtain ⟨h1, h2, h3, h4⟩ := h
  have hw : ∀ s, s < nS τ → (τ 1 (CI τ n) == nI s) = false := fun s hs => by simpa using fun e => hd ⟨s, hs, e⟩
  refine ⟨h1, fun s hs => ?_, fun s k hs hk => ?_, fun i hi hl => ?_⟩
  · rw [cnt_f (by unfold pWt; exact hw s hs), cnt_f (by unfold pSf; rw [hw s hs, Bool.false_and])]
    exact h2 s hs
  · rw [cnt_f (by unfold pTouch; rw [hw s hs, Bool.false_and])]
    exact h3 s k hs hk
  · rcases Nat.lt_or_ge i n with q | q
    · exact h4 i q hl
    · obtain rfl : i = n := by omega
      exact absurd hl hd
theorem vp3 (j : Nat) : Vp 3 j := Or.inr (Or.inl rfl)
theorem vpS {s : Nat} (h : s < 8) {j : Nat} (hj : j = 3 ∨ j = 4) : Vp (iStone s) j := Or.inr (Or.inr (Or.inr (Or.inr (Or.inl ⟨xk_stone s h, hj⟩))))
theorem vpP {s k : Nat} (h : s < 8) (hk : k < 16) : Vp (iPl s k) 6 := Or.inr (Or.inr (Or.inr (Or.inr (Or.inr ⟨xk_pl s h k hk, rfl⟩))))
theorem vpF2 {f : Nat} (h : f < 10) (j : Nat) : Vp (iFlaw f + 2) j := Or.inr (Or.inr (Or.inl (xk_flaw2 f h)))
theorem vpF3 {f : Nat} (h : f < 10) (j : Nat) : Vp (iFlaw f + 3) j := Or.inr (Or.inr (Or.inr (Or.inl (xk_flaw3 f h))))
theorem Fr_forget {σ0 σ : Mem} (h : Fr σ0 σ) {s n : Nat} (hs : s < 8) (hn : n ≤ 16) : Fr σ0 (hForget σ s n) := fun id j hv => by
  unfold hForget
  by_cases h1 : id = iStone s ∧ (j = 3 ∨ j = 4)
  · exact absurd (by rw [h1.1]; exact vpS hs h1.2) hv
  · rw [if_neg h1]
    by_cases h2 : iPl s 0 ≤ id ∧ id < iPl s 0 + n ∧ j = 6
    · obtain ⟨k, rfl⟩ : ∃ k, id = iPl s k := ⟨id - iPl s 0, by rw [pl_off s (id - iPl s 0)]; omega⟩
      have hk : k < n := pl_in.mp ⟨h2.1, h2.2.1⟩
      exact absurd (by rw [h2.2.2]; exact vpP hs (by omega)) hv
    · rw [if_neg h2]; exact h id j hv
theorem Fr_count {σ0 σ : Mem} (h : Fr σ0 σ) {s n : Nat} (hs : s < 8) (hn : n ≤ 16) (x y z : Int32) (b : Bool) : Fr σ0 (hCount σ s n x y z b) := fun id j hv => by
  unfold hCount
  by_cases h1 : id = iStone s ∧ j = 3
  · exact absurd (by rw [h1.1, h1.2]; exact vpS hs (Or.inl rfl)) hv
  · rw [if_neg h1]
    by_cases h3 : id = iStone s ∧ j = 4
    · exact absurd (by rw [h3.1, h3.2]; exact vpS hs (Or.inr rfl)) hv
    · rw [if_neg h3]
      by_cases h2 : iPl s 0 ≤ id ∧ id < iPl s 0 + n ∧ j = 6
      · obtain ⟨k, rfl⟩ : ∃ k, id = iPl s k := ⟨id - iPl s 0, by rw [pl_off s (id - iPl s 0)]; omega⟩
        have hk : k < n := pl_in.mp ⟨h2.1, h2.2.1⟩
        exact absurd (by rw [h2.2.2]; exact vpP hs (by omega)) hv
      · rw [if_neg h2]; exact h id j hv
theorem count_stone {σ : Mem} {s n s2 : Nat} {x y z : Int32} {b : Bool} (hn : n ≤ 16) : hCount σ s n x y z b (iStone s2) 3 = σ (iStone s2) 3 + (if s2 = s then 1 else 0) ∧ hCount σ s n x y z b (iStone s2) 4 = σ (iStone s2) 4 + (if s2 = s then b2i b else 0) := by
  have hp : ∀ j, ¬ (iPl s 0 ≤ iStone s2 ∧ iStone s2 < iPl s 0 + n ∧ j = 6) := fun j q => by unfold iPl iStone at q; omega
  unfold hCount
  by_cases e : s2 = s
  · subst e; simp
  · have : ¬ iStone s2 = iStone s := fun q => e (st_inj.mp q)
    have hp3 := hp 3
    have hp4 := hp 4
    simp [this, e]
theorem count_pl {σ : Mem} {s n s2 k : Nat} {x y z : Int32} {b : Bool} (hn : n ≤ 16) (hk : k < 16) : hCount σ s n x y z b (iPl s2 k) 6 = σ (iPl s2 k) 6 + (if s2 = s ∧ k < n then b2i (xTch σ (iPl s k) x y z) else 0) := by
  unfold hCount
  have h1 := pl_ne_st s2 k s hk
  by_cases e : s2 = s
  · subst e
    by_cases hkn : k < n
    · have := (pl_in (s := s2) (k := k) (n := n)).mpr hkn
      simp [h1, this.1, this.2, hkn]
    · have : ¬ (iPl s2 0 ≤ iPl s2 k ∧ iPl s2 k < iPl s2 0 + n) := fun q => hkn (pl_in.mp q)
      rw [if_neg (fun q => h1 q.1), if_neg (fun q => h1 q.1), if_neg (fun q => this ⟨q.1, q.2.1⟩), if_neg (fun q => hkn q.2), Int32.add_zero]
  · rw [if_neg (fun q => h1 q.1), if_neg (fun q => h1 q.1), if_neg (fun q => e (by unfold iPl at q; omega)), if_neg (fun q => e q.1), Int32.add_zero]
theorem Iv_step {τ σ0 σ : Mem} {n s : Nat} (hM : MI τ) (h6 : M16 τ) (hb : Rb σ0 τ) (hn : n < NN τ) (h : Iv τ σ0 n σ) (hs : s < nS τ) (he : τ 1 (CI τ n) = nI s) :
    Iv τ σ0 (n + 1) (hCount (upd2 σ 3 n (b2i (sSurf τ (CI τ n)))) s (nP τ s) (nI (n % nC τ)) (nI (n / nC τ % nR τ)) (nI (n / nC τ / nR τ)) (sSurf τ (CI τ n))) := by
  have hS := (MI_S hM).2.2
  have hp := h6 s (by omega)
  obtain ⟨h1, h2, h3, h4⟩ := h
  have hf : Fr σ0 (upd2 σ 3 n (b2i (sSurf τ (CI τ n)))) := Fr_upd h1 (vp3 n) _
  have hRb : Rb (upd2 σ 3 n (b2i (sSurf τ (CI τ n)))) τ := Rb_fr hM h6 hb hf
  have hw : ∀ s2, s2 < nS τ → (τ 1 (CI τ n) == nI s2) = decide (s2 = s) := by
    intro s2 hs2
    rw [he]
    by_cases e : s2 = s
    · subst e; simp
    · have : ¬ nI s = nI s2 := fun q => e (nI_inj (by omega) (by omega) q).symm
      simp [e, this]
  refine ⟨Fr_count hf (by omega) hp _ _ _ _, fun s2 hs2 => ?_, fun s2 k hs2 hk => ?_, fun i hi hl => ?_⟩
  · obtain ⟨e1, e2⟩ := count_stone (σ := upd2 σ 3 n (b2i (sSurf τ (CI τ n)))) (s := s) (n := nP τ s) (s2 := s2) (x := nI (n % nC τ)) (y := nI (n / nC τ % nR τ)) (z := nI (n / nC τ / nR τ)) (b := sSurf τ (CI τ n)) hp
    have e3 : upd2 σ 3 n (b2i (sSurf τ (CI τ n))) (iStone s2) = σ (iStone s2) := upd2_ni (by unfold iStone; omega)
    rw [e1, e2, e3, (h2 s2 hs2).1, (h2 s2 hs2).2]
    by_cases e : s2 = s
    · subst e
      rw [if_pos rfl, if_pos rfl, cnt_t (by unfold pWt; rw [hw s2 hs2]; simp), nI_succ]
      refine ⟨rfl, ?_⟩
      by_cases hsf : sSurf τ (CI τ n) = true
      · rw [cnt_t (by unfold pSf; rw [hw s2 hs2, hsf]; simp), nI_succ, hsf]; rfl
      · have hsf2 : sSurf τ (CI τ n) = false := by simpa using hsf
        rw [cnt_f (by unfold pSf; rw [hsf2, Bool.and_false]), hsf2]
        exact Int32.add_zero _
    · rw [if_neg e, if_neg e, cnt_f (by unfold pWt; rw [hw s2 hs2]; simp [e]), cnt_f (by unfold pSf; rw [hw s2 hs2]; simp [e])]
      exact ⟨Int32.add_zero _, Int32.add_zero _⟩
  · have hk16 := h6 s2 (by omega)
    rw [count_pl hp (by omega)]
    have e3 : upd2 σ 3 n (b2i (sSurf τ (CI τ n))) (iPl s2 k) = σ (iPl s2 k) := upd2_ni (by unfold iPl; omega)
    rw [e3, h3 s2 k hs2 hk]
    by_cases e : s2 = s
    · subst e
      rw [if_pos ⟨rfl, hk⟩, tch_touch hM hRb hn hs hk]
      by_cases ht : pTouch τ s2 k (CI τ n) = true
      · rw [cnt_t (P := fun i => pTouch τ s2 k (CI τ i)) ht, nI_succ]
        unfold pTouch at ht
        rw [hw s2 hs2] at ht
        simp only [decide_true, Bool.true_and] at ht
        rw [ht]; rfl
      · have ht2 : pTouch τ s2 k (CI τ n) = false := by simpa using ht
        rw [cnt_f (P := fun i => pTouch τ s2 k (CI τ i)) ht2]
        unfold pTouch at ht2
        rw [hw s2 hs2] at ht2
        simp only [decide_true, Bool.true_and] at ht2
        rw [ht2]
        exact Int32.add_zero _
    · rw [if_neg (fun q => e q.1), cnt_f (by unfold pTouch; rw [hw s2 hs2]; simp [e])]
      exact Int32.add_zero _
  · have e3 : ∀ i, hCount (upd2 σ 3 n (b2i (sSurf τ (CI τ n)))) s (nP τ s) (nI (n % nC τ)) (nI (n / nC τ % nR τ)) (nI (n / nC τ / nR τ)) (sSurf τ (CI τ n)) 3 i = upd2 σ 3 n (b2i (sSurf τ (CI τ n))) 3 i := by
      intro i
      unfold hCount
      rw [if_neg (fun q => by have := q.1; unfold iStone at this; omega), if_neg (fun q => by have := q.1; unfold iStone at this; omega), if_neg (fun q => by have := q.1; unfold iPl at this; omega)]
    rw [e3]
    rcases Nat.lt_or_ge i n with q | q
    · rw [upd2_nj (by omega)]; exact h4 i q hl
    · obtain rfl : i = n := by omega
      exact upd2_at _ _ _ _

set_option maxRecDepth 100000 in
set_option maxHeartbeats 4000000 in
/-- X3_forgetCells -/
theorem c_X3_forgetCells (l : Launch) (s n : Nat) (hs : s < 8) : gMV wX l yX3_forgetCells (.code yX3_forgetCells cX3_forgetCells 2 none) 0 0 0 (fun A => [.ref (A (iStone s))]) (fun τ => n ≤ 16 ∧ τ (iStone s) 2 = nI n) (fun τ τ1 => τ1 = hForget τ s n) := by
  refine gMV_of (by decide) (fun A => Nat.le_of_ble_eq_true rfl) ?_
  intro X τ hC hP hE
  have hC : gOk wX l X cX3_forgetCells "GemCut$Stone" 0 0 0 := hC
  show G wX X 0 0 0 [some (.ref (gA X (iStone s))), none] [] τ
  obtain ⟨hn, hm⟩ := hP
  have lp : ∀ (m k : Nat), k + m = n → G wX X 0 0 12 [some (.ref (gA X (iStone s))), some (.int (nI k))] [] (hForget τ s k) := by
    intro m
    induction m with
    | zero =>
      intro k hk 
      have hk : k = n := by omega
      have hpc : hForget τ s k (iStone s) 2 = nI n := by simp [hForget, hm]
      rw [hk] at hpc ⊢
      refine g_ild1 hC dX3_forgetCells_12 ?_
      refine g_ald0 hC dX3_forgetCells_13 ?_
      refine xg_Stone_planeCount hC (by first | assumption | omega | exact xk_pl _ (by assumption) _ (by omega) | decide) tw_1_145 dX3_forgetCells_14 ?_
      refine g_icmp_ge 36 hC dX3_forgetCells_17 (by decide) (fun c17 => ?_) (fun c17 => absurd (by rw [hpc]; exact nI_le (by omega) (by omega)) c17)
      exact hE _ _ _ _ _ dX3_forgetCells_36 (Nat.le_refl _) (Nat.le_refl _) rfl
    | succ m ih =>
      intro k hk
      have hpc : hForget τ s k (iStone s) 2 = nI n := by simp [hForget, hm]
      refine g_ild1 hC dX3_forgetCells_12 ?_
      refine g_ald0 hC dX3_forgetCells_13 ?_
      refine xg_Stone_planeCount hC (by first | assumption | omega | exact xk_pl _ (by assumption) _ (by omega) | decide) tw_1_145 dX3_forgetCells_14 ?_
      refine g_icmp_ge 36 hC dX3_forgetCells_17 (by decide) (fun c17 => absurd c17 (by rw [hpc]; exact nI_ge (by omega) (by omega))) (fun c17 => ?_)
      refine g_ald0 hC dX3_forgetCells_20 ?_
      refine xg_Stone_planes hC (by first | assumption | omega | exact xk_pl _ (by assumption) _ (by omega) | decide) tw_1_142 dX3_forgetCells_21 ?_
      refine g_ild1 hC dX3_forgetCells_24 ?_
      refine xl_Pls k hC (by first | assumption | omega | exact xk_pl _ (by assumption) _ (by omega) | decide) rfl (by omega) dX3_forgetCells_25 ?_
      refine g_iconst 0 hC dX3_forgetCells_26 (by decide) ?_
      refine xp_Plane_touching hC (xk_pl s hs k (by omega)) tw_1_122 dX3_forgetCells_27 ?_
      rw [forget_s (by omega)]
      refine g_inc1 1 hC dX3_forgetCells_30 (by decide) rfl ?_
      refine g_goto 12 hC dX3_forgetCells_33 (by decide) ?_
      rw [nI_1]
      exact ih (k + 1) (by omega)
  refine g_ald0 hC dX3_forgetCells_0 ?_
  refine g_iconst 0 hC dX3_forgetCells_1 (by decide) ?_
  refine xp_Stone_weight hC (by first | assumption | omega | exact xk_pl _ (by assumption) _ (by omega) | decide) tw_1_148 dX3_forgetCells_2 ?_
  refine g_ald0 hC dX3_forgetCells_5 ?_
  refine g_iconst 0 hC dX3_forgetCells_6 (by decide) ?_
  refine xp_Stone_bareCells hC (by first | assumption | omega | exact xk_pl _ (by assumption) _ (by omega) | decide) tw_1_151 dX3_forgetCells_7 ?_
  refine g_iconst 0 hC dX3_forgetCells_10 (by decide) ?_
  refine g_ist1 hC dX3_forgetCells_11 rfl ?_
  rw [forget_0]
  exact lp n 0 (by omega)
theorem k_X3_forgetCells {l : Launch} {X : gC} {cc : ByteArray} {own : String} {dd ca sa kc nc pc : Nat} {ls : List (Option Value)} {st : List Value} {σ : Mem} {idx : Nat} {s n : Nat} (hC : gOk wX l X cc own dd ca sa) (hlk : Cond.methodLink own idx yX3_forgetCells ∈ TB) (hd : decode cc pc = .ok (.invokevirtual idx, 3)) (hdd : 0 + 1 ≤ dd) (hfr : kc + 0 ≤ ca ∧ nc + 0 ≤ sa) (hrest : (st.map fun v => v.category).sum ≤ 8) (hs : s < 8) (hP : n ≤ 16 ∧ σ (iStone s) 2 = nI n) (kk : G wX X kc nc (pc + 3) ls st (hForget σ s n)) : G wX X kc nc pc ls (.ref (gA X (iStone s)) :: st) σ := by
  exact g_cVV 0 hC (c_X3_forgetCells l s n hs) hlk ⟨tw_1_212, tw_1_213, tw_1_4, tw_1_214⟩ (by decide +kernel) ⟨hdd, by decide⟩ hfr rfl rfl rfl (rv_Stone _ _ hs) hrest rfl hd hP (fun σ1 hq => by subst hq; exact kk)
set_option maxRecDepth 100000 in
set_option maxHeartbeats 4000000 in
/-- X3_countCell -/
theorem c_X3_countCell (l : Launch) (s n : Nat) (x y z : Int32) (b : Bool) (hs : s < 8) : gMV wX l yX3_countCell (.code yX3_countCell cX3_countCell 6 none) 2 0 0 (fun A => [.ref (A (iStone s)), .int x, .int y, .int z, .int (b2i b)]) (fun τ => n ≤ 16 ∧ τ (iStone s) 2 = nI n) (fun τ τ1 => τ1 = hCount τ s n x y z b) := by
  refine gMV_of (by decide) (fun A => Nat.le_of_ble_eq_true rfl) ?_
  intro X τ hC hP hE
  have hC : gOk wX l X cX3_countCell "GemCut$Stone" 2 0 0 := hC
  show G wX X 0 0 0 [some (.ref (gA X (iStone s))), some (.int x), some (.int y), some (.int z), some (.int (b2i b)), none] [] τ
  obtain ⟨hn, hm⟩ := hP
  have lp : ∀ (m k : Nat), k + m = n → G wX X 0 0 32 [some (.ref (gA X (iStone s))), some (.int x), some (.int y), some (.int z), some (.int (b2i b)), some (.int (nI k))] [] (hCount τ s k x y z b) := by
    intro m
    induction m with
    | zero =>
      intro k hk 
      have hk : k = n := by omega
      have hpc : hCount τ s k x y z b (iStone s) 2 = nI n := by
        have h9 : ¬ (iPl s 0 ≤ iStone s ∧ iStone s < iPl s 0 + k ∧ (2 : Nat) = 6) := by omega
        simp [hCount, hm]
      rw [hk] at hpc ⊢
      refine g_ild5 hC dX3_countCell_32 ?_
      refine g_ald0 hC dX3_countCell_34 ?_
      refine xg_Stone_planeCount hC (by first | assumption | omega | exact xk_pl _ (by assumption) _ (by omega) | decide) tw_1_145 dX3_countCell_35 ?_
      refine g_icmp_ge 79 hC dX3_countCell_38 (by decide) (fun c38 => ?_) (fun c38 => absurd (by rw [hpc]; exact nI_le (by omega) (by omega)) c38)
      exact hE _ _ _ _ _ dX3_countCell_79 (Nat.le_refl _) (Nat.le_refl _) rfl
    | succ m ih =>
      intro k hk
      have hpc : hCount τ s k x y z b (iStone s) 2 = nI n := by
        have h9 : ¬ (iPl s 0 ≤ iStone s ∧ iStone s < iPl s 0 + k ∧ (2 : Nat) = 6) := by omega
        simp [hCount, hm]
      refine g_ild5 hC dX3_countCell_32 ?_
      refine g_ald0 hC dX3_countCell_34 ?_
      refine xg_Stone_planeCount hC (by first | assumption | omega | exact xk_pl _ (by assumption) _ (by omega) | decide) tw_1_145 dX3_countCell_35 ?_
      refine g_icmp_ge 79 hC dX3_countCell_38 (by decide) (fun c38 => absurd c38 (by rw [hpc]; exact nI_ge (by omega) (by omega))) (fun c38 => ?_)
      refine g_ald0 hC dX3_countCell_41 ?_
      refine xg_Stone_planes hC (by first | assumption | omega | exact xk_pl _ (by assumption) _ (by omega) | decide) tw_1_142 dX3_countCell_42 ?_
      refine g_ild5 hC dX3_countCell_45 ?_
      refine xl_Pls k hC (by first | assumption | omega | exact xk_pl _ (by assumption) _ (by omega) | decide) rfl (by omega) dX3_countCell_47 ?_
      refine g_ild1 hC dX3_countCell_48 ?_
      refine g_ild2 hC dX3_countCell_49 ?_
      refine g_ild3 hC dX3_countCell_50 ?_
      refine k_X1_touches hC tw_1_239 dX3_countCell_51 (by decide) ⟨by omega, by omega⟩ (Nat.le_of_ble_eq_true rfl) (xk_pl s hs k (by omega)) ?_
      refine g_if_eq 73 hC dX3_countCell_54 (by decide) (fun c54 => ?_) (fun c54 => ?_)
      · refine g_inc5 1 hC dX3_countCell_73 (by decide) rfl ?_
        refine g_goto 32 hC dX3_countCell_76 (by decide) ?_
        (try simp only [ne_eq, b2i_eq0, Bool.not_eq_false, Int32.not_le, Int32.not_lt, Int32.zero_sub] at c38 c54)
        first
        | (rw [count_s1 (by omega) (by rw [← count_tch (b := b) (by omega)]; exact c54), nI_1]; exact ih (k + 1) (by omega))
        | (rw [count_s0 (by omega) (by rw [← count_tch (b := b) (by omega)]; exact c54), nI_1]; exact ih (k + 1) (by omega))
      · refine g_ald0 hC dX3_countCell_57 ?_
        refine xg_Stone_planes hC (by first | assumption | omega | exact xk_pl _ (by assumption) _ (by omega) | decide) tw_1_142 dX3_countCell_58 ?_
        refine g_ild5 hC dX3_countCell_61 ?_
        refine xl_Pls k hC (by first | assumption | omega | exact xk_pl _ (by assumption) _ (by omega) | decide) rfl (by omega) dX3_countCell_63 ?_
        refine g_dup hC dX3_countCell_64 rfl ?_
        refine xg_Plane_touching hC (xk_pl s hs k (by omega)) tw_1_122 dX3_countCell_65 ?_
        refine g_iconst 1 hC dX3_countCell_68 (by decide) ?_
        refine g_iadd hC dX3_countCell_69 ?_
        refine xp_Plane_touching hC (xk_pl s hs k (by omega)) tw_1_122 dX3_countCell_70 ?_
        refine g_inc5 1 hC dX3_countCell_73 (by decide) rfl ?_
        refine g_goto 32 hC dX3_countCell_76 (by decide) ?_
        (try simp only [ne_eq, b2i_eq0, Bool.not_eq_false, Int32.not_le, Int32.not_lt, Int32.zero_sub] at c38 c54)
        first
        | (rw [count_s1 (by omega) (by rw [← count_tch (b := b) (by omega)]; exact c54), nI_1]; exact ih (k + 1) (by omega))
        | (rw [count_s0 (by omega) (by rw [← count_tch (b := b) (by omega)]; exact c54), nI_1]; exact ih (k + 1) (by omega))
  refine g_ald0 hC dX3_countCell_0 ?_
  refine g_dup hC dX3_countCell_1 rfl ?_
  refine xg_Stone_weight hC (by first | assumption | omega | exact xk_pl _ (by assumption) _ (by omega) | decide) tw_1_148 dX3_countCell_2 ?_
  refine g_iconst 1 hC dX3_countCell_5 (by decide) ?_
  refine g_iadd hC dX3_countCell_6 ?_
  refine xp_Stone_weight hC (by first | assumption | omega | exact xk_pl _ (by assumption) _ (by omega) | decide) tw_1_148 dX3_countCell_7 ?_
  refine g_ald0 hC dX3_countCell_10 ?_
  refine g_dup hC dX3_countCell_11 rfl ?_
  refine xg_Stone_bareCells hC (by first | assumption | omega | exact xk_pl _ (by assumption) _ (by omega) | decide) tw_1_151 dX3_countCell_12 ?_
  refine g_ild4 hC dX3_countCell_15 ?_
  refine g_if_eq 24 hC dX3_countCell_17 (by decide) (fun c17 => ?_) (fun c17 => ?_)
  · refine g_iconst 0 hC dX3_countCell_24 (by decide) ?_
    refine g_iadd hC dX3_countCell_25 ?_
    refine xp_Stone_bareCells hC (by first | assumption | omega | exact xk_pl _ (by assumption) _ (by omega) | decide) tw_1_151 dX3_countCell_26 ?_
    refine g_iconst 0 hC dX3_countCell_29 (by decide) ?_
    refine g_ist5 hC dX3_countCell_30 rfl ?_
    have h0 := lp n 0 (by omega)
    rw [← count_0] at h0
    cases b with
    | true => first | exact h0 | exact absurd c17 (by decide)
    | false => first | exact h0 | exact absurd rfl c17
  · refine g_iconst 1 hC dX3_countCell_20 (by decide) ?_
    refine g_goto 25 hC dX3_countCell_21 (by decide) ?_
    refine g_iadd hC dX3_countCell_25 ?_
    refine xp_Stone_bareCells hC (by first | assumption | omega | exact xk_pl _ (by assumption) _ (by omega) | decide) tw_1_151 dX3_countCell_26 ?_
    refine g_iconst 0 hC dX3_countCell_29 (by decide) ?_
    refine g_ist5 hC dX3_countCell_30 rfl ?_
    have h0 := lp n 0 (by omega)
    rw [← count_0] at h0
    cases b with
    | true => first | exact h0 | exact absurd c17 (by decide)
    | false => first | exact h0 | exact absurd rfl c17
theorem k_X3_countCell {l : Launch} {X : gC} {cc : ByteArray} {own : String} {dd ca sa kc nc pc : Nat} {ls : List (Option Value)} {st : List Value} {σ : Mem} {idx : Nat} {s n : Nat} {x y z : Int32} {b : Bool} (hC : gOk wX l X cc own dd ca sa) (hlk : Cond.methodLink own idx yX3_countCell ∈ TB) (hd : decode cc pc = .ok (.invokevirtual idx, 3)) (hdd : 2 + 1 ≤ dd) (hfr : kc + 0 ≤ ca ∧ nc + 0 ≤ sa) (hrest : (st.map fun v => v.category).sum ≤ 8) (hs : s < 8) (hP : n ≤ 16 ∧ σ (iStone s) 2 = nI n) (kk : G wX X kc nc (pc + 3) ls st (hCount σ s n x y z b)) : G wX X kc nc pc ls (.int (b2i b) :: .int z :: .int y :: .int x :: .ref (gA X (iStone s)) :: st) σ := by
  exact g_cVV 4 hC (c_X3_countCell l s n x y z b hs) hlk ⟨tw_1_236, tw_1_237, tw_1_4, tw_1_238⟩ (by decide +kernel) ⟨hdd, by decide⟩ hfr rfl rfl rfl (rv_Stone _ _ hs) hrest rfl hd hP (fun σ1 hq => by subst hq; exact kk)
set_option maxRecDepth 100000 in
set_option maxHeartbeats 4000000 in
/-- X0_survey -/
theorem c_X0_survey (l : Launch) (f m : Nat) (hf : f < 10) : gMV wX l yX0_survey (.code yX0_survey cX0_survey 5 none) 0 0 0 (fun A => [.ref (A (iFlaw f)), .ref (A 1)]) (fun τ => m ≤ 63 ∧ τ (iFlaw f) 2 = nI m ∧ ∀ q, q < m → ∃ c, c < 1000 ∧ τ (iFlaw f + 1) q = nI c) (fun τ τ1 => τ1 = hFs τ f m) := by
  refine gMV_of (by decide) (fun A => Nat.le_of_ble_eq_true rfl) ?_
  intro X τ hC hP hE
  have hC : gOk wX l X cX0_survey "GemCut$Flaw" 0 0 0 := hC
  show G wX X 0 0 0 [some (.ref (gA X (iFlaw f))), some (.ref (gA X 1)), none, none, none] [] τ
  obtain ⟨hm0, hm1, hcl⟩ := hP
  have lq : ∀ (m9 k : Nat), k + m9 = m → G wX X 0 0 30 [some (.ref (gA X (iFlaw f))), some (.ref (gA X 1)), some (.int (nI k)), none, none] [] (hFs τ f k) := by
    intro m9
    induction m9 with
    | zero =>
      intro k hk
      have hk : k = m := by omega
      have hpc : hFs τ f k (iFlaw f) 2 = nI m := by rw [fs_low (by omega) (by omega)]; exact hm1
      rw [hk] at hpc ⊢
      refine g_ild2 hC dX0_survey_30 ?_
      refine g_ald0 hC dX0_survey_31 ?_
      refine xg_Flaw_cellCount hC (by first | assumption | omega | exact xk_pl _ (by assumption) _ (by omega) | decide) tw_1_40 dX0_survey_32 ?_
      refine g_icmp_ge 106 hC dX0_survey_35 (by decide) (fun c35 => ?_) (fun c35 => absurd (by rw [hpc]; exact nI_le (by omega) (by omega)) c35)
      exact hE _ _ _ _ _ dX0_survey_106 (Nat.le_refl _) (Nat.le_refl _) rfl
    | succ m9 ih =>
      intro k hk
      have hpc : hFs τ f k (iFlaw f) 2 = nI m := by rw [fs_low (by omega) (by omega)]; exact hm1
      obtain ⟨c, hc1, hc2⟩ := hcl k (by omega)
      have hcf : fcl τ f k = c := by unfold fcl; rw [hc2]; exact nI_clamp (by omega)
      have h21 : hFs τ f k (iFlaw f + 1) = τ (iFlaw f + 1) := fs_low (by omega) (by omega)
      have h22 : hFs τ f k 2 = τ 2 := fs_low (by unfold iFlaw; omega) (by unfold iFlaw; omega)
      have h23 : hFs τ f k 3 = τ 3 := fs_low (by unfold iFlaw; omega) (by unfold iFlaw; omega)
      refine g_ild2 hC dX0_survey_30 ?_
      refine g_ald0 hC dX0_survey_31 ?_
      refine xg_Flaw_cellCount hC (by first | assumption | omega | exact xk_pl _ (by assumption) _ (by omega) | decide) tw_1_40 dX0_survey_32 ?_
      refine g_icmp_ge 106 hC dX0_survey_35 (by decide) (fun c35 => absurd c35 (by rw [hpc]; exact nI_ge (by omega) (by omega))) (fun c35 => ?_)
      refine g_ald0 hC dX0_survey_38 ?_
      refine xg_Flaw_cells hC (by first | assumption | omega | exact xk_pl _ (by assumption) _ (by omega) | decide) tw_1_38 dX0_survey_39 ?_
      refine g_ild2 hC dX0_survey_42 ?_
      refine xl_FC k hC (by first | assumption | omega | exact xk_pl _ (by assumption) _ (by omega) | decide) rfl (by omega) dX0_survey_43 ?_
      rw [h21]
      refine g_ist3 hC dX0_survey_44 rfl ?_
      refine g_ald1 hC dX0_survey_45 ?_
      refine xg_Rough_owner hC tw_1_70 dX0_survey_46 ?_
      refine g_ild3 hC dX0_survey_49 ?_
      refine xl_owner c hC hc2 hc1 dX0_survey_50 ?_
      rw [h22]
      refine g_ist4 hC dX0_survey_51 rfl ?_
      refine g_ild4 hC dX0_survey_53 ?_
      refine g_if_lt 100 hC dX0_survey_55 (by decide) (fun c55 => ?_) (fun c55 => ?_)
      · refine g_inc2 1 hC dX0_survey_100 (by decide) rfl ?_
        refine g_goto 30 hC dX0_survey_103 (by decide) ?_
        refine g_keep [true, true, true, false, false] ?_
        rw [nI_1]
        have e9 : hFs τ f k = hFs τ f (k + 1) := fs_skip (fun j hj => by
          unfold pF2
          rw [hcf]
          have : ¬ τ 2 c = nI j := fun q => (nI_pos (show j < 2 ^ 31 by omega)) (by rw [← q]; exact c55)
          simpa using this)
        rw [e9]
        exact ih (k + 1) (by omega)
      · refine g_ild4 hC dX0_survey_58 ?_
        refine g_bipush 8 hC dX0_survey_60 (by decide) ?_
        refine g_icmp_ge 100 hC dX0_survey_62 (by decide) (fun c62 => ?_) (fun c62 => ?_)
        · refine g_inc2 1 hC dX0_survey_100 (by decide) rfl ?_
          refine g_goto 30 hC dX0_survey_103 (by decide) ?_
          refine g_keep [true, true, true, false, false] ?_
          rw [nI_1]
          have e9 : hFs τ f k = hFs τ f (k + 1) := fs_skip (fun j hj => by
            unfold pF2
            rw [hcf]
            have : ¬ τ 2 c = nI j := fun q => absurd c62 (by rw [q]; exact lit_nle (show (8 : Int32) = nI 8 by decide) hj (by decide))
            simpa using this)
          rw [e9]
          exact ih (k + 1) (by omega)
        · obtain ⟨o, ho3, ho2⟩ := nI_of c55
          have ho : o < 8 := by
            rcases Nat.lt_or_ge o 8 with q | q
            · exact q
            · exact absurd (by rw [ho2]; exact lit_le (show (8 : Int32) = nI 8 by decide) q ho3) c62
          refine g_ald0 hC dX0_survey_65 ?_
          refine xg_Flaw_cellsIn hC (by first | assumption | omega | exact xk_pl _ (by assumption) _ (by omega) | decide) tw_1_42 dX0_survey_66 ?_
          refine g_ild4 hC dX0_survey_69 ?_
          refine g_dup2 hC dX0_survey_71 rfl rfl ?_
          refine xl_FI o hC (by first | assumption | omega | exact xk_pl _ (by assumption) _ (by omega) | decide) ho2 ho dX0_survey_72 ?_
          refine g_iconst 1 hC dX0_survey_73 (by decide) ?_
          refine g_iadd hC dX0_survey_74 ?_
          refine xs_FI o hC (by first | assumption | omega | exact xk_pl _ (by assumption) _ (by omega) | decide) ho2 ho dX0_survey_75 ?_
          refine g_ald0 hC dX0_survey_76 ?_
          refine xg_Flaw_bareIn hC (by first | assumption | omega | exact xk_pl _ (by assumption) _ (by omega) | decide) tw_1_44 dX0_survey_77 ?_
          refine g_ild4 hC dX0_survey_80 ?_
          refine g_dup2 hC dX0_survey_82 rfl rfl ?_
          refine xl_FB o hC (by first | assumption | omega | exact xk_pl _ (by assumption) _ (by omega) | decide) ho2 ho dX0_survey_83 ?_
          refine g_ald1 hC dX0_survey_84 ?_
          refine xg_Rough_bare hC tw_1_73 dX0_survey_85 ?_
          refine g_ild3 hC dX0_survey_88 ?_
          refine xl_bare c hC hc2 hc1 dX0_survey_89 ?_
          rw [show upd2 (hFs τ f k) (iFlaw f + 2) o (hFs τ f k (iFlaw f + 2) o + 1) 3 c = τ 3 c by rw [upd2_ni (by unfold iFlaw; omega), h23]]
          refine g_if_eq 97 hC dX0_survey_90 (by decide) (fun c90 => ?_) (fun c90 => ?_)
          · refine g_iconst 0 hC dX0_survey_97 (by decide) ?_
            refine g_iadd hC dX0_survey_98 ?_
            refine xs_FB o hC (by first | assumption | omega | exact xk_pl _ (by assumption) _ (by omega) | decide) ho2 ho dX0_survey_99 ?_
            refine g_inc2 1 hC dX0_survey_100 (by decide) rfl ?_
            refine g_goto 30 hC dX0_survey_103 (by decide) ?_
            first
            | (have hb : τ 3 c = 0 := c90
               refine g_keep [true, true, true, false, false] ?_
               rw [nI_1]
               have e9 := fs_step (σ := τ) (f := f) (k := k) ho (by rw [hcf]; exact ho2) (v := 0) (by rw [hcf]; rw [if_pos hb])
               rw [e9]
               exact ih (k + 1) (by omega))
            | (have hb : ¬ τ 3 c = 0 := c90
               refine g_keep [true, true, true, false, false] ?_
               rw [nI_1]
               have e9 := fs_step (σ := τ) (f := f) (k := k) ho (by rw [hcf]; exact ho2) (v := 1) (by rw [hcf]; rw [if_neg hb])
               rw [e9]
               exact ih (k + 1) (by omega))
          · refine g_iconst 1 hC dX0_survey_93 (by decide) ?_
            refine g_goto 98 hC dX0_survey_94 (by decide) ?_
            refine g_iadd hC dX0_survey_98 ?_
            refine xs_FB o hC (by first | assumption | omega | exact xk_pl _ (by assumption) _ (by omega) | decide) ho2 ho dX0_survey_99 ?_
            refine g_inc2 1 hC dX0_survey_100 (by decide) rfl ?_
            refine g_goto 30 hC dX0_survey_103 (by decide) ?_
            first
            | (have hb : τ 3 c = 0 := c90
               refine g_keep [true, true, true, false, false] ?_
               rw [nI_1]
               have e9 := fs_step (σ := τ) (f := f) (k := k) ho (by rw [hcf]; exact ho2) (v := 0) (by rw [hcf]; rw [if_pos hb])
               rw [e9]
               exact ih (k + 1) (by omega))
            | (have hb : ¬ τ 3 c = 0 := c90
               refine g_keep [true, true, true, false, false] ?_
               rw [nI_1]
               have e9 := fs_step (σ := τ) (f := f) (k := k) ho (by rw [hcf]; exact ho2) (v := 1) (by rw [hcf]; rw [if_neg hb])
               rw [e9]
               exact ih (k + 1) (by omega))
  have lp : ∀ (m8 k : Nat), k + m8 = 8 → G wX X 0 0 2 [some (.ref (gA X (iFlaw f))), some (.ref (gA X 1)), some (.int (nI k)), none, none] [] (hFz τ f k) := by
    intro m8
    induction m8 with
    | zero =>
      intro k hk 
      have hk : k = 8 := by omega
      subst hk
      refine g_ild2 hC dX0_survey_2 ?_
      refine g_bipush 8 hC dX0_survey_3 (by decide) ?_
      refine g_icmp_ge 28 hC dX0_survey_5 (by decide) (fun c5 => ?_) (fun c5 => absurd (lit_le (show (8 : Int32) = nI 8 by decide) (by omega) (by omega)) c5)
      refine g_iconst 0 hC dX0_survey_28 (by decide) ?_
      refine g_ist2 hC dX0_survey_29 rfl ?_
      rw [fz_fs]
      exact lq m 0 (by omega)
    | succ m8 ih =>
      intro k hk 
      refine g_ild2 hC dX0_survey_2 ?_
      refine g_bipush 8 hC dX0_survey_3 (by decide) ?_
      refine g_icmp_ge 28 hC dX0_survey_5 (by decide) (fun c5 => absurd c5 (lit_nle (show (8 : Int32) = nI 8 by decide) (by omega) (by omega))) (fun c5 => ?_)
      refine g_ald0 hC dX0_survey_8 ?_
      refine xg_Flaw_cellsIn hC (by first | assumption | omega | exact xk_pl _ (by assumption) _ (by omega) | decide) tw_1_42 dX0_survey_9 ?_
      refine g_ild2 hC dX0_survey_12 ?_
      refine g_iconst 0 hC dX0_survey_13 (by decide) ?_
      refine xs_FI k hC (by first | assumption | omega | exact xk_pl _ (by assumption) _ (by omega) | decide) rfl (by omega) dX0_survey_14 ?_
      refine g_ald0 hC dX0_survey_15 ?_
      refine xg_Flaw_bareIn hC (by first | assumption | omega | exact xk_pl _ (by assumption) _ (by omega) | decide) tw_1_44 dX0_survey_16 ?_
      refine g_ild2 hC dX0_survey_19 ?_
      refine g_iconst 0 hC dX0_survey_20 (by decide) ?_
      refine xs_FB k hC (by first | assumption | omega | exact xk_pl _ (by assumption) _ (by omega) | decide) rfl (by omega) dX0_survey_21 ?_
      refine g_inc2 1 hC dX0_survey_22 (by decide) rfl ?_
      refine g_goto 2 hC dX0_survey_25 (by decide) ?_
      rw [fz_s, nI_1]
      exact ih (k + 1) (by omega)
  refine g_iconst 0 hC dX0_survey_0 (by decide) ?_
  refine g_ist2 hC dX0_survey_1 rfl ?_
  have h0 := lp 8 0 (by omega)
  rw [fz_0] at h0
  exact h0
theorem k_X0_survey {l : Launch} {X : gC} {cc : ByteArray} {own : String} {dd ca sa kc nc pc : Nat} {ls : List (Option Value)} {st : List Value} {σ : Mem} {idx : Nat} {f m : Nat} (hC : gOk wX l X cc own dd ca sa) (hlk : Cond.methodLink own idx yX0_survey ∈ TB) (hd : decode cc pc = .ok (.invokevirtual idx, 3)) (hdd : 0 + 1 ≤ dd) (hfr : kc + 0 ≤ ca ∧ nc + 0 ≤ sa) (hrest : (st.map fun v => v.category).sum ≤ 8) (hf : f < 10) (hP : m ≤ 63 ∧ σ (iFlaw f) 2 = nI m ∧ ∀ q, q < m → ∃ c, c < 1000 ∧ σ (iFlaw f + 1) q = nI c) (kk : G wX X kc nc (pc + 3) ls st (hFs σ f m)) : G wX X kc nc pc ls (.ref (gA X 1) :: .ref (gA X (iFlaw f)) :: st) σ := by
  exact g_cVV 1 hC (c_X0_survey l f m hf) hlk ⟨tw_2_8, tw_2_9, tw_1_3, tw_2_10⟩ (by decide +kernel) ⟨hdd, by decide⟩ hfr rfl rfl rfl (rv_Flaw _ _ hf) hrest rfl hd hP (fun σ1 hq => by subst hq; exact kk)
set_option maxRecDepth 100000 in
set_option maxHeartbeats 4000000 in
/-- X5_surveyCell -/
theorem c_X5_surveyCell (l : Launch) (t u : Mem) (n x y z : Nat) : gMV wX l yX5_surveyCell (.code yX5_surveyCell cX5_surveyCell 7 none) 3 0 0 (fun A => [.ref (A 0), .int (nI n), .int (nI x), .int (nI y), .int (nI z)]) (fun τ => MI t ∧ M16 t ∧ Rb u t ∧ n < NN t ∧ Iv t u n τ ∧ n % nC t = x ∧ n / nC t % nR t = y ∧ n / nC t / nR t = z) (fun τ τ1 => Iv t u (n + 1) τ1) := by
  refine gMV_of (by decide) (fun A => Nat.le_of_ble_eq_true rfl) ?_
  intro X τ hC hP hE
  have hC : gOk wX l X cX5_surveyCell "GemCut" 3 0 0 := hC
  show G wX X 0 0 0 [some (.ref (gA X 0)), some (.int (nI n)), some (.int (nI x)), some (.int (nI y)), some (.int (nI z)), none, none] [] τ
  obtain ⟨hM, h6, hb, hn, hI, rfl, rfl, rfl⟩ := hP
  have hRb : Rb τ t := Rb_fr hM h6 hb hI.1
  have hown : τ 2 n = t 1 (CI t n) := hRb.2.1 n hn
  have hst : τ 0 3 = nI (nS t) := by rw [hRb.1.2.2.2.2.1]; exact (MI_S hM).1
  have hS := (MI_S hM).2.2
  have hN := vol_rng (MI_C hM).1.2 (MI_C hM).2.1.2 (MI_C hM).2.2.2
  have hn1 : n < 1000 := Nat.lt_of_lt_of_le hn hN.2
  refine g_ald0 hC dX5_surveyCell_0 ?_
  refine xg_GemCut_rough hC tw_2_11 dX5_surveyCell_1 ?_
  refine xg_Rough_owner hC tw_1_71 dX5_surveyCell_4 ?_
  refine g_ild1 hC dX5_surveyCell_7 ?_
  refine xl_owner n hC rfl hn1 dX5_surveyCell_8 ?_
  refine g_ist5 hC dX5_surveyCell_9 rfl ?_
  refine g_ild5 hC dX5_surveyCell_11 ?_
  refine g_if_lt 25 hC dX5_surveyCell_13 (by decide) (fun c13 => ?_) (fun c13 => ?_)
  · have hdead : ¬ live t n := fun hl => by
      obtain ⟨s, hs, he⟩ := hl
      rw [hown, he] at c13
      exact nI_pos (by omega) c13
    exact hE _ _ _ _ _ dX5_surveyCell_25 (Nat.le_refl _) (Nat.le_refl _) (Iv_dead hI hdead)
  · refine g_ild5 hC dX5_surveyCell_16 ?_
    refine g_ald0 hC dX5_surveyCell_18 ?_
    refine xg_GemCut_stoneCount hC tw_2_14 dX5_surveyCell_19 ?_
    refine g_icmp_lt 26 hC dX5_surveyCell_22 (by decide) (fun c22 => ?_) (fun c22 => ?_)
    · obtain ⟨s, hs3, hos⟩ := nI_of c13
      have hs : s < nS t := by
        rw [hos, hst] at c22
        exact (nI_ltI hs3 (by omega)).mp c22
      have hs8 : s < 8 := by omega
      have he : t 1 (CI t n) = nI s := by rw [← hown]; exact hos
      refine g_ald0 hC dX5_surveyCell_26 ?_
      refine xg_GemCut_rough hC tw_2_11 dX5_surveyCell_27 ?_
      refine g_ild5 hC dX5_surveyCell_30 ?_
      refine g_ild2 hC dX5_surveyCell_32 ?_
      refine g_ild3 hC dX5_surveyCell_33 ?_
      refine g_ild4 hC dX5_surveyCell_34 ?_
      refine k_X2_isBare hC tw_1_219 dX5_surveyCell_36 (by decide) ⟨by omega, by omega⟩ (Nat.le_of_ble_eq_true rfl) (Rb_RI hM hRb) ?_
      rw [hos, bare_surf hM hRb hn hs8 he]
      refine g_ist6 hC dX5_surveyCell_39 rfl ?_
      refine g_ald0 hC dX5_surveyCell_41 ?_
      refine xg_GemCut_rough hC tw_2_11 dX5_surveyCell_42 ?_
      refine xg_Rough_bare hC tw_1_75 dX5_surveyCell_45 ?_
      refine g_ild1 hC dX5_surveyCell_48 ?_
      refine g_ild6 hC dX5_surveyCell_49 ?_
      refine xs_bare n hC rfl hn1 (b2i_01 _) dX5_surveyCell_51 ?_
      refine g_ald0 hC dX5_surveyCell_52 ?_
      refine xg_GemCut_stones hC tw_2_12 dX5_surveyCell_53 ?_
      refine g_ild5 hC dX5_surveyCell_56 ?_
      refine xl_stonesA s hC rfl hs8 dX5_surveyCell_58 ?_
      refine g_ild2 hC dX5_surveyCell_59 ?_
      refine g_ild3 hC dX5_surveyCell_60 ?_
      refine g_ild4 hC dX5_surveyCell_61 ?_
      refine g_ild6 hC dX5_surveyCell_63 ?_
      refine k_X3_countCell (s := s) (n := nP t s) (b := sSurf t (CI t n)) hC tw_1_235 dX5_surveyCell_65 (by decide) ⟨by omega, by omega⟩ (Nat.le_of_ble_eq_true rfl) hs8 ⟨h6 s hs8, by rw [upd2_ni (by unfold iStone; omega), hRb.2.2.2.1 s hs]; exact (MI_P hM hs8).1⟩ ?_
      exact hE _ _ _ _ _ dX5_surveyCell_68 (Nat.le_refl _) (Nat.le_refl _) (Iv_step hM h6 hb hn hI hs he)
    · have hdead : ¬ live t n := fun hl => by
        obtain ⟨s, hs, he⟩ := hl
        rw [hown, he, hst] at c22
        exact c22 (nI_lt hs (by omega))
      exact hE _ _ _ _ _ dX5_surveyCell_25 (Nat.le_refl _) (Nat.le_refl _) (Iv_dead hI hdead)
theorem k_X5_surveyCell {l : Launch} {X : gC} {cc : ByteArray} {own : String} {dd ca sa kc nc pc : Nat} {ls : List (Option Value)} {st : List Value} {σ : Mem} {idx : Nat} {t u : Mem} {n x y z : Nat} (hC : gOk wX l X cc own dd ca sa) (hlk : Cond.methodLink own idx yX5_surveyCell ∈ TB) (hd : decode cc pc = .ok (.invokevirtual idx, 3)) (hdd : 3 + 1 ≤ dd) (hfr : kc + 0 ≤ ca ∧ nc + 0 ≤ sa) (hrest : (st.map fun v => v.category).sum ≤ 8)  (hP : MI t ∧ M16 t ∧ Rb u t ∧ n < NN t ∧ Iv t u n σ ∧ n % nC t = x ∧ n / nC t % nR t = y ∧ n / nC t / nR t = z) (kk : ∀ (σ1 : Mem), Iv t u (n + 1) σ1 → G wX X kc nc (pc + 3) ls st σ1) : G wX X kc nc pc ls (.int (nI z) :: .int (nI y) :: .int (nI x) :: .int (nI n) :: .ref (gA X 0) :: st) σ := by
  exact g_cVV 4 hC (c_X5_surveyCell l t u n x y z) hlk ⟨tw_1_217, tws_1_2, tw_1_1, tw_1_218⟩ (by decide +kernel) ⟨hdd, by decide⟩ hfr rfl rfl rfl (gW_at wX _ _ (by decide)) hrest rfl hd hP kk
