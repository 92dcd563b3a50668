/-! A judgement with small goals. Mem: what each cell (by its number) holds at each place, as ints; a layout says what kind each cell is and where its references lead. -/
abbrev Mem : Type := Nat → Nat → Int32
abbrev gE : Type := va_G × (Nat → Nat) × (Nat → ClassId)
abbrev gL : Type := Nat × (gE → (Nat → Int32) → Nat → va_E)
def gW (Lw : gL) (E : gE) (σ : Mem) : va_W := (List.range Lw.1).map (fun i => (E.2.1 i, Lw.2 E (σ i) i))
def gT (cy : Nat → ClassId) : List (ClassId × FieldType) := [(cy 0, .int), (cy 1, .boolean), (cy 2, .object "GemCut$Flaw"), (cy 3, .object "GemCut$Plane"), (cy 4, .object "GemCut$Stone"), (cy 5, .array .int), (cy 6, .array (.array .int))]
abbrev gC : Type := Program × Launch × Env × Room × State × MethodId × Array Value × List Frame × Method × Code × Nat × Heap × (Nat → Prop) × gE × (State → Prop)
def gl : Nat → List (Option Value) → List (Nat × Value)
  | _, [] => []
  | i, none :: r => gl (i + 1) r
  | i, some v :: r => (i, v) :: gl (i + 1) r
def gEv (X : gC) : gE := X.2.2.2.2.2.2.2.2.2.2.2.2.2.1
def gA (X : gC) : Nat → Nat := (gEv X).2.1
def gR (d ca sa : Nat) : Room := { frames := d, cells := ca, slots := sa, locals := 40 * d }
def G (Lw : gL) (X : gC) (k n pc : Nat) (ls : List (Option Value)) (st : List Value) (σ : Mem) : Prop :=
  match X with
  | (p, l, e, R, s, m, args, below, meth, c, nL, H0, A, E, Q) => ∀ (H : Heap) (locs : List Loc) (arr : Array Slot), ls.length = nL → va_P E.1 vwCl (gW Lw E σ) H → va_S A H0 H locs → lv_has arr nL (gl 0 ls) → W p l e R s m args below meth c H locs k n Q (F0 m pc arr st)
def gOk (Lw : gL) (l : Launch) (X : gC) (cc : ByteArray) (own : String) (dd ca sa : Nat) : Prop :=
  match X with
  | (p, l', _, R, s, m, args, _, meth, c, nL, H0, A, E, _) => p.tables.exec = Jvm.exec ∧ c.code = cc ∧ c.maxLocals = nL ∧ s.vm.findClass own = some m.cls ∧ (∀ w ∈ TB, w.before args s = true) ∧ va_K E.1 vwCl (gT E.2.2) s ∧ (∀ σ, va_D A (gW Lw E σ)) ∧ (∀ q, H0.size ≤ q → A q) ∧ R = gR dd ca sa ∧ meth.locks = false ∧ l' = l ∧ s.heap = H0 ∧ gN s
theorem gl_mem (q : Nat × Value) : ∀ (ls : List (Option Value)) (i : Nat), q ∈ gl i ls ↔ ∃ j, q.1 = i + j ∧ ls[j]? = some (some q.2) := by
  intro ls
  induction ls with
  | nil => intro i; simp [gl]
  | cons o r ih =>
    intro i
    cases o with
    | none =>
      rw [gl, ih]
      constructor
      · rintro ⟨j, h1, h2⟩
        exact ⟨j + 1, by omega, by simpa using h2⟩
      · rintro ⟨j, h1, h2⟩
        cases j with
        | zero => simp at h2
        | succ j => exact ⟨j, by omega, by simpa using h2⟩
    | some v =>
      rw [gl, List.mem_cons, ih]
      constructor
      · rintro (rfl | ⟨j, h1, h2⟩)
        · exact ⟨0, rfl, rfl⟩
        · exact ⟨j + 1, by omega, by simpa using h2⟩
      · rintro ⟨j, h1, h2⟩
        cases j with
        | zero =>
          left
          obtain ⟨a, b⟩ := q
          simp at h1 h2
          rw [h1, h2]
        | succ j => right; exact ⟨j, by omega, by simpa using h2⟩
theorem g_loc {arr : Array Slot} {nL : Nat} {ls : List (Option Value)} (h : lv_has arr nL (gl 0 ls)) (j : Nat) {v : Value} (hj : ls[j]? = some (some v)) : arr[j]? = some (.val v) :=
  h.2.2 (j, v) ((gl_mem _ _ _).mpr ⟨j, by simp, hj⟩)
def g1 (o : Option Value) : Bool := match o with
  | none => true
  | some v => v.category == 1
theorem g_fil1 {arr : Array Slot} {nL i : Nat} {v : Value} {ls : List (Option Value)} (h : lv_has arr nL ((i, v) :: (gl 0 ls).filter (fun q => !(q.1 == i) && !(q.1 + 1 == i && q.2.category == 2)))) (hp : ∀ j, j + 1 = i → ∀ w, ls[j]? = some (some w) → w.category = 1) : lv_has arr nL (gl 0 (ls.set i (some v))) := by
  refine ⟨h.1, h.2.1, fun q hq => h.2.2 q ?_⟩
  obtain ⟨j, h1, h2⟩ := (gl_mem _ _ _).mp hq
  obtain ⟨a, b⟩ := q
  simp at h1
  subst h1
  rw [List.getElem?_set] at h2
  by_cases hj : i = a
  · subst hj
    rw [if_pos rfl] at h2
    split at h2
    · simp at h2
      subst h2
      exact List.mem_cons_self
    · cases h2
  · rw [if_neg hj] at h2
    refine List.mem_cons_of_mem _ (List.mem_filter.mpr ⟨(gl_mem _ _ _).mpr ⟨a, by simp, h2⟩, ?_⟩)
    have h3 : ¬ (a == i) = true := by simp; exact fun e => hj e.symm
    simp only [Bool.not_eq_true] at h3
    by_cases h4 : a + 1 = i
    · have := hp a h4 b h2
      simp [h3, this]
    · have h5 : (a + 1 == i) = false := by simp [h4]
      simp [h3, h5]
theorem g_fil2 {arr : Array Slot} {nL i : Nat} {v : Value} {ls : List (Option Value)} (h : lv_has arr nL ((i, v) :: (gl 0 ls).filter (fun q => !(q.1 == i) && (!(q.1 == i + 1) && !(q.1 + 1 == i && q.2.category == 2))))) (hp : ∀ j, j + 1 = i → ∀ w, ls[j]? = some (some w) → w.category = 1) : lv_has arr nL (gl 0 ((ls.set i (some v)).set (i + 1) none)) := by
  refine ⟨h.1, h.2.1, fun q hq => h.2.2 q ?_⟩
  obtain ⟨j, h1, h2⟩ := (gl_mem _ _ _).mp hq
  obtain ⟨a, b⟩ := q
  simp at h1
  subst h1
  rw [List.getElem?_set, List.getElem?_set] at h2
  by_cases hj2 : i + 1 = a
  · rw [if_pos hj2] at h2
    split at h2
    · cases h2
    · cases h2
  · rw [if_neg hj2] at h2
    by_cases hj : i = a
    · subst hj
      rw [if_pos rfl] at h2
      split at h2
      · simp at h2
        subst h2
        exact List.mem_cons_self
      · cases h2
    · rw [if_neg hj] at h2
      refine List.mem_cons_of_mem _ (List.mem_filter.mpr ⟨(gl_mem _ _ _).mpr ⟨a, by simp, h2⟩, ?_⟩)
      have h3 : (a == i) = false := by simp; exact fun e => hj e.symm
      have h6 : (a == i + 1) = false := by simp; exact fun e => hj2 e.symm
      by_cases h4 : a + 1 = i
      · have := hp a h4 b h2
        simp [h3, h6, this]
      · have h5 : (a + 1 == i) = false := by simp [h4]
        simp [h3, h6, h5]
theorem g1_spec {o : Option Value} (h : g1 o = true) : ∀ w, o = some w → w.category = 1 := by
  intro w hw
  subst hw
  simpa [g1] using h
/-- the locals at a method's start -/
def gent : Nat → List Value → List (Option Value)
  | n, [] => List.replicate n none
  | n, v :: r => if v.category = 2 then some v :: none :: gent (n - 2) r else some v :: gent (n - 1) r
theorem gent_len : ∀ (vs : List Value) (n : Nat), (lg_sl vs).length ≤ n → (gent n vs).length = n := by
  intro vs
  induction vs with
  | nil => intro n _; simp [gent]
  | cons v r ih =>
    intro n h
    rw [gent]
    have h1 : lg_sl (v :: r) = (if v.category = 2 then [.val v, .second] else [.val v]) ++ lg_sl r := by simp [lg_sl]
    rw [h1] at h
    split at h <;> rename_i hc
    · rw [if_pos hc]
      simp at h
      simp [ih (n - 2) (by omega)]
      omega
    · rw [if_neg hc]
      simp at h
      simp [ih (n - 1) (by omega)]
      omega
theorem gent_mem : ∀ (vs : List Value) (n i : Nat) (q : Nat × Value), q ∈ gl i (gent n vs) → q ∈ lv_args i vs := by
  intro vs
  induction vs with
  | nil =>
    intro n i q h
    rw [gl_mem] at h
    obtain ⟨j, -, h2⟩ := h
    simp [gent, List.getElem?_replicate] at h2
  | cons v r ih =>
    intro n i q h
    rw [lv_args]
    rw [gent] at h
    by_cases hc : v.category = 2
    · rw [if_pos hc] at h ⊢
      rw [gl, gl] at h
      rcases List.mem_cons.mp h with rfl | h
      · exact List.mem_cons_self
      · exact List.mem_cons_of_mem _ (ih _ _ _ h)
    · rw [if_neg hc] at h ⊢
      rw [gl] at h
      rcases List.mem_cons.mp h with rfl | h
      · exact List.mem_cons_self
      · exact List.mem_cons_of_mem _ (ih _ _ _ h)
theorem gW_at (Lw : gL) (E : gE) (σ : Mem) {i : Nat} (h : i < Lw.1) : (gW Lw E σ)[i]? = some (E.2.1 i, Lw.2 E (σ i) i) := by
  simp [gW, List.getElem?_map, List.getElem?_range h]
theorem gW_len (Lw : gL) (E : gE) (σ : Mem) : (gW Lw E σ).length = Lw.1 := by simp [gW]
theorem gW_fix {Lw : gL} {E : gE} {σ : Mem} {A : Nat → Prop} (h : va_D A (gW Lw E σ)) (σ' : Mem) : va_D A (gW Lw E σ') := by
  have key : ∀ (i : Nat) (p : Nat × va_E), (gW Lw E σ')[i]? = some p → ∃ q, (gW Lw E σ)[i]? = some q ∧ q.1 = p.1 := by
    intro i p hp
    have hi : i < Lw.1 := by rw [← gW_len Lw E σ']; exact (List.getElem?_eq_some_iff.mp hp).1
    rw [gW_at _ _ _ hi] at hp
    cases hp
    exact ⟨_, gW_at _ _ _ hi, rfl⟩
  refine ⟨fun i j p q hi hj hpq => ?_, fun i p hp => ?_⟩
  · obtain ⟨p', h1, h2⟩ := key i p hi
    obtain ⟨q', h3, h4⟩ := key j q hj
    exact h.1 i j p' q' h1 h3 (by rw [h2, h4]; exact hpq)
  · obtain ⟨p', h1, h2⟩ := key i p hp
    rw [← h2]
    exact h.2 i p' h1
/-- one place of one cell written -/
def upd2 (σ : Mem) (i j : Nat) (v : Int32) : Mem := fun a b => if a = i then (if b = j then v else σ a b) else σ a b
theorem upd2_at (σ : Mem) (i j : Nat) (v : Int32) : upd2 σ i j v i j = v := by simp [upd2]
theorem upd2_nj {σ : Mem} {i j j' : Nat} {v : Int32} (h : j' ≠ j) (i' : Nat) : upd2 σ i j v i' j' = σ i' j' := by
  simp [upd2, h]
theorem upd2_ni {σ : Mem} {i j i' : Nat} {v : Int32} (h : i' ≠ i) : upd2 σ i j v i' = σ i' := by
  funext b
  simp [upd2, h]
theorem upd2_row (σ : Mem) (i j : Nat) (v : Int32) : upd2 σ i j v i = upd (σ i) j v := by
  funext b
  simp [upd2, upd]
theorem gW_set {Lw : gL} {E : gE} {σ : Mem} {i j : Nat} {v : Int32} {e : va_E} (h : i < Lw.1) (he : Lw.2 E (upd (σ i) j v) i = e) : (gW Lw E σ).set i (E.2.1 i, e) = gW Lw E (upd2 σ i j v) := by
  apply List.ext_getElem?
  intro q
  by_cases hq : q < Lw.1
  · rw [gW_at _ _ _ hq, List.getElem?_set]
    by_cases hqi : i = q
    · subst hqi
      rw [if_pos rfl, if_pos (by rw [gW_len]; exact h), upd2_row, he]
    · rw [if_neg hqi, gW_at _ _ _ hq, upd2_ni (fun z => hqi z.symm)]
  · rw [List.getElem?_eq_none (by rw [List.length_set, gW_len]; omega), List.getElem?_eq_none (by rw [gW_len]; omega)]

theorem g_iconst {Lw : gL} {l : Launch} {X : gC} {cc : ByteArray} {own : String} {dd ca sa k n pc : Nat} {ls : List (Option Value)} {st : List Value} {σ : Mem} {z : Int} (v : Int32) (hC : gOk Lw l X cc own dd ca sa) (hd : decode cc pc = .ok (.iconst z, 1)) (hv : Int32.ofInt z = v) (kk : G Lw X k n (pc + 1) ls (.int v :: st) σ) : G Lw X k n pc ls (st) σ := by
  obtain ⟨p, l', e, R, s, m, args, below, meth, c, nL, H0, A, E, Q⟩ := X
  obtain ⟨hx, hb, hml, hown, hTB, hK, hD, hA, hR, hlocks, rfl, hh0, hNs⟩ := hC
  exact fun H locs arr hn hP hS hl => lv_iconst hx hb hd hv (kk H locs arr hn hP hS hl)
theorem g_bipush {Lw : gL} {l : Launch} {X : gC} {cc : ByteArray} {own : String} {dd ca sa k n pc : Nat} {ls : List (Option Value)} {st : List Value} {σ : Mem} {z : Int} (v : Int32) (hC : gOk Lw l X cc own dd ca sa) (hd : decode cc pc = .ok (.bipush z, 2)) (hv : (Int8.ofInt z).toInt32 = v) (kk : G Lw X k n (pc + 2) ls (.int v :: st) σ) : G Lw X k n pc ls (st) σ := by
  obtain ⟨p, l', e, R, s, m, args, below, meth, c, nL, H0, A, E, Q⟩ := X
  obtain ⟨hx, hb, hml, hown, hTB, hK, hD, hA, hR, hlocks, rfl, hh0, hNs⟩ := hC
  exact fun H locs arr hn hP hS hl => lv_bipush hx hb hd hv (kk H locs arr hn hP hS hl)
theorem g_sipush {Lw : gL} {l : Launch} {X : gC} {cc : ByteArray} {own : String} {dd ca sa k n pc : Nat} {ls : List (Option Value)} {st : List Value} {σ : Mem} {z : Int} (v : Int32) (hC : gOk Lw l X cc own dd ca sa) (hd : decode cc pc = .ok (.sipush z, 3)) (hv : (Int16.ofInt z).toInt32 = v) (kk : G Lw X k n (pc + 3) ls (.int v :: st) σ) : G Lw X k n pc ls (st) σ := by
  obtain ⟨p, l', e, R, s, m, args, below, meth, c, nL, H0, A, E, Q⟩ := X
  obtain ⟨hx, hb, hml, hown, hTB, hK, hD, hA, hR, hlocks, rfl, hh0, hNs⟩ := hC
  exact fun H locs arr hn hP hS hl => lv_sipush hx hb hd hv (kk H locs arr hn hP hS hl)
theorem g_iadd {Lw : gL} {l : Launch} {X : gC} {cc : ByteArray} {own : String} {dd ca sa k n pc : Nat} {ls : List (Option Value)} {st : List Value} {σ : Mem} {x y : Int32} (hC : gOk Lw l X cc own dd ca sa) (hd : decode cc pc = .ok (.iadd, 1))  (kk : G Lw X k n (pc + 1) ls (.int (x + y) :: st) σ) : G Lw X k n pc ls (.int y :: .int x :: st) σ := by
  obtain ⟨p, l', e, R, s, m, args, below, meth, c, nL, H0, A, E, Q⟩ := X
  obtain ⟨hx, hb, hml, hown, hTB, hK, hD, hA, hR, hlocks, rfl, hh0, hNs⟩ := hC
  exact fun H locs arr hn hP hS hl => lv_iadd hx hb hd (kk H locs arr hn hP hS hl)
theorem g_isub {Lw : gL} {l : Launch} {X : gC} {cc : ByteArray} {own : String} {dd ca sa k n pc : Nat} {ls : List (Option Value)} {st : List Value} {σ : Mem} {x y : Int32} (hC : gOk Lw l X cc own dd ca sa) (hd : decode cc pc = .ok (.isub, 1))  (kk : G Lw X k n (pc + 1) ls (.int (x - y) :: st) σ) : G Lw X k n pc ls (.int y :: .int x :: st) σ := by
  obtain ⟨p, l', e, R, s, m, args, below, meth, c, nL, H0, A, E, Q⟩ := X
  obtain ⟨hx, hb, hml, hown, hTB, hK, hD, hA, hR, hlocks, rfl, hh0, hNs⟩ := hC
  exact fun H locs arr hn hP hS hl => lv_isub hx hb hd (kk H locs arr hn hP hS hl)
theorem g_imul {Lw : gL} {l : Launch} {X : gC} {cc : ByteArray} {own : String} {dd ca sa k n pc : Nat} {ls : List (Option Value)} {st : List Value} {σ : Mem} {x y : Int32} (hC : gOk Lw l X cc own dd ca sa) (hd : decode cc pc = .ok (.imul, 1))  (kk : G Lw X k n (pc + 1) ls (.int (x * y) :: st) σ) : G Lw X k n pc ls (.int y :: .int x :: st) σ := by
  obtain ⟨p, l', e, R, s, m, args, below, meth, c, nL, H0, A, E, Q⟩ := X
  obtain ⟨hx, hb, hml, hown, hTB, hK, hD, hA, hR, hlocks, rfl, hh0, hNs⟩ := hC
  exact fun H locs arr hn hP hS hl => lv_imul hx hb hd (kk H locs arr hn hP hS hl)
theorem g_iand {Lw : gL} {l : Launch} {X : gC} {cc : ByteArray} {own : String} {dd ca sa k n pc : Nat} {ls : List (Option Value)} {st : List Value} {σ : Mem} {x y : Int32} (hC : gOk Lw l X cc own dd ca sa) (hd : decode cc pc = .ok (.iand, 1))  (kk : G Lw X k n (pc + 1) ls (.int (x &&& y) :: st) σ) : G Lw X k n pc ls (.int y :: .int x :: st) σ := by
  obtain ⟨p, l', e, R, s, m, args, below, meth, c, nL, H0, A, E, Q⟩ := X
  obtain ⟨hx, hb, hml, hown, hTB, hK, hD, hA, hR, hlocks, rfl, hh0, hNs⟩ := hC
  exact fun H locs arr hn hP hS hl => lv_iand hx hb hd (kk H locs arr hn hP hS hl)
theorem g_idiv {Lw : gL} {l : Launch} {X : gC} {cc : ByteArray} {own : String} {dd ca sa k n pc : Nat} {ls : List (Option Value)} {st : List Value} {σ : Mem} {x y : Int32} (hC : gOk Lw l X cc own dd ca sa) (hd : decode cc pc = .ok (.idiv, 1)) (hne : ¬ y = 0) (kk : G Lw X k n (pc + 1) ls (.int (x / y) :: st) σ) : G Lw X k n pc ls (.int y :: .int x :: st) σ := by
  obtain ⟨p, l', e, R, s, m, args, below, meth, c, nL, H0, A, E, Q⟩ := X
  obtain ⟨hx, hb, hml, hown, hTB, hK, hD, hA, hR, hlocks, rfl, hh0, hNs⟩ := hC
  exact fun H locs arr hn hP hS hl => lv_idiv hx hb hd hne (kk H locs arr hn hP hS hl)
theorem g_irem {Lw : gL} {l : Launch} {X : gC} {cc : ByteArray} {own : String} {dd ca sa k n pc : Nat} {ls : List (Option Value)} {st : List Value} {σ : Mem} {x y : Int32} (hC : gOk Lw l X cc own dd ca sa) (hd : decode cc pc = .ok (.irem, 1)) (hne : ¬ y = 0) (kk : G Lw X k n (pc + 1) ls (.int (x - x / y * y) :: st) σ) : G Lw X k n pc ls (.int y :: .int x :: st) σ := by
  obtain ⟨p, l', e, R, s, m, args, below, meth, c, nL, H0, A, E, Q⟩ := X
  obtain ⟨hx, hb, hml, hown, hTB, hK, hD, hA, hR, hlocks, rfl, hh0, hNs⟩ := hC
  exact fun H locs arr hn hP hS hl => lv_irem hx hb hd hne (kk H locs arr hn hP hS hl)
theorem g_ineg {Lw : gL} {l : Launch} {X : gC} {cc : ByteArray} {own : String} {dd ca sa k n pc : Nat} {ls : List (Option Value)} {st : List Value} {σ : Mem} {x : Int32} (hC : gOk Lw l X cc own dd ca sa) (hd : decode cc pc = .ok (.ineg, 1))  (kk : G Lw X k n (pc + 1) ls (.int (0 - x) :: st) σ) : G Lw X k n pc ls (.int x :: st) σ := by
  obtain ⟨p, l', e, R, s, m, args, below, meth, c, nL, H0, A, E, Q⟩ := X
  obtain ⟨hx, hb, hml, hown, hTB, hK, hD, hA, hR, hlocks, rfl, hh0, hNs⟩ := hC
  exact fun H locs arr hn hP hS hl => lv_ineg hx hb hd (kk H locs arr hn hP hS hl)
theorem g_ladd {Lw : gL} {l : Launch} {X : gC} {cc : ByteArray} {own : String} {dd ca sa k n pc : Nat} {ls : List (Option Value)} {st : List Value} {σ : Mem} {x y : Int64} (hC : gOk Lw l X cc own dd ca sa) (hd : decode cc pc = .ok (.ladd, 1))  (kk : G Lw X k n (pc + 1) ls (.long (x + y) :: st) σ) : G Lw X k n pc ls (.long y :: .long x :: st) σ := by
  obtain ⟨p, l', e, R, s, m, args, below, meth, c, nL, H0, A, E, Q⟩ := X
  obtain ⟨hx, hb, hml, hown, hTB, hK, hD, hA, hR, hlocks, rfl, hh0, hNs⟩ := hC
  exact fun H locs arr hn hP hS hl => lv_ladd hx hb hd (kk H locs arr hn hP hS hl)
theorem g_lmul {Lw : gL} {l : Launch} {X : gC} {cc : ByteArray} {own : String} {dd ca sa k n pc : Nat} {ls : List (Option Value)} {st : List Value} {σ : Mem} {x y : Int64} (hC : gOk Lw l X cc own dd ca sa) (hd : decode cc pc = .ok (.lmul, 1))  (kk : G Lw X k n (pc + 1) ls (.long (x * y) :: st) σ) : G Lw X k n pc ls (.long y :: .long x :: st) σ := by
  obtain ⟨p, l', e, R, s, m, args, below, meth, c, nL, H0, A, E, Q⟩ := X
  obtain ⟨hx, hb, hml, hown, hTB, hK, hD, hA, hR, hlocks, rfl, hh0, hNs⟩ := hC
  exact fun H locs arr hn hP hS hl => lv_lmul hx hb hd (kk H locs arr hn hP hS hl)
theorem g_i2l {Lw : gL} {l : Launch} {X : gC} {cc : ByteArray} {own : String} {dd ca sa k n pc : Nat} {ls : List (Option Value)} {st : List Value} {σ : Mem} {x : Int32} (hC : gOk Lw l X cc own dd ca sa) (hd : decode cc pc = .ok (.i2l, 1))  (kk : G Lw X k n (pc + 1) ls (.long x.toInt64 :: st) σ) : G Lw X k n pc ls (.int x :: st) σ := by
  obtain ⟨p, l', e, R, s, m, args, below, meth, c, nL, H0, A, E, Q⟩ := X
  obtain ⟨hx, hb, hml, hown, hTB, hK, hD, hA, hR, hlocks, rfl, hh0, hNs⟩ := hC
  exact fun H locs arr hn hP hS hl => lv_i2l hx hb hd rfl (kk H locs arr hn hP hS hl)
theorem g_i2d {Lw : gL} {l : Launch} {X : gC} {cc : ByteArray} {own : String} {dd ca sa k n pc : Nat} {ls : List (Option Value)} {st : List Value} {σ : Mem} {x : Int32} (hC : gOk Lw l X cc own dd ca sa) (hd : decode cc pc = .ok (.i2d, 1))  (kk : G Lw X k n (pc + 1) ls (.double (FP.i2d x) :: st) σ) : G Lw X k n pc ls (.int x :: st) σ := by
  obtain ⟨p, l', e, R, s, m, args, below, meth, c, nL, H0, A, E, Q⟩ := X
  obtain ⟨hx, hb, hml, hown, hTB, hK, hD, hA, hR, hlocks, rfl, hh0, hNs⟩ := hC
  exact fun H locs arr hn hP hS hl => lv_i2d hx hb hd (kk H locs arr hn hP hS hl)
theorem g_dconst0 {Lw : gL} {l : Launch} {X : gC} {cc : ByteArray} {own : String} {dd ca sa k n pc : Nat} {ls : List (Option Value)} {st : List Value} {σ : Mem}  (hC : gOk Lw l X cc own dd ca sa) (hd : decode cc pc = .ok (.dconst 0, 1))  (kk : G Lw X k n (pc + 1) ls (.double 0 :: st) σ) : G Lw X k n pc ls (st) σ := by
  obtain ⟨p, l', e, R, s, m, args, below, meth, c, nL, H0, A, E, Q⟩ := X
  obtain ⟨hx, hb, hml, hown, hTB, hK, hD, hA, hR, hlocks, rfl, hh0, hNs⟩ := hC
  exact fun H locs arr hn hP hS hl => lv_dconst0 hx hb hd (kk H locs arr hn hP hS hl)
theorem g_ddiv {Lw : gL} {l : Launch} {X : gC} {cc : ByteArray} {own : String} {dd ca sa k n pc : Nat} {ls : List (Option Value)} {st : List Value} {σ : Mem} {x y : UInt64} (hC : gOk Lw l X cc own dd ca sa) (hd : decode cc pc = .ok (.ddiv, 1)) (hne : vf_n64 (FP.ddiv x y)) (kk : G Lw X k n (pc + 1) ls (.double (FP.ddiv x y) :: st) σ) : G Lw X k n pc ls (.double y :: .double x :: st) σ := by
  obtain ⟨p, l', e, R, s, m, args, below, meth, c, nL, H0, A, E, Q⟩ := X
  obtain ⟨hx, hb, hml, hown, hTB, hK, hD, hA, hR, hlocks, rfl, hh0, hNs⟩ := hC
  exact fun H locs arr hn hP hS hl => lv_ddiv hx hb hd hne (kk H locs arr hn hP hS hl)
theorem g_dup {Lw : gL} {l : Launch} {X : gC} {cc : ByteArray} {own : String} {dd ca sa k n pc : Nat} {ls : List (Option Value)} {st : List Value} {σ : Mem} {v : Value} (hC : gOk Lw l X cc own dd ca sa) (hd : decode cc pc = .ok (.dup, 1)) (hv : v.category = 1) (kk : G Lw X k n (pc + 1) ls (v :: v :: st) σ) : G Lw X k n pc ls (v :: st) σ := by
  obtain ⟨p, l', e, R, s, m, args, below, meth, c, nL, H0, A, E, Q⟩ := X
  obtain ⟨hx, hb, hml, hown, hTB, hK, hD, hA, hR, hlocks, rfl, hh0, hNs⟩ := hC
  exact fun H locs arr hn hP hS hl => lv_dup hx hb hd hv (kk H locs arr hn hP hS hl)
theorem g_pop {Lw : gL} {l : Launch} {X : gC} {cc : ByteArray} {own : String} {dd ca sa k n pc : Nat} {ls : List (Option Value)} {st : List Value} {σ : Mem} {v : Value} (hC : gOk Lw l X cc own dd ca sa) (hd : decode cc pc = .ok (.pop, 1)) (hv : v.category = 1) (kk : G Lw X k n (pc + 1) ls (st) σ) : G Lw X k n pc ls (v :: st) σ := by
  obtain ⟨p, l', e, R, s, m, args, below, meth, c, nL, H0, A, E, Q⟩ := X
  obtain ⟨hx, hb, hml, hown, hTB, hK, hD, hA, hR, hlocks, rfl, hh0, hNs⟩ := hC
  exact fun H locs arr hn hP hS hl => lv_pop hx hb hd hv (kk H locs arr hn hP hS hl)
theorem g_dup2 {Lw : gL} {l : Launch} {X : gC} {cc : ByteArray} {own : String} {dd ca sa k n pc : Nat} {ls : List (Option Value)} {st : List Value} {σ : Mem} {v u : Value} (hC : gOk Lw l X cc own dd ca sa) (hd : decode cc pc = .ok (.dup2, 1)) (hv : v.category = 1) (hu : u.category = 1) (kk : G Lw X k n (pc + 1) ls (v :: u :: v :: u :: st) σ) : G Lw X k n pc ls (v :: u :: st) σ := by
  obtain ⟨p, l', e, R, s, m, args, below, meth, c, nL, H0, A, E, Q⟩ := X
  obtain ⟨hx, hb, hml, hown, hTB, hK, hD, hA, hR, hlocks, rfl, hh0, hNs⟩ := hC
  exact fun H locs arr hn hP hS hl => lv_dup2_11 hx hb hd hv hu (kk H locs arr hn hP hS hl)
theorem g_ild0 {Lw : gL} {l : Launch} {X : gC} {cc : ByteArray} {own : String} {dd ca sa k n pc : Nat} {st : List Value} {σ : Mem} {r : List (Option Value)} {x : Int32} (hC : gOk Lw l X cc own dd ca sa) (hd : decode cc pc = .ok (.iload_n 0, 1)) (kk : G Lw X k n (pc + 1) (some (.int x) :: r) (.int x :: st) σ) : G Lw X k n pc (some (.int x) :: r) st σ := by
  obtain ⟨p, l', e, R, s, m, args, below, meth, c, nL, H0, A, E, Q⟩ := X
  obtain ⟨hx, hb, hml, hown, hTB, hK, hD, hA, hR, hlocks, rfl, hh0, hNs⟩ := hC
  exact fun H locs arr hn hP hS hl => lv_iload_n hx hb hd rfl (g_loc hl 0 rfl) (kk H locs arr hn hP hS hl)
theorem g_ild1 {Lw : gL} {l : Launch} {X : gC} {cc : ByteArray} {own : String} {dd ca sa k n pc : Nat} {st : List Value} {σ : Mem} {a0 : Option Value} {r : List (Option Value)} {x : Int32} (hC : gOk Lw l X cc own dd ca sa) (hd : decode cc pc = .ok (.iload_n 1, 1)) (kk : G Lw X k n (pc + 1) (a0 :: some (.int x) :: r) (.int x :: st) σ) : G Lw X k n pc (a0 :: some (.int x) :: r) st σ := by
  obtain ⟨p, l', e, R, s, m, args, below, meth, c, nL, H0, A, E, Q⟩ := X
  obtain ⟨hx, hb, hml, hown, hTB, hK, hD, hA, hR, hlocks, rfl, hh0, hNs⟩ := hC
  exact fun H locs arr hn hP hS hl => lv_iload_n hx hb hd rfl (g_loc hl 1 rfl) (kk H locs arr hn hP hS hl)
theorem g_ild2 {Lw : gL} {l : Launch} {X : gC} {cc : ByteArray} {own : String} {dd ca sa k n pc : Nat} {st : List Value} {σ : Mem} {a0 a1 : Option Value} {r : List (Option Value)} {x : Int32} (hC : gOk Lw l X cc own dd ca sa) (hd : decode cc pc = .ok (.iload_n 2, 1)) (kk : G Lw X k n (pc + 1) (a0 :: a1 :: some (.int x) :: r) (.int x :: st) σ) : G Lw X k n pc (a0 :: a1 :: some (.int x) :: r) st σ := by
  obtain ⟨p, l', e, R, s, m, args, below, meth, c, nL, H0, A, E, Q⟩ := X
  obtain ⟨hx, hb, hml, hown, hTB, hK, hD, hA, hR, hlocks, rfl, hh0, hNs⟩ := hC
  exact fun H locs arr hn hP hS hl => lv_iload_n hx hb hd rfl (g_loc hl 2 rfl) (kk H locs arr hn hP hS hl)
theorem g_ild3 {Lw : gL} {l : Launch} {X : gC} {cc : ByteArray} {own : String} {dd ca sa k n pc : Nat} {st : List Value} {σ : Mem} {a0 a1 a2 : Option Value} {r : List (Option Value)} {x : Int32} (hC : gOk Lw l X cc own dd ca sa) (hd : decode cc pc = .ok (.iload_n 3, 1)) (kk : G Lw X k n (pc + 1) (a0 :: a1 :: a2 :: some (.int x) :: r) (.int x :: st) σ) : G Lw X k n pc (a0 :: a1 :: a2 :: some (.int x) :: r) st σ := by
  obtain ⟨p, l', e, R, s, m, args, below, meth, c, nL, H0, A, E, Q⟩ := X
  obtain ⟨hx, hb, hml, hown, hTB, hK, hD, hA, hR, hlocks, rfl, hh0, hNs⟩ := hC
  exact fun H locs arr hn hP hS hl => lv_iload_n hx hb hd rfl (g_loc hl 3 rfl) (kk H locs arr hn hP hS hl)
theorem g_ild4 {Lw : gL} {l : Launch} {X : gC} {cc : ByteArray} {own : String} {dd ca sa k n pc : Nat} {st : List Value} {σ : Mem} {a0 a1 a2 a3 : Option Value} {r : List (Option Value)} {x : Int32} (hC : gOk Lw l X cc own dd ca sa) (hd : decode cc pc = .ok (.iload 4, 2)) (kk : G Lw X k n (pc + 2) (a0 :: a1 :: a2 :: a3 :: some (.int x) :: r) (.int x :: st) σ) : G Lw X k n pc (a0 :: a1 :: a2 :: a3 :: some (.int x) :: r) st σ := by
  obtain ⟨p, l', e, R, s, m, args, below, meth, c, nL, H0, A, E, Q⟩ := X
  obtain ⟨hx, hb, hml, hown, hTB, hK, hD, hA, hR, hlocks, rfl, hh0, hNs⟩ := hC
  exact fun H locs arr hn hP hS hl => lv_iload hx hb hd (g_loc hl 4 rfl) (kk H locs arr hn hP hS hl)
theorem g_ild5 {Lw : gL} {l : Launch} {X : gC} {cc : ByteArray} {own : String} {dd ca sa k n pc : Nat} {st : List Value} {σ : Mem} {a0 a1 a2 a3 a4 : Option Value} {r : List (Option Value)} {x : Int32} (hC : gOk Lw l X cc own dd ca sa) (hd : decode cc pc = .ok (.iload 5, 2)) (kk : G Lw X k n (pc + 2) (a0 :: a1 :: a2 :: a3 :: a4 :: some (.int x) :: r) (.int x :: st) σ) : G Lw X k n pc (a0 :: a1 :: a2 :: a3 :: a4 :: some (.int x) :: r) st σ := by
  obtain ⟨p, l', e, R, s, m, args, below, meth, c, nL, H0, A, E, Q⟩ := X
  obtain ⟨hx, hb, hml, hown, hTB, hK, hD, hA, hR, hlocks, rfl, hh0, hNs⟩ := hC
  exact fun H locs arr hn hP hS hl => lv_iload hx hb hd (g_loc hl 5 rfl) (kk H locs arr hn hP hS hl)
theorem g_ild6 {Lw : gL} {l : Launch} {X : gC} {cc : ByteArray} {own : String} {dd ca sa k n pc : Nat} {st : List Value} {σ : Mem} {a0 a1 a2 a3 a4 a5 : Option Value} {r : List (Option Value)} {x : Int32} (hC : gOk Lw l X cc own dd ca sa) (hd : decode cc pc = .ok (.iload 6, 2)) (kk : G Lw X k n (pc + 2) (a0 :: a1 :: a2 :: a3 :: a4 :: a5 :: some (.int x) :: r) (.int x :: st) σ) : G Lw X k n pc (a0 :: a1 :: a2 :: a3 :: a4 :: a5 :: some (.int x) :: r) st σ := by
  obtain ⟨p, l', e, R, s, m, args, below, meth, c, nL, H0, A, E, Q⟩ := X
  obtain ⟨hx, hb, hml, hown, hTB, hK, hD, hA, hR, hlocks, rfl, hh0, hNs⟩ := hC
  exact fun H locs arr hn hP hS hl => lv_iload hx hb hd (g_loc hl 6 rfl) (kk H locs arr hn hP hS hl)
theorem g_ild7 {Lw : gL} {l : Launch} {X : gC} {cc : ByteArray} {own : String} {dd ca sa k n pc : Nat} {st : List Value} {σ : Mem} {a0 a1 a2 a3 a4 a5 a6 : Option Value} {r : List (Option Value)} {x : Int32} (hC : gOk Lw l X cc own dd ca sa) (hd : decode cc pc = .ok (.iload 7, 2)) (kk : G Lw X k n (pc + 2) (a0 :: a1 :: a2 :: a3 :: a4 :: a5 :: a6 :: some (.int x) :: r) (.int x :: st) σ) : G Lw X k n pc (a0 :: a1 :: a2 :: a3 :: a4 :: a5 :: a6 :: some (.int x) :: r) st σ := by
  obtain ⟨p, l', e, R, s, m, args, below, meth, c, nL, H0, A, E, Q⟩ := X
  obtain ⟨hx, hb, hml, hown, hTB, hK, hD, hA, hR, hlocks, rfl, hh0, hNs⟩ := hC
  exact fun H locs arr hn hP hS hl => lv_iload hx hb hd (g_loc hl 7 rfl) (kk H locs arr hn hP hS hl)
theorem g_ild8 {Lw : gL} {l : Launch} {X : gC} {cc : ByteArray} {own : String} {dd ca sa k n pc : Nat} {st : List Value} {σ : Mem} {a0 a1 a2 a3 a4 a5 a6 a7 : Option Value} {r : List (Option Value)} {x : Int32} (hC : gOk Lw l X cc own dd ca sa) (hd : decode cc pc = .ok (.iload 8, 2)) (kk : G Lw X k n (pc + 2) (a0 :: a1 :: a2 :: a3 :: a4 :: a5 :: a6 :: a7 :: some (.int x) :: r) (.int x :: st) σ) : G Lw X k n pc (a0 :: a1 :: a2 :: a3 :: a4 :: a5 :: a6 :: a7 :: some (.int x) :: r) st σ := by
  obtain ⟨p, l', e, R, s, m, args, below, meth, c, nL, H0, A, E, Q⟩ := X
  obtain ⟨hx, hb, hml, hown, hTB, hK, hD, hA, hR, hlocks, rfl, hh0, hNs⟩ := hC
  exact fun H locs arr hn hP hS hl => lv_iload hx hb hd (g_loc hl 8 rfl) (kk H locs arr hn hP hS hl)
theorem g_ild9 {Lw : gL} {l : Launch} {X : gC} {cc : ByteArray} {own : String} {dd ca sa k n pc : Nat} {st : List Value} {σ : Mem} {a0 a1 a2 a3 a4 a5 a6 a7 a8 : Option Value} {r : List (Option Value)} {x : Int32} (hC : gOk Lw l X cc own dd ca sa) (hd : decode cc pc = .ok (.iload 9, 2)) (kk : G Lw X k n (pc + 2) (a0 :: a1 :: a2 :: a3 :: a4 :: a5 :: a6 :: a7 :: a8 :: some (.int x) :: r) (.int x :: st) σ) : G Lw X k n pc (a0 :: a1 :: a2 :: a3 :: a4 :: a5 :: a6 :: a7 :: a8 :: some (.int x) :: r) st σ := by
  obtain ⟨p, l', e, R, s, m, args, below, meth, c, nL, H0, A, E, Q⟩ := X
  obtain ⟨hx, hb, hml, hown, hTB, hK, hD, hA, hR, hlocks, rfl, hh0, hNs⟩ := hC
  exact fun H locs arr hn hP hS hl => lv_iload hx hb hd (g_loc hl 9 rfl) (kk H locs arr hn hP hS hl)
theorem g_ild10 {Lw : gL} {l : Launch} {X : gC} {cc : ByteArray} {own : String} {dd ca sa k n pc : Nat} {st : List Value} {σ : Mem} {a0 a1 a2 a3 a4 a5 a6 a7 a8 a9 : Option Value} {r : List (Option Value)} {x : Int32} (hC : gOk Lw l X cc own dd ca sa) (hd : decode cc pc = .ok (.iload 10, 2)) (kk : G Lw X k n (pc + 2) (a0 :: a1 :: a2 :: a3 :: a4 :: a5 :: a6 :: a7 :: a8 :: a9 :: some (.int x) :: r) (.int x :: st) σ) : G Lw X k n pc (a0 :: a1 :: a2 :: a3 :: a4 :: a5 :: a6 :: a7 :: a8 :: a9 :: some (.int x) :: r) st σ := by
  obtain ⟨p, l', e, R, s, m, args, below, meth, c, nL, H0, A, E, Q⟩ := X
  obtain ⟨hx, hb, hml, hown, hTB, hK, hD, hA, hR, hlocks, rfl, hh0, hNs⟩ := hC
  exact fun H locs arr hn hP hS hl => lv_iload hx hb hd (g_loc hl 10 rfl) (kk H locs arr hn hP hS hl)
theorem g_ild11 {Lw : gL} {l : Launch} {X : gC} {cc : ByteArray} {own : String} {dd ca sa k n pc : Nat} {st : List Value} {σ : Mem} {a0 a1 a2 a3 a4 a5 a6 a7 a8 a9 a10 : Option Value} {r : List (Option Value)} {x : Int32} (hC : gOk Lw l X cc own dd ca sa) (hd : decode cc pc = .ok (.iload 11, 2)) (kk : G Lw X k n (pc + 2) (a0 :: a1 :: a2 :: a3 :: a4 :: a5 :: a6 :: a7 :: a8 :: a9 :: a10 :: some (.int x) :: r) (.int x :: st) σ) : G Lw X k n pc (a0 :: a1 :: a2 :: a3 :: a4 :: a5 :: a6 :: a7 :: a8 :: a9 :: a10 :: some (.int x) :: r) st σ := by
  obtain ⟨p, l', e, R, s, m, args, below, meth, c, nL, H0, A, E, Q⟩ := X
  obtain ⟨hx, hb, hml, hown, hTB, hK, hD, hA, hR, hlocks, rfl, hh0, hNs⟩ := hC
  exact fun H locs arr hn hP hS hl => lv_iload hx hb hd (g_loc hl 11 rfl) (kk H locs arr hn hP hS hl)
theorem g_ild12 {Lw : gL} {l : Launch} {X : gC} {cc : ByteArray} {own : String} {dd ca sa k n pc : Nat} {st : List Value} {σ : Mem} {a0 a1 a2 a3 a4 a5 a6 a7 a8 a9 a10 a11 : Option Value} {r : List (Option Value)} {x : Int32} (hC : gOk Lw l X cc own dd ca sa) (hd : decode cc pc = .ok (.iload 12, 2)) (kk : G Lw X k n (pc + 2) (a0 :: a1 :: a2 :: a3 :: a4 :: a5 :: a6 :: a7 :: a8 :: a9 :: a10 :: a11 :: some (.int x) :: r) (.int x :: st) σ) : G Lw X k n pc (a0 :: a1 :: a2 :: a3 :: a4 :: a5 :: a6 :: a7 :: a8 :: a9 :: a10 :: a11 :: some (.int x) :: r) st σ := by
  obtain ⟨p, l', e, R, s, m, args, below, meth, c, nL, H0, A, E, Q⟩ := X
  obtain ⟨hx, hb, hml, hown, hTB, hK, hD, hA, hR, hlocks, rfl, hh0, hNs⟩ := hC
  exact fun H locs arr hn hP hS hl => lv_iload hx hb hd (g_loc hl 12 rfl) (kk H locs arr hn hP hS hl)
theorem g_ild13 {Lw : gL} {l : Launch} {X : gC} {cc : ByteArray} {own : String} {dd ca sa k n pc : Nat} {st : List Value} {σ : Mem} {a0 a1 a2 a3 a4 a5 a6 a7 a8 a9 a10 a11 a12 : Option Value} {r : List (Option Value)} {x : Int32} (hC : gOk Lw l X cc own dd ca sa) (hd : decode cc pc = .ok (.iload 13, 2)) (kk : G Lw X k n (pc + 2) (a0 :: a1 :: a2 :: a3 :: a4 :: a5 :: a6 :: a7 :: a8 :: a9 :: a10 :: a11 :: a12 :: some (.int x) :: r) (.int x :: st) σ) : G Lw X k n pc (a0 :: a1 :: a2 :: a3 :: a4 :: a5 :: a6 :: a7 :: a8 :: a9 :: a10 :: a11 :: a12 :: some (.int x) :: r) st σ := by
  obtain ⟨p, l', e, R, s, m, args, below, meth, c, nL, H0, A, E, Q⟩ := X
  obtain ⟨hx, hb, hml, hown, hTB, hK, hD, hA, hR, hlocks, rfl, hh0, hNs⟩ := hC
  exact fun H locs arr hn hP hS hl => lv_iload hx hb hd (g_loc hl 13 rfl) (kk H locs arr hn hP hS hl)
theorem g_ald0 {Lw : gL} {l : Launch} {X : gC} {cc : ByteArray} {own : String} {dd ca sa k n pc : Nat} {st : List Value} {σ : Mem} {r : List (Option Value)} {x : Nat} (hC : gOk Lw l X cc own dd ca sa) (hd : decode cc pc = .ok (.aload_n 0, 1)) (kk : G Lw X k n (pc + 1) (some (.ref x) :: r) (.ref x :: st) σ) : G Lw X k n pc (some (.ref x) :: r) st σ := by
  obtain ⟨p, l', e, R, s, m, args, below, meth, c, nL, H0, A, E, Q⟩ := X
  obtain ⟨hx, hb, hml, hown, hTB, hK, hD, hA, hR, hlocks, rfl, hh0, hNs⟩ := hC
  exact fun H locs arr hn hP hS hl => lv_aload_n hx hb hd rfl (g_loc hl 0 rfl) (kk H locs arr hn hP hS hl)
theorem g_ald1 {Lw : gL} {l : Launch} {X : gC} {cc : ByteArray} {own : String} {dd ca sa k n pc : Nat} {st : List Value} {σ : Mem} {a0 : Option Value} {r : List (Option Value)} {x : Nat} (hC : gOk Lw l X cc own dd ca sa) (hd : decode cc pc = .ok (.aload_n 1, 1)) (kk : G Lw X k n (pc + 1) (a0 :: some (.ref x) :: r) (.ref x :: st) σ) : G Lw X k n pc (a0 :: some (.ref x) :: r) st σ := by
  obtain ⟨p, l', e, R, s, m, args, below, meth, c, nL, H0, A, E, Q⟩ := X
  obtain ⟨hx, hb, hml, hown, hTB, hK, hD, hA, hR, hlocks, rfl, hh0, hNs⟩ := hC
  exact fun H locs arr hn hP hS hl => lv_aload_n hx hb hd rfl (g_loc hl 1 rfl) (kk H locs arr hn hP hS hl)
theorem g_ald2 {Lw : gL} {l : Launch} {X : gC} {cc : ByteArray} {own : String} {dd ca sa k n pc : Nat} {st : List Value} {σ : Mem} {a0 a1 : Option Value} {r : List (Option Value)} {x : Nat} (hC : gOk Lw l X cc own dd ca sa) (hd : decode cc pc = .ok (.aload_n 2, 1)) (kk : G Lw X k n (pc + 1) (a0 :: a1 :: some (.ref x) :: r) (.ref x :: st) σ) : G Lw X k n pc (a0 :: a1 :: some (.ref x) :: r) st σ := by
  obtain ⟨p, l', e, R, s, m, args, below, meth, c, nL, H0, A, E, Q⟩ := X
  obtain ⟨hx, hb, hml, hown, hTB, hK, hD, hA, hR, hlocks, rfl, hh0, hNs⟩ := hC
  exact fun H locs arr hn hP hS hl => lv_aload_n hx hb hd rfl (g_loc hl 2 rfl) (kk H locs arr hn hP hS hl)
theorem g_ald3 {Lw : gL} {l : Launch} {X : gC} {cc : ByteArray} {own : String} {dd ca sa k n pc : Nat} {st : List Value} {σ : Mem} {a0 a1 a2 : Option Value} {r : List (Option Value)} {x : Nat} (hC : gOk Lw l X cc own dd ca sa) (hd : decode cc pc = .ok (.aload_n 3, 1)) (kk : G Lw X k n (pc + 1) (a0 :: a1 :: a2 :: some (.ref x) :: r) (.ref x :: st) σ) : G Lw X k n pc (a0 :: a1 :: a2 :: some (.ref x) :: r) st σ := by
  obtain ⟨p, l', e, R, s, m, args, below, meth, c, nL, H0, A, E, Q⟩ := X
  obtain ⟨hx, hb, hml, hown, hTB, hK, hD, hA, hR, hlocks, rfl, hh0, hNs⟩ := hC
  exact fun H locs arr hn hP hS hl => lv_aload_n hx hb hd rfl (g_loc hl 3 rfl) (kk H locs arr hn hP hS hl)
theorem g_ald4 {Lw : gL} {l : Launch} {X : gC} {cc : ByteArray} {own : String} {dd ca sa k n pc : Nat} {st : List Value} {σ : Mem} {a0 a1 a2 a3 : Option Value} {r : List (Option Value)} {x : Nat} (hC : gOk Lw l X cc own dd ca sa) (hd : decode cc pc = .ok (.aload 4, 2)) (kk : G Lw X k n (pc + 2) (a0 :: a1 :: a2 :: a3 :: some (.ref x) :: r) (.ref x :: st) σ) : G Lw X k n pc (a0 :: a1 :: a2 :: a3 :: some (.ref x) :: r) st σ := by
  obtain ⟨p, l', e, R, s, m, args, below, meth, c, nL, H0, A, E, Q⟩ := X
  obtain ⟨hx, hb, hml, hown, hTB, hK, hD, hA, hR, hlocks, rfl, hh0, hNs⟩ := hC
  exact fun H locs arr hn hP hS hl => lv_aload hx hb hd (g_loc hl 4 rfl) (kk H locs arr hn hP hS hl)
theorem g_ald5 {Lw : gL} {l : Launch} {X : gC} {cc : ByteArray} {own : String} {dd ca sa k n pc : Nat} {st : List Value} {σ : Mem} {a0 a1 a2 a3 a4 : Option Value} {r : List (Option Value)} {x : Nat} (hC : gOk Lw l X cc own dd ca sa) (hd : decode cc pc = .ok (.aload 5, 2)) (kk : G Lw X k n (pc + 2) (a0 :: a1 :: a2 :: a3 :: a4 :: some (.ref x) :: r) (.ref x :: st) σ) : G Lw X k n pc (a0 :: a1 :: a2 :: a3 :: a4 :: some (.ref x) :: r) st σ := by
  obtain ⟨p, l', e, R, s, m, args, below, meth, c, nL, H0, A, E, Q⟩ := X
  obtain ⟨hx, hb, hml, hown, hTB, hK, hD, hA, hR, hlocks, rfl, hh0, hNs⟩ := hC
  exact fun H locs arr hn hP hS hl => lv_aload hx hb hd (g_loc hl 5 rfl) (kk H locs arr hn hP hS hl)
theorem g_ald6 {Lw : gL} {l : Launch} {X : gC} {cc : ByteArray} {own : String} {dd ca sa k n pc : Nat} {st : List Value} {σ : Mem} {a0 a1 a2 a3 a4 a5 : Option Value} {r : List (Option Value)} {x : Nat} (hC : gOk Lw l X cc own dd ca sa) (hd : decode cc pc = .ok (.aload 6, 2)) (kk : G Lw X k n (pc + 2) (a0 :: a1 :: a2 :: a3 :: a4 :: a5 :: some (.ref x) :: r) (.ref x :: st) σ) : G Lw X k n pc (a0 :: a1 :: a2 :: a3 :: a4 :: a5 :: some (.ref x) :: r) st σ := by
  obtain ⟨p, l', e, R, s, m, args, below, meth, c, nL, H0, A, E, Q⟩ := X
  obtain ⟨hx, hb, hml, hown, hTB, hK, hD, hA, hR, hlocks, rfl, hh0, hNs⟩ := hC
  exact fun H locs arr hn hP hS hl => lv_aload hx hb hd (g_loc hl 6 rfl) (kk H locs arr hn hP hS hl)
theorem g_ald7 {Lw : gL} {l : Launch} {X : gC} {cc : ByteArray} {own : String} {dd ca sa k n pc : Nat} {st : List Value} {σ : Mem} {a0 a1 a2 a3 a4 a5 a6 : Option Value} {r : List (Option Value)} {x : Nat} (hC : gOk Lw l X cc own dd ca sa) (hd : decode cc pc = .ok (.aload 7, 2)) (kk : G Lw X k n (pc + 2) (a0 :: a1 :: a2 :: a3 :: a4 :: a5 :: a6 :: some (.ref x) :: r) (.ref x :: st) σ) : G Lw X k n pc (a0 :: a1 :: a2 :: a3 :: a4 :: a5 :: a6 :: some (.ref x) :: r) st σ := by
  obtain ⟨p, l', e, R, s, m, args, below, meth, c, nL, H0, A, E, Q⟩ := X
  obtain ⟨hx, hb, hml, hown, hTB, hK, hD, hA, hR, hlocks, rfl, hh0, hNs⟩ := hC
  exact fun H locs arr hn hP hS hl => lv_aload hx hb hd (g_loc hl 7 rfl) (kk H locs arr hn hP hS hl)
theorem g_ald8 {Lw : gL} {l : Launch} {X : gC} {cc : ByteArray} {own : String} {dd ca sa k n pc : Nat} {st : List Value} {σ : Mem} {a0 a1 a2 a3 a4 a5 a6 a7 : Option Value} {r : List (Option Value)} {x : Nat} (hC : gOk Lw l X cc own dd ca sa) (hd : decode cc pc = .ok (.aload 8, 2)) (kk : G Lw X k n (pc + 2) (a0 :: a1 :: a2 :: a3 :: a4 :: a5 :: a6 :: a7 :: some (.ref x) :: r) (.ref x :: st) σ) : G Lw X k n pc (a0 :: a1 :: a2 :: a3 :: a4 :: a5 :: a6 :: a7 :: some (.ref x) :: r) st σ := by
  obtain ⟨p, l', e, R, s, m, args, below, meth, c, nL, H0, A, E, Q⟩ := X
  obtain ⟨hx, hb, hml, hown, hTB, hK, hD, hA, hR, hlocks, rfl, hh0, hNs⟩ := hC
  exact fun H locs arr hn hP hS hl => lv_aload hx hb hd (g_loc hl 8 rfl) (kk H locs arr hn hP hS hl)
theorem g_ald9 {Lw : gL} {l : Launch} {X : gC} {cc : ByteArray} {own : String} {dd ca sa k n pc : Nat} {st : List Value} {σ : Mem} {a0 a1 a2 a3 a4 a5 a6 a7 a8 : Option Value} {r : List (Option Value)} {x : Nat} (hC : gOk Lw l X cc own dd ca sa) (hd : decode cc pc = .ok (.aload 9, 2)) (kk : G Lw X k n (pc + 2) (a0 :: a1 :: a2 :: a3 :: a4 :: a5 :: a6 :: a7 :: a8 :: some (.ref x) :: r) (.ref x :: st) σ) : G Lw X k n pc (a0 :: a1 :: a2 :: a3 :: a4 :: a5 :: a6 :: a7 :: a8 :: some (.ref x) :: r) st σ := by
  obtain ⟨p, l', e, R, s, m, args, below, meth, c, nL, H0, A, E, Q⟩ := X
  obtain ⟨hx, hb, hml, hown, hTB, hK, hD, hA, hR, hlocks, rfl, hh0, hNs⟩ := hC
  exact fun H locs arr hn hP hS hl => lv_aload hx hb hd (g_loc hl 9 rfl) (kk H locs arr hn hP hS hl)
theorem g_ald10 {Lw : gL} {l : Launch} {X : gC} {cc : ByteArray} {own : String} {dd ca sa k n pc : Nat} {st : List Value} {σ : Mem} {a0 a1 a2 a3 a4 a5 a6 a7 a8 a9 : Option Value} {r : List (Option Value)} {x : Nat} (hC : gOk Lw l X cc own dd ca sa) (hd : decode cc pc = .ok (.aload 10, 2)) (kk : G Lw X k n (pc + 2) (a0 :: a1 :: a2 :: a3 :: a4 :: a5 :: a6 :: a7 :: a8 :: a9 :: some (.ref x) :: r) (.ref x :: st) σ) : G Lw X k n pc (a0 :: a1 :: a2 :: a3 :: a4 :: a5 :: a6 :: a7 :: a8 :: a9 :: some (.ref x) :: r) st σ := by
  obtain ⟨p, l', e, R, s, m, args, below, meth, c, nL, H0, A, E, Q⟩ := X
  obtain ⟨hx, hb, hml, hown, hTB, hK, hD, hA, hR, hlocks, rfl, hh0, hNs⟩ := hC
  exact fun H locs arr hn hP hS hl => lv_aload hx hb hd (g_loc hl 10 rfl) (kk H locs arr hn hP hS hl)
theorem g_ald11 {Lw : gL} {l : Launch} {X : gC} {cc : ByteArray} {own : String} {dd ca sa k n pc : Nat} {st : List Value} {σ : Mem} {a0 a1 a2 a3 a4 a5 a6 a7 a8 a9 a10 : Option Value} {r : List (Option Value)} {x : Nat} (hC : gOk Lw l X cc own dd ca sa) (hd : decode cc pc = .ok (.aload 11, 2)) (kk : G Lw X k n (pc + 2) (a0 :: a1 :: a2 :: a3 :: a4 :: a5 :: a6 :: a7 :: a8 :: a9 :: a10 :: some (.ref x) :: r) (.ref x :: st) σ) : G Lw X k n pc (a0 :: a1 :: a2 :: a3 :: a4 :: a5 :: a6 :: a7 :: a8 :: a9 :: a10 :: some (.ref x) :: r) st σ := by
  obtain ⟨p, l', e, R, s, m, args, below, meth, c, nL, H0, A, E, Q⟩ := X
  obtain ⟨hx, hb, hml, hown, hTB, hK, hD, hA, hR, hlocks, rfl, hh0, hNs⟩ := hC
  exact fun H locs arr hn hP hS hl => lv_aload hx hb hd (g_loc hl 11 rfl) (kk H locs arr hn hP hS hl)
theorem g_ald12 {Lw : gL} {l : Launch} {X : gC} {cc : ByteArray} {own : String} {dd ca sa k n pc : Nat} {st : List Value} {σ : Mem} {a0 a1 a2 a3 a4 a5 a6 a7 a8 a9 a10 a11 : Option Value} {r : List (Option Value)} {x : Nat} (hC : gOk Lw l X cc own dd ca sa) (hd : decode cc pc = .ok (.aload 12, 2)) (kk : G Lw X k n (pc + 2) (a0 :: a1 :: a2 :: a3 :: a4 :: a5 :: a6 :: a7 :: a8 :: a9 :: a10 :: a11 :: some (.ref x) :: r) (.ref x :: st) σ) : G Lw X k n pc (a0 :: a1 :: a2 :: a3 :: a4 :: a5 :: a6 :: a7 :: a8 :: a9 :: a10 :: a11 :: some (.ref x) :: r) st σ := by
  obtain ⟨p, l', e, R, s, m, args, below, meth, c, nL, H0, A, E, Q⟩ := X
  obtain ⟨hx, hb, hml, hown, hTB, hK, hD, hA, hR, hlocks, rfl, hh0, hNs⟩ := hC
  exact fun H locs arr hn hP hS hl => lv_aload hx hb hd (g_loc hl 12 rfl) (kk H locs arr hn hP hS hl)
theorem g_ald13 {Lw : gL} {l : Launch} {X : gC} {cc : ByteArray} {own : String} {dd ca sa k n pc : Nat} {st : List Value} {σ : Mem} {a0 a1 a2 a3 a4 a5 a6 a7 a8 a9 a10 a11 a12 : Option Value} {r : List (Option Value)} {x : Nat} (hC : gOk Lw l X cc own dd ca sa) (hd : decode cc pc = .ok (.aload 13, 2)) (kk : G Lw X k n (pc + 2) (a0 :: a1 :: a2 :: a3 :: a4 :: a5 :: a6 :: a7 :: a8 :: a9 :: a10 :: a11 :: a12 :: some (.ref x) :: r) (.ref x :: st) σ) : G Lw X k n pc (a0 :: a1 :: a2 :: a3 :: a4 :: a5 :: a6 :: a7 :: a8 :: a9 :: a10 :: a11 :: a12 :: some (.ref x) :: r) st σ := by
  obtain ⟨p, l', e, R, s, m, args, below, meth, c, nL, H0, A, E, Q⟩ := X
  obtain ⟨hx, hb, hml, hown, hTB, hK, hD, hA, hR, hlocks, rfl, hh0, hNs⟩ := hC
  exact fun H locs arr hn hP hS hl => lv_aload hx hb hd (g_loc hl 13 rfl) (kk H locs arr hn hP hS hl)
theorem g_lld0 {Lw : gL} {l : Launch} {X : gC} {cc : ByteArray} {own : String} {dd ca sa k n pc : Nat} {st : List Value} {σ : Mem} {r : List (Option Value)} {x : Int64} (hC : gOk Lw l X cc own dd ca sa) (hd : decode cc pc = .ok (.lload_n 0, 1)) (kk : G Lw X k n (pc + 1) (some (.long x) :: r) (.long x :: st) σ) : G Lw X k n pc (some (.long x) :: r) st σ := by
  obtain ⟨p, l', e, R, s, m, args, below, meth, c, nL, H0, A, E, Q⟩ := X
  obtain ⟨hx, hb, hml, hown, hTB, hK, hD, hA, hR, hlocks, rfl, hh0, hNs⟩ := hC
  exact fun H locs arr hn hP hS hl => lv_lload_n hx hb hd rfl (g_loc hl 0 rfl) (kk H locs arr hn hP hS hl)
theorem g_lld1 {Lw : gL} {l : Launch} {X : gC} {cc : ByteArray} {own : String} {dd ca sa k n pc : Nat} {st : List Value} {σ : Mem} {a0 : Option Value} {r : List (Option Value)} {x : Int64} (hC : gOk Lw l X cc own dd ca sa) (hd : decode cc pc = .ok (.lload_n 1, 1)) (kk : G Lw X k n (pc + 1) (a0 :: some (.long x) :: r) (.long x :: st) σ) : G Lw X k n pc (a0 :: some (.long x) :: r) st σ := by
  obtain ⟨p, l', e, R, s, m, args, below, meth, c, nL, H0, A, E, Q⟩ := X
  obtain ⟨hx, hb, hml, hown, hTB, hK, hD, hA, hR, hlocks, rfl, hh0, hNs⟩ := hC
  exact fun H locs arr hn hP hS hl => lv_lload_n hx hb hd rfl (g_loc hl 1 rfl) (kk H locs arr hn hP hS hl)
theorem g_lld2 {Lw : gL} {l : Launch} {X : gC} {cc : ByteArray} {own : String} {dd ca sa k n pc : Nat} {st : List Value} {σ : Mem} {a0 a1 : Option Value} {r : List (Option Value)} {x : Int64} (hC : gOk Lw l X cc own dd ca sa) (hd : decode cc pc = .ok (.lload_n 2, 1)) (kk : G Lw X k n (pc + 1) (a0 :: a1 :: some (.long x) :: r) (.long x :: st) σ) : G Lw X k n pc (a0 :: a1 :: some (.long x) :: r) st σ := by
  obtain ⟨p, l', e, R, s, m, args, below, meth, c, nL, H0, A, E, Q⟩ := X
  obtain ⟨hx, hb, hml, hown, hTB, hK, hD, hA, hR, hlocks, rfl, hh0, hNs⟩ := hC
  exact fun H locs arr hn hP hS hl => lv_lload_n hx hb hd rfl (g_loc hl 2 rfl) (kk H locs arr hn hP hS hl)
theorem g_lld3 {Lw : gL} {l : Launch} {X : gC} {cc : ByteArray} {own : String} {dd ca sa k n pc : Nat} {st : List Value} {σ : Mem} {a0 a1 a2 : Option Value} {r : List (Option Value)} {x : Int64} (hC : gOk Lw l X cc own dd ca sa) (hd : decode cc pc = .ok (.lload_n 3, 1)) (kk : G Lw X k n (pc + 1) (a0 :: a1 :: a2 :: some (.long x) :: r) (.long x :: st) σ) : G Lw X k n pc (a0 :: a1 :: a2 :: some (.long x) :: r) st σ := by
  obtain ⟨p, l', e, R, s, m, args, below, meth, c, nL, H0, A, E, Q⟩ := X
  obtain ⟨hx, hb, hml, hown, hTB, hK, hD, hA, hR, hlocks, rfl, hh0, hNs⟩ := hC
  exact fun H locs arr hn hP hS hl => lv_lload_n hx hb hd rfl (g_loc hl 3 rfl) (kk H locs arr hn hP hS hl)
theorem g_lld4 {Lw : gL} {l : Launch} {X : gC} {cc : ByteArray} {own : String} {dd ca sa k n pc : Nat} {st : List Value} {σ : Mem} {a0 a1 a2 a3 : Option Value} {r : List (Option Value)} {x : Int64} (hC : gOk Lw l X cc own dd ca sa) (hd : decode cc pc = .ok (.lload 4, 2)) (kk : G Lw X k n (pc + 2) (a0 :: a1 :: a2 :: a3 :: some (.long x) :: r) (.long x :: st) σ) : G Lw X k n pc (a0 :: a1 :: a2 :: a3 :: some (.long x) :: r) st σ := by
  obtain ⟨p, l', e, R, s, m, args, below, meth, c, nL, H0, A, E, Q⟩ := X
  obtain ⟨hx, hb, hml, hown, hTB, hK, hD, hA, hR, hlocks, rfl, hh0, hNs⟩ := hC
  exact fun H locs arr hn hP hS hl => lv_lload hx hb hd (g_loc hl 4 rfl) (kk H locs arr hn hP hS hl)
theorem g_lld5 {Lw : gL} {l : Launch} {X : gC} {cc : ByteArray} {own : String} {dd ca sa k n pc : Nat} {st : List Value} {σ : Mem} {a0 a1 a2 a3 a4 : Option Value} {r : List (Option Value)} {x : Int64} (hC : gOk Lw l X cc own dd ca sa) (hd : decode cc pc = .ok (.lload 5, 2)) (kk : G Lw X k n (pc + 2) (a0 :: a1 :: a2 :: a3 :: a4 :: some (.long x) :: r) (.long x :: st) σ) : G Lw X k n pc (a0 :: a1 :: a2 :: a3 :: a4 :: some (.long x) :: r) st σ := by
  obtain ⟨p, l', e, R, s, m, args, below, meth, c, nL, H0, A, E, Q⟩ := X
  obtain ⟨hx, hb, hml, hown, hTB, hK, hD, hA, hR, hlocks, rfl, hh0, hNs⟩ := hC
  exact fun H locs arr hn hP hS hl => lv_lload hx hb hd (g_loc hl 5 rfl) (kk H locs arr hn hP hS hl)
theorem g_lld6 {Lw : gL} {l : Launch} {X : gC} {cc : ByteArray} {own : String} {dd ca sa k n pc : Nat} {st : List Value} {σ : Mem} {a0 a1 a2 a3 a4 a5 : Option Value} {r : List (Option Value)} {x : Int64} (hC : gOk Lw l X cc own dd ca sa) (hd : decode cc pc = .ok (.lload 6, 2)) (kk : G Lw X k n (pc + 2) (a0 :: a1 :: a2 :: a3 :: a4 :: a5 :: some (.long x) :: r) (.long x :: st) σ) : G Lw X k n pc (a0 :: a1 :: a2 :: a3 :: a4 :: a5 :: some (.long x) :: r) st σ := by
  obtain ⟨p, l', e, R, s, m, args, below, meth, c, nL, H0, A, E, Q⟩ := X
  obtain ⟨hx, hb, hml, hown, hTB, hK, hD, hA, hR, hlocks, rfl, hh0, hNs⟩ := hC
  exact fun H locs arr hn hP hS hl => lv_lload hx hb hd (g_loc hl 6 rfl) (kk H locs arr hn hP hS hl)
theorem g_lld7 {Lw : gL} {l : Launch} {X : gC} {cc : ByteArray} {own : String} {dd ca sa k n pc : Nat} {st : List Value} {σ : Mem} {a0 a1 a2 a3 a4 a5 a6 : Option Value} {r : List (Option Value)} {x : Int64} (hC : gOk Lw l X cc own dd ca sa) (hd : decode cc pc = .ok (.lload 7, 2)) (kk : G Lw X k n (pc + 2) (a0 :: a1 :: a2 :: a3 :: a4 :: a5 :: a6 :: some (.long x) :: r) (.long x :: st) σ) : G Lw X k n pc (a0 :: a1 :: a2 :: a3 :: a4 :: a5 :: a6 :: some (.long x) :: r) st σ := by
  obtain ⟨p, l', e, R, s, m, args, below, meth, c, nL, H0, A, E, Q⟩ := X
  obtain ⟨hx, hb, hml, hown, hTB, hK, hD, hA, hR, hlocks, rfl, hh0, hNs⟩ := hC
  exact fun H locs arr hn hP hS hl => lv_lload hx hb hd (g_loc hl 7 rfl) (kk H locs arr hn hP hS hl)
theorem g_lld8 {Lw : gL} {l : Launch} {X : gC} {cc : ByteArray} {own : String} {dd ca sa k n pc : Nat} {st : List Value} {σ : Mem} {a0 a1 a2 a3 a4 a5 a6 a7 : Option Value} {r : List (Option Value)} {x : Int64} (hC : gOk Lw l X cc own dd ca sa) (hd : decode cc pc = .ok (.lload 8, 2)) (kk : G Lw X k n (pc + 2) (a0 :: a1 :: a2 :: a3 :: a4 :: a5 :: a6 :: a7 :: some (.long x) :: r) (.long x :: st) σ) : G Lw X k n pc (a0 :: a1 :: a2 :: a3 :: a4 :: a5 :: a6 :: a7 :: some (.long x) :: r) st σ := by
  obtain ⟨p, l', e, R, s, m, args, below, meth, c, nL, H0, A, E, Q⟩ := X
  obtain ⟨hx, hb, hml, hown, hTB, hK, hD, hA, hR, hlocks, rfl, hh0, hNs⟩ := hC
  exact fun H locs arr hn hP hS hl => lv_lload hx hb hd (g_loc hl 8 rfl) (kk H locs arr hn hP hS hl)
theorem g_lld9 {Lw : gL} {l : Launch} {X : gC} {cc : ByteArray} {own : String} {dd ca sa k n pc : Nat} {st : List Value} {σ : Mem} {a0 a1 a2 a3 a4 a5 a6 a7 a8 : Option Value} {r : List (Option Value)} {x : Int64} (hC : gOk Lw l X cc own dd ca sa) (hd : decode cc pc = .ok (.lload 9, 2)) (kk : G Lw X k n (pc + 2) (a0 :: a1 :: a2 :: a3 :: a4 :: a5 :: a6 :: a7 :: a8 :: some (.long x) :: r) (.long x :: st) σ) : G Lw X k n pc (a0 :: a1 :: a2 :: a3 :: a4 :: a5 :: a6 :: a7 :: a8 :: some (.long x) :: r) st σ := by
  obtain ⟨p, l', e, R, s, m, args, below, meth, c, nL, H0, A, E, Q⟩ := X
  obtain ⟨hx, hb, hml, hown, hTB, hK, hD, hA, hR, hlocks, rfl, hh0, hNs⟩ := hC
  exact fun H locs arr hn hP hS hl => lv_lload hx hb hd (g_loc hl 9 rfl) (kk H locs arr hn hP hS hl)
theorem g_lld10 {Lw : gL} {l : Launch} {X : gC} {cc : ByteArray} {own : String} {dd ca sa k n pc : Nat} {st : List Value} {σ : Mem} {a0 a1 a2 a3 a4 a5 a6 a7 a8 a9 : Option Value} {r : List (Option Value)} {x : Int64} (hC : gOk Lw l X cc own dd ca sa) (hd : decode cc pc = .ok (.lload 10, 2)) (kk : G Lw X k n (pc + 2) (a0 :: a1 :: a2 :: a3 :: a4 :: a5 :: a6 :: a7 :: a8 :: a9 :: some (.long x) :: r) (.long x :: st) σ) : G Lw X k n pc (a0 :: a1 :: a2 :: a3 :: a4 :: a5 :: a6 :: a7 :: a8 :: a9 :: some (.long x) :: r) st σ := by
  obtain ⟨p, l', e, R, s, m, args, below, meth, c, nL, H0, A, E, Q⟩ := X
  obtain ⟨hx, hb, hml, hown, hTB, hK, hD, hA, hR, hlocks, rfl, hh0, hNs⟩ := hC
  exact fun H locs arr hn hP hS hl => lv_lload hx hb hd (g_loc hl 10 rfl) (kk H locs arr hn hP hS hl)
theorem g_lld11 {Lw : gL} {l : Launch} {X : gC} {cc : ByteArray} {own : String} {dd ca sa k n pc : Nat} {st : List Value} {σ : Mem} {a0 a1 a2 a3 a4 a5 a6 a7 a8 a9 a10 : Option Value} {r : List (Option Value)} {x : Int64} (hC : gOk Lw l X cc own dd ca sa) (hd : decode cc pc = .ok (.lload 11, 2)) (kk : G Lw X k n (pc + 2) (a0 :: a1 :: a2 :: a3 :: a4 :: a5 :: a6 :: a7 :: a8 :: a9 :: a10 :: some (.long x) :: r) (.long x :: st) σ) : G Lw X k n pc (a0 :: a1 :: a2 :: a3 :: a4 :: a5 :: a6 :: a7 :: a8 :: a9 :: a10 :: some (.long x) :: r) st σ := by
  obtain ⟨p, l', e, R, s, m, args, below, meth, c, nL, H0, A, E, Q⟩ := X
  obtain ⟨hx, hb, hml, hown, hTB, hK, hD, hA, hR, hlocks, rfl, hh0, hNs⟩ := hC
  exact fun H locs arr hn hP hS hl => lv_lload hx hb hd (g_loc hl 11 rfl) (kk H locs arr hn hP hS hl)
theorem g_lld12 {Lw : gL} {l : Launch} {X : gC} {cc : ByteArray} {own : String} {dd ca sa k n pc : Nat} {st : List Value} {σ : Mem} {a0 a1 a2 a3 a4 a5 a6 a7 a8 a9 a10 a11 : Option Value} {r : List (Option Value)} {x : Int64} (hC : gOk Lw l X cc own dd ca sa) (hd : decode cc pc = .ok (.lload 12, 2)) (kk : G Lw X k n (pc + 2) (a0 :: a1 :: a2 :: a3 :: a4 :: a5 :: a6 :: a7 :: a8 :: a9 :: a10 :: a11 :: some (.long x) :: r) (.long x :: st) σ) : G Lw X k n pc (a0 :: a1 :: a2 :: a3 :: a4 :: a5 :: a6 :: a7 :: a8 :: a9 :: a10 :: a11 :: some (.long x) :: r) st σ := by
  obtain ⟨p, l', e, R, s, m, args, below, meth, c, nL, H0, A, E, Q⟩ := X
  obtain ⟨hx, hb, hml, hown, hTB, hK, hD, hA, hR, hlocks, rfl, hh0, hNs⟩ := hC
  exact fun H locs arr hn hP hS hl => lv_lload hx hb hd (g_loc hl 12 rfl) (kk H locs arr hn hP hS hl)
theorem g_lld13 {Lw : gL} {l : Launch} {X : gC} {cc : ByteArray} {own : String} {dd ca sa k n pc : Nat} {st : List Value} {σ : Mem} {a0 a1 a2 a3 a4 a5 a6 a7 a8 a9 a10 a11 a12 : Option Value} {r : List (Option Value)} {x : Int64} (hC : gOk Lw l X cc own dd ca sa) (hd : decode cc pc = .ok (.lload 13, 2)) (kk : G Lw X k n (pc + 2) (a0 :: a1 :: a2 :: a3 :: a4 :: a5 :: a6 :: a7 :: a8 :: a9 :: a10 :: a11 :: a12 :: some (.long x) :: r) (.long x :: st) σ) : G Lw X k n pc (a0 :: a1 :: a2 :: a3 :: a4 :: a5 :: a6 :: a7 :: a8 :: a9 :: a10 :: a11 :: a12 :: some (.long x) :: r) st σ := by
  obtain ⟨p, l', e, R, s, m, args, below, meth, c, nL, H0, A, E, Q⟩ := X
  obtain ⟨hx, hb, hml, hown, hTB, hK, hD, hA, hR, hlocks, rfl, hh0, hNs⟩ := hC
  exact fun H locs arr hn hP hS hl => lv_lload hx hb hd (g_loc hl 13 rfl) (kk H locs arr hn hP hS hl)
theorem g_dld0 {Lw : gL} {l : Launch} {X : gC} {cc : ByteArray} {own : String} {dd ca sa k n pc : Nat} {st : List Value} {σ : Mem} {r : List (Option Value)} {x : UInt64} (hC : gOk Lw l X cc own dd ca sa) (hd : decode cc pc = .ok (.dload_n 0, 1)) (kk : G Lw X k n (pc + 1) (some (.double x) :: r) (.double x :: st) σ) : G Lw X k n pc (some (.double x) :: r) st σ := by
  obtain ⟨p, l', e, R, s, m, args, below, meth, c, nL, H0, A, E, Q⟩ := X
  obtain ⟨hx, hb, hml, hown, hTB, hK, hD, hA, hR, hlocks, rfl, hh0, hNs⟩ := hC
  exact fun H locs arr hn hP hS hl => lv_dload_n hx hb hd rfl (g_loc hl 0 rfl) (kk H locs arr hn hP hS hl)
theorem g_dld1 {Lw : gL} {l : Launch} {X : gC} {cc : ByteArray} {own : String} {dd ca sa k n pc : Nat} {st : List Value} {σ : Mem} {a0 : Option Value} {r : List (Option Value)} {x : UInt64} (hC : gOk Lw l X cc own dd ca sa) (hd : decode cc pc = .ok (.dload_n 1, 1)) (kk : G Lw X k n (pc + 1) (a0 :: some (.double x) :: r) (.double x :: st) σ) : G Lw X k n pc (a0 :: some (.double x) :: r) st σ := by
  obtain ⟨p, l', e, R, s, m, args, below, meth, c, nL, H0, A, E, Q⟩ := X
  obtain ⟨hx, hb, hml, hown, hTB, hK, hD, hA, hR, hlocks, rfl, hh0, hNs⟩ := hC
  exact fun H locs arr hn hP hS hl => lv_dload_n hx hb hd rfl (g_loc hl 1 rfl) (kk H locs arr hn hP hS hl)
theorem g_dld2 {Lw : gL} {l : Launch} {X : gC} {cc : ByteArray} {own : String} {dd ca sa k n pc : Nat} {st : List Value} {σ : Mem} {a0 a1 : Option Value} {r : List (Option Value)} {x : UInt64} (hC : gOk Lw l X cc own dd ca sa) (hd : decode cc pc = .ok (.dload_n 2, 1)) (kk : G Lw X k n (pc + 1) (a0 :: a1 :: some (.double x) :: r) (.double x :: st) σ) : G Lw X k n pc (a0 :: a1 :: some (.double x) :: r) st σ := by
  obtain ⟨p, l', e, R, s, m, args, below, meth, c, nL, H0, A, E, Q⟩ := X
  obtain ⟨hx, hb, hml, hown, hTB, hK, hD, hA, hR, hlocks, rfl, hh0, hNs⟩ := hC
  exact fun H locs arr hn hP hS hl => lv_dload_n hx hb hd rfl (g_loc hl 2 rfl) (kk H locs arr hn hP hS hl)
theorem g_dld3 {Lw : gL} {l : Launch} {X : gC} {cc : ByteArray} {own : String} {dd ca sa k n pc : Nat} {st : List Value} {σ : Mem} {a0 a1 a2 : Option Value} {r : List (Option Value)} {x : UInt64} (hC : gOk Lw l X cc own dd ca sa) (hd : decode cc pc = .ok (.dload_n 3, 1)) (kk : G Lw X k n (pc + 1) (a0 :: a1 :: a2 :: some (.double x) :: r) (.double x :: st) σ) : G Lw X k n pc (a0 :: a1 :: a2 :: some (.double x) :: r) st σ := by
  obtain ⟨p, l', e, R, s, m, args, below, meth, c, nL, H0, A, E, Q⟩ := X
  obtain ⟨hx, hb, hml, hown, hTB, hK, hD, hA, hR, hlocks, rfl, hh0, hNs⟩ := hC
  exact fun H locs arr hn hP hS hl => lv_dload_n hx hb hd rfl (g_loc hl 3 rfl) (kk H locs arr hn hP hS hl)
theorem g_dld4 {Lw : gL} {l : Launch} {X : gC} {cc : ByteArray} {own : String} {dd ca sa k n pc : Nat} {st : List Value} {σ : Mem} {a0 a1 a2 a3 : Option Value} {r : List (Option Value)} {x : UInt64} (hC : gOk Lw l X cc own dd ca sa) (hd : decode cc pc = .ok (.dload 4, 2)) (kk : G Lw X k n (pc + 2) (a0 :: a1 :: a2 :: a3 :: some (.double x) :: r) (.double x :: st) σ) : G Lw X k n pc (a0 :: a1 :: a2 :: a3 :: some (.double x) :: r) st σ := by
  obtain ⟨p, l', e, R, s, m, args, below, meth, c, nL, H0, A, E, Q⟩ := X
  obtain ⟨hx, hb, hml, hown, hTB, hK, hD, hA, hR, hlocks, rfl, hh0, hNs⟩ := hC
  exact fun H locs arr hn hP hS hl => lv_dload hx hb hd (g_loc hl 4 rfl) (kk H locs arr hn hP hS hl)
theorem g_dld5 {Lw : gL} {l : Launch} {X : gC} {cc : ByteArray} {own : String} {dd ca sa k n pc : Nat} {st : List Value} {σ : Mem} {a0 a1 a2 a3 a4 : Option Value} {r : List (Option Value)} {x : UInt64} (hC : gOk Lw l X cc own dd ca sa) (hd : decode cc pc = .ok (.dload 5, 2)) (kk : G Lw X k n (pc + 2) (a0 :: a1 :: a2 :: a3 :: a4 :: some (.double x) :: r) (.double x :: st) σ) : G Lw X k n pc (a0 :: a1 :: a2 :: a3 :: a4 :: some (.double x) :: r) st σ := by
  obtain ⟨p, l', e, R, s, m, args, below, meth, c, nL, H0, A, E, Q⟩ := X
  obtain ⟨hx, hb, hml, hown, hTB, hK, hD, hA, hR, hlocks, rfl, hh0, hNs⟩ := hC
  exact fun H locs arr hn hP hS hl => lv_dload hx hb hd (g_loc hl 5 rfl) (kk H locs arr hn hP hS hl)
theorem g_dld6 {Lw : gL} {l : Launch} {X : gC} {cc : ByteArray} {own : String} {dd ca sa k n pc : Nat} {st : List Value} {σ : Mem} {a0 a1 a2 a3 a4 a5 : Option Value} {r : List (Option Value)} {x : UInt64} (hC : gOk Lw l X cc own dd ca sa) (hd : decode cc pc = .ok (.dload 6, 2)) (kk : G Lw X k n (pc + 2) (a0 :: a1 :: a2 :: a3 :: a4 :: a5 :: some (.double x) :: r) (.double x :: st) σ) : G Lw X k n pc (a0 :: a1 :: a2 :: a3 :: a4 :: a5 :: some (.double x) :: r) st σ := by
  obtain ⟨p, l', e, R, s, m, args, below, meth, c, nL, H0, A, E, Q⟩ := X
  obtain ⟨hx, hb, hml, hown, hTB, hK, hD, hA, hR, hlocks, rfl, hh0, hNs⟩ := hC
  exact fun H locs arr hn hP hS hl => lv_dload hx hb hd (g_loc hl 6 rfl) (kk H locs arr hn hP hS hl)
theorem g_dld7 {Lw : gL} {l : Launch} {X : gC} {cc : ByteArray} {own : String} {dd ca sa k n pc : Nat} {st : List Value} {σ : Mem} {a0 a1 a2 a3 a4 a5 a6 : Option Value} {r : List (Option Value)} {x : UInt64} (hC : gOk Lw l X cc own dd ca sa) (hd : decode cc pc = .ok (.dload 7, 2)) (kk : G Lw X k n (pc + 2) (a0 :: a1 :: a2 :: a3 :: a4 :: a5 :: a6 :: some (.double x) :: r) (.double x :: st) σ) : G Lw X k n pc (a0 :: a1 :: a2 :: a3 :: a4 :: a5 :: a6 :: some (.double x) :: r) st σ := by
  obtain ⟨p, l', e, R, s, m, args, below, meth, c, nL, H0, A, E, Q⟩ := X
  obtain ⟨hx, hb, hml, hown, hTB, hK, hD, hA, hR, hlocks, rfl, hh0, hNs⟩ := hC
  exact fun H locs arr hn hP hS hl => lv_dload hx hb hd (g_loc hl 7 rfl) (kk H locs arr hn hP hS hl)
theorem g_dld8 {Lw : gL} {l : Launch} {X : gC} {cc : ByteArray} {own : String} {dd ca sa k n pc : Nat} {st : List Value} {σ : Mem} {a0 a1 a2 a3 a4 a5 a6 a7 : Option Value} {r : List (Option Value)} {x : UInt64} (hC : gOk Lw l X cc own dd ca sa) (hd : decode cc pc = .ok (.dload 8, 2)) (kk : G Lw X k n (pc + 2) (a0 :: a1 :: a2 :: a3 :: a4 :: a5 :: a6 :: a7 :: some (.double x) :: r) (.double x :: st) σ) : G Lw X k n pc (a0 :: a1 :: a2 :: a3 :: a4 :: a5 :: a6 :: a7 :: some (.double x) :: r) st σ := by
  obtain ⟨p, l', e, R, s, m, args, below, meth, c, nL, H0, A, E, Q⟩ := X
  obtain ⟨hx, hb, hml, hown, hTB, hK, hD, hA, hR, hlocks, rfl, hh0, hNs⟩ := hC
  exact fun H locs arr hn hP hS hl => lv_dload hx hb hd (g_loc hl 8 rfl) (kk H locs arr hn hP hS hl)
theorem g_dld9 {Lw : gL} {l : Launch} {X : gC} {cc : ByteArray} {own : String} {dd ca sa k n pc : Nat} {st : List Value} {σ : Mem} {a0 a1 a2 a3 a4 a5 a6 a7 a8 : Option Value} {r : List (Option Value)} {x : UInt64} (hC : gOk Lw l X cc own dd ca sa) (hd : decode cc pc = .ok (.dload 9, 2)) (kk : G Lw X k n (pc + 2) (a0 :: a1 :: a2 :: a3 :: a4 :: a5 :: a6 :: a7 :: a8 :: some (.double x) :: r) (.double x :: st) σ) : G Lw X k n pc (a0 :: a1 :: a2 :: a3 :: a4 :: a5 :: a6 :: a7 :: a8 :: some (.double x) :: r) st σ := by
  obtain ⟨p, l', e, R, s, m, args, below, meth, c, nL, H0, A, E, Q⟩ := X
  obtain ⟨hx, hb, hml, hown, hTB, hK, hD, hA, hR, hlocks, rfl, hh0, hNs⟩ := hC
  exact fun H locs arr hn hP hS hl => lv_dload hx hb hd (g_loc hl 9 rfl) (kk H locs arr hn hP hS hl)
theorem g_dld10 {Lw : gL} {l : Launch} {X : gC} {cc : ByteArray} {own : String} {dd ca sa k n pc : Nat} {st : List Value} {σ : Mem} {a0 a1 a2 a3 a4 a5 a6 a7 a8 a9 : Option Value} {r : List (Option Value)} {x : UInt64} (hC : gOk Lw l X cc own dd ca sa) (hd : decode cc pc = .ok (.dload 10, 2)) (kk : G Lw X k n (pc + 2) (a0 :: a1 :: a2 :: a3 :: a4 :: a5 :: a6 :: a7 :: a8 :: a9 :: some (.double x) :: r) (.double x :: st) σ) : G Lw X k n pc (a0 :: a1 :: a2 :: a3 :: a4 :: a5 :: a6 :: a7 :: a8 :: a9 :: some (.double x) :: r) st σ := by
  obtain ⟨p, l', e, R, s, m, args, below, meth, c, nL, H0, A, E, Q⟩ := X
  obtain ⟨hx, hb, hml, hown, hTB, hK, hD, hA, hR, hlocks, rfl, hh0, hNs⟩ := hC
  exact fun H locs arr hn hP hS hl => lv_dload hx hb hd (g_loc hl 10 rfl) (kk H locs arr hn hP hS hl)
theorem g_dld11 {Lw : gL} {l : Launch} {X : gC} {cc : ByteArray} {own : String} {dd ca sa k n pc : Nat} {st : List Value} {σ : Mem} {a0 a1 a2 a3 a4 a5 a6 a7 a8 a9 a10 : Option Value} {r : List (Option Value)} {x : UInt64} (hC : gOk Lw l X cc own dd ca sa) (hd : decode cc pc = .ok (.dload 11, 2)) (kk : G Lw X k n (pc + 2) (a0 :: a1 :: a2 :: a3 :: a4 :: a5 :: a6 :: a7 :: a8 :: a9 :: a10 :: some (.double x) :: r) (.double x :: st) σ) : G Lw X k n pc (a0 :: a1 :: a2 :: a3 :: a4 :: a5 :: a6 :: a7 :: a8 :: a9 :: a10 :: some (.double x) :: r) st σ := by
  obtain ⟨p, l', e, R, s, m, args, below, meth, c, nL, H0, A, E, Q⟩ := X
  obtain ⟨hx, hb, hml, hown, hTB, hK, hD, hA, hR, hlocks, rfl, hh0, hNs⟩ := hC
  exact fun H locs arr hn hP hS hl => lv_dload hx hb hd (g_loc hl 11 rfl) (kk H locs arr hn hP hS hl)
theorem g_dld12 {Lw : gL} {l : Launch} {X : gC} {cc : ByteArray} {own : String} {dd ca sa k n pc : Nat} {st : List Value} {σ : Mem} {a0 a1 a2 a3 a4 a5 a6 a7 a8 a9 a10 a11 : Option Value} {r : List (Option Value)} {x : UInt64} (hC : gOk Lw l X cc own dd ca sa) (hd : decode cc pc = .ok (.dload 12, 2)) (kk : G Lw X k n (pc + 2) (a0 :: a1 :: a2 :: a3 :: a4 :: a5 :: a6 :: a7 :: a8 :: a9 :: a10 :: a11 :: some (.double x) :: r) (.double x :: st) σ) : G Lw X k n pc (a0 :: a1 :: a2 :: a3 :: a4 :: a5 :: a6 :: a7 :: a8 :: a9 :: a10 :: a11 :: some (.double x) :: r) st σ := by
  obtain ⟨p, l', e, R, s, m, args, below, meth, c, nL, H0, A, E, Q⟩ := X
  obtain ⟨hx, hb, hml, hown, hTB, hK, hD, hA, hR, hlocks, rfl, hh0, hNs⟩ := hC
  exact fun H locs arr hn hP hS hl => lv_dload hx hb hd (g_loc hl 12 rfl) (kk H locs arr hn hP hS hl)
theorem g_dld13 {Lw : gL} {l : Launch} {X : gC} {cc : ByteArray} {own : String} {dd ca sa k n pc : Nat} {st : List Value} {σ : Mem} {a0 a1 a2 a3 a4 a5 a6 a7 a8 a9 a10 a11 a12 : Option Value} {r : List (Option Value)} {x : UInt64} (hC : gOk Lw l X cc own dd ca sa) (hd : decode cc pc = .ok (.dload 13, 2)) (kk : G Lw X k n (pc + 2) (a0 :: a1 :: a2 :: a3 :: a4 :: a5 :: a6 :: a7 :: a8 :: a9 :: a10 :: a11 :: a12 :: some (.double x) :: r) (.double x :: st) σ) : G Lw X k n pc (a0 :: a1 :: a2 :: a3 :: a4 :: a5 :: a6 :: a7 :: a8 :: a9 :: a10 :: a11 :: a12 :: some (.double x) :: r) st σ := by
  obtain ⟨p, l', e, R, s, m, args, below, meth, c, nL, H0, A, E, Q⟩ := X
  obtain ⟨hx, hb, hml, hown, hTB, hK, hD, hA, hR, hlocks, rfl, hh0, hNs⟩ := hC
  exact fun H locs arr hn hP hS hl => lv_dload hx hb hd (g_loc hl 13 rfl) (kk H locs arr hn hP hS hl)
theorem g_ist0 {Lw : gL} {l : Launch} {X : gC} {cc : ByteArray} {own : String} {dd ca sa k n pc : Nat} {st : List Value} {σ : Mem} {r : List (Option Value)} {b : Option Value} {x : Int32} (hC : gOk Lw l X cc own dd ca sa) (hd : decode cc pc = .ok (.istore_n 0, 1)) (kk : G Lw X k n (pc + 1) (some (.int x) :: r) st σ) : G Lw X k n pc (b :: r) (.int x :: st) σ := by
  obtain ⟨p, l', e, R, s, m, args, below, meth, c, nL, H0, A, E, Q⟩ := X
  obtain ⟨hx, hb, hml, hown, hTB, hK, hD, hA, hR, hlocks, rfl, hh0, hNs⟩ := hC
  exact fun H locs arr hn hP hS hl => lv_istore_n (i := 0) hx hb hd rfl hl (by rw [← hn]; simp only [List.length_cons]; omega) rfl (fun arr1 hl1 => kk H locs arr1 hn hP hS (g_fil1 hl1 (fun j hj => absurd hj (by omega))))
theorem g_ist1 {Lw : gL} {l : Launch} {X : gC} {cc : ByteArray} {own : String} {dd ca sa k n pc : Nat} {st : List Value} {σ : Mem} {a0 : Option Value} {r : List (Option Value)} {b : Option Value} {x : Int32} (hC : gOk Lw l X cc own dd ca sa) (hd : decode cc pc = .ok (.istore_n 1, 1)) (hp : g1 a0 = true) (kk : G Lw X k n (pc + 1) (a0 :: some (.int x) :: r) st σ) : G Lw X k n pc (a0 :: b :: r) (.int x :: st) σ := by
  obtain ⟨p, l', e, R, s, m, args, below, meth, c, nL, H0, A, E, Q⟩ := X
  obtain ⟨hx, hb, hml, hown, hTB, hK, hD, hA, hR, hlocks, rfl, hh0, hNs⟩ := hC
  exact fun H locs arr hn hP hS hl => lv_istore_n (i := 1) hx hb hd rfl hl (by rw [← hn]; simp only [List.length_cons]; omega) rfl (fun arr1 hl1 => kk H locs arr1 hn hP hS (g_fil1 hl1 (fun j hj w hw => g1_spec hp w (by obtain rfl : j = 0 := (by omega); exact Option.some.inj hw))))
theorem g_ist2 {Lw : gL} {l : Launch} {X : gC} {cc : ByteArray} {own : String} {dd ca sa k n pc : Nat} {st : List Value} {σ : Mem} {a0 a1 : Option Value} {r : List (Option Value)} {b : Option Value} {x : Int32} (hC : gOk Lw l X cc own dd ca sa) (hd : decode cc pc = .ok (.istore_n 2, 1)) (hp : g1 a1 = true) (kk : G Lw X k n (pc + 1) (a0 :: a1 :: some (.int x) :: r) st σ) : G Lw X k n pc (a0 :: a1 :: b :: r) (.int x :: st) σ := by
  obtain ⟨p, l', e, R, s, m, args, below, meth, c, nL, H0, A, E, Q⟩ := X
  obtain ⟨hx, hb, hml, hown, hTB, hK, hD, hA, hR, hlocks, rfl, hh0, hNs⟩ := hC
  exact fun H locs arr hn hP hS hl => lv_istore_n (i := 2) hx hb hd rfl hl (by rw [← hn]; simp only [List.length_cons]; omega) rfl (fun arr1 hl1 => kk H locs arr1 hn hP hS (g_fil1 hl1 (fun j hj w hw => g1_spec hp w (by obtain rfl : j = 1 := (by omega); exact Option.some.inj hw))))
theorem g_ist3 {Lw : gL} {l : Launch} {X : gC} {cc : ByteArray} {own : String} {dd ca sa k n pc : Nat} {st : List Value} {σ : Mem} {a0 a1 a2 : Option Value} {r : List (Option Value)} {b : Option Value} {x : Int32} (hC : gOk Lw l X cc own dd ca sa) (hd : decode cc pc = .ok (.istore_n 3, 1)) (hp : g1 a2 = true) (kk : G Lw X k n (pc + 1) (a0 :: a1 :: a2 :: some (.int x) :: r) st σ) : G Lw X k n pc (a0 :: a1 :: a2 :: b :: r) (.int x :: st) σ := by
  obtain ⟨p, l', e, R, s, m, args, below, meth, c, nL, H0, A, E, Q⟩ := X
  obtain ⟨hx, hb, hml, hown, hTB, hK, hD, hA, hR, hlocks, rfl, hh0, hNs⟩ := hC
  exact fun H locs arr hn hP hS hl => lv_istore_n (i := 3) hx hb hd rfl hl (by rw [← hn]; simp only [List.length_cons]; omega) rfl (fun arr1 hl1 => kk H locs arr1 hn hP hS (g_fil1 hl1 (fun j hj w hw => g1_spec hp w (by obtain rfl : j = 2 := (by omega); exact Option.some.inj hw))))
theorem g_ist4 {Lw : gL} {l : Launch} {X : gC} {cc : ByteArray} {own : String} {dd ca sa k n pc : Nat} {st : List Value} {σ : Mem} {a0 a1 a2 a3 : Option Value} {r : List (Option Value)} {b : Option Value} {x : Int32} (hC : gOk Lw l X cc own dd ca sa) (hd : decode cc pc = .ok (.istore 4, 2)) (hp : g1 a3 = true) (kk : G Lw X k n (pc + 2) (a0 :: a1 :: a2 :: a3 :: some (.int x) :: r) st σ) : G Lw X k n pc (a0 :: a1 :: a2 :: a3 :: b :: r) (.int x :: st) σ := by
  obtain ⟨p, l', e, R, s, m, args, below, meth, c, nL, H0, A, E, Q⟩ := X
  obtain ⟨hx, hb, hml, hown, hTB, hK, hD, hA, hR, hlocks, rfl, hh0, hNs⟩ := hC
  exact fun H locs arr hn hP hS hl => lv_istore hx hb hd hl (by rw [← hn]; simp only [List.length_cons]; omega) rfl (fun arr1 hl1 => kk H locs arr1 hn hP hS (g_fil1 hl1 (fun j hj w hw => g1_spec hp w (by obtain rfl : j = 3 := (by omega); exact Option.some.inj hw))))
theorem g_ist5 {Lw : gL} {l : Launch} {X : gC} {cc : ByteArray} {own : String} {dd ca sa k n pc : Nat} {st : List Value} {σ : Mem} {a0 a1 a2 a3 a4 : Option Value} {r : List (Option Value)} {b : Option Value} {x : Int32} (hC : gOk Lw l X cc own dd ca sa) (hd : decode cc pc = .ok (.istore 5, 2)) (hp : g1 a4 = true) (kk : G Lw X k n (pc + 2) (a0 :: a1 :: a2 :: a3 :: a4 :: some (.int x) :: r) st σ) : G Lw X k n pc (a0 :: a1 :: a2 :: a3 :: a4 :: b :: r) (.int x :: st) σ := by
  obtain ⟨p, l', e, R, s, m, args, below, meth, c, nL, H0, A, E, Q⟩ := X
  obtain ⟨hx, hb, hml, hown, hTB, hK, hD, hA, hR, hlocks, rfl, hh0, hNs⟩ := hC
  exact fun H locs arr hn hP hS hl => lv_istore hx hb hd hl (by rw [← hn]; simp only [List.length_cons]; omega) rfl (fun arr1 hl1 => kk H locs arr1 hn hP hS (g_fil1 hl1 (fun j hj w hw => g1_spec hp w (by obtain rfl : j = 4 := (by omega); exact Option.some.inj hw))))
theorem g_ist6 {Lw : gL} {l : Launch} {X : gC} {cc : ByteArray} {own : String} {dd ca sa k n pc : Nat} {st : List Value} {σ : Mem} {a0 a1 a2 a3 a4 a5 : Option Value} {r : List (Option Value)} {b : Option Value} {x : Int32} (hC : gOk Lw l X cc own dd ca sa) (hd : decode cc pc = .ok (.istore 6, 2)) (hp : g1 a5 = true) (kk : G Lw X k n (pc + 2) (a0 :: a1 :: a2 :: a3 :: a4 :: a5 :: some (.int x) :: r) st σ) : G Lw X k n pc (a0 :: a1 :: a2 :: a3 :: a4 :: a5 :: b :: r) (.int x :: st) σ := by
  obtain ⟨p, l', e, R, s, m, args, below, meth, c, nL, H0, A, E, Q⟩ := X
  obtain ⟨hx, hb, hml, hown, hTB, hK, hD, hA, hR, hlocks, rfl, hh0, hNs⟩ := hC
  exact fun H locs arr hn hP hS hl => lv_istore hx hb hd hl (by rw [← hn]; simp only [List.length_cons]; omega) rfl (fun arr1 hl1 => kk H locs arr1 hn hP hS (g_fil1 hl1 (fun j hj w hw => g1_spec hp w (by obtain rfl : j = 5 := (by omega); exact Option.some.inj hw))))
theorem g_ist7 {Lw : gL} {l : Launch} {X : gC} {cc : ByteArray} {own : String} {dd ca sa k n pc : Nat} {st : List Value} {σ : Mem} {a0 a1 a2 a3 a4 a5 a6 : Option Value} {r : List (Option Value)} {b : Option Value} {x : Int32} (hC : gOk Lw l X cc own dd ca sa) (hd : decode cc pc = .ok (.istore 7, 2)) (hp : g1 a6 = true) (kk : G Lw X k n (pc + 2) (a0 :: a1 :: a2 :: a3 :: a4 :: a5 :: a6 :: some (.int x) :: r) st σ) : G Lw X k n pc (a0 :: a1 :: a2 :: a3 :: a4 :: a5 :: a6 :: b :: r) (.int x :: st) σ := by
  obtain ⟨p, l', e, R, s, m, args, below, meth, c, nL, H0, A, E, Q⟩ := X
  obtain ⟨hx, hb, hml, hown, hTB, hK, hD, hA, hR, hlocks, rfl, hh0, hNs⟩ := hC
  exact fun H locs arr hn hP hS hl => lv_istore hx hb hd hl (by rw [← hn]; simp only [List.length_cons]; omega) rfl (fun arr1 hl1 => kk H locs arr1 hn hP hS (g_fil1 hl1 (fun j hj w hw => g1_spec hp w (by obtain rfl : j = 6 := (by omega); exact Option.some.inj hw))))
theorem g_ist8 {Lw : gL} {l : Launch} {X : gC} {cc : ByteArray} {own : String} {dd ca sa k n pc : Nat} {st : List Value} {σ : Mem} {a0 a1 a2 a3 a4 a5 a6 a7 : Option Value} {r : List (Option Value)} {b : Option Value} {x : Int32} (hC : gOk Lw l X cc own dd ca sa) (hd : decode cc pc = .ok (.istore 8, 2)) (hp : g1 a7 = true) (kk : G Lw X k n (pc + 2) (a0 :: a1 :: a2 :: a3 :: a4 :: a5 :: a6 :: a7 :: some (.int x) :: r) st σ) : G Lw X k n pc (a0 :: a1 :: a2 :: a3 :: a4 :: a5 :: a6 :: a7 :: b :: r) (.int x :: st) σ := by
  obtain ⟨p, l', e, R, s, m, args, below, meth, c, nL, H0, A, E, Q⟩ := X
  obtain ⟨hx, hb, hml, hown, hTB, hK, hD, hA, hR, hlocks, rfl, hh0, hNs⟩ := hC
  exact fun H locs arr hn hP hS hl => lv_istore hx hb hd hl (by rw [← hn]; simp only [List.length_cons]; omega) rfl (fun arr1 hl1 => kk H locs arr1 hn hP hS (g_fil1 hl1 (fun j hj w hw => g1_spec hp w (by obtain rfl : j = 7 := (by omega); exact Option.some.inj hw))))
theorem g_ist9 {Lw : gL} {l : Launch} {X : gC} {cc : ByteArray} {own : String} {dd ca sa k n pc : Nat} {st : List Value} {σ : Mem} {a0 a1 a2 a3 a4 a5 a6 a7 a8 : Option Value} {r : List (Option Value)} {b : Option Value} {x : Int32} (hC : gOk Lw l X cc own dd ca sa) (hd : decode cc pc = .ok (.istore 9, 2)) (hp : g1 a8 = true) (kk : G Lw X k n (pc + 2) (a0 :: a1 :: a2 :: a3 :: a4 :: a5 :: a6 :: a7 :: a8 :: some (.int x) :: r) st σ) : G Lw X k n pc (a0 :: a1 :: a2 :: a3 :: a4 :: a5 :: a6 :: a7 :: a8 :: b :: r) (.int x :: st) σ := by
  obtain ⟨p, l', e, R, s, m, args, below, meth, c, nL, H0, A, E, Q⟩ := X
  obtain ⟨hx, hb, hml, hown, hTB, hK, hD, hA, hR, hlocks, rfl, hh0, hNs⟩ := hC
  exact fun H locs arr hn hP hS hl => lv_istore hx hb hd hl (by rw [← hn]; simp only [List.length_cons]; omega) rfl (fun arr1 hl1 => kk H locs arr1 hn hP hS (g_fil1 hl1 (fun j hj w hw => g1_spec hp w (by obtain rfl : j = 8 := (by omega); exact Option.some.inj hw))))
theorem g_ist10 {Lw : gL} {l : Launch} {X : gC} {cc : ByteArray} {own : String} {dd ca sa k n pc : Nat} {st : List Value} {σ : Mem} {a0 a1 a2 a3 a4 a5 a6 a7 a8 a9 : Option Value} {r : List (Option Value)} {b : Option Value} {x : Int32} (hC : gOk Lw l X cc own dd ca sa) (hd : decode cc pc = .ok (.istore 10, 2)) (hp : g1 a9 = true) (kk : G Lw X k n (pc + 2) (a0 :: a1 :: a2 :: a3 :: a4 :: a5 :: a6 :: a7 :: a8 :: a9 :: some (.int x) :: r) st σ) : G Lw X k n pc (a0 :: a1 :: a2 :: a3 :: a4 :: a5 :: a6 :: a7 :: a8 :: a9 :: b :: r) (.int x :: st) σ := by
  obtain ⟨p, l', e, R, s, m, args, below, meth, c, nL, H0, A, E, Q⟩ := X
  obtain ⟨hx, hb, hml, hown, hTB, hK, hD, hA, hR, hlocks, rfl, hh0, hNs⟩ := hC
  exact fun H locs arr hn hP hS hl => lv_istore hx hb hd hl (by rw [← hn]; simp only [List.length_cons]; omega) rfl (fun arr1 hl1 => kk H locs arr1 hn hP hS (g_fil1 hl1 (fun j hj w hw => g1_spec hp w (by obtain rfl : j = 9 := (by omega); exact Option.some.inj hw))))
theorem g_ist11 {Lw : gL} {l : Launch} {X : gC} {cc : ByteArray} {own : String} {dd ca sa k n pc : Nat} {st : List Value} {σ : Mem} {a0 a1 a2 a3 a4 a5 a6 a7 a8 a9 a10 : Option Value} {r : List (Option Value)} {b : Option Value} {x : Int32} (hC : gOk Lw l X cc own dd ca sa) (hd : decode cc pc = .ok (.istore 11, 2)) (hp : g1 a10 = true) (kk : G Lw X k n (pc + 2) (a0 :: a1 :: a2 :: a3 :: a4 :: a5 :: a6 :: a7 :: a8 :: a9 :: a10 :: some (.int x) :: r) st σ) : G Lw X k n pc (a0 :: a1 :: a2 :: a3 :: a4 :: a5 :: a6 :: a7 :: a8 :: a9 :: a10 :: b :: r) (.int x :: st) σ := by
  obtain ⟨p, l', e, R, s, m, args, below, meth, c, nL, H0, A, E, Q⟩ := X
  obtain ⟨hx, hb, hml, hown, hTB, hK, hD, hA, hR, hlocks, rfl, hh0, hNs⟩ := hC
  exact fun H locs arr hn hP hS hl => lv_istore hx hb hd hl (by rw [← hn]; simp only [List.length_cons]; omega) rfl (fun arr1 hl1 => kk H locs arr1 hn hP hS (g_fil1 hl1 (fun j hj w hw => g1_spec hp w (by obtain rfl : j = 10 := (by omega); exact Option.some.inj hw))))
theorem g_ist12 {Lw : gL} {l : Launch} {X : gC} {cc : ByteArray} {own : String} {dd ca sa k n pc : Nat} {st : List Value} {σ : Mem} {a0 a1 a2 a3 a4 a5 a6 a7 a8 a9 a10 a11 : Option Value} {r : List (Option Value)} {b : Option Value} {x : Int32} (hC : gOk Lw l X cc own dd ca sa) (hd : decode cc pc = .ok (.istore 12, 2)) (hp : g1 a11 = true) (kk : G Lw X k n (pc + 2) (a0 :: a1 :: a2 :: a3 :: a4 :: a5 :: a6 :: a7 :: a8 :: a9 :: a10 :: a11 :: some (.int x) :: r) st σ) : G Lw X k n pc (a0 :: a1 :: a2 :: a3 :: a4 :: a5 :: a6 :: a7 :: a8 :: a9 :: a10 :: a11 :: b :: r) (.int x :: st) σ := by
  obtain ⟨p, l', e, R, s, m, args, below, meth, c, nL, H0, A, E, Q⟩ := X
  obtain ⟨hx, hb, hml, hown, hTB, hK, hD, hA, hR, hlocks, rfl, hh0, hNs⟩ := hC
  exact fun H locs arr hn hP hS hl => lv_istore hx hb hd hl (by rw [← hn]; simp only [List.length_cons]; omega) rfl (fun arr1 hl1 => kk H locs arr1 hn hP hS (g_fil1 hl1 (fun j hj w hw => g1_spec hp w (by obtain rfl : j = 11 := (by omega); exact Option.some.inj hw))))
theorem g_ist13 {Lw : gL} {l : Launch} {X : gC} {cc : ByteArray} {own : String} {dd ca sa k n pc : Nat} {st : List Value} {σ : Mem} {a0 a1 a2 a3 a4 a5 a6 a7 a8 a9 a10 a11 a12 : Option Value} {r : List (Option Value)} {b : Option Value} {x : Int32} (hC : gOk Lw l X cc own dd ca sa) (hd : decode cc pc = .ok (.istore 13, 2)) (hp : g1 a12 = true) (kk : G Lw X k n (pc + 2) (a0 :: a1 :: a2 :: a3 :: a4 :: a5 :: a6 :: a7 :: a8 :: a9 :: a10 :: a11 :: a12 :: some (.int x) :: r) st σ) : G Lw X k n pc (a0 :: a1 :: a2 :: a3 :: a4 :: a5 :: a6 :: a7 :: a8 :: a9 :: a10 :: a11 :: a12 :: b :: r) (.int x :: st) σ := by
  obtain ⟨p, l', e, R, s, m, args, below, meth, c, nL, H0, A, E, Q⟩ := X
  obtain ⟨hx, hb, hml, hown, hTB, hK, hD, hA, hR, hlocks, rfl, hh0, hNs⟩ := hC
  exact fun H locs arr hn hP hS hl => lv_istore hx hb hd hl (by rw [← hn]; simp only [List.length_cons]; omega) rfl (fun arr1 hl1 => kk H locs arr1 hn hP hS (g_fil1 hl1 (fun j hj w hw => g1_spec hp w (by obtain rfl : j = 12 := (by omega); exact Option.some.inj hw))))
theorem g_ast0 {Lw : gL} {l : Launch} {X : gC} {cc : ByteArray} {own : String} {dd ca sa k n pc : Nat} {st : List Value} {σ : Mem} {r : List (Option Value)} {b : Option Value} {x : Nat} (hC : gOk Lw l X cc own dd ca sa) (hd : decode cc pc = .ok (.astore_n 0, 1)) (kk : G Lw X k n (pc + 1) (some (.ref x) :: r) st σ) : G Lw X k n pc (b :: r) (.ref x :: st) σ := by
  obtain ⟨p, l', e, R, s, m, args, below, meth, c, nL, H0, A, E, Q⟩ := X
  obtain ⟨hx, hb, hml, hown, hTB, hK, hD, hA, hR, hlocks, rfl, hh0, hNs⟩ := hC
  exact fun H locs arr hn hP hS hl => lv_astore_n (i := 0) hx hb hd rfl hl (by rw [← hn]; simp only [List.length_cons]; omega) rfl (fun arr1 hl1 => kk H locs arr1 hn hP hS (g_fil1 hl1 (fun j hj => absurd hj (by omega))))
theorem g_ast1 {Lw : gL} {l : Launch} {X : gC} {cc : ByteArray} {own : String} {dd ca sa k n pc : Nat} {st : List Value} {σ : Mem} {a0 : Option Value} {r : List (Option Value)} {b : Option Value} {x : Nat} (hC : gOk Lw l X cc own dd ca sa) (hd : decode cc pc = .ok (.astore_n 1, 1)) (hp : g1 a0 = true) (kk : G Lw X k n (pc + 1) (a0 :: some (.ref x) :: r) st σ) : G Lw X k n pc (a0 :: b :: r) (.ref x :: st) σ := by
  obtain ⟨p, l', e, R, s, m, args, below, meth, c, nL, H0, A, E, Q⟩ := X
  obtain ⟨hx, hb, hml, hown, hTB, hK, hD, hA, hR, hlocks, rfl, hh0, hNs⟩ := hC
  exact fun H locs arr hn hP hS hl => lv_astore_n (i := 1) hx hb hd rfl hl (by rw [← hn]; simp only [List.length_cons]; omega) rfl (fun arr1 hl1 => kk H locs arr1 hn hP hS (g_fil1 hl1 (fun j hj w hw => g1_spec hp w (by obtain rfl : j = 0 := (by omega); exact Option.some.inj hw))))
theorem g_ast2 {Lw : gL} {l : Launch} {X : gC} {cc : ByteArray} {own : String} {dd ca sa k n pc : Nat} {st : List Value} {σ : Mem} {a0 a1 : Option Value} {r : List (Option Value)} {b : Option Value} {x : Nat} (hC : gOk Lw l X cc own dd ca sa) (hd : decode cc pc = .ok (.astore_n 2, 1)) (hp : g1 a1 = true) (kk : G Lw X k n (pc + 1) (a0 :: a1 :: some (.ref x) :: r) st σ) : G Lw X k n pc (a0 :: a1 :: b :: r) (.ref x :: st) σ := by
  obtain ⟨p, l', e, R, s, m, args, below, meth, c, nL, H0, A, E, Q⟩ := X
  obtain ⟨hx, hb, hml, hown, hTB, hK, hD, hA, hR, hlocks, rfl, hh0, hNs⟩ := hC
  exact fun H locs arr hn hP hS hl => lv_astore_n (i := 2) hx hb hd rfl hl (by rw [← hn]; simp only [List.length_cons]; omega) rfl (fun arr1 hl1 => kk H locs arr1 hn hP hS (g_fil1 hl1 (fun j hj w hw => g1_spec hp w (by obtain rfl : j = 1 := (by omega); exact Option.some.inj hw))))
theorem g_ast3 {Lw : gL} {l : Launch} {X : gC} {cc : ByteArray} {own : String} {dd ca sa k n pc : Nat} {st : List Value} {σ : Mem} {a0 a1 a2 : Option Value} {r : List (Option Value)} {b : Option Value} {x : Nat} (hC : gOk Lw l X cc own dd ca sa) (hd : decode cc pc = .ok (.astore_n 3, 1)) (hp : g1 a2 = true) (kk : G Lw X k n (pc + 1) (a0 :: a1 :: a2 :: some (.ref x) :: r) st σ) : G Lw X k n pc (a0 :: a1 :: a2 :: b :: r) (.ref x :: st) σ := by
  obtain ⟨p, l', e, R, s, m, args, below, meth, c, nL, H0, A, E, Q⟩ := X
  obtain ⟨hx, hb, hml, hown, hTB, hK, hD, hA, hR, hlocks, rfl, hh0, hNs⟩ := hC
  exact fun H locs arr hn hP hS hl => lv_astore_n (i := 3) hx hb hd rfl hl (by rw [← hn]; simp only [List.length_cons]; omega) rfl (fun arr1 hl1 => kk H locs arr1 hn hP hS (g_fil1 hl1 (fun j hj w hw => g1_spec hp w (by obtain rfl : j = 2 := (by omega); exact Option.some.inj hw))))
theorem g_ast4 {Lw : gL} {l : Launch} {X : gC} {cc : ByteArray} {own : String} {dd ca sa k n pc : Nat} {st : List Value} {σ : Mem} {a0 a1 a2 a3 : Option Value} {r : List (Option Value)} {b : Option Value} {x : Nat} (hC : gOk Lw l X cc own dd ca sa) (hd : decode cc pc = .ok (.astore 4, 2)) (hp : g1 a3 = true) (kk : G Lw X k n (pc + 2) (a0 :: a1 :: a2 :: a3 :: some (.ref x) :: r) st σ) : G Lw X k n pc (a0 :: a1 :: a2 :: a3 :: b :: r) (.ref x :: st) σ := by
  obtain ⟨p, l', e, R, s, m, args, below, meth, c, nL, H0, A, E, Q⟩ := X
  obtain ⟨hx, hb, hml, hown, hTB, hK, hD, hA, hR, hlocks, rfl, hh0, hNs⟩ := hC
  exact fun H locs arr hn hP hS hl => lv_astore hx hb hd hl (by rw [← hn]; simp only [List.length_cons]; omega) rfl (fun arr1 hl1 => kk H locs arr1 hn hP hS (g_fil1 hl1 (fun j hj w hw => g1_spec hp w (by obtain rfl : j = 3 := (by omega); exact Option.some.inj hw))))
theorem g_ast5 {Lw : gL} {l : Launch} {X : gC} {cc : ByteArray} {own : String} {dd ca sa k n pc : Nat} {st : List Value} {σ : Mem} {a0 a1 a2 a3 a4 : Option Value} {r : List (Option Value)} {b : Option Value} {x : Nat} (hC : gOk Lw l X cc own dd ca sa) (hd : decode cc pc = .ok (.astore 5, 2)) (hp : g1 a4 = true) (kk : G Lw X k n (pc + 2) (a0 :: a1 :: a2 :: a3 :: a4 :: some (.ref x) :: r) st σ) : G Lw X k n pc (a0 :: a1 :: a2 :: a3 :: a4 :: b :: r) (.ref x :: st) σ := by
  obtain ⟨p, l', e, R, s, m, args, below, meth, c, nL, H0, A, E, Q⟩ := X
  obtain ⟨hx, hb, hml, hown, hTB, hK, hD, hA, hR, hlocks, rfl, hh0, hNs⟩ := hC
  exact fun H locs arr hn hP hS hl => lv_astore hx hb hd hl (by rw [← hn]; simp only [List.length_cons]; omega) rfl (fun arr1 hl1 => kk H locs arr1 hn hP hS (g_fil1 hl1 (fun j hj w hw => g1_spec hp w (by obtain rfl : j = 4 := (by omega); exact Option.some.inj hw))))
theorem g_ast6 {Lw : gL} {l : Launch} {X : gC} {cc : ByteArray} {own : String} {dd ca sa k n pc : Nat} {st : List Value} {σ : Mem} {a0 a1 a2 a3 a4 a5 : Option Value} {r : List (Option Value)} {b : Option Value} {x : Nat} (hC : gOk Lw l X cc own dd ca sa) (hd : decode cc pc = .ok (.astore 6, 2)) (hp : g1 a5 = true) (kk : G Lw X k n (pc + 2) (a0 :: a1 :: a2 :: a3 :: a4 :: a5 :: some (.ref x) :: r) st σ) : G Lw X k n pc (a0 :: a1 :: a2 :: a3 :: a4 :: a5 :: b :: r) (.ref x :: st) σ := by
  obtain ⟨p, l', e, R, s, m, args, below, meth, c, nL, H0, A, E, Q⟩ := X
  obtain ⟨hx, hb, hml, hown, hTB, hK, hD, hA, hR, hlocks, rfl, hh0, hNs⟩ := hC
  exact fun H locs arr hn hP hS hl => lv_astore hx hb hd hl (by rw [← hn]; simp only [List.length_cons]; omega) rfl (fun arr1 hl1 => kk H locs arr1 hn hP hS (g_fil1 hl1 (fun j hj w hw => g1_spec hp w (by obtain rfl : j = 5 := (by omega); exact Option.some.inj hw))))
theorem g_ast7 {Lw : gL} {l : Launch} {X : gC} {cc : ByteArray} {own : String} {dd ca sa k n pc : Nat} {st : List Value} {σ : Mem} {a0 a1 a2 a3 a4 a5 a6 : Option Value} {r : List (Option Value)} {b : Option Value} {x : Nat} (hC : gOk Lw l X cc own dd ca sa) (hd : decode cc pc = .ok (.astore 7, 2)) (hp : g1 a6 = true) (kk : G Lw X k n (pc + 2) (a0 :: a1 :: a2 :: a3 :: a4 :: a5 :: a6 :: some (.ref x) :: r) st σ) : G Lw X k n pc (a0 :: a1 :: a2 :: a3 :: a4 :: a5 :: a6 :: b :: r) (.ref x :: st) σ := by
  obtain ⟨p, l', e, R, s, m, args, below, meth, c, nL, H0, A, E, Q⟩ := X
  obtain ⟨hx, hb, hml, hown, hTB, hK, hD, hA, hR, hlocks, rfl, hh0, hNs⟩ := hC
  exact fun H locs arr hn hP hS hl => lv_astore hx hb hd hl (by rw [← hn]; simp only [List.length_cons]; omega) rfl (fun arr1 hl1 => kk H locs arr1 hn hP hS (g_fil1 hl1 (fun j hj w hw => g1_spec hp w (by obtain rfl : j = 6 := (by omega); exact Option.some.inj hw))))
theorem g_ast8 {Lw : gL} {l : Launch} {X : gC} {cc : ByteArray} {own : String} {dd ca sa k n pc : Nat} {st : List Value} {σ : Mem} {a0 a1 a2 a3 a4 a5 a6 a7 : Option Value} {r : List (Option Value)} {b : Option Value} {x : Nat} (hC : gOk Lw l X cc own dd ca sa) (hd : decode cc pc = .ok (.astore 8, 2)) (hp : g1 a7 = true) (kk : G Lw X k n (pc + 2) (a0 :: a1 :: a2 :: a3 :: a4 :: a5 :: a6 :: a7 :: some (.ref x) :: r) st σ) : G Lw X k n pc (a0 :: a1 :: a2 :: a3 :: a4 :: a5 :: a6 :: a7 :: b :: r) (.ref x :: st) σ := by
  obtain ⟨p, l', e, R, s, m, args, below, meth, c, nL, H0, A, E, Q⟩ := X
  obtain ⟨hx, hb, hml, hown, hTB, hK, hD, hA, hR, hlocks, rfl, hh0, hNs⟩ := hC
  exact fun H locs arr hn hP hS hl => lv_astore hx hb hd hl (by rw [← hn]; simp only [List.length_cons]; omega) rfl (fun arr1 hl1 => kk H locs arr1 hn hP hS (g_fil1 hl1 (fun j hj w hw => g1_spec hp w (by obtain rfl : j = 7 := (by omega); exact Option.some.inj hw))))
theorem g_ast9 {Lw : gL} {l : Launch} {X : gC} {cc : ByteArray} {own : String} {dd ca sa k n pc : Nat} {st : List Value} {σ : Mem} {a0 a1 a2 a3 a4 a5 a6 a7 a8 : Option Value} {r : List (Option Value)} {b : Option Value} {x : Nat} (hC : gOk Lw l X cc own dd ca sa) (hd : decode cc pc = .ok (.astore 9, 2)) (hp : g1 a8 = true) (kk : G Lw X k n (pc + 2) (a0 :: a1 :: a2 :: a3 :: a4 :: a5 :: a6 :: a7 :: a8 :: some (.ref x) :: r) st σ) : G Lw X k n pc (a0 :: a1 :: a2 :: a3 :: a4 :: a5 :: a6 :: a7 :: a8 :: b :: r) (.ref x :: st) σ := by
  obtain ⟨p, l', e, R, s, m, args, below, meth, c, nL, H0, A, E, Q⟩ := X
  obtain ⟨hx, hb, hml, hown, hTB, hK, hD, hA, hR, hlocks, rfl, hh0, hNs⟩ := hC
  exact fun H locs arr hn hP hS hl => lv_astore hx hb hd hl (by rw [← hn]; simp only [List.length_cons]; omega) rfl (fun arr1 hl1 => kk H locs arr1 hn hP hS (g_fil1 hl1 (fun j hj w hw => g1_spec hp w (by obtain rfl : j = 8 := (by omega); exact Option.some.inj hw))))
theorem g_ast10 {Lw : gL} {l : Launch} {X : gC} {cc : ByteArray} {own : String} {dd ca sa k n pc : Nat} {st : List Value} {σ : Mem} {a0 a1 a2 a3 a4 a5 a6 a7 a8 a9 : Option Value} {r : List (Option Value)} {b : Option Value} {x : Nat} (hC : gOk Lw l X cc own dd ca sa) (hd : decode cc pc = .ok (.astore 10, 2)) (hp : g1 a9 = true) (kk : G Lw X k n (pc + 2) (a0 :: a1 :: a2 :: a3 :: a4 :: a5 :: a6 :: a7 :: a8 :: a9 :: some (.ref x) :: r) st σ) : G Lw X k n pc (a0 :: a1 :: a2 :: a3 :: a4 :: a5 :: a6 :: a7 :: a8 :: a9 :: b :: r) (.ref x :: st) σ := by
  obtain ⟨p, l', e, R, s, m, args, below, meth, c, nL, H0, A, E, Q⟩ := X
  obtain ⟨hx, hb, hml, hown, hTB, hK, hD, hA, hR, hlocks, rfl, hh0, hNs⟩ := hC
  exact fun H locs arr hn hP hS hl => lv_astore hx hb hd hl (by rw [← hn]; simp only [List.length_cons]; omega) rfl (fun arr1 hl1 => kk H locs arr1 hn hP hS (g_fil1 hl1 (fun j hj w hw => g1_spec hp w (by obtain rfl : j = 9 := (by omega); exact Option.some.inj hw))))
theorem g_ast11 {Lw : gL} {l : Launch} {X : gC} {cc : ByteArray} {own : String} {dd ca sa k n pc : Nat} {st : List Value} {σ : Mem} {a0 a1 a2 a3 a4 a5 a6 a7 a8 a9 a10 : Option Value} {r : List (Option Value)} {b : Option Value} {x : Nat} (hC : gOk Lw l X cc own dd ca sa) (hd : decode cc pc = .ok (.astore 11, 2)) (hp : g1 a10 = true) (kk : G Lw X k n (pc + 2) (a0 :: a1 :: a2 :: a3 :: a4 :: a5 :: a6 :: a7 :: a8 :: a9 :: a10 :: some (.ref x) :: r) st σ) : G Lw X k n pc (a0 :: a1 :: a2 :: a3 :: a4 :: a5 :: a6 :: a7 :: a8 :: a9 :: a10 :: b :: r) (.ref x :: st) σ := by
  obtain ⟨p, l', e, R, s, m, args, below, meth, c, nL, H0, A, E, Q⟩ := X
  obtain ⟨hx, hb, hml, hown, hTB, hK, hD, hA, hR, hlocks, rfl, hh0, hNs⟩ := hC
  exact fun H locs arr hn hP hS hl => lv_astore hx hb hd hl (by rw [← hn]; simp only [List.length_cons]; omega) rfl (fun arr1 hl1 => kk H locs arr1 hn hP hS (g_fil1 hl1 (fun j hj w hw => g1_spec hp w (by obtain rfl : j = 10 := (by omega); exact Option.some.inj hw))))
theorem g_ast12 {Lw : gL} {l : Launch} {X : gC} {cc : ByteArray} {own : String} {dd ca sa k n pc : Nat} {st : List Value} {σ : Mem} {a0 a1 a2 a3 a4 a5 a6 a7 a8 a9 a10 a11 : Option Value} {r : List (Option Value)} {b : Option Value} {x : Nat} (hC : gOk Lw l X cc own dd ca sa) (hd : decode cc pc = .ok (.astore 12, 2)) (hp : g1 a11 = true) (kk : G Lw X k n (pc + 2) (a0 :: a1 :: a2 :: a3 :: a4 :: a5 :: a6 :: a7 :: a8 :: a9 :: a10 :: a11 :: some (.ref x) :: r) st σ) : G Lw X k n pc (a0 :: a1 :: a2 :: a3 :: a4 :: a5 :: a6 :: a7 :: a8 :: a9 :: a10 :: a11 :: b :: r) (.ref x :: st) σ := by
  obtain ⟨p, l', e, R, s, m, args, below, meth, c, nL, H0, A, E, Q⟩ := X
  obtain ⟨hx, hb, hml, hown, hTB, hK, hD, hA, hR, hlocks, rfl, hh0, hNs⟩ := hC
  exact fun H locs arr hn hP hS hl => lv_astore hx hb hd hl (by rw [← hn]; simp only [List.length_cons]; omega) rfl (fun arr1 hl1 => kk H locs arr1 hn hP hS (g_fil1 hl1 (fun j hj w hw => g1_spec hp w (by obtain rfl : j = 11 := (by omega); exact Option.some.inj hw))))
theorem g_ast13 {Lw : gL} {l : Launch} {X : gC} {cc : ByteArray} {own : String} {dd ca sa k n pc : Nat} {st : List Value} {σ : Mem} {a0 a1 a2 a3 a4 a5 a6 a7 a8 a9 a10 a11 a12 : Option Value} {r : List (Option Value)} {b : Option Value} {x : Nat} (hC : gOk Lw l X cc own dd ca sa) (hd : decode cc pc = .ok (.astore 13, 2)) (hp : g1 a12 = true) (kk : G Lw X k n (pc + 2) (a0 :: a1 :: a2 :: a3 :: a4 :: a5 :: a6 :: a7 :: a8 :: a9 :: a10 :: a11 :: a12 :: some (.ref x) :: r) st σ) : G Lw X k n pc (a0 :: a1 :: a2 :: a3 :: a4 :: a5 :: a6 :: a7 :: a8 :: a9 :: a10 :: a11 :: a12 :: b :: r) (.ref x :: st) σ := by
  obtain ⟨p, l', e, R, s, m, args, below, meth, c, nL, H0, A, E, Q⟩ := X
  obtain ⟨hx, hb, hml, hown, hTB, hK, hD, hA, hR, hlocks, rfl, hh0, hNs⟩ := hC
  exact fun H locs arr hn hP hS hl => lv_astore hx hb hd hl (by rw [← hn]; simp only [List.length_cons]; omega) rfl (fun arr1 hl1 => kk H locs arr1 hn hP hS (g_fil1 hl1 (fun j hj w hw => g1_spec hp w (by obtain rfl : j = 12 := (by omega); exact Option.some.inj hw))))
theorem g_lst0 {Lw : gL} {l : Launch} {X : gC} {cc : ByteArray} {own : String} {dd ca sa k n pc : Nat} {st : List Value} {σ : Mem} {r : List (Option Value)} {b b1 : Option Value} {x : Int64} (hC : gOk Lw l X cc own dd ca sa) (hd : decode cc pc = .ok (.lstore_n 0, 1)) (kk : G Lw X k n (pc + 1) (some (.long x) :: none :: r) st σ) : G Lw X k n pc (b :: b1 :: r) (.long x :: st) σ := by
  obtain ⟨p, l', e, R, s, m, args, below, meth, c, nL, H0, A, E, Q⟩ := X
  obtain ⟨hx, hb, hml, hown, hTB, hK, hD, hA, hR, hlocks, rfl, hh0, hNs⟩ := hC
  exact fun H locs arr hn hP hS hl => lv_lstore_n (i := 0) hx hb hd rfl hl (by rw [← hn]; simp only [List.length_cons]; omega) rfl (fun arr1 hl1 => kk H locs arr1 hn hP hS (g_fil2 hl1 (fun j hj => absurd hj (by omega))))
theorem g_lst1 {Lw : gL} {l : Launch} {X : gC} {cc : ByteArray} {own : String} {dd ca sa k n pc : Nat} {st : List Value} {σ : Mem} {a0 : Option Value} {r : List (Option Value)} {b b1 : Option Value} {x : Int64} (hC : gOk Lw l X cc own dd ca sa) (hd : decode cc pc = .ok (.lstore_n 1, 1)) (hp : g1 a0 = true) (kk : G Lw X k n (pc + 1) (a0 :: some (.long x) :: none :: r) st σ) : G Lw X k n pc (a0 :: b :: b1 :: r) (.long x :: st) σ := by
  obtain ⟨p, l', e, R, s, m, args, below, meth, c, nL, H0, A, E, Q⟩ := X
  obtain ⟨hx, hb, hml, hown, hTB, hK, hD, hA, hR, hlocks, rfl, hh0, hNs⟩ := hC
  exact fun H locs arr hn hP hS hl => lv_lstore_n (i := 1) hx hb hd rfl hl (by rw [← hn]; simp only [List.length_cons]; omega) rfl (fun arr1 hl1 => kk H locs arr1 hn hP hS (g_fil2 hl1 (fun j hj w hw => g1_spec hp w (by obtain rfl : j = 0 := (by omega); exact Option.some.inj hw))))
theorem g_lst2 {Lw : gL} {l : Launch} {X : gC} {cc : ByteArray} {own : String} {dd ca sa k n pc : Nat} {st : List Value} {σ : Mem} {a0 a1 : Option Value} {r : List (Option Value)} {b b1 : Option Value} {x : Int64} (hC : gOk Lw l X cc own dd ca sa) (hd : decode cc pc = .ok (.lstore_n 2, 1)) (hp : g1 a1 = true) (kk : G Lw X k n (pc + 1) (a0 :: a1 :: some (.long x) :: none :: r) st σ) : G Lw X k n pc (a0 :: a1 :: b :: b1 :: r) (.long x :: st) σ := by
  obtain ⟨p, l', e, R, s, m, args, below, meth, c, nL, H0, A, E, Q⟩ := X
  obtain ⟨hx, hb, hml, hown, hTB, hK, hD, hA, hR, hlocks, rfl, hh0, hNs⟩ := hC
  exact fun H locs arr hn hP hS hl => lv_lstore_n (i := 2) hx hb hd rfl hl (by rw [← hn]; simp only [List.length_cons]; omega) rfl (fun arr1 hl1 => kk H locs arr1 hn hP hS (g_fil2 hl1 (fun j hj w hw => g1_spec hp w (by obtain rfl : j = 1 := (by omega); exact Option.some.inj hw))))
theorem g_lst3 {Lw : gL} {l : Launch} {X : gC} {cc : ByteArray} {own : String} {dd ca sa k n pc : Nat} {st : List Value} {σ : Mem} {a0 a1 a2 : Option Value} {r : List (Option Value)} {b b1 : Option Value} {x : Int64} (hC : gOk Lw l X cc own dd ca sa) (hd : decode cc pc = .ok (.lstore_n 3, 1)) (hp : g1 a2 = true) (kk : G Lw X k n (pc + 1) (a0 :: a1 :: a2 :: some (.long x) :: none :: r) st σ) : G Lw X k n pc (a0 :: a1 :: a2 :: b :: b1 :: r) (.long x :: st) σ := by
  obtain ⟨p, l', e, R, s, m, args, below, meth, c, nL, H0, A, E, Q⟩ := X
  obtain ⟨hx, hb, hml, hown, hTB, hK, hD, hA, hR, hlocks, rfl, hh0, hNs⟩ := hC
  exact fun H locs arr hn hP hS hl => lv_lstore_n (i := 3) hx hb hd rfl hl (by rw [← hn]; simp only [List.length_cons]; omega) rfl (fun arr1 hl1 => kk H locs arr1 hn hP hS (g_fil2 hl1 (fun j hj w hw => g1_spec hp w (by obtain rfl : j = 2 := (by omega); exact Option.some.inj hw))))
theorem g_lst4 {Lw : gL} {l : Launch} {X : gC} {cc : ByteArray} {own : String} {dd ca sa k n pc : Nat} {st : List Value} {σ : Mem} {a0 a1 a2 a3 : Option Value} {r : List (Option Value)} {b b1 : Option Value} {x : Int64} (hC : gOk Lw l X cc own dd ca sa) (hd : decode cc pc = .ok (.lstore 4, 2)) (hp : g1 a3 = true) (kk : G Lw X k n (pc + 2) (a0 :: a1 :: a2 :: a3 :: some (.long x) :: none :: r) st σ) : G Lw X k n pc (a0 :: a1 :: a2 :: a3 :: b :: b1 :: r) (.long x :: st) σ := by
  obtain ⟨p, l', e, R, s, m, args, below, meth, c, nL, H0, A, E, Q⟩ := X
  obtain ⟨hx, hb, hml, hown, hTB, hK, hD, hA, hR, hlocks, rfl, hh0, hNs⟩ := hC
  exact fun H locs arr hn hP hS hl => lv_lstore hx hb hd hl (by rw [← hn]; simp only [List.length_cons]; omega) rfl (fun arr1 hl1 => kk H locs arr1 hn hP hS (g_fil2 hl1 (fun j hj w hw => g1_spec hp w (by obtain rfl : j = 3 := (by omega); exact Option.some.inj hw))))
theorem g_lst5 {Lw : gL} {l : Launch} {X : gC} {cc : ByteArray} {own : String} {dd ca sa k n pc : Nat} {st : List Value} {σ : Mem} {a0 a1 a2 a3 a4 : Option Value} {r : List (Option Value)} {b b1 : Option Value} {x : Int64} (hC : gOk Lw l X cc own dd ca sa) (hd : decode cc pc = .ok (.lstore 5, 2)) (hp : g1 a4 = true) (kk : G Lw X k n (pc + 2) (a0 :: a1 :: a2 :: a3 :: a4 :: some (.long x) :: none :: r) st σ) : G Lw X k n pc (a0 :: a1 :: a2 :: a3 :: a4 :: b :: b1 :: r) (.long x :: st) σ := by
  obtain ⟨p, l', e, R, s, m, args, below, meth, c, nL, H0, A, E, Q⟩ := X
  obtain ⟨hx, hb, hml, hown, hTB, hK, hD, hA, hR, hlocks, rfl, hh0, hNs⟩ := hC
  exact fun H locs arr hn hP hS hl => lv_lstore hx hb hd hl (by rw [← hn]; simp only [List.length_cons]; omega) rfl (fun arr1 hl1 => kk H locs arr1 hn hP hS (g_fil2 hl1 (fun j hj w hw => g1_spec hp w (by obtain rfl : j = 4 := (by omega); exact Option.some.inj hw))))
theorem g_lst6 {Lw : gL} {l : Launch} {X : gC} {cc : ByteArray} {own : String} {dd ca sa k n pc : Nat} {st : List Value} {σ : Mem} {a0 a1 a2 a3 a4 a5 : Option Value} {r : List (Option Value)} {b b1 : Option Value} {x : Int64} (hC : gOk Lw l X cc own dd ca sa) (hd : decode cc pc = .ok (.lstore 6, 2)) (hp : g1 a5 = true) (kk : G Lw X k n (pc + 2) (a0 :: a1 :: a2 :: a3 :: a4 :: a5 :: some (.long x) :: none :: r) st σ) : G Lw X k n pc (a0 :: a1 :: a2 :: a3 :: a4 :: a5 :: b :: b1 :: r) (.long x :: st) σ := by
  obtain ⟨p, l', e, R, s, m, args, below, meth, c, nL, H0, A, E, Q⟩ := X
  obtain ⟨hx, hb, hml, hown, hTB, hK, hD, hA, hR, hlocks, rfl, hh0, hNs⟩ := hC
  exact fun H locs arr hn hP hS hl => lv_lstore hx hb hd hl (by rw [← hn]; simp only [List.length_cons]; omega) rfl (fun arr1 hl1 => kk H locs arr1 hn hP hS (g_fil2 hl1 (fun j hj w hw => g1_spec hp w (by obtain rfl : j = 5 := (by omega); exact Option.some.inj hw))))
theorem g_lst7 {Lw : gL} {l : Launch} {X : gC} {cc : ByteArray} {own : String} {dd ca sa k n pc : Nat} {st : List Value} {σ : Mem} {a0 a1 a2 a3 a4 a5 a6 : Option Value} {r : List (Option Value)} {b b1 : Option Value} {x : Int64} (hC : gOk Lw l X cc own dd ca sa) (hd : decode cc pc = .ok (.lstore 7, 2)) (hp : g1 a6 = true) (kk : G Lw X k n (pc + 2) (a0 :: a1 :: a2 :: a3 :: a4 :: a5 :: a6 :: some (.long x) :: none :: r) st σ) : G Lw X k n pc (a0 :: a1 :: a2 :: a3 :: a4 :: a5 :: a6 :: b :: b1 :: r) (.long x :: st) σ := by
  obtain ⟨p, l', e, R, s, m, args, below, meth, c, nL, H0, A, E, Q⟩ := X
  obtain ⟨hx, hb, hml, hown, hTB, hK, hD, hA, hR, hlocks, rfl, hh0, hNs⟩ := hC
  exact fun H locs arr hn hP hS hl => lv_lstore hx hb hd hl (by rw [← hn]; simp only [List.length_cons]; omega) rfl (fun arr1 hl1 => kk H locs arr1 hn hP hS (g_fil2 hl1 (fun j hj w hw => g1_spec hp w (by obtain rfl : j = 6 := (by omega); exact Option.some.inj hw))))
theorem g_lst8 {Lw : gL} {l : Launch} {X : gC} {cc : ByteArray} {own : String} {dd ca sa k n pc : Nat} {st : List Value} {σ : Mem} {a0 a1 a2 a3 a4 a5 a6 a7 : Option Value} {r : List (Option Value)} {b b1 : Option Value} {x : Int64} (hC : gOk Lw l X cc own dd ca sa) (hd : decode cc pc = .ok (.lstore 8, 2)) (hp : g1 a7 = true) (kk : G Lw X k n (pc + 2) (a0 :: a1 :: a2 :: a3 :: a4 :: a5 :: a6 :: a7 :: some (.long x) :: none :: r) st σ) : G Lw X k n pc (a0 :: a1 :: a2 :: a3 :: a4 :: a5 :: a6 :: a7 :: b :: b1 :: r) (.long x :: st) σ := by
  obtain ⟨p, l', e, R, s, m, args, below, meth, c, nL, H0, A, E, Q⟩ := X
  obtain ⟨hx, hb, hml, hown, hTB, hK, hD, hA, hR, hlocks, rfl, hh0, hNs⟩ := hC
  exact fun H locs arr hn hP hS hl => lv_lstore hx hb hd hl (by rw [← hn]; simp only [List.length_cons]; omega) rfl (fun arr1 hl1 => kk H locs arr1 hn hP hS (g_fil2 hl1 (fun j hj w hw => g1_spec hp w (by obtain rfl : j = 7 := (by omega); exact Option.some.inj hw))))
theorem g_lst9 {Lw : gL} {l : Launch} {X : gC} {cc : ByteArray} {own : String} {dd ca sa k n pc : Nat} {st : List Value} {σ : Mem} {a0 a1 a2 a3 a4 a5 a6 a7 a8 : Option Value} {r : List (Option Value)} {b b1 : Option Value} {x : Int64} (hC : gOk Lw l X cc own dd ca sa) (hd : decode cc pc = .ok (.lstore 9, 2)) (hp : g1 a8 = true) (kk : G Lw X k n (pc + 2) (a0 :: a1 :: a2 :: a3 :: a4 :: a5 :: a6 :: a7 :: a8 :: some (.long x) :: none :: r) st σ) : G Lw X k n pc (a0 :: a1 :: a2 :: a3 :: a4 :: a5 :: a6 :: a7 :: a8 :: b :: b1 :: r) (.long x :: st) σ := by
  obtain ⟨p, l', e, R, s, m, args, below, meth, c, nL, H0, A, E, Q⟩ := X
  obtain ⟨hx, hb, hml, hown, hTB, hK, hD, hA, hR, hlocks, rfl, hh0, hNs⟩ := hC
  exact fun H locs arr hn hP hS hl => lv_lstore hx hb hd hl (by rw [← hn]; simp only [List.length_cons]; omega) rfl (fun arr1 hl1 => kk H locs arr1 hn hP hS (g_fil2 hl1 (fun j hj w hw => g1_spec hp w (by obtain rfl : j = 8 := (by omega); exact Option.some.inj hw))))
theorem g_lst10 {Lw : gL} {l : Launch} {X : gC} {cc : ByteArray} {own : String} {dd ca sa k n pc : Nat} {st : List Value} {σ : Mem} {a0 a1 a2 a3 a4 a5 a6 a7 a8 a9 : Option Value} {r : List (Option Value)} {b b1 : Option Value} {x : Int64} (hC : gOk Lw l X cc own dd ca sa) (hd : decode cc pc = .ok (.lstore 10, 2)) (hp : g1 a9 = true) (kk : G Lw X k n (pc + 2) (a0 :: a1 :: a2 :: a3 :: a4 :: a5 :: a6 :: a7 :: a8 :: a9 :: some (.long x) :: none :: r) st σ) : G Lw X k n pc (a0 :: a1 :: a2 :: a3 :: a4 :: a5 :: a6 :: a7 :: a8 :: a9 :: b :: b1 :: r) (.long x :: st) σ := by
  obtain ⟨p, l', e, R, s, m, args, below, meth, c, nL, H0, A, E, Q⟩ := X
  obtain ⟨hx, hb, hml, hown, hTB, hK, hD, hA, hR, hlocks, rfl, hh0, hNs⟩ := hC
  exact fun H locs arr hn hP hS hl => lv_lstore hx hb hd hl (by rw [← hn]; simp only [List.length_cons]; omega) rfl (fun arr1 hl1 => kk H locs arr1 hn hP hS (g_fil2 hl1 (fun j hj w hw => g1_spec hp w (by obtain rfl : j = 9 := (by omega); exact Option.some.inj hw))))
theorem g_lst11 {Lw : gL} {l : Launch} {X : gC} {cc : ByteArray} {own : String} {dd ca sa k n pc : Nat} {st : List Value} {σ : Mem} {a0 a1 a2 a3 a4 a5 a6 a7 a8 a9 a10 : Option Value} {r : List (Option Value)} {b b1 : Option Value} {x : Int64} (hC : gOk Lw l X cc own dd ca sa) (hd : decode cc pc = .ok (.lstore 11, 2)) (hp : g1 a10 = true) (kk : G Lw X k n (pc + 2) (a0 :: a1 :: a2 :: a3 :: a4 :: a5 :: a6 :: a7 :: a8 :: a9 :: a10 :: some (.long x) :: none :: r) st σ) : G Lw X k n pc (a0 :: a1 :: a2 :: a3 :: a4 :: a5 :: a6 :: a7 :: a8 :: a9 :: a10 :: b :: b1 :: r) (.long x :: st) σ := by
  obtain ⟨p, l', e, R, s, m, args, below, meth, c, nL, H0, A, E, Q⟩ := X
  obtain ⟨hx, hb, hml, hown, hTB, hK, hD, hA, hR, hlocks, rfl, hh0, hNs⟩ := hC
  exact fun H locs arr hn hP hS hl => lv_lstore hx hb hd hl (by rw [← hn]; simp only [List.length_cons]; omega) rfl (fun arr1 hl1 => kk H locs arr1 hn hP hS (g_fil2 hl1 (fun j hj w hw => g1_spec hp w (by obtain rfl : j = 10 := (by omega); exact Option.some.inj hw))))
theorem g_lst12 {Lw : gL} {l : Launch} {X : gC} {cc : ByteArray} {own : String} {dd ca sa k n pc : Nat} {st : List Value} {σ : Mem} {a0 a1 a2 a3 a4 a5 a6 a7 a8 a9 a10 a11 : Option Value} {r : List (Option Value)} {b b1 : Option Value} {x : Int64} (hC : gOk Lw l X cc own dd ca sa) (hd : decode cc pc = .ok (.lstore 12, 2)) (hp : g1 a11 = true) (kk : G Lw X k n (pc + 2) (a0 :: a1 :: a2 :: a3 :: a4 :: a5 :: a6 :: a7 :: a8 :: a9 :: a10 :: a11 :: some (.long x) :: none :: r) st σ) : G Lw X k n pc (a0 :: a1 :: a2 :: a3 :: a4 :: a5 :: a6 :: a7 :: a8 :: a9 :: a10 :: a11 :: b :: b1 :: r) (.long x :: st) σ := by
  obtain ⟨p, l', e, R, s, m, args, below, meth, c, nL, H0, A, E, Q⟩ := X
  obtain ⟨hx, hb, hml, hown, hTB, hK, hD, hA, hR, hlocks, rfl, hh0, hNs⟩ := hC
  exact fun H locs arr hn hP hS hl => lv_lstore hx hb hd hl (by rw [← hn]; simp only [List.length_cons]; omega) rfl (fun arr1 hl1 => kk H locs arr1 hn hP hS (g_fil2 hl1 (fun j hj w hw => g1_spec hp w (by obtain rfl : j = 11 := (by omega); exact Option.some.inj hw))))
theorem g_lst13 {Lw : gL} {l : Launch} {X : gC} {cc : ByteArray} {own : String} {dd ca sa k n pc : Nat} {st : List Value} {σ : Mem} {a0 a1 a2 a3 a4 a5 a6 a7 a8 a9 a10 a11 a12 : Option Value} {r : List (Option Value)} {b b1 : Option Value} {x : Int64} (hC : gOk Lw l X cc own dd ca sa) (hd : decode cc pc = .ok (.lstore 13, 2)) (hp : g1 a12 = true) (kk : G Lw X k n (pc + 2) (a0 :: a1 :: a2 :: a3 :: a4 :: a5 :: a6 :: a7 :: a8 :: a9 :: a10 :: a11 :: a12 :: some (.long x) :: none :: r) st σ) : G Lw X k n pc (a0 :: a1 :: a2 :: a3 :: a4 :: a5 :: a6 :: a7 :: a8 :: a9 :: a10 :: a11 :: a12 :: b :: b1 :: r) (.long x :: st) σ := by
  obtain ⟨p, l', e, R, s, m, args, below, meth, c, nL, H0, A, E, Q⟩ := X
  obtain ⟨hx, hb, hml, hown, hTB, hK, hD, hA, hR, hlocks, rfl, hh0, hNs⟩ := hC
  exact fun H locs arr hn hP hS hl => lv_lstore hx hb hd hl (by rw [← hn]; simp only [List.length_cons]; omega) rfl (fun arr1 hl1 => kk H locs arr1 hn hP hS (g_fil2 hl1 (fun j hj w hw => g1_spec hp w (by obtain rfl : j = 12 := (by omega); exact Option.some.inj hw))))
theorem g_dst0 {Lw : gL} {l : Launch} {X : gC} {cc : ByteArray} {own : String} {dd ca sa k n pc : Nat} {st : List Value} {σ : Mem} {r : List (Option Value)} {b b1 : Option Value} {x : UInt64} (hC : gOk Lw l X cc own dd ca sa) (hd : decode cc pc = .ok (.dstore_n 0, 1)) (kk : G Lw X k n (pc + 1) (some (.double x) :: none :: r) st σ) : G Lw X k n pc (b :: b1 :: r) (.double x :: st) σ := by
  obtain ⟨p, l', e, R, s, m, args, below, meth, c, nL, H0, A, E, Q⟩ := X
  obtain ⟨hx, hb, hml, hown, hTB, hK, hD, hA, hR, hlocks, rfl, hh0, hNs⟩ := hC
  exact fun H locs arr hn hP hS hl => lv_dstore_n (i := 0) hx hb hd rfl hl (by rw [← hn]; simp only [List.length_cons]; omega) rfl (fun arr1 hl1 => kk H locs arr1 hn hP hS (g_fil2 hl1 (fun j hj => absurd hj (by omega))))
theorem g_dst1 {Lw : gL} {l : Launch} {X : gC} {cc : ByteArray} {own : String} {dd ca sa k n pc : Nat} {st : List Value} {σ : Mem} {a0 : Option Value} {r : List (Option Value)} {b b1 : Option Value} {x : UInt64} (hC : gOk Lw l X cc own dd ca sa) (hd : decode cc pc = .ok (.dstore_n 1, 1)) (hp : g1 a0 = true) (kk : G Lw X k n (pc + 1) (a0 :: some (.double x) :: none :: r) st σ) : G Lw X k n pc (a0 :: b :: b1 :: r) (.double x :: st) σ := by
  obtain ⟨p, l', e, R, s, m, args, below, meth, c, nL, H0, A, E, Q⟩ := X
  obtain ⟨hx, hb, hml, hown, hTB, hK, hD, hA, hR, hlocks, rfl, hh0, hNs⟩ := hC
  exact fun H locs arr hn hP hS hl => lv_dstore_n (i := 1) hx hb hd rfl hl (by rw [← hn]; simp only [List.length_cons]; omega) rfl (fun arr1 hl1 => kk H locs arr1 hn hP hS (g_fil2 hl1 (fun j hj w hw => g1_spec hp w (by obtain rfl : j = 0 := (by omega); exact Option.some.inj hw))))
theorem g_dst2 {Lw : gL} {l : Launch} {X : gC} {cc : ByteArray} {own : String} {dd ca sa k n pc : Nat} {st : List Value} {σ : Mem} {a0 a1 : Option Value} {r : List (Option Value)} {b b1 : Option Value} {x : UInt64} (hC : gOk Lw l X cc own dd ca sa) (hd : decode cc pc = .ok (.dstore_n 2, 1)) (hp : g1 a1 = true) (kk : G Lw X k n (pc + 1) (a0 :: a1 :: some (.double x) :: none :: r) st σ) : G Lw X k n pc (a0 :: a1 :: b :: b1 :: r) (.double x :: st) σ := by
  obtain ⟨p, l', e, R, s, m, args, below, meth, c, nL, H0, A, E, Q⟩ := X
  obtain ⟨hx, hb, hml, hown, hTB, hK, hD, hA, hR, hlocks, rfl, hh0, hNs⟩ := hC
  exact fun H locs arr hn hP hS hl => lv_dstore_n (i := 2) hx hb hd rfl hl (by rw [← hn]; simp only [List.length_cons]; omega) rfl (fun arr1 hl1 => kk H locs arr1 hn hP hS (g_fil2 hl1 (fun j hj w hw => g1_spec hp w (by obtain rfl : j = 1 := (by omega); exact Option.some.inj hw))))
theorem g_dst3 {Lw : gL} {l : Launch} {X : gC} {cc : ByteArray} {own : String} {dd ca sa k n pc : Nat} {st : List Value} {σ : Mem} {a0 a1 a2 : Option Value} {r : List (Option Value)} {b b1 : Option Value} {x : UInt64} (hC : gOk Lw l X cc own dd ca sa) (hd : decode cc pc = .ok (.dstore_n 3, 1)) (hp : g1 a2 = true) (kk : G Lw X k n (pc + 1) (a0 :: a1 :: a2 :: some (.double x) :: none :: r) st σ) : G Lw X k n pc (a0 :: a1 :: a2 :: b :: b1 :: r) (.double x :: st) σ := by
  obtain ⟨p, l', e, R, s, m, args, below, meth, c, nL, H0, A, E, Q⟩ := X
  obtain ⟨hx, hb, hml, hown, hTB, hK, hD, hA, hR, hlocks, rfl, hh0, hNs⟩ := hC
  exact fun H locs arr hn hP hS hl => lv_dstore_n (i := 3) hx hb hd rfl hl (by rw [← hn]; simp only [List.length_cons]; omega) rfl (fun arr1 hl1 => kk H locs arr1 hn hP hS (g_fil2 hl1 (fun j hj w hw => g1_spec hp w (by obtain rfl : j = 2 := (by omega); exact Option.some.inj hw))))
theorem g_dst4 {Lw : gL} {l : Launch} {X : gC} {cc : ByteArray} {own : String} {dd ca sa k n pc : Nat} {st : List Value} {σ : Mem} {a0 a1 a2 a3 : Option Value} {r : List (Option Value)} {b b1 : Option Value} {x : UInt64} (hC : gOk Lw l X cc own dd ca sa) (hd : decode cc pc = .ok (.dstore 4, 2)) (hp : g1 a3 = true) (kk : G Lw X k n (pc + 2) (a0 :: a1 :: a2 :: a3 :: some (.double x) :: none :: r) st σ) : G Lw X k n pc (a0 :: a1 :: a2 :: a3 :: b :: b1 :: r) (.double x :: st) σ := by
  obtain ⟨p, l', e, R, s, m, args, below, meth, c, nL, H0, A, E, Q⟩ := X
  obtain ⟨hx, hb, hml, hown, hTB, hK, hD, hA, hR, hlocks, rfl, hh0, hNs⟩ := hC
  exact fun H locs arr hn hP hS hl => lv_dstore hx hb hd hl (by rw [← hn]; simp only [List.length_cons]; omega) rfl (fun arr1 hl1 => kk H locs arr1 hn hP hS (g_fil2 hl1 (fun j hj w hw => g1_spec hp w (by obtain rfl : j = 3 := (by omega); exact Option.some.inj hw))))
theorem g_dst5 {Lw : gL} {l : Launch} {X : gC} {cc : ByteArray} {own : String} {dd ca sa k n pc : Nat} {st : List Value} {σ : Mem} {a0 a1 a2 a3 a4 : Option Value} {r : List (Option Value)} {b b1 : Option Value} {x : UInt64} (hC : gOk Lw l X cc own dd ca sa) (hd : decode cc pc = .ok (.dstore 5, 2)) (hp : g1 a4 = true) (kk : G Lw X k n (pc + 2) (a0 :: a1 :: a2 :: a3 :: a4 :: some (.double x) :: none :: r) st σ) : G Lw X k n pc (a0 :: a1 :: a2 :: a3 :: a4 :: b :: b1 :: r) (.double x :: st) σ := by
  obtain ⟨p, l', e, R, s, m, args, below, meth, c, nL, H0, A, E, Q⟩ := X
  obtain ⟨hx, hb, hml, hown, hTB, hK, hD, hA, hR, hlocks, rfl, hh0, hNs⟩ := hC
  exact fun H locs arr hn hP hS hl => lv_dstore hx hb hd hl (by rw [← hn]; simp only [List.length_cons]; omega) rfl (fun arr1 hl1 => kk H locs arr1 hn hP hS (g_fil2 hl1 (fun j hj w hw => g1_spec hp w (by obtain rfl : j = 4 := (by omega); exact Option.some.inj hw))))
theorem g_dst6 {Lw : gL} {l : Launch} {X : gC} {cc : ByteArray} {own : String} {dd ca sa k n pc : Nat} {st : List Value} {σ : Mem} {a0 a1 a2 a3 a4 a5 : Option Value} {r : List (Option Value)} {b b1 : Option Value} {x : UInt64} (hC : gOk Lw l X cc own dd ca sa) (hd : decode cc pc = .ok (.dstore 6, 2)) (hp : g1 a5 = true) (kk : G Lw X k n (pc + 2) (a0 :: a1 :: a2 :: a3 :: a4 :: a5 :: some (.double x) :: none :: r) st σ) : G Lw X k n pc (a0 :: a1 :: a2 :: a3 :: a4 :: a5 :: b :: b1 :: r) (.double x :: st) σ := by
  obtain ⟨p, l', e, R, s, m, args, below, meth, c, nL, H0, A, E, Q⟩ := X
  obtain ⟨hx, hb, hml, hown, hTB, hK, hD, hA, hR, hlocks, rfl, hh0, hNs⟩ := hC
  exact fun H locs arr hn hP hS hl => lv_dstore hx hb hd hl (by rw [← hn]; simp only [List.length_cons]; omega) rfl (fun arr1 hl1 => kk H locs arr1 hn hP hS (g_fil2 hl1 (fun j hj w hw => g1_spec hp w (by obtain rfl : j = 5 := (by omega); exact Option.some.inj hw))))
theorem g_dst7 {Lw : gL} {l : Launch} {X : gC} {cc : ByteArray} {own : String} {dd ca sa k n pc : Nat} {st : List Value} {σ : Mem} {a0 a1 a2 a3 a4 a5 a6 : Option Value} {r : List (Option Value)} {b b1 : Option Value} {x : UInt64} (hC : gOk Lw l X cc own dd ca sa) (hd : decode cc pc = .ok (.dstore 7, 2)) (hp : g1 a6 = true) (kk : G Lw X k n (pc + 2) (a0 :: a1 :: a2 :: a3 :: a4 :: a5 :: a6 :: some (.double x) :: none :: r) st σ) : G Lw X k n pc (a0 :: a1 :: a2 :: a3 :: a4 :: a5 :: a6 :: b :: b1 :: r) (.double x :: st) σ := by
  obtain ⟨p, l', e, R, s, m, args, below, meth, c, nL, H0, A, E, Q⟩ := X
  obtain ⟨hx, hb, hml, hown, hTB, hK, hD, hA, hR, hlocks, rfl, hh0, hNs⟩ := hC
  exact fun H locs arr hn hP hS hl => lv_dstore hx hb hd hl (by rw [← hn]; simp only [List.length_cons]; omega) rfl (fun arr1 hl1 => kk H locs arr1 hn hP hS (g_fil2 hl1 (fun j hj w hw => g1_spec hp w (by obtain rfl : j = 6 := (by omega); exact Option.some.inj hw))))
theorem g_dst8 {Lw : gL} {l : Launch} {X : gC} {cc : ByteArray} {own : String} {dd ca sa k n pc : Nat} {st : List Value} {σ : Mem} {a0 a1 a2 a3 a4 a5 a6 a7 : Option Value} {r : List (Option Value)} {b b1 : Option Value} {x : UInt64} (hC : gOk Lw l X cc own dd ca sa) (hd : decode cc pc = .ok (.dstore 8, 2)) (hp : g1 a7 = true) (kk : G Lw X k n (pc + 2) (a0 :: a1 :: a2 :: a3 :: a4 :: a5 :: a6 :: a7 :: some (.double x) :: none :: r) st σ) : G Lw X k n pc (a0 :: a1 :: a2 :: a3 :: a4 :: a5 :: a6 :: a7 :: b :: b1 :: r) (.double x :: st) σ := by
  obtain ⟨p, l', e, R, s, m, args, below, meth, c, nL, H0, A, E, Q⟩ := X
  obtain ⟨hx, hb, hml, hown, hTB, hK, hD, hA, hR, hlocks, rfl, hh0, hNs⟩ := hC
  exact fun H locs arr hn hP hS hl => lv_dstore hx hb hd hl (by rw [← hn]; simp only [List.length_cons]; omega) rfl (fun arr1 hl1 => kk H locs arr1 hn hP hS (g_fil2 hl1 (fun j hj w hw => g1_spec hp w (by obtain rfl : j = 7 := (by omega); exact Option.some.inj hw))))
theorem g_dst9 {Lw : gL} {l : Launch} {X : gC} {cc : ByteArray} {own : String} {dd ca sa k n pc : Nat} {st : List Value} {σ : Mem} {a0 a1 a2 a3 a4 a5 a6 a7 a8 : Option Value} {r : List (Option Value)} {b b1 : Option Value} {x : UInt64} (hC : gOk Lw l X cc own dd ca sa) (hd : decode cc pc = .ok (.dstore 9, 2)) (hp : g1 a8 = true) (kk : G Lw X k n (pc + 2) (a0 :: a1 :: a2 :: a3 :: a4 :: a5 :: a6 :: a7 :: a8 :: some (.double x) :: none :: r) st σ) : G Lw X k n pc (a0 :: a1 :: a2 :: a3 :: a4 :: a5 :: a6 :: a7 :: a8 :: b :: b1 :: r) (.double x :: st) σ := by
  obtain ⟨p, l', e, R, s, m, args, below, meth, c, nL, H0, A, E, Q⟩ := X
  obtain ⟨hx, hb, hml, hown, hTB, hK, hD, hA, hR, hlocks, rfl, hh0, hNs⟩ := hC
  exact fun H locs arr hn hP hS hl => lv_dstore hx hb hd hl (by rw [← hn]; simp only [List.length_cons]; omega) rfl (fun arr1 hl1 => kk H locs arr1 hn hP hS (g_fil2 hl1 (fun j hj w hw => g1_spec hp w (by obtain rfl : j = 8 := (by omega); exact Option.some.inj hw))))
theorem g_dst10 {Lw : gL} {l : Launch} {X : gC} {cc : ByteArray} {own : String} {dd ca sa k n pc : Nat} {st : List Value} {σ : Mem} {a0 a1 a2 a3 a4 a5 a6 a7 a8 a9 : Option Value} {r : List (Option Value)} {b b1 : Option Value} {x : UInt64} (hC : gOk Lw l X cc own dd ca sa) (hd : decode cc pc = .ok (.dstore 10, 2)) (hp : g1 a9 = true) (kk : G Lw X k n (pc + 2) (a0 :: a1 :: a2 :: a3 :: a4 :: a5 :: a6 :: a7 :: a8 :: a9 :: some (.double x) :: none :: r) st σ) : G Lw X k n pc (a0 :: a1 :: a2 :: a3 :: a4 :: a5 :: a6 :: a7 :: a8 :: a9 :: b :: b1 :: r) (.double x :: st) σ := by
  obtain ⟨p, l', e, R, s, m, args, below, meth, c, nL, H0, A, E, Q⟩ := X
  obtain ⟨hx, hb, hml, hown, hTB, hK, hD, hA, hR, hlocks, rfl, hh0, hNs⟩ := hC
  exact fun H locs arr hn hP hS hl => lv_dstore hx hb hd hl (by rw [← hn]; simp only [List.length_cons]; omega) rfl (fun arr1 hl1 => kk H locs arr1 hn hP hS (g_fil2 hl1 (fun j hj w hw => g1_spec hp w (by obtain rfl : j = 9 := (by omega); exact Option.some.inj hw))))
theorem g_dst11 {Lw : gL} {l : Launch} {X : gC} {cc : ByteArray} {own : String} {dd ca sa k n pc : Nat} {st : List Value} {σ : Mem} {a0 a1 a2 a3 a4 a5 a6 a7 a8 a9 a10 : Option Value} {r : List (Option Value)} {b b1 : Option Value} {x : UInt64} (hC : gOk Lw l X cc own dd ca sa) (hd : decode cc pc = .ok (.dstore 11, 2)) (hp : g1 a10 = true) (kk : G Lw X k n (pc + 2) (a0 :: a1 :: a2 :: a3 :: a4 :: a5 :: a6 :: a7 :: a8 :: a9 :: a10 :: some (.double x) :: none :: r) st σ) : G Lw X k n pc (a0 :: a1 :: a2 :: a3 :: a4 :: a5 :: a6 :: a7 :: a8 :: a9 :: a10 :: b :: b1 :: r) (.double x :: st) σ := by
  obtain ⟨p, l', e, R, s, m, args, below, meth, c, nL, H0, A, E, Q⟩ := X
  obtain ⟨hx, hb, hml, hown, hTB, hK, hD, hA, hR, hlocks, rfl, hh0, hNs⟩ := hC
  exact fun H locs arr hn hP hS hl => lv_dstore hx hb hd hl (by rw [← hn]; simp only [List.length_cons]; omega) rfl (fun arr1 hl1 => kk H locs arr1 hn hP hS (g_fil2 hl1 (fun j hj w hw => g1_spec hp w (by obtain rfl : j = 10 := (by omega); exact Option.some.inj hw))))
theorem g_dst12 {Lw : gL} {l : Launch} {X : gC} {cc : ByteArray} {own : String} {dd ca sa k n pc : Nat} {st : List Value} {σ : Mem} {a0 a1 a2 a3 a4 a5 a6 a7 a8 a9 a10 a11 : Option Value} {r : List (Option Value)} {b b1 : Option Value} {x : UInt64} (hC : gOk Lw l X cc own dd ca sa) (hd : decode cc pc = .ok (.dstore 12, 2)) (hp : g1 a11 = true) (kk : G Lw X k n (pc + 2) (a0 :: a1 :: a2 :: a3 :: a4 :: a5 :: a6 :: a7 :: a8 :: a9 :: a10 :: a11 :: some (.double x) :: none :: r) st σ) : G Lw X k n pc (a0 :: a1 :: a2 :: a3 :: a4 :: a5 :: a6 :: a7 :: a8 :: a9 :: a10 :: a11 :: b :: b1 :: r) (.double x :: st) σ := by
  obtain ⟨p, l', e, R, s, m, args, below, meth, c, nL, H0, A, E, Q⟩ := X
  obtain ⟨hx, hb, hml, hown, hTB, hK, hD, hA, hR, hlocks, rfl, hh0, hNs⟩ := hC
  exact fun H locs arr hn hP hS hl => lv_dstore hx hb hd hl (by rw [← hn]; simp only [List.length_cons]; omega) rfl (fun arr1 hl1 => kk H locs arr1 hn hP hS (g_fil2 hl1 (fun j hj w hw => g1_spec hp w (by obtain rfl : j = 11 := (by omega); exact Option.some.inj hw))))
theorem g_dst13 {Lw : gL} {l : Launch} {X : gC} {cc : ByteArray} {own : String} {dd ca sa k n pc : Nat} {st : List Value} {σ : Mem} {a0 a1 a2 a3 a4 a5 a6 a7 a8 a9 a10 a11 a12 : Option Value} {r : List (Option Value)} {b b1 : Option Value} {x : UInt64} (hC : gOk Lw l X cc own dd ca sa) (hd : decode cc pc = .ok (.dstore 13, 2)) (hp : g1 a12 = true) (kk : G Lw X k n (pc + 2) (a0 :: a1 :: a2 :: a3 :: a4 :: a5 :: a6 :: a7 :: a8 :: a9 :: a10 :: a11 :: a12 :: some (.double x) :: none :: r) st σ) : G Lw X k n pc (a0 :: a1 :: a2 :: a3 :: a4 :: a5 :: a6 :: a7 :: a8 :: a9 :: a10 :: a11 :: a12 :: b :: b1 :: r) (.double x :: st) σ := by
  obtain ⟨p, l', e, R, s, m, args, below, meth, c, nL, H0, A, E, Q⟩ := X
  obtain ⟨hx, hb, hml, hown, hTB, hK, hD, hA, hR, hlocks, rfl, hh0, hNs⟩ := hC
  exact fun H locs arr hn hP hS hl => lv_dstore hx hb hd hl (by rw [← hn]; simp only [List.length_cons]; omega) rfl (fun arr1 hl1 => kk H locs arr1 hn hP hS (g_fil2 hl1 (fun j hj w hw => g1_spec hp w (by obtain rfl : j = 12 := (by omega); exact Option.some.inj hw))))
theorem g_inc0 {Lw : gL} {l : Launch} {X : gC} {cc : ByteArray} {own : String} {dd ca sa k n pc : Nat} {st : List Value} {σ : Mem} {r : List (Option Value)} {x : Int32} {z : Int} (v : Int32) (hC : gOk Lw l X cc own dd ca sa) (hd : decode cc pc = .ok (.iinc 0 z, 3)) (hv : Int32.ofInt z = v) (kk : G Lw X k n (pc + 3) (some (.int (x + v)) :: r) st σ) : G Lw X k n pc (some (.int x) :: r) st σ := by
  obtain ⟨p, l', e, R, s, m, args, below, meth, c, nL, H0, A, E, Q⟩ := X
  obtain ⟨hx, hb, hml, hown, hTB, hK, hD, hA, hR, hlocks, rfl, hh0, hNs⟩ := hC
  subst hv
  intro H locs arr hn hP hS hl T hT XX
  obtain ⟨arr1, e1, hl1⟩ := lv_store1 (v := .int (x + Int32.ofInt z)) hl (show 0 < nL by rw [← hn]; simp only [List.length_cons]; omega) rfl
  have hg := g_loc hl 0 rfl
  obtain ⟨t, a, b⟩ := kk H locs arr1 hn hP hS (g_fil1 hl1 (fun j hj => absurd hj (by omega))) T hT XX
  refine ⟨t, ?_, b⟩
  jvm_step XX.here [XX.here.top, ↓top_set XX.here.top, hx, hb, hd, hg, e1]
  exact a
theorem g_inc1 {Lw : gL} {l : Launch} {X : gC} {cc : ByteArray} {own : String} {dd ca sa k n pc : Nat} {st : List Value} {σ : Mem} {a0 : Option Value} {r : List (Option Value)} {x : Int32} {z : Int} (v : Int32) (hC : gOk Lw l X cc own dd ca sa) (hd : decode cc pc = .ok (.iinc 1 z, 3)) (hv : Int32.ofInt z = v) (hp : g1 a0 = true) (kk : G Lw X k n (pc + 3) (a0 :: some (.int (x + v)) :: r) st σ) : G Lw X k n pc (a0 :: some (.int x) :: r) st σ := by
  obtain ⟨p, l', e, R, s, m, args, below, meth, c, nL, H0, A, E, Q⟩ := X
  obtain ⟨hx, hb, hml, hown, hTB, hK, hD, hA, hR, hlocks, rfl, hh0, hNs⟩ := hC
  subst hv
  intro H locs arr hn hP hS hl T hT XX
  obtain ⟨arr1, e1, hl1⟩ := lv_store1 (v := .int (x + Int32.ofInt z)) hl (show 1 < nL by rw [← hn]; simp only [List.length_cons]; omega) rfl
  have hg := g_loc hl 1 rfl
  obtain ⟨t, a, b⟩ := kk H locs arr1 hn hP hS (g_fil1 hl1 (fun j hj w hw => g1_spec hp w (by obtain rfl : j = 0 := (by omega); exact Option.some.inj hw))) T hT XX
  refine ⟨t, ?_, b⟩
  jvm_step XX.here [XX.here.top, ↓top_set XX.here.top, hx, hb, hd, hg, e1]
  exact a
theorem g_inc2 {Lw : gL} {l : Launch} {X : gC} {cc : ByteArray} {own : String} {dd ca sa k n pc : Nat} {st : List Value} {σ : Mem} {a0 a1 : Option Value} {r : List (Option Value)} {x : Int32} {z : Int} (v : Int32) (hC : gOk Lw l X cc own dd ca sa) (hd : decode cc pc = .ok (.iinc 2 z, 3)) (hv : Int32.ofInt z = v) (hp : g1 a1 = true) (kk : G Lw X k n (pc + 3) (a0 :: a1 :: some (.int (x + v)) :: r) st σ) : G Lw X k n pc (a0 :: a1 :: some (.int x) :: r) st σ := by
  obtain ⟨p, l', e, R, s, m, args, below, meth, c, nL, H0, A, E, Q⟩ := X
  obtain ⟨hx, hb, hml, hown, hTB, hK, hD, hA, hR, hlocks, rfl, hh0, hNs⟩ := hC
  subst hv
  intro H locs arr hn hP hS hl T hT XX
  obtain ⟨arr1, e1, hl1⟩ := lv_store1 (v := .int (x + Int32.ofInt z)) hl (show 2 < nL by rw [← hn]; simp only [List.length_cons]; omega) rfl
  have hg := g_loc hl 2 rfl
  obtain ⟨t, a, b⟩ := kk H locs arr1 hn hP hS (g_fil1 hl1 (fun j hj w hw => g1_spec hp w (by obtain rfl : j = 1 := (by omega); exact Option.some.inj hw))) T hT XX
  refine ⟨t, ?_, b⟩
  jvm_step XX.here [XX.here.top, ↓top_set XX.here.top, hx, hb, hd, hg, e1]
  exact a
theorem g_inc3 {Lw : gL} {l : Launch} {X : gC} {cc : ByteArray} {own : String} {dd ca sa k n pc : Nat} {st : List Value} {σ : Mem} {a0 a1 a2 : Option Value} {r : List (Option Value)} {x : Int32} {z : Int} (v : Int32) (hC : gOk Lw l X cc own dd ca sa) (hd : decode cc pc = .ok (.iinc 3 z, 3)) (hv : Int32.ofInt z = v) (hp : g1 a2 = true) (kk : G Lw X k n (pc + 3) (a0 :: a1 :: a2 :: some (.int (x + v)) :: r) st σ) : G Lw X k n pc (a0 :: a1 :: a2 :: some (.int x) :: r) st σ := by
  obtain ⟨p, l', e, R, s, m, args, below, meth, c, nL, H0, A, E, Q⟩ := X
  obtain ⟨hx, hb, hml, hown, hTB, hK, hD, hA, hR, hlocks, rfl, hh0, hNs⟩ := hC
  subst hv
  intro H locs arr hn hP hS hl T hT XX
  obtain ⟨arr1, e1, hl1⟩ := lv_store1 (v := .int (x + Int32.ofInt z)) hl (show 3 < nL by rw [← hn]; simp only [List.length_cons]; omega) rfl
  have hg := g_loc hl 3 rfl
  obtain ⟨t, a, b⟩ := kk H locs arr1 hn hP hS (g_fil1 hl1 (fun j hj w hw => g1_spec hp w (by obtain rfl : j = 2 := (by omega); exact Option.some.inj hw))) T hT XX
  refine ⟨t, ?_, b⟩
  jvm_step XX.here [XX.here.top, ↓top_set XX.here.top, hx, hb, hd, hg, e1]
  exact a
theorem g_inc4 {Lw : gL} {l : Launch} {X : gC} {cc : ByteArray} {own : String} {dd ca sa k n pc : Nat} {st : List Value} {σ : Mem} {a0 a1 a2 a3 : Option Value} {r : List (Option Value)} {x : Int32} {z : Int} (v : Int32) (hC : gOk Lw l X cc own dd ca sa) (hd : decode cc pc = .ok (.iinc 4 z, 3)) (hv : Int32.ofInt z = v) (hp : g1 a3 = true) (kk : G Lw X k n (pc + 3) (a0 :: a1 :: a2 :: a3 :: some (.int (x + v)) :: r) st σ) : G Lw X k n pc (a0 :: a1 :: a2 :: a3 :: some (.int x) :: r) st σ := by
  obtain ⟨p, l', e, R, s, m, args, below, meth, c, nL, H0, A, E, Q⟩ := X
  obtain ⟨hx, hb, hml, hown, hTB, hK, hD, hA, hR, hlocks, rfl, hh0, hNs⟩ := hC
  subst hv
  intro H locs arr hn hP hS hl T hT XX
  obtain ⟨arr1, e1, hl1⟩ := lv_store1 (v := .int (x + Int32.ofInt z)) hl (show 4 < nL by rw [← hn]; simp only [List.length_cons]; omega) rfl
  have hg := g_loc hl 4 rfl
  obtain ⟨t, a, b⟩ := kk H locs arr1 hn hP hS (g_fil1 hl1 (fun j hj w hw => g1_spec hp w (by obtain rfl : j = 3 := (by omega); exact Option.some.inj hw))) T hT XX
  refine ⟨t, ?_, b⟩
  jvm_step XX.here [XX.here.top, ↓top_set XX.here.top, hx, hb, hd, hg, e1]
  exact a
theorem g_inc5 {Lw : gL} {l : Launch} {X : gC} {cc : ByteArray} {own : String} {dd ca sa k n pc : Nat} {st : List Value} {σ : Mem} {a0 a1 a2 a3 a4 : Option Value} {r : List (Option Value)} {x : Int32} {z : Int} (v : Int32) (hC : gOk Lw l X cc own dd ca sa) (hd : decode cc pc = .ok (.iinc 5 z, 3)) (hv : Int32.ofInt z = v) (hp : g1 a4 = true) (kk : G Lw X k n (pc + 3) (a0 :: a1 :: a2 :: a3 :: a4 :: some (.int (x + v)) :: r) st σ) : G Lw X k n pc (a0 :: a1 :: a2 :: a3 :: a4 :: some (.int x) :: r) st σ := by
  obtain ⟨p, l', e, R, s, m, args, below, meth, c, nL, H0, A, E, Q⟩ := X
  obtain ⟨hx, hb, hml, hown, hTB, hK, hD, hA, hR, hlocks, rfl, hh0, hNs⟩ := hC
  subst hv
  intro H locs arr hn hP hS hl T hT XX
  obtain ⟨arr1, e1, hl1⟩ := lv_store1 (v := .int (x + Int32.ofInt z)) hl (show 5 < nL by rw [← hn]; simp only [List.length_cons]; omega) rfl
  have hg := g_loc hl 5 rfl
  obtain ⟨t, a, b⟩ := kk H locs arr1 hn hP hS (g_fil1 hl1 (fun j hj w hw => g1_spec hp w (by obtain rfl : j = 4 := (by omega); exact Option.some.inj hw))) T hT XX
  refine ⟨t, ?_, b⟩
  jvm_step XX.here [XX.here.top, ↓top_set XX.here.top, hx, hb, hd, hg, e1]
  exact a
theorem g_inc6 {Lw : gL} {l : Launch} {X : gC} {cc : ByteArray} {own : String} {dd ca sa k n pc : Nat} {st : List Value} {σ : Mem} {a0 a1 a2 a3 a4 a5 : Option Value} {r : List (Option Value)} {x : Int32} {z : Int} (v : Int32) (hC : gOk Lw l X cc own dd ca sa) (hd : decode cc pc = .ok (.iinc 6 z, 3)) (hv : Int32.ofInt z = v) (hp : g1 a5 = true) (kk : G Lw X k n (pc + 3) (a0 :: a1 :: a2 :: a3 :: a4 :: a5 :: some (.int (x + v)) :: r) st σ) : G Lw X k n pc (a0 :: a1 :: a2 :: a3 :: a4 :: a5 :: some (.int x) :: r) st σ := by
  obtain ⟨p, l', e, R, s, m, args, below, meth, c, nL, H0, A, E, Q⟩ := X
  obtain ⟨hx, hb, hml, hown, hTB, hK, hD, hA, hR, hlocks, rfl, hh0, hNs⟩ := hC
  subst hv
  intro H locs arr hn hP hS hl T hT XX
  obtain ⟨arr1, e1, hl1⟩ := lv_store1 (v := .int (x + Int32.ofInt z)) hl (show 6 < nL by rw [← hn]; simp only [List.length_cons]; omega) rfl
  have hg := g_loc hl 6 rfl
  obtain ⟨t, a, b⟩ := kk H locs arr1 hn hP hS (g_fil1 hl1 (fun j hj w hw => g1_spec hp w (by obtain rfl : j = 5 := (by omega); exact Option.some.inj hw))) T hT XX
  refine ⟨t, ?_, b⟩
  jvm_step XX.here [XX.here.top, ↓top_set XX.here.top, hx, hb, hd, hg, e1]
  exact a
theorem g_inc7 {Lw : gL} {l : Launch} {X : gC} {cc : ByteArray} {own : String} {dd ca sa k n pc : Nat} {st : List Value} {σ : Mem} {a0 a1 a2 a3 a4 a5 a6 : Option Value} {r : List (Option Value)} {x : Int32} {z : Int} (v : Int32) (hC : gOk Lw l X cc own dd ca sa) (hd : decode cc pc = .ok (.iinc 7 z, 3)) (hv : Int32.ofInt z = v) (hp : g1 a6 = true) (kk : G Lw X k n (pc + 3) (a0 :: a1 :: a2 :: a3 :: a4 :: a5 :: a6 :: some (.int (x + v)) :: r) st σ) : G Lw X k n pc (a0 :: a1 :: a2 :: a3 :: a4 :: a5 :: a6 :: some (.int x) :: r) st σ := by
  obtain ⟨p, l', e, R, s, m, args, below, meth, c, nL, H0, A, E, Q⟩ := X
  obtain ⟨hx, hb, hml, hown, hTB, hK, hD, hA, hR, hlocks, rfl, hh0, hNs⟩ := hC
  subst hv
  intro H locs arr hn hP hS hl T hT XX
  obtain ⟨arr1, e1, hl1⟩ := lv_store1 (v := .int (x + Int32.ofInt z)) hl (show 7 < nL by rw [← hn]; simp only [List.length_cons]; omega) rfl
  have hg := g_loc hl 7 rfl
  obtain ⟨t, a, b⟩ := kk H locs arr1 hn hP hS (g_fil1 hl1 (fun j hj w hw => g1_spec hp w (by obtain rfl : j = 6 := (by omega); exact Option.some.inj hw))) T hT XX
  refine ⟨t, ?_, b⟩
  jvm_step XX.here [XX.here.top, ↓top_set XX.here.top, hx, hb, hd, hg, e1]
  exact a
theorem g_inc8 {Lw : gL} {l : Launch} {X : gC} {cc : ByteArray} {own : String} {dd ca sa k n pc : Nat} {st : List Value} {σ : Mem} {a0 a1 a2 a3 a4 a5 a6 a7 : Option Value} {r : List (Option Value)} {x : Int32} {z : Int} (v : Int32) (hC : gOk Lw l X cc own dd ca sa) (hd : decode cc pc = .ok (.iinc 8 z, 3)) (hv : Int32.ofInt z = v) (hp : g1 a7 = true) (kk : G Lw X k n (pc + 3) (a0 :: a1 :: a2 :: a3 :: a4 :: a5 :: a6 :: a7 :: some (.int (x + v)) :: r) st σ) : G Lw X k n pc (a0 :: a1 :: a2 :: a3 :: a4 :: a5 :: a6 :: a7 :: some (.int x) :: r) st σ := by
  obtain ⟨p, l', e, R, s, m, args, below, meth, c, nL, H0, A, E, Q⟩ := X
  obtain ⟨hx, hb, hml, hown, hTB, hK, hD, hA, hR, hlocks, rfl, hh0, hNs⟩ := hC
  subst hv
  intro H locs arr hn hP hS hl T hT XX
  obtain ⟨arr1, e1, hl1⟩ := lv_store1 (v := .int (x + Int32.ofInt z)) hl (show 8 < nL by rw [← hn]; simp only [List.length_cons]; omega) rfl
  have hg := g_loc hl 8 rfl
  obtain ⟨t, a, b⟩ := kk H locs arr1 hn hP hS (g_fil1 hl1 (fun j hj w hw => g1_spec hp w (by obtain rfl : j = 7 := (by omega); exact Option.some.inj hw))) T hT XX
  refine ⟨t, ?_, b⟩
  jvm_step XX.here [XX.here.top, ↓top_set XX.here.top, hx, hb, hd, hg, e1]
  exact a
theorem g_inc9 {Lw : gL} {l : Launch} {X : gC} {cc : ByteArray} {own : String} {dd ca sa k n pc : Nat} {st : List Value} {σ : Mem} {a0 a1 a2 a3 a4 a5 a6 a7 a8 : Option Value} {r : List (Option Value)} {x : Int32} {z : Int} (v : Int32) (hC : gOk Lw l X cc own dd ca sa) (hd : decode cc pc = .ok (.iinc 9 z, 3)) (hv : Int32.ofInt z = v) (hp : g1 a8 = true) (kk : G Lw X k n (pc + 3) (a0 :: a1 :: a2 :: a3 :: a4 :: a5 :: a6 :: a7 :: a8 :: some (.int (x + v)) :: r) st σ) : G Lw X k n pc (a0 :: a1 :: a2 :: a3 :: a4 :: a5 :: a6 :: a7 :: a8 :: some (.int x) :: r) st σ := by
  obtain ⟨p, l', e, R, s, m, args, below, meth, c, nL, H0, A, E, Q⟩ := X
  obtain ⟨hx, hb, hml, hown, hTB, hK, hD, hA, hR, hlocks, rfl, hh0, hNs⟩ := hC
  subst hv
  intro H locs arr hn hP hS hl T hT XX
  obtain ⟨arr1, e1, hl1⟩ := lv_store1 (v := .int (x + Int32.ofInt z)) hl (show 9 < nL by rw [← hn]; simp only [List.length_cons]; omega) rfl
  have hg := g_loc hl 9 rfl
  obtain ⟨t, a, b⟩ := kk H locs arr1 hn hP hS (g_fil1 hl1 (fun j hj w hw => g1_spec hp w (by obtain rfl : j = 8 := (by omega); exact Option.some.inj hw))) T hT XX
  refine ⟨t, ?_, b⟩
  jvm_step XX.here [XX.here.top, ↓top_set XX.here.top, hx, hb, hd, hg, e1]
  exact a
theorem g_inc10 {Lw : gL} {l : Launch} {X : gC} {cc : ByteArray} {own : String} {dd ca sa k n pc : Nat} {st : List Value} {σ : Mem} {a0 a1 a2 a3 a4 a5 a6 a7 a8 a9 : Option Value} {r : List (Option Value)} {x : Int32} {z : Int} (v : Int32) (hC : gOk Lw l X cc own dd ca sa) (hd : decode cc pc = .ok (.iinc 10 z, 3)) (hv : Int32.ofInt z = v) (hp : g1 a9 = true) (kk : G Lw X k n (pc + 3) (a0 :: a1 :: a2 :: a3 :: a4 :: a5 :: a6 :: a7 :: a8 :: a9 :: some (.int (x + v)) :: r) st σ) : G Lw X k n pc (a0 :: a1 :: a2 :: a3 :: a4 :: a5 :: a6 :: a7 :: a8 :: a9 :: some (.int x) :: r) st σ := by
  obtain ⟨p, l', e, R, s, m, args, below, meth, c, nL, H0, A, E, Q⟩ := X
  obtain ⟨hx, hb, hml, hown, hTB, hK, hD, hA, hR, hlocks, rfl, hh0, hNs⟩ := hC
  subst hv
  intro H locs arr hn hP hS hl T hT XX
  obtain ⟨arr1, e1, hl1⟩ := lv_store1 (v := .int (x + Int32.ofInt z)) hl (show 10 < nL by rw [← hn]; simp only [List.length_cons]; omega) rfl
  have hg := g_loc hl 10 rfl
  obtain ⟨t, a, b⟩ := kk H locs arr1 hn hP hS (g_fil1 hl1 (fun j hj w hw => g1_spec hp w (by obtain rfl : j = 9 := (by omega); exact Option.some.inj hw))) T hT XX
  refine ⟨t, ?_, b⟩
  jvm_step XX.here [XX.here.top, ↓top_set XX.here.top, hx, hb, hd, hg, e1]
  exact a
theorem g_inc11 {Lw : gL} {l : Launch} {X : gC} {cc : ByteArray} {own : String} {dd ca sa k n pc : Nat} {st : List Value} {σ : Mem} {a0 a1 a2 a3 a4 a5 a6 a7 a8 a9 a10 : Option Value} {r : List (Option Value)} {x : Int32} {z : Int} (v : Int32) (hC : gOk Lw l X cc own dd ca sa) (hd : decode cc pc = .ok (.iinc 11 z, 3)) (hv : Int32.ofInt z = v) (hp : g1 a10 = true) (kk : G Lw X k n (pc + 3) (a0 :: a1 :: a2 :: a3 :: a4 :: a5 :: a6 :: a7 :: a8 :: a9 :: a10 :: some (.int (x + v)) :: r) st σ) : G Lw X k n pc (a0 :: a1 :: a2 :: a3 :: a4 :: a5 :: a6 :: a7 :: a8 :: a9 :: a10 :: some (.int x) :: r) st σ := by
  obtain ⟨p, l', e, R, s, m, args, below, meth, c, nL, H0, A, E, Q⟩ := X
  obtain ⟨hx, hb, hml, hown, hTB, hK, hD, hA, hR, hlocks, rfl, hh0, hNs⟩ := hC
  subst hv
  intro H locs arr hn hP hS hl T hT XX
  obtain ⟨arr1, e1, hl1⟩ := lv_store1 (v := .int (x + Int32.ofInt z)) hl (show 11 < nL by rw [← hn]; simp only [List.length_cons]; omega) rfl
  have hg := g_loc hl 11 rfl
  obtain ⟨t, a, b⟩ := kk H locs arr1 hn hP hS (g_fil1 hl1 (fun j hj w hw => g1_spec hp w (by obtain rfl : j = 10 := (by omega); exact Option.some.inj hw))) T hT XX
  refine ⟨t, ?_, b⟩
  jvm_step XX.here [XX.here.top, ↓top_set XX.here.top, hx, hb, hd, hg, e1]
  exact a
theorem g_inc12 {Lw : gL} {l : Launch} {X : gC} {cc : ByteArray} {own : String} {dd ca sa k n pc : Nat} {st : List Value} {σ : Mem} {a0 a1 a2 a3 a4 a5 a6 a7 a8 a9 a10 a11 : Option Value} {r : List (Option Value)} {x : Int32} {z : Int} (v : Int32) (hC : gOk Lw l X cc own dd ca sa) (hd : decode cc pc = .ok (.iinc 12 z, 3)) (hv : Int32.ofInt z = v) (hp : g1 a11 = true) (kk : G Lw X k n (pc + 3) (a0 :: a1 :: a2 :: a3 :: a4 :: a5 :: a6 :: a7 :: a8 :: a9 :: a10 :: a11 :: some (.int (x + v)) :: r) st σ) : G Lw X k n pc (a0 :: a1 :: a2 :: a3 :: a4 :: a5 :: a6 :: a7 :: a8 :: a9 :: a10 :: a11 :: some (.int x) :: r) st σ := by
  obtain ⟨p, l', e, R, s, m, args, below, meth, c, nL, H0, A, E, Q⟩ := X
  obtain ⟨hx, hb, hml, hown, hTB, hK, hD, hA, hR, hlocks, rfl, hh0, hNs⟩ := hC
  subst hv
  intro H locs arr hn hP hS hl T hT XX
  obtain ⟨arr1, e1, hl1⟩ := lv_store1 (v := .int (x + Int32.ofInt z)) hl (show 12 < nL by rw [← hn]; simp only [List.length_cons]; omega) rfl
  have hg := g_loc hl 12 rfl
  obtain ⟨t, a, b⟩ := kk H locs arr1 hn hP hS (g_fil1 hl1 (fun j hj w hw => g1_spec hp w (by obtain rfl : j = 11 := (by omega); exact Option.some.inj hw))) T hT XX
  refine ⟨t, ?_, b⟩
  jvm_step XX.here [XX.here.top, ↓top_set XX.here.top, hx, hb, hd, hg, e1]
  exact a
theorem g_inc13 {Lw : gL} {l : Launch} {X : gC} {cc : ByteArray} {own : String} {dd ca sa k n pc : Nat} {st : List Value} {σ : Mem} {a0 a1 a2 a3 a4 a5 a6 a7 a8 a9 a10 a11 a12 : Option Value} {r : List (Option Value)} {x : Int32} {z : Int} (v : Int32) (hC : gOk Lw l X cc own dd ca sa) (hd : decode cc pc = .ok (.iinc 13 z, 3)) (hv : Int32.ofInt z = v) (hp : g1 a12 = true) (kk : G Lw X k n (pc + 3) (a0 :: a1 :: a2 :: a3 :: a4 :: a5 :: a6 :: a7 :: a8 :: a9 :: a10 :: a11 :: a12 :: some (.int (x + v)) :: r) st σ) : G Lw X k n pc (a0 :: a1 :: a2 :: a3 :: a4 :: a5 :: a6 :: a7 :: a8 :: a9 :: a10 :: a11 :: a12 :: some (.int x) :: r) st σ := by
  obtain ⟨p, l', e, R, s, m, args, below, meth, c, nL, H0, A, E, Q⟩ := X
  obtain ⟨hx, hb, hml, hown, hTB, hK, hD, hA, hR, hlocks, rfl, hh0, hNs⟩ := hC
  subst hv
  intro H locs arr hn hP hS hl T hT XX
  obtain ⟨arr1, e1, hl1⟩ := lv_store1 (v := .int (x + Int32.ofInt z)) hl (show 13 < nL by rw [← hn]; simp only [List.length_cons]; omega) rfl
  have hg := g_loc hl 13 rfl
  obtain ⟨t, a, b⟩ := kk H locs arr1 hn hP hS (g_fil1 hl1 (fun j hj w hw => g1_spec hp w (by obtain rfl : j = 12 := (by omega); exact Option.some.inj hw))) T hT XX
  refine ⟨t, ?_, b⟩
  jvm_step XX.here [XX.here.top, ↓top_set XX.here.top, hx, hb, hd, hg, e1]
  exact a
theorem g_icmp_eq {Lw : gL} {l : Launch} {X : gC} {cc : ByteArray} {own : String} {dd ca sa k n pc : Nat} {ls : List (Option Value)} {st : List Value} {σ : Mem} {x y : Int32} {off : Int} (tgt : Nat) (hC : gOk Lw l X cc own dd ca sa) (hd : decode cc pc = .ok (.if_icmp .eq off, 3)) (ht : (pc : Int) + off = (tgt : Int)) (kt : x = y → G Lw X k n tgt ls st σ) (kf : ¬ (x = y) → G Lw X k n (pc + 3) ls st σ) : G Lw X k n pc ls (.int y :: .int x :: st) σ := by
  obtain ⟨p, l', e, R, s, m, args, below, meth, c, nL, H0, A, E, Q⟩ := X
  obtain ⟨hx, hb, hml, hown, hTB, hK, hD, hA, hR, hlocks, rfl, hh0, hNs⟩ := hC
  exact fun H locs arr hn hP hS hl => lv_icmp_eq hx hb hd ht (fun h => kt h H locs arr hn hP hS hl) (fun h => kf h H locs arr hn hP hS hl)
theorem g_if_eq {Lw : gL} {l : Launch} {X : gC} {cc : ByteArray} {own : String} {dd ca sa k n pc : Nat} {ls : List (Option Value)} {st : List Value} {σ : Mem} {x : Int32} {off : Int} (tgt : Nat) (hC : gOk Lw l X cc own dd ca sa) (hd : decode cc pc = .ok (.ifCond .eq off, 3)) (ht : (pc : Int) + off = (tgt : Int)) (kt : x = 0 → G Lw X k n tgt ls st σ) (kf : ¬ (x = 0) → G Lw X k n (pc + 3) ls st σ) : G Lw X k n pc ls (.int x :: st) σ := by
  obtain ⟨p, l', e, R, s, m, args, below, meth, c, nL, H0, A, E, Q⟩ := X
  obtain ⟨hx, hb, hml, hown, hTB, hK, hD, hA, hR, hlocks, rfl, hh0, hNs⟩ := hC
  exact fun H locs arr hn hP hS hl => lv_if_eq hx hb hd ht (fun h => kt h H locs arr hn hP hS hl) (fun h => kf h H locs arr hn hP hS hl)
theorem g_icmp_ne {Lw : gL} {l : Launch} {X : gC} {cc : ByteArray} {own : String} {dd ca sa k n pc : Nat} {ls : List (Option Value)} {st : List Value} {σ : Mem} {x y : Int32} {off : Int} (tgt : Nat) (hC : gOk Lw l X cc own dd ca sa) (hd : decode cc pc = .ok (.if_icmp .ne off, 3)) (ht : (pc : Int) + off = (tgt : Int)) (kt : x ≠ y → G Lw X k n tgt ls st σ) (kf : x = y → G Lw X k n (pc + 3) ls st σ) : G Lw X k n pc ls (.int y :: .int x :: st) σ := by
  obtain ⟨p, l', e, R, s, m, args, below, meth, c, nL, H0, A, E, Q⟩ := X
  obtain ⟨hx, hb, hml, hown, hTB, hK, hD, hA, hR, hlocks, rfl, hh0, hNs⟩ := hC
  exact fun H locs arr hn hP hS hl => lv_icmp_ne hx hb hd ht (fun h => kt h H locs arr hn hP hS hl) (fun h => kf h H locs arr hn hP hS hl)
theorem g_if_ne {Lw : gL} {l : Launch} {X : gC} {cc : ByteArray} {own : String} {dd ca sa k n pc : Nat} {ls : List (Option Value)} {st : List Value} {σ : Mem} {x : Int32} {off : Int} (tgt : Nat) (hC : gOk Lw l X cc own dd ca sa) (hd : decode cc pc = .ok (.ifCond .ne off, 3)) (ht : (pc : Int) + off = (tgt : Int)) (kt : x ≠ 0 → G Lw X k n tgt ls st σ) (kf : x = 0 → G Lw X k n (pc + 3) ls st σ) : G Lw X k n pc ls (.int x :: st) σ := by
  obtain ⟨p, l', e, R, s, m, args, below, meth, c, nL, H0, A, E, Q⟩ := X
  obtain ⟨hx, hb, hml, hown, hTB, hK, hD, hA, hR, hlocks, rfl, hh0, hNs⟩ := hC
  exact fun H locs arr hn hP hS hl => lv_if_ne hx hb hd ht (fun h => kt h H locs arr hn hP hS hl) (fun h => kf h H locs arr hn hP hS hl)
theorem g_icmp_lt {Lw : gL} {l : Launch} {X : gC} {cc : ByteArray} {own : String} {dd ca sa k n pc : Nat} {ls : List (Option Value)} {st : List Value} {σ : Mem} {x y : Int32} {off : Int} (tgt : Nat) (hC : gOk Lw l X cc own dd ca sa) (hd : decode cc pc = .ok (.if_icmp .lt off, 3)) (ht : (pc : Int) + off = (tgt : Int)) (kt : x < y → G Lw X k n tgt ls st σ) (kf : ¬ (x < y) → G Lw X k n (pc + 3) ls st σ) : G Lw X k n pc ls (.int y :: .int x :: st) σ := by
  obtain ⟨p, l', e, R, s, m, args, below, meth, c, nL, H0, A, E, Q⟩ := X
  obtain ⟨hx, hb, hml, hown, hTB, hK, hD, hA, hR, hlocks, rfl, hh0, hNs⟩ := hC
  exact fun H locs arr hn hP hS hl => lv_icmp_lt hx hb hd ht (fun h => kt h H locs arr hn hP hS hl) (fun h => kf h H locs arr hn hP hS hl)
theorem g_if_lt {Lw : gL} {l : Launch} {X : gC} {cc : ByteArray} {own : String} {dd ca sa k n pc : Nat} {ls : List (Option Value)} {st : List Value} {σ : Mem} {x : Int32} {off : Int} (tgt : Nat) (hC : gOk Lw l X cc own dd ca sa) (hd : decode cc pc = .ok (.ifCond .lt off, 3)) (ht : (pc : Int) + off = (tgt : Int)) (kt : x < 0 → G Lw X k n tgt ls st σ) (kf : ¬ (x < 0) → G Lw X k n (pc + 3) ls st σ) : G Lw X k n pc ls (.int x :: st) σ := by
  obtain ⟨p, l', e, R, s, m, args, below, meth, c, nL, H0, A, E, Q⟩ := X
  obtain ⟨hx, hb, hml, hown, hTB, hK, hD, hA, hR, hlocks, rfl, hh0, hNs⟩ := hC
  exact fun H locs arr hn hP hS hl => lv_if_lt hx hb hd ht (fun h => kt h H locs arr hn hP hS hl) (fun h => kf h H locs arr hn hP hS hl)
theorem g_icmp_ge {Lw : gL} {l : Launch} {X : gC} {cc : ByteArray} {own : String} {dd ca sa k n pc : Nat} {ls : List (Option Value)} {st : List Value} {σ : Mem} {x y : Int32} {off : Int} (tgt : Nat) (hC : gOk Lw l X cc own dd ca sa) (hd : decode cc pc = .ok (.if_icmp .ge off, 3)) (ht : (pc : Int) + off = (tgt : Int)) (kt : y ≤ x → G Lw X k n tgt ls st σ) (kf : ¬ (y ≤ x) → G Lw X k n (pc + 3) ls st σ) : G Lw X k n pc ls (.int y :: .int x :: st) σ := by
  obtain ⟨p, l', e, R, s, m, args, below, meth, c, nL, H0, A, E, Q⟩ := X
  obtain ⟨hx, hb, hml, hown, hTB, hK, hD, hA, hR, hlocks, rfl, hh0, hNs⟩ := hC
  exact fun H locs arr hn hP hS hl => lv_icmp_ge hx hb hd ht (fun h => kt h H locs arr hn hP hS hl) (fun h => kf h H locs arr hn hP hS hl)
theorem g_if_ge {Lw : gL} {l : Launch} {X : gC} {cc : ByteArray} {own : String} {dd ca sa k n pc : Nat} {ls : List (Option Value)} {st : List Value} {σ : Mem} {x : Int32} {off : Int} (tgt : Nat) (hC : gOk Lw l X cc own dd ca sa) (hd : decode cc pc = .ok (.ifCond .ge off, 3)) (ht : (pc : Int) + off = (tgt : Int)) (kt : 0 ≤ x → G Lw X k n tgt ls st σ) (kf : ¬ (0 ≤ x) → G Lw X k n (pc + 3) ls st σ) : G Lw X k n pc ls (.int x :: st) σ := by
  obtain ⟨p, l', e, R, s, m, args, below, meth, c, nL, H0, A, E, Q⟩ := X
  obtain ⟨hx, hb, hml, hown, hTB, hK, hD, hA, hR, hlocks, rfl, hh0, hNs⟩ := hC
  exact fun H locs arr hn hP hS hl => lv_if_ge hx hb hd ht (fun h => kt h H locs arr hn hP hS hl) (fun h => kf h H locs arr hn hP hS hl)
theorem g_icmp_gt {Lw : gL} {l : Launch} {X : gC} {cc : ByteArray} {own : String} {dd ca sa k n pc : Nat} {ls : List (Option Value)} {st : List Value} {σ : Mem} {x y : Int32} {off : Int} (tgt : Nat) (hC : gOk Lw l X cc own dd ca sa) (hd : decode cc pc = .ok (.if_icmp .gt off, 3)) (ht : (pc : Int) + off = (tgt : Int)) (kt : y < x → G Lw X k n tgt ls st σ) (kf : ¬ (y < x) → G Lw X k n (pc + 3) ls st σ) : G Lw X k n pc ls (.int y :: .int x :: st) σ := by
  obtain ⟨p, l', e, R, s, m, args, below, meth, c, nL, H0, A, E, Q⟩ := X
  obtain ⟨hx, hb, hml, hown, hTB, hK, hD, hA, hR, hlocks, rfl, hh0, hNs⟩ := hC
  exact fun H locs arr hn hP hS hl => lv_icmp_gt hx hb hd ht (fun h => kt h H locs arr hn hP hS hl) (fun h => kf h H locs arr hn hP hS hl)
theorem g_if_gt {Lw : gL} {l : Launch} {X : gC} {cc : ByteArray} {own : String} {dd ca sa k n pc : Nat} {ls : List (Option Value)} {st : List Value} {σ : Mem} {x : Int32} {off : Int} (tgt : Nat) (hC : gOk Lw l X cc own dd ca sa) (hd : decode cc pc = .ok (.ifCond .gt off, 3)) (ht : (pc : Int) + off = (tgt : Int)) (kt : 0 < x → G Lw X k n tgt ls st σ) (kf : ¬ (0 < x) → G Lw X k n (pc + 3) ls st σ) : G Lw X k n pc ls (.int x :: st) σ := by
  obtain ⟨p, l', e, R, s, m, args, below, meth, c, nL, H0, A, E, Q⟩ := X
  obtain ⟨hx, hb, hml, hown, hTB, hK, hD, hA, hR, hlocks, rfl, hh0, hNs⟩ := hC
  exact fun H locs arr hn hP hS hl => lv_if_gt hx hb hd ht (fun h => kt h H locs arr hn hP hS hl) (fun h => kf h H locs arr hn hP hS hl)
theorem g_icmp_le {Lw : gL} {l : Launch} {X : gC} {cc : ByteArray} {own : String} {dd ca sa k n pc : Nat} {ls : List (Option Value)} {st : List Value} {σ : Mem} {x y : Int32} {off : Int} (tgt : Nat) (hC : gOk Lw l X cc own dd ca sa) (hd : decode cc pc = .ok (.if_icmp .le off, 3)) (ht : (pc : Int) + off = (tgt : Int)) (kt : x ≤ y → G Lw X k n tgt ls st σ) (kf : ¬ (x ≤ y) → G Lw X k n (pc + 3) ls st σ) : G Lw X k n pc ls (.int y :: .int x :: st) σ := by
  obtain ⟨p, l', e, R, s, m, args, below, meth, c, nL, H0, A, E, Q⟩ := X
  obtain ⟨hx, hb, hml, hown, hTB, hK, hD, hA, hR, hlocks, rfl, hh0, hNs⟩ := hC
  exact fun H locs arr hn hP hS hl => lv_icmp_le hx hb hd ht (fun h => kt h H locs arr hn hP hS hl) (fun h => kf h H locs arr hn hP hS hl)
theorem g_if_le {Lw : gL} {l : Launch} {X : gC} {cc : ByteArray} {own : String} {dd ca sa k n pc : Nat} {ls : List (Option Value)} {st : List Value} {σ : Mem} {x : Int32} {off : Int} (tgt : Nat) (hC : gOk Lw l X cc own dd ca sa) (hd : decode cc pc = .ok (.ifCond .le off, 3)) (ht : (pc : Int) + off = (tgt : Int)) (kt : x ≤ 0 → G Lw X k n tgt ls st σ) (kf : ¬ (x ≤ 0) → G Lw X k n (pc + 3) ls st σ) : G Lw X k n pc ls (.int x :: st) σ := by
  obtain ⟨p, l', e, R, s, m, args, below, meth, c, nL, H0, A, E, Q⟩ := X
  obtain ⟨hx, hb, hml, hown, hTB, hK, hD, hA, hR, hlocks, rfl, hh0, hNs⟩ := hC
  exact fun H locs arr hn hP hS hl => lv_if_le hx hb hd ht (fun h => kt h H locs arr hn hP hS hl) (fun h => kf h H locs arr hn hP hS hl)
theorem g_goto {Lw : gL} {l : Launch} {X : gC} {cc : ByteArray} {own : String} {dd ca sa k n pc : Nat} {ls : List (Option Value)} {st : List Value} {σ : Mem} {off : Int} (tgt : Nat) (hC : gOk Lw l X cc own dd ca sa) (hd : decode cc pc = .ok (.goto off, 3)) (ht : (pc : Int) + off = (tgt : Int)) (kk : G Lw X k n tgt ls st σ) : G Lw X k n pc ls st σ := by
  obtain ⟨p, l', e, R, s, m, args, below, meth, c, nL, H0, A, E, Q⟩ := X
  obtain ⟨hx, hb, hml, hown, hTB, hK, hD, hA, hR, hlocks, rfl, hh0, hNs⟩ := hC
  exact fun H locs arr hn hP hS hl => lv_goto hx hb hd ht (kk H locs arr hn hP hS hl)
theorem g_tin {Lw : gL} {l : Launch} {X : gC} {cc : ByteArray} {own : String} {dd ca sa k n pc : Nat} {ls : List (Option Value)} {st : List Value} {σ : Mem} {x : Int32} {dflt lo hi off : Int} {offs : Array Int} {len : Nat} (tgt : Nat) (hC : gOk Lw l X cc own dd ca sa) (hd : decode cc pc = .ok (.tableswitch dflt lo hi offs, len)) (h1 : ¬ x.toInt < lo) (h2 : ¬ hi < x.toInt) (ho : offs[(x.toInt - lo).toNat]? = some off) (ht : (pc : Int) + off = (tgt : Int)) (kk : G Lw X k n tgt ls st σ) : G Lw X k n pc ls (.int x :: st) σ := by
  obtain ⟨p, l', e, R, s, m, args, below, meth, c, nL, H0, A, E, Q⟩ := X
  obtain ⟨hx, hb, hml, hown, hTB, hK, hD, hA, hR, hlocks, rfl, hh0, hNs⟩ := hC
  exact fun H locs arr hn hP hS hl => lv_tableIn hx hb hd h1 h2 ho ht (kk H locs arr hn hP hS hl)
theorem g_tout {Lw : gL} {l : Launch} {X : gC} {cc : ByteArray} {own : String} {dd ca sa k n pc : Nat} {ls : List (Option Value)} {st : List Value} {σ : Mem} {x : Int32} {dflt lo hi : Int} {offs : Array Int} {len : Nat} (tgt : Nat) (hC : gOk Lw l X cc own dd ca sa) (hd : decode cc pc = .ok (.tableswitch dflt lo hi offs, len)) (h : x.toInt < lo ∨ hi < x.toInt) (ht : (pc : Int) + dflt = (tgt : Int)) (kk : G Lw X k n tgt ls st σ) : G Lw X k n pc ls (.int x :: st) σ := by
  obtain ⟨p, l', e, R, s, m, args, below, meth, c, nL, H0, A, E, Q⟩ := X
  obtain ⟨hx, hb, hml, hown, hTB, hK, hD, hA, hR, hlocks, rfl, hh0, hNs⟩ := hC
  exact fun H locs arr hn hP hS hl => lv_tableOut hx hb hd h ht (kk H locs arr hn hP hS hl)
theorem g_look {Lw : gL} {l : Launch} {X : gC} {cc : ByteArray} {own : String} {dd ca sa k n pc : Nat} {ls : List (Option Value)} {st : List Value} {σ : Mem} {x : Int32} {dflt off : Int} {ps : Array (Int × Int)} {len : Nat} (tgt : Nat) (hC : gOk Lw l X cc own dd ca sa) (hd : decode cc pc = .ok (.lookupswitch dflt ps, len)) (hp : (ps.toList.zip (ps.toList.drop 1)).all (fun (a, next) => a.1 < next.1) = true) (ho : Op.lookupswitch.offset ps.toList dflt x.toInt = off) (ht : (pc : Int) + off = (tgt : Int)) (kk : G Lw X k n tgt ls st σ) : G Lw X k n pc ls (.int x :: st) σ := by
  obtain ⟨p, l', e, R, s, m, args, below, meth, c, nL, H0, A, E, Q⟩ := X
  obtain ⟨hx, hb, hml, hown, hTB, hK, hD, hA, hR, hlocks, rfl, hh0, hNs⟩ := hC
  exact fun H locs arr hn hP hS hl => lv_lookup hx hb hd hp ho ht (kk H locs arr hn hP hS hl)
theorem g_ldc2 {Lw : gL} {l : Launch} {X : gC} {cc : ByteArray} {own : String} {dd ca sa k n pc : Nat} {ls : List (Option Value)} {st : List Value} {σ : Mem} {index : Nat} {v : Int64} (hC : gOk Lw l X cc own dd ca sa) (hc : Cond.constantLong own index v ∈ TB) (hd : decode cc pc = .ok (.ldc2_w index, 3)) (kk : G Lw X k n (pc + 3) ls (.long v :: st) σ) : G Lw X k n pc ls st σ := by
  obtain ⟨p, l', e, R, s, m, args, below, meth, c, nL, H0, A, E, Q⟩ := X
  obtain ⟨hx, hb, hml, hown, hTB, hK, hD, hA, hR, hlocks, rfl, hh0, hNs⟩ := hC
  exact fun H locs arr hn hP hS hl => lv_ldc2 hx hb hown (hTB _ hc) hd (kk H locs arr hn hP hS hl)
theorem g_forget {Lw : gL} {X : gC} {k n pc : Nat} {ls ls1 : List (Option Value)} {st : List Value} {σ : Mem} (h : ls1.length = ls.length) (h1 : ∀ (j : Nat) (v : Value), ls1[j]? = some (some v) → ls[j]? = some (some v)) (kk : G Lw X k n pc ls1 st σ) : G Lw X k n pc ls st σ := by
  obtain ⟨p, l', e, R, s, m, args, below, meth, c, nL, H0, A, E, Q⟩ := X
  exact fun H locs arr hn hP hS hl => kk H locs arr (h.trans hn) hP hS ⟨hl.1, hl.2.1, fun q hq => by
    obtain ⟨j, e1, e2⟩ := (gl_mem _ _ _).mp hq
    exact hl.2.2 q ((gl_mem _ _ _).mpr ⟨j, e1, h1 j _ e2⟩)⟩
def gfg : List Bool → List (Option Value) → List (Option Value)
  | [], ls => ls
  | _, [] => []
  | true :: b, o :: r => o :: gfg b r
  | false :: b, _ :: r => none :: gfg b r
theorem gfg_len : ∀ (b : List Bool) (ls : List (Option Value)), (gfg b ls).length = ls.length := by
  intro b
  induction b with
  | nil => intro ls; cases ls <;> rfl
  | cons t b ih =>
    intro ls
    cases ls with
    | nil => cases t <;> rfl
    | cons o r => cases t <;> simp [gfg, ih r]
theorem gfg_at : ∀ (b : List Bool) (ls : List (Option Value)) (j : Nat) (v : Value), (gfg b ls)[j]? = some (some v) → ls[j]? = some (some v) := by
  intro b
  induction b with
  | nil => intro ls j v h; cases ls <;> exact h
  | cons t b ih =>
    intro ls j v h
    cases ls with
    | nil => cases t <;> exact h
    | cons o r =>
      cases t with
      | true =>
        cases j with
        | zero => exact h
        | succ j => exact ih r j v (by simpa [gfg] using h)
      | false =>
        cases j with
        | zero => simp [gfg] at h
        | succ j => exact ih r j v (by simpa [gfg] using h)
/-- only the locals with true are kept -/
theorem g_keep {Lw : gL} {X : gC} {k n pc : Nat} {ls : List (Option Value)} {st : List Value} {σ : Mem} (b : List Bool) (kk : G Lw X k n pc (gfg b ls) st σ) : G Lw X k n pc ls st σ := g_forget (gfg_len b ls) (gfg_at b ls) kk

theorem g_get {Lw : gL} {l : Launch} {X : gC} {cc : ByteArray} {own : String} {dd ca sa k n pc : Nat} {ls : List (Option Value)} {st : List Value} {σ : Mem} {C : String} {T : u_T} {N ci i index : Nat} {fs : List Value} {v : Value} (hC : gOk Lw l X cc own dd ca sa) (hin : ∀ w ∈ u_ws C T N, w ∈ TB) (hc : vwCl[ci]? = some (C, T, N)) (hi : i < Lw.1) (he : Lw.2 (gEv X) (σ i) i = .inr (ci, fs)) (j : Nat) (hj : j < N) (hlk : Cond.fieldLink own index (T j).1 (T j).2.1 (T j).2.2.1 ∈ TB) (hv : fs[j]? = some v) (hd : decode cc pc = .ok (.getfield index, 3)) (kk : G Lw X k n (pc + 3) ls (v :: st) σ) : G Lw X k n pc ls (.ref (gA X i) :: st) σ := by
  obtain ⟨p, l', e, R, s, m, args, below, meth, c, nL, H0, A, E, Q⟩ := X
  obtain ⟨hx, hb, hml, hown, hTB, hK, hD, hA, hR, hlocks, rfl, hh0, hNs⟩ := hC
  exact fun H locs arr hn hP hS hl => va_get (D := E.1) (ci := ci) (v := v) (C := C) (T := T) (N := N) hx hb hTB hin hown hK hP i (fs := fs) (by rw [gW_at _ _ _ hi]; exact congrArg (fun z => some (E.2.1 i, z)) he) hc j hj (hTB _ hlk) (fun _ h9 => h9) hv hd (kk H locs arr hn hP hS hl)
theorem g_put {Lw : gL} {l : Launch} {X : gC} {cc : ByteArray} {own : String} {dd ca sa k n pc : Nat} {ls : List (Option Value)} {st : List Value} {σ : Mem} {C : String} {T : u_T} {N ci i index : Nat} {fs : List Value} {v : Value} {ty : FieldType} {x : Int32} (ty0 : Nat → FieldType) (hC : gOk Lw l X cc own dd ca sa) (hin : ∀ w ∈ u_ws C T N, w ∈ TB) (hty : ∀ k, k < N → parseFieldDescriptor (T k).2.2.1 = some (ty0 k)) (hnm : ∀ a, a < N → ∀ b, b < N → a ≠ b → (T a).2.1 ≠ (T b).2.1) (hc : vwCl[ci]? = some (C, T, N)) (hi : i < Lw.1) (he : Lw.2 (gEv X) (σ i) i = .inr (ci, fs)) (j : Nat) (hj : j < N) (hlk : Cond.fieldLink own index (T j).1 (T j).2.1 (T j).2.2.1 ∈ TB) (hfin : (T j).2.2.2 = false) (hpd : parseFieldDescriptor (T j).2.2.1 = some ty) (hna : narrow ty v = v) (hfit : fits ty v = true) (hl0 : j < fs.length) (he1 : Lw.2 (gEv X) (upd (σ i) j x) i = .inr (ci, fs.set j v)) (hd : decode cc pc = .ok (.putfield index, 3)) (kk : G Lw X k n (pc + 3) ls st (upd2 σ i j x)) : G Lw X k n pc ls (v :: .ref (gA X i) :: st) σ := by
  obtain ⟨p, l', e, R, s, m, args, below, meth, c, nL, H0, A, E, Q⟩ := X
  obtain ⟨hx, hb, hml, hown, hTB, hK, hD, hA, hR, hlocks, rfl, hh0, hNs⟩ := hC
  have he2 : Lw.2 E (upd (σ i) j x) i = .inr (ci, fs.set j v) := he1
  exact fun H locs arr hn hP hS hl => va_put (D := E.1) (ci := ci) (v := v) (ty := ty) (C := C) (T := T) (N := N) hx hb hTB hin ty0 hty hnm hown hK hP (hD σ) hS i (fs := fs) (by rw [gW_at _ _ _ hi]; exact congrArg (fun z => some (E.2.1 i, z)) he) hc j hj (hTB _ hlk) (fun _ h9 => h9) hfin hpd hna hfit hl0 hd (fun H1 locs1 hP1 _ hS1 => kk H1 locs1 arr hn (by rw [← gW_set hi he2]; exact hP1) hS1 hl)
theorem g_iald {Lw : gL} {l : Launch} {X : gC} {cc : ByteArray} {own : String} {dd ca sa k n pc : Nat} {ls : List (Option Value)} {st : List Value} {σ : Mem} {i N j : Nat} {f : Nat → Int32} {x : Int32} (hC : gOk Lw l X cc own dd ca sa) (hi : i < Lw.1) (he : Lw.2 (gEv X) (σ i) i = .inl ((gEv X).2.2 0, N, .inl f)) (hx0 : x = nI j) (hj : j < N) (hN : N < 2 ^ 31) (hd : decode cc pc = .ok (.iaload, 1)) (kk : G Lw X k n (pc + 1) ls (.int (f j) :: st) σ) : G Lw X k n pc ls (.int x :: .ref (gA X i) :: st) σ := by
  obtain ⟨p, l', e, R, s, m, args, below, meth, c, nL, H0, A, E, Q⟩ := X
  obtain ⟨hx, hb, hml, hown, hTB, hK, hD, hA, hR, hlocks, rfl, hh0, hNs⟩ := hC
  subst hx0
  have hcl : (nI j).toNatClampNeg = j := nI_clamp (by omega)
  exact fun H locs arr hn hP hS hl => va_iald hx hb hK hP i 0 (n := N) (f := f) (by rw [gW_at _ _ _ hi]; exact congrArg (fun z => some (E.2.1 i, z)) he) rfl (vp_in_nI hj hN) hd (by rw [hcl]; exact kk H locs arr hn hP hS hl)
theorem g_zald {Lw : gL} {l : Launch} {X : gC} {cc : ByteArray} {own : String} {dd ca sa k n pc : Nat} {ls : List (Option Value)} {st : List Value} {σ : Mem} {i N j : Nat} {f : Nat → Int32} {x : Int32} (hC : gOk Lw l X cc own dd ca sa) (hi : i < Lw.1) (he : Lw.2 (gEv X) (σ i) i = .inl ((gEv X).2.2 1, N, .inl f)) (hx0 : x = nI j) (hj : j < N) (hN : N < 2 ^ 31) (hd : decode cc pc = .ok (.baload, 1)) (kk : G Lw X k n (pc + 1) ls (.int (f j) :: st) σ) : G Lw X k n pc ls (.int x :: .ref (gA X i) :: st) σ := by
  obtain ⟨p, l', e, R, s, m, args, below, meth, c, nL, H0, A, E, Q⟩ := X
  obtain ⟨hx, hb, hml, hown, hTB, hK, hD, hA, hR, hlocks, rfl, hh0, hNs⟩ := hC
  subst hx0
  have hcl : (nI j).toNatClampNeg = j := nI_clamp (by omega)
  exact fun H locs arr hn hP hS hl => va_zald hx hb hK hP i 1 (n := N) (f := f) (by rw [gW_at _ _ _ hi]; exact congrArg (fun z => some (E.2.1 i, z)) he) rfl (vp_in_nI hj hN) hd (by rw [hcl]; exact kk H locs arr hn hP hS hl)
theorem g_iast {Lw : gL} {l : Launch} {X : gC} {cc : ByteArray} {own : String} {dd ca sa k n pc : Nat} {ls : List (Option Value)} {st : List Value} {σ : Mem} {i N j : Nat} {f : Nat → Int32} {x y : Int32} (hC : gOk Lw l X cc own dd ca sa) (hi : i < Lw.1) (he : Lw.2 (gEv X) (σ i) i = .inl ((gEv X).2.2 0, N, .inl f)) (hx0 : x = nI j) (hj : j < N) (hN : N < 2 ^ 31) (he1 : Lw.2 (gEv X) (upd (σ i) j y) i = .inl ((gEv X).2.2 0, N, .inl (upd f j y))) (hd : decode cc pc = .ok (.iastore, 1)) (kk : G Lw X k n (pc + 1) ls st (upd2 σ i j y)) : G Lw X k n pc ls (.int y :: .int x :: .ref (gA X i) :: st) σ := by
  obtain ⟨p, l', e, R, s, m, args, below, meth, c, nL, H0, A, E, Q⟩ := X
  obtain ⟨hx, hb, hml, hown, hTB, hK, hD, hA, hR, hlocks, rfl, hh0, hNs⟩ := hC
  subst hx0
  have hcl : (nI j).toNatClampNeg = j := nI_clamp (by omega)
  refine fun H locs arr hn hP hS hl => va_iast hx hb hK hP (hD σ) hS i 0 (n := N) (f := f) (by rw [gW_at _ _ _ hi]; exact congrArg (fun z => some (E.2.1 i, z)) he) rfl (vp_in_nI hj hN) hd (fun H1 locs1 hP1 _ hS1 => kk H1 locs1 arr hn ?_ hS1 hl)
  have he2 : Lw.2 E (upd (σ i) j y) i = .inl (E.2.2 0, N, .inl (upd f j y)) := he1
  rw [← gW_set hi he2]
  rw [hcl] at hP1
  exact hP1
theorem g_zast {Lw : gL} {l : Launch} {X : gC} {cc : ByteArray} {own : String} {dd ca sa k n pc : Nat} {ls : List (Option Value)} {st : List Value} {σ : Mem} {i N j : Nat} {f : Nat → Int32} {x y : Int32} (hC : gOk Lw l X cc own dd ca sa) (hi : i < Lw.1) (he : Lw.2 (gEv X) (σ i) i = .inl ((gEv X).2.2 1, N, .inl f)) (hx0 : x = nI j) (hj : j < N) (hN : N < 2 ^ 31) (he1 : Lw.2 (gEv X) (upd (σ i) j (vp_nar .boolean y)) i = .inl ((gEv X).2.2 1, N, .inl (upd f j (vp_nar .boolean y)))) (hd : decode cc pc = .ok (.bastore, 1)) (kk : G Lw X k n (pc + 1) ls st (upd2 σ i j (vp_nar .boolean y))) : G Lw X k n pc ls (.int y :: .int x :: .ref (gA X i) :: st) σ := by
  obtain ⟨p, l', e, R, s, m, args, below, meth, c, nL, H0, A, E, Q⟩ := X
  obtain ⟨hx, hb, hml, hown, hTB, hK, hD, hA, hR, hlocks, rfl, hh0, hNs⟩ := hC
  subst hx0
  have hcl : (nI j).toNatClampNeg = j := nI_clamp (by omega)
  refine fun H locs arr hn hP hS hl => va_zast hx hb hK hP (hD σ) hS i 1 (n := N) (f := f) (by rw [gW_at _ _ _ hi]; exact congrArg (fun z => some (E.2.1 i, z)) he) rfl (vp_in_nI hj hN) hd (fun H1 locs1 hP1 _ hS1 => kk H1 locs1 arr hn ?_ hS1 hl)
  have he2 : Lw.2 E (upd (σ i) j (vp_nar .boolean y)) i = .inl (E.2.2 1, N, .inl (upd f j (vp_nar .boolean y))) := he1
  rw [← gW_set hi he2]
  rw [hcl] at hP1
  exact hP1
theorem g_aald {Lw : gL} {l : Launch} {X : gC} {cc : ByteArray} {own : String} {dd ca sa k n pc : Nat} {ls : List (Option Value)} {st : List Value} {σ : Mem} {i N j t0 a : Nat} {f : Nat → Option Nat} {x : Int32} {ct : String} (hC : gOk Lw l X cc own dd ca sa) (hi : i < Lw.1) (he : Lw.2 (gEv X) (σ i) i = .inl ((gEv X).2.2 t0, N, .inr (.inr (.inr (.inr f))))) (ht : ∀ cy, (gT cy)[t0]? = some (cy t0, .object ct)) (hx0 : x = nI j) (hj : j < N) (hN : N < 2 ^ 31) (hf : f j = some a) (hd : decode cc pc = .ok (.aaload, 1)) (kk : G Lw X k n (pc + 1) ls (.ref a :: st) σ) : G Lw X k n pc ls (.int x :: .ref (gA X i) :: st) σ := by
  obtain ⟨p, l', e, R, s, m, args, below, meth, c, nL, H0, A, E, Q⟩ := X
  obtain ⟨hx, hb, hml, hown, hTB, hK, hD, hA, hR, hlocks, rfl, hh0, hNs⟩ := hC
  subst hx0
  have hcl : (nI j).toNatClampNeg = j := nI_clamp (by omega)
  exact fun H locs arr hn hP hS hl => va_aldq hx hb hK hP i t0 (n := N) (f := f) (by rw [gW_at _ _ _ hi]; exact congrArg (fun z => some (E.2.1 i, z)) he) (ht _) (vp_in_nI hj hN) hd (by rw [hcl, hf]; exact kk H locs arr hn hP hS hl)
theorem g_alen {Lw : gL} {l : Launch} {X : gC} {cc : ByteArray} {own : String} {dd ca sa k n pc : Nat} {ls : List (Option Value)} {st : List Value} {σ : Mem} {i t0 N : Nat} {f : (Nat → Int32) ⊕ (Nat → Int64) ⊕ (Nat → UInt32) ⊕ (Nat → UInt64) ⊕ (Nat → Option Nat)} {ty : FieldType} (hC : gOk Lw l X cc own dd ca sa) (hi : i < Lw.1) (he : Lw.2 (gEv X) (σ i) i = .inl ((gEv X).2.2 t0, N, f)) (ht : ∀ cy, (gT cy)[t0]? = some (cy t0, ty)) (hd : decode cc pc = .ok (.arraylength, 1)) (kk : G Lw X k n (pc + 1) ls (.int (nI N) :: st) σ) : G Lw X k n pc ls (.ref (gA X i) :: st) σ := by
  obtain ⟨p, l', e, R, s, m, args, below, meth, c, nL, H0, A, E, Q⟩ := X
  obtain ⟨hx, hb, hml, hown, hTB, hK, hD, hA, hR, hlocks, rfl, hh0, hNs⟩ := hC
  exact fun H locs arr hn hP hS hl => va_alen hx hb hK hP i t0 (x := (N, f)) (by rw [gW_at _ _ _ hi]; exact congrArg (fun z => some (E.2.1 i, z)) he) (ht _) (v := nI N) rfl hd (kk H locs arr hn hP hS hl)
