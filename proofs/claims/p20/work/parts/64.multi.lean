/-! multianewarray of three dimensions -/
/-- a row of references, the first i of them filled; w cells lie between one and the next -/
def mO (c : ClassId) (N h0 w : Nat) : Nat → Cell
  | 0 => { cls := c, slots := Array.replicate N .null, vm := .none }
  | i + 1 => (mO c N h0 w i).setSlot i (.ref (h0 + 1 + i * w))
def mF (stp : State → State) (s : State) (c : ClassId) (N w : Nat) : Nat → State
  | 0 => s.pushCell (mO c N s.heap.size w 0)
  | i + 1 => (stp (mF stp s c N w i)).setCell s.heap.size (mO c N s.heap.size w (i + 1))
def mI (c : ClassId) (N : Nat) (s : State) : State := s.pushCell { cls := c, slots := Array.replicate N (.int 0), vm := .none }
/-- what is laid: w cells of u places, behind the old ones -/
def mS (w u : Nat) (stp : State → State) : Prop :=
  (∀ s : State, (stp s).heap.size = s.heap.size + w ∧ (∀ a, a < s.heap.size → (stp s).heap[a]? = s.heap[a]?) ∧ (stp s).vm = s.vm ∧ (stp s).slotsUsed = s.slotsUsed + u) ∧ (∀ (s : State) (f : JFrame), stp (s.setTop f) = (stp s).setTop f) ∧
  ∀ {p : Program} {l : Launch} {e : Env} {R : Room} {s0 : State} {m : MethodId} {args : Array Value} {below : List Frame} {meth : Method} {c : Code} {T : State} {locs : List Loc} {cells slots : Nat}, Stand p l e R s0 m args below meth c T locs cells slots → ∃ L : List Loc, (∀ q ∈ L, T.heap.size ≤ q.base) ∧ Stand p l e R s0 m args below meth c (stp T) (locs ++ L) (cells + w) (slots + u)
theorem mO_facts (c : ClassId) (N h0 w : Nat) : ∀ i, (mO c N h0 w i).cls = c ∧ (mO c N h0 w i).vm = .none ∧ (mO c N h0 w i).slots.size = N
  | 0 => ⟨rfl, rfl, by simp [mO]⟩
  | i + 1 => by
    obtain ⟨a, b, d⟩ := mO_facts c N h0 w i
    exact ⟨by simp [mO, Cell.setSlot, a], by simp [mO, Cell.setSlot, b], by simp [mO, Cell.setSlot, d]⟩
theorem mO_slot (c : ClassId) (N h0 w : Nat) : ∀ i j, j < N → (mO c N h0 w i).slots[j]? = some (if j < i then .ref (h0 + 1 + j * w) else .null)
  | 0, j, h => by simp [mO, h]
  | i + 1, j, h => by
    have ih := mO_slot c N h0 w i j h
    have hs := (mO_facts c N h0 w i).2.2
    show ((mO c N h0 w i).setSlot i (.ref (h0 + 1 + i * w))).slots[j]? = _
    simp only [Cell.setSlot, Array.getElem?_setIfInBounds]
    by_cases e : i = j
    · subst e; simp [hs, h]
    · rw [if_neg e, ih]
      by_cases hj : j < i
      · rw [if_pos hj, if_pos (by omega)]
      · rw [if_neg hj, if_neg (by omega)]
section MF
variable {stp : State → State} {w u : Nat} {s : State} {c : ClassId} {N : Nat}
theorem mF_facts (h : mS w u stp) (s : State) (c : ClassId) (N : Nat) : ∀ i, (mF stp s c N w i).heap.size = s.heap.size + 1 + i * w ∧ (mF stp s c N w i).heap[s.heap.size]? = some (mO c N s.heap.size w i) ∧ (mF stp s c N w i).vm = s.vm ∧ (mF stp s c N w i).slotsUsed = s.slotsUsed + N + i * u ∧ ∀ a, a < s.heap.size → (mF stp s c N w i).heap[a]? = s.heap[a]?
  | 0 => ⟨by simp [mF], by simp [mF], rfl, by simp [mF, mO], fun a ha => State.heap_pushCell_of_lt _ _ ha⟩
  | i + 1 => by
    obtain ⟨a, b, d, v, o⟩ := mF_facts h s c N i
    obtain ⟨f1, f2, f3, f4⟩ := h.1 (mF stp s c N w i)
    have hb : (stp (mF stp s c N w i)).heap[s.heap.size]? = some (mO c N s.heap.size w i) := by rw [f2 _ (by omega)]; exact b
    refine ⟨?_, State.heap_setCell_self hb, by simp [mF, f3, d], ?_, fun x hx => ?_⟩
    · simp [mF, State.setCell, f1, a, Nat.succ_mul]; omega
    · simp [mF, f4, v, Nat.succ_mul]; omega
    · show ((stp (mF stp s c N w i)).setCell s.heap.size _).heap[x]? = _
      rw [State.heap_setCell_other (Nat.ne_of_gt hx), f2 _ (by omega)]
      exact o x hx
theorem mF_top (h : mS w u stp) (s : State) (f : JFrame) (c : ClassId) (N : Nat) : ∀ i, mF stp (s.setTop f) c N w i = (mF stp s c N w i).setTop f
  | 0 => rfl
  | i + 1 => by simp only [mF, mF_top h s f c N i, h.2.1, State.heap_setTop, State.setCell_setTop]
/-- the first of what is laid stays as it was laid -/
theorem mF_first (h : mS w u stp) {a : Nat} (ha : s.heap.size < a) (hw : a < s.heap.size + 1 + w) : ∀ i, (mF stp s c N w (i + 1)).heap[a]? = (stp (s.pushCell (mO c N s.heap.size w 0))).heap[a]?
  | 0 => by
    show ((stp (mF stp s c N w 0)).setCell s.heap.size _).heap[a]? = _
    rw [State.heap_setCell_other (Nat.ne_of_lt ha)]
    rfl
  | i + 1 => by
    have f := mF_facts h s c N (i + 1)
    show ((stp (mF stp s c N w (i + 1))).setCell s.heap.size _).heap[a]? = _
    rw [State.heap_setCell_other (Nat.ne_of_lt ha), (h.1 _).2.1 _ (by rw [f.1, Nat.succ_mul]; omega)]
    exact mF_first h ha hw i
theorem mF_S (h : mS w u stp) (c : ClassId) (N : Nat) : mS (1 + N * w) (N + N * u) (fun s => mF stp s c N w N) := by
  refine ⟨fun s => ?_, fun s f => mF_top h s f c N N, ?_⟩
  · obtain ⟨a, b, d, v, o⟩ := mF_facts h s c N N
    exact ⟨by rw [a]; omega, o, d, by rw [v]; omega⟩
  · intro p l e R s0 m args below meth cc T locs cells slots X
    have key : ∀ i, ∃ L : List Loc, (∀ q ∈ L, T.heap.size ≤ q.base) ∧ Stand p l e R s0 m args below meth cc (mF stp T c N w i) (locs ++ L) (cells + 1 + i * w) (slots + N + i * u) := by
      intro i
      induction i with
      | zero =>
        refine ⟨[], fun q hq => (by cases hq), ?_⟩
        have h2 := X.pushed (mO c N T.heap.size w 0)
        rw [(mO_facts c N T.heap.size w 0).2.2] at h2
        simpa [mF] using h2
      | succ i ih =>
        obtain ⟨L, hL, Xi⟩ := ih
        obtain ⟨a, b, d, v, o⟩ := mF_facts h T c N i
        obtain ⟨L2, hL2, X2⟩ := h.2.2 Xi
        have hb : (stp (mF stp T c N w i)).heap[T.heap.size]? = some (mO c N T.heap.size w i) := by rw [(h.1 _).2.1 _ (by omega)]; exact b
        have h2 := X2.stored hb i (.ref (T.heap.size + 1 + i * w))
        refine ⟨L ++ (L2 ++ [⟨T.heap.size, i⟩]), fun q hq => ?_, ?_⟩
        · rcases List.mem_append.mp hq with h3 | h3
          · exact hL q h3
          · rcases List.mem_append.mp h3 with h4 | h4
            · have := hL2 q h4
              omega
            · rw [List.mem_singleton.mp h4]
              exact Nat.le_refl _
        · have e1 : locs ++ (L ++ (L2 ++ [⟨T.heap.size, i⟩])) = locs ++ L ++ L2 ++ [⟨T.heap.size, i⟩] := by simp [List.append_assoc]
          have e2 : cells + 1 + (i + 1) * w = cells + 1 + i * w + w := by rw [Nat.succ_mul]; omega
          have e3 : slots + N + (i + 1) * u = slots + N + i * u + u := by rw [Nat.succ_mul]; omega
          rw [e1, e2, e3]
          exact h2
    obtain ⟨L, hL, h2⟩ := key N
    refine ⟨L, hL, ?_⟩
    rw [show cells + (1 + N * w) = cells + 1 + N * w by omega, show slots + (N + N * u) = slots + N + N * u by omega]
    exact h2
end MF
theorem mI_S (c : ClassId) (N : Nat) : mS 1 N (mI c N) := by
  refine ⟨fun s => ⟨by simp [mI], fun a ha => State.heap_pushCell_of_lt _ _ ha, rfl, by simp [mI]⟩, fun s f => rfl, ?_⟩
  intro p l e R s0 m args below meth cc T locs cells slots X
  refine ⟨[], fun q hq => (by cases hq), ?_⟩
  have h2 := X.pushed ({ cls := c, slots := Array.replicate N (.int 0), vm := .none } : Cell)
  simpa [mI] using h2
section MW
variable {Ec : CtlPost} {e : Env} {d : Bool} {acts : List Action} {s : State}
theorem mw_new {c comp : ClassId} {k : Class} {type : FieldType} {len : Nat} {init : Value} (hk : s.vm.classes[c]? = some k) (hkind : k.kind = .array comp type)
    (hlimit : ¬ len > e.platform.arrayLengthLimit) (hheap : ¬ len * componentBytes type > e.platform.maxHeapBytes) (hfit : fits type init = true) (hdef : init.isDefault = true) {Q : Addr → Pre}
    (h1 : s.heap.size < e.platform.maxCells) (h2 : s.slotsUsed + len ≤ e.platform.maxSlots)
    (hq : Q s.heap.size d acts (s.pushCell { cls := c, slots := Array.replicate len init, vm := .none })) :
    wp (Jvm.newArray c len init) Q Ec e d acts s := by
  have hfits : ∀ i v, (Array.replicate len init)[i]? = some v → s.fitsSlot c .none i v = true := by
    intro i v hv
    simp only [Array.getElem?_replicate] at hv
    split at hv
    · cases hv; simp [State.fitsSlot, State.slotType?, hk, hkind, hfit]
    · cases hv
  have hda : allocActs (Array.replicate len init) s.heap.size acts = acts := by
    have hall : ((Array.replicate len init).all (·.isDefault)) = true := by
      rw [Array.all_replicate]; split <;> simp [hdef]
    unfold allocActs; rw [if_pos hall]
  simp only [Jvm.newArray, Jvm.arrayFits, wp_bind', W.ask, W.ite, hlimit, if_false, wp_pure', W.theClass, hk, hkind, hheap, W.alloc, W.stop, Option.some.injEq, exists_eq_left', Array.size_replicate, hda]
  rw [if_neg (by omega)]
  exact ⟨h1, h2, hfits, hq⟩
theorem mw_1 {comp cc : ClassId} {kc : Class} {m : Int32} (hkc : s.vm.classes[comp]? = some kc) (hkindc : kc.kind = .array cc .int) (hm : ¬ m < 0)
    (hl2 : ¬ m.toNatClampNeg > e.platform.arrayLengthLimit) (hh2 : ¬ m.toNatClampNeg * 4 > e.platform.maxHeapBytes)
    (h1 : s.heap.size + 1 ≤ e.platform.maxCells) (h2 : s.slotsUsed + m.toNatClampNeg ≤ e.platform.maxSlots)
    {Q : Addr → Pre} (hq : ∀ d' acts', Q s.heap.size d' acts' (mI comp m.toNatClampNeg s)) :
    wp (multianewarray.make comp [m]) Q Ec e d acts s := by
  rw [multianewarray.make]
  simp only [wp_bind', W.ite, hm, if_false, wp_pure', W.theClass, hkc, hkindc, Option.some.injEq, exists_eq_left']
  exact mw_new hkc hkindc hl2 hh2 rfl rfl h1 h2 (hq _ _)
theorem mw_n {stp : State → State} {w u : Nat} {c comp : ClassId} {k : Class} {t0 : FieldType} {n r0 : Int32} {rs : List Int32} (hS : mS w u stp) (hk : s.vm.classes[c]? = some k) (hkind : k.kind = .array comp (.array t0))
    (hn : ¬ n < 0) (hfind : ((r0 :: rs).find? (· < 0)) = none) (hl1 : ¬ n.toNatClampNeg > e.platform.arrayLengthLimit) (hh1 : ¬ n.toNatClampNeg * 4 > e.platform.maxHeapBytes)
    (hstep : ∀ (s1 : State) (d1 : Bool) (acts1 : List Action) (Q1 : Addr → Pre), s1.vm = s.vm → s1.heap.size + w ≤ e.platform.maxCells → s1.slotsUsed + u ≤ e.platform.maxSlots → (∀ d' acts', Q1 s1.heap.size d' acts' (stp s1)) → wp (multianewarray.make comp (r0 :: rs)) Q1 Ec e d1 acts1 s1)
    (hc : s.heap.size + (1 + n.toNatClampNeg * w) ≤ e.platform.maxCells) (hs : s.slotsUsed + (n.toNatClampNeg + n.toNatClampNeg * u) ≤ e.platform.maxSlots)
    {Q : Addr → Pre} (hq : ∀ d' acts', Q s.heap.size d' acts' (mF stp s c n.toNatClampNeg w n.toNatClampNeg)) :
    wp (multianewarray.make c (n :: r0 :: rs)) Q Ec e d acts s := by
  rw [multianewarray.make]
  simp only [wp_bind', W.ite, hn, if_false, wp_pure', W.theClass, hk, hkind, Option.some.injEq, exists_eq_left']
  refine mw_new hk hkind hl1 hh1 rfl rfl (by omega) (by omega) ?_
  simp only [hfind]
  rw [ite_self, wp_bind', Std.Legacy.Range.forIn_eq_forIn_range']
  have hsz : ([:n.toNatClampNeg] : Std.Legacy.Range).size = n.toNatClampNeg := by simp [Std.Legacy.Range.size]
  rw [hsz]
  show wp (forIn (List.range' 0 n.toNatClampNeg 1) PUnit.unit _) _ Ec e d acts _
  refine wp_forIn_inv (fun rest s' => ∃ i, i ≤ n.toNatClampNeg ∧ rest = List.range' i (n.toNatClampNeg - i) ∧ s' = mF stp s c n.toNatClampNeg w i) _ _ ⟨0, Nat.zero_le _, rfl, rfl⟩ ?_ ?_
  · rintro x rest s' d' acts' Q' ⟨i, hi, hl, rfl⟩ hnext
    have hlt : i < n.toNatClampNeg := by
      rcases Nat.lt_or_ge i n.toNatClampNeg with h | h
      · exact h
      · rw [show n.toNatClampNeg - i = 0 from by omega] at hl; simp at hl
    obtain ⟨rfl, hrest⟩ : x = i ∧ rest = List.range' (i + 1) (n.toNatClampNeg - (i + 1)) := by
      rw [show n.toNatClampNeg - i = (n.toNatClampNeg - (i + 1)) + 1 from by omega, List.range'_succ] at hl
      exact ⟨(List.cons.inj hl).1, (List.cons.inj hl).2⟩
    obtain ⟨f1, f2, f3, f4, -⟩ := mF_facts hS s c n.toNatClampNeg x
    obtain ⟨o1, o2, o3⟩ := mO_facts c n.toNatClampNeg s.heap.size w x
    have hmul : x * w + w ≤ n.toNatClampNeg * w := by
      have := Nat.mul_le_mul_right w (show x + 1 ≤ n.toNatClampNeg from hlt)
      rw [Nat.succ_mul] at this; exact this
    have hmul2 : x * u + u ≤ n.toNatClampNeg * u := by
      have := Nat.mul_le_mul_right u (show x + 1 ≤ n.toNatClampNeg from hlt)
      rw [Nat.succ_mul] at this; exact this
    simp only [wp_bind']
    refine hstep _ _ _ _ f3 (by rw [f1]; omega) (by rw [f4]; omega) (fun d2 acts2 => ?_)
    simp only [wp_bind', W.writeLoc, wp_pure']
    refine ⟨mO c n.toNatClampNeg s.heap.size w x, by rw [(hS.1 _).2.1 _ (by rw [f1]; omega)]; exact f2, by rw [o2]; simp, by rw [o3]; exact hlt, ?_, hnext _ _ _ ⟨x + 1, hlt, hrest, ?_⟩⟩
    · rw [o1, o2]
      simp [State.fitsSlot, State.slotType?, (hS.1 _).2.2.1, f3, hk, hkind, fits]
    · rw [f1]; rfl
  · rintro s' d' acts' ⟨i, hi, hl, rfl⟩
    have hiN : i = n.toNatClampNeg := by
      rcases Nat.lt_or_ge i n.toNatClampNeg with h | h
      · rw [show n.toNatClampNeg - i = (n.toNatClampNeg - (i + 1)) + 1 from by omega, List.range'_succ] at hl; cases hl
      · omega
    subst hiN
    simp only [wp_pure']
    exact hq _ _
end MW
/-- all three dimensions at once -/
def mM (c2 c1 c0 : ClassId) (N M K : Nat) (s : State) : State := mF (fun s => mF (mI c0 K) s c1 M 1 M) s c2 N (1 + M * 1) N
theorem mM_S (c2 c1 c0 : ClassId) (N M K : Nat) : mS (1 + N * (1 + M * 1)) (N + N * (M + M * K)) (mM c2 c1 c0 N M K) := mF_S (mF_S (mI_S c0 K) c1 M) c2 N
theorem mM_corner (c2 c1 c0 : ClassId) {N M K : Nat} (hN : 1 ≤ N) (hM : 1 ≤ M) (s : State) :
    (mM c2 c1 c0 N M K s).heap[s.heap.size]? = some (mO c2 N s.heap.size (1 + M * 1) N) ∧ (mM c2 c1 c0 N M K s).heap[s.heap.size + 1]? = some (mO c1 M (s.heap.size + 1) 1 M) ∧ (mM c2 c1 c0 N M K s).heap[s.heap.size + 2]? = some { cls := c0, slots := Array.replicate K (.int 0), vm := .none } := by
  obtain ⟨N, rfl⟩ : ∃ n, N = n + 1 := ⟨N - 1, by omega⟩
  obtain ⟨M, rfl⟩ : ∃ n, M = n + 1 := ⟨M - 1, by omega⟩
  have h1 := mF_S (mI_S c0 K) c1 (M + 1)
  refine ⟨(mF_facts h1 s c2 (N + 1) (N + 1)).2.1, ?_, ?_⟩
  · show (mF _ s c2 (N + 1) _ (N + 1)).heap[s.heap.size + 1]? = _
    rw [mF_first h1 (by omega) (by omega)]
    have h2 := (mF_facts (mI_S c0 K) (s.pushCell (mO c2 (N + 1) s.heap.size (1 + (M + 1) * 1) 0)) c1 (M + 1) (M + 1)).2.1
    have e : (s.pushCell (mO c2 (N + 1) s.heap.size (1 + (M + 1) * 1) 0)).heap.size = s.heap.size + 1 := by simp
    rw [e] at h2
    exact h2
  · show (mF _ s c2 (N + 1) _ (N + 1)).heap[s.heap.size + 2]? = _
    rw [mF_first h1 (by omega) (by omega)]
    have e : (s.pushCell (mO c2 (N + 1) s.heap.size (1 + (M + 1) * 1) 0)).heap.size = s.heap.size + 1 := by simp
    show (mF (mI c0 K) (s.pushCell (mO c2 (N + 1) s.heap.size (1 + (M + 1) * 1) 0)) c1 (M + 1) 1 (M + 1)).heap[s.heap.size + 2]? = _
    rw [mF_first (mI_S c0 K) (by rw [e]; omega) (by rw [e]; omega)]
    show ((State.pushCell _ _).pushCell _).heap[s.heap.size + 2]? = _
    have e2 : ((s.pushCell (mO c2 (N + 1) s.heap.size (1 + (M + 1) * 1) 0)).pushCell (mO c1 (M + 1) (s.pushCell (mO c2 (N + 1) s.heap.size (1 + (M + 1) * 1) 0)).heap.size 1 0)).heap.size = s.heap.size + 2 := by simp
    rw [← e2]
    exact State.heap_pushCell_size _ _
section MROW
variable {p : Program} {l : Launch} {e : Env} {R : Room} {s : State} {m : MethodId} {args : Array Value} {below : List Frame} {meth : Method} {c : Code} {H : Heap} {locs : List Loc} {cells slots : Nat} {Q : State → Prop}
theorem W.mnew3 {cc : ByteArray} (hexec : p.tables.exec = Jvm.exec) (hb : c.code = cc) {own : String} {index : Nat} (hown : s.vm.findClass own = some m.cls) (hclink : (Cond.classLink own index ("[" ++ (FieldType.array (.array .int)).toString)).before args s = true) (h1 : (Cond.arrayOver (.array (.array .int))).before args s = true) (h2 : (Cond.arrayOver (.array .int)).before args s = true) (h3 : (Cond.arrayClass .int).before args s = true)
    {g : JFrame} (hg : g.method = m) (hdg : decode cc g.pc = .ok (.multianewarray index 3, 4)) {a b d : Nat} (ha : 1 ≤ a ∧ a ≤ 10) (hb2 : 1 ≤ b ∧ b ≤ 10) (hd2 : d ≤ 10) {rest : List Value} (hstack : g.stack = .int (nI d) :: .int (nI b) :: .int (nI a) :: rest) (hcells : cells + (1 + a * (1 + b * 1)) ≤ R.cells) (hslots : slots + (a + a * (b + b * d)) ≤ R.slots)
    (kk : ∀ (H1 : Heap) (L : List Loc) (c2 c1 c0 : ClassId), s.vm.findClass ("[" ++ (FieldType.array (.array .int)).toString) = some c2 → s.vm.findClass ("[" ++ (FieldType.array .int).toString) = some c1 → s.vm.findClass ("[" ++ FieldType.int.toString) = some c0 → H.size + 3 ≤ H1.size → (∀ q, q < H.size → H1[q]? = H[q]?) → H1[H.size]? = some (mO c2 a H.size (1 + b * 1) a) → H1[H.size + 1]? = some (mO c1 b (H.size + 1) 1 b) → H1[H.size + 2]? = some { cls := c0, slots := Array.replicate d (.int 0), vm := .none } → (∀ q ∈ L, H.size ≤ q.base) → W p l e R s m args below meth c H1 (locs ++ L) (cells + (1 + a * (1 + b * 1))) (slots + (a + a * (b + b * d))) Q { g with pc := g.pc + 4, stack := .ref H.size :: rest }) : W p l e R s m args below meth c H locs cells slots Q g := by
  intro T hT X
  subst hT; subst hb; subst hg
  have hpl : e.platform.magicAccessors = ({} : Platform).magicAccessors := by rw [X.admits.platform]
  obtain ⟨comp2, c2, k2, x1, -, x2, x3, x4⟩ := arrayOverA_spec h1
  obtain ⟨comp1, c1, k1, y1, -, y2, y3, y4⟩ := arrayOverA_spec h2
  obtain ⟨c0, k0, cc0, z1, z2, z3⟩ := Cond.arrayClass_spec h3
  have e1 : comp2 = c1 := Option.some.inj (x1.symm.trans y4)
  have e2 : comp1 = c0 := Option.some.inj (y1.symm.trans z1)
  subst e1; subst e2
  obtain ⟨cl0, hfc0, hcl⟩ := Cond.classLink_spec hown hclink e.platform hpl
  cases x4.symm.trans hfc0
  obtain ⟨hg₁, hwarm₁, hready₁⟩ := State.classEntry (e := e) X.warmed hcl
  generalize T.vm.noted g.method.cls index (.cls c2) = vm₁ at hg₁ hwarm₁ hready₁
  have hal : s.vm.Alike vm₁ := hwarm₁.alike
  obtain ⟨k2', hk2', he2⟩ := hal.2.2 _ _ x2
  obtain ⟨k1', hk1', he1⟩ := hal.2.2 _ _ y2
  obtain ⟨k0', hk0', he0⟩ := hal.2.2 _ _ z2
  have hkind2 : k2'.kind = .array comp2 (.array (.array .int)) := by rw [he2]; exact x3
  have hkind1 : k1'.kind = .array comp1 (.array .int) := by rw [he1]; exact y3
  have hkind0 : k0'.kind = .array cc0 .int := by rw [he0]; exact z3
  have X₁ := X.noted hwarm₁
  obtain ⟨hr1, hr2⟩ := X.roomAbove hcells hslots
  obtain ⟨L, hL, XF⟩ := (mM_S c2 comp2 comp1 a b d).2.2 X₁
  obtain ⟨f1, f2, f3, f4⟩ := (mM_S c2 comp2 comp1 a b d).1 (T.setVm vm₁)
  obtain ⟨q1, q2, q3⟩ := mM_corner c2 comp2 comp1 (K := d) ha.1 hb2.1 (T.setVm vm₁)
  have hM := Nat.mul_le_mul ha.1 (show 1 ≤ 1 + b * 1 by omega)
  obtain ⟨t', a1, b1⟩ := kk (mM c2 comp2 comp1 a b d (T.setVm vm₁)).heap L c2 comp2 comp1 x4 y4 z1 (by
    rw [f1]
    show T.heap.size + 3 ≤ T.heap.size + (1 + a * (1 + b * 1))
    have := Nat.mul_le_mul ha.1 (show 2 ≤ 1 + b * 1 by omega)
    omega) f2 q1 q2 q3 hL _ rfl XF
  refine ⟨t', ?_, b1⟩
  have na : (nI a).toNatClampNeg = a := nI_clamp (by omega)
  have nb : (nI b).toNatClampNeg = b := nI_clamp (by omega)
  have nd : (nI d).toNatClampNeg = d := nI_clamp (by omega)
  have lim : ∀ n, n ≤ 10 → ¬ n > e.platform.arrayLengthLimit := fun n hn => by rw [Launch.admits_arrayLengthLimit X.admits]; omega
  have lih : ∀ n, n ≤ 10 → ¬ n * 4 > e.platform.maxHeapBytes := fun n hn => by rw [Launch.admits_maxHeapBytes X.admits]; omega
  jvm_step X.here [hexec, hdg]
  simp only [multianewarray.sem, wp_bind', W.resolveClassAt_links (State.method?_setTop g X.here.top) hg₁]
  rw [W.popN, if_neg (by decide)]
  refine ⟨g, State.topJava?_setTop' (s := T.setVm vm₁) g X.here.top, [.int (nI a), .int (nI b), .int (nI d)], rest, rfl, hstack, ?_⟩
  simp only [List.mapM_cons, List.mapM_nil, wp_bind', wp_pure']
  have eS : ((T.setTop g).setVm vm₁).setTop { g with stack := rest } = (T.setVm vm₁).setTop { g with stack := rest } := by
    show ((T.setVm vm₁).setTop g).setTop _ = _
    rw [State.setTop_setTop]
  rw [eS]
  refine mw_n (stp := fun s => mF (mI comp1 d) s comp2 b 1 b) (w := 1 + b * 1) (u := b + b * d) (k := k2') (comp := comp2) (t0 := .array .int) (mF_S (mI_S comp1 d) comp2 b) hk2' hkind2 (nI_pos (by omega)) (by simp [nI_pos (show b < 2 ^ 31 by omega), nI_pos (show d < 2 ^ 31 by omega)]) (by rw [na]; exact lim a ha.2) (by rw [na]; exact lih a ha.2) (fun s1 d1 acts1 Q1 hv g1 g2 hQ1 => ?_) (by rw [na]; exact hr1) (by rw [na]; exact hr2) (fun d' acts' => ?_)
  · have hv : s1.vm = vm₁ := hv
    refine mw_n (stp := mI comp1 d) (w := 1) (u := d) (k := k1') (comp := comp1) (t0 := .int) (mI_S comp1 d) (by rw [hv]; exact hk1') hkind1 (nI_pos (by omega)) (by simp [nI_pos (show d < 2 ^ 31 by omega)]) (by rw [nb]; exact lim b hb2.2) (by rw [nb]; exact lih b hb2.2) (fun s2 d2 acts2 Q2 hv2 g3 g4 hQ2 => ?_) (by rw [nb]; exact g1) (by rw [nb]; exact g2) (fun d' acts' => by rw [nb]; exact hQ1 d' acts')
    exact mw_1 (by rw [hv2, hv]; exact hk0') hkind0 (nI_pos (by omega)) (by rw [nd]; exact lim d hd2) (by rw [nd]; exact lih d hd2) g3 (by rw [nd]; exact g4) (fun d' acts' => by rw [nd]; exact hQ2 d' acts')
  · rw [na]
    have eF : mF (fun s => mF (mI comp1 d) s comp2 b 1 b) ((T.setVm vm₁).setTop { g with stack := rest }) c2 a (1 + b * 1) a = (mM c2 comp2 comp1 a b d (T.setVm vm₁)).setTop { g with stack := rest } := mF_top (mF_S (mI_S comp1 d) comp2 b) _ _ c2 a a
    rw [eF]
    simp only [wp_bind', W.mark, W.pushRef, State.topJava?_setTop' _ XF.here.top, Option.some.injEq, exists_eq_left', State.setTop_setTop, State.heap_setTop]
    intro acts
    simp [jvm, XF.here.top]
    exact a1
end MROW
theorem mO_arrV (c : ClassId) (N h0 w : Nat) : ∀ i, mO c N h0 w i = arrV c N (fun j => va_rf (if j < i then some (h0 + 1 + j * w) else none))
  | 0 => by
    show ({ cls := c, slots := Array.replicate N .null, vm := .none } : Cell) = _
    rw [arrV_new]
    congr 1
  | i + 1 => by
    show (mO c N h0 w i).setSlot i (.ref (h0 + 1 + i * w)) = _
    rw [mO_arrV c N h0 w i, arrV_store]
    congr 1
    funext j
    unfold updV
    by_cases hj : j = i
    · subst hj
      rw [if_pos rfl, if_pos (by omega)]; rfl
    · rw [if_neg hj]
      dsimp only
      by_cases h2 : j < i
      · rw [if_pos h2, if_pos (by omega)]
      · rw [if_neg h2, if_neg (by omega)]
section UM
variable {l : Launch} {B : gL} {X : gC} {A : Nat → Nat} {es : va_W} {cc : ByteArray} {own : String} {dd ca sa k m pc : Nat} {ls : List (Option Value)} {st : List Value} {σ : Mem}
theorem u_mnew {index : Nat} (hC : uOk l B X A es cc own dd ca sa) (hI : uI X) (hcl : Cond.classLink own index ("[" ++ (FieldType.array (.array .int)).toString) ∈ TB) (harr : Cond.arrayClass .int ∈ TB) {a b d : Nat} (ha : 1 ≤ a ∧ a ≤ 10) (hb2 : 1 ≤ b ∧ b ≤ 10) (hd2 : d ≤ 10) (hf : k + (1 + a * (1 + b * 1)) ≤ ca ∧ m + (a + a * (b + b * d)) ≤ sa) (hd : decode cc pc = .ok (.multianewarray index 3, 4))
    (kk : ∀ (q : Nat) (f2 f1 : Nat → Option Nat), f2 0 = some (q + 1) → f1 0 = some (q + 2) → uOk l B X A (es ++ [(q, .inl (zY X 6, a, .inr (.inr (.inr (.inr f2))))), (q + 1, .inl (zY X 5, b, .inr (.inr (.inr (.inr f1))))), (q + 2, .inl (zY X 0, d, .inl (fun _ => 0)))]) cc own dd ca sa → G (wU B (es ++ [(q, .inl (zY X 6, a, .inr (.inr (.inr (.inr f2))))), (q + 1, .inl (zY X 5, b, .inr (.inr (.inr (.inr f1))))), (q + 2, .inl (zY X 0, d, .inl (fun _ => 0)))])) (uX B X A (es ++ [(q, .inl (zY X 6, a, .inr (.inr (.inr (.inr f2))))), (q + 1, .inl (zY X 5, b, .inr (.inr (.inr (.inr f1))))), (q + 2, .inl (zY X 0, d, .inl (fun _ => 0)))])) (k + (1 + a * (1 + b * 1))) (m + (a + a * (b + b * d))) (pc + 4) ls (.ref q :: st) σ) : G (wU B es) (uX B X A es) k m pc ls (.int (nI d) :: .int (nI b) :: .int (nI a) :: st) σ := by
  obtain ⟨p, l', e', R, s, mm, args, below, meth, c, nL, H0, Af, E, Q⟩ := X
  have hC0 := hC
  obtain ⟨hx, hb, hml, hown, hTB, hK, hD, hA, hR, hlocks, hl', hh0, hNs⟩ := hC
  have hR : R = gR dd ca sa := hR
  subst hR
  have hl' : l' = l := hl'
  subst hl'
  have hI : gI s := hI
  intro H locs arr hn hP hS hl
  refine W.mnew3 hx hb hown (hTB _ hcl) hI.2.2 hI.2.1 (hTB _ harr) rfl hd ha hb2 hd2 rfl hf.1 hf.2 fun H1 L c2 c1 c0 g2 g1 g0 hz ho e2 e1 e0 hL => ?_
  have k2 : c2 = E.2.2 6 := Option.some.inj (g2.symm.trans (hK.2 6 _ rfl).2)
  have k1 : c1 = E.2.2 5 := Option.some.inj (g1.symm.trans (hK.2 5 _ rfl).2)
  have k0 : c0 = E.2.2 0 := Option.some.inj (g0.symm.trans (hK.2 0 _ rfl).2)
  subst k2; subst k1; subst k0
  rw [mO_arrV] at e2 e1
  rw [arrV_new] at e0
  have hk : ∀ (k : Nat) (y : Nat × va_E), (gW (wU B es) (E.1, aU B A es, E.2.2) σ)[k]? = some y → H1[y.1]? = H[y.1]? := fun k y hy => ho y.1 ((hP k y hy).lt)
  have hlow : ∀ (k : Nat) (y : Nat × va_E), (gW (wU B es) (E.1, aU B A es, E.2.2) σ)[k]? = some y → y.1 < H.size := fun k y hy => (hP k y hy).lt
  generalize hf2 : (fun j => if j < a then some (H.size + 1 + j * (1 + b * 1)) else none) = f2 
  generalize hf1 : (fun j => if j < b then some (H.size + 1 + 1 + j * 1) else none) = f1
  have q2 : f2 0 = some (H.size + 1) := by rw [← hf2]; simp only []; rw [if_pos (by omega), Nat.zero_mul, Nat.add_zero]
  have q1 : f1 0 = some (H.size + 2) := by rw [← hf1]; simp only []; rw [if_pos (by omega), Nat.zero_mul, Nat.add_zero]
  have e2 : H1[H.size]? = some (arrV (E.2.2 6) a (fun j => va_rf (f2 j))) := by rw [← hf2]; exact e2
  have e1 : H1[H.size + 1]? = some (arrV (E.2.2 5) b (fun j => va_rf (f1 j))) := by rw [← hf1]; exact e1
  obtain ⟨nw, hnw⟩ : ∃ nw : va_W, nw = [(H.size, .inl (E.2.2 6, a, .inr (.inr (.inr (.inr f2))))), (H.size + 1, .inl (E.2.2 5, b, .inr (.inr (.inr (.inr f1))))), (H.size + 2, .inl (E.2.2 0, d, .inl (fun _ => 0)))] := ⟨_, rfl⟩
  have hnwl : ∀ (k : Nat) (y : Nat × va_E), nw[k]? = some y → k < 3 ∧ y.1 = H.size + k ∧ va_at E.1 vwCl y H1 := by
    intro k y hy
    rw [hnw] at hy
    match k, hy with
    | 0, hy => cases hy; exact ⟨by omega, rfl, by show H1[H.size]? = some (vp_cell _ _); rw [vp_cell_q]; exact e2⟩
    | 1, hy => cases hy; exact ⟨by omega, rfl, by show H1[H.size + 1]? = some (vp_cell _ _); rw [vp_cell_q]; exact e1⟩
    | 2, hy => cases hy; exact ⟨by omega, rfl, e0⟩
    | k + 3, hy => simp at hy
  have hP1 : va_P E.1 vwCl (gW (wU B es) (E.1, aU B A es, E.2.2) σ ++ nw) H1 := (hP.kept hk).app (fun k y hy => (hnwl k y hy).2.2)
  have hD1 : va_D Af (gW (wU B es) (E.1, aU B A es, E.2.2) σ ++ nw) := va_D.app (hD σ) ⟨fun i j x y hx hy hxy => by
    have h1 := (hnwl i x hx).2.1
    have h2 := (hnwl j y hy).2.1
    omega, fun k y hy => hA _ (by have := (hnwl k y hy).2.1; have := hS.1; omega)⟩ (fun i j x y hx hy hxy => by
    have h1 := hlow i x hx
    have h2 := (hnwl j y hy).2.1
    omega)
  have hw := wU_app B A es nw E.1 E.2.2 σ
  have hfin := kk H.size f2 f1 q2 q1 (by
    have := uOk_of (es' := es ++ nw) (σ := σ) hC0 (Eq.mp (congrArg (va_D Af) hw.symm) hD1)
    rw [hnw] at this
    exact this) H1 (locs ++ L) arr hn (by
    have := Eq.mp (congrArg (fun w => va_P E.1 vwCl w H1) hw.symm) hP1
    rw [hnw] at this
    exact this) ⟨Nat.le_trans hS.1 (by omega), fun y h1 h2 => (ho y (Nat.lt_of_lt_of_le h1 hS.1)).trans (hS.2.1 y h1 h2), fun q hq => (List.mem_append.mp hq).elim (hS.2.2 q) (fun h => hA _ (by have := hL q h; have := hS.1; omega))⟩ hl
  exact hfin
end UM
