/-! methods that may throw -/
def GX (Lw : gL) (X : gC) (Ex : String) (k n pc : Nat) (ls : List (Option Value)) (st : List Value) (σ : Mem) : Prop :=
  match X with
  | (p, l, e, R, s, m, args, below, meth, c, nL, H0, A, E, Q) => ∀ (H : Heap) (locs : List Loc) (arr : Array Slot) (ce : Cell) (q : Addr), ls.length = nL → va_P E.1 vwCl (gW Lw E σ) H → va_S A H0 H locs → lv_has arr nL (gl 0 ls) → H[q]? = some ce → ce.vm = .none → s.vm.findClass Ex = some ce.cls → vx_W p l e R s m args below meth c H locs k n Q (F0 m pc arr st) q
def gZ (A : Nat → Prop) (U : State) (H : Heap) : Prop := vx_Zq Bundle.tN "UNASSIGNED_STACK" Bundle.steD A U H ∧ vx_Zq Bundle.tN "SUPPRESSED_SENTINEL" Bundle.listD A U H
def NWc : List Cond := [Cond.castable "java/lang/IllegalArgumentException" "java/lang/IllegalArgumentException", Cond.castable "java/lang/IndexOutOfBoundsException" "java/lang/IndexOutOfBoundsException", Cond.castable "java/lang/IllegalStateException" "java/lang/IllegalStateException"]
/-- the thrown classes can be cast to themselves -/
def gY (U : State) : Prop := ∀ w ∈ NWc, va_Nw w U
theorem gY.warm {s U : State} (hW : s.WarmedH U.vm) (h : gY s) : gY U := fun w hw => by
  have h1 : ∃ a b, w = .castable a b := by
    simp only [NWc, List.mem_cons, List.not_mem_nil, or_false] at hw
    rcases hw with rfl | rfl | rfl <;> exact ⟨_, _, rfl⟩
  have h2 := h w hw
  obtain ⟨a, b, rfl⟩ := h1
  exact va_Nw.warmC hW h2
theorem gY.same {u U : State} (h : u.vm = U.vm) (hz : gY u) : gY U := fun w hw => by
  have h1 : w.onTables = true := by
    simp only [NWc, List.mem_cons, List.not_mem_nil, or_false] at hw
    rcases hw with rfl | rfl | rfl <;> rfl
  exact va_Nw.same h1 h (hz w hw)
def gOkX (Lw : gL) (l : Launch) (X : gC) (cc : ByteArray) (own : String) (dd ca sa : Nat) : Prop :=
  gOk Lw l X cc own dd ca sa ∧ l.stackTraces = false ∧ (match X with
  | (_, _, _, _, s, _, _, _, _, c, _, _, A, _, _) => (∀ x ∈ c.exceptionTable.toList, False) ∧ gZ A s s.heap ∧ gY s)
def gThr (Lw : gL) (X : gC) (PX : String → Mem → Prop) (mc ms : Nat) : Prop :=
  match X with
  | (_, _, _, _, s, _, args, below, _, _, _, _, A, E, Q) => ∃ (Qc : Array Value → State → Outcome → State → Prop) (XC : String → State → State → Prop), Q = vx_MQ below Qc XC args s mc ms A ∧ ∀ (Ex : String) (u : Mem) (t : State), PX Ex u → va_P E.1 vwCl (gW Lw E u) t.heap → va_F A s t → XC Ex s t
def gPreX (Lw : gL) (av : (Nat → Nat) → List Value) (E : gE) (σ : Mem) (sz : Nat) : Array Value → State → Prop :=
  va_Pc (av E.2.1) (fun U => (U.heap.size = sz ∧ va_P E.1 vwCl (gW Lw E σ) U.heap ∧ va_K E.1 vwCl (gT E.2.2) U ∧ va_D (fun _ => True) (gW Lw E σ) ∧ gN U) ∧ gZ (va_A (gW Lw E σ) sz) U U.heap ∧ gY U)
theorem gZ.moved {A : Nat → Prop} {u U : State} {H : Heap} (hvm : u.vm.Alike U.vm) (h : gZ A u H) : gZ A U H := ⟨vx_Zq.moved hvm h.1, vx_Zq.moved hvm h.2⟩
theorem gPreX_blind {Lw : gL} {av : (Nat → Nat) → List Value} {E : gE} {σ : Mem} {sz : Nat} : FrameBlind (gPreX Lw av E σ sz) := by
  intro a U g mk q
  obtain ⟨q0, ⟨q1, qP, qK, qD, qN⟩, qZ, qY⟩ := q
  exact ⟨q0, ⟨q1, qP, va_K.moved (u := U) (U := U.calling g mk a) (Vm.Alike.refl U.vm) qK, qD, gN.same (u := U) (U := U.calling g mk a) rfl qN⟩, gZ.moved (u := U) (U := U.calling g mk a) (Vm.Alike.refl U.vm) qZ, gY.same (u := U) (U := U.calling g mk a) rfl qY⟩
def gXI (Lw : gL) (l : Launch) (y : MethodName) (cd : Cond) (d mc ms : Nat) (av : (Nat → Nat) → List Value) (P : Mem → Prop) (Q : Mem → Int32 → Mem → Prop) (PX : Mem → String → Mem → Prop) : Prop :=
  ∀ (E : gE) (σ : Mem) (sz : Nat), P σ → vx_Met l y (cd :: TB) (gR d mc ms) (gPreX Lw av E σ sz) (va_Qi (Q σ) (gB Lw E) (va_A (gW Lw E σ) sz)) (vx_X (fun _ => True) (fun Ex u t => PX σ Ex u ∧ gB Lw E u t) (va_A (gW Lw E σ) sz)) mc ms (va_A (gW Lw E σ) sz)
theorem gXI_of {Lw : gL} {l : Launch} {y : MethodName} {cc : ByteArray} {maxL d mc ms : Nat} {av : (Nat → Nat) → List Value} {P : Mem → Prop} {Q : Mem → Int32 → Mem → Prop} {PX : Mem → String → Mem → Prop} (hl : l.stackTraces = false) (hy : plainName y.cls = true) (hlen : ∀ A, (lg_sl (av A)).length ≤ maxL)
    (body : ∀ (X : gC) (σ : Mem), gOkX Lw l X cc y.cls d mc ms → P σ → (∀ (k n pc : Nat) (ls : List (Option Value)) (r : Int32) (σ1 : Mem), decode cc pc = .ok (.ireturn, 1) → k ≤ mc → n ≤ ms → Q σ r σ1 → G Lw X k n pc ls [.int r] σ1) → (∀ (Ex : String) (k n pc : Nat) (ls : List (Option Value)) (st : List Value) (σ1 : Mem), PX σ Ex σ1 → k ≤ mc → n ≤ ms → GX Lw X Ex k n pc ls st σ1) → gThr Lw X (PX σ) mc ms → G Lw X 0 0 0 (gent maxL (av (gA X))) [] σ) : gXI Lw l y (.code y cc maxL (some .int)) d mc ms av P Q PX := by
  intro E σ sz hP
  refine vx_ofW (cc := cc) (maxL := maxL) (ret := (some .int)) hy rfl ?_
  intro p e s m args below meth c s₁ B hml hxt hv
  obtain ⟨rfl, ⟨hsz, hP0, hK, hD0, hNs⟩, hZ⟩ := hv
  have hx := B.exec
  have hb := B.bytes
  have hr := B.returns
  have hts := atoms_spec (ws := Cond.code y cc maxL (some .int) :: TB) B.pre
  have hown : s.vm.findClass y.cls = some m.cls := findClass_of_methodNamed B.named
  have hlocks := B.notSynchronized
  subst hsz
  have hl0 : lv_has ((lg_sl (av E.2.1) ++ List.replicate (maxL - (lg_sl (av E.2.1)).length) Slot.unset).toArray) maxL (gl 0 (gent maxL (av E.2.1))) := by
    have h1 := lv_entry (av E.2.1) (n := maxL) (hlen E.2.1)
    exact ⟨h1.1, h1.2.1, fun q hq => h1.2.2 q (gent_mem _ _ _ q hq)⟩
  rw [lg_entry_eq]
  have hD1 : va_D (va_A (gW Lw E σ) s.heap.size) (gW Lw E σ) := hD0.self (sz := s.heap.size)
  refine body (p, l, e, gR d mc ms, s, m, (av E.2.1).toArray, below, meth, c, maxL, s.heap, va_A (gW Lw E σ) s.heap.size, E, vx_MQ below (va_Qi (Q σ) (gB Lw E) (va_A (gW Lw E σ) s.heap.size)) (vx_X (fun _ => True) (fun Ex u t => PX σ Ex u ∧ gB Lw E u t) (va_A (gW Lw E σ) s.heap.size)) (av E.2.1).toArray s mc ms (va_A (gW Lw E σ) s.heap.size)) σ
    ⟨⟨hx, hb, hml, hown, fun w hw => hts w (List.mem_cons_of_mem _ hw), hK, fun σ' => gW_fix hD1 σ', fun q h => Or.inr h, rfl, hlocks, rfl, rfl, hNs⟩, hl, hxt, hZ⟩ hP ?_ ?_ ⟨_, _, rfl, fun Ex u t h1 h2 h3 => ⟨u, trivial, ⟨h1, h2⟩, h3⟩⟩ s.heap [] _ (gent_len _ _ (hlen E.2.1)) hP0 va_S.rf hl0
  · intro k n pc ls r σ1 hd hk hn1 hQ H locs arr hn hP1 hS1 hl1
    exact W.widen hk hn1 (vx_ret (W.iret (v := r) hx hb hr (fun t ht hW => ⟨⟨r, σ1, rfl, hQ, by show va_P _ _ _ t.heap; rw [ht]; exact hP1⟩, hS1.F ht⟩) hS1.2.2 hd hlocks))
  · intro Ex k n pc ls st σ1 hPX hk hn1 H locs arr ce q hn hP1 hS1 hl1 hce hcv hcl
    exact vx_out (fun x hx => (hxt x hx).elim) hlocks hce hcv hcl (fun t ht hW => ⟨σ1, trivial, ⟨hPX, by show va_P _ _ _ t.heap; rw [ht]; exact hP1⟩, hS1.F ht⟩) hS1.2.2 hk hn1
def gXV (Lw : gL) (l : Launch) (y : MethodName) (cd : Cond) (d mc ms : Nat) (av : (Nat → Nat) → List Value) (P : Mem → Prop) (Q : Mem → Mem → Prop) (PX : Mem → String → Mem → Prop) : Prop :=
  ∀ (E : gE) (σ : Mem) (sz : Nat), P σ → vx_Met l y (cd :: TB) (gR d mc ms) (gPreX Lw av E σ sz) (va_Qv (Q σ) (gB Lw E) (va_A (gW Lw E σ) sz)) (vx_X (fun _ => True) (fun Ex u t => PX σ Ex u ∧ gB Lw E u t) (va_A (gW Lw E σ) sz)) mc ms (va_A (gW Lw E σ) sz)
theorem gXV_of {Lw : gL} {l : Launch} {y : MethodName} {cc : ByteArray} {maxL d mc ms : Nat} {av : (Nat → Nat) → List Value} {P : Mem → Prop} {Q : Mem → Mem → Prop} {PX : Mem → String → Mem → Prop} (hl : l.stackTraces = false) (hy : plainName y.cls = true) (hlen : ∀ A, (lg_sl (av A)).length ≤ maxL)
    (body : ∀ (X : gC) (σ : Mem), gOkX Lw l X cc y.cls d mc ms → P σ → (∀ (k n pc : Nat) (ls : List (Option Value)) (σ1 : Mem), decode cc pc = .ok (.return_, 1) → k ≤ mc → n ≤ ms → Q σ σ1 → G Lw X k n pc ls [] σ1) → (∀ (Ex : String) (k n pc : Nat) (ls : List (Option Value)) (st : List Value) (σ1 : Mem), PX σ Ex σ1 → k ≤ mc → n ≤ ms → GX Lw X Ex k n pc ls st σ1) → gThr Lw X (PX σ) mc ms → G Lw X 0 0 0 (gent maxL (av (gA X))) [] σ) : gXV Lw l y (.code y cc maxL none) d mc ms av P Q PX := by
  intro E σ sz hP
  refine vx_ofW (cc := cc) (maxL := maxL) (ret := none) hy rfl ?_
  intro p e s m args below meth c s₁ B hml hxt hv
  obtain ⟨rfl, ⟨hsz, hP0, hK, hD0, hNs⟩, hZ⟩ := hv
  have hx := B.exec
  have hb := B.bytes
  have hr := B.returns
  have hts := atoms_spec (ws := Cond.code y cc maxL none :: TB) B.pre
  have hown : s.vm.findClass y.cls = some m.cls := findClass_of_methodNamed B.named
  have hlocks := B.notSynchronized
  subst hsz
  have hl0 : lv_has ((lg_sl (av E.2.1) ++ List.replicate (maxL - (lg_sl (av E.2.1)).length) Slot.unset).toArray) maxL (gl 0 (gent maxL (av E.2.1))) := by
    have h1 := lv_entry (av E.2.1) (n := maxL) (hlen E.2.1)
    exact ⟨h1.1, h1.2.1, fun q hq => h1.2.2 q (gent_mem _ _ _ q hq)⟩
  rw [lg_entry_eq]
  have hD1 : va_D (va_A (gW Lw E σ) s.heap.size) (gW Lw E σ) := hD0.self (sz := s.heap.size)
  refine body (p, l, e, gR d mc ms, s, m, (av E.2.1).toArray, below, meth, c, maxL, s.heap, va_A (gW Lw E σ) s.heap.size, E, vx_MQ below (va_Qv (Q σ) (gB Lw E) (va_A (gW Lw E σ) s.heap.size)) (vx_X (fun _ => True) (fun Ex u t => PX σ Ex u ∧ gB Lw E u t) (va_A (gW Lw E σ) s.heap.size)) (av E.2.1).toArray s mc ms (va_A (gW Lw E σ) s.heap.size)) σ
    ⟨⟨hx, hb, hml, hown, fun w hw => hts w (List.mem_cons_of_mem _ hw), hK, fun σ' => gW_fix hD1 σ', fun q h => Or.inr h, rfl, hlocks, rfl, rfl, hNs⟩, hl, hxt, hZ⟩ hP ?_ ?_ ⟨_, _, rfl, fun Ex u t h1 h2 h3 => ⟨u, trivial, ⟨h1, h2⟩, h3⟩⟩ s.heap [] _ (gent_len _ _ (hlen E.2.1)) hP0 va_S.rf hl0
  · intro k n pc ls σ1 hd hk hn1 hQ H locs arr hn hP1 hS1 hl1
    exact W.widen hk hn1 (vx_ret (W.vret hx hb hr (fun t ht hW => ⟨⟨σ1, rfl, hQ, by show va_P _ _ _ t.heap; rw [ht]; exact hP1⟩, hS1.F ht⟩) hS1.2.2 hd hlocks))
  · intro Ex k n pc ls st σ1 hPX hk hn1 H locs arr ce q hn hP1 hS1 hl1 hce hcv hcl
    exact vx_out (fun x hx => (hxt x hx).elim) hlocks hce hcv hcl (fun t ht hW => ⟨σ1, trivial, ⟨hPX, by show va_P _ _ _ t.heap; rw [ht]; exact hP1⟩, hS1.F ht⟩) hS1.2.2 hk hn1
theorem g_xVI {Lw : gL} {l : Launch} {X : gC} {cc : ByteArray} {own : String} {dd ca sa k n pc : Nat} {ls : List (Option Value)} {st : List Value} {σ : Mem} {b : Nat} {ci q0 : Nat} {fs : List Value} {C : String} {T : u_T} {N : Nat} {y : MethodName} {idx : Nat} {bytes : ByteArray} {maxL d mc ms : Nat} (na : Nat) {av : (Nat → Nat) → List Value} {P : Mem → Prop} {Q : Mem → Int32 → Mem → Prop} {As rest : List Value} {PX : Mem → String → Mem → Prop} (hC : gOkX Lw l X cc own dd ca sa) (hM : gXI Lw l y (.code y bytes maxL (some .int)) d mc ms av P Q PX) (hw1 : Cond.methodLink own idx y ∈ TB) (hw2 : Cond.instanceMethod y ∈ TB ∧ Cond.selects C y y ∈ TB ∧ Cond.initialized C ∈ TB ∧ Cond.code y bytes maxL (some .int) ∈ TB) (hy : y.cls = C ∧ y.cls ≠ "java/lang/invoke/MethodHandle" ∧ y.cls ≠ "java/lang/invoke/VarHandle" ∧ (parseMethodDescriptor y.desc).map (fun d => d.parameters.length) = some na) (hR9 : d + 1 ≤ dd ∧ maxL ≤ 21) (hf : k + mc ≤ ca ∧ n + ms ≤ sa) (ha : av (gA X) = .ref b :: As) (hna : As.length = na) (hc : vwCl[ci]? = some (C, T, N)) (hq0 : (gW Lw (gEv X) σ)[q0]? = some (b, .inr (ci, fs))) (hrest : (rest.map fun v => v.category).sum ≤ 8) (hst : st = As.reverse ++ .ref b :: rest) (hd : decode cc pc = .ok (.invokevirtual idx, 3)) (hP : P σ) (kk : ∀ (r : Int32) (σ1 : Mem), Q σ r σ1 → G Lw X (k + mc) (n + ms) (pc + 3) ls (.int r :: rest) σ1) (kx : ∀ (Ex : String) (σ1 : Mem), PX σ Ex σ1 → GX Lw X Ex (k + mc) (n + ms) pc ls rest σ1) : G Lw X k n pc ls st σ := by
  obtain ⟨p, l', e, R, s, m, args, below, meth, c, nL, H0, A, E, Q⟩ := X
  obtain ⟨⟨hx, hb, hml, hown, hTB, hK, hD, hA, hR, hlocks, rfl, hh0, hNs⟩, hltr, hxt, hZ⟩ := hC
  subst hR
  have hRR : (gR d mc ms).frames + 1 ≤ (gR dd ca sa).frames ∧ 8 + (maxL + 11) + (gR d mc ms).locals ≤ (gR dd ca sa).locals := by
    refine ⟨hR9.1, ?_⟩
    show 8 + (maxL + 11) + 40 * d ≤ 40 * dd
    omega
  intro H locs arr hn hP0 hS hl
  have hAA : ∀ q, va_A (gW Lw E σ) H.size q → A q := fun q h => h.elim (fun ⟨i, e1, h1⟩ => (hD σ).2 i (q, e1) h1) (fun h1 => hA q (Nat.le_trans hS.1 h1))
  exact vx_calli (vx_runV (As := As) (rest := rest) (b := b) (Ts := TB) (own := own) (C := C) ⟨hx, hb, hml, hown, hTB⟩ (hM E σ H.size hP) (cwV (ret := (some .int)) (bytes := bytes) (maxL := maxL) na hTB (gi_cons hw1 (gi_cons hw2.1 (gi_cons hw2.2.1 (gi_cons hw2.2.2.1 (gi_cons hw2.2.2.2 gi_self))))) rfl rfl rfl hy hRR) ⟨gPreX_blind, va_recv hK hP0 hc hq0, fun U hU hW => ⟨by rw [← ha]; rfl, ⟨by rw [hU], by rw [hU]; exact hP0, va_K.moved hW.alike hK, (hD σ).weaken (fun _ _ _ _ => trivial), gN.warm hW hNs⟩, by rw [hU]; exact gZ.moved hW.alike ⟨((by rw [hh0] at hZ; exact hZ.1.1 : vx_Zq _ _ _ A s H0).kept hS.2.1).narrow hAA, ((by rw [hh0] at hZ; exact hZ.1.2 : vx_Zq _ _ _ A s H0).kept hS.2.1).narrow hAA⟩, gY.warm hW hZ.2⟩⟩ rfl hna hl.1 hst (lv_room hrest) hd hf) hS (fun q _ h => hAA q h) hAA (fun q _ h => hAA q h) (fun Ex ce q9 u t H1 locs1 ht _ _ hB _ _ hS1 hce hcv hcl => kx Ex u hB.1 H1 locs1 arr ce q9 hn (by rw [← ht]; exact hB.2) hS1 hl hce hcv hcl) (fun r u t H1 locs1 ht _ hq hB _ _ hS1 => kk r u hq H1 locs1 arr hn (by rw [← ht]; exact hB) hS1 hl)
theorem g_xSI {Lw : gL} {l : Launch} {X : gC} {cc : ByteArray} {own : String} {dd ca sa k n pc : Nat} {ls : List (Option Value)} {st : List Value} {σ : Mem} {y : MethodName} {idx : Nat} {bytes : ByteArray} {maxL d mc ms : Nat} (na : Nat) {av : (Nat → Nat) → List Value} {P : Mem → Prop} {Q : Mem → Int32 → Mem → Prop} {As rest : List Value} {PX : Mem → String → Mem → Prop} (hC : gOkX Lw l X cc own dd ca sa) (hM : gXI Lw l y (.code y bytes maxL (some .int)) d mc ms av P Q PX) (hw1 : Cond.methodLink own idx y ∈ TB) (hw2 : Cond.static y ∈ TB ∧ Cond.initialized y.cls ∈ TB ∧ Cond.code y bytes maxL (some .int) ∈ TB) (hy : y.cls ≠ "java/lang/invoke/MethodHandle" ∧ y.cls ≠ "java/lang/invoke/VarHandle" ∧ (parseMethodDescriptor y.desc).map (fun d => d.parameters.length) = some na) (hR9 : d + 1 ≤ dd ∧ maxL ≤ 21) (hf : k + mc ≤ ca ∧ n + ms ≤ sa) (ha : av (gA X) = As) (hna : As.length = na) (hrest : (rest.map fun v => v.category).sum ≤ 8) (hst : st = As.reverse ++ rest) (hd : decode cc pc = .ok (.invokestatic idx, 3)) (hP : P σ) (kk : ∀ (r : Int32) (σ1 : Mem), Q σ r σ1 → G Lw X (k + mc) (n + ms) (pc + 3) ls (.int r :: rest) σ1) (kx : ∀ (Ex : String) (σ1 : Mem), PX σ Ex σ1 → GX Lw X Ex (k + mc) (n + ms) pc ls rest σ1) : G Lw X k n pc ls st σ := by
  obtain ⟨p, l', e, R, s, m, args, below, meth, c, nL, H0, A, E, Q⟩ := X
  obtain ⟨⟨hx, hb, hml, hown, hTB, hK, hD, hA, hR, hlocks, rfl, hh0, hNs⟩, hltr, hxt, hZ⟩ := hC
  subst hR
  have hRR : (gR d mc ms).frames + 1 ≤ (gR dd ca sa).frames ∧ 8 + (maxL + 11) + (gR d mc ms).locals ≤ (gR dd ca sa).locals := by
    refine ⟨hR9.1, ?_⟩
    show 8 + (maxL + 11) + 40 * d ≤ 40 * dd
    omega
  intro H locs arr hn hP0 hS hl
  have hAA : ∀ q, va_A (gW Lw E σ) H.size q → A q := fun q h => h.elim (fun ⟨i, e1, h1⟩ => (hD σ).2 i (q, e1) h1) (fun h1 => hA q (Nat.le_trans hS.1 h1))
  exact vx_calli (vx_runS (As := As) (rest := rest) (Ts := TB) (own := own) ⟨hx, hb, hml, hown, hTB⟩ (hM E σ H.size hP) (va_cwS (ret := (some .int)) (bytes := bytes) (maxL := maxL) na hTB (gi_cons hw1 (gi_cons hw2.1 (gi_cons hw2.2.1 (gi_cons hw2.2.2 gi_self)))) rfl rfl rfl hy hRR) ⟨gPreX_blind, fun U hU hW => ⟨by rw [← ha]; rfl, ⟨by rw [hU], by rw [hU]; exact hP0, va_K.moved hW.alike hK, (hD σ).weaken (fun _ _ _ _ => trivial), gN.warm hW hNs⟩, by rw [hU]; exact gZ.moved hW.alike ⟨((by rw [hh0] at hZ; exact hZ.1.1 : vx_Zq _ _ _ A s H0).kept hS.2.1).narrow hAA, ((by rw [hh0] at hZ; exact hZ.1.2 : vx_Zq _ _ _ A s H0).kept hS.2.1).narrow hAA⟩, gY.warm hW hZ.2⟩⟩ rfl hna hl.1 hst (lv_room hrest) hd hf) hS (fun q _ h => hAA q h) hAA (fun q _ h => hAA q h) (fun Ex ce q9 u t H1 locs1 ht _ _ hB _ _ hS1 hce hcv hcl => kx Ex u hB.1 H1 locs1 arr ce q9 hn (by rw [← ht]; exact hB.2) hS1 hl hce hcv hcl) (fun r u t H1 locs1 ht _ hq hB _ _ hS1 => kk r u hq H1 locs1 arr hn (by rw [← ht]; exact hB) hS1 hl)
theorem g_xVV {Lw : gL} {l : Launch} {X : gC} {cc : ByteArray} {own : String} {dd ca sa k n pc : Nat} {ls : List (Option Value)} {st : List Value} {σ : Mem} {b : Nat} {ci q0 : Nat} {fs : List Value} {C : String} {T : u_T} {N : Nat} {y : MethodName} {idx : Nat} {bytes : ByteArray} {maxL d mc ms : Nat} (na : Nat) {av : (Nat → Nat) → List Value} {P : Mem → Prop} {Q : Mem → Mem → Prop} {As rest : List Value} {PX : Mem → String → Mem → Prop} (hC : gOkX Lw l X cc own dd ca sa) (hM : gXV Lw l y (.code y bytes maxL none) d mc ms av P Q PX) (hw1 : Cond.methodLink own idx y ∈ TB) (hw2 : Cond.instanceMethod y ∈ TB ∧ Cond.selects C y y ∈ TB ∧ Cond.initialized C ∈ TB ∧ Cond.code y bytes maxL none ∈ TB) (hy : y.cls = C ∧ y.cls ≠ "java/lang/invoke/MethodHandle" ∧ y.cls ≠ "java/lang/invoke/VarHandle" ∧ (parseMethodDescriptor y.desc).map (fun d => d.parameters.length) = some na) (hR9 : d + 1 ≤ dd ∧ maxL ≤ 21) (hf : k + mc ≤ ca ∧ n + ms ≤ sa) (ha : av (gA X) = .ref b :: As) (hna : As.length = na) (hc : vwCl[ci]? = some (C, T, N)) (hq0 : (gW Lw (gEv X) σ)[q0]? = some (b, .inr (ci, fs))) (hrest : (rest.map fun v => v.category).sum ≤ 8) (hst : st = As.reverse ++ .ref b :: rest) (hd : decode cc pc = .ok (.invokevirtual idx, 3)) (hP : P σ) (kk : ∀ (σ1 : Mem), Q σ σ1 → G Lw X (k + mc) (n + ms) (pc + 3) ls rest σ1) (kx : ∀ (Ex : String) (σ1 : Mem), PX σ Ex σ1 → GX Lw X Ex (k + mc) (n + ms) pc ls rest σ1) : G Lw X k n pc ls st σ := by
  obtain ⟨p, l', e, R, s, m, args, below, meth, c, nL, H0, A, E, Q⟩ := X
  obtain ⟨⟨hx, hb, hml, hown, hTB, hK, hD, hA, hR, hlocks, rfl, hh0, hNs⟩, hltr, hxt, hZ⟩ := hC
  subst hR
  have hRR : (gR d mc ms).frames + 1 ≤ (gR dd ca sa).frames ∧ 8 + (maxL + 11) + (gR d mc ms).locals ≤ (gR dd ca sa).locals := by
    refine ⟨hR9.1, ?_⟩
    show 8 + (maxL + 11) + 40 * d ≤ 40 * dd
    omega
  intro H locs arr hn hP0 hS hl
  have hAA : ∀ q, va_A (gW Lw E σ) H.size q → A q := fun q h => h.elim (fun ⟨i, e1, h1⟩ => (hD σ).2 i (q, e1) h1) (fun h1 => hA q (Nat.le_trans hS.1 h1))
  exact vx_callv (vx_runV (As := As) (rest := rest) (b := b) (Ts := TB) (own := own) (C := C) ⟨hx, hb, hml, hown, hTB⟩ (hM E σ H.size hP) (cwV (ret := none) (bytes := bytes) (maxL := maxL) na hTB (gi_cons hw1 (gi_cons hw2.1 (gi_cons hw2.2.1 (gi_cons hw2.2.2.1 (gi_cons hw2.2.2.2 gi_self))))) rfl rfl rfl hy hRR) ⟨gPreX_blind, va_recv hK hP0 hc hq0, fun U hU hW => ⟨by rw [← ha]; rfl, ⟨by rw [hU], by rw [hU]; exact hP0, va_K.moved hW.alike hK, (hD σ).weaken (fun _ _ _ _ => trivial), gN.warm hW hNs⟩, by rw [hU]; exact gZ.moved hW.alike ⟨((by rw [hh0] at hZ; exact hZ.1.1 : vx_Zq _ _ _ A s H0).kept hS.2.1).narrow hAA, ((by rw [hh0] at hZ; exact hZ.1.2 : vx_Zq _ _ _ A s H0).kept hS.2.1).narrow hAA⟩, gY.warm hW hZ.2⟩⟩ rfl hna hl.1 hst (lv_room hrest) hd hf) hS (fun q _ h => hAA q h) hAA (fun q _ h => hAA q h) (fun Ex ce q9 u t H1 locs1 ht _ _ hB _ _ hS1 hce hcv hcl => kx Ex u hB.1 H1 locs1 arr ce q9 hn (by rw [← ht]; exact hB.2) hS1 hl hce hcv hcl) (fun u t H1 locs1 ht _ hq hB _ _ hS1 => kk u hq H1 locs1 arr hn (by rw [← ht]; exact hB) hS1 hl)
theorem g_xSV {Lw : gL} {l : Launch} {X : gC} {cc : ByteArray} {own : String} {dd ca sa k n pc : Nat} {ls : List (Option Value)} {st : List Value} {σ : Mem} {y : MethodName} {idx : Nat} {bytes : ByteArray} {maxL d mc ms : Nat} (na : Nat) {av : (Nat → Nat) → List Value} {P : Mem → Prop} {Q : Mem → Mem → Prop} {As rest : List Value} {PX : Mem → String → Mem → Prop} (hC : gOkX Lw l X cc own dd ca sa) (hM : gXV Lw l y (.code y bytes maxL none) d mc ms av P Q PX) (hw1 : Cond.methodLink own idx y ∈ TB) (hw2 : Cond.static y ∈ TB ∧ Cond.initialized y.cls ∈ TB ∧ Cond.code y bytes maxL none ∈ TB) (hy : y.cls ≠ "java/lang/invoke/MethodHandle" ∧ y.cls ≠ "java/lang/invoke/VarHandle" ∧ (parseMethodDescriptor y.desc).map (fun d => d.parameters.length) = some na) (hR9 : d + 1 ≤ dd ∧ maxL ≤ 21) (hf : k + mc ≤ ca ∧ n + ms ≤ sa) (ha : av (gA X) = As) (hna : As.length = na) (hrest : (rest.map fun v => v.category).sum ≤ 8) (hst : st = As.reverse ++ rest) (hd : decode cc pc = .ok (.invokestatic idx, 3)) (hP : P σ) (kk : ∀ (σ1 : Mem), Q σ σ1 → G Lw X (k + mc) (n + ms) (pc + 3) ls rest σ1) (kx : ∀ (Ex : String) (σ1 : Mem), PX σ Ex σ1 → GX Lw X Ex (k + mc) (n + ms) pc ls rest σ1) : G Lw X k n pc ls st σ := by
  obtain ⟨p, l', e, R, s, m, args, below, meth, c, nL, H0, A, E, Q⟩ := X
  obtain ⟨⟨hx, hb, hml, hown, hTB, hK, hD, hA, hR, hlocks, rfl, hh0, hNs⟩, hltr, hxt, hZ⟩ := hC
  subst hR
  have hRR : (gR d mc ms).frames + 1 ≤ (gR dd ca sa).frames ∧ 8 + (maxL + 11) + (gR d mc ms).locals ≤ (gR dd ca sa).locals := by
    refine ⟨hR9.1, ?_⟩
    show 8 + (maxL + 11) + 40 * d ≤ 40 * dd
    omega
  intro H locs arr hn hP0 hS hl
  have hAA : ∀ q, va_A (gW Lw E σ) H.size q → A q := fun q h => h.elim (fun ⟨i, e1, h1⟩ => (hD σ).2 i (q, e1) h1) (fun h1 => hA q (Nat.le_trans hS.1 h1))
  exact vx_callv (vx_runS (As := As) (rest := rest) (Ts := TB) (own := own) ⟨hx, hb, hml, hown, hTB⟩ (hM E σ H.size hP) (va_cwS (ret := none) (bytes := bytes) (maxL := maxL) na hTB (gi_cons hw1 (gi_cons hw2.1 (gi_cons hw2.2.1 (gi_cons hw2.2.2 gi_self)))) rfl rfl rfl hy hRR) ⟨gPreX_blind, fun U hU hW => ⟨by rw [← ha]; rfl, ⟨by rw [hU], by rw [hU]; exact hP0, va_K.moved hW.alike hK, (hD σ).weaken (fun _ _ _ _ => trivial), gN.warm hW hNs⟩, by rw [hU]; exact gZ.moved hW.alike ⟨((by rw [hh0] at hZ; exact hZ.1.1 : vx_Zq _ _ _ A s H0).kept hS.2.1).narrow hAA, ((by rw [hh0] at hZ; exact hZ.1.2 : vx_Zq _ _ _ A s H0).kept hS.2.1).narrow hAA⟩, gY.warm hW hZ.2⟩⟩ rfl hna hl.1 hst (lv_room hrest) hd hf) hS (fun q _ h => hAA q h) hAA (fun q _ h => hAA q h) (fun Ex ce q9 u t H1 locs1 ht _ _ hB _ _ hS1 hce hcv hcl => kx Ex u hB.1 H1 locs1 arr ce q9 hn (by rw [← ht]; exact hB.2) hS1 hl hce hcv hcl) (fun u t H1 locs1 ht _ hq hB _ _ hS1 => kk u hq H1 locs1 arr hn (by rw [← ht]; exact hB) hS1 hl)
