/-! contracts over a layout: methods that return, and methods that may throw -/
theorem gi_TB {w : Cond} (h : w ∈ TB) : w ∈ TB ∧ ((w.onTables && w.keeps) = true ∨ ∃ ty, w = .arrayClass ty) := ⟨h, good_of_word (List.mem_filter.mp h).2⟩
theorem gi_cons {w : Cond} {ws : List Cond} (h : w ∈ TB) (h2 : GoodIn TB ws) : GoodIn TB (w :: ws) := fun v hv => (List.mem_cons.mp hv).elim (fun e => by rw [e]; exact gi_TB h) (h2 v)
theorem gi_self : GoodIn TB TB := fun _ h => gi_TB h
def gPre (Lw : gL) (av : (Nat → Nat) → List Value) (E : gE) (σ : Mem) (sz : Nat) : Array Value → State → Prop :=
  va_Pc (av E.2.1) (fun U => U.heap.size = sz ∧ va_P E.1 vwCl (gW Lw E σ) U.heap ∧ va_K E.1 vwCl (gT E.2.2) U ∧ va_D (fun _ => True) (gW Lw E σ) ∧ gN U)
def gB (Lw : gL) (E : gE) : Mem → State → Prop := fun σ' t => va_P E.1 vwCl (gW Lw E σ') t.heap
theorem gPre_blind {Lw : gL} {av : (Nat → Nat) → List Value} {E : gE} {σ : Mem} {sz : Nat} : FrameBlind (gPre Lw av E σ sz) := by
  intro a U g mk q
  obtain ⟨q0, q1, qP, qK, qD, qN⟩ := q
  exact ⟨q0, q1, qP, va_K.moved (u := U) (U := U.calling g mk a) (Vm.Alike.refl U.vm) qK, qD, gN.same (u := U) (U := U.calling g mk a) rfl qN⟩

def gMI (Lw : gL) (l : Launch) (y : MethodName) (cd : Cond) (d mc ms : Nat) (av : (Nat → Nat) → List Value) (P : Mem → Prop) (Q : Mem → Int32 → Mem → Prop) : Prop :=
  ∀ (E : gE) (σ : Mem) (sz : Nat), P σ → Met l y (cd :: TB) (gR d mc ms) (gPre Lw av E σ sz) (va_Qi (Q σ) (gB Lw E) (va_A (gW Lw E σ) sz)) mc ms (va_A (gW Lw E σ) sz)
theorem gMI_of {Lw : gL} {l : Launch} {y : MethodName} {cc : ByteArray} {maxL d mc ms : Nat} {av : (Nat → Nat) → List Value} {P : Mem → Prop} {Q : Mem → Int32 → Mem → Prop} (hy : plainName y.cls = true) (hlen : ∀ A, (lg_sl (av A)).length ≤ maxL)
    (body : ∀ (X : gC) (σ : Mem), gOk Lw l X cc y.cls d mc ms → P σ → (∀ (k n pc : Nat) (ls : List (Option Value)) (r : Int32) (σ1 : Mem), decode cc pc = .ok (.ireturn, 1) → k ≤ mc → n ≤ ms → Q σ r σ1 → G Lw X k n pc ls [.int r] σ1) → G Lw X 0 0 0 (gent maxL (av (gA X))) [] σ) : gMI Lw l y (.code y cc maxL (some .int)) d mc ms av P Q := by
  intro E σ sz hP
  refine Met.ofW (cc := cc) (maxL := maxL) (ret := (some .int)) hy rfl ?_
  intro p e s m args below meth c s₁ B hml hv
  obtain ⟨rfl, hsz, hP0, hK, hD0, hNs⟩ := hv
  have hx := B.exec
  have hb := B.bytes
  have hr := B.returns
  have hts := atoms_spec (ws := Cond.code y cc maxL (some .int) :: TB) B.pre
  have hown : s.vm.findClass y.cls = some m.cls := findClass_of_methodNamed B.named
  have hlocks := B.notSynchronized
  subst hsz
  have hl0 : lv_has ((lg_sl (av E.2.1) ++ List.replicate (maxL - (lg_sl (av E.2.1)).length) Slot.unset).toArray) maxL (gl 0 (gent maxL (av E.2.1))) := by
    have h1 := lv_entry (av E.2.1) (n := maxL) (hlen E.2.1)
    exact ⟨h1.1, h1.2.1, fun q hq => h1.2.2 q (gent_mem _ _ _ q hq)⟩
  rw [lg_entry_eq]
  have hD1 : va_D (va_A (gW Lw E σ) s.heap.size) (gW Lw E σ) := hD0.self (sz := s.heap.size)
  refine body (p, l, e, gR d mc ms, s, m, (av E.2.1).toArray, below, meth, c, maxL, s.heap, va_A (gW Lw E σ) s.heap.size, E, MQ below (va_Qi (Q σ) (gB Lw E) (va_A (gW Lw E σ) s.heap.size)) (av E.2.1).toArray s mc ms (va_A (gW Lw E σ) s.heap.size)) σ
    ⟨hx, hb, hml, hown, fun w hw => hts w (List.mem_cons_of_mem _ hw), hK, fun σ' => gW_fix hD1 σ', fun q h => Or.inr h, rfl, hlocks, rfl, rfl, hNs⟩ hP ?_ s.heap [] _ (gent_len _ _ (hlen E.2.1)) hP0 va_S.rf hl0
  intro k n pc ls r σ1 hd hk hn1 hQ H locs arr hn hP1 hS1 hl1
  exact W.widen hk hn1 (W.iret (v := r) hx hb hr (fun t ht hW => ⟨⟨r, σ1, rfl, hQ, by show va_P _ _ _ t.heap; rw [ht]; exact hP1⟩, hS1.F ht⟩) hS1.2.2 hd hlocks)
theorem g_cVI {Lw : gL} {l : Launch} {X : gC} {cc : ByteArray} {own : String} {dd ca sa k n pc : Nat} {ls : List (Option Value)} {st : List Value} {σ : Mem} {b : Nat} {ci q0 : Nat} {fs : List Value} {C : String} {T : u_T} {N : Nat} {y : MethodName} {idx : Nat} {bytes : ByteArray} {maxL d mc ms : Nat} (na : Nat) {av : (Nat → Nat) → List Value} {P : Mem → Prop} {Q : Mem → Int32 → Mem → Prop} {As rest : List Value} (hC : gOk Lw l X cc own dd ca sa) (hM : gMI Lw l y (.code y bytes maxL (some .int)) d mc ms av P Q) (hw1 : Cond.methodLink own idx y ∈ TB) (hw2 : Cond.instanceMethod y ∈ TB ∧ Cond.selects C y y ∈ TB ∧ Cond.initialized C ∈ TB ∧ Cond.code y bytes maxL (some .int) ∈ TB) (hy : y.cls = C ∧ y.cls ≠ "java/lang/invoke/MethodHandle" ∧ y.cls ≠ "java/lang/invoke/VarHandle" ∧ (parseMethodDescriptor y.desc).map (fun d => d.parameters.length) = some na) (hR9 : d + 1 ≤ dd ∧ maxL ≤ 21) (hf : k + mc ≤ ca ∧ n + ms ≤ sa) (ha : av (gA X) = .ref b :: As) (hna : As.length = na) (hc : vwCl[ci]? = some (C, T, N)) (hq0 : (gW Lw (gEv X) σ)[q0]? = some (b, .inr (ci, fs))) (hrest : (rest.map fun v => v.category).sum ≤ 8) (hst : st = As.reverse ++ .ref b :: rest) (hd : decode cc pc = .ok (.invokevirtual idx, 3)) (hP : P σ) (kk : ∀ (r : Int32) (σ1 : Mem), Q σ r σ1 → G Lw X (k + mc) (n + ms) (pc + 3) ls (.int r :: rest) σ1) : G Lw X k n pc ls st σ := by
  obtain ⟨p, l', e, R, s, m, args, below, meth, c, nL, H0, A, E, Q⟩ := X
  obtain ⟨hx, hb, hml, hown, hTB, hK, hD, hA, hR, hlocks, rfl, hh0, hNs⟩ := hC
  subst hR
  have hRR : (gR d mc ms).frames + 1 ≤ (gR dd ca sa).frames ∧ 8 + (maxL + 11) + (gR d mc ms).locals ≤ (gR dd ca sa).locals := by
    refine ⟨hR9.1, ?_⟩
    show 8 + (maxL + 11) + 40 * d ≤ 40 * dd
    omega
  intro H locs arr hn hP0 hS hl
  have hAA : ∀ q, va_A (gW Lw E σ) H.size q → A q := fun q h => h.elim (fun ⟨i, e1, h1⟩ => (hD σ).2 i (q, e1) h1) (fun h1 => hA q (Nat.le_trans hS.1 h1))
  exact va_calli (va_runV (As := As) (rest := rest) (b := b) (Ts := TB) (own := own) (C := C) ⟨hx, hb, hml, hown, hTB⟩ (hM E σ H.size hP) (cwV (ret := (some .int)) (bytes := bytes) (maxL := maxL) na hTB (gi_cons hw1 (gi_cons hw2.1 (gi_cons hw2.2.1 (gi_cons hw2.2.2.1 (gi_cons hw2.2.2.2 gi_self))))) rfl rfl rfl hy hRR) ⟨gPre_blind, va_recv hK hP0 hc hq0, fun U hU hW => ⟨by rw [← ha]; rfl, by rw [hU], by rw [hU]; exact hP0, va_K.moved hW.alike hK, (hD σ).weaken (fun _ _ _ _ => trivial), gN.warm hW hNs⟩⟩ rfl hna hl.1 hst (lv_room hrest) hd hf) hS (fun q _ h => hAA q h) hAA (fun r u t H1 locs1 ht _ hq hB _ _ hS1 => kk r u hq H1 locs1 arr hn (by rw [← ht]; exact hB) hS1 hl)
theorem g_cSI {Lw : gL} {l : Launch} {X : gC} {cc : ByteArray} {own : String} {dd ca sa k n pc : Nat} {ls : List (Option Value)} {st : List Value} {σ : Mem} {y : MethodName} {idx : Nat} {bytes : ByteArray} {maxL d mc ms : Nat} (na : Nat) {av : (Nat → Nat) → List Value} {P : Mem → Prop} {Q : Mem → Int32 → Mem → Prop} {As rest : List Value} (hC : gOk Lw l X cc own dd ca sa) (hM : gMI Lw l y (.code y bytes maxL (some .int)) d mc ms av P Q) (hw1 : Cond.methodLink own idx y ∈ TB) (hw2 : Cond.static y ∈ TB ∧ Cond.initialized y.cls ∈ TB ∧ Cond.code y bytes maxL (some .int) ∈ TB) (hy : y.cls ≠ "java/lang/invoke/MethodHandle" ∧ y.cls ≠ "java/lang/invoke/VarHandle" ∧ (parseMethodDescriptor y.desc).map (fun d => d.parameters.length) = some na) (hR9 : d + 1 ≤ dd ∧ maxL ≤ 21) (hf : k + mc ≤ ca ∧ n + ms ≤ sa) (ha : av (gA X) = As) (hna : As.length = na) (hrest : (rest.map fun v => v.category).sum ≤ 8) (hst : st = As.reverse ++ rest) (hd : decode cc pc = .ok (.invokestatic idx, 3)) (hP : P σ) (kk : ∀ (r : Int32) (σ1 : Mem), Q σ r σ1 → G Lw X (k + mc) (n + ms) (pc + 3) ls (.int r :: rest) σ1) : G Lw X k n pc ls st σ := by
  obtain ⟨p, l', e, R, s, m, args, below, meth, c, nL, H0, A, E, Q⟩ := X
  obtain ⟨hx, hb, hml, hown, hTB, hK, hD, hA, hR, hlocks, rfl, hh0, hNs⟩ := hC
  subst hR
  have hRR : (gR d mc ms).frames + 1 ≤ (gR dd ca sa).frames ∧ 8 + (maxL + 11) + (gR d mc ms).locals ≤ (gR dd ca sa).locals := by
    refine ⟨hR9.1, ?_⟩
    show 8 + (maxL + 11) + 40 * d ≤ 40 * dd
    omega
  intro H locs arr hn hP0 hS hl
  have hAA : ∀ q, va_A (gW Lw E σ) H.size q → A q := fun q h => h.elim (fun ⟨i, e1, h1⟩ => (hD σ).2 i (q, e1) h1) (fun h1 => hA q (Nat.le_trans hS.1 h1))
  exact va_calli (va_runS (As := As) (rest := rest) (Ts := TB) (own := own) ⟨hx, hb, hml, hown, hTB⟩ (hM E σ H.size hP) (va_cwS (ret := (some .int)) (bytes := bytes) (maxL := maxL) na hTB (gi_cons hw1 (gi_cons hw2.1 (gi_cons hw2.2.1 (gi_cons hw2.2.2 gi_self)))) rfl rfl rfl hy hRR) ⟨gPre_blind, fun U hU hW => ⟨by rw [← ha]; rfl, by rw [hU], by rw [hU]; exact hP0, va_K.moved hW.alike hK, (hD σ).weaken (fun _ _ _ _ => trivial), gN.warm hW hNs⟩⟩ rfl hna hl.1 hst (lv_room hrest) hd hf) hS (fun q _ h => hAA q h) hAA (fun r u t H1 locs1 ht _ hq hB _ _ hS1 => kk r u hq H1 locs1 arr hn (by rw [← ht]; exact hB) hS1 hl)
def gMZ (Lw : gL) (l : Launch) (y : MethodName) (cd : Cond) (d mc ms : Nat) (av : (Nat → Nat) → List Value) (P : Mem → Prop) (Q : Mem → Int32 → Mem → Prop) : Prop :=
  ∀ (E : gE) (σ : Mem) (sz : Nat), P σ → Met l y (cd :: TB) (gR d mc ms) (gPre Lw av E σ sz) (va_Qi (Q σ) (gB Lw E) (va_A (gW Lw E σ) sz)) mc ms (va_A (gW Lw E σ) sz)
theorem gMZ_of {Lw : gL} {l : Launch} {y : MethodName} {cc : ByteArray} {maxL d mc ms : Nat} {av : (Nat → Nat) → List Value} {P : Mem → Prop} {Q : Mem → Int32 → Mem → Prop} (hy : plainName y.cls = true) (hlen : ∀ A, (lg_sl (av A)).length ≤ maxL)
    (body : ∀ (X : gC) (σ : Mem), gOk Lw l X cc y.cls d mc ms → P σ → (∀ (k n pc : Nat) (ls : List (Option Value)) (r : Int32) (σ1 : Mem), decode cc pc = .ok (.ireturn, 1) → k ≤ mc → n ≤ ms → (r = 0 ∨ r = 1) → Q σ r σ1 → G Lw X k n pc ls [.int r] σ1) → G Lw X 0 0 0 (gent maxL (av (gA X))) [] σ) : gMZ Lw l y (.code y cc maxL (some .boolean)) d mc ms av P Q := by
  intro E σ sz hP
  refine Met.ofW (cc := cc) (maxL := maxL) (ret := (some .boolean)) hy rfl ?_
  intro p e s m args below meth c s₁ B hml hv
  obtain ⟨rfl, hsz, hP0, hK, hD0, hNs⟩ := hv
  have hx := B.exec
  have hb := B.bytes
  have hr := B.returns
  have hts := atoms_spec (ws := Cond.code y cc maxL (some .boolean) :: TB) B.pre
  have hown : s.vm.findClass y.cls = some m.cls := findClass_of_methodNamed B.named
  have hlocks := B.notSynchronized
  subst hsz
  have hl0 : lv_has ((lg_sl (av E.2.1) ++ List.replicate (maxL - (lg_sl (av E.2.1)).length) Slot.unset).toArray) maxL (gl 0 (gent maxL (av E.2.1))) := by
    have h1 := lv_entry (av E.2.1) (n := maxL) (hlen E.2.1)
    exact ⟨h1.1, h1.2.1, fun q hq => h1.2.2 q (gent_mem _ _ _ q hq)⟩
  rw [lg_entry_eq]
  have hD1 : va_D (va_A (gW Lw E σ) s.heap.size) (gW Lw E σ) := hD0.self (sz := s.heap.size)
  refine body (p, l, e, gR d mc ms, s, m, (av E.2.1).toArray, below, meth, c, maxL, s.heap, va_A (gW Lw E σ) s.heap.size, E, MQ below (va_Qi (Q σ) (gB Lw E) (va_A (gW Lw E σ) s.heap.size)) (av E.2.1).toArray s mc ms (va_A (gW Lw E σ) s.heap.size)) σ
    ⟨hx, hb, hml, hown, fun w hw => hts w (List.mem_cons_of_mem _ hw), hK, fun σ' => gW_fix hD1 σ', fun q h => Or.inr h, rfl, hlocks, rfl, rfl, hNs⟩ hP ?_ s.heap [] _ (gent_len _ _ (hlen E.2.1)) hP0 va_S.rf hl0
  intro k n pc ls r σ1 hd hk hn1 hr1 hQ H locs arr hn hP1 hS1 hl1
  exact W.widen hk hn1 (W.zret (v := r) hx hb hr (by rcases hr1 with rfl | rfl <;> rfl) (fun t ht hW => ⟨⟨r, σ1, rfl, hQ, by show va_P _ _ _ t.heap; rw [ht]; exact hP1⟩, hS1.F ht⟩) hS1.2.2 hd hlocks)
theorem g_cVZ {Lw : gL} {l : Launch} {X : gC} {cc : ByteArray} {own : String} {dd ca sa k n pc : Nat} {ls : List (Option Value)} {st : List Value} {σ : Mem} {b : Nat} {ci q0 : Nat} {fs : List Value} {C : String} {T : u_T} {N : Nat} {y : MethodName} {idx : Nat} {bytes : ByteArray} {maxL d mc ms : Nat} (na : Nat) {av : (Nat → Nat) → List Value} {P : Mem → Prop} {Q : Mem → Int32 → Mem → Prop} {As rest : List Value} (hC : gOk Lw l X cc own dd ca sa) (hM : gMZ Lw l y (.code y bytes maxL (some .boolean)) d mc ms av P Q) (hw1 : Cond.methodLink own idx y ∈ TB) (hw2 : Cond.instanceMethod y ∈ TB ∧ Cond.selects C y y ∈ TB ∧ Cond.initialized C ∈ TB ∧ Cond.code y bytes maxL (some .boolean) ∈ TB) (hy : y.cls = C ∧ y.cls ≠ "java/lang/invoke/MethodHandle" ∧ y.cls ≠ "java/lang/invoke/VarHandle" ∧ (parseMethodDescriptor y.desc).map (fun d => d.parameters.length) = some na) (hR9 : d + 1 ≤ dd ∧ maxL ≤ 21) (hf : k + mc ≤ ca ∧ n + ms ≤ sa) (ha : av (gA X) = .ref b :: As) (hna : As.length = na) (hc : vwCl[ci]? = some (C, T, N)) (hq0 : (gW Lw (gEv X) σ)[q0]? = some (b, .inr (ci, fs))) (hrest : (rest.map fun v => v.category).sum ≤ 8) (hst : st = As.reverse ++ .ref b :: rest) (hd : decode cc pc = .ok (.invokevirtual idx, 3)) (hP : P σ) (kk : ∀ (r : Int32) (σ1 : Mem), Q σ r σ1 → G Lw X (k + mc) (n + ms) (pc + 3) ls (.int r :: rest) σ1) : G Lw X k n pc ls st σ := by
  obtain ⟨p, l', e, R, s, m, args, below, meth, c, nL, H0, A, E, Q⟩ := X
  obtain ⟨hx, hb, hml, hown, hTB, hK, hD, hA, hR, hlocks, rfl, hh0, hNs⟩ := hC
  subst hR
  have hRR : (gR d mc ms).frames + 1 ≤ (gR dd ca sa).frames ∧ 8 + (maxL + 11) + (gR d mc ms).locals ≤ (gR dd ca sa).locals := by
    refine ⟨hR9.1, ?_⟩
    show 8 + (maxL + 11) + 40 * d ≤ 40 * dd
    omega
  intro H locs arr hn hP0 hS hl
  have hAA : ∀ q, va_A (gW Lw E σ) H.size q → A q := fun q h => h.elim (fun ⟨i, e1, h1⟩ => (hD σ).2 i (q, e1) h1) (fun h1 => hA q (Nat.le_trans hS.1 h1))
  exact va_calli (va_runV (As := As) (rest := rest) (b := b) (Ts := TB) (own := own) (C := C) ⟨hx, hb, hml, hown, hTB⟩ (hM E σ H.size hP) (cwV (ret := (some .boolean)) (bytes := bytes) (maxL := maxL) na hTB (gi_cons hw1 (gi_cons hw2.1 (gi_cons hw2.2.1 (gi_cons hw2.2.2.1 (gi_cons hw2.2.2.2 gi_self))))) rfl rfl rfl hy hRR) ⟨gPre_blind, va_recv hK hP0 hc hq0, fun U hU hW => ⟨by rw [← ha]; rfl, by rw [hU], by rw [hU]; exact hP0, va_K.moved hW.alike hK, (hD σ).weaken (fun _ _ _ _ => trivial), gN.warm hW hNs⟩⟩ rfl hna hl.1 hst (lv_room hrest) hd hf) hS (fun q _ h => hAA q h) hAA (fun r u t H1 locs1 ht _ hq hB _ _ hS1 => kk r u hq H1 locs1 arr hn (by rw [← ht]; exact hB) hS1 hl)
theorem g_cSZ {Lw : gL} {l : Launch} {X : gC} {cc : ByteArray} {own : String} {dd ca sa k n pc : Nat} {ls : List (Option Value)} {st : List Value} {σ : Mem} {y : MethodName} {idx : Nat} {bytes : ByteArray} {maxL d mc ms : Nat} (na : Nat) {av : (Nat → Nat) → List Value} {P : Mem → Prop} {Q : Mem → Int32 → Mem → Prop} {As rest : List Value} (hC : gOk Lw l X cc own dd ca sa) (hM : gMZ Lw l y (.code y bytes maxL (some .boolean)) d mc ms av P Q) (hw1 : Cond.methodLink own idx y ∈ TB) (hw2 : Cond.static y ∈ TB ∧ Cond.initialized y.cls ∈ TB ∧ Cond.code y bytes maxL (some .boolean) ∈ TB) (hy : y.cls ≠ "java/lang/invoke/MethodHandle" ∧ y.cls ≠ "java/lang/invoke/VarHandle" ∧ (parseMethodDescriptor y.desc).map (fun d => d.parameters.length) = some na) (hR9 : d + 1 ≤ dd ∧ maxL ≤ 21) (hf : k + mc ≤ ca ∧ n + ms ≤ sa) (ha : av (gA X) = As) (hna : As.length = na) (hrest : (rest.map fun v => v.category).sum ≤ 8) (hst : st = As.reverse ++ rest) (hd : decode cc pc = .ok (.invokestatic idx, 3)) (hP : P σ) (kk : ∀ (r : Int32) (σ1 : Mem), Q σ r σ1 → G Lw X (k + mc) (n + ms) (pc + 3) ls (.int r :: rest) σ1) : G Lw X k n pc ls st σ := by
  obtain ⟨p, l', e, R, s, m, args, below, meth, c, nL, H0, A, E, Q⟩ := X
  obtain ⟨hx, hb, hml, hown, hTB, hK, hD, hA, hR, hlocks, rfl, hh0, hNs⟩ := hC
  subst hR
  have hRR : (gR d mc ms).frames + 1 ≤ (gR dd ca sa).frames ∧ 8 + (maxL + 11) + (gR d mc ms).locals ≤ (gR dd ca sa).locals := by
    refine ⟨hR9.1, ?_⟩
    show 8 + (maxL + 11) + 40 * d ≤ 40 * dd
    omega
  intro H locs arr hn hP0 hS hl
  have hAA : ∀ q, va_A (gW Lw E σ) H.size q → A q := fun q h => h.elim (fun ⟨i, e1, h1⟩ => (hD σ).2 i (q, e1) h1) (fun h1 => hA q (Nat.le_trans hS.1 h1))
  exact va_calli (va_runS (As := As) (rest := rest) (Ts := TB) (own := own) ⟨hx, hb, hml, hown, hTB⟩ (hM E σ H.size hP) (va_cwS (ret := (some .boolean)) (bytes := bytes) (maxL := maxL) na hTB (gi_cons hw1 (gi_cons hw2.1 (gi_cons hw2.2.1 (gi_cons hw2.2.2 gi_self)))) rfl rfl rfl hy hRR) ⟨gPre_blind, fun U hU hW => ⟨by rw [← ha]; rfl, by rw [hU], by rw [hU]; exact hP0, va_K.moved hW.alike hK, (hD σ).weaken (fun _ _ _ _ => trivial), gN.warm hW hNs⟩⟩ rfl hna hl.1 hst (lv_room hrest) hd hf) hS (fun q _ h => hAA q h) hAA (fun r u t H1 locs1 ht _ hq hB _ _ hS1 => kk r u hq H1 locs1 arr hn (by rw [← ht]; exact hB) hS1 hl)
def gML (Lw : gL) (l : Launch) (y : MethodName) (cd : Cond) (d mc ms : Nat) (av : (Nat → Nat) → List Value) (P : Mem → Prop) (Q : Mem → Int64 → Mem → Prop) : Prop :=
  ∀ (E : gE) (σ : Mem) (sz : Nat), P σ → Met l y (cd :: TB) (gR d mc ms) (gPre Lw av E σ sz) (va_Ql (Q σ) (gB Lw E) (va_A (gW Lw E σ) sz)) mc ms (va_A (gW Lw E σ) sz)
theorem gML_of {Lw : gL} {l : Launch} {y : MethodName} {cc : ByteArray} {maxL d mc ms : Nat} {av : (Nat → Nat) → List Value} {P : Mem → Prop} {Q : Mem → Int64 → Mem → Prop} (hy : plainName y.cls = true) (hlen : ∀ A, (lg_sl (av A)).length ≤ maxL)
    (body : ∀ (X : gC) (σ : Mem), gOk Lw l X cc y.cls d mc ms → P σ → (∀ (k n pc : Nat) (ls : List (Option Value)) (r : Int64) (σ1 : Mem), decode cc pc = .ok (.lreturn, 1) → k ≤ mc → n ≤ ms → Q σ r σ1 → G Lw X k n pc ls [.long r] σ1) → G Lw X 0 0 0 (gent maxL (av (gA X))) [] σ) : gML Lw l y (.code y cc maxL (some .long)) d mc ms av P Q := by
  intro E σ sz hP
  refine Met.ofW (cc := cc) (maxL := maxL) (ret := (some .long)) hy rfl ?_
  intro p e s m args below meth c s₁ B hml hv
  obtain ⟨rfl, hsz, hP0, hK, hD0, hNs⟩ := hv
  have hx := B.exec
  have hb := B.bytes
  have hr := B.returns
  have hts := atoms_spec (ws := Cond.code y cc maxL (some .long) :: TB) B.pre
  have hown : s.vm.findClass y.cls = some m.cls := findClass_of_methodNamed B.named
  have hlocks := B.notSynchronized
  subst hsz
  have hl0 : lv_has ((lg_sl (av E.2.1) ++ List.replicate (maxL - (lg_sl (av E.2.1)).length) Slot.unset).toArray) maxL (gl 0 (gent maxL (av E.2.1))) := by
    have h1 := lv_entry (av E.2.1) (n := maxL) (hlen E.2.1)
    exact ⟨h1.1, h1.2.1, fun q hq => h1.2.2 q (gent_mem _ _ _ q hq)⟩
  rw [lg_entry_eq]
  have hD1 : va_D (va_A (gW Lw E σ) s.heap.size) (gW Lw E σ) := hD0.self (sz := s.heap.size)
  refine body (p, l, e, gR d mc ms, s, m, (av E.2.1).toArray, below, meth, c, maxL, s.heap, va_A (gW Lw E σ) s.heap.size, E, MQ below (va_Ql (Q σ) (gB Lw E) (va_A (gW Lw E σ) s.heap.size)) (av E.2.1).toArray s mc ms (va_A (gW Lw E σ) s.heap.size)) σ
    ⟨hx, hb, hml, hown, fun w hw => hts w (List.mem_cons_of_mem _ hw), hK, fun σ' => gW_fix hD1 σ', fun q h => Or.inr h, rfl, hlocks, rfl, rfl, hNs⟩ hP ?_ s.heap [] _ (gent_len _ _ (hlen E.2.1)) hP0 va_S.rf hl0
  intro k n pc ls r σ1 hd hk hn1 hQ H locs arr hn hP1 hS1 hl1
  exact W.widen hk hn1 (W.lret (v := r) hx hb hr (fun t ht hW => ⟨⟨r, σ1, rfl, hQ, by show va_P _ _ _ t.heap; rw [ht]; exact hP1⟩, hS1.F ht⟩) hS1.2.2 hd hlocks)
theorem g_cVL {Lw : gL} {l : Launch} {X : gC} {cc : ByteArray} {own : String} {dd ca sa k n pc : Nat} {ls : List (Option Value)} {st : List Value} {σ : Mem} {b : Nat} {ci q0 : Nat} {fs : List Value} {C : String} {T : u_T} {N : Nat} {y : MethodName} {idx : Nat} {bytes : ByteArray} {maxL d mc ms : Nat} (na : Nat) {av : (Nat → Nat) → List Value} {P : Mem → Prop} {Q : Mem → Int64 → Mem → Prop} {As rest : List Value} (hC : gOk Lw l X cc own dd ca sa) (hM : gML Lw l y (.code y bytes maxL (some .long)) d mc ms av P Q) (hw1 : Cond.methodLink own idx y ∈ TB) (hw2 : Cond.instanceMethod y ∈ TB ∧ Cond.selects C y y ∈ TB ∧ Cond.initialized C ∈ TB ∧ Cond.code y bytes maxL (some .long) ∈ TB) (hy : y.cls = C ∧ y.cls ≠ "java/lang/invoke/MethodHandle" ∧ y.cls ≠ "java/lang/invoke/VarHandle" ∧ (parseMethodDescriptor y.desc).map (fun d => d.parameters.length) = some na) (hR9 : d + 1 ≤ dd ∧ maxL ≤ 21) (hf : k + mc ≤ ca ∧ n + ms ≤ sa) (ha : av (gA X) = .ref b :: As) (hna : As.length = na) (hc : vwCl[ci]? = some (C, T, N)) (hq0 : (gW Lw (gEv X) σ)[q0]? = some (b, .inr (ci, fs))) (hrest : (rest.map fun v => v.category).sum ≤ 8) (hst : st = As.reverse ++ .ref b :: rest) (hd : decode cc pc = .ok (.invokevirtual idx, 3)) (hP : P σ) (kk : ∀ (r : Int64) (σ1 : Mem), Q σ r σ1 → G Lw X (k + mc) (n + ms) (pc + 3) ls (.long r :: rest) σ1) : G Lw X k n pc ls st σ := by
  obtain ⟨p, l', e, R, s, m, args, below, meth, c, nL, H0, A, E, Q⟩ := X
  obtain ⟨hx, hb, hml, hown, hTB, hK, hD, hA, hR, hlocks, rfl, hh0, hNs⟩ := hC
  subst hR
  have hRR : (gR d mc ms).frames + 1 ≤ (gR dd ca sa).frames ∧ 8 + (maxL + 11) + (gR d mc ms).locals ≤ (gR dd ca sa).locals := by
    refine ⟨hR9.1, ?_⟩
    show 8 + (maxL + 11) + 40 * d ≤ 40 * dd
    omega
  intro H locs arr hn hP0 hS hl
  have hAA : ∀ q, va_A (gW Lw E σ) H.size q → A q := fun q h => h.elim (fun ⟨i, e1, h1⟩ => (hD σ).2 i (q, e1) h1) (fun h1 => hA q (Nat.le_trans hS.1 h1))
  exact va_calll (va_runV (As := As) (rest := rest) (b := b) (Ts := TB) (own := own) (C := C) ⟨hx, hb, hml, hown, hTB⟩ (hM E σ H.size hP) (cwV (ret := (some .long)) (bytes := bytes) (maxL := maxL) na hTB (gi_cons hw1 (gi_cons hw2.1 (gi_cons hw2.2.1 (gi_cons hw2.2.2.1 (gi_cons hw2.2.2.2 gi_self))))) rfl rfl rfl hy hRR) ⟨gPre_blind, va_recv hK hP0 hc hq0, fun U hU hW => ⟨by rw [← ha]; rfl, by rw [hU], by rw [hU]; exact hP0, va_K.moved hW.alike hK, (hD σ).weaken (fun _ _ _ _ => trivial), gN.warm hW hNs⟩⟩ rfl hna hl.1 hst (lv_room hrest) hd hf) hS (fun q _ h => hAA q h) hAA (fun r u t H1 locs1 ht _ hq hB _ _ hS1 => kk r u hq H1 locs1 arr hn (by rw [← ht]; exact hB) hS1 hl)
theorem g_cSL {Lw : gL} {l : Launch} {X : gC} {cc : ByteArray} {own : String} {dd ca sa k n pc : Nat} {ls : List (Option Value)} {st : List Value} {σ : Mem} {y : MethodName} {idx : Nat} {bytes : ByteArray} {maxL d mc ms : Nat} (na : Nat) {av : (Nat → Nat) → List Value} {P : Mem → Prop} {Q : Mem → Int64 → Mem → Prop} {As rest : List Value} (hC : gOk Lw l X cc own dd ca sa) (hM : gML Lw l y (.code y bytes maxL (some .long)) d mc ms av P Q) (hw1 : Cond.methodLink own idx y ∈ TB) (hw2 : Cond.static y ∈ TB ∧ Cond.initialized y.cls ∈ TB ∧ Cond.code y bytes maxL (some .long) ∈ TB) (hy : y.cls ≠ "java/lang/invoke/MethodHandle" ∧ y.cls ≠ "java/lang/invoke/VarHandle" ∧ (parseMethodDescriptor y.desc).map (fun d => d.parameters.length) = some na) (hR9 : d + 1 ≤ dd ∧ maxL ≤ 21) (hf : k + mc ≤ ca ∧ n + ms ≤ sa) (ha : av (gA X) = As) (hna : As.length = na) (hrest : (rest.map fun v => v.category).sum ≤ 8) (hst : st = As.reverse ++ rest) (hd : decode cc pc = .ok (.invokestatic idx, 3)) (hP : P σ) (kk : ∀ (r : Int64) (σ1 : Mem), Q σ r σ1 → G Lw X (k + mc) (n + ms) (pc + 3) ls (.long r :: rest) σ1) : G Lw X k n pc ls st σ := by
  obtain ⟨p, l', e, R, s, m, args, below, meth, c, nL, H0, A, E, Q⟩ := X
  obtain ⟨hx, hb, hml, hown, hTB, hK, hD, hA, hR, hlocks, rfl, hh0, hNs⟩ := hC
  subst hR
  have hRR : (gR d mc ms).frames + 1 ≤ (gR dd ca sa).frames ∧ 8 + (maxL + 11) + (gR d mc ms).locals ≤ (gR dd ca sa).locals := by
    refine ⟨hR9.1, ?_⟩
    show 8 + (maxL + 11) + 40 * d ≤ 40 * dd
    omega
  intro H locs arr hn hP0 hS hl
  have hAA : ∀ q, va_A (gW Lw E σ) H.size q → A q := fun q h => h.elim (fun ⟨i, e1, h1⟩ => (hD σ).2 i (q, e1) h1) (fun h1 => hA q (Nat.le_trans hS.1 h1))
  exact va_calll (va_runS (As := As) (rest := rest) (Ts := TB) (own := own) ⟨hx, hb, hml, hown, hTB⟩ (hM E σ H.size hP) (va_cwS (ret := (some .long)) (bytes := bytes) (maxL := maxL) na hTB (gi_cons hw1 (gi_cons hw2.1 (gi_cons hw2.2.1 (gi_cons hw2.2.2 gi_self)))) rfl rfl rfl hy hRR) ⟨gPre_blind, fun U hU hW => ⟨by rw [← ha]; rfl, by rw [hU], by rw [hU]; exact hP0, va_K.moved hW.alike hK, (hD σ).weaken (fun _ _ _ _ => trivial), gN.warm hW hNs⟩⟩ rfl hna hl.1 hst (lv_room hrest) hd hf) hS (fun q _ h => hAA q h) hAA (fun r u t H1 locs1 ht _ hq hB _ _ hS1 => kk r u hq H1 locs1 arr hn (by rw [← ht]; exact hB) hS1 hl)
def gMD (Lw : gL) (l : Launch) (y : MethodName) (cd : Cond) (d mc ms : Nat) (av : (Nat → Nat) → List Value) (P : Mem → Prop) (Q : Mem → UInt64 → Mem → Prop) : Prop :=
  ∀ (E : gE) (σ : Mem) (sz : Nat), P σ → Met l y (cd :: TB) (gR d mc ms) (gPre Lw av E σ sz) (va_Qd (Q σ) (gB Lw E) (va_A (gW Lw E σ) sz)) mc ms (va_A (gW Lw E σ) sz)
theorem gMD_of {Lw : gL} {l : Launch} {y : MethodName} {cc : ByteArray} {maxL d mc ms : Nat} {av : (Nat → Nat) → List Value} {P : Mem → Prop} {Q : Mem → UInt64 → Mem → Prop} (hy : plainName y.cls = true) (hlen : ∀ A, (lg_sl (av A)).length ≤ maxL)
    (body : ∀ (X : gC) (σ : Mem), gOk Lw l X cc y.cls d mc ms → P σ → (∀ (k n pc : Nat) (ls : List (Option Value)) (r : UInt64) (σ1 : Mem), decode cc pc = .ok (.dreturn, 1) → k ≤ mc → n ≤ ms → Q σ r σ1 → G Lw X k n pc ls [.double r] σ1) → G Lw X 0 0 0 (gent maxL (av (gA X))) [] σ) : gMD Lw l y (.code y cc maxL (some .double)) d mc ms av P Q := by
  intro E σ sz hP
  refine Met.ofW (cc := cc) (maxL := maxL) (ret := (some .double)) hy rfl ?_
  intro p e s m args below meth c s₁ B hml hv
  obtain ⟨rfl, hsz, hP0, hK, hD0, hNs⟩ := hv
  have hx := B.exec
  have hb := B.bytes
  have hr := B.returns
  have hts := atoms_spec (ws := Cond.code y cc maxL (some .double) :: TB) B.pre
  have hown : s.vm.findClass y.cls = some m.cls := findClass_of_methodNamed B.named
  have hlocks := B.notSynchronized
  subst hsz
  have hl0 : lv_has ((lg_sl (av E.2.1) ++ List.replicate (maxL - (lg_sl (av E.2.1)).length) Slot.unset).toArray) maxL (gl 0 (gent maxL (av E.2.1))) := by
    have h1 := lv_entry (av E.2.1) (n := maxL) (hlen E.2.1)
    exact ⟨h1.1, h1.2.1, fun q hq => h1.2.2 q (gent_mem _ _ _ q hq)⟩
  rw [lg_entry_eq]
  have hD1 : va_D (va_A (gW Lw E σ) s.heap.size) (gW Lw E σ) := hD0.self (sz := s.heap.size)
  refine body (p, l, e, gR d mc ms, s, m, (av E.2.1).toArray, below, meth, c, maxL, s.heap, va_A (gW Lw E σ) s.heap.size, E, MQ below (va_Qd (Q σ) (gB Lw E) (va_A (gW Lw E σ) s.heap.size)) (av E.2.1).toArray s mc ms (va_A (gW Lw E σ) s.heap.size)) σ
    ⟨hx, hb, hml, hown, fun w hw => hts w (List.mem_cons_of_mem _ hw), hK, fun σ' => gW_fix hD1 σ', fun q h => Or.inr h, rfl, hlocks, rfl, rfl, hNs⟩ hP ?_ s.heap [] _ (gent_len _ _ (hlen E.2.1)) hP0 va_S.rf hl0
  intro k n pc ls r σ1 hd hk hn1 hQ H locs arr hn hP1 hS1 hl1
  exact W.widen hk hn1 (W.dret (v := r) hx hb hr (fun t ht hW => ⟨⟨r, σ1, rfl, hQ, by show va_P _ _ _ t.heap; rw [ht]; exact hP1⟩, hS1.F ht⟩) hS1.2.2 hd hlocks)
theorem g_cVD {Lw : gL} {l : Launch} {X : gC} {cc : ByteArray} {own : String} {dd ca sa k n pc : Nat} {ls : List (Option Value)} {st : List Value} {σ : Mem} {b : Nat} {ci q0 : Nat} {fs : List Value} {C : String} {T : u_T} {N : Nat} {y : MethodName} {idx : Nat} {bytes : ByteArray} {maxL d mc ms : Nat} (na : Nat) {av : (Nat → Nat) → List Value} {P : Mem → Prop} {Q : Mem → UInt64 → Mem → Prop} {As rest : List Value} (hC : gOk Lw l X cc own dd ca sa) (hM : gMD Lw l y (.code y bytes maxL (some .double)) d mc ms av P Q) (hw1 : Cond.methodLink own idx y ∈ TB) (hw2 : Cond.instanceMethod y ∈ TB ∧ Cond.selects C y y ∈ TB ∧ Cond.initialized C ∈ TB ∧ Cond.code y bytes maxL (some .double) ∈ TB) (hy : y.cls = C ∧ y.cls ≠ "java/lang/invoke/MethodHandle" ∧ y.cls ≠ "java/lang/invoke/VarHandle" ∧ (parseMethodDescriptor y.desc).map (fun d => d.parameters.length) = some na) (hR9 : d + 1 ≤ dd ∧ maxL ≤ 21) (hf : k + mc ≤ ca ∧ n + ms ≤ sa) (ha : av (gA X) = .ref b :: As) (hna : As.length = na) (hc : vwCl[ci]? = some (C, T, N)) (hq0 : (gW Lw (gEv X) σ)[q0]? = some (b, .inr (ci, fs))) (hrest : (rest.map fun v => v.category).sum ≤ 8) (hst : st = As.reverse ++ .ref b :: rest) (hd : decode cc pc = .ok (.invokevirtual idx, 3)) (hP : P σ) (kk : ∀ (r : UInt64) (σ1 : Mem), Q σ r σ1 → G Lw X (k + mc) (n + ms) (pc + 3) ls (.double r :: rest) σ1) : G Lw X k n pc ls st σ := by
  obtain ⟨p, l', e, R, s, m, args, below, meth, c, nL, H0, A, E, Q⟩ := X
  obtain ⟨hx, hb, hml, hown, hTB, hK, hD, hA, hR, hlocks, rfl, hh0, hNs⟩ := hC
  subst hR
  have hRR : (gR d mc ms).frames + 1 ≤ (gR dd ca sa).frames ∧ 8 + (maxL + 11) + (gR d mc ms).locals ≤ (gR dd ca sa).locals := by
    refine ⟨hR9.1, ?_⟩
    show 8 + (maxL + 11) + 40 * d ≤ 40 * dd
    omega
  intro H locs arr hn hP0 hS hl
  have hAA : ∀ q, va_A (gW Lw E σ) H.size q → A q := fun q h => h.elim (fun ⟨i, e1, h1⟩ => (hD σ).2 i (q, e1) h1) (fun h1 => hA q (Nat.le_trans hS.1 h1))
  exact va_calld (va_runV (As := As) (rest := rest) (b := b) (Ts := TB) (own := own) (C := C) ⟨hx, hb, hml, hown, hTB⟩ (hM E σ H.size hP) (cwV (ret := (some .double)) (bytes := bytes) (maxL := maxL) na hTB (gi_cons hw1 (gi_cons hw2.1 (gi_cons hw2.2.1 (gi_cons hw2.2.2.1 (gi_cons hw2.2.2.2 gi_self))))) rfl rfl rfl hy hRR) ⟨gPre_blind, va_recv hK hP0 hc hq0, fun U hU hW => ⟨by rw [← ha]; rfl, by rw [hU], by rw [hU]; exact hP0, va_K.moved hW.alike hK, (hD σ).weaken (fun _ _ _ _ => trivial), gN.warm hW hNs⟩⟩ rfl hna hl.1 hst (lv_room hrest) hd hf) hS (fun q _ h => hAA q h) hAA (fun r u t H1 locs1 ht _ hq hB _ _ hS1 => kk r u hq H1 locs1 arr hn (by rw [← ht]; exact hB) hS1 hl)
theorem g_cSD {Lw : gL} {l : Launch} {X : gC} {cc : ByteArray} {own : String} {dd ca sa k n pc : Nat} {ls : List (Option Value)} {st : List Value} {σ : Mem} {y : MethodName} {idx : Nat} {bytes : ByteArray} {maxL d mc ms : Nat} (na : Nat) {av : (Nat → Nat) → List Value} {P : Mem → Prop} {Q : Mem → UInt64 → Mem → Prop} {As rest : List Value} (hC : gOk Lw l X cc own dd ca sa) (hM : gMD Lw l y (.code y bytes maxL (some .double)) d mc ms av P Q) (hw1 : Cond.methodLink own idx y ∈ TB) (hw2 : Cond.static y ∈ TB ∧ Cond.initialized y.cls ∈ TB ∧ Cond.code y bytes maxL (some .double) ∈ TB) (hy : y.cls ≠ "java/lang/invoke/MethodHandle" ∧ y.cls ≠ "java/lang/invoke/VarHandle" ∧ (parseMethodDescriptor y.desc).map (fun d => d.parameters.length) = some na) (hR9 : d + 1 ≤ dd ∧ maxL ≤ 21) (hf : k + mc ≤ ca ∧ n + ms ≤ sa) (ha : av (gA X) = As) (hna : As.length = na) (hrest : (rest.map fun v => v.category).sum ≤ 8) (hst : st = As.reverse ++ rest) (hd : decode cc pc = .ok (.invokestatic idx, 3)) (hP : P σ) (kk : ∀ (r : UInt64) (σ1 : Mem), Q σ r σ1 → G Lw X (k + mc) (n + ms) (pc + 3) ls (.double r :: rest) σ1) : G Lw X k n pc ls st σ := by
  obtain ⟨p, l', e, R, s, m, args, below, meth, c, nL, H0, A, E, Q⟩ := X
  obtain ⟨hx, hb, hml, hown, hTB, hK, hD, hA, hR, hlocks, rfl, hh0, hNs⟩ := hC
  subst hR
  have hRR : (gR d mc ms).frames + 1 ≤ (gR dd ca sa).frames ∧ 8 + (maxL + 11) + (gR d mc ms).locals ≤ (gR dd ca sa).locals := by
    refine ⟨hR9.1, ?_⟩
    show 8 + (maxL + 11) + 40 * d ≤ 40 * dd
    omega
  intro H locs arr hn hP0 hS hl
  have hAA : ∀ q, va_A (gW Lw E σ) H.size q → A q := fun q h => h.elim (fun ⟨i, e1, h1⟩ => (hD σ).2 i (q, e1) h1) (fun h1 => hA q (Nat.le_trans hS.1 h1))
  exact va_calld (va_runS (As := As) (rest := rest) (Ts := TB) (own := own) ⟨hx, hb, hml, hown, hTB⟩ (hM E σ H.size hP) (va_cwS (ret := (some .double)) (bytes := bytes) (maxL := maxL) na hTB (gi_cons hw1 (gi_cons hw2.1 (gi_cons hw2.2.1 (gi_cons hw2.2.2 gi_self)))) rfl rfl rfl hy hRR) ⟨gPre_blind, fun U hU hW => ⟨by rw [← ha]; rfl, by rw [hU], by rw [hU]; exact hP0, va_K.moved hW.alike hK, (hD σ).weaken (fun _ _ _ _ => trivial), gN.warm hW hNs⟩⟩ rfl hna hl.1 hst (lv_room hrest) hd hf) hS (fun q _ h => hAA q h) hAA (fun r u t H1 locs1 ht _ hq hB _ _ hS1 => kk r u hq H1 locs1 arr hn (by rw [← ht]; exact hB) hS1 hl)
def gMV (Lw : gL) (l : Launch) (y : MethodName) (cd : Cond) (d mc ms : Nat) (av : (Nat → Nat) → List Value) (P : Mem → Prop) (Q : Mem → Mem → Prop) : Prop :=
  ∀ (E : gE) (σ : Mem) (sz : Nat), P σ → Met l y (cd :: TB) (gR d mc ms) (gPre Lw av E σ sz) (va_Qv (Q σ) (gB Lw E) (va_A (gW Lw E σ) sz)) mc ms (va_A (gW Lw E σ) sz)
theorem gMV_of {Lw : gL} {l : Launch} {y : MethodName} {cc : ByteArray} {maxL d mc ms : Nat} {av : (Nat → Nat) → List Value} {P : Mem → Prop} {Q : Mem → Mem → Prop} (hy : plainName y.cls = true) (hlen : ∀ A, (lg_sl (av A)).length ≤ maxL)
    (body : ∀ (X : gC) (σ : Mem), gOk Lw l X cc y.cls d mc ms → P σ → (∀ (k n pc : Nat) (ls : List (Option Value)) (σ1 : Mem), decode cc pc = .ok (.return_, 1) → k ≤ mc → n ≤ ms → Q σ σ1 → G Lw X k n pc ls [] σ1) → G Lw X 0 0 0 (gent maxL (av (gA X))) [] σ) : gMV Lw l y (.code y cc maxL none) d mc ms av P Q := by
  intro E σ sz hP
  refine Met.ofW (cc := cc) (maxL := maxL) (ret := none) hy rfl ?_
  intro p e s m args below meth c s₁ B hml hv
  obtain ⟨rfl, hsz, hP0, hK, hD0, hNs⟩ := hv
  have hx := B.exec
  have hb := B.bytes
  have hr := B.returns
  have hts := atoms_spec (ws := Cond.code y cc maxL none :: TB) B.pre
  have hown : s.vm.findClass y.cls = some m.cls := findClass_of_methodNamed B.named
  have hlocks := B.notSynchronized
  subst hsz
  have hl0 : lv_has ((lg_sl (av E.2.1) ++ List.replicate (maxL - (lg_sl (av E.2.1)).length) Slot.unset).toArray) maxL (gl 0 (gent maxL (av E.2.1))) := by
    have h1 := lv_entry (av E.2.1) (n := maxL) (hlen E.2.1)
    exact ⟨h1.1, h1.2.1, fun q hq => h1.2.2 q (gent_mem _ _ _ q hq)⟩
  rw [lg_entry_eq]
  have hD1 : va_D (va_A (gW Lw E σ) s.heap.size) (gW Lw E σ) := hD0.self (sz := s.heap.size)
  refine body (p, l, e, gR d mc ms, s, m, (av E.2.1).toArray, below, meth, c, maxL, s.heap, va_A (gW Lw E σ) s.heap.size, E, MQ below (va_Qv (Q σ) (gB Lw E) (va_A (gW Lw E σ) s.heap.size)) (av E.2.1).toArray s mc ms (va_A (gW Lw E σ) s.heap.size)) σ
    ⟨hx, hb, hml, hown, fun w hw => hts w (List.mem_cons_of_mem _ hw), hK, fun σ' => gW_fix hD1 σ', fun q h => Or.inr h, rfl, hlocks, rfl, rfl, hNs⟩ hP ?_ s.heap [] _ (gent_len _ _ (hlen E.2.1)) hP0 va_S.rf hl0
  intro k n pc ls σ1 hd hk hn1 hQ H locs arr hn hP1 hS1 hl1
  exact W.widen hk hn1 (W.vret hx hb hr (fun t ht hW => ⟨⟨σ1, rfl, hQ, by show va_P _ _ _ t.heap; rw [ht]; exact hP1⟩, hS1.F ht⟩) hS1.2.2 hd hlocks)
theorem g_cVV {Lw : gL} {l : Launch} {X : gC} {cc : ByteArray} {own : String} {dd ca sa k n pc : Nat} {ls : List (Option Value)} {st : List Value} {σ : Mem} {b : Nat} {ci q0 : Nat} {fs : List Value} {C : String} {T : u_T} {N : Nat} {y : MethodName} {idx : Nat} {bytes : ByteArray} {maxL d mc ms : Nat} (na : Nat) {av : (Nat → Nat) → List Value} {P : Mem → Prop} {Q : Mem → Mem → Prop} {As rest : List Value} (hC : gOk Lw l X cc own dd ca sa) (hM : gMV Lw l y (.code y bytes maxL none) d mc ms av P Q) (hw1 : Cond.methodLink own idx y ∈ TB) (hw2 : Cond.instanceMethod y ∈ TB ∧ Cond.selects C y y ∈ TB ∧ Cond.initialized C ∈ TB ∧ Cond.code y bytes maxL none ∈ TB) (hy : y.cls = C ∧ y.cls ≠ "java/lang/invoke/MethodHandle" ∧ y.cls ≠ "java/lang/invoke/VarHandle" ∧ (parseMethodDescriptor y.desc).map (fun d => d.parameters.length) = some na) (hR9 : d + 1 ≤ dd ∧ maxL ≤ 21) (hf : k + mc ≤ ca ∧ n + ms ≤ sa) (ha : av (gA X) = .ref b :: As) (hna : As.length = na) (hc : vwCl[ci]? = some (C, T, N)) (hq0 : (gW Lw (gEv X) σ)[q0]? = some (b, .inr (ci, fs))) (hrest : (rest.map fun v => v.category).sum ≤ 8) (hst : st = As.reverse ++ .ref b :: rest) (hd : decode cc pc = .ok (.invokevirtual idx, 3)) (hP : P σ) (kk : ∀ (σ1 : Mem), Q σ σ1 → G Lw X (k + mc) (n + ms) (pc + 3) ls rest σ1) : G Lw X k n pc ls st σ := by
  obtain ⟨p, l', e, R, s, m, args, below, meth, c, nL, H0, A, E, Q⟩ := X
  obtain ⟨hx, hb, hml, hown, hTB, hK, hD, hA, hR, hlocks, rfl, hh0, hNs⟩ := hC
  subst hR
  have hRR : (gR d mc ms).frames + 1 ≤ (gR dd ca sa).frames ∧ 8 + (maxL + 11) + (gR d mc ms).locals ≤ (gR dd ca sa).locals := by
    refine ⟨hR9.1, ?_⟩
    show 8 + (maxL + 11) + 40 * d ≤ 40 * dd
    omega
  intro H locs arr hn hP0 hS hl
  have hAA : ∀ q, va_A (gW Lw E σ) H.size q → A q := fun q h => h.elim (fun ⟨i, e1, h1⟩ => (hD σ).2 i (q, e1) h1) (fun h1 => hA q (Nat.le_trans hS.1 h1))
  exact va_callv (va_runV (As := As) (rest := rest) (b := b) (Ts := TB) (own := own) (C := C) ⟨hx, hb, hml, hown, hTB⟩ (hM E σ H.size hP) (cwV (ret := none) (bytes := bytes) (maxL := maxL) na hTB (gi_cons hw1 (gi_cons hw2.1 (gi_cons hw2.2.1 (gi_cons hw2.2.2.1 (gi_cons hw2.2.2.2 gi_self))))) rfl rfl rfl hy hRR) ⟨gPre_blind, va_recv hK hP0 hc hq0, fun U hU hW => ⟨by rw [← ha]; rfl, by rw [hU], by rw [hU]; exact hP0, va_K.moved hW.alike hK, (hD σ).weaken (fun _ _ _ _ => trivial), gN.warm hW hNs⟩⟩ rfl hna hl.1 hst (lv_room hrest) hd hf) hS (fun q _ h => hAA q h) hAA (fun u t H1 locs1 ht _ hq hB _ _ hS1 => kk u hq H1 locs1 arr hn (by rw [← ht]; exact hB) hS1 hl)
theorem g_cSV {Lw : gL} {l : Launch} {X : gC} {cc : ByteArray} {own : String} {dd ca sa k n pc : Nat} {ls : List (Option Value)} {st : List Value} {σ : Mem} {y : MethodName} {idx : Nat} {bytes : ByteArray} {maxL d mc ms : Nat} (na : Nat) {av : (Nat → Nat) → List Value} {P : Mem → Prop} {Q : Mem → Mem → Prop} {As rest : List Value} (hC : gOk Lw l X cc own dd ca sa) (hM : gMV Lw l y (.code y bytes maxL none) d mc ms av P Q) (hw1 : Cond.methodLink own idx y ∈ TB) (hw2 : Cond.static y ∈ TB ∧ Cond.initialized y.cls ∈ TB ∧ Cond.code y bytes maxL none ∈ TB) (hy : y.cls ≠ "java/lang/invoke/MethodHandle" ∧ y.cls ≠ "java/lang/invoke/VarHandle" ∧ (parseMethodDescriptor y.desc).map (fun d => d.parameters.length) = some na) (hR9 : d + 1 ≤ dd ∧ maxL ≤ 21) (hf : k + mc ≤ ca ∧ n + ms ≤ sa) (ha : av (gA X) = As) (hna : As.length = na) (hrest : (rest.map fun v => v.category).sum ≤ 8) (hst : st = As.reverse ++ rest) (hd : decode cc pc = .ok (.invokestatic idx, 3)) (hP : P σ) (kk : ∀ (σ1 : Mem), Q σ σ1 → G Lw X (k + mc) (n + ms) (pc + 3) ls rest σ1) : G Lw X k n pc ls st σ := by
  obtain ⟨p, l', e, R, s, m, args, below, meth, c, nL, H0, A, E, Q⟩ := X
  obtain ⟨hx, hb, hml, hown, hTB, hK, hD, hA, hR, hlocks, rfl, hh0, hNs⟩ := hC
  subst hR
  have hRR : (gR d mc ms).frames + 1 ≤ (gR dd ca sa).frames ∧ 8 + (maxL + 11) + (gR d mc ms).locals ≤ (gR dd ca sa).locals := by
    refine ⟨hR9.1, ?_⟩
    show 8 + (maxL + 11) + 40 * d ≤ 40 * dd
    omega
  intro H locs arr hn hP0 hS hl
  have hAA : ∀ q, va_A (gW Lw E σ) H.size q → A q := fun q h => h.elim (fun ⟨i, e1, h1⟩ => (hD σ).2 i (q, e1) h1) (fun h1 => hA q (Nat.le_trans hS.1 h1))
  exact va_callv (va_runS (As := As) (rest := rest) (Ts := TB) (own := own) ⟨hx, hb, hml, hown, hTB⟩ (hM E σ H.size hP) (va_cwS (ret := none) (bytes := bytes) (maxL := maxL) na hTB (gi_cons hw1 (gi_cons hw2.1 (gi_cons hw2.2.1 (gi_cons hw2.2.2 gi_self)))) rfl rfl rfl hy hRR) ⟨gPre_blind, fun U hU hW => ⟨by rw [← ha]; rfl, by rw [hU], by rw [hU]; exact hP0, va_K.moved hW.alike hK, (hD σ).weaken (fun _ _ _ _ => trivial), gN.warm hW hNs⟩⟩ rfl hna hl.1 hst (lv_room hrest) hd hf) hS (fun q _ h => hAA q h) hAA (fun u t H1 locs1 ht _ hq hB _ _ hS1 => kk u hq H1 locs1 arr hn (by rw [← ht]; exact hB) hS1 hl)
theorem wd_mabs : Cond.static Lib.Math.abs.name ∈ TB ∧ Cond.initialized "java/lang/Math" ∈ TB ∧ Cond.code Lib.Math.abs.name Lib.Math.abs.code 1 (some .int) ∈ TB := ⟨tw_2_173, tw_1_14, tw_2_174⟩
theorem g_mabs {Lw : gL} {l : Launch} {X : gC} {cc : ByteArray} {own : String} {dd ca sa k n pc : Nat} {ls : List (Option Value)} {st : List Value} {σ : Mem} {x : Int32} {idx : Nat} (hC : gOk Lw l X cc own dd ca sa) (hdd : 1 ≤ dd) (hlk : Cond.methodLink own idx Lib.Math.abs.name ∈ TB) (hrest : (st.map fun v => v.category).sum ≤ 8) (hf : k ≤ ca ∧ n ≤ sa) (hd : decode cc pc = .ok (.invokestatic idx, 3)) (kk : G Lw X k n (pc + 3) ls (.int (if 0 ≤ x then x else 0 - x) :: st) σ) : G Lw X k n pc ls (.int x :: st) σ := by
  obtain ⟨p, l', e, R, s, m, args, below, meth, c, nL, H0, A, E, Q⟩ := X
  obtain ⟨hx, hb, hml, hown, hTB, hK, hD, hA, hR, hlocks, rfl, hh0, hNs⟩ := hC
  subst hR
  exact fun H locs arr hn hP0 hS hl => va_mabs hx hb (hml.trans hl.1.symm) hown (hTB _ hlk) (hTB _ wd_mabs.1) (hTB _ wd_mabs.2.1) (hTB _ wd_mabs.2.2) hdd (by show _ ≤ 40 * dd; omega) hf.1 hf.2 hd (kk H locs arr hn hP0 hS hl)
theorem wd_mmax : Cond.static Lib.Math.max.name ∈ TB ∧ Cond.initialized "java/lang/Math" ∈ TB ∧ Cond.code Lib.Math.max.name Lib.Math.max.code 2 (some .int) ∈ TB := ⟨tw_2_176, tw_1_14, tw_2_177⟩
theorem g_mmax {Lw : gL} {l : Launch} {X : gC} {cc : ByteArray} {own : String} {dd ca sa k n pc : Nat} {ls : List (Option Value)} {st : List Value} {σ : Mem} {x y : Int32} {idx : Nat} (hC : gOk Lw l X cc own dd ca sa) (hdd : 1 ≤ dd) (hlk : Cond.methodLink own idx Lib.Math.max.name ∈ TB) (hrest : (st.map fun v => v.category).sum ≤ 8) (hf : k ≤ ca ∧ n ≤ sa) (hd : decode cc pc = .ok (.invokestatic idx, 3)) (kk : G Lw X k n (pc + 3) ls (.int (if x < y then y else x) :: st) σ) : G Lw X k n pc ls (.int y :: .int x :: st) σ := by
  obtain ⟨p, l', e, R, s, m, args, below, meth, c, nL, H0, A, E, Q⟩ := X
  obtain ⟨hx, hb, hml, hown, hTB, hK, hD, hA, hR, hlocks, rfl, hh0, hNs⟩ := hC
  subst hR
  exact fun H locs arr hn hP0 hS hl => va_mmax hx hb (hml.trans hl.1.symm) hown (hTB _ hlk) (hTB _ wd_mmax.1) (hTB _ wd_mmax.2.1) (hTB _ wd_mmax.2.2) hdd (by show _ ≤ 40 * dd; omega) hf.1 hf.2 hd (kk H locs arr hn hP0 hS hl)
theorem wd_mmin : Cond.static Lib.Math.min.name ∈ TB ∧ Cond.initialized "java/lang/Math" ∈ TB ∧ Cond.code Lib.Math.min.name Lib.Math.min.code 2 (some .int) ∈ TB := ⟨tw_2_192, tw_1_14, tw_2_193⟩
theorem g_mmin {Lw : gL} {l : Launch} {X : gC} {cc : ByteArray} {own : String} {dd ca sa k n pc : Nat} {ls : List (Option Value)} {st : List Value} {σ : Mem} {x y : Int32} {idx : Nat} (hC : gOk Lw l X cc own dd ca sa) (hdd : 1 ≤ dd) (hlk : Cond.methodLink own idx Lib.Math.min.name ∈ TB) (hrest : (st.map fun v => v.category).sum ≤ 8) (hf : k ≤ ca ∧ n ≤ sa) (hd : decode cc pc = .ok (.invokestatic idx, 3)) (kk : G Lw X k n (pc + 3) ls (.int (if y < x then y else x) :: st) σ) : G Lw X k n pc ls (.int y :: .int x :: st) σ := by
  obtain ⟨p, l', e, R, s, m, args, below, meth, c, nL, H0, A, E, Q⟩ := X
  obtain ⟨hx, hb, hml, hown, hTB, hK, hD, hA, hR, hlocks, rfl, hh0, hNs⟩ := hC
  subst hR
  exact fun H locs arr hn hP0 hS hl => va_mmin hx hb (hml.trans hl.1.symm) hown (hTB _ hlk) (hTB _ wd_mmin.1) (hTB _ wd_mmin.2.1) (hTB _ wd_mmin.2.2) hdd (by show _ ≤ 40 * dd; omega) hf.1 hf.2 hd (kk H locs arr hn hP0 hS hl)
