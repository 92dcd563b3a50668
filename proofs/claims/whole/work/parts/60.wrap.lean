/-! the class's world and the law's answer row -/
def oE (E : gE) (ρ : Nat → Int32) (i : Nat) : va_E := if i = 195 then .inl (E.2.2 5, 1, .inr (.inl (fun j => (ρ j).toInt64))) else xE E ρ i
def wXo : gL := (196, oE)
theorem emb_o : gEmb wXo wX 0 := ⟨by decide, fun E ρ j hj => by
  have h : j < 195 := hj
  show oE E ρ j = xE E ρ j
  unfold oE
  rw [if_neg (by omega)]⟩
theorem oe_out (E : gE) (ρ : Nat → Int32) : wXo.2 E ρ 195 = .inl (E.2.2 5, 1, .inr (.inl (fun j => (ρ j).toInt64))) := rfl
theorem g_last {Lw : gL} {l : Launch} {X : gC} {cc : ByteArray} {own : String} {dd ca sa k n pc : Nat} {ls : List (Option Value)} {st : List Value} {σ : Mem} {i : Nat} {y : Int32} (hC : gOk Lw l X cc own dd ca sa) (hi : i < Lw.1) (he : ∀ ρ, Lw.2 (gEv X) ρ i = .inl ((gEv X).2.2 5, 1, .inr (.inl (fun j => (ρ j).toInt64)))) (hd : decode cc pc = .ok (.lastore, 1)) (kk : G Lw X k n (pc + 1) ls st (upd2 σ i 0 y)) : G Lw X k n pc ls (.long y.toInt64 :: .int 0 :: .ref (gA X i) :: st) σ := by
  obtain ⟨p, l', e, R, s, m, args, below, meth, c, nL, H0, A, E, Q⟩ := X
  obtain ⟨hx, hb, hml, hown, hTB, hK, hD, hA, hR, hlocks, rfl, hh0, hNs⟩ := hC
  have he : ∀ ρ, Lw.2 E ρ i = .inl (E.2.2 5, 1, .inr (.inl (fun j => (ρ j).toInt64))) := he
  refine fun H locs arr hn hP hS hl => va_last (D := E.1) hx hb hK hP (hD σ) hS i 5 (f := fun j => (σ i j).toInt64) (n := 1) (by rw [gW_at _ _ _ hi, he]; rfl) rfl (by unfold vp_in; decide) hd (fun H1 locs1 hP1 _ hS1 => kk H1 locs1 arr hn ?_ hS1 hl)
  have h1 : Lw.2 E (upd (σ i) 0 y) i = .inl (E.2.2 5, 1, .inr (.inl (vp_updL (fun j => (σ i j).toInt64) (0 : Int32).toNatClampNeg y.toInt64))) := by
    rw [he]
    congr 1
    refine congrArg (fun f => (E.2.2 5, 1, (Sum.inr (Sum.inl f) : _))) (funext fun j => ?_)
    unfold upd vp_updL
    by_cases hj : j = 0
    · subst hj; rfl
    · rw [if_neg hj, if_neg (show ¬ j = (0 : Int32).toNatClampNeg from hj)]
  show va_P E.1 vwCl (gW Lw E (upd2 σ i 0 y)) H1
  rw [← gW_set hi h1]
  exact hP1
theorem g_lald {Lw : gL} {l : Launch} {X : gC} {cc : ByteArray} {own : String} {dd ca sa k n pc : Nat} {ls : List (Option Value)} {st : List Value} {σ : Mem} {i : Nat} (hC : gOk Lw l X cc own dd ca sa) (hi : i < Lw.1) (he : ∀ ρ, Lw.2 (gEv X) ρ i = .inl ((gEv X).2.2 5, 1, .inr (.inl (fun j => (ρ j).toInt64)))) (hd : decode cc pc = .ok (.laload, 1)) (kk : G Lw X k n (pc + 1) ls (.long (σ i 0).toInt64 :: st) σ) : G Lw X k n pc ls (.int 0 :: .ref (gA X i) :: st) σ := by
  obtain ⟨p, l', e, R, s, m, args, below, meth, c, nL, H0, A, E, Q⟩ := X
  obtain ⟨hx, hb, hml, hown, hTB, hK, hD, hA, hR, hlocks, rfl, hh0, hNs⟩ := hC
  have he : ∀ ρ, Lw.2 E ρ i = .inl (E.2.2 5, 1, .inr (.inl (fun j => (ρ j).toInt64))) := he
  exact fun H locs arr hn hP hS hl => va_lald (D := E.1) hx hb hK hP i 5 (f := fun j => (σ i j).toInt64) (n := 1) (by rw [gW_at _ _ _ hi, he]; rfl) rfl (by unfold vp_in; decide) hd (kk H locs arr hn hP hS hl)
/-! methods with handlers of their own that throw nothing -/
def gNc (U : State) : Prop := va_Nc "java/lang/IllegalArgumentException" "java/lang/IndexOutOfBoundsException" U ∧ va_Nc "java/lang/IllegalStateException" "java/lang/IndexOutOfBoundsException" U ∧ va_Nc "java/lang/IllegalStateException" "java/lang/IllegalArgumentException" U
theorem gNc.moved {u U : State} (hvm : u.vm.Alike U.vm) (h : gNc u) : gNc U := ⟨va_Nc.moved hvm h.1, va_Nc.moved hvm h.2.1, va_Nc.moved hvm h.2.2⟩
def gTab (X : gC) (hh : List (Nat × Nat × Nat × Nat)) : Prop := match X with
  | (_, _, _, _, s, _, _, _, _, c, _, _, _, _, _) => c.exceptionTable.toList = tableOf hh ∧ gNc s ∧ gY s
theorem g_catch {Lw : gL} {l : Launch} {X : gC} {cc : ByteArray} {own Ex name : String} {dd ca sa k n pc : Nat} {ls : List (Option Value)} {st : List Value} {σ : Mem} {hh : List (Nat × Nat × Nat × Nat)} (pre : List (Nat × Nat × Nat × Nat)) (x : Nat × Nat × Nat × Nat) (suf : List (Nat × Nat × Nat × Nat)) (hC : gOk Lw l X cc own dd ca sa) (hT : gTab X hh) (hsp : hh = pre ++ x :: suf) (hpass : ∀ z ∈ pre, z.2.2.2 ≠ 0 ∧ ∃ nm, Cond.classLink own z.2.2.2 nm ∈ TB ∧ ∀ s, gNc s → va_Nc Ex nm s) (hx : covers ⟨x.1, x.2.1, x.2.2.1, x.2.2.2⟩ pc = true) (h0 : x.2.2.2 ≠ 0) (hlink : Cond.classLink own x.2.2.2 name ∈ TB) (hcast : Cond.castable Ex name ∈ NWc) (kk : ∀ q : Nat, G Lw X k n x.2.2.1 ls [.ref q] σ) : GX Lw X Ex k n pc ls st σ := by
  obtain ⟨p, l', e, R, s, m, args, below, meth, c, nL, H0, A, E, Q⟩ := X
  obtain ⟨hx0, hb, hml, hown, hTB, hK, hD, hA, hR, hlocks, rfl, hh0, hNs⟩ := hC
  have hT : c.exceptionTable.toList = tableOf hh ∧ gNc s ∧ gY s := hT
  intro H locs arr ce q hn hP hS hl hce hcv hcl
  refine vx_catch (name := name) hown (tableOf pre) ⟨x.1, x.2.1, x.2.2.1, x.2.2.2⟩ (tableOf suf) (by rw [hT.1, hsp]; simp [tableOf]) (fun z hz => ?_) hx h0 (hTB _ hlink) (va_Nw.use rfl (hT.2.2 _ hcast)) hce hcv hcl (kk q H locs arr hn hP hS hl)
  obtain ⟨w, hw, rfl⟩ := List.mem_map.mp hz
  obtain ⟨h1, nm, h2, h3⟩ := hpass w hw
  exact Or.inr ⟨h1, nm, hTB _ h2, h3 s hT.2.1⟩
def gPreW (Lw : gL) (av : (Nat → Nat) → List Value) (E : gE) (σ : Mem) (sz : Nat) : Array Value → State → Prop :=
  va_Pc (av E.2.1) (fun U => (U.heap.size = sz ∧ va_P E.1 vwCl (gW Lw E σ) U.heap ∧ va_K E.1 vwCl (gT E.2.2) U ∧ va_D (fun _ => True) (gW Lw E σ) ∧ gN U) ∧ gZ (va_A (gW Lw E σ) sz) U U.heap ∧ gY U ∧ gNc U)
theorem gPreW_blind {Lw : gL} {av : (Nat → Nat) → List Value} {E : gE} {σ : Mem} {sz : Nat} : FrameBlind (gPreW Lw av E σ sz) := by
  intro a U g mk q
  obtain ⟨q0, ⟨q1, qP, qK, qD, qN⟩, qZ, qY, qC⟩ := q
  exact ⟨q0, ⟨q1, qP, va_K.moved (u := U) (U := U.calling g mk a) (Vm.Alike.refl U.vm) qK, qD, gN.same (u := U) (U := U.calling g mk a) rfl qN⟩, gZ.moved (u := U) (U := U.calling g mk a) (Vm.Alike.refl U.vm) qZ, gY.same (u := U) (U := U.calling g mk a) rfl qY, gNc.moved (u := U) (U := U.calling g mk a) (Vm.Alike.refl U.vm) qC⟩
def gWI (Lw : gL) (l : Launch) (y : MethodName) (cd : Cond) (d mc ms : Nat) (av : (Nat → Nat) → List Value) (P : Mem → Prop) (Q : Mem → Int32 → Mem → Prop) : Prop :=
  ∀ (E : gE) (σ : Mem) (sz : Nat), P σ → vx_Met l y (cd :: TB) (gR d mc ms) (gPreW Lw av E σ sz) (va_Qi (Q σ) (gB Lw E) (va_A (gW Lw E σ) sz)) (vx_X (fun _ => True) (fun _ (_ : Mem) _ => False) (va_A (gW Lw E σ) sz)) mc ms (va_A (gW Lw E σ) sz)
theorem gWI_of {Lw : gL} {l : Launch} {y : MethodName} {cc : ByteArray} {maxL d mc ms : Nat} {hh : List (Nat × Nat × Nat × Nat)} {av : (Nat → Nat) → List Value} {P : Mem → Prop} {Q : Mem → Int32 → Mem → Prop} (hy : plainName y.cls = true) (hlen : ∀ A, (lg_sl (av A)).length ≤ maxL)
    (body : ∀ (X : gC) (σ : Mem), gOk Lw l X cc y.cls d mc ms → gZY X → gTab X hh → P σ → (∀ (k n pc : Nat) (ls : List (Option Value)) (r : Int32) (σ1 : Mem), decode cc pc = .ok (.ireturn, 1) → k ≤ mc → n ≤ ms → Q σ r σ1 → G Lw X k n pc ls [.int r] σ1) → G Lw X 0 0 0 (gent maxL (av (gA X))) [] σ) : gWI Lw l y (.codeWith y cc maxL (some .int) hh) d mc ms av P Q := by
  intro E σ sz hP
  refine vx_ofWH (cc := cc) (maxL := maxL) (ret := (some .int)) (hh := hh) hy rfl ?_
  intro p e s m args below meth c s₁ B hml hv
  obtain ⟨rfl, ⟨hsz, hP0, hK, hD0, hNs⟩, hZ, hY, hNC⟩ := hv
  have hx := B.exec
  have hb := B.bytes
  have hr := B.returns
  have hts := atoms_spec (ws := Cond.codeWith y cc maxL (some .int) hh :: TB) B.pre
  have hown : s.vm.findClass y.cls = some m.cls := findClass_of_methodNamed B.named
  have hlocks := B.notSynchronized
  have htab : c.exceptionTable.toList = tableOf hh := vx_table (x := y) B (hts _ List.mem_cons_self)
  subst hsz
  have hl0 : lv_has ((lg_sl (av E.2.1) ++ List.replicate (maxL - (lg_sl (av E.2.1)).length) Slot.unset).toArray) maxL (gl 0 (gent maxL (av E.2.1))) := by
    have h1 := lv_entry (av E.2.1) (n := maxL) (hlen E.2.1)
    exact ⟨h1.1, h1.2.1, fun q hq => h1.2.2 q (gent_mem _ _ _ q hq)⟩
  rw [lg_entry_eq]
  have hD1 : va_D (va_A (gW Lw E σ) s.heap.size) (gW Lw E σ) := hD0.self (sz := s.heap.size)
  refine body (p, l, e, gR d mc ms, s, m, (av E.2.1).toArray, below, meth, c, maxL, s.heap, va_A (gW Lw E σ) s.heap.size, E, vx_MQ below (va_Qi (Q σ) (gB Lw E) (va_A (gW Lw E σ) s.heap.size)) (vx_X (fun _ => True) (fun _ (_ : Mem) _ => False) (va_A (gW Lw E σ) s.heap.size)) (av E.2.1).toArray s mc ms (va_A (gW Lw E σ) s.heap.size)) σ
    ⟨hx, hb, hml, hown, fun w hw => hts w (List.mem_cons_of_mem _ hw), hK, fun σ' => gW_fix hD1 σ', fun q h => Or.inr h, rfl, hlocks, rfl, rfl, hNs⟩ ⟨hZ, hY⟩ ⟨htab, hNC, hY⟩ hP ?_ s.heap [] _ (gent_len _ _ (hlen E.2.1)) hP0 va_S.rf hl0
  intro k n pc ls r σ1 hd hk hn1 hQ H locs arr hn hP1 hS1 hl1
  exact W.widen hk hn1 (vx_ret (W.iret hx hb hr (fun t ht hW => ⟨⟨r, σ1, rfl, hQ, by show va_P _ _ _ t.heap; rw [ht]; exact hP1⟩, hS1.F ht⟩) hS1.2.2 hd hlocks))
/-- what a wrapper answers: the number of the exception, or 0 with the class's answer laid down -/
def wP (m : Int32 × Mem) (rr : Int32) (τ1 : Mem) : Prop := m.2 0 0 = rr ∧ RS τ1 m.2 ∧ (rr = 0 → τ1 195 0 = m.1)
theorem wP_ok {m : Int32 × Mem} {rr : Int32} {τ σ1 : Mem} (h : xOk m rr σ1) : wP m 0 (upd2 (ptM 0 195 τ σ1) 195 0 rr) := by
  obtain ⟨h1, h2, h3⟩ := h
  refine ⟨h3, RS_f9 h2 (fun id j hid => ?_), fun _ => ?_⟩
  · rw [upd2_ni (show id ≠ 195 by omega)]
    exact congrFun (ptM_in (o := 0) (n := 195) (show id < 195 by omega)) j
  · rw [← h1]; simp [upd2]
theorem wP_no {m : Int32 × Mem} {v : Int32} {t τ σ1 : Mem} (hv : ¬ v = 0) (hm : m = mFail t v) (h : RS σ1 t) : wP m v (ptM 0 195 τ σ1) := by
  subst hm
  refine ⟨?_, RS_f9 (RS_Qf (RS_Qf h (Qf_th t 0)) (Qf_th _ v)) (fun id j hid => congrFun (ptM_in (o := 0) (n := 195) (show id < 195 by omega)) j), fun h0 => absurd h0 hv⟩
  simp [mFail, upd2]

