/-! the script; calls from worlds told cell by cell -/
def gScr (X : gC) (b L : Nat) (xs : Nat → Int32) : Prop := match X with
  | (_, _, _, _, s, _, _, _, _, _, _, H0, A, _, _) => va_X b L xs s H0 ∧ b < H0.size ∧ ¬ A b
theorem g_sld {Lw : gL} {l : Launch} {X : gC} {cc : ByteArray} {own : String} {dd ca sa k n pc : Nat} {ls : List (Option Value)} {st : List Value} {σ : Mem} {b L j : Nat} {xs : Nat → Int32} {x : Int32} (hC : gOk Lw l X cc own dd ca sa) (hS0 : gScr X b L xs) (hx0 : x = nI j) (hj : j < L) (hL : L < 2 ^ 31) (hd : decode cc pc = .ok (.iaload, 1)) (kk : G Lw X k n (pc + 1) ls (.int (xs j) :: st) σ) : G Lw X k n pc ls (.int x :: .ref b :: st) σ := by
  obtain ⟨p, l', e, R, s, m, args, below, meth, c, nL, H0, A, E, Q⟩ := X
  obtain ⟨hx, hb, hml, hown, hTB, hK, hD, hA, hR, hlocks, rfl, hh0, hNs⟩ := hC
  have hS0 : va_X b L xs s H0 ∧ b < H0.size ∧ ¬ A b := hS0
  subst hx0
  have hcl : (nI j).toNatClampNeg = j := nI_clamp (by omega)
  exact fun H locs arr hn hP hS hl => va_sld hx hb hS0.1 hS0.2.1 hS0.2.2 hS (vp_in_nI hj hL) hd (by rw [hcl]; exact kk H locs arr hn hP hS hl)
theorem g_slen {Lw : gL} {l : Launch} {X : gC} {cc : ByteArray} {own : String} {dd ca sa k n pc : Nat} {ls : List (Option Value)} {st : List Value} {σ : Mem} {b L : Nat} {xs : Nat → Int32} (hC : gOk Lw l X cc own dd ca sa) (hS0 : gScr X b L xs) (hd : decode cc pc = .ok (.arraylength, 1)) (kk : G Lw X k n (pc + 1) ls (.int (nI L) :: st) σ) : G Lw X k n pc ls (.ref b :: st) σ := by
  obtain ⟨p, l', e, R, s, m, args, below, meth, c, nL, H0, A, E, Q⟩ := X
  obtain ⟨hx, hb, hml, hown, hTB, hK, hD, hA, hR, hlocks, rfl, hh0, hNs⟩ := hC
  have hS0 : va_X b L xs s H0 ∧ b < H0.size ∧ ¬ A b := hS0
  exact fun H locs arr hn hP hS hl => va_slen hx hb hS0.1 hS0.2.1 hS0.2.2 hS hd (kk H locs arr hn hP hS hl)
theorem g_dcmp {Lw : gL} {l : Launch} {X : gC} {cc : ByteArray} {own : String} {dd ca sa k n pc : Nat} {ls : List (Option Value)} {st : List Value} {σ : Mem} {x y : UInt64} {op : CmpOp} (hC : gOk Lw l X cc own dd ca sa) (hd : decode cc pc = .ok (.dcmp op, 1)) (kk : G Lw X k n (pc + 1) ls (.int (Op.cmpValue (FP.dcmp x y) op) :: st) σ) : G Lw X k n pc ls (.double y :: .double x :: st) σ := by
  obtain ⟨p, l', e, R, s, m, args, below, meth, c, nL, H0, A, E, Q⟩ := X
  obtain ⟨hx, hb, hml, hown, hTB, hK, hD, hA, hR, hlocks, rfl, hh0, hNs⟩ := hC
  exact fun H locs arr hn hP hS hl => lv_dcmp hx hb hd (kk H locs arr hn hP hS hl)
def zO (X : gC) : Prop := match X with
  | (_, _, _, _, s, _, _, _, _, _, _, _, _, _, _) => gO s
theorem sx_ZY {X : gC} {A : Nat → Nat} (h : gZY X) : gZY (sx X A) := by obtain ⟨p, l', e', R, s, mm, args, below, meth, c, nL, H0, Af, E, Q⟩ := X; exact h
theorem sx_Scr {X : gC} {A : Nat → Nat} {b L : Nat} {xs : Nat → Int32} (h : gScr X b L xs) : gScr (sx X A) b L xs := by obtain ⟨p, l', e', R, s, mm, args, below, meth, c, nL, H0, Af, E, Q⟩ := X; exact h
/-! behind a call: the caller's cells as they were, and new ones -/
theorem u_backB {A0 : Nat → Prop} {D : va_G} {cl : List vw_C} {ws wc nw : va_W} {H H1 : Heap} (hP : va_P D cl ws H) (hD : va_D A0 ws) (hsub : ∀ (k : Nat) (q : Nat × va_E), wc[k]? = some q → ∃ i : Nat, ws[i]? = some q) (hk : ∀ q : Nat, q < H.size → ¬ va_A wc H.size q → H1[q]? = H[q]?) (hF : ∀ q, va_A wc H.size q → A0 q) (hP1 : va_P D cl (wc ++ nw) H1) (hD1 : va_D (va_A wc H.size) (wc ++ nw)) : va_P D cl (ws ++ nw) H1 ∧ va_D A0 (ws ++ nw) := by
  have low : ∀ (k : Nat) (q : Nat × va_E), ws[k]? = some q → q.1 < H.size := fun k q h => (hP k q h).lt
  have nwi : ∀ (k : Nat) (q : Nat × va_E), nw[k]? = some q → (wc ++ nw)[wc.length + k]? = some q := fun k q h => by
    rw [List.getElem?_append_right (by omega), Nat.add_sub_cancel_left]; exact h
  have hi : ∀ (k : Nat) (q : Nat × va_E), nw[k]? = some q → H.size ≤ q.1 := fun k q h => by
    rcases hD1.2 _ q (nwi k q h) with ⟨k2, e, h2⟩ | h2
    · have h3 : (wc ++ nw)[k2]? = some (q.1, e) := by
        rw [List.getElem?_append_left (List.getElem?_eq_some_iff.mp h2).1]; exact h2
      have h4 := hD1.1 _ _ _ _ h3 (nwi k q h) rfl
      have h5 := (List.getElem?_eq_some_iff.mp h2).1
      omega
    · exact h2
  refine ⟨va_P.app (fun k q h => ?_) (fun k q h => hP1 _ q (nwi k q h)), va_D.app hD ⟨fun i j p q hp hq hpq => ?_, fun k q h => hF q.1 (Or.inr (hi k q h))⟩ (fun i j p q hp hq hpq => ?_)⟩
  · by_cases hw : ∃ (k2 : Nat) (e : va_E), wc[k2]? = some (q.1, e)
    · obtain ⟨k2, e, h2⟩ := hw
      obtain ⟨i, h3⟩ := hsub k2 _ h2
      have h4 := hD.1 i k _ _ h3 h rfl
      subst h4
      have h5 : q = (q.1, e) := Option.some.inj (h.symm.trans h3)
      rw [h5]
      exact hP1 k2 _ (by rw [List.getElem?_append_left (List.getElem?_eq_some_iff.mp h2).1]; exact h2)
    · exact (hP k q h).kept (hk q.1 (low k q h) (fun h2 => h2.elim hw (fun h3 => by have := low k q h; omega)))
  · have := hD1.1 _ _ p q (nwi i p hp) (nwi j q hq) hpq
    omega
  · have h1 := low i p hp
    have h2 := hi j q hq
    omega
/-! methods of the law: their contracts -/
def uL (X : gC) (b L : Nat) (xs : Nat → Int32) : Prop := gScr X b L xs ∧ gZY X ∧ uI X
theorem sx_uI {X : gC} {A : Nat → Nat} (h : uI X) : uI (sx X A) := by obtain ⟨p, l', e', R, s, mm, args, below, meth, c, nL, H0, Af, E, Q⟩ := X; exact h
theorem sx_uL {X : gC} {A : Nat → Nat} {b L : Nat} {xs : Nat → Int32} (h : uL X b L xs) : uL (sx X A) b L xs := by obtain ⟨p, l', e', R, s, mm, args, below, meth, c, nL, H0, Af, E, Q⟩ := X; exact h
def vPre (D : va_G) (cy : Nat → ClassId) (b L : Nat) (xs : Nat → Int32) (wc : va_W) (sz : Nat) (args : List Value) : Array Value → State → Prop :=
  va_Pc args (fun U => (U.heap.size = sz ∧ va_P D vwCl wc U.heap ∧ va_K D vwCl (gT cy) U ∧ va_D (fun _ => True) wc ∧ gN U) ∧ gI U ∧ (gZ (va_A wc sz) U U.heap ∧ gY U) ∧ va_X b L xs U U.heap ∧ b < sz ∧ ¬ va_A wc sz b)
theorem vPre_blind {D : va_G} {cy : Nat → ClassId} {b L : Nat} {xs : Nat → Int32} {wc : va_W} {sz : Nat} {args : List Value} : FrameBlind (vPre D cy b L xs wc sz args) := by
  intro a U g mk q
  obtain ⟨q0, ⟨q1, qP, qK, qD, qN⟩, qI, ⟨qZ, qY⟩, qX, qb, qA⟩ := q
  exact ⟨q0, ⟨q1, qP, va_K.moved (u := U) (U := U.calling g mk a) (Vm.Alike.refl U.vm) qK, qD, gN.same (u := U) (U := U.calling g mk a) rfl qN⟩, gI.moved (u := U) (U := U.calling g mk a) (Vm.Alike.refl U.vm) qI, ⟨gZ.moved (u := U) (U := U.calling g mk a) (Vm.Alike.refl U.vm) qZ, gY.same (u := U) (U := U.calling g mk a) rfl qY⟩, va_X.moved (u := U) (U := U.calling g mk a) (Vm.Alike.refl U.vm) qX, qb, qA⟩
/-- what a caller in a world of its own hands over -/
theorem vPre_of {p : Program} {l : Launch} {e' : Env} {R : Room} {s : State} {mm : MethodId} {args : Array Value} {below : List Frame} {meth : Method} {c : Code} {nL : Nat} {H0 H : Heap} {Af : Nat → Prop} {E : gE} {Q : State → Prop} {b L : Nat} {xs : Nat → Int32} {ws wc : va_W} {As : List Value} {locs : List Loc} {cc : ByteArray} {Lw : gL} {own : String} {dd ca sa : Nat}
    (hC : gOk Lw l (p, l, e', R, s, mm, args, below, meth, c, nL, H0, Af, E, Q) cc own dd ca sa) (hL : uL (p, l, e', R, s, mm, args, below, meth, c, nL, H0, Af, E, Q) b L xs) (hP : va_P E.1 vwCl ws H) (hD : va_D Af ws) (hS : va_S Af H0 H locs) (is : List Nat) (hn : va_nd is = true) (hs : is.map (fun i => ws[i]?) = wc.map some) :
    PreS s H (vPre E.1 E.2.2 b L xs wc H.size As) As ∧ (∀ q, va_A wc H.size q → Af q) := by
  obtain ⟨hx, hb, hml, hown, hTB, hK, -, hA, hR, hlocks, hl', hh0, hNs⟩ := hC
  obtain ⟨⟨hX, hbl, hbA⟩, hZ, hI⟩ := hL
  have hX : va_X b L xs s H0 := hX
  have hbl : b < H0.size := hbl
  have hbA : ¬ Af b := hbA
  have hZ : gZ Af s s.heap ∧ gY s := hZ
  have hI : gI s := hI
  have hF := va_free (wc := wc) hD hS hA is hs
  have hPc : va_P E.1 vwCl wc H := fun k q hk => by
    have h1 : (is.map (fun i => ws[i]?))[k]? = some (some q) := by rw [hs, List.getElem?_map, hk]; rfl
    rw [List.getElem?_map] at h1
    cases hi : is[k]? with
    | none => rw [hi] at h1; cases h1
    | some i => rw [hi] at h1; exact hP i q (Option.some.inj h1)
  refine ⟨⟨vPre_blind, fun U hU hW => ⟨rfl, ⟨by rw [hU], by rw [hU]; exact hPc, va_K.moved hW.alike hK, (hD.sub is hn hs).weaken (fun _ _ _ _ => trivial), gN.warm hW hNs⟩, gI.moved hW.alike hI, ⟨?_, gY.warm hW hZ.2⟩, ?_, Nat.lt_of_lt_of_le hbl hS.1, fun h => hbA (hF b h)⟩⟩, hF⟩
  · rw [hU]
    exact gZ.moved hW.alike ⟨((by rw [hh0] at hZ; exact hZ.1.1 : vx_Zq _ _ _ Af s H0).kept hS.2.1).narrow hF, ((by rw [hh0] at hZ; exact hZ.1.2 : vx_Zq _ _ _ Af s H0).kept hS.2.1).narrow hF⟩
  · rw [hU]
    exact va_X.moved hW.alike (hX.kept (hS.2.1 b hbl hbA))
abbrev vC (D : va_G) (wc : va_W) (sz : Nat) (u : va_W) (t : State) : Prop := va_P D vwCl u t.heap ∧ va_D (va_A wc sz) u
theorem vR_of {l : Launch} {y : MethodName} {cc : ByteArray} {maxL : Nat} {rt : FieldType} {d mc ms : Nat} {B : gL} {A : Nat → Nat} {σ : Mem} {es : va_W} {args : List Value} {D : va_G} {cy : Nat → ClassId} {b L sz : Nat} {xs : Nat → Int32} {J : Nat → va_W → Prop} (hy : plainName y.cls = true) (hrt : (∃ n, rt = .object n) ∨ ∃ t, rt = .array t) (hlen : (lg_sl args).length ≤ maxL)
    (body : ∀ X : gC, uOk l B X A es cc y.cls d mc ms → uL X b L xs → zY X = cy → (gEv X).1 = D → (∀ (k n pc : Nat) (ls : List (Option Value)) (r : Nat) (es' : va_W) (σ' : Mem), decode cc pc = .ok (.areturn, 1) → k ≤ mc → n ≤ ms → uOk l B X A es' cc y.cls d mc ms → J r (uB B D A cy σ' ++ es') → G (wU B es') (uX B X A es') k n pc ls [.ref r] σ') → G (wU B es) (uX B X A es) 0 0 0 (gent maxL args) [] σ) :
    Met l y (.code y cc maxL (some rt) :: TB) (gR d mc ms) (vPre D cy b L xs (uB B D A cy σ ++ es) sz args) (va_Qr (fun u : Nat × va_W => J u.1 u.2) (fun u r t => r = u.1 ∧ vC D (uB B D A cy σ ++ es) sz u.2 t) (va_A (uB B D A cy σ ++ es) sz)) mc ms (va_A (uB B D A cy σ ++ es) sz) := by
  refine Met.ofW (cc := cc) (maxL := maxL) (ret := some rt) hy rfl ?_
  intro p e s m args0 below meth c s₁ Bd hml hv
  obtain ⟨rfl, ⟨hsz, hP0, hK, hD0, hNs⟩, hI, hZ, hX, hbl, hbA⟩ := hv
  have hx := Bd.exec
  have hb := Bd.bytes
  have hr := Bd.returns
  have hts := atoms_spec (ws := Cond.code y cc maxL (some rt) :: TB) Bd.pre
  have hown : s.vm.findClass y.cls = some m.cls := findClass_of_methodNamed Bd.named
  have hlocks := Bd.notSynchronized
  subst hsz
  have hl0 : lv_has ((lg_sl args ++ List.replicate (maxL - (lg_sl args).length) Slot.unset).toArray) maxL (gl 0 (gent maxL args)) := by
    have h1 := lv_entry args (n := maxL) hlen
    exact ⟨h1.1, h1.2.1, fun q hq => h1.2.2 q (gent_mem _ _ _ q hq)⟩
  rw [lg_entry_eq]
  have hw := wU_list B A es D cy σ
  have hD1 : va_D (va_A (uB B D A cy σ ++ es) s.heap.size) (gW (wU B es) (D, aU B A es, cy) σ) := by rw [hw]; exact hD0.self (sz := s.heap.size)
  refine body (p, l, e, gR d mc ms, s, m, args.toArray, below, meth, c, maxL, s.heap, va_A (uB B D A cy σ ++ es) s.heap.size, (D, (fun _ => 0), cy), MQ below (va_Qr (fun u : Nat × va_W => J u.1 u.2) (fun u r t => r = u.1 ∧ vC D (uB B D A cy σ ++ es) s.heap.size u.2 t) (va_A (uB B D A cy σ ++ es) s.heap.size)) args.toArray s mc ms (va_A (uB B D A cy σ ++ es) s.heap.size))
    ⟨hx, hb, hml, hown, fun w hw => hts w (List.mem_cons_of_mem _ hw), hK, fun σ' => gW_fix hD1 σ', fun q h => Or.inr h, rfl, hlocks, rfl, rfl, hNs⟩ ⟨⟨hX, hbl, hbA⟩, hZ, hI⟩ rfl rfl ?_ s.heap [] _ (gent_len _ _ hlen) (by show va_P D vwCl (gW (wU B es) (D, aU B A es, cy) σ) _; rw [hw]; exact hP0) va_S.rf hl0
  intro k n pc ls r es' σ' hd hk hn1 hC2 hJ H locs arr hn hP1 hS1 hl1
  obtain ⟨-, -, -, -, -, -, hD2, -⟩ := hC2
  have hw2 := wU_list B A es' D cy σ'
  have hP1 : va_P D vwCl (gW (wU B es') (D, aU B A es', cy) σ') H := hP1
  have hD2 : va_D (va_A (uB B D A cy σ ++ es) s.heap.size) (gW (wU B es') (D, aU B A es', cy) σ') := hD2 σ'
  rw [hw2] at hP1 hD2
  exact W.widen hk hn1 (W.aret hx hb hr hrt (Or.inr ⟨r, rfl⟩) (fun t ht hW => ⟨⟨(r, uB B D A cy σ' ++ es'), r, rfl, hJ, rfl, by rw [ht]; exact hP1, hD2⟩, hS1.F ht⟩) hS1.2.2 hd hlocks)
theorem vV_of {l : Launch} {y : MethodName} {cc : ByteArray} {maxL : Nat} {d mc ms : Nat} {B : gL} {A : Nat → Nat} {σ : Mem} {es : va_W} {args : List Value} {D : va_G} {cy : Nat → ClassId} {b L sz : Nat} {xs : Nat → Int32} {J : va_W → Prop} (hy : plainName y.cls = true) (hlen : (lg_sl args).length ≤ maxL)
    (body : ∀ X : gC, uOk l B X A es cc y.cls d mc ms → uL X b L xs → zY X = cy → (gEv X).1 = D → (∀ (k n pc : Nat) (ls : List (Option Value)) (es' : va_W) (σ' : Mem), decode cc pc = .ok (.return_, 1) → k ≤ mc → n ≤ ms → uOk l B X A es' cc y.cls d mc ms → J (uB B D A cy σ' ++ es') → G (wU B es') (uX B X A es') k n pc ls [] σ') → G (wU B es) (uX B X A es) 0 0 0 (gent maxL args) [] σ) :
    Met l y (.code y cc maxL none :: TB) (gR d mc ms) (vPre D cy b L xs (uB B D A cy σ ++ es) sz args) (va_Qv (fun u : va_W => J u) (fun u t => vC D (uB B D A cy σ ++ es) sz u t) (va_A (uB B D A cy σ ++ es) sz)) mc ms (va_A (uB B D A cy σ ++ es) sz) := by
  refine Met.ofW (cc := cc) (maxL := maxL) (ret := none) hy rfl ?_
  intro p e s m args0 below meth c s₁ Bd hml hv
  obtain ⟨rfl, ⟨hsz, hP0, hK, hD0, hNs⟩, hI, hZ, hX, hbl, hbA⟩ := hv
  have hx := Bd.exec
  have hb := Bd.bytes
  have hr := Bd.returns
  have hts := atoms_spec (ws := Cond.code y cc maxL none :: TB) Bd.pre
  have hown : s.vm.findClass y.cls = some m.cls := findClass_of_methodNamed Bd.named
  have hlocks := Bd.notSynchronized
  subst hsz
  have hl0 : lv_has ((lg_sl args ++ List.replicate (maxL - (lg_sl args).length) Slot.unset).toArray) maxL (gl 0 (gent maxL args)) := by
    have h1 := lv_entry args (n := maxL) hlen
    exact ⟨h1.1, h1.2.1, fun q hq => h1.2.2 q (gent_mem _ _ _ q hq)⟩
  rw [lg_entry_eq]
  have hw := wU_list B A es D cy σ
  have hD1 : va_D (va_A (uB B D A cy σ ++ es) s.heap.size) (gW (wU B es) (D, aU B A es, cy) σ) := by rw [hw]; exact hD0.self (sz := s.heap.size)
  refine body (p, l, e, gR d mc ms, s, m, args.toArray, below, meth, c, maxL, s.heap, va_A (uB B D A cy σ ++ es) s.heap.size, (D, (fun _ => 0), cy), MQ below (va_Qv (fun u : va_W => J u) (fun u t => vC D (uB B D A cy σ ++ es) s.heap.size u t) (va_A (uB B D A cy σ ++ es) s.heap.size)) args.toArray s mc ms (va_A (uB B D A cy σ ++ es) s.heap.size))
    ⟨hx, hb, hml, hown, fun w hw => hts w (List.mem_cons_of_mem _ hw), hK, fun σ' => gW_fix hD1 σ', fun q h => Or.inr h, rfl, hlocks, rfl, rfl, hNs⟩ ⟨⟨hX, hbl, hbA⟩, hZ, hI⟩ rfl rfl ?_ s.heap [] _ (gent_len _ _ hlen) (by show va_P D vwCl (gW (wU B es) (D, aU B A es, cy) σ) _; rw [hw]; exact hP0) va_S.rf hl0
  intro k n pc ls es' σ' hd hk hn1 hC2 hJ H locs arr hn hP1 hS1 hl1
  obtain ⟨-, -, -, -, -, -, hD2, -⟩ := hC2
  have hw2 := wU_list B A es' D cy σ'
  have hP1 : va_P D vwCl (gW (wU B es') (D, aU B A es', cy) σ') H := hP1
  have hD2 : va_D (va_A (uB B D A cy σ ++ es) s.heap.size) (gW (wU B es') (D, aU B A es', cy) σ') := hD2 σ'
  rw [hw2] at hP1 hD2
  exact W.widen hk hn1 (W.vret hx hb hr (fun t ht hW => ⟨⟨uB B D A cy σ' ++ es', rfl, hJ, by rw [ht]; exact hP1, hD2⟩, hS1.F ht⟩) hS1.2.2 hd hlocks)
/-- a method that reads the script alone and answers an int -/
theorem vI_of {l : Launch} {y : MethodName} {cc : ByteArray} {maxL d mc ms : Nat} {args : List Value} {D : va_G} {cy : Nat → ClassId} {b L sz : Nat} {xs : Nat → Int32} {v : Int32} (hy : plainName y.cls = true) (hlen : (lg_sl args).length ≤ maxL)
    (body : ∀ X : gC, uOk l wE X (fun _ => 0) [] cc y.cls d mc ms → uL X b L xs → (∀ (k n pc : Nat) (ls : List (Option Value)), decode cc pc = .ok (.ireturn, 1) → k ≤ mc → n ≤ ms → G (wU wE []) (uX wE X (fun _ => 0) []) k n pc ls [.int v] zM) → G (wU wE []) (uX wE X (fun _ => 0) []) 0 0 0 (gent maxL args) [] zM) :
    Met l y (.code y cc maxL (some .int) :: TB) (gR d mc ms) (vPre D cy b L xs [] sz args) (va_Qi (fun (r : Int32) (_ : Unit) => r = v) (fun _ _ => True) (va_A [] sz)) mc ms (va_A [] sz) := by
  refine Met.ofW (cc := cc) (maxL := maxL) (ret := some .int) hy rfl ?_
  intro p e s m args0 below meth c s₁ Bd hml hv
  obtain ⟨rfl, ⟨hsz, hP0, hK, hD0, hNs⟩, hI, hZ, hX, hbl, hbA⟩ := hv
  have hx := Bd.exec
  have hb := Bd.bytes
  have hr := Bd.returns
  have hts := atoms_spec (ws := Cond.code y cc maxL (some .int) :: TB) Bd.pre
  have hown : s.vm.findClass y.cls = some m.cls := findClass_of_methodNamed Bd.named
  have hlocks := Bd.notSynchronized
  subst hsz
  have hl0 : lv_has ((lg_sl args ++ List.replicate (maxL - (lg_sl args).length) Slot.unset).toArray) maxL (gl 0 (gent maxL args)) := by
    have h1 := lv_entry args (n := maxL) hlen
    exact ⟨h1.1, h1.2.1, fun q hq => h1.2.2 q (gent_mem _ _ _ q hq)⟩
  rw [lg_entry_eq]
  have hD1 : va_D (va_A [] s.heap.size) (gW (wU wE []) (D, aU wE (fun _ => 0) [], cy) zM) := ⟨fun i j p q h => by rw [wU_list] at h; simp [gW, wE] at h, fun k q h => by rw [wU_list] at h; simp [gW, wE] at h⟩
  refine body (p, l, e, gR d mc ms, s, m, args.toArray, below, meth, c, maxL, s.heap, va_A [] s.heap.size, (D, (fun _ => 0), cy), MQ below (va_Qi (fun (r : Int32) (_ : Unit) => r = v) (fun _ _ => True) (va_A [] s.heap.size)) args.toArray s mc ms (va_A [] s.heap.size))
    ⟨hx, hb, hml, hown, fun w hw => hts w (List.mem_cons_of_mem _ hw), hK, fun σ' => gW_fix hD1 σ', fun q h => Or.inr h, rfl, hlocks, rfl, rfl, hNs⟩ ⟨⟨hX, hbl, hbA⟩, hZ, hI⟩ ?_ s.heap [] _ (gent_len _ _ hlen) (fun k q h => by
      have h : (gW (wU wE []) (D, aU wE (fun _ => 0) [], cy) zM)[k]? = some q := h
      rw [wU_list] at h; simp [gW, wE] at h) va_S.rf hl0
  intro k n pc ls hd hk hn1 H locs arr hn hP1 hS1 hl1
  exact W.widen hk hn1 (W.iret (v := v) hx hb hr (fun t ht hW => ⟨⟨v, (), rfl, rfl, trivial⟩, hS1.F ht⟩) hS1.2.2 hd hlocks)
section UC
variable {l : Launch} {B : gL} {X : gC} {A : Nat → Nat} {es : va_W} {cc : ByteArray} {own : String} {dd ca sa k m pc : Nat} {ls : List (Option Value)} {st : List Value} {σ : Mem} {b L : Nat} {xs : Nat → Int32}
theorem u_cI {y : MethodName} {idx : Nat} {bytes : ByteArray} {maxL d mc ms : Nat} (na : Nat) {v : Int32} {As rest : List Value} (hC : uOk l B X A es cc own dd ca sa) (hL : uL X b L xs) (hM : ∀ (D : va_G) (cy : Nat → ClassId) (sz : Nat), Met l y (.code y bytes maxL (some .int) :: TB) (gR d mc ms) (vPre D cy b L xs [] sz As) (va_Qi (fun (r : Int32) (_ : Unit) => r = v) (fun _ _ => True) (va_A [] sz)) mc ms (va_A [] sz)) (hw1 : Cond.methodLink own idx y ∈ TB) (hw2 : Cond.static y ∈ TB ∧ Cond.initialized y.cls ∈ TB ∧ Cond.code y bytes maxL (some .int) ∈ TB) (hy : y.cls ≠ "java/lang/invoke/MethodHandle" ∧ y.cls ≠ "java/lang/invoke/VarHandle" ∧ (parseMethodDescriptor y.desc).map (fun d => d.parameters.length) = some na) (hR9 : d + 1 ≤ dd ∧ maxL ≤ 21) (hf : k + mc ≤ ca ∧ m + ms ≤ sa) (hna : As.length = na) (hrest : (rest.map fun v => v.category).sum ≤ 8) (hst : st = As.reverse ++ rest) (hd : decode cc pc = .ok (.invokestatic idx, 3)) (kk : G (wU B es) (uX B X A es) (k + mc) (m + ms) (pc + 3) ls (.int v :: rest) σ) : G (wU B es) (uX B X A es) k m pc ls st σ := by
  obtain ⟨p, l', e', R, s, mm, args, below, meth, c, nL, H0, Af, E, Q⟩ := X
  have hC0 := hC
  have hL0 := sx_uL (A := aU B A es) hL
  obtain ⟨hx, hb, hml, hown, hTB, hK, hD, hA, hR, hlocks, hl', hh0, hNs⟩ := hC
  have hR : R = gR dd ca sa := hR
  subst hR
  have hl' : l' = l := hl'
  subst hl'
  have hRR : (gR d mc ms).frames + 1 ≤ (gR dd ca sa).frames ∧ 8 + (maxL + 11) + (gR d mc ms).locals ≤ (gR dd ca sa).locals := by
    refine ⟨hR9.1, ?_⟩
    show 8 + (maxL + 11) + 40 * d ≤ 40 * dd
    omega
  intro H locs arr hn hP hS hl
  obtain ⟨hPre, hF⟩ := vPre_of (As := As) (wc := []) hC0 hL0 hP (hD σ) hS [] rfl rfl
  refine va_calli (va_runS (As := As) (rest := rest) (Ts := TB) (own := own) ⟨hx, hb, hml, hown, hTB⟩ (hM E.1 E.2.2 H.size) (va_cwS (ret := (some .int)) (bytes := bytes) (maxL := maxL) na hTB (gi_cons hw1 (gi_cons hw2.1 (gi_cons hw2.2.1 (gi_cons hw2.2.2 gi_self)))) rfl rfl rfl hy hRR) hPre rfl hna hl.1 hst (lv_room hrest) hd hf) hS (fun q _ h => hF q h) hF (fun r u t H1 locs1 ht hvm hq hB hz1 hk1 hS1 => ?_)
  subst hq
  obtain ⟨hP1, -⟩ := u_backB (wc := []) (nw := []) hP (hD σ) (fun k q h => by simp at h) hk1 hF (fun k q h => by simp at h) ⟨fun i j p q h => by simp at h, fun k q h => by simp at h⟩
  exact kk H1 locs1 arr hn (by rw [List.append_nil] at hP1; exact hP1) hS1 hl
/-- the callee reads some of the cells and makes new ones -/
theorem u_cR {y : MethodName} {idx : Nat} {bytes : ByteArray} {maxL d mc ms : Nat} {rt : FieldType} (na : Nat) {wc : va_W} (is : List Nat) {J : Nat → va_W → Prop} {As rest : List Value} (hC : uOk l B X A es cc own dd ca sa) (hL : uL X b L xs) (hM : ∀ (sz : Nat), Met l y (.code y bytes maxL (some rt) :: TB) (gR d mc ms) (vPre (gEv X).1 (zY X) b L xs wc sz As) (va_Qr (fun u : Nat × va_W => J u.1 u.2) (fun u r t => r = u.1 ∧ vC (gEv X).1 wc sz u.2 t) (va_A wc sz)) mc ms (va_A wc sz)) (hn : va_nd is = true) (hs : is.map (fun i => es[i]?) = wc.map some) (hJ : ∀ r u, J r u → ∃ nw, u = wc ++ nw) (hw1 : Cond.methodLink own idx y ∈ TB) (hw2 : Cond.static y ∈ TB ∧ Cond.initialized y.cls ∈ TB ∧ Cond.code y bytes maxL (some rt) ∈ TB) (hy : y.cls ≠ "java/lang/invoke/MethodHandle" ∧ y.cls ≠ "java/lang/invoke/VarHandle" ∧ (parseMethodDescriptor y.desc).map (fun d => d.parameters.length) = some na) (hR9 : d + 1 ≤ dd ∧ maxL ≤ 21) (hf : k + mc ≤ ca ∧ m + ms ≤ sa) (hna : As.length = na) (hrest : (rest.map fun v => v.category).sum ≤ 8) (hst : st = As.reverse ++ rest) (hd : decode cc pc = .ok (.invokestatic idx, 3)) (kk : ∀ (r : Nat) (nw : va_W), J r (wc ++ nw) → uOk l B X A (es ++ nw) cc own dd ca sa → G (wU B (es ++ nw)) (uX B X A (es ++ nw)) (k + mc) (m + ms) (pc + 3) ls (.ref r :: rest) σ) : G (wU B es) (uX B X A es) k m pc ls st σ := by
  obtain ⟨p, l', e', R, s, mm, args, below, meth, c, nL, H0, Af, E, Q⟩ := X
  have hC0 := hC
  have hL0 := sx_uL (A := aU B A es) hL
  obtain ⟨hx, hb, hml, hown, hTB, hK, hD, hA, hR, hlocks, hl', hh0, hNs⟩ := hC
  have hR : R = gR dd ca sa := hR
  subst hR
  have hl' : l' = l := hl'
  subst hl'
  have hRR : (gR d mc ms).frames + 1 ≤ (gR dd ca sa).frames ∧ 8 + (maxL + 11) + (gR d mc ms).locals ≤ (gR dd ca sa).locals := by
    refine ⟨hR9.1, ?_⟩
    show 8 + (maxL + 11) + 40 * d ≤ 40 * dd
    omega
  intro H locs arr hn0 hP hS hl
  have hs2 : (is.map (fun i => B.1 + i)).map (fun i => (gW (wU B es) (E.1, aU B A es, E.2.2) σ)[i]?) = wc.map some := by
    rw [← hs, List.map_map]
    refine List.map_congr_left (fun i hi => ?_)
    show (gW (wU B es) (E.1, aU B A es, E.2.2) σ)[B.1 + i]? = es[i]?
    rw [wU_list, List.getElem?_append_right (by rw [gW_len]; omega), gW_len, Nat.add_sub_cancel_left]
  have hn2 : va_nd (is.map (fun i => B.1 + i)) = true := by
    have : ∀ (is : List Nat), va_nd is = true → va_nd (is.map (fun i => B.1 + i)) = true := by
      intro is
      induction is with
      | nil => intro _; rfl
      | cons a r ih =>
        intro h
        simp only [va_nd, Bool.and_eq_true, decide_eq_true_eq, List.map_cons] at h ⊢
        exact ⟨fun h2 => by
          obtain ⟨z, hz, e⟩ := List.mem_map.mp h2
          exact h.1 (by rw [show a = z by omega]; exact hz), ih h.2⟩
    exact this is hn
  obtain ⟨hPre, hF⟩ := vPre_of (As := As) (wc := wc) hC0 hL0 hP (hD σ) hS (is.map (fun i => B.1 + i)) hn2 hs2
  refine va_callr (va_runS (As := As) (rest := rest) (Ts := TB) (own := own) ⟨hx, hb, hml, hown, hTB⟩ (hM H.size) (va_cwS (ret := (some rt)) (bytes := bytes) (maxL := maxL) na hTB (gi_cons hw1 (gi_cons hw2.1 (gi_cons hw2.2.1 (gi_cons hw2.2.2 gi_self)))) rfl rfl rfl hy hRR) hPre rfl hna hl.1 hst (lv_room hrest) hd hf) hS (fun q _ h => hF q h) hF (fun u ra t H1 locs1 ht hvm hq hB hz1 hk1 hS1 => ?_)
  obtain ⟨rfl, hB1, hB2⟩ := hB
  obtain ⟨r0, u0⟩ := u
  obtain ⟨nw, hnw⟩ := hJ _ _ hq
  have hnw : u0 = wc ++ nw := hnw
  subst hnw
  rw [ht] at hB1
  obtain ⟨hP1, hD1⟩ := u_backB (wc := wc) (nw := nw) hP (hD σ) (fun k q h => by
    have h1 : ((is.map (fun i => B.1 + i)).map (fun i => (gW (wU B es) (E.1, aU B A es, E.2.2) σ)[i]?))[k]? = some (some q) := by rw [hs2, List.getElem?_map, h]; rfl
    rw [List.getElem?_map] at h1
    cases hi : (is.map (fun i => B.1 + i))[k]? with
    | none => rw [hi] at h1; cases h1
    | some i => rw [hi] at h1; exact ⟨i, Option.some.inj h1⟩) hk1 hF hB1 hB2
  have hw := wU_app B A es nw E.1 E.2.2 σ
  exact kk r0 nw hq (uOk_of (σ := σ) hC0 (Eq.mp (congrArg (va_D Af) hw.symm) hD1)) H1 locs1 arr hn0 (Eq.mp (congrArg (fun w => va_P E.1 vwCl w H1) hw.symm) hP1) hS1 hl
/-- the callee has the laid part alone, changes it, and makes new cells -/
theorem u_cB {y : MethodName} {idx : Nat} {bytes : ByteArray} {maxL d mc ms : Nat} {rt : FieldType} (na : Nat) {J : Nat → va_W → Prop} {As rest : List Value} (hC : uOk l B X A [] cc own dd ca sa) (hL : uL X b L xs) (hM : ∀ (sz : Nat), Met l y (.code y bytes maxL (some rt) :: TB) (gR d mc ms) (vPre (gEv X).1 (zY X) b L xs (uB B (gEv X).1 A (zY X) σ ++ []) sz As) (va_Qr (fun u : Nat × va_W => J u.1 u.2) (fun u r t => r = u.1 ∧ vC (gEv X).1 (uB B (gEv X).1 A (zY X) σ ++ []) sz u.2 t) (va_A (uB B (gEv X).1 A (zY X) σ ++ []) sz)) mc ms (va_A (uB B (gEv X).1 A (zY X) σ ++ []) sz)) (hJ : ∀ r u, J r u → ∃ σ1 nw, u = uB B (gEv X).1 A (zY X) σ1 ++ nw) (hw1 : Cond.methodLink own idx y ∈ TB) (hw2 : Cond.static y ∈ TB ∧ Cond.initialized y.cls ∈ TB ∧ Cond.code y bytes maxL (some rt) ∈ TB) (hy : y.cls ≠ "java/lang/invoke/MethodHandle" ∧ y.cls ≠ "java/lang/invoke/VarHandle" ∧ (parseMethodDescriptor y.desc).map (fun d => d.parameters.length) = some na) (hR9 : d + 1 ≤ dd ∧ maxL ≤ 21) (hf : k + mc ≤ ca ∧ m + ms ≤ sa) (hna : As.length = na) (hrest : (rest.map fun v => v.category).sum ≤ 8) (hst : st = As.reverse ++ rest) (hd : decode cc pc = .ok (.invokestatic idx, 3)) (kk : ∀ (r : Nat) (σ1 : Mem) (nw : va_W), J r (uB B (gEv X).1 A (zY X) σ1 ++ nw) → uOk l B X A nw cc own dd ca sa → G (wU B nw) (uX B X A nw) (k + mc) (m + ms) (pc + 3) ls (.ref r :: rest) σ1) : G (wU B []) (uX B X A []) k m pc ls st σ := by
  obtain ⟨p, l', e', R, s, mm, args, below, meth, c, nL, H0, Af, E, Q⟩ := X
  have hC0 := hC
  have hL0 := sx_uL (A := aU B A []) hL
  obtain ⟨hx, hb, hml, hown, hTB, hK, hD, hA, hR, hlocks, hl', hh0, hNs⟩ := hC
  have hR : R = gR dd ca sa := hR
  subst hR
  have hl' : l' = l := hl'
  subst hl'
  have hRR : (gR d mc ms).frames + 1 ≤ (gR dd ca sa).frames ∧ 8 + (maxL + 11) + (gR d mc ms).locals ≤ (gR dd ca sa).locals := by
    refine ⟨hR9.1, ?_⟩
    show 8 + (maxL + 11) + 40 * d ≤ 40 * dd
    omega
  intro H locs arr hn0 hP hS hl
  have hw := wU_list B A [] E.1 E.2.2 σ
  have hP : va_P E.1 vwCl (gW (wU B []) (E.1, aU B A [], E.2.2) σ) H := hP
  have hDσ : va_D Af (gW (wU B []) (E.1, aU B A [], E.2.2) σ) := hD σ
  rw [hw] at hP hDσ
  obtain ⟨hPre, hF⟩ := vPre_of (As := As) (ws := uB B E.1 A E.2.2 σ ++ []) (wc := uB B E.1 A E.2.2 σ ++ []) hC0 hL0 hP hDσ hS (List.range (uB B E.1 A E.2.2 σ ++ []).length) (nd_range _) (by
    apply List.ext_getElem?
    intro i
    rw [List.getElem?_map, List.getElem?_map]
    rcases Nat.lt_or_ge i (uB B E.1 A E.2.2 σ ++ []).length with h | h
    · rw [List.getElem?_range h, List.getElem?_eq_getElem h]; simp [List.getElem?_eq_getElem h]
    · rw [List.getElem?_eq_none (by rw [List.length_range]; exact h), List.getElem?_eq_none h]; rfl)
  refine va_callr (va_runS (As := As) (rest := rest) (Ts := TB) (own := own) ⟨hx, hb, hml, hown, hTB⟩ (hM H.size) (va_cwS (ret := (some rt)) (bytes := bytes) (maxL := maxL) na hTB (gi_cons hw1 (gi_cons hw2.1 (gi_cons hw2.2.1 (gi_cons hw2.2.2 gi_self)))) rfl rfl rfl hy hRR) hPre rfl hna hl.1 hst (lv_room hrest) hd hf) hS (fun q _ h => hF q h) hF (fun u ra t H1 locs1 ht hvm hq hB hz1 hk1 hS1 => ?_)
  obtain ⟨rfl, hB1, hB2⟩ := hB
  obtain ⟨r0, u0⟩ := u
  obtain ⟨σ1, nw, hnw⟩ := hJ _ _ hq
  have hnw : u0 = uB B E.1 A E.2.2 σ1 ++ nw := hnw
  subst hnw
  rw [ht] at hB1
  have hw2 := wU_list B A nw E.1 E.2.2 σ1
  have hD1 : va_D Af (uB B E.1 A E.2.2 σ1 ++ nw) := hB2.weaken (fun _ q _ h => hF q.1 h)
  exact kk r0 σ1 nw hq (uOk_of (σ := σ1) hC0 (Eq.mp (congrArg (va_D Af) hw2.symm) hD1)) H1 locs1 arr hn0 (Eq.mp (congrArg (fun w => va_P E.1 vwCl w H1) hw2.symm) hB1) hS1 hl
/-- a constructor called upon the last of the cells that are told -/
theorem u_cV {y : MethodName} {idx a : Nat} {bytes : ByteArray} {maxL d mc ms : Nat} (na : Nat) {e0 : va_E} {J : va_W → Prop} {As rest : List Value} (hC : uOk l B X A (es ++ [(a, e0)]) cc own dd ca sa) (hL : uL X b L xs) (hM : ∀ (sz : Nat), Met l y (.code y bytes maxL none :: TB) (gR d mc ms) (vPre (gEv X).1 (zY X) b L xs [(a, e0)] sz (.ref a :: As)) (va_Qv (fun u : va_W => J u) (fun u t => vC (gEv X).1 [(a, e0)] sz u t) (va_A [(a, e0)] sz)) mc ms (va_A [(a, e0)] sz)) (hw1 : Cond.methodLink own idx y ∈ TB) (hw2 : Cond.instanceMethod y ∈ TB ∧ Cond.initialized y.cls ∈ TB ∧ Cond.code y bytes maxL none ∈ TB) (hy1 : y.name = "<init>") (hy : y.cls ≠ "java/lang/invoke/MethodHandle" ∧ y.cls ≠ "java/lang/invoke/VarHandle" ∧ (parseMethodDescriptor y.desc).map (fun d => d.parameters.length) = some na) (hR9 : d + 1 ≤ dd ∧ maxL ≤ 21) (hf : k + mc ≤ ca ∧ m + ms ≤ sa) (hna : As.length = na) (hrest : (rest.map fun v => v.category).sum ≤ 8) (hst : st = As.reverse ++ .ref a :: rest) (hd : decode cc pc = .ok (.invokespecial idx, 3)) (kk : ∀ (u : va_W), J u → uOk l B X A (es ++ u) cc own dd ca sa → G (wU B (es ++ u)) (uX B X A (es ++ u)) (k + mc) (m + ms) (pc + 3) ls rest σ) : G (wU B (es ++ [(a, e0)])) (uX B X A (es ++ [(a, e0)])) k m pc ls st σ := by
  obtain ⟨p, l', e', R, s, mm, args, below, meth, c, nL, H0, Af, E, Q⟩ := X
  have hC0 := hC
  have hL0 := sx_uL (A := aU B A (es ++ [(a, e0)])) hL
  obtain ⟨hx, hb, hml, hown, hTB, hK, hD, hA, hR, hlocks, hl', hh0, hNs⟩ := hC
  have hR : R = gR dd ca sa := hR
  subst hR
  have hl' : l' = l := hl'
  subst hl'
  have hRR : (gR d mc ms).frames + 1 ≤ (gR dd ca sa).frames ∧ 8 + (maxL + 11) + (gR d mc ms).locals ≤ (gR dd ca sa).locals := by
    refine ⟨hR9.1, ?_⟩
    show 8 + (maxL + 11) + 40 * d ≤ 40 * dd
    omega
  intro H locs arr hn0 hP hS hl
  have hw := wU_app B A es [(a, e0)] E.1 E.2.2 σ
  have hlen : (gW (wU B es) (E.1, aU B A es, E.2.2) σ).length = B.1 + es.length := gW_len _ _ _
  have hP : va_P E.1 vwCl (gW (wU B (es ++ [(a, e0)])) (E.1, aU B A (es ++ [(a, e0)]), E.2.2) σ) H := hP
  have hDσ : va_D Af (gW (wU B (es ++ [(a, e0)])) (E.1, aU B A (es ++ [(a, e0)]), E.2.2) σ) := hD σ
  rw [hw] at hP hDσ
  have hs2 : [B.1 + es.length].map (fun i => (gW (wU B es) (E.1, aU B A es, E.2.2) σ ++ [(a, e0)])[i]?) = [(a, e0)].map some := by
    simp [List.getElem?_append_right, hlen]
  obtain ⟨hPre, hF⟩ := vPre_of (As := .ref a :: As) (ws := gW (wU B es) (E.1, aU B A es, E.2.2) σ ++ [(a, e0)]) (wc := [(a, e0)]) hC0 hL0 hP hDσ hS [B.1 + es.length] rfl hs2
  refine va_callv (va_runI (As := As) (rest := rest) (b := a) (Ts := TB) (own := own) ⟨hx, hb, hml, hown, hTB⟩ (hM H.size) (cwI na hTB (gi_cons hw2.2.2 gi_self) rfl rfl rfl (hTB _ hw2.2.1) (hTB _ hw1) (hTB _ hw2.1) hy1 hy hRR) hPre rfl hna hl.1 hst (lv_room hrest) hd hf) hS (fun q _ h => hF q h) hF (fun u t H1 locs1 ht hvm hq hB hz1 hk1 hS1 => ?_)
  obtain ⟨hB1, hB2⟩ := hB
  rw [ht] at hB1
  obtain ⟨hP1, hD1⟩ := va_join (wr := gW (wU B es) (E.1, aU B A es, E.2.2) σ) (w1 := u) hP hDσ [B.1 + es.length] (List.range (B.1 + es.length)) hs2 (by
    apply List.ext_getElem?
    intro i
    rw [List.getElem?_map, List.getElem?_map]
    rcases Nat.lt_or_ge i (B.1 + es.length) with h | h
    · rw [List.getElem?_range h]
      have h2 : i < (gW (wU B es) (E.1, aU B A es, E.2.2) σ).length := by rw [hlen]; exact h
      simp [List.getElem?_append_left h2, List.getElem?_eq_getElem h2]
    · rw [List.getElem?_eq_none (by rw [List.length_range]; exact h), List.getElem?_eq_none (by rw [hlen]; exact h)]; rfl) (nd_range _) (fun i hi => by have := List.mem_range.mp hi; simp; omega) hk1 hF hB1 hB2
  have hw2 := wU_app B A es u E.1 E.2.2 σ
  exact kk u hq (uOk_of (σ := σ) hC0 (Eq.mp (congrArg (va_D Af) hw2.symm) hD1)) H1 locs1 arr hn0 (Eq.mp (congrArg (fun w => va_P E.1 vwCl w H1) hw2.symm) hP1) hS1 hl
end UC
