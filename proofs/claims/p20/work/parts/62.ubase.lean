/-! arrays of arrays: what the tables say of them -/
def vAA (t : FieldType) (U : State) : Prop := (Cond.arrayOver (.array t)).before #[] U = true
theorem vAA.moved {t : FieldType} {u U : State} (hvm : u.vm.Alike U.vm) (h : vAA t u) : vAA t U := by
  obtain ⟨comp, c, k, h1, h2, h3, h4, h5⟩ := arrayOverA_spec h
  obtain ⟨k', hk', he⟩ := hvm.2.2 _ _ h3
  have hi := (hvm.findIdx?_eq (fun (x : Class) => match x.kind with | .array component _ => component == comp | _ => false) (fun _ => rfl)).trans h2
  have hkind : k'.kind = .array comp (.array t) := by rw [he]; exact h4
  have f1 : U.vm.findClass (FieldType.array t).toString = some comp := by rw [hvm.findClass]; exact h1
  have f2 : U.vm.findClass ("[" ++ (FieldType.array t).toString) = some c := by rw [hvm.findClass]; exact h5
  unfold vAA Cond.before Cond.holds
  simp only [Cond.value]
  rw [f1, Option.bind_some]
  refine (congrArg (fun o : Option Nat => (o.bind (fun c => (U.vm.classes[c]?).map fun (k : Class) => match k.kind with | .array _ ty => decide (ty = FieldType.array t) && decide (U.vm.findClass ("[" ++ (FieldType.array t).toString) = some c) | _ => false) == some true)) hi).trans ?_
  simp [hk', hkind, f2]
theorem vAA.of {t : FieldType} {A : Array Value} {U : State} (h : (Cond.arrayOver (.array t)).before A U = true) : vAA t U := h
def gI (U : State) : Prop := gO U ∧ vAA .int U ∧ vAA (.array .int) U
theorem gI.moved {u U : State} (hvm : u.vm.Alike U.vm) (h : gI u) : gI U := ⟨gO.moved hvm h.1, vAA.moved hvm h.2.1, vAA.moved hvm h.2.2⟩
/-! worlds with a part laid out and a part told cell by cell -/
def wE : gL := (0, fun _ _ _ => zP)
def cutE (n : Nat) (A : Nat → Nat) : Nat → Nat := fun i => if i < n then A i else 0
def wU (B : gL) (es : va_W) : gL := (B.1 + es.length, fun E ρ i => if i < B.1 then B.2 (E.1, cutE B.1 E.2.1, E.2.2) ρ i else (es.getD (i - B.1) (0, zP)).2)
def aU (B : gL) (A : Nat → Nat) (es : va_W) : Nat → Nat := fun i => if i < B.1 then A i else (es.getD (i - B.1) (0, zP)).1
abbrev uX (B : gL) (X : gC) (A : Nat → Nat) (es : va_W) : gC := sx X (aU B A es)
def uOk (l : Launch) (B : gL) (X : gC) (A : Nat → Nat) (es : va_W) (cc : ByteArray) (own : String) (dd ca sa : Nat) : Prop := gOk (wU B es) l (uX B X A es) cc own dd ca sa
abbrev uB (B : gL) (D : va_G) (A : Nat → Nat) (cy : Nat → ClassId) (σ : Mem) : va_W := gW B (D, cutE B.1 A, cy) σ
theorem aU_lt {B : gL} {A : Nat → Nat} {es : va_W} {i : Nat} (h : i < B.1) : aU B A es i = A i := if_pos h
theorem cut_aU (B : gL) (A : Nat → Nat) (es : va_W) : cutE B.1 (aU B A es) = cutE B.1 A := by
  funext i
  unfold cutE
  by_cases h : i < B.1
  · rw [if_pos h, if_pos h, aU_lt h]
  · rw [if_neg h, if_neg h]
theorem wU_list (B : gL) (A : Nat → Nat) (es : va_W) (D : va_G) (cy : Nat → ClassId) (σ : Mem) : gW (wU B es) (D, aU B A es, cy) σ = uB B D A cy σ ++ es := by
  apply List.ext_getElem?
  intro i
  rcases Nat.lt_or_ge i B.1 with h | h
  · rw [gW_at _ _ _ (show i < (wU B es).1 by show i < B.1 + es.length; omega), List.getElem?_append_left (by rw [gW_len]; exact h), gW_at _ _ _ h]
    show some (aU B A es i, if i < B.1 then B.2 (D, cutE B.1 (aU B A es), cy) (σ i) i else _) = some (cutE B.1 A i, _)
    rw [if_pos h, cut_aU, aU_lt h]
    unfold cutE
    rw [if_pos h]
  · rw [List.getElem?_append_right (by rw [gW_len]; exact h), gW_len]
    rcases Nat.lt_or_ge i (B.1 + es.length) with h2 | h2
    · rw [gW_at _ _ _ (show i < (wU B es).1 from h2)]
      show some (aU B A es i, if i < B.1 then _ else (es.getD (i - B.1) (0, zP)).2) = _
      unfold aU
      rw [if_neg (by omega), if_neg (by omega), List.getElem?_eq_getElem (show i - B.1 < es.length by omega)]
      rw [List.getD_eq_getElem?_getD, List.getElem?_eq_getElem (show i - B.1 < es.length by omega)]
      rfl
    · rw [List.getElem?_eq_none (by rw [gW_len]; exact h2), List.getElem?_eq_none (by omega)]
theorem wU_es {B : gL} {A : Nat → Nat} {es : va_W} {D : va_G} {cy : Nat → ClassId} {σ : Mem} {j : Nat} {x : Nat × va_E} (h : es[j]? = some x) : (gW (wU B es) (D, aU B A es, cy) σ)[B.1 + j]? = some x := by
  rw [wU_list, List.getElem?_append_right (by rw [gW_len]; omega), gW_len, Nat.add_sub_cancel_left]; exact h
theorem wU_app (B : gL) (A : Nat → Nat) (es nw : va_W) (D : va_G) (cy : Nat → ClassId) (σ : Mem) : gW (wU B (es ++ nw)) (D, aU B A (es ++ nw), cy) σ = gW (wU B es) (D, aU B A es, cy) σ ++ nw := by
  rw [wU_list, wU_list, List.append_assoc]
theorem wU_set (B : gL) (A : Nat → Nat) (es : va_W) (D : va_G) (cy : Nat → ClassId) (σ : Mem) {j : Nat} (x : Nat × va_E) : (gW (wU B es) (D, aU B A es, cy) σ).set (B.1 + j) x = gW (wU B (es.set j x)) (D, aU B A (es.set j x), cy) σ := by
  rw [wU_list, wU_list, List.set_append_right _ _ (by rw [gW_len]; omega), gW_len, Nat.add_sub_cancel_left]
/-- the same cells, at other addresses or with other contents: what a walk needs of them -/
theorem uOk_of {l : Launch} {B : gL} {p : Program} {e' : Env} {R : Room} {s : State} {mm : MethodId} {args : Array Value} {below : List Frame} {meth : Method} {c : Code} {nL : Nat} {H0 : Heap} {Af : Nat → Prop} {E : gE} {Q : State → Prop} {A : Nat → Nat} {es es' : va_W} {σ : Mem} {cc : ByteArray} {own : String} {dd ca sa : Nat}
    (hC : uOk l B (p, l, e', R, s, mm, args, below, meth, c, nL, H0, Af, E, Q) A es cc own dd ca sa) (hD : va_D Af (gW (wU B es') (E.1, aU B A es', E.2.2) σ)) : uOk l B (p, l, e', R, s, mm, args, below, meth, c, nL, H0, Af, E, Q) A es' cc own dd ca sa := by
  obtain ⟨hx, hb, hml, hown, hTB, hK, -, hA, hR, hlocks, hl', hh0, hNs⟩ := hC
  exact ⟨hx, hb, hml, hown, hTB, hK, fun σ' => gW_fix hD σ', hA, hR, hlocks, hl', hh0, hNs⟩
def uI (X : gC) : Prop := match X with
  | (_, _, _, _, s, _, _, _, _, _, _, _, _, _, _) => gI s
theorem u_asg (vm : Vm) (c : ClassId) : vm.assignable c c = true := by
  show vm.assignableAux (255 + 1) c c = true
  unfold Vm.assignableAux
  simp only [beq_self_eq_true, Bool.true_or]
section UR
variable {l : Launch} {B : gL} {X : gC} {A : Nat → Nat} {es : va_W} {cc : ByteArray} {own : String} {dd ca sa k m pc : Nat} {ls : List (Option Value)} {st : List Value} {σ : Mem}
theorem u_newa {t0 N' : Nat} {ty : FieldType} {x : Int32} (aty : ArrayType) (hC : uOk l B X A es cc own dd ca sa) (harr : Cond.arrayClass ty ∈ TB) (hty : newarray.typeOf aty = ty) (ht : ∀ cy, (gT cy)[t0]? = some (cy t0, ty)) (ha : ∀ cA : ClassId, vp_cell cA (N', .inl (fun _ => 0)) = arrV cA N' (fun _ => defaultValue ty)) (hp : ∀ (U : State) (cA : ClassId), va_RA U cA ty = (U.vm.findClass ("[" ++ ty.toString) = some cA)) (hn0 : ¬ x < 0) (hN : x.toNatClampNeg = N') (hby : N' * componentBytes ty ≤ 536870912) (hf : k + 1 ≤ ca ∧ m + N' ≤ sa) (hd : decode cc pc = .ok (.newarray aty, 2))
    (kk : ∀ q, uOk l B X A (es ++ [(q, .inl (zY X t0, N', .inl (fun _ => 0)))]) cc own dd ca sa → G (wU B (es ++ [(q, .inl (zY X t0, N', .inl (fun _ => 0)))])) (uX B X A (es ++ [(q, .inl (zY X t0, N', .inl (fun _ => 0)))])) (k + 1) (m + N') (pc + 2) ls (.ref q :: st) σ) : G (wU B es) (uX B X A es) k m pc ls (.int x :: st) σ := by
  obtain ⟨p, l', e', R, s, mm, args, below, meth, c, nL, H0, Af, E, Q⟩ := X
  have hC0 := hC
  obtain ⟨hx, hb, hml, hown, hTB, hK, hD, hA, hR, hlocks, hl', hh0, hNs⟩ := hC
  have hR : R = gR dd ca sa := hR
  subst hR
  have hl' : l' = l := hl'
  subst hl'
  intro H locs arr hn hP hS hl
  refine va_newa (atype := aty) (ty := ty) (N' := N') (a0 := (N', .inl (fun _ => 0))) hx hb (by rw [hty]; exact hTB _ harr) hty hK hP (hD σ) hS hA ha hn0 hN hby hf.1 hf.2 hd ?_
  intro q cA H1 hK1 hP1 hD1 hS1
  have hcA : cA = E.2.2 t0 := by
    have h1 := (hK.2 t0 _ (ht _)).2
    have h2 := (hK1.2 7 (cA, ty) rfl).2
    have h1 : va_RA s (E.2.2 t0) ty := h1
    have h2 : va_RA s cA ty := h2
    rw [hp] at h1 h2
    exact Option.some.inj (h2.symm.trans h1)
  subst hcA
  have hw := wU_app B A es [(q, .inl (E.2.2 t0, N', .inl (fun _ => 0)))] E.1 E.2.2 σ
  rw [show gW (wU B es) (E.1, aU B A es, E.2.2) σ ++ [(q, .inl (E.2.2 t0, N', .inl (fun _ => 0)))] = _ from hw.symm] at hP1 hD1
  exact kk q (uOk_of hC0 hD1) H1 locs arr hn hP1 hS1 hl
theorem u_new {C : String} {T : u_T} {N ci index : Nat} {fs : List Value} (ty : Nat → FieldType) (hC : uOk l B X A es cc own dd ca sa) (hin : ∀ w ∈ u_ws C T N, w ∈ TB) (hty : ∀ k, k < N → parseFieldDescriptor (T k).2.2.1 = some (ty k)) (hcl : Cond.classLink own index C ∈ TB) (hinst : Cond.instantiable C N ∈ TB) (hini : Cond.initialized C ∈ TB) (hc : vwCl[ci]? = some (C, T, N)) (hfs : ∀ j, j < N → defaultValue (ty j) = vp_V fs j) (hf : k + 1 ≤ ca ∧ m + N ≤ sa) (hd : decode cc pc = .ok (.new index, 3))
    (kk : ∀ q, uOk l B X A (es ++ [(q, .inr (ci, fs))]) cc own dd ca sa → G (wU B (es ++ [(q, .inr (ci, fs))])) (uX B X A (es ++ [(q, .inr (ci, fs))])) (k + 1) (m + N) (pc + 3) ls (.ref q :: st) σ) : G (wU B es) (uX B X A es) k m pc ls st σ := by
  obtain ⟨p, l', e', R, s, mm, args, below, meth, c, nL, H0, Af, E, Q⟩ := X
  have hC0 := hC
  obtain ⟨hx, hb, hml, hown, hTB, hK, hD, hA, hR, hlocks, hl', hh0, hNs⟩ := hC
  have hR : R = gR dd ca sa := hR
  subst hR
  have hl' : l' = l := hl'
  subst hl'
  intro H locs arr hn hP hS hl
  refine va_new (ci := ci) (fs := fs) (C := C) (T := T) (N := N) hx hb hTB hin ty hty hown (hTB _ hcl) (hTB _ hinst) (hTB _ hini) hK hP (hD σ) hS hA hc hfs hf.1 hf.2 hd (fun q H1 hP1 hD1 hS1 => ?_)
  have hw := wU_app B A es [(q, .inr (ci, fs))] E.1 E.2.2 σ
  rw [show gW (wU B es) (E.1, aU B A es, E.2.2) σ ++ [(q, .inr (ci, fs))] = _ from hw.symm] at hP1 hD1
  exact kk q (uOk_of hC0 hD1) H1 locs arr hn hP1 hS1 hl
theorem u_newq {t0 N' index : Nat} {t : FieldType} {x : Int32} (hC : uOk l B X A es cc own dd ca sa) (hI : uI X) (ho : ∀ s, gI s → vAA t s) (hcl : Cond.classLink own index (FieldType.array t).toString ∈ TB) (ht : ∀ cy, (gT cy)[t0]? = some (cy t0, .array t)) (hn0 : ¬ x < 0) (hN : x.toNatClampNeg = N') (hby : N' * 4 ≤ 536870912) (hf : k + 1 ≤ ca ∧ m + N' ≤ sa) (hd : decode cc pc = .ok (.anewarray index, 3))
    (kk : ∀ q, uOk l B X A (es ++ [(q, .inl (zY X t0, N', .inr (.inr (.inr (.inr (fun _ => none))))))]) cc own dd ca sa → G (wU B (es ++ [(q, .inl (zY X t0, N', .inr (.inr (.inr (.inr (fun _ => none))))))])) (uX B X A (es ++ [(q, .inl (zY X t0, N', .inr (.inr (.inr (.inr (fun _ => none))))))])) (k + 1) (m + N') (pc + 3) ls (.ref q :: st) σ) : G (wU B es) (uX B X A es) k m pc ls (.int x :: st) σ := by
  obtain ⟨p, l', e', R, s, mm, args, below, meth, c, nL, H0, Af, E, Q⟩ := X
  have hC0 := hC
  obtain ⟨hx, hb, hml, hown, hTB, hK, hD, hA, hR, hlocks, hl', hh0, hNs⟩ := hC
  have hR : R = gR dd ca sa := hR
  subst hR
  have hl' : l' = l := hl'
  subst hl'
  subst hN
  intro H locs arr hn hP hS hl
  refine W.anewA hx hb hown (hTB _ hcl) (ho s hI) rfl hd rfl hn0 hby hf.1 hf.2 fun cA kA comp f1 f2 f3 f4 => ?_
  generalize hH1 : H.push ({ cls := cA, slots := Array.replicate x.toNatClampNeg .null, vm := .none } : Cell) = H1
  have z1 : H1.size = H.size + 1 := by rw [← hH1, Array.size_push]
  have e1 : H1[H.size]? = some (arrV cA x.toNatClampNeg (fun _ => .null)) := by rw [← hH1, Array.getElem?_push_size, ← arrV_new]
  have o1 : ∀ q : Nat, q < H.size → H1[q]? = H[q]? := fun q hq => by rw [← hH1, Array.getElem?_push, if_neg (Nat.ne_of_lt hq)]
  have hcA : cA = E.2.2 t0 := by
    have h1 : s.vm.findClass ("[" ++ (FieldType.array t).toString) = some (E.2.2 t0) := (hK.2 t0 _ (ht _)).2
    exact Option.some.inj (f1.symm.trans h1)
  subst hcA
  have hk : ∀ (k : Nat) (y : Nat × va_E), (gW (wU B es) (E.1, aU B A es, E.2.2) σ)[k]? = some y → H1[y.1]? = H[y.1]? := fun k y hy => o1 y.1 ((hP k y hy).lt)
  have hP1 : va_P E.1 vwCl (gW (wU B es) (E.1, aU B A es, E.2.2) σ ++ [(H.size, .inl (E.2.2 t0, x.toNatClampNeg, .inr (.inr (.inr (.inr (fun _ => none))))))]) H1 := (hP.kept hk).app (fun k y hy => by
    have hz : k < 1 := (List.getElem?_eq_some_iff.mp hy).1
    rw [show k = 0 by omega] at hy
    cases hy
    show H1[H.size]? = some (vp_cell _ _)
    rw [vp_cell_q]
    exact e1)
  have hD1 := (hD σ).push (e := .inl (E.2.2 t0, x.toNatClampNeg, .inr (.inr (.inr (.inr (fun _ => none)))))) hP rfl (hA _ hS.1)
  have hw := wU_app B A es [(H.size, .inl (E.2.2 t0, x.toNatClampNeg, .inr (.inr (.inr (.inr (fun _ => none))))))] E.1 E.2.2 σ
  rw [← hw] at hP1
  rw [show gW (wU B es) _ σ ++ [(H.size, .inl (E.2.2 t0, x.toNatClampNeg, .inr (.inr (.inr (.inr (fun _ => none))))))] = _ from hw.symm] at hD1
  exact kk H.size (uOk_of hC0 hD1) H1 locs arr hn hP1 ⟨Nat.le_trans hS.1 (by omega), fun y h1 h2 => (o1 y (Nat.lt_of_lt_of_le h1 hS.1)).trans (hS.2.1 y h1 h2), hS.2.2⟩ hl
/-! reading and writing cells that are told -/
theorem u_iald {a N j : Nat} {f : Nat → Int32} {x : Int32} (i : Nat) (hC : uOk l B X A es cc own dd ca sa) (hj : es[j]? = some (a, .inl (zY X 0, N, .inl f))) (hx0 : x = nI i) (hi : i < N) (hN : N < 2 ^ 31) (hd : decode cc pc = .ok (.iaload, 1)) (kk : G (wU B es) (uX B X A es) k m (pc + 1) ls (.int (f i) :: st) σ) : G (wU B es) (uX B X A es) k m pc ls (.int x :: .ref a :: st) σ := by
  obtain ⟨p, l', e', R, s, mm, args, below, meth, c, nL, H0, Af, E, Q⟩ := X
  obtain ⟨hx, hb, hml, hown, hTB, hK, hD, hA, hR, hlocks, hl', hh0, hNs⟩ := hC
  subst hx0
  have hcl : (nI i).toNatClampNeg = i := nI_clamp (by omega)
  exact fun H locs arr hn hP hS hl => va_iald hx hb hK hP (B.1 + j) 0 (n := N) (f := f) (wU_es hj) rfl (vp_in_nI hi hN) hd (by rw [hcl]; exact kk H locs arr hn hP hS hl)
theorem u_iast {a N j : Nat} {f : Nat → Int32} {x y : Int32} (i : Nat) (hC : uOk l B X A es cc own dd ca sa) (hj : es[j]? = some (a, .inl (zY X 0, N, .inl f))) (hx0 : x = nI i) (hi : i < N) (hN : N < 2 ^ 31) (hd : decode cc pc = .ok (.iastore, 1)) (kk : uOk l B X A (es.set j (a, .inl (zY X 0, N, .inl (upd f i y)))) cc own dd ca sa → G (wU B (es.set j (a, .inl (zY X 0, N, .inl (upd f i y))))) (uX B X A (es.set j (a, .inl (zY X 0, N, .inl (upd f i y))))) k m (pc + 1) ls st σ) : G (wU B es) (uX B X A es) k m pc ls (.int y :: .int x :: .ref a :: st) σ := by
  obtain ⟨p, l', e', R, s, mm, args, below, meth, c, nL, H0, Af, E, Q⟩ := X
  have hC0 := hC
  obtain ⟨hx, hb, hml, hown, hTB, hK, hD, hA, hR, hlocks, hl', hh0, hNs⟩ := hC
  have hl' : l' = l := hl'
  subst hl'
  subst hx0
  have hcl : (nI i).toNatClampNeg = i := nI_clamp (by omega)
  refine fun H locs arr hn hP hS hl => va_iast hx hb hK hP (hD σ) hS (B.1 + j) 0 (n := N) (f := f) (wU_es hj) rfl (vp_in_nI hi hN) hd (fun H1 locs1 hP1 hD1 hS1 => ?_)
  rw [hcl] at hP1 hD1
  have hw := wU_set B A es E.1 E.2.2 σ (j := j) (a, .inl (E.2.2 0, N, .inl (upd f i y)))
  exact kk (uOk_of (σ := σ) hC0 (Eq.mp (congrArg (va_D Af) hw) hD1)) H1 locs1 arr hn (Eq.mp (congrArg (fun w => va_P E.1 vwCl w H1) hw) hP1) hS1 hl
theorem u_alen {a t0 N j : Nat} {f : (Nat → Int32) ⊕ (Nat → Int64) ⊕ (Nat → UInt32) ⊕ (Nat → UInt64) ⊕ (Nat → Option Nat)} {ty : FieldType} (hC : uOk l B X A es cc own dd ca sa) (hj : es[j]? = some (a, .inl (zY X t0, N, f))) (ht : ∀ cy, (gT cy)[t0]? = some (cy t0, ty)) (hd : decode cc pc = .ok (.arraylength, 1)) (kk : G (wU B es) (uX B X A es) k m (pc + 1) ls (.int (nI N) :: st) σ) : G (wU B es) (uX B X A es) k m pc ls (.ref a :: st) σ := by
  obtain ⟨p, l', e', R, s, mm, args, below, meth, c, nL, H0, Af, E, Q⟩ := X
  obtain ⟨hx, hb, hml, hown, hTB, hK, hD, hA, hR, hlocks, hl', hh0, hNs⟩ := hC
  exact fun H locs arr hn hP hS hl => va_alen hx hb hK hP (B.1 + j) t0 (x := (N, f)) (wU_es hj) (ht _) (v := nI N) rfl hd (kk H locs arr hn hP hS hl)
theorem u_aald {a t0 N j v : Nat} {f : Nat → Option Nat} {t : FieldType} {x : Int32} (i : Nat) (hC : uOk l B X A es cc own dd ca sa) (hj : es[j]? = some (a, .inl (zY X t0, N, .inr (.inr (.inr (.inr f)))))) (ht : ∀ cy, (gT cy)[t0]? = some (cy t0, .array t)) (hx0 : x = nI i) (hi : i < N) (hN : N < 2 ^ 31) (hf : f i = some v) (hd : decode cc pc = .ok (.aaload, 1)) (kk : G (wU B es) (uX B X A es) k m (pc + 1) ls (.ref v :: st) σ) : G (wU B es) (uX B X A es) k m pc ls (.int x :: .ref a :: st) σ := by
  obtain ⟨p, l', e', R, s, mm, args, below, meth, c, nL, H0, Af, E, Q⟩ := X
  obtain ⟨hx, hb, hml, hown, hTB, hK, hD, hA, hR, hlocks, hl', hh0, hNs⟩ := hC
  subst hx0
  have hcl : (nI i).toNatClampNeg = i := nI_clamp (by omega)
  refine fun H locs arr hn hP hS hl => W.aald (v := .ref v) (ty := .array t) hx hb (hP (B.1 + j) _ (wU_es hj)) ((hK.2 t0 _ (ht _)).1 N (fun j => va_rf (f j))) rfl (fun q => by cases q) (by show ¬ (_ < 0 ∨ (arrV _ _ _).slots.size ≤ _); rw [arrV_size]; exact vp_in_nI hi hN) (by show (arrV _ _ _).slots[_]? = _; rw [hcl, arrV_read _ _ hi, hf]; rfl) rfl rfl hd (kk H locs arr hn hP hS hl)
theorem u_aast {a v t0 tv N j jv : Nat} {xv : vp_A} {f : Nat → Option Nat} {t tc : FieldType} {x : Int32} (i : Nat) (hC : uOk l B X A es cc own dd ca sa) (hI : uI X) (ho : ∀ s, gI s → vAA t s) (hj : es[j]? = some (a, .inl (zY X t0, N, .inr (.inr (.inr (.inr f)))))) (hv : es[jv]? = some (v, .inl (zY X tv, xv))) (ht : ∀ cy, (gT cy)[t0]? = some (cy t0, .array t)) (htv : ∀ cy, (gT cy)[tv]? = some (cy tv, tc)) (hnm : ∀ (U : State) (cA : ClassId), va_RA U cA tc = (U.vm.findClass (FieldType.array t).toString = some cA)) (hx0 : x = nI i) (hi : i < N) (hN : N < 2 ^ 31) (hd : decode cc pc = .ok (.aastore, 1)) (kk : uOk l B X A (es.set j (a, .inl (zY X t0, N, .inr (.inr (.inr (.inr (va_up f i (some v)))))))) cc own dd ca sa → G (wU B (es.set j (a, .inl (zY X t0, N, .inr (.inr (.inr (.inr (va_up f i (some v))))))))) (uX B X A (es.set j (a, .inl (zY X t0, N, .inr (.inr (.inr (.inr (va_up f i (some v))))))))) k m (pc + 1) ls st σ) : G (wU B es) (uX B X A es) k m pc ls (.ref v :: .int x :: .ref a :: st) σ := by
  obtain ⟨p, l', e', R, s, mm, args, below, meth, c, nL, H0, Af, E, Q⟩ := X
  have hC0 := hC
  obtain ⟨hx, hb, hml, hown, hTB, hK, hD, hA, hR, hlocks, hl', hh0, hNs⟩ := hC
  have hl' : l' = l := hl'
  subst hl'
  subst hx0
  have hcl : (nI i).toNatClampNeg = i := nI_clamp (by omega)
  obtain ⟨comp, c0, kA, h1, -, h3, h4, h5⟩ := arrayOverA_spec (ho s hI)
  have hRA : s.vm.findClass ("[" ++ (FieldType.array t).toString) = some (E.2.2 t0) := (hK.2 t0 _ (ht _)).2
  have hc0 : c0 = E.2.2 t0 := Option.some.inj (h5.symm.trans hRA)
  subst hc0
  have hRV : va_RA s (E.2.2 tv) tc := (hK.2 tv _ (htv _)).2
  rw [hnm] at hRV
  have hcomp : comp = E.2.2 tv := Option.some.inj (h1.symm.trans hRV)
  subst hcomp
  obtain ⟨kC, hkC, -⟩ := Vm.findClass_spec hRV
  refine fun H locs arr hn hP hS hl => ?_
  have hcv : ∃ cv : Cell, H[v]? = some cv ∧ cv.cls = E.2.2 tv ∧ cv.vm = .none := by
    refine ⟨_, hP (B.1 + jv) _ (wU_es hv), ?_, ?_⟩
    · show (vp_cell (E.2.2 tv) xv).cls = _
      obtain ⟨n0, g0⟩ := xv
      rcases g0 with g0 | g0 | g0 | g0 | g0 <;> rfl
    · show (vp_cell (E.2.2 tv) xv).vm = _
      obtain ⟨n0, g0⟩ := xv
      rcases g0 with g0 | g0 | g0 | g0 | g0 <;> rfl
  obtain ⟨cv, g1, g2, g3⟩ := hcv
  refine W.aast hx hb (hP (B.1 + j) _ (wU_es hj)) (fun q h => by cases h) (fun h => by cases h) h3 h4 rfl hkC ⟨nI_pos (by omega), by show _ < (arrV _ _ _).slots.size; rw [arrV_size, hcl]; exact hi⟩ g1 (fun q h => by rw [g3] at h; cases h) (by rw [g2]; exact hkC) (by rw [g2]; exact u_asg _ _) rfl rfl hd fun H1 e z oq => ?_
  have hat := wU_es (A := A) (D := E.1) (cy := E.2.2) (σ := σ) (B := B) hj
  have hP1 := hP.set (e := .inl (E.2.2 t0, N, .inr (.inr (.inr (.inr (va_up f i (some v))))))) (hD σ) hat (by
    show H1[a]? = some (vp_cell _ _)
    rw [e]
    show some ((vp_cell (E.2.2 t0) (N, .inr (.inr (.inr (.inr f))))).setSlot _ _) = some (vp_cell (E.2.2 t0) (N, .inr (.inr (.inr (.inr (va_up f i (some v)))))))
    rw [vp_cell_q, vp_cell_q, arrV_store, hcl]
    congr 2
    funext q
    by_cases hq : q = i
    · subst hq
      simp [updV, va_up, va_rf]
    · simp [updV, va_up, hq]) oq
  have hD1 := (hD σ).set (e := .inl (E.2.2 t0, N, .inr (.inr (.inr (.inr (va_up f i (some v))))))) hat
  have hw := wU_set B A es E.1 E.2.2 σ (j := j) (a, .inl (E.2.2 t0, N, .inr (.inr (.inr (.inr (va_up f i (some v)))))))
  exact kk (uOk_of (σ := σ) hC0 (Eq.mp (congrArg (va_D Af) hw) hD1)) H1 _ arr hn (Eq.mp (congrArg (fun w => va_P E.1 vwCl w H1) hw) hP1) (hS.put z oq ((hD σ).2 (B.1 + j) _ hat)) hl
theorem u_get {C : String} {T : u_T} {N ci a j index : Nat} {fs : List Value} {v : Value} (hC : uOk l B X A es cc own dd ca sa) (hat : es[j]? = some (a, .inr (ci, fs))) (hin : ∀ w ∈ u_ws C T N, w ∈ TB) (hc : vwCl[ci]? = some (C, T, N)) (i : Nat) (hi : i < N) (hlk : Cond.fieldLink own index (T i).1 (T i).2.1 (T i).2.2.1 ∈ TB) (hv : fs[i]? = some v) (hd : decode cc pc = .ok (.getfield index, 3)) (kk : G (wU B es) (uX B X A es) k m (pc + 3) ls (v :: st) σ) : G (wU B es) (uX B X A es) k m pc ls (.ref a :: st) σ := by
  obtain ⟨p, l', e', R, s, mm, args, below, meth, c, nL, H0, Af, E, Q⟩ := X
  obtain ⟨hx, hb, hml, hown, hTB, hK, hD, hA, hR, hlocks, hl', hh0, hNs⟩ := hC
  exact fun H locs arr hn hP hS hl => va_get (D := E.1) (ci := ci) (v := v) (C := C) (T := T) (N := N) hx hb hTB hin hown hK hP (B.1 + j) (fs := fs) (wU_es hat) hc i hi (hTB _ hlk) (fun _ h9 => h9) hv hd (kk H locs arr hn hP hS hl)
theorem u_put {C : String} {T : u_T} {N ci a j index : Nat} {fs : List Value} {v : Value} {ty : FieldType} (ty0 : Nat → FieldType) (hC : uOk l B X A es cc own dd ca sa) (hat : es[j]? = some (a, .inr (ci, fs))) (hin : ∀ w ∈ u_ws C T N, w ∈ TB) (hty : ∀ k, k < N → parseFieldDescriptor (T k).2.2.1 = some (ty0 k)) (hnm : ∀ a, a < N → ∀ b, b < N → a ≠ b → (T a).2.1 ≠ (T b).2.1) (hc : vwCl[ci]? = some (C, T, N)) (i : Nat) (hi : i < N) (hlk : Cond.fieldLink own index (T i).1 (T i).2.1 (T i).2.2.1 ∈ TB) (hfin : (T i).2.2.2 = false) (hpd : parseFieldDescriptor (T i).2.2.1 = some ty) (hna : narrow ty v = v) (hfit : fits ty v = true) (hl0 : i < fs.length) (hd : decode cc pc = .ok (.putfield index, 3)) (kk : uOk l B X A (es.set j (a, .inr (ci, fs.set i v))) cc own dd ca sa → G (wU B (es.set j (a, .inr (ci, fs.set i v)))) (uX B X A (es.set j (a, .inr (ci, fs.set i v)))) k m (pc + 3) ls st σ) : G (wU B es) (uX B X A es) k m pc ls (v :: .ref a :: st) σ := by
  obtain ⟨p, l', e', R, s, mm, args, below, meth, c, nL, H0, Af, E, Q⟩ := X
  have hC0 := hC
  obtain ⟨hx, hb, hml, hown, hTB, hK, hD, hA, hR, hlocks, hl', hh0, hNs⟩ := hC
  have hl' : l' = l := hl'
  subst hl'
  refine fun H locs arr hn hP hS hl => va_put (D := E.1) (ci := ci) (v := v) (ty := ty) (C := C) (T := T) (N := N) hx hb hTB hin ty0 hty hnm hown hK hP (hD σ) hS (B.1 + j) (fs := fs) (wU_es hat) hc i hi (hTB _ hlk) (fun _ h9 => h9) hfin hpd hna hfit hl0 hd (fun H1 locs1 hP1 hD1 hS1 => ?_)
  have hw := wU_set B A es E.1 E.2.2 σ (j := j) (a, .inr (ci, fs.set i v))
  exact kk (uOk_of (σ := σ) hC0 (Eq.mp (congrArg (va_D Af) hw) hD1)) H1 locs1 arr hn (Eq.mp (congrArg (fun w => va_P E.1 vwCl w H1) hw) hP1) hS1 hl
end UR
