/-! worlds that grow: the cells as plain data; contracts of constructors -/
def gO (U : State) : Prop := va_AO "GemCut$Flaw" U ∧ va_AO "GemCut$Plane" U ∧ va_AO "GemCut$Stone" U
theorem gO.moved {u U : State} (hvm : u.vm.Alike U.vm) (h : gO u) : gO U := ⟨va_AO.moved hvm h.1, va_AO.moved hvm h.2.1, va_AO.moved hvm h.2.2⟩
def pZ (n : Nat) (e : Nat → va_E) : gL := (n, fun _ _ i => e i)
def zM : Mem := fun _ _ => 0
def uA (A : Nat → Nat) (i q : Nat) : Nat → Nat := fun j => if j = i then q else A j
def uE (e : Nat → va_E) (i : Nat) (v : va_E) : Nat → va_E := fun j => if j = i then v else e j
def jA (n : Nat) (A Ab : Nat → Nat) : Nat → Nat := fun i => if i < n then A i else Ab (i - n)
def jE (n : Nat) (e eb : Nat → va_E) : Nat → va_E := fun i => if i < n then e i else eb (i - n)
def sx (X : gC) (A : Nat → Nat) : gC := match X with
  | (p, l, e, R, s, m, args, below, meth, c, nL, H0, Af, E, Q) => (p, l, e, R, s, m, args, below, meth, c, nL, H0, Af, (E.1, A, E.2.2), Q)
def zY (X : gC) : Nat → ClassId := (gEv X).2.2
def zOk (l : Launch) (X : gC) (A : Nat → Nat) (n : Nat) (cc : ByteArray) (own : String) (dd ca sa : Nat) : Prop := ∀ e, gOk (pZ n e) l (sx X A) cc own dd ca sa
def zI (X : gC) : Prop := match X with
  | (_, _, _, _, s, _, _, _, meth, _, _, _, _, _, _) => meth.name = "<init>" ∧ gO s
theorem sx_A (X : gC) (A : Nat → Nat) : gA (sx X A) = A := by obtain ⟨p, l', e', R, s, mm, args, below, meth, c, nL, H0, Af, E, Q⟩ := X; rfl
theorem sx_Y (X : gC) (A : Nat → Nat) : (gEv (sx X A)).2.2 = zY X := by obtain ⟨p, l', e', R, s, mm, args, below, meth, c, nL, H0, Af, E, Q⟩ := X; rfl
theorem pW_at {n : Nat} (e : Nat → va_E) (D : va_G) (A : Nat → Nat) (cy : Nat → ClassId) {i : Nat} (h : i < n) : (gW (pZ n e) (D, A, cy) zM)[i]? = some (A i, e i) := gW_at (pZ n e) (D, A, cy) zM h
theorem pW_len (n : Nat) (e : Nat → va_E) (D : va_G) (A : Nat → Nat) (cy : Nat → ClassId) : (gW (pZ n e) (D, A, cy) zM).length = n := gW_len (pZ n e) (D, A, cy) zM
theorem pW_app (n nb : Nat) (A Ab : Nat → Nat) (e eb : Nat → va_E) (D : va_G) (cy : Nat → ClassId) : gW (pZ (n + nb) (jE n e eb)) (D, jA n A Ab, cy) zM = gW (pZ n e) (D, A, cy) zM ++ gW (pZ nb eb) (D, Ab, cy) zM := by
  apply List.ext_getElem?
  intro i
  rcases Nat.lt_or_ge i n with h | h
  · rw [pW_at _ _ _ _ (show i < n + nb by omega), List.getElem?_append_left (by rw [pW_len]; exact h), pW_at _ _ _ _ h]
    simp [jA, jE, h]
  · rw [List.getElem?_append_right (by rw [pW_len]; exact h), pW_len]
    rcases Nat.lt_or_ge i (n + nb) with h2 | h2
    · rw [pW_at _ _ _ _ h2, pW_at _ _ _ _ (show i - n < nb by omega)]
      simp [jA, jE, show ¬ i < n by omega]
    · rw [List.getElem?_eq_none (by rw [pW_len]; exact h2), List.getElem?_eq_none (by rw [pW_len]; omega)]
theorem pW_snoc (n : Nat) (e : Nat → va_E) (A : Nat → Nat) (q : Nat) (v : va_E) (D : va_G) (cy : Nat → ClassId) : gW (pZ (n + 1) (uE e n v)) (D, uA A n q, cy) zM = gW (pZ n e) (D, A, cy) zM ++ [(q, v)] := by
  apply List.ext_getElem?
  intro i
  rcases Nat.lt_or_ge i n with h | h
  · rw [pW_at _ _ _ _ (show i < n + 1 by omega), List.getElem?_append_left (by rw [pW_len]; exact h), pW_at _ _ _ _ h]
    simp [uA, uE, show ¬ i = n by omega]
  · rw [List.getElem?_append_right (by rw [pW_len]; exact h), pW_len]
    rcases Nat.lt_or_ge i (n + 1) with h2 | h2
    · obtain rfl : i = n := by omega
      rw [pW_at _ _ _ _ h2]
      simp [uA, uE]
    · rw [List.getElem?_eq_none (by rw [pW_len]; exact h2), List.getElem?_eq_none (by simp; omega)]
theorem pW_set {n i : Nat} (h : i < n) (e : Nat → va_E) (A : Nat → Nat) (v : va_E) (D : va_G) (cy : Nat → ClassId) : (gW (pZ n e) (D, A, cy) zM).set i (A i, v) = gW (pZ n (uE e i v)) (D, A, cy) zM := by
  apply List.ext_getElem?
  intro j
  rw [List.getElem?_set]
  by_cases hij : i = j
  · subst hij
    rw [if_pos rfl, if_pos (by rw [pW_len]; exact h), pW_at _ _ _ _ h]
    simp [uE]
  · rw [if_neg hij]
    rcases Nat.lt_or_ge j n with h2 | h2
    · rw [pW_at _ _ _ _ h2, pW_at _ _ _ _ h2]
      simp [uE, show ¬ j = i from fun z => hij z.symm]
    · rw [List.getElem?_eq_none (by rw [pW_len]; exact h2), List.getElem?_eq_none (by rw [pW_len]; exact h2)]
theorem pD_e {B : Nat → Prop} {n : Nat} {e e' : Nat → va_E} {D : va_G} {A : Nat → Nat} {cy : Nat → ClassId} {σ σ' : Mem} (h : va_D B (gW (pZ n e) (D, A, cy) σ)) : va_D B (gW (pZ n e') (D, A, cy) σ') := by
  have key : ∀ (k : Nat) (q : Nat × va_E), (gW (pZ n e') (D, A, cy) σ')[k]? = some q → ∃ q' : Nat × va_E, (gW (pZ n e) (D, A, cy) σ)[k]? = some q' ∧ q'.1 = q.1 := by
    intro k q hk
    have hk2 : k < n := by
      have := (List.getElem?_eq_some_iff.mp hk).1
      rwa [gW_len] at this
    rw [gW_at (pZ n e') _ _ hk2] at hk
    cases hk
    exact ⟨_, gW_at (pZ n e) _ _ hk2, rfl⟩
  refine ⟨fun i j p q hp hq hpq => ?_, fun k q hk => ?_⟩
  · obtain ⟨p', hp', ep⟩ := key i p hp
    obtain ⟨q', hq', eq⟩ := key j q hq
    exact h.1 i j p' q' hp' hq' (by rw [ep, eq, hpq])
  · obtain ⟨q', hq', eq⟩ := key k q hk
    rw [← eq]; exact h.2 k q' hq'
section ZR
variable {l : Launch} {X : gC} {A : Nat → Nat} {n : Nat} {e : Nat → va_E} {cc : ByteArray} {own : String} {dd ca sa k m pc : Nat} {ls : List (Option Value)} {st : List Value}
theorem z_new {C : String} {T : u_T} {N ci index : Nat} {fs : List Value} (ty : Nat → FieldType) (hC : zOk l X A n cc own dd ca sa) (hin : ∀ w ∈ u_ws C T N, w ∈ TB) (hty : ∀ k, k < N → parseFieldDescriptor (T k).2.2.1 = some (ty k)) (hcl : Cond.classLink own index C ∈ TB) (hinst : Cond.instantiable C N ∈ TB) (hini : Cond.initialized C ∈ TB) (hc : vwCl[ci]? = some (C, T, N)) (hfs : ∀ j, j < N → defaultValue (ty j) = vp_V fs j) (hf : k + 1 ≤ ca ∧ m + N ≤ sa) (hd : decode cc pc = .ok (.new index, 3))
    (kk : ∀ q, zOk l X (uA A n q) (n + 1) cc own dd ca sa → G (pZ (n + 1) (uE e n (.inr (ci, fs)))) (sx X (uA A n q)) (k + 1) (m + N) (pc + 3) ls (.ref q :: st) zM) : G (pZ n e) (sx X A) k m pc ls st zM := by
  obtain ⟨p, l', e', R, s, mm, args, below, meth, c, nL, H0, Af, E, Q⟩ := X
  obtain ⟨hx, hb, hml, hown, hTB, hK, hD, hA, hR, hlocks, hl', hh0, hNs⟩ := hC e
  have hR : R = gR dd ca sa := hR
  subst hR
  intro H locs arr hn hP hS hl
  refine va_new (ci := ci) (fs := fs) (C := C) (T := T) (N := N) hx hb hTB hin ty hty hown (hTB _ hcl) (hTB _ hinst) (hTB _ hini) hK hP (hD zM) hS hA hc hfs hf.1 hf.2 hd (fun q H1 hP1 hD1 hS1 => ?_)
  rw [← pW_snoc n e A q (.inr (ci, fs)) E.1 E.2.2] at hP1 hD1
  exact kk q (fun e2 => ⟨hx, hb, hml, hown, hTB, hK, fun σ => pD_e hD1, hA, rfl, hlocks, hl', hh0, hNs⟩) H1 locs arr hn hP1 hS1 hl
theorem z_newa {t0 N' : Nat} {ty : FieldType} {x : Int32} (aty : ArrayType) (hC : zOk l X A n cc own dd ca sa) (harr : Cond.arrayClass ty ∈ TB) (hty : newarray.typeOf aty = ty) (ht : ∀ cy, (gT cy)[t0]? = some (cy t0, ty)) (ha : ∀ cA : ClassId, vp_cell cA (N', .inl (fun _ => 0)) = arrV cA N' (fun _ => defaultValue ty)) (hp : ∀ (U : State) (cA : ClassId), va_RA U cA ty = (U.vm.findClass ("[" ++ ty.toString) = some cA)) (hn0 : ¬ x < 0) (hN : x.toNatClampNeg = N') (hby : N' * componentBytes ty ≤ 536870912) (hf : k + 1 ≤ ca ∧ m + N' ≤ sa) (hd : decode cc pc = .ok (.newarray aty, 2))
    (kk : ∀ q, zOk l X (uA A n q) (n + 1) cc own dd ca sa → G (pZ (n + 1) (uE e n (.inl (zY X t0, N', .inl (fun _ => 0))))) (sx X (uA A n q)) (k + 1) (m + N') (pc + 2) ls (.ref q :: st) zM) : G (pZ n e) (sx X A) k m pc ls (.int x :: st) zM := by
  obtain ⟨p, l', e', R, s, mm, args, below, meth, c, nL, H0, Af, E, Q⟩ := X
  obtain ⟨hx, hb, hml, hown, hTB, hK, hD, hA, hR, hlocks, hl', hh0, hNs⟩ := hC e
  have hR : R = gR dd ca sa := hR
  subst hR
  intro H locs arr hn hP hS hl
  refine va_newa (atype := aty) (ty := ty) (N' := N') (a0 := (N', .inl (fun _ => 0))) hx hb (by rw [hty]; exact hTB _ harr) hty hK hP (hD zM) hS hA ha hn0 hN hby hf.1 hf.2 hd ?_
  intro q cA H1 hK1 hP1 hD1 hS1
  have hcA : cA = E.2.2 t0 := by
    have h1 := (hK.2 t0 _ (ht _)).2
    have h2 := (hK1.2 7 (cA, ty) rfl).2
    have h1 : va_RA s (E.2.2 t0) ty := h1
    have h2 : va_RA s cA ty := h2
    rw [hp] at h1 h2
    exact Option.some.inj (h2.symm.trans h1)
  subst hcA
  rw [← pW_snoc n e A q (.inl (E.2.2 t0, N', .inl (fun _ => 0))) E.1 E.2.2] at hP1 hD1
  exact kk q (fun e2 => ⟨hx, hb, hml, hown, hTB, hK, fun σ => pD_e hD1, hA, rfl, hlocks, hl', hh0, hNs⟩) H1 locs arr hn hP1 hS1 hl
theorem z_newq {t0 N' index : Nat} {C : String} {x : Int32} (hC : zOk l X A n cc own dd ca sa) (hI : zI X) (ho : ∀ s, gO s → va_AO C s) (hcl : Cond.classLink own index C ∈ TB) (ht : ∀ cy, (gT cy)[t0]? = some (cy t0, .object C)) (hn0 : ¬ x < 0) (hN : x.toNatClampNeg = N') (hby : N' * 4 ≤ 536870912) (hf : k + 1 ≤ ca ∧ m + N' ≤ sa) (hd : decode cc pc = .ok (.anewarray index, 3))
    (kk : ∀ q, zOk l X (uA A n q) (n + 1) cc own dd ca sa → G (pZ (n + 1) (uE e n (.inl (zY X t0, N', .inr (.inr (.inr (.inr (fun _ => none)))))))) (sx X (uA A n q)) (k + 1) (m + N') (pc + 3) ls (.ref q :: st) zM) : G (pZ n e) (sx X A) k m pc ls (.int x :: st) zM := by
  obtain ⟨p, l', e', R, s, mm, args, below, meth, c, nL, H0, Af, E, Q⟩ := X
  obtain ⟨hx, hb, hml, hown, hTB, hK, hD, hA, hR, hlocks, hl', hh0, hNs⟩ := hC e
  have hR : R = gR dd ca sa := hR
  subst hR
  have hI : meth.name = "<init>" ∧ gO s := hI
  intro H locs arr hn hP hS hl
  refine va_newq hx hb hown (hTB _ hcl) (ho s hI.2) hK hP (hD zM) hS hA hn0 hN hby hf.1 hf.2 hd ?_
  intro q cA H1 hK1 hP1 hD1 hS1
  have hcA : cA = E.2.2 t0 := by
    have h1 := (hK.2 t0 _ (ht _)).2
    have h2 := (hK1.2 7 (cA, .object C) rfl).2
    obtain ⟨_, _, _, _, _, h1⟩ := h1
    obtain ⟨_, _, _, _, _, h2⟩ := h2
    exact Option.some.inj (h2.symm.trans h1)
  subst hcA
  rw [← pW_snoc n e A q (.inl (E.2.2 t0, N', .inr (.inr (.inr (.inr (fun _ => none)))))) E.1 E.2.2] at hP1 hD1
  exact kk q (fun e2 => ⟨hx, hb, hml, hown, hTB, hK, fun σ => pD_e hD1, hA, rfl, hlocks, hl', hh0, hNs⟩) H1 locs arr hn hP1 hS1 hl
theorem z_get {C : String} {T : u_T} {N ci i index a : Nat} {fs : List Value} {v : Value} (hC : zOk l X A n cc own dd ca sa) (ha : A i = a) (hin : ∀ w ∈ u_ws C T N, w ∈ TB) (hc : vwCl[ci]? = some (C, T, N)) (hi : i < n) (he : e i = .inr (ci, fs)) (j : Nat) (hj : j < N) (hlk : Cond.fieldLink own index (T j).1 (T j).2.1 (T j).2.2.1 ∈ TB) (hv : fs[j]? = some v) (hd : decode cc pc = .ok (.getfield index, 3)) (kk : G (pZ n e) (sx X A) k m (pc + 3) ls (v :: st) zM) : G (pZ n e) (sx X A) k m pc ls (.ref a :: st) zM := by
  subst ha
  obtain ⟨p, l', e', R, s, mm, args, below, meth, c, nL, H0, Af, E, Q⟩ := X
  exact g_get (hC e) hin hc hi he j hj hlk hv hd kk
theorem z_put {C : String} {T : u_T} {N ci i index a : Nat} {fs : List Value} {v : Value} {ty : FieldType} (ty0 : Nat → FieldType) (hC : zOk l X A n cc own dd ca sa) (ha : A i = a) (hin : ∀ w ∈ u_ws C T N, w ∈ TB) (hty : ∀ k, k < N → parseFieldDescriptor (T k).2.2.1 = some (ty0 k)) (hnm : ∀ a, a < N → ∀ b, b < N → a ≠ b → (T a).2.1 ≠ (T b).2.1) (hc : vwCl[ci]? = some (C, T, N)) (hi : i < n) (he : e i = .inr (ci, fs)) (j : Nat) (hj : j < N) (hlk : Cond.fieldLink own index (T j).1 (T j).2.1 (T j).2.2.1 ∈ TB) (hfin : (T j).2.2.2 = false) (hpd : parseFieldDescriptor (T j).2.2.1 = some ty) (hna : narrow ty v = v) (hfit : fits ty v = true) (hl0 : j < fs.length) (hd : decode cc pc = .ok (.putfield index, 3)) (kk : G (pZ n (uE e i (.inr (ci, fs.set j v)))) (sx X A) k m (pc + 3) ls st zM) : G (pZ n e) (sx X A) k m pc ls (v :: .ref a :: st) zM := by
  subst ha
  obtain ⟨p, l', e', R, s, mm, args, below, meth, c, nL, H0, Af, E, Q⟩ := X
  obtain ⟨hx, hb, hml, hown, hTB, hK, hD, hA, hR, hlocks, hl', hh0, hNs⟩ := hC e
  exact fun H locs arr hn hP hS hl => va_put (D := E.1) (ci := ci) (v := v) (ty := ty) (C := C) (T := T) (N := N) hx hb hTB hin ty0 hty hnm hown hK hP (hD zM) hS i (fs := fs) (by rw [← he]; exact pW_at e E.1 A E.2.2 hi) hc j hj (hTB _ hlk) (fun _ h9 => h9) hfin hpd hna hfit hl0 hd (fun H1 locs1 hP1 _ hS1 => kk H1 locs1 arr hn (by rw [pW_set hi e A (.inr (ci, fs.set j v)) E.1 E.2.2] at hP1; exact hP1) hS1 hl)
theorem z_putF {C : String} {T : u_T} {N ci i index a : Nat} {fs : List Value} {v : Value} {ty : FieldType} (ty0 : Nat → FieldType) (hC : zOk l X A n cc own dd ca sa) (hI : zI X) (ha : A i = a) (hin : ∀ w ∈ u_ws C T N, w ∈ TB) (hty : ∀ k, k < N → parseFieldDescriptor (T k).2.2.1 = some (ty0 k)) (hnm : ∀ a, a < N → ∀ b, b < N → a ≠ b → (T a).2.1 ≠ (T b).2.1) (hc : vwCl[ci]? = some (C, T, N)) (hi : i < n) (he : e i = .inr (ci, fs)) (j : Nat) (hj : j < N) (hlk : Cond.fieldLink own index (T j).1 (T j).2.1 (T j).2.2.1 ∈ TB) (hfin : (T j).2.2.2 = true) (hdecl : (T j).1 = own) (hpd : parseFieldDescriptor (T j).2.2.1 = some ty) (hna : narrow ty v = v) (hfit : fits ty v = true) (hl0 : j < fs.length) (hd : decode cc pc = .ok (.putfield index, 3)) (kk : G (pZ n (uE e i (.inr (ci, fs.set j v)))) (sx X A) k m (pc + 3) ls st zM) : G (pZ n e) (sx X A) k m pc ls (v :: .ref a :: st) zM := by
  subst ha
  obtain ⟨p, l', e', R, s, mm, args, below, meth, c, nL, H0, Af, E, Q⟩ := X
  obtain ⟨hx, hb, hml, hown, hTB, hK, hD, hA, hR, hlocks, hl', hh0, hNs⟩ := hC e
  have hI : meth.name = "<init>" ∧ gO s := hI
  exact fun H locs arr hn hP hS hl => va_putF (D := E.1) (ci := ci) (v := v) (ty := ty) (C := C) (T := T) (N := N) hx hb hTB hin ty0 hty hnm hown hK hP (hD zM) hS i (fs := fs) (by rw [← he]; exact pW_at e E.1 A E.2.2 hi) hc j hj (hTB _ hlk) (fun _ h9 => h9) hfin hI.1 hdecl hpd hna hfit hl0 hd (fun H1 locs1 hP1 _ hS1 => kk H1 locs1 arr hn (by rw [pW_set hi e A (.inr (ci, fs.set j v)) E.1 E.2.2] at hP1; exact hP1) hS1 hl)
theorem z_ast {i iv t0 N j ci a v : Nat} {f : Nat → Option Nat} {vs : List Value} {r : vw_C} {x : Int32} (hC : zOk l X A n cc own dd ca sa) (ha : A i = a) (hav : A iv = v) (hi : i < n) (hiv : iv < n) (he : e i = .inl (zY X t0, N, .inr (.inr (.inr (.inr f))))) (hev : e iv = .inr (ci, vs)) (ht : ∀ cy, (gT cy)[t0]? = some (cy t0, .object r.1)) (hc : vwCl[ci]? = some r) (hx0 : x = nI j) (hj : j < N) (hN : N < 2 ^ 31) (hd : decode cc pc = .ok (.aastore, 1)) (kk : G (pZ n (uE e i (.inl (zY X t0, N, .inr (.inr (.inr (.inr (va_up f j (some v))))))))) (sx X A) k m (pc + 1) ls st zM) : G (pZ n e) (sx X A) k m pc ls (.ref v :: .int x :: .ref a :: st) zM := by
  subst ha
  subst hav
  obtain ⟨p, l', e', R, s, mm, args, below, meth, c, nL, H0, Af, E, Q⟩ := X
  obtain ⟨hx, hb, hml, hown, hTB, hK, hD, hA, hR, hlocks, hl', hh0, hNs⟩ := hC e
  subst hx0
  have hcl : (nI j).toNatClampNeg = j := nI_clamp (by omega)
  refine fun H locs arr hn hP hS hl => va_astq (D := E.1) hx hb hK hP (hD zM) hS i t0 iv ci (by rw [pW_at e E.1 A E.2.2 hi, he]; rfl) (ht _) (by rw [pW_at e E.1 A E.2.2 hiv, hev]) hc (vp_in_nI hj hN) hd (fun H1 locs1 hP1 _ hS1 => kk H1 locs1 arr hn ?_ hS1 hl)
  rw [hcl, pW_set hi e A _ E.1 E.2.2] at hP1
  exact hP1
theorem z_obj {Lw : gL} {Y : gC} {σ : Mem} {idx a : Nat} (hC : gOk Lw l Y cc own dd ca sa) (hdd : 1 ≤ dd) (hlk : Cond.methodLink own idx ⟨"java/lang/Object", "<init>", "()V"⟩ ∈ TB) (hd : decode cc pc = .ok (.invokespecial idx, 3)) (hrest : (st.map fun v => v.category).sum ≤ 8) (kk : G Lw Y k m (pc + 3) ls st σ) : G Lw Y k m pc ls (.ref a :: st) σ := by
  obtain ⟨p, l', e', R, s, mm, args, below, meth, c, nL, H0, Af, E, Q⟩ := Y
  obtain ⟨hx, hb, hml, hown, hTB, hK, hD, hA, hR, hlocks, hl', hh0, hNs⟩ := hC
  subst hR
  intro H locs arr hn hP hS hl
  refine W.objInit hx hb hown (hTB _ hlk) (hTB _ tw_1_22) (hTB _ tw_1_23) rfl (by rw [hml]; exact hl.1) rfl hd hdd ?_ ?_
  · show 2 * (F0 mm pc arr (.ref a :: st)).monitorRoom + (st.map fun v => v.category).sum + 12 ≤ 40 * dd
    have h0 : (F0 mm pc arr (.ref a :: st)).monitorRoom = 0 := rfl
    omega
  · refine W.eq (g2 := F0 mm (pc + 3) arr st) rfl ?_
    exact kk H locs arr hn hP hS hl
end ZR

