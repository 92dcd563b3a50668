/-! constructors: from the fresh object to the block of cells that it makes -/
theorem nd_of : ∀ (w : List Nat), w.Nodup → va_nd w = true
  | [], _ => rfl
  | a :: w, h => by
    rw [List.nodup_cons] at h
    simp only [va_nd, Bool.and_eq_true, decide_eq_true_eq]
    exact ⟨h.1, nd_of w h.2⟩
theorem nd_range (n : Nat) : va_nd (List.range n) = true := nd_of _ List.nodup_range
def gKI (l : Launch) (y : MethodName) (cd : Cond) (d mc ms ci : Nat) (fs0 as : List Value) (nb : Nat) (Q : va_G → (Nat → ClassId) → (Nat → Nat) → (Nat → va_E) → Prop) : Prop :=
  ∀ (D : va_G) (cy : Nat → ClassId) (h0 sz : Nat), Met l y (cd :: TB) (gR d mc ms) (va_Pc (.ref h0 :: as) (fun U => U.heap.size = sz ∧ va_P D vwCl [(h0, .inr (ci, fs0))] U.heap ∧ va_K D vwCl (gT cy) U ∧ va_D (fun _ => True) [(h0, .inr (ci, fs0))] ∧ gN U ∧ gO U)) (va_Qv (fun u : (Nat → Nat) × (Nat → va_E) => u.1 0 = h0 ∧ Q D cy u.1 u.2) (fun u t => va_P D vwCl (gW (pZ nb u.2) (D, u.1, cy) zM) t.heap ∧ va_D (va_A [(h0, .inr (ci, fs0))] sz) (gW (pZ nb u.2) (D, u.1, cy) zM)) (va_A [(h0, .inr (ci, fs0))] sz)) mc ms (va_A [(h0, .inr (ci, fs0))] sz)
theorem gKI_of {l : Launch} {y : MethodName} {cc : ByteArray} {maxL d mc ms ci nb : Nat} {fs0 as : List Value} {Q : va_G → (Nat → ClassId) → (Nat → Nat) → (Nat → va_E) → Prop} (hy : plainName y.cls = true) (hyn : y.name = "<init>") (hlen : ∀ h0, (lg_sl (.ref h0 :: as)).length ≤ maxL)
    (body : ∀ (X : gC) (h0 : Nat), zOk l X (fun _ => h0) 1 cc y.cls d mc ms → zI X → (∀ (k n pc : Nat) (ls : List (Option Value)) (A : Nat → Nat) (e : Nat → va_E), decode cc pc = .ok (.return_, 1) → k ≤ mc → n ≤ ms → A 0 = h0 → zOk l X A nb cc y.cls d mc ms → Q (gEv X).1 (zY X) A e → G (pZ nb e) (sx X A) k n pc ls [] zM) → G (pZ 1 (fun _ => .inr (ci, fs0))) (sx X (fun _ => h0)) 0 0 0 (gent maxL (.ref h0 :: as)) [] zM) : gKI l y (.code y cc maxL none) d mc ms ci fs0 as nb Q := by
  intro D cy h0 sz
  refine Met.ofW (cc := cc) (maxL := maxL) (ret := none) hy rfl ?_
  intro p e s m args below meth c s₁ B hml hv
  obtain ⟨rfl, hsz, hP0, hK, hD0, hNs, hO⟩ := hv
  have hx := B.exec
  have hb := B.bytes
  have hr := B.returns
  have hts := atoms_spec (ws := Cond.code y cc maxL none :: TB) B.pre
  have hown : s.vm.findClass y.cls = some m.cls := findClass_of_methodNamed B.named
  have hlocks := B.notSynchronized
  have hin : meth.name = "<init>" := (name_of_methodNamed B.named B.method).1.trans hyn
  subst hsz
  have hl0 : lv_has ((lg_sl (.ref h0 :: as) ++ List.replicate (maxL - (lg_sl (.ref h0 :: as)).length) Slot.unset).toArray) maxL (gl 0 (gent maxL (.ref h0 :: as))) := by
    have h1 := lv_entry (.ref h0 :: as) (n := maxL) (hlen h0)
    exact ⟨h1.1, h1.2.1, fun q hq => h1.2.2 q (gent_mem _ _ _ q hq)⟩
  rw [lg_entry_eq]
  have hD1 : va_D (va_A [(h0, .inr (ci, fs0))] s.heap.size) [(h0, .inr (ci, fs0))] := hD0.self (sz := s.heap.size)
  refine body (p, l, e, gR d mc ms, s, m, (Value.ref h0 :: as).toArray, below, meth, c, maxL, s.heap, va_A [(h0, .inr (ci, fs0))] s.heap.size, (D, (fun _ => h0), cy), MQ below (va_Qv (fun u : (Nat → Nat) × (Nat → va_E) => u.1 0 = h0 ∧ Q D cy u.1 u.2) (fun u t => va_P D vwCl (gW (pZ nb u.2) (D, u.1, cy) zM) t.heap ∧ va_D (va_A [(h0, .inr (ci, fs0))] s.heap.size) (gW (pZ nb u.2) (D, u.1, cy) zM)) (va_A [(h0, .inr (ci, fs0))] s.heap.size)) (Value.ref h0 :: as).toArray s mc ms (va_A [(h0, .inr (ci, fs0))] s.heap.size)) h0
    (fun e2 => ⟨hx, hb, hml, hown, fun w hw => hts w (List.mem_cons_of_mem _ hw), hK, fun σ => pD_e (n := 1) (e := fun _ => .inr (ci, fs0)) (σ := zM) hD1, fun q h => Or.inr h, rfl, hlocks, rfl, rfl, hNs⟩) ⟨hin, hO⟩ ?_ s.heap [] _ (gent_len _ _ (hlen h0)) hP0 va_S.rf hl0
  intro k n pc ls A e2 hd hk hn1 hA0 hC2 hQ H locs arr hn hP1 hS1 hl1
  obtain ⟨-, -, -, -, -, -, hD2, -⟩ := hC2 e2
  exact W.widen hk hn1 (W.vret hx hb hr (fun t ht hW => ⟨⟨(A, e2), rfl, ⟨hA0, hQ⟩, by show va_P _ _ _ t.heap; rw [ht]; exact hP1, hD2 zM⟩, hS1.F ht⟩) hS1.2.2 hd hlocks)
section ZC
variable {l : Launch} {X : gC} {A : Nat → Nat} {n : Nat} {e : Nat → va_E} {cc : ByteArray} {own : String} {dd ca sa k m pc : Nat} {ls : List (Option Value)} {st : List Value}
theorem z_callI {y : MethodName} {bytes : ByteArray} {maxL d mc ms ci nb idx a : Nat} {fs0 as rest : List Value} {Q : va_G → (Nat → ClassId) → (Nat → Nat) → (Nat → va_E) → Prop} (na : Nat) (hC : zOk l X A (n + 1) cc own dd ca sa) (hI : zI X) (hM : gKI l y (.code y bytes maxL none) d mc ms ci fs0 as nb Q) (ha : A n = a) (he : e n = .inr (ci, fs0)) (hw1 : Cond.methodLink own idx y ∈ TB) (hw2 : Cond.instanceMethod y ∈ TB ∧ Cond.initialized y.cls ∈ TB ∧ Cond.code y bytes maxL none ∈ TB) (hy1 : y.name = "<init>") (hy : y.cls ≠ "java/lang/invoke/MethodHandle" ∧ y.cls ≠ "java/lang/invoke/VarHandle" ∧ (parseMethodDescriptor y.desc).map (fun d => d.parameters.length) = some na) (hR9 : d + 1 ≤ dd ∧ maxL ≤ 21) (hf : k + mc ≤ ca ∧ m + ms ≤ sa) (hna : as.length = na) (hrest : (rest.map fun v => v.category).sum ≤ 8) (hst : st = as.reverse ++ .ref a :: rest) (hd : decode cc pc = .ok (.invokespecial idx, 3))
    (kk : ∀ (Ab : Nat → Nat) (eb : Nat → va_E), Ab 0 = a → Q (gEv X).1 (zY X) Ab eb → zOk l X (jA n A Ab) (n + nb) cc own dd ca sa → G (pZ (n + nb) (jE n e eb)) (sx X (jA n A Ab)) (k + mc) (m + ms) (pc + 3) ls rest zM) : G (pZ (n + 1) e) (sx X A) k m pc ls st zM := by
  subst ha
  obtain ⟨p, l', e', R, s, mm, args, below, meth, c, nL, H0, Af, E, Qs⟩ := X
  obtain ⟨hx, hb, hml, hown, hTB, hK, hD, hA, hR, hlocks, hl', hh0, hNs⟩ := hC e
  have hR : R = gR dd ca sa := hR
  subst hR
  have hl' : l' = l := hl'
  subst hl'
  have hI : meth.name = "<init>" ∧ gO s := hI
  have hRR : (gR d mc ms).frames + 1 ≤ (gR dd ca sa).frames ∧ 8 + (maxL + 11) + (gR d mc ms).locals ≤ (gR dd ca sa).locals := by
    refine ⟨hR9.1, ?_⟩
    show 8 + (maxL + 11) + 40 * d ≤ 40 * dd
    omega
  intro H locs arr hn hP hS hl
  have hat : (gW (pZ (n + 1) e) (E.1, A, E.2.2) zM)[n]? = some (A n, .inr (ci, fs0)) := by rw [pW_at e E.1 A E.2.2 (Nat.lt_succ_self n), he]
  have hs : [n].map (fun i => (gW (pZ (n + 1) e) (E.1, A, E.2.2) zM)[i]?) = [(A n, (.inr (ci, fs0) : va_E))].map some := by
    show [(gW (pZ (n + 1) e) (E.1, A, E.2.2) zM)[n]?] = _
    rw [hat]; rfl
  have hPc : va_P E.1 vwCl [(A n, .inr (ci, fs0))] H := hP.by (fun _ => n) (fun k2 q hk => by
    obtain rfl : k2 = 0 := by have := (List.getElem?_eq_some_iff.mp hk).1; simp at this; omega
    cases hk; exact hat)
  have hDc := (hD zM).sub (ws' := [(A n, .inr (ci, fs0))]) [n] rfl hs
  have hFc := va_free (wc := [(A n, .inr (ci, fs0))]) (hD zM) hS hA [n] hs
  refine va_callv (va_runI (As := as) (rest := rest) (b := A n) (Ts := TB) (own := own) ⟨hx, hb, hml, hown, hTB⟩ (hM E.1 E.2.2 (A n) H.size) (cwI na hTB (gi_cons hw2.2.2 gi_self) rfl rfl rfl (hTB _ hw2.2.1) (hTB _ hw1) (hTB _ hw2.1) hy1 hy hRR) ⟨fun a U g mk q => by obtain ⟨q0, q1, qP, qK, qD, qN, qO⟩ := q; exact ⟨q0, q1, qP, va_K.moved (u := U) (U := U.calling g mk a) (Vm.Alike.refl U.vm) qK, qD, gN.same (u := U) (U := U.calling g mk a) rfl qN, gO.moved (u := U) (U := U.calling g mk a) (Vm.Alike.refl U.vm) qO⟩, fun U hU hW => ⟨rfl, by rw [hU], by rw [hU]; exact hPc, va_K.moved hW.alike hK, hDc.weaken (fun _ _ _ _ => trivial), gN.warm hW hNs, gO.moved hW.alike hI.2⟩⟩ rfl hna hl.1 hst (lv_room hrest) hd hf) hS (fun q _ h => hFc q h) hFc (fun u t H1 locs1 ht hvm hw hB hz1 hk1 hS1 => ?_)
  have hB1 := hB.1
  rw [ht] at hB1
  obtain ⟨hP2, hD2⟩ := va_join (wr := gW (pZ n e) (E.1, A, E.2.2) zM) (w1 := gW (pZ nb u.2) (E.1, u.1, E.2.2) zM) hP (hD zM) [n] (List.range n) hs (by
    show _ = ((List.range n).map _).map some
    rw [List.map_map]
    exact List.map_congr_left (fun i hi => pW_at e E.1 A E.2.2 (Nat.lt_succ_of_lt (List.mem_range.mp hi)))) (nd_range n) (fun i hi => by have := List.mem_range.mp hi; simp; omega) hk1 hFc hB1 hB.2
  rw [← pW_app] at hP2 hD2
  exact kk u.1 u.2 hw.1 hw.2 (fun e2 => ⟨hx, hb, hml, hown, hTB, hK, fun σ => pD_e hD2, hA, rfl, hlocks, rfl, hh0, hNs⟩) H1 locs1 arr hn hP2 hS1 hl
theorem z_callN {y : MethodName} {bytes : ByteArray} {maxL d mc ms ci nb idx a : Nat} {fs0 as rest : List Value} {Q : va_G → (Nat → ClassId) → (Nat → Nat) → (Nat → va_E) → Prop} (na : Nat) (hC : zOk l X A (n + 1) cc own dd ca sa) (hI : zI X) (hM : gKI l y (.code y bytes maxL none) d mc ms ci fs0 as nb Q) (ha : A n = a) (he : e n = .inr (ci, fs0)) {host : String} (hw1 : Cond.methodLinkNest own idx y host ∈ NWn) (hw2 : Cond.instanceMethod y ∈ TB ∧ Cond.initialized y.cls ∈ TB ∧ Cond.code y bytes maxL none ∈ TB) (hy1 : y.name = "<init>") (hy : y.cls ≠ "java/lang/invoke/MethodHandle" ∧ y.cls ≠ "java/lang/invoke/VarHandle" ∧ (parseMethodDescriptor y.desc).map (fun d => d.parameters.length) = some na) (hR9 : d + 1 ≤ dd ∧ maxL ≤ 21) (hf : k + mc ≤ ca ∧ m + ms ≤ sa) (hna : as.length = na) (hrest : (rest.map fun v => v.category).sum ≤ 8) (hst : st = as.reverse ++ .ref a :: rest) (hd : decode cc pc = .ok (.invokespecial idx, 3))
    (kk : ∀ (Ab : Nat → Nat) (eb : Nat → va_E), Ab 0 = a → Q (gEv X).1 (zY X) Ab eb → zOk l X (jA n A Ab) (n + nb) cc own dd ca sa → G (pZ (n + nb) (jE n e eb)) (sx X (jA n A Ab)) (k + mc) (m + ms) (pc + 3) ls rest zM) : G (pZ (n + 1) e) (sx X A) k m pc ls st zM := by
  subst ha
  obtain ⟨p, l', e', R, s, mm, args, below, meth, c, nL, H0, Af, E, Qs⟩ := X
  obtain ⟨hx, hb, hml, hown, hTB, hK, hD, hA, hR, hlocks, hl', hh0, hNs⟩ := hC e
  have hR : R = gR dd ca sa := hR
  subst hR
  have hl' : l' = l := hl'
  subst hl'
  have hI : meth.name = "<init>" ∧ gO s := hI
  have hRR : (gR d mc ms).frames + 1 ≤ (gR dd ca sa).frames ∧ 8 + (maxL + 11) + (gR d mc ms).locals ≤ (gR dd ca sa).locals := by
    refine ⟨hR9.1, ?_⟩
    show 8 + (maxL + 11) + 40 * d ≤ 40 * dd
    omega
  intro H locs arr hn hP hS hl
  have hat : (gW (pZ (n + 1) e) (E.1, A, E.2.2) zM)[n]? = some (A n, .inr (ci, fs0)) := by rw [pW_at e E.1 A E.2.2 (Nat.lt_succ_self n), he]
  have hs : [n].map (fun i => (gW (pZ (n + 1) e) (E.1, A, E.2.2) zM)[i]?) = [(A n, (.inr (ci, fs0) : va_E))].map some := by
    show [(gW (pZ (n + 1) e) (E.1, A, E.2.2) zM)[n]?] = _
    rw [hat]; rfl
  have hPc : va_P E.1 vwCl [(A n, .inr (ci, fs0))] H := hP.by (fun _ => n) (fun k2 q hk => by
    obtain rfl : k2 = 0 := by have := (List.getElem?_eq_some_iff.mp hk).1; simp at this; omega
    cases hk; exact hat)
  have hDc := (hD zM).sub (ws' := [(A n, .inr (ci, fs0))]) [n] rfl hs
  have hFc := va_free (wc := [(A n, .inr (ci, fs0))]) (hD zM) hS hA [n] hs
  refine va_callv (va_runIN (As := as) (rest := rest) (b := A n) (Ts := TB) (own := own) ⟨hx, hb, hml, hown, hTB⟩ (hM E.1 E.2.2 (A n) H.size) ⟨va_cnB (ret := none) (bytes := bytes) (maxL := maxL) na hTB (gi_cons hw2.2.2 gi_self) rfl rfl rfl (hNs.1 _ hw1) (hTB _ hw2.2.1) hy hRR, hy1, hTB _ hw2.1⟩ ⟨fun a U g mk q => by obtain ⟨q0, q1, qP, qK, qD, qN, qO⟩ := q; exact ⟨q0, q1, qP, va_K.moved (u := U) (U := U.calling g mk a) (Vm.Alike.refl U.vm) qK, qD, gN.same (u := U) (U := U.calling g mk a) rfl qN, gO.moved (u := U) (U := U.calling g mk a) (Vm.Alike.refl U.vm) qO⟩, fun U hU hW => ⟨rfl, by rw [hU], by rw [hU]; exact hPc, va_K.moved hW.alike hK, hDc.weaken (fun _ _ _ _ => trivial), gN.warm hW hNs, gO.moved hW.alike hI.2⟩⟩ rfl hna hl.1 hst (lv_room hrest) hd hf) hS (fun q _ h => hFc q h) hFc (fun u t H1 locs1 ht hvm hw hB hz1 hk1 hS1 => ?_)
  have hB1 := hB.1
  rw [ht] at hB1
  obtain ⟨hP2, hD2⟩ := va_join (wr := gW (pZ n e) (E.1, A, E.2.2) zM) (w1 := gW (pZ nb u.2) (E.1, u.1, E.2.2) zM) hP (hD zM) [n] (List.range n) hs (by
    show _ = ((List.range n).map _).map some
    rw [List.map_map]
    exact List.map_congr_left (fun i hi => pW_at e E.1 A E.2.2 (Nat.lt_succ_of_lt (List.mem_range.mp hi)))) (nd_range n) (fun i hi => by have := List.mem_range.mp hi; simp; omega) hk1 hFc hB1 hB.2
  rw [← pW_app] at hP2 hD2
  exact kk u.1 u.2 hw.1 hw.2 (fun e2 => ⟨hx, hb, hml, hown, hTB, hK, fun σ => pD_e hD2, hA, rfl, hlocks, rfl, hh0, hNs⟩) H1 locs1 arr hn hP2 hS1 hl
end ZC

