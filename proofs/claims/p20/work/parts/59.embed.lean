/-! a world inside a greater one -/
def shE (o : Nat) (E : gE) : gE := (E.1, fun j => E.2.1 (j + o), E.2.2)
def shM (o : Nat) (σ : Mem) : Mem := fun j => σ (j + o)
def ptM (o n : Nat) (σ σ1 : Mem) : Mem := fun i => if o ≤ i ∧ i < o + n then σ1 (i - o) else σ i
def gEmb (Ll Lc : gL) (o : Nat) : Prop := Lc.1 + o ≤ Ll.1 ∧ ∀ (E : gE) (ρ : Nat → Int32) (j : Nat), j < Lc.1 → Ll.2 E ρ (j + o) = Lc.2 (shE o E) ρ j
def gZY (X : gC) : Prop := match X with
  | (_, _, _, _, s, _, _, _, _, _, _, _, A, _, _) => gZ A s s.heap ∧ gY s
section EMB
variable {Ll Lc : gL} {o : Nat}
theorem emb_at (hE : gEmb Ll Lc o) (E : gE) (σ : Mem) {j : Nat} (hj : j < Lc.1) : (gW Ll E σ)[j + o]? = (gW Lc (shE o E) (shM o σ))[j]? := by
  rw [gW_at Ll E σ (show j + o < Ll.1 by have := hE.1; omega), gW_at Lc _ _ hj, hE.2 _ _ _ hj]; rfl
theorem emb_sub (hE : gEmb Ll Lc o) {D : va_G} {E : gE} {σ : Mem} {H : Heap} (h : va_P D vwCl (gW Ll E σ) H) : va_P D vwCl (gW Lc (shE o E) (shM o σ)) H :=
  h.by (fun k => k + o) (fun k q hk => by
    have hk2 : k < Lc.1 := by
      have := (List.getElem?_eq_some_iff.mp hk).1
      rwa [gW_len] at this
    rw [emb_at hE E σ hk2]; exact hk)
theorem emb_D (hE : gEmb Ll Lc o) {A : Nat → Prop} {E : gE} {σ : Mem} (h : va_D A (gW Ll E σ)) : va_D A (gW Lc (shE o E) (shM o σ)) :=
  h.by (fun k => k + o) (fun k q hk => by
    have hk2 : k < Lc.1 := by
      have := (List.getElem?_eq_some_iff.mp hk).1
      rwa [gW_len] at this
    rw [emb_at hE E σ hk2]; exact hk) (fun i j _ _ e => Nat.add_right_cancel e)
theorem emb_P (hE : gEmb Ll Lc o) {E : gE} {σ σ1 : Mem} {H H1 : Heap} {Af : Nat → Prop} (hP : va_P E.1 vwCl (gW Ll E σ) H) (hD : va_D Af (gW Ll E σ)) (hk : ∀ q : Nat, q < H.size → ¬ va_A (gW Lc (shE o E) (shM o σ)) H.size q → H1[q]? = H[q]?) (hP1 : va_P E.1 vwCl (gW Lc (shE o E) σ1) H1) : va_P E.1 vwCl (gW Ll E (ptM o Lc.1 σ σ1)) H1 := by
  intro i q hq
  have hi : i < Ll.1 := by
    have := (List.getElem?_eq_some_iff.mp hq).1
    rwa [gW_len] at this
  rw [gW_at _ _ _ hi] at hq
  cases hq
  by_cases hc : o ≤ i ∧ i < o + Lc.1
  · obtain ⟨j, rfl⟩ : ∃ j, i = j + o := ⟨i - o, by omega⟩
    have hj : j < Lc.1 := by omega
    have h1 := hP1 j _ (gW_at Lc (shE o E) σ1 hj)
    have e : ptM o Lc.1 σ σ1 (j + o) = σ1 j := by unfold ptM; rw [if_pos hc, Nat.add_sub_cancel]
    rw [e, hE.2 _ _ _ hj]
    exact h1
  · have e : ptM o Lc.1 σ σ1 i = σ i := if_neg hc
    rw [e]
    have hx := gW_at Ll E σ hi
    have h2 : va_P E.1 vwCl [(E.2.1 i, Ll.2 E (σ i) i)] H := hP.by (fun _ => i) (fun k q hk2 => by
      obtain rfl : k = 0 := by have := (List.getElem?_eq_some_iff.mp hk2).1; simp at this; omega
      cases hk2; exact hx)
    have hlt : E.2.1 i < H.size := vx_lt hP hx
    have h3 : va_P E.1 vwCl [(E.2.1 i, Ll.2 E (σ i) i)] H1 := h2.kept (fun k x hk2 => by
      obtain rfl : k = 0 := by have := (List.getElem?_eq_some_iff.mp hk2).1; simp at this; omega
      cases hk2
      refine hk _ hlt (fun hA => ?_)
      rcases hA with ⟨k, e2, h4⟩ | h4
      · have hk3 : k < Lc.1 := by
          have := (List.getElem?_eq_some_iff.mp h4).1
          rwa [gW_len] at this
        rw [← emb_at hE E σ hk3] at h4
        have := hD.1 (k + o) i _ _ h4 hx rfl
        omega
      · exact absurd h4 (by omega))
    exact h3 0 _ rfl
end EMB
theorem ptM_in {o n : Nat} {σ σ1 : Mem} {j : Nat} (h : j < n) : ptM o n σ σ1 (j + o) = σ1 j := by unfold ptM; rw [if_pos ⟨by omega, by omega⟩, Nat.add_sub_cancel]
theorem ptM_out {o n : Nat} {σ σ1 : Mem} {i : Nat} (h : ¬ (o ≤ i ∧ i < o + n)) : ptM o n σ σ1 i = σ i := if_neg h

theorem g_eVI {Lw Lc : gL} {o : Nat} (hE : gEmb Lw Lc o) {l : Launch} {X : gC} {cc : ByteArray} {own : String} {dd ca sa k n pc : Nat} {ls : List (Option Value)} {st : List Value} {σ : Mem} {b : Nat} {ci q0 : Nat} {fs : List Value} {C : String} {T : u_T} {N : Nat} {y : MethodName} {idx : Nat} {bytes : ByteArray} {maxL d mc ms : Nat} (na : Nat) {av : (Nat → Nat) → List Value} {P : Mem → Prop} {Q : Mem → Int32 → Mem → Prop} {As rest : List Value} (hC : gOk Lw l X cc own dd ca sa) (hM : gMI Lc l y (.code y bytes maxL (some .int)) d mc ms av P Q) (hw1 : Cond.methodLink own idx y ∈ TB) (hw2 : Cond.instanceMethod y ∈ TB ∧ Cond.selects C y y ∈ TB ∧ Cond.initialized C ∈ TB ∧ Cond.code y bytes maxL (some .int) ∈ TB) (hy : y.cls = C ∧ y.cls ≠ "java/lang/invoke/MethodHandle" ∧ y.cls ≠ "java/lang/invoke/VarHandle" ∧ (parseMethodDescriptor y.desc).map (fun d => d.parameters.length) = some na) (hR9 : d + 1 ≤ dd ∧ maxL ≤ 21) (hf : k + mc ≤ ca ∧ n + ms ≤ sa) (ha : av (fun j => gA X (j + o)) = .ref b :: As) (hna : As.length = na) (hc : vwCl[ci]? = some (C, T, N)) (hq0 : (gW Lw (gEv X) σ)[q0]? = some (b, .inr (ci, fs))) (hrest : (rest.map fun v => v.category).sum ≤ 8) (hst : st = As.reverse ++ .ref b :: rest) (hd : decode cc pc = .ok (.invokevirtual idx, 3)) (hP : P (shM o σ)) (kk : ∀ (r : Int32) (σ1 : Mem), Q (shM o σ) r σ1 → G Lw X (k + mc) (n + ms) (pc + 3) ls (.int r :: rest) (ptM o Lc.1 σ σ1)) : G Lw X k n pc ls st σ := by
  obtain ⟨p, l', e, R, s, m, args, below, meth, c, nL, H0, A, E, Q⟩ := X
  obtain ⟨hx, hb, hml, hown, hTB, hK, hD, hA, hR, hlocks, rfl, hh0, hNs⟩ := hC
  subst hR
  have hRR : (gR d mc ms).frames + 1 ≤ (gR dd ca sa).frames ∧ 8 + (maxL + 11) + (gR d mc ms).locals ≤ (gR dd ca sa).locals := by
    refine ⟨hR9.1, ?_⟩
    show 8 + (maxL + 11) + 40 * d ≤ 40 * dd
    omega
  intro H locs arr hn hP0 hS hl
  have hAA : ∀ q, va_A (gW Lc (shE o E) (shM o σ)) H.size q → A q := fun q h => h.elim (fun ⟨i, e1, h1⟩ => (emb_D hE (hD σ)).2 i (q, e1) h1) (fun h1 => hA q (Nat.le_trans hS.1 h1))
  exact va_calli (va_runV (As := As) (rest := rest) (b := b) (Ts := TB) (own := own) (C := C) ⟨hx, hb, hml, hown, hTB⟩ (hM (shE o E) (shM o σ) H.size hP) (cwV (ret := (some .int)) (bytes := bytes) (maxL := maxL) na hTB (gi_cons hw1 (gi_cons hw2.1 (gi_cons hw2.2.1 (gi_cons hw2.2.2.1 (gi_cons hw2.2.2.2 gi_self))))) rfl rfl rfl hy hRR) ⟨gPre_blind, va_recv hK hP0 hc hq0, fun U hU hW => ⟨by rw [← ha]; rfl, by rw [hU], by rw [hU]; exact emb_sub hE hP0, va_K.moved hW.alike hK, (emb_D hE (hD σ)).weaken (fun _ _ _ _ => trivial), gN.warm hW hNs⟩⟩ rfl hna hl.1 hst (lv_room hrest) hd hf) hS (fun q _ h => hAA q h) hAA (fun r u t H1 locs1 ht _ hq hB _ hk1 hS1 => kk r u hq H1 locs1 arr hn (emb_P hE hP0 (hD σ) hk1 (by rw [← ht]; exact hB)) hS1 hl)
theorem g_eVL {Lw Lc : gL} {o : Nat} (hE : gEmb Lw Lc o) {l : Launch} {X : gC} {cc : ByteArray} {own : String} {dd ca sa k n pc : Nat} {ls : List (Option Value)} {st : List Value} {σ : Mem} {b : Nat} {ci q0 : Nat} {fs : List Value} {C : String} {T : u_T} {N : Nat} {y : MethodName} {idx : Nat} {bytes : ByteArray} {maxL d mc ms : Nat} (na : Nat) {av : (Nat → Nat) → List Value} {P : Mem → Prop} {Q : Mem → Int64 → Mem → Prop} {As rest : List Value} (hC : gOk Lw l X cc own dd ca sa) (hM : gML Lc l y (.code y bytes maxL (some .long)) d mc ms av P Q) (hw1 : Cond.methodLink own idx y ∈ TB) (hw2 : Cond.instanceMethod y ∈ TB ∧ Cond.selects C y y ∈ TB ∧ Cond.initialized C ∈ TB ∧ Cond.code y bytes maxL (some .long) ∈ TB) (hy : y.cls = C ∧ y.cls ≠ "java/lang/invoke/MethodHandle" ∧ y.cls ≠ "java/lang/invoke/VarHandle" ∧ (parseMethodDescriptor y.desc).map (fun d => d.parameters.length) = some na) (hR9 : d + 1 ≤ dd ∧ maxL ≤ 21) (hf : k + mc ≤ ca ∧ n + ms ≤ sa) (ha : av (fun j => gA X (j + o)) = .ref b :: As) (hna : As.length = na) (hc : vwCl[ci]? = some (C, T, N)) (hq0 : (gW Lw (gEv X) σ)[q0]? = some (b, .inr (ci, fs))) (hrest : (rest.map fun v => v.category).sum ≤ 8) (hst : st = As.reverse ++ .ref b :: rest) (hd : decode cc pc = .ok (.invokevirtual idx, 3)) (hP : P (shM o σ)) (kk : ∀ (r : Int64) (σ1 : Mem), Q (shM o σ) r σ1 → G Lw X (k + mc) (n + ms) (pc + 3) ls (.long r :: rest) (ptM o Lc.1 σ σ1)) : G Lw X k n pc ls st σ := by
  obtain ⟨p, l', e, R, s, m, args, below, meth, c, nL, H0, A, E, Q⟩ := X
  obtain ⟨hx, hb, hml, hown, hTB, hK, hD, hA, hR, hlocks, rfl, hh0, hNs⟩ := hC
  subst hR
  have hRR : (gR d mc ms).frames + 1 ≤ (gR dd ca sa).frames ∧ 8 + (maxL + 11) + (gR d mc ms).locals ≤ (gR dd ca sa).locals := by
    refine ⟨hR9.1, ?_⟩
    show 8 + (maxL + 11) + 40 * d ≤ 40 * dd
    omega
  intro H locs arr hn hP0 hS hl
  have hAA : ∀ q, va_A (gW Lc (shE o E) (shM o σ)) H.size q → A q := fun q h => h.elim (fun ⟨i, e1, h1⟩ => (emb_D hE (hD σ)).2 i (q, e1) h1) (fun h1 => hA q (Nat.le_trans hS.1 h1))
  exact va_calll (va_runV (As := As) (rest := rest) (b := b) (Ts := TB) (own := own) (C := C) ⟨hx, hb, hml, hown, hTB⟩ (hM (shE o E) (shM o σ) H.size hP) (cwV (ret := (some .long)) (bytes := bytes) (maxL := maxL) na hTB (gi_cons hw1 (gi_cons hw2.1 (gi_cons hw2.2.1 (gi_cons hw2.2.2.1 (gi_cons hw2.2.2.2 gi_self))))) rfl rfl rfl hy hRR) ⟨gPre_blind, va_recv hK hP0 hc hq0, fun U hU hW => ⟨by rw [← ha]; rfl, by rw [hU], by rw [hU]; exact emb_sub hE hP0, va_K.moved hW.alike hK, (emb_D hE (hD σ)).weaken (fun _ _ _ _ => trivial), gN.warm hW hNs⟩⟩ rfl hna hl.1 hst (lv_room hrest) hd hf) hS (fun q _ h => hAA q h) hAA (fun r u t H1 locs1 ht _ hq hB _ hk1 hS1 => kk r u hq H1 locs1 arr hn (emb_P hE hP0 (hD σ) hk1 (by rw [← ht]; exact hB)) hS1 hl)
theorem g_eVD {Lw Lc : gL} {o : Nat} (hE : gEmb Lw Lc o) {l : Launch} {X : gC} {cc : ByteArray} {own : String} {dd ca sa k n pc : Nat} {ls : List (Option Value)} {st : List Value} {σ : Mem} {b : Nat} {ci q0 : Nat} {fs : List Value} {C : String} {T : u_T} {N : Nat} {y : MethodName} {idx : Nat} {bytes : ByteArray} {maxL d mc ms : Nat} (na : Nat) {av : (Nat → Nat) → List Value} {P : Mem → Prop} {Q : Mem → UInt64 → Mem → Prop} {As rest : List Value} (hC : gOk Lw l X cc own dd ca sa) (hM : gMD Lc l y (.code y bytes maxL (some .double)) d mc ms av P Q) (hw1 : Cond.methodLink own idx y ∈ TB) (hw2 : Cond.instanceMethod y ∈ TB ∧ Cond.selects C y y ∈ TB ∧ Cond.initialized C ∈ TB ∧ Cond.code y bytes maxL (some .double) ∈ TB) (hy : y.cls = C ∧ y.cls ≠ "java/lang/invoke/MethodHandle" ∧ y.cls ≠ "java/lang/invoke/VarHandle" ∧ (parseMethodDescriptor y.desc).map (fun d => d.parameters.length) = some na) (hR9 : d + 1 ≤ dd ∧ maxL ≤ 21) (hf : k + mc ≤ ca ∧ n + ms ≤ sa) (ha : av (fun j => gA X (j + o)) = .ref b :: As) (hna : As.length = na) (hc : vwCl[ci]? = some (C, T, N)) (hq0 : (gW Lw (gEv X) σ)[q0]? = some (b, .inr (ci, fs))) (hrest : (rest.map fun v => v.category).sum ≤ 8) (hst : st = As.reverse ++ .ref b :: rest) (hd : decode cc pc = .ok (.invokevirtual idx, 3)) (hP : P (shM o σ)) (kk : ∀ (r : UInt64) (σ1 : Mem), Q (shM o σ) r σ1 → G Lw X (k + mc) (n + ms) (pc + 3) ls (.double r :: rest) (ptM o Lc.1 σ σ1)) : G Lw X k n pc ls st σ := by
  obtain ⟨p, l', e, R, s, m, args, below, meth, c, nL, H0, A, E, Q⟩ := X
  obtain ⟨hx, hb, hml, hown, hTB, hK, hD, hA, hR, hlocks, rfl, hh0, hNs⟩ := hC
  subst hR
  have hRR : (gR d mc ms).frames + 1 ≤ (gR dd ca sa).frames ∧ 8 + (maxL + 11) + (gR d mc ms).locals ≤ (gR dd ca sa).locals := by
    refine ⟨hR9.1, ?_⟩
    show 8 + (maxL + 11) + 40 * d ≤ 40 * dd
    omega
  intro H locs arr hn hP0 hS hl
  have hAA : ∀ q, va_A (gW Lc (shE o E) (shM o σ)) H.size q → A q := fun q h => h.elim (fun ⟨i, e1, h1⟩ => (emb_D hE (hD σ)).2 i (q, e1) h1) (fun h1 => hA q (Nat.le_trans hS.1 h1))
  exact va_calld (va_runV (As := As) (rest := rest) (b := b) (Ts := TB) (own := own) (C := C) ⟨hx, hb, hml, hown, hTB⟩ (hM (shE o E) (shM o σ) H.size hP) (cwV (ret := (some .double)) (bytes := bytes) (maxL := maxL) na hTB (gi_cons hw1 (gi_cons hw2.1 (gi_cons hw2.2.1 (gi_cons hw2.2.2.1 (gi_cons hw2.2.2.2 gi_self))))) rfl rfl rfl hy hRR) ⟨gPre_blind, va_recv hK hP0 hc hq0, fun U hU hW => ⟨by rw [← ha]; rfl, by rw [hU], by rw [hU]; exact emb_sub hE hP0, va_K.moved hW.alike hK, (emb_D hE (hD σ)).weaken (fun _ _ _ _ => trivial), gN.warm hW hNs⟩⟩ rfl hna hl.1 hst (lv_room hrest) hd hf) hS (fun q _ h => hAA q h) hAA (fun r u t H1 locs1 ht _ hq hB _ hk1 hS1 => kk r u hq H1 locs1 arr hn (emb_P hE hP0 (hD σ) hk1 (by rw [← ht]; exact hB)) hS1 hl)
theorem g_eXVI {Lw Lc : gL} {o : Nat} (hE : gEmb Lw Lc o) {l : Launch} {X : gC} {cc : ByteArray} {own : String} {dd ca sa k n pc : Nat} {ls : List (Option Value)} {st : List Value} {σ : Mem} {b : Nat} {ci q0 : Nat} {fs : List Value} {C : String} {T : u_T} {N : Nat} {y : MethodName} {idx : Nat} {bytes : ByteArray} {maxL d mc ms : Nat} (na : Nat) {av : (Nat → Nat) → List Value} {P : Mem → Prop} {Q : Mem → Int32 → Mem → Prop} {As rest : List Value} {PX : Mem → String → Mem → Prop} (hC : gOk Lw l X cc own dd ca sa) (hZ0 : gZY X) (hM : gXI Lc l y (.code y bytes maxL (some .int)) d mc ms av P Q PX) (hw1 : Cond.methodLink own idx y ∈ TB) (hw2 : Cond.instanceMethod y ∈ TB ∧ Cond.selects C y y ∈ TB ∧ Cond.initialized C ∈ TB ∧ Cond.code y bytes maxL (some .int) ∈ TB) (hy : y.cls = C ∧ y.cls ≠ "java/lang/invoke/MethodHandle" ∧ y.cls ≠ "java/lang/invoke/VarHandle" ∧ (parseMethodDescriptor y.desc).map (fun d => d.parameters.length) = some na) (hR9 : d + 1 ≤ dd ∧ maxL ≤ 21) (hf : k + mc ≤ ca ∧ n + ms ≤ sa) (ha : av (fun j => gA X (j + o)) = .ref b :: As) (hna : As.length = na) (hc : vwCl[ci]? = some (C, T, N)) (hq0 : (gW Lw (gEv X) σ)[q0]? = some (b, .inr (ci, fs))) (hrest : (rest.map fun v => v.category).sum ≤ 8) (hst : st = As.reverse ++ .ref b :: rest) (hd : decode cc pc = .ok (.invokevirtual idx, 3)) (hP : P (shM o σ)) (kk : ∀ (r : Int32) (σ1 : Mem), Q (shM o σ) r σ1 → G Lw X (k + mc) (n + ms) (pc + 3) ls (.int r :: rest) (ptM o Lc.1 σ σ1)) (kx : ∀ (Ex : String) (σ1 : Mem), PX (shM o σ) Ex σ1 → GX Lw X Ex (k + mc) (n + ms) pc ls rest (ptM o Lc.1 σ σ1)) : G Lw X k n pc ls st σ := by
  obtain ⟨p, l', e, R, s, m, args, below, meth, c, nL, H0, A, E, Q⟩ := X
  obtain ⟨hx, hb, hml, hown, hTB, hK, hD, hA, hR, hlocks, rfl, hh0, hNs⟩ := hC
  have hZ : gZ A s s.heap ∧ gY s := hZ0
  subst hR
  have hRR : (gR d mc ms).frames + 1 ≤ (gR dd ca sa).frames ∧ 8 + (maxL + 11) + (gR d mc ms).locals ≤ (gR dd ca sa).locals := by
    refine ⟨hR9.1, ?_⟩
    show 8 + (maxL + 11) + 40 * d ≤ 40 * dd
    omega
  intro H locs arr hn hP0 hS hl
  have hAA : ∀ q, va_A (gW Lc (shE o E) (shM o σ)) H.size q → A q := fun q h => h.elim (fun ⟨i, e1, h1⟩ => (emb_D hE (hD σ)).2 i (q, e1) h1) (fun h1 => hA q (Nat.le_trans hS.1 h1))
  exact vx_calli (vx_runV (As := As) (rest := rest) (b := b) (Ts := TB) (own := own) (C := C) ⟨hx, hb, hml, hown, hTB⟩ (hM (shE o E) (shM o σ) H.size hP) (cwV (ret := (some .int)) (bytes := bytes) (maxL := maxL) na hTB (gi_cons hw1 (gi_cons hw2.1 (gi_cons hw2.2.1 (gi_cons hw2.2.2.1 (gi_cons hw2.2.2.2 gi_self))))) rfl rfl rfl hy hRR) ⟨gPreX_blind, va_recv hK hP0 hc hq0, fun U hU hW => ⟨by rw [← ha]; rfl, ⟨by rw [hU], by rw [hU]; exact emb_sub hE hP0, va_K.moved hW.alike hK, (emb_D hE (hD σ)).weaken (fun _ _ _ _ => trivial), gN.warm hW hNs⟩, by rw [hU]; exact gZ.moved hW.alike ⟨((by rw [hh0] at hZ; exact hZ.1.1 : vx_Zq _ _ _ A s H0).kept hS.2.1).narrow hAA, ((by rw [hh0] at hZ; exact hZ.1.2 : vx_Zq _ _ _ A s H0).kept hS.2.1).narrow hAA⟩, gY.warm hW hZ.2⟩⟩ rfl hna hl.1 hst (lv_room hrest) hd hf) hS (fun q _ h => hAA q h) hAA (fun q _ h => hAA q h) (fun Ex ce q9 u t H1 locs1 ht _ _ hB _ hk1 hS1 hce hcv hcl => kx Ex u hB.1 H1 locs1 arr ce q9 hn (emb_P hE hP0 (hD σ) hk1 (by rw [← ht]; exact hB.2)) hS1 hl hce hcv hcl) (fun r u t H1 locs1 ht _ hq hB _ hk1 hS1 => kk r u hq H1 locs1 arr hn (emb_P hE hP0 (hD σ) hk1 (by rw [← ht]; exact hB)) hS1 hl)
