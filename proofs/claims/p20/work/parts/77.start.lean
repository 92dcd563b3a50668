/-! what the start of the law gives -/
theorem stand_less {p : Program} {l : Launch} {e : Env} {R R' : Room} {s : State} {m : MethodId} {args : Array Value} {below : List Frame} {meth : Method} {c : Code} {T : State} {locs : List Loc} {cells slots : Nat} (X : Stand p l e R s m args below meth c T locs cells slots) (hf : R'.frames ≤ R.frames) (hl : R'.locals ≤ R.locals) (hc : R'.cells ≤ R.cells) (hs : R'.slots ≤ R.slots) : Stand p l e R' s m args below meth c T locs cells slots := by
  have hr : s.hasRoom e.platform R' = true := by
    have h := X.room
    simp only [State.hasRoom, Bool.and_eq_true, decide_eq_true_eq] at h ⊢
    obtain ⟨⟨⟨⟨h1, h2, h3, h4, h5, h6⟩, h7⟩, h8⟩, h9⟩ := h
    exact ⟨⟨⟨⟨by omega, by omega, by omega, by omega, by omega, h6⟩, by omega⟩, by omega⟩, h9⟩
  exact { X with room := hr }
theorem W_less {p : Program} {l : Launch} {e : Env} {R R' : Room} {s : State} {m : MethodId} {args : Array Value} {below : List Frame} {meth : Method} {c : Code} {H : Heap} {locs : List Loc} {cells slots : Nat} {Q : State → Prop} {g : JFrame} (hf : R'.frames ≤ R.frames) (hl : R'.locals ≤ R.locals) (hc : R'.cells ≤ R.cells) (hs : R'.slots ≤ R.slots) (kk : W p l e R' s m args below meth c H locs cells slots Q g) : W p l e R s m args below meth c H locs cells slots Q g := fun T hT X => kk T hT (stand_less X hf hl hc hs)
theorem st_R {own tx : String} {k : Nat} {A : Array Value} {s : State} (h : (Cond.stringRef own k tx).before A s = true) : ∃ a, vk_R own k tx a s := by
  have hcur : ∃ cur, s.vm.findClass own = some cur := by
    have h1 := h
    simp only [Cond.before, Cond.holds, Cond.value] at h1
    cases hc : s.vm.findClass own with
    | none => simp [hc] at h1
    | some cur => exact ⟨cur, rfl⟩
  obtain ⟨cur, hcur⟩ := hcur
  obtain ⟨_, _, _, a, _, _, _, _, _, hev⟩ := Cond.stringRef_spec hcur h
  exact ⟨a, vk_R.of h hev⟩
theorem st_arr {ty : FieldType} {A : Array Value} {s : State} (hp : ∀ (U : State) (cA : ClassId), va_RA U cA ty = (U.vm.findClass ("[" ++ ty.toString) = some cA)) (h : (Cond.arrayClass ty).before A s = true) : ∃ cA, ArrOfT s cA ty ∧ va_RA s cA ty := by
  obtain ⟨c, k, comp, h1, h2, h3⟩ := Cond.arrayClass_spec h
  exact ⟨c, fun N z => ⟨(fun _ h => by cases h), k, h2, comp, h3⟩, by rw [hp]; exact h1⟩
theorem st_over {C : String} {A : Array Value} {s : State} (h : (Cond.arrayOver (.object C)).before A s = true) : ∃ cA, ArrOfT s cA (.object C) ∧ va_RA s cA (.object C) := by
  obtain ⟨comp, c, k, h1, -, h2, h3, h4⟩ := Cond.arrayOver_spec h
  exact ⟨c, fun N z => ⟨(fun _ h => by cases h), k, h2, comp, h3⟩, k, comp, h2, h3, h1, h4⟩
theorem st_overA {t : FieldType} {A : Array Value} {s : State} (h : (Cond.arrayOver (.array t)).before A s = true) : ∃ cA, ArrOfT s cA (.array t) ∧ va_RA s cA (.array t) := by
  obtain ⟨comp, c, k, h1, -, h2, h3, h4⟩ := arrayOverA_spec h
  exact ⟨c, fun N z => ⟨(fun _ h => by cases h), k, h2, comp, h3⟩, h4⟩
theorem st_cls {A : Array Value} {s : State} (hTB : ∀ w ∈ TB, w.before A s = true) : ∃ D : va_G, ∀ (k : Nat) (q : vw_C), vwCl[k]? = some q → u_Kn s q.1 q.2.1 q.2.2 (D.1 k) (D.2 k) := by
  obtain ⟨c0, i0, h0⟩ := u_known (C := RX0) (T := TX0) (N := 5) (n := 5) hTB iw_X0 (hTB _ tw_1_32)
  obtain ⟨c1, i1, h1⟩ := u_known (C := RX1) (T := TX1) (N := 7) (n := 7) hTB iw_X1 (hTB _ tw_1_106)
  obtain ⟨c2, i2, h2⟩ := u_known (C := RX2) (T := TX2) (N := 7) (n := 7) hTB iw_X2 (hTB _ tw_1_25)
  obtain ⟨c3, i3, h3⟩ := u_known (C := RX3) (T := TX3) (N := 5) (n := 5) hTB iw_X3 (hTB _ tw_1_99)
  obtain ⟨c4, i4, h4⟩ := u_known (C := RX4) (T := TX4) (N := 6) (n := 6) hTB iw_X4 (hTB _ tw_1_165)
  obtain ⟨c5, i5, h5⟩ := u_known (C := RX5) (T := TX5) (N := 6) (n := 6) hTB iw_X5 (hTB _ tw_1_17)
  obtain ⟨c6, i6, h6⟩ := u_known (C := RX6) (T := TX6) (N := 5) (n := 5) hTB iw_X6 (hTB _ tw_3_178)
  refine ⟨(fun k => if k = 0 then c0 else if k = 1 then c1 else if k = 2 then c2 else if k = 3 then c3 else if k = 4 then c4 else if k = 5 then c5 else c6, fun k => if k = 0 then i0 else if k = 1 then i1 else if k = 2 then i2 else if k = 3 then i3 else if k = 4 then i4 else if k = 5 then i5 else i6), fun k q hq => ?_⟩
  match k, hq with
  | 0, hq => cases hq; exact h0
  | 1, hq => cases hq; exact h1
  | 2, hq => cases hq; exact h2
  | 3, hq => cases hq; exact h3
  | 4, hq => cases hq; exact h4
  | 5, hq => cases hq; exact h5
  | 6, hq => cases hq; exact h6
  | k + 7, hq => simp [vwCl] at hq
theorem lw_in {w : Cond} (i : Nat) (h : tables_1[i]? = some w) : w ∈ lw_tbl := List.mem_append_right _ (List.mem_of_getElem? h)
theorem TB_in {w : Cond} (h : w ∈ TB) : w ∈ lw_tbl := (List.mem_filter.mp h).1
theorem lw_ov0 : Cond.arrayOver (.object "GemCut$Flaw") ∈ lw_tbl := lw_in 31 (by decide +kernel)
theorem lw_ov1 : Cond.arrayOver (.object "GemCut$Plane") ∈ lw_tbl := lw_in 105 (by decide +kernel)
theorem lw_ov2 : Cond.arrayOver (.object "GemCut$Stone") ∈ lw_tbl := lw_in 98 (by decide +kernel)
theorem lw_ov3 : Cond.arrayOver (.array .int) ∈ lw_tbl := lw_in 664 (by decide +kernel)
theorem lw_ov4 : Cond.arrayOver (.array (.array .int)) ∈ lw_tbl := lw_in 666 (by decide +kernel)
theorem lw_ls0 : Cond.laysStatic Bundle.tN "UNASSIGNED_STACK" Bundle.steD ∈ lw_tbl := lw_in 306 (by decide +kernel)
theorem lw_ls1 : Cond.laysStatic Bundle.tN "SUPPRESSED_SENTINEL" Bundle.listD ∈ lw_tbl := lw_in 308 (by decide +kernel)
theorem lw_NWn : ∀ w ∈ NWn, w ∈ lw_tbl := by
  intro w hw
  simp only [NWn, List.mem_cons, List.not_mem_nil, or_false] at hw
  rcases hw with rfl|rfl|rfl|rfl
  · exact lw_in 33 (by decide +kernel)
  · exact lw_in 107 (by decide +kernel)
  · exact lw_in 171 (by decide +kernel)
  · exact lw_in 593 (by decide +kernel)
theorem lw_NWd : ∀ w ∈ NWd, w ∈ lw_tbl := by
  intro w hw
  simp only [NWd, List.mem_cons, List.not_mem_nil, or_false] at hw
  rcases hw with rfl|rfl|rfl|rfl|rfl|rfl
  · exact lw_in 282 (by decide +kernel)
  · exact lw_in 283 (by decide +kernel)
  · exact lw_in 284 (by decide +kernel)
  · exact lw_in 285 (by decide +kernel)
  · exact lw_in 286 (by decide +kernel)
  · exact lw_in 287 (by decide +kernel)
theorem lw_NWc : ∀ w ∈ NWc, w ∈ lw_tbl := by
  intro w hw
  simp only [NWc, List.mem_cons, List.not_mem_nil, or_false] at hw
  rcases hw with rfl|rfl|rfl
  · exact lw_in 386 (by decide +kernel)
  · exact lw_in 281 (by decide +kernel)
  · exact lw_in 436 (by decide +kernel)
theorem lw_SR : ∀ q ∈ SRl, Cond.stringRef q.1 q.2.1 q.2.2 ∈ lw_tbl := by
  intro q hq
  simp only [SRl, List.mem_cons, List.not_mem_nil, or_false] at hq
  rcases hq with rfl|rfl|rfl|rfl|rfl|rfl|rfl|rfl|rfl|rfl|rfl|rfl|rfl|rfl
  · exact lw_in 320 (by decide +kernel)
  · exact lw_in 356 (by decide +kernel)
  · exact lw_in 361 (by decide +kernel)
  · exact lw_in 365 (by decide +kernel)
  · exact lw_in 393 (by decide +kernel)
  · exact lw_in 403 (by decide +kernel)
  · exact lw_in 443 (by decide +kernel)
  · exact lw_in 459 (by decide +kernel)
  · exact lw_in 477 (by decide +kernel)
  · exact lw_in 482 (by decide +kernel)
  · exact lw_in 603 (by decide +kernel)
  · exact lw_in 656 (by decide +kernel)
  · exact lw_in 689 (by decide +kernel)
  · exact lw_in 690 (by decide +kernel)
theorem st_K {A : Array Value} {s : State} (hts : ∀ w ∈ lw_tbl, w.before A s = true) : ∃ (D : va_G) (cy : Nat → ClassId), va_K D vwCl (gT cy) s := by
  have hTB : ∀ w ∈ TB, w.before A s = true := fun w h => hts w (TB_in h)
  obtain ⟨D, hD⟩ := st_cls hTB
  obtain ⟨a0, b0⟩ := st_arr (ty := .int) (fun _ _ => rfl) (hTB _ tw_1_57)
  obtain ⟨a1, b1⟩ := st_arr (ty := .boolean) (fun _ _ => rfl) (hTB _ tw_1_58)
  obtain ⟨a2, b2⟩ := st_over (hts _ lw_ov0)
  obtain ⟨a3, b3⟩ := st_over (hts _ lw_ov1)
  obtain ⟨a4, b4⟩ := st_over (hts _ lw_ov2)
  obtain ⟨a5, b5⟩ := st_overA (hts _ lw_ov3)
  obtain ⟨a6, b6⟩ := st_overA (hts _ lw_ov4)
  refine ⟨D, fun k => if k = 0 then a0 else if k = 1 then a1 else if k = 2 then a2 else if k = 3 then a3 else if k = 4 then a4 else if k = 5 then a5 else a6, hD, fun k q hq => ?_⟩
  match k, hq with
  | 0, hq => cases hq; exact b0
  | 1, hq => cases hq; exact b1
  | 2, hq => cases hq; exact b2
  | 3, hq => cases hq; exact b3
  | 4, hq => cases hq; exact b4
  | 5, hq => cases hq; exact b5
  | 6, hq => cases hq; exact b6
  | k + 7, hq => simp [gT] at hq
theorem st_N {A : Array Value} {s : State} (hts : ∀ w ∈ lw_tbl, w.before A s = true) : gN s := by
  refine ⟨fun w hw => ?_, fun w hw => ?_, fun q hq => ?_⟩
  · have h1 : w.onTables = true := by
      simp only [NWn, List.mem_cons, List.not_mem_nil, or_false] at hw
      rcases hw with rfl|rfl|rfl|rfl <;> rfl
    exact va_tabs h1 rfl (hts w (lw_NWn w hw))
  · have h1 : w.onTables = true := by
      simp only [NWd, List.mem_cons, List.not_mem_nil, or_false] at hw
      rcases hw with rfl|rfl|rfl|rfl|rfl|rfl <;> rfl
    exact va_tabs h1 rfl (hts w (lw_NWd w hw))
  · exact st_R (hts _ (lw_SR q hq))
theorem st_O {A : Array Value} {s : State} (hts : ∀ w ∈ lw_tbl, w.before A s = true) : gO s := ⟨va_AO.of (hts _ lw_ov0), va_AO.of (hts _ lw_ov1), va_AO.of (hts _ lw_ov2)⟩
theorem st_I {A : Array Value} {s : State} (hts : ∀ w ∈ lw_tbl, w.before A s = true) : gI s := ⟨st_O hts, vAA.of (hts _ lw_ov3), vAA.of (hts _ lw_ov4)⟩
theorem st_Y {A : Array Value} {s : State} (hts : ∀ w ∈ lw_tbl, w.before A s = true) : gY s := fun w hw => by
  have h1 : w.onTables = true := by
    simp only [NWc, List.mem_cons, List.not_mem_nil, or_false] at hw
    rcases hw with rfl|rfl|rfl <;> rfl
  exact va_tabs h1 rfl (hts w (lw_NWc w hw))
theorem st_Z {A : Array Value} {s : State} (hts : ∀ w ∈ lw_tbl, w.before A s = true) (hgv : (Jvm.Cond.and given_1 narrow_1).before A s = true) : gZ (fun q : Nat => s.heap.size ≤ q) s s.heap :=
  ⟨vx_Zqof (hts _ lw_ls0) (hts _ (TB_in tw_1_7)) (flat_of_before _ hgv _ (by decide +kernel)) (fun a ha => Nat.not_le.mpr ha), vx_Zqof (hts _ lw_ls1) (hts _ (TB_in tw_1_7)) (flat_of_before _ hgv _ (by decide +kernel)) (fun a ha => Nat.not_le.mpr ha)⟩
theorem st_flags {l : Launch} (h : l.flags = flags0) : l.stackTraces = false := by
  unfold Launch.stackTraces
  rw [h]
  decide

