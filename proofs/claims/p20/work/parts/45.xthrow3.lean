set_option maxRecDepth 100000 in
set_option maxHeartbeats 4000000 in
theorem bad_iae : ∀ w ∈ (vx_atS "GemCut" 46 "java/lang/IllegalArgumentException" ["java/lang/RuntimeException", "java/lang/Exception"]).filter (fun w => !goodWord w), w ∈ NWd ++ NWc := by
  intro w hw
  have hg := (List.mem_filter.mp hw).2
  have h3 := (List.mem_filter.mp (List.mem_filter.mp hw).1).1
  have hn := (List.mem_filter.mp (List.mem_filter.mp hw).1).2
  simp only [Bundle.ownAtoms, Bundle.throwableAtoms, Bundle.throwableSAtoms, Bundle.chainSAtoms, Bundle.passSAtoms, List.mem_append, List.mem_cons, List.not_mem_nil, or_false, List.cons_append, List.nil_append, or_assoc] at h3
  rcases h3 with rfl | rfl | rfl | rfl | rfl | rfl | rfl | rfl | rfl | rfl | rfl | rfl | rfl | rfl | rfl | rfl | rfl | rfl | rfl | rfl | rfl | rfl | rfl | rfl | rfl | rfl | rfl | rfl | rfl | rfl | rfl | rfl | rfl | rfl | rfl | rfl | rfl | rfl | rfl | rfl | rfl | rfl | rfl | rfl | rfl | rfl | rfl | rfl | rfl | rfl | rfl | rfl | rfl | rfl | rfl | rfl | rfl <;> first
  | (exfalso; revert hg; decide)
  | exact List.mem_of_getElem? (i := 0) rfl
  | exact List.mem_of_getElem? (i := 1) rfl
  | exact List.mem_of_getElem? (i := 2) rfl
  | exact List.mem_of_getElem? (i := 3) rfl
  | exact List.mem_of_getElem? (i := 4) rfl
  | exact List.mem_of_getElem? (i := 5) rfl
  | exact List.mem_of_getElem? (i := 6) rfl
  | exact List.mem_of_getElem? (i := 7) rfl
  | exact List.mem_of_getElem? (i := 8) rfl
  | (exfalso; revert hn; simp [vx_no]; done)
set_option maxRecDepth 100000 in
set_option maxHeartbeats 4000000 in
theorem ot_iae : ∀ w ∈ Cond.classLink "GemCut" 42 "java/lang/IllegalArgumentException" :: Cond.initialized "java/lang/IllegalArgumentException" :: vx_atS "GemCut" 46 "java/lang/IllegalArgumentException" ["java/lang/RuntimeException", "java/lang/Exception"], vx_ot w = true := by
  intro w hw
  rcases List.mem_cons.mp hw with rfl | hw
  · rfl
  rcases List.mem_cons.mp hw with rfl | hw
  · rfl
  have h3 := (List.mem_filter.mp hw).1
  have hn := (List.mem_filter.mp hw).2
  simp only [Bundle.ownAtoms, Bundle.throwableAtoms, Bundle.throwableSAtoms, Bundle.chainSAtoms, Bundle.passSAtoms, List.mem_append, List.mem_cons, List.not_mem_nil, or_false, List.cons_append, List.nil_append, or_assoc] at h3
  rcases h3 with rfl | rfl | rfl | rfl | rfl | rfl | rfl | rfl | rfl | rfl | rfl | rfl | rfl | rfl | rfl | rfl | rfl | rfl | rfl | rfl | rfl | rfl | rfl | rfl | rfl | rfl | rfl | rfl | rfl | rfl | rfl | rfl | rfl | rfl | rfl | rfl | rfl | rfl | rfl | rfl | rfl | rfl | rfl | rfl | rfl | rfl | rfl | rfl | rfl | rfl | rfl | rfl | rfl | rfl | rfl | rfl | rfl <;> first
  | rfl
  | decide
  | (exfalso; revert hn; simp [vx_no])
set_option maxRecDepth 100000 in
set_option maxHeartbeats 4000000 in
theorem bad_ioo : ∀ w ∈ (vx_atS "GemCut" 223 "java/lang/IndexOutOfBoundsException" ["java/lang/RuntimeException", "java/lang/Exception"]).filter (fun w => !goodWord w), w ∈ NWd ++ NWc := by
  intro w hw
  have hg := (List.mem_filter.mp hw).2
  have h3 := (List.mem_filter.mp (List.mem_filter.mp hw).1).1
  have hn := (List.mem_filter.mp (List.mem_filter.mp hw).1).2
  simp only [Bundle.ownAtoms, Bundle.throwableAtoms, Bundle.throwableSAtoms, Bundle.chainSAtoms, Bundle.passSAtoms, List.mem_append, List.mem_cons, List.not_mem_nil, or_false, List.cons_append, List.nil_append, or_assoc] at h3
  rcases h3 with rfl | rfl | rfl | rfl | rfl | rfl | rfl | rfl | rfl | rfl | rfl | rfl | rfl | rfl | rfl | rfl | rfl | rfl | rfl | rfl | rfl | rfl | rfl | rfl | rfl | rfl | rfl | rfl | rfl | rfl | rfl | rfl | rfl | rfl | rfl | rfl | rfl | rfl | rfl | rfl | rfl | rfl | rfl | rfl | rfl | rfl | rfl | rfl | rfl | rfl | rfl | rfl | rfl | rfl | rfl | rfl | rfl <;> first
  | (exfalso; revert hg; decide)
  | exact List.mem_of_getElem? (i := 0) rfl
  | exact List.mem_of_getElem? (i := 1) rfl
  | exact List.mem_of_getElem? (i := 2) rfl
  | exact List.mem_of_getElem? (i := 3) rfl
  | exact List.mem_of_getElem? (i := 4) rfl
  | exact List.mem_of_getElem? (i := 5) rfl
  | exact List.mem_of_getElem? (i := 6) rfl
  | exact List.mem_of_getElem? (i := 7) rfl
  | exact List.mem_of_getElem? (i := 8) rfl
  | (exfalso; revert hn; simp [vx_no]; done)
set_option maxRecDepth 100000 in
set_option maxHeartbeats 4000000 in
theorem ot_ioo : ∀ w ∈ Cond.classLink "GemCut" 219 "java/lang/IndexOutOfBoundsException" :: Cond.initialized "java/lang/IndexOutOfBoundsException" :: vx_atS "GemCut" 223 "java/lang/IndexOutOfBoundsException" ["java/lang/RuntimeException", "java/lang/Exception"], vx_ot w = true := by
  intro w hw
  rcases List.mem_cons.mp hw with rfl | hw
  · rfl
  rcases List.mem_cons.mp hw with rfl | hw
  · rfl
  have h3 := (List.mem_filter.mp hw).1
  have hn := (List.mem_filter.mp hw).2
  simp only [Bundle.ownAtoms, Bundle.throwableAtoms, Bundle.throwableSAtoms, Bundle.chainSAtoms, Bundle.passSAtoms, List.mem_append, List.mem_cons, List.not_mem_nil, or_false, List.cons_append, List.nil_append, or_assoc] at h3
  rcases h3 with rfl | rfl | rfl | rfl | rfl | rfl | rfl | rfl | rfl | rfl | rfl | rfl | rfl | rfl | rfl | rfl | rfl | rfl | rfl | rfl | rfl | rfl | rfl | rfl | rfl | rfl | rfl | rfl | rfl | rfl | rfl | rfl | rfl | rfl | rfl | rfl | rfl | rfl | rfl | rfl | rfl | rfl | rfl | rfl | rfl | rfl | rfl | rfl | rfl | rfl | rfl | rfl | rfl | rfl | rfl | rfl | rfl <;> first
  | rfl
  | decide
  | (exfalso; revert hn; simp [vx_no])
set_option maxRecDepth 100000 in
set_option maxHeartbeats 4000000 in
theorem bad_ise : ∀ w ∈ (vx_atS "GemCut" 66 "java/lang/IllegalStateException" ["java/lang/RuntimeException", "java/lang/Exception"]).filter (fun w => !goodWord w), w ∈ NWd ++ NWc := by
  intro w hw
  have hg := (List.mem_filter.mp hw).2
  have h3 := (List.mem_filter.mp (List.mem_filter.mp hw).1).1
  have hn := (List.mem_filter.mp (List.mem_filter.mp hw).1).2
  simp only [Bundle.ownAtoms, Bundle.throwableAtoms, Bundle.throwableSAtoms, Bundle.chainSAtoms, Bundle.passSAtoms, List.mem_append, List.mem_cons, List.not_mem_nil, or_false, List.cons_append, List.nil_append, or_assoc] at h3
  rcases h3 with rfl | rfl | rfl | rfl | rfl | rfl | rfl | rfl | rfl | rfl | rfl | rfl | rfl | rfl | rfl | rfl | rfl | rfl | rfl | rfl | rfl | rfl | rfl | rfl | rfl | rfl | rfl | rfl | rfl | rfl | rfl | rfl | rfl | rfl | rfl | rfl | rfl | rfl | rfl | rfl | rfl | rfl | rfl | rfl | rfl | rfl | rfl | rfl | rfl | rfl | rfl | rfl | rfl | rfl | rfl | rfl | rfl <;> first
  | (exfalso; revert hg; decide)
  | exact List.mem_of_getElem? (i := 0) rfl
  | exact List.mem_of_getElem? (i := 1) rfl
  | exact List.mem_of_getElem? (i := 2) rfl
  | exact List.mem_of_getElem? (i := 3) rfl
  | exact List.mem_of_getElem? (i := 4) rfl
  | exact List.mem_of_getElem? (i := 5) rfl
  | exact List.mem_of_getElem? (i := 6) rfl
  | exact List.mem_of_getElem? (i := 7) rfl
  | exact List.mem_of_getElem? (i := 8) rfl
  | (exfalso; revert hn; simp [vx_no]; done)
set_option maxRecDepth 100000 in
set_option maxHeartbeats 4000000 in
theorem ot_ise : ∀ w ∈ Cond.classLink "GemCut" 62 "java/lang/IllegalStateException" :: Cond.initialized "java/lang/IllegalStateException" :: vx_atS "GemCut" 66 "java/lang/IllegalStateException" ["java/lang/RuntimeException", "java/lang/Exception"], vx_ot w = true := by
  intro w hw
  rcases List.mem_cons.mp hw with rfl | hw
  · rfl
  rcases List.mem_cons.mp hw with rfl | hw
  · rfl
  have h3 := (List.mem_filter.mp hw).1
  have hn := (List.mem_filter.mp hw).2
  simp only [Bundle.ownAtoms, Bundle.throwableAtoms, Bundle.throwableSAtoms, Bundle.chainSAtoms, Bundle.passSAtoms, List.mem_append, List.mem_cons, List.not_mem_nil, or_false, List.cons_append, List.nil_append, or_assoc] at h3
  rcases h3 with rfl | rfl | rfl | rfl | rfl | rfl | rfl | rfl | rfl | rfl | rfl | rfl | rfl | rfl | rfl | rfl | rfl | rfl | rfl | rfl | rfl | rfl | rfl | rfl | rfl | rfl | rfl | rfl | rfl | rfl | rfl | rfl | rfl | rfl | rfl | rfl | rfl | rfl | rfl | rfl | rfl | rfl | rfl | rfl | rfl | rfl | rfl | rfl | rfl | rfl | rfl | rfl | rfl | rfl | rfl | rfl | rfl <;> first
  | rfl
  | decide
  | (exfalso; revert hn; simp [vx_no])
theorem fit_nm : ∀ n ∈ ["java/lang/RuntimeException", "java/lang/Exception"], Bundle.fit n = true := by
  intro n hn
  simp only [List.mem_cons, List.not_mem_nil, or_false] at hn
  rcases hn with rfl | rfl <;> decide
theorem th_iae {Lw : gL} {l : Launch} {X : gC} {cc : ByteArray} {dd ca sa k n pc : Nat} {ls : List (Option Value)} {st : List Value} {σ : Mem} {PX : String → Mem → Prop} {mc ms : Nat} {text : String} {is : Nat} (hC : gOkX Lw l X cc "GemCut" dd ca sa) (hT : gThr Lw X PX mc ms) (hs : ("GemCut", is, text) ∈ SRl) (d0 : decode cc pc = .ok (.new 42, 3)) (d3 : decode cc (pc + 3) = .ok (.dup, 1)) (d4 : decode cc (pc + 4) = .ok (.ldc is, 2)) (d6 : decode cc (pc + 6) = .ok (.invokespecial 46, 3)) (d9 : decode cc (pc + 9) = .ok (.athrow, 1)) (hdd : 5 < dd) (hrest : (st.map fun v => v.category).sum ≤ 8) (hcn : k + 1 ≤ ca ∧ n + 6 ≤ sa) (hm : k + 1 ≤ mc ∧ n + 6 ≤ ms) (hPX : PX "java/lang/IllegalArgumentException" σ) : G Lw X k n pc ls st σ :=
  g_throw hC hT (by decide) fit_nm tw_2_144 tw_1_10 at_iae bad_iae ot_iae hs d0 d3 d4 d6 d9 hdd hrest hcn hm hPX
theorem th_ioo {Lw : gL} {l : Launch} {X : gC} {cc : ByteArray} {dd ca sa k n pc : Nat} {ls : List (Option Value)} {st : List Value} {σ : Mem} {PX : String → Mem → Prop} {mc ms : Nat} {text : String} {is : Nat} (hC : gOkX Lw l X cc "GemCut" dd ca sa) (hT : gThr Lw X PX mc ms) (hs : ("GemCut", is, text) ∈ SRl) (d0 : decode cc pc = .ok (.new 219, 3)) (d3 : decode cc (pc + 3) = .ok (.dup, 1)) (d4 : decode cc (pc + 4) = .ok (.ldc is, 2)) (d6 : decode cc (pc + 6) = .ok (.invokespecial 223, 3)) (d9 : decode cc (pc + 9) = .ok (.athrow, 1)) (hdd : 5 < dd) (hrest : (st.map fun v => v.category).sum ≤ 8) (hcn : k + 1 ≤ ca ∧ n + 6 ≤ sa) (hm : k + 1 ≤ mc ∧ n + 6 ≤ ms) (hPX : PX "java/lang/IndexOutOfBoundsException" σ) : G Lw X k n pc ls st σ :=
  g_throw hC hT (by decide) fit_nm tw_2_39 tw_1_12 at_ioo bad_ioo ot_ioo hs d0 d3 d4 d6 d9 hdd hrest hcn hm hPX
theorem th_ise {Lw : gL} {l : Launch} {X : gC} {cc : ByteArray} {dd ca sa k n pc : Nat} {ls : List (Option Value)} {st : List Value} {σ : Mem} {PX : String → Mem → Prop} {mc ms : Nat} {text : String} {is : Nat} (hC : gOkX Lw l X cc "GemCut" dd ca sa) (hT : gThr Lw X PX mc ms) (hs : ("GemCut", is, text) ∈ SRl) (d0 : decode cc pc = .ok (.new 62, 3)) (d3 : decode cc (pc + 3) = .ok (.dup, 1)) (d4 : decode cc (pc + 4) = .ok (.ldc is, 2)) (d6 : decode cc (pc + 6) = .ok (.invokespecial 66, 3)) (d9 : decode cc (pc + 9) = .ok (.athrow, 1)) (hdd : 5 < dd) (hrest : (st.map fun v => v.category).sum ≤ 8) (hcn : k + 1 ≤ ca ∧ n + 6 ≤ sa) (hm : k + 1 ≤ mc ∧ n + 6 ≤ ms) (hPX : PX "java/lang/IllegalStateException" σ) : G Lw X k n pc ls st σ :=
  g_throw hC hT (by decide) fit_nm tw_2_194 tw_1_13 at_ise bad_ise ot_ise hs d0 d3 d4 d6 d9 hdd hrest hcn hm hPX
