/-! the row of a throw -/
theorem nw_tables : ∀ w ∈ NWd ++ NWc, w.onTables = true := by
  intro w hw
  simp only [NWd, NWc, List.cons_append, List.nil_append, List.mem_cons, List.not_mem_nil, or_false] at hw
  rcases hw with rfl | rfl | rfl | rfl | rfl | rfl | rfl | rfl | rfl <;> rfl
theorem g_throw {Lw : gL} {l : Launch} {X : gC} {cc : ByteArray} {dd ca sa k n pc : Nat} {ls : List (Option Value)} {st : List Value} {σ : Mem} {PX : String → Mem → Prop} {mc ms : Nat} {cls text : String} {ik is ic : Nat} (hC : gOkX Lw l X cc "GemCut" dd ca sa) (hT : gThr Lw X PX mc ms) (hcls : Bundle.fit cls = true) (hnames : ∀ n ∈ ["java/lang/RuntimeException", "java/lang/Exception"], Bundle.fit n = true) (hk : Cond.classLink "GemCut" ik cls ∈ TB) (hini : Cond.initialized cls ∈ TB)
    (hat : ∀ w ∈ (vx_atS "GemCut" ic cls ["java/lang/RuntimeException", "java/lang/Exception"]).filter goodWord, w ∈ TB) (hbad : ∀ w ∈ (vx_atS "GemCut" ic cls ["java/lang/RuntimeException", "java/lang/Exception"]).filter (fun w => !goodWord w), w ∈ NWd ++ NWc) (hgood : ∀ w ∈ Cond.classLink "GemCut" ik cls :: Cond.initialized cls :: vx_atS "GemCut" ic cls ["java/lang/RuntimeException", "java/lang/Exception"], vx_ot w = true)
    (hs : ("GemCut", is, text) ∈ SRl) (d0 : decode cc pc = .ok (.new ik, 3)) (d3 : decode cc (pc + 3) = .ok (.dup, 1)) (d4 : decode cc (pc + 4) = .ok (.ldc is, 2)) (d6 : decode cc (pc + 6) = .ok (.invokespecial ic, 3)) (d9 : decode cc (pc + 9) = .ok (.athrow, 1))
    (hdd : 5 < dd) (hrest : (st.map fun v => v.category).sum ≤ 8) (hcn : k + 1 ≤ ca ∧ n + 6 ≤ sa) (hm : k + 1 ≤ mc ∧ n + 6 ≤ ms) (hPX : PX cls σ) : G Lw X k n pc ls st σ := by
  obtain ⟨p, l', e, R, s, m, args, below, meth, c, nL, H0, A, E, Q⟩ := X
  obtain ⟨⟨hx, hb, hml, hown, hTB, hK, hD, hA, hR, hlocks, rfl, hh0, hNs⟩, hltr, hxt, hZ, hY⟩ := hC
  obtain ⟨Qc, XC, rfl, hXC⟩ := hT
  subst hh0
  subst hR
  intro H locs arr hn hP0 hS hl
  obtain ⟨sa9, hsa⟩ := hNs.2.2 _ hs
  have h3 : ∀ w ∈ NWd ++ NWc, w.before args s = true := fun w hw => va_Nw.use (nw_tables w hw) ((List.mem_append.mp hw).elim (fun h => hNs.2.1 w h) (fun h => hY w h))
  exact vx_throwS hx hb hltr hown hcls hnames (hTB _ hk) (hTB _ hini) hsa (vx_hat (fun w hw => hTB _ (hat w hw)) hbad h3) hgood hZ.1 hZ.2 hS (hl.1.trans hml.symm) d0 d3 d4 d6 d9 (fun x hx9 => (hxt x hx9).elim) (show 2 + 3 < dd by omega) (show _ + (13 * (2 + 1) + 43) ≤ 40 * dd by omega) hcn.1 hcn.2 hlocks
    (fun t hvm hsz hq => hXC cls σ t hPX (hP0.kept (fun k9 q9 hk9 => hq _ (vx_lt hP0 hk9))) ⟨Nat.le_trans hS.1 hsz, fun q h1 h2 => (hq q (Nat.lt_of_lt_of_le h1 hS.1)).trans (hS.2.1 q h1 h2)⟩) hS.2.2 hm.1 hm.2

