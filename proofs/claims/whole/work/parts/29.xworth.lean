theorem g_cSNI {Lw : gL} {l : Launch} {X : gC} {cc : ByteArray} {own : String} {dd ca sa k n pc : Nat} {ls : List (Option Value)} {st : List Value} {σ : Mem} {y : MethodName} {idx : Nat} {bytes : ByteArray} {maxL d mc ms : Nat} (na : Nat) {av : (Nat → Nat) → List Value} {P : Mem → Prop} {Q : Mem → Int32 → Mem → Prop} {As rest : List Value} (hC : gOk Lw l X cc own dd ca sa) (hM : gMI Lw l y (.code y bytes maxL (some .int)) d mc ms av P Q) {host : String} (hw1 : Cond.methodLinkNest own idx y host ∈ NWn) (hw2 : Cond.static y ∈ TB ∧ Cond.initialized y.cls ∈ TB ∧ Cond.code y bytes maxL (some .int) ∈ TB) (hy : y.cls ≠ "java/lang/invoke/MethodHandle" ∧ y.cls ≠ "java/lang/invoke/VarHandle" ∧ (parseMethodDescriptor y.desc).map (fun d => d.parameters.length) = some na) (hR9 : d + 1 ≤ dd ∧ maxL ≤ 21) (hf : k + mc ≤ ca ∧ n + ms ≤ sa) (ha : av (gA X) = As) (hna : As.length = na) (hrest : (rest.map fun v => v.category).sum ≤ 8) (hst : st = As.reverse ++ rest) (hd : decode cc pc = .ok (.invokestatic idx, 3)) (hP : P σ) (kk : ∀ (r : Int32) (σ1 : Mem), Q σ r σ1 → G Lw X (k + mc) (n + ms) (pc + 3) ls (.int r :: rest) σ1) : G Lw X k n pc ls st σ := by
  obtain ⟨p, l', e, R, s, m, args, below, meth, c, nL, H0, A, E, Q⟩ := X
  obtain ⟨hx, hb, hml, hown, hTB, hK, hD, hA, hR, hlocks, rfl, hh0, hNs⟩ := hC
  subst hR
  have hRR : (gR d mc ms).frames + 1 ≤ (gR dd ca sa).frames ∧ 8 + (maxL + 11) + (gR d mc ms).locals ≤ (gR dd ca sa).locals := by
    refine ⟨hR9.1, ?_⟩
    show 8 + (maxL + 11) + 40 * d ≤ 40 * dd
    omega
  intro H locs arr hn hP0 hS hl
  have hAA : ∀ q, va_A (gW Lw E σ) H.size q → A q := fun q h => h.elim (fun ⟨i, e1, h1⟩ => (hD σ).2 i (q, e1) h1) (fun h1 => hA q (Nat.le_trans hS.1 h1))
  exact va_calli (va_runSN (As := As) (rest := rest) (Ts := TB) (own := own) ⟨hx, hb, hml, hown, hTB⟩ (hM E σ H.size hP) ⟨va_cnB (ret := (some .int)) (bytes := bytes) (maxL := maxL) na hTB (gi_cons hw2.2.2 gi_self) rfl rfl rfl (hNs.1 _ hw1) (hTB _ hw2.2.1) hy hRR, hTB _ hw2.1, trivial⟩ ⟨gPre_blind, fun U hU hW => ⟨by rw [← ha]; rfl, by rw [hU], by rw [hU]; exact hP0, va_K.moved hW.alike hK, (hD σ).weaken (fun _ _ _ _ => trivial), gN.warm hW hNs⟩⟩ rfl hna hl.1 hst (lv_room hrest) hd hf) hS (fun q _ h => hAA q h) hAA (fun r u t H1 locs1 ht _ hq hB _ _ hS1 => kk r u hq H1 locs1 arr hn (by rw [← ht]; exact hB) hS1 hl)
set_option maxRecDepth 100000 in
set_option maxHeartbeats 4000000 in
/-- X5_worthBy -/
theorem c_X5_worthBy (l : Launch) (w po pl pr : Int32) : gMI wX l yX5_worthBy (.code yX5_worthBy cX5_worthBy 6 (some FieldType.int)) 1 0 0 (fun A => [.int w, .int po, .int pl, .int pr]) (fun τ => True) (fun τ rr τ1 => rr = wBy w po pl pr ∧ τ1 = τ) := by
  refine gMI_of (by decide) (fun A => Nat.le_of_ble_eq_true rfl) ?_
  intro X τ hC hP hE
  have hC : gOk wX l X cX5_worthBy "GemCut" 1 0 0 := hC
  show G wX X 0 0 0 [some (.int w), some (.int po), some (.int pl), some (.int pr), none, none] [] τ
  refine g_ild0 hC dX5_worthBy_0 ?_
  refine g_if_ne 6 hC dX5_worthBy_1 (by decide) (fun c1 => ?_) (fun c1 => ?_)
  · refine g_bipush 10 hC dX5_worthBy_6 (by decide) ?_
    refine g_bipush 100 hC dX5_worthBy_8 (by decide) ?_
    refine g_ild1 hC dX5_worthBy_10 ?_
    refine g_isub hC dX5_worthBy_11 ?_
    refine g_mmax hC (by first | assumption | omega | exact xk_pl _ (by assumption) _ (by omega) | decide) tw_2_92 (Nat.le_of_ble_eq_true rfl) ⟨by omega, by omega⟩ dX5_worthBy_12 ?_
    refine g_ist4 hC dX5_worthBy_15 rfl ?_
    refine g_ild0 hC dX5_worthBy_17 ?_
    refine g_ild0 hC dX5_worthBy_18 ?_
    refine g_imul hC dX5_worthBy_19 ?_
    refine g_bipush 10 hC dX5_worthBy_20 (by decide) ?_
    refine g_idiv hC dX5_worthBy_22 (by decide) ?_
    refine g_bipush 10 hC dX5_worthBy_23 (by decide) ?_
    refine g_ild0 hC dX5_worthBy_25 ?_
    refine g_imul hC dX5_worthBy_26 ?_
    refine g_iadd hC dX5_worthBy_27 ?_
    refine g_ist5 hC dX5_worthBy_28 rfl ?_
    refine g_ild5 hC dX5_worthBy_30 ?_
    refine g_ild4 hC dX5_worthBy_32 ?_
    refine g_imul hC dX5_worthBy_34 ?_
    refine g_bipush 100 hC dX5_worthBy_35 (by decide) ?_
    refine g_idiv hC dX5_worthBy_37 (by decide) ?_
    refine g_bipush 25 hC dX5_worthBy_38 (by decide) ?_
    refine g_ild2 hC dX5_worthBy_40 ?_
    refine g_imul hC dX5_worthBy_41 ?_
    refine g_iadd hC dX5_worthBy_42 ?_
    refine g_bipush 40 hC dX5_worthBy_43 (by decide) ?_
    refine g_ild3 hC dX5_worthBy_45 ?_
    refine g_imul hC dX5_worthBy_46 ?_
    refine g_iadd hC dX5_worthBy_47 ?_
    exact hE _ _ _ _ _ _ dX5_worthBy_48 (Nat.le_refl _) (Nat.le_refl _) ⟨by unfold wBy; first | rw [if_pos c1] | (rw [if_neg c1]; rfl), rfl⟩
  · refine g_iconst 0 hC dX5_worthBy_4 (by decide) ?_
    exact hE _ _ _ _ _ _ dX5_worthBy_5 (Nat.le_refl _) (Nat.le_refl _) ⟨by unfold wBy; first | rw [if_pos c1] | (rw [if_neg c1]; rfl), rfl⟩
theorem k_X5_worthBy {l : Launch} {X : gC} {cc : ByteArray} {own : String} {dd ca sa kc nc pc : Nat} {ls : List (Option Value)} {st : List Value} {σ : Mem} {idx : Nat} {w po pl pr : Int32} (hC : gOk wX l X cc own dd ca sa) (hlk : Cond.methodLink own idx yX5_worthBy ∈ TB) (hd : decode cc pc = .ok (.invokestatic idx, 3)) (hdd : 1 + 1 ≤ dd) (hfr : kc + 0 ≤ ca ∧ nc + 0 ≤ sa) (hrest : (st.map fun v => v.category).sum ≤ 8)   (kk : G wX X kc nc (pc + 3) ls (.int (wBy w po pl pr) :: st) (σ)) : G wX X kc nc pc ls (.int pr :: .int pl :: .int po :: .int w :: st) σ := by
  exact g_cSI 4 hC (c_X5_worthBy l w po pl pr) hlk ⟨tw_2_90, tw_1_1, tw_2_91⟩ (by decide +kernel) ⟨hdd, by decide⟩ hfr rfl rfl hrest rfl hd trivial (fun rr σ1 hq => by obtain ⟨rfl, rfl⟩ := hq; exact kk)
theorem k_worthByN {l : Launch} {X : gC} {cc : ByteArray} {dd ca sa kc nc pc : Nat} {ls : List (Option Value)} {st : List Value} {σ : Mem} {w po pl pr : Int32} (hC : gOk wX l X cc "GemCut$Trial" dd ca sa) (hd : decode cc pc = .ok (.invokestatic 153, 3)) (hdd : 1 + 1 ≤ dd) (hfr : kc + 0 ≤ ca ∧ nc + 0 ≤ sa) (hrest : (st.map fun v => v.category).sum ≤ 8) (kk : G wX X kc nc (pc + 3) ls (.int (wBy w po pl pr) :: st) σ) : G wX X kc nc pc ls (.int pr :: .int pl :: .int po :: .int w :: st) σ := by
  exact g_cSNI 4 hC (c_X5_worthBy l w po pl pr) (host := "GemCut") (show _ ∈ NWn by simp [NWn]) ⟨tw_2_90, tw_1_1, tw_2_91⟩ (by decide +kernel) ⟨hdd, by decide⟩ hfr rfl rfl hrest rfl hd trivial (fun rr σ1 hq => by obtain ⟨rfl, rfl⟩ := hq; exact kk)
