section
-- ===== PART A: goes FIRST, ahead of the names: the tables' words, and 'selects' of the private methods out of them =====
/-- a private method of a class that the tables say can be made, by its rows of tables_1 -/
def lw_okq (q : MethodName × Nat) : Prop := (q.1.cls ≠ "java/lang/invoke/MethodHandle" ∧ q.1.cls ≠ "java/lang/invoke/VarHandle") ∧ Cond.instantiable q.1.cls q.2 ∈ tables_1 ∧ Cond.privateMethod q.1 ∈ tables_1 ∧ Cond.instanceMethod q.1 ∈ tables_1
theorem lw_p0 : lw_okq (⟨"GemCut", "beginRough", "(III)V"⟩, 6) := ⟨⟨by decide +kernel, by decide +kernel⟩, List.mem_of_getElem? (i := 17) (by decide +kernel), List.mem_of_getElem? (i := 192) (by decide +kernel), List.mem_of_getElem? (i := 193) (by decide +kernel)⟩
theorem lw_p1 : lw_okq (⟨"GemCut", "survey", "()V"⟩, 6) := ⟨⟨by decide +kernel, by decide +kernel⟩, List.mem_of_getElem? (i := 17) (by decide +kernel), List.mem_of_getElem? (i := 208) (by decide +kernel), List.mem_of_getElem? (i := 209) (by decide +kernel)⟩
theorem lw_p2 : lw_okq (⟨"GemCut", "surveyCell", "(IIII)V"⟩, 6) := ⟨⟨by decide +kernel, by decide +kernel⟩, List.mem_of_getElem? (i := 17) (by decide +kernel), List.mem_of_getElem? (i := 216) (by decide +kernel), List.mem_of_getElem? (i := 217) (by decide +kernel)⟩
theorem lw_p3 : lw_okq (⟨"GemCut", "wantCell", "(III)V"⟩, 6) := ⟨⟨by decide +kernel, by decide +kernel⟩, List.mem_of_getElem? (i := 17) (by decide +kernel), List.mem_of_getElem? (i := 275) (by decide +kernel), List.mem_of_getElem? (i := 276) (by decide +kernel)⟩
theorem lw_p4 : lw_okq (⟨"java/lang/Throwable", "fillInStackTrace", "(I)Ljava/lang/Throwable;"⟩, 6) := ⟨⟨by decide +kernel, by decide +kernel⟩, List.mem_of_getElem? (i := 318) (by decide +kernel), List.mem_of_getElem? (i := 316) (by decide +kernel), List.mem_of_getElem? (i := 317) (by decide +kernel)⟩
theorem lw_p5 : lw_okq (⟨"GemCut", "wantFlaw", "(I)V"⟩, 6) := ⟨⟨by decide +kernel, by decide +kernel⟩, List.mem_of_getElem? (i := 17) (by decide +kernel), List.mem_of_getElem? (i := 353) (by decide +kernel), List.mem_of_getElem? (i := 354) (by decide +kernel)⟩
theorem lw_p6 : lw_okq (⟨"GemCut", "wantStone", "(I)V"⟩, 6) := ⟨⟨by decide +kernel, by decide +kernel⟩, List.mem_of_getElem? (i := 17) (by decide +kernel), List.mem_of_getElem? (i := 358) (by decide +kernel), List.mem_of_getElem? (i := 359) (by decide +kernel)⟩
theorem lw_p7 : lw_okq (⟨"GemCut", "tellOfFlaw", "(III)I"⟩, 6) := ⟨⟨by decide +kernel, by decide +kernel⟩, List.mem_of_getElem? (i := 17) (by decide +kernel), List.mem_of_getElem? (i := 367) (by decide +kernel), List.mem_of_getElem? (i := 368) (by decide +kernel)⟩
theorem lw_p8 : lw_okq (⟨"GemCut$Trial", "levelCell", "(II)V"⟩, 6) := ⟨⟨by decide +kernel, by decide +kernel⟩, List.mem_of_getElem? (i := 165) (by decide +kernel), List.mem_of_getElem? (i := 420) (by decide +kernel), List.mem_of_getElem? (i := 421) (by decide +kernel)⟩
theorem lw_p9 : lw_okq (⟨"GemCut", "spend", "(I)V"⟩, 6) := ⟨⟨by decide +kernel, by decide +kernel⟩, List.mem_of_getElem? (i := 17) (by decide +kernel), List.mem_of_getElem? (i := 466) (by decide +kernel), List.mem_of_getElem? (i := 467) (by decide +kernel)⟩
theorem lw_p10 : lw_okq (⟨"GemCut", "wantPlane", "(II)V"⟩, 6) := ⟨⟨by decide +kernel, by decide +kernel⟩, List.mem_of_getElem? (i := 17) (by decide +kernel), List.mem_of_getElem? (i := 474) (by decide +kernel), List.mem_of_getElem? (i := 475) (by decide +kernel)⟩
theorem lw_p11 : lw_okq (⟨"GemCut", "tellOfStone", "(LGemCut$Stone;I)I"⟩, 6) := ⟨⟨by decide +kernel, by decide +kernel⟩, List.mem_of_getElem? (i := 17) (by decide +kernel), List.mem_of_getElem? (i := 492) (by decide +kernel), List.mem_of_getElem? (i := 493) (by decide +kernel)⟩
theorem lw_p12 : lw_okq (⟨"GemCut", "flawsOfState", "(II)I"⟩, 6) := ⟨⟨by decide +kernel, by decide +kernel⟩, List.mem_of_getElem? (i := 17) (by decide +kernel), List.mem_of_getElem? (i := 509) (by decide +kernel), List.mem_of_getElem? (i := 510) (by decide +kernel)⟩
theorem lw_p13 : lw_okq (⟨"GemCut", "worthOf", "(LGemCut$Stone;)I"⟩, 6) := ⟨⟨by decide +kernel, by decide +kernel⟩, List.mem_of_getElem? (i := 17) (by decide +kernel), List.mem_of_getElem? (i := 513) (by decide +kernel), List.mem_of_getElem? (i := 514) (by decide +kernel)⟩
theorem lw_p14 : lw_okq (⟨"GemCut", "tellCount", "(I)I"⟩, 6) := ⟨⟨by decide +kernel, by decide +kernel⟩, List.mem_of_getElem? (i := 17) (by decide +kernel), List.mem_of_getElem? (i := 537) (by decide +kernel), List.mem_of_getElem? (i := 538) (by decide +kernel)⟩
theorem lw_p15 : lw_okq (⟨"GemCut", "cellsOfStones", "()I"⟩, 6) := ⟨⟨by decide +kernel, by decide +kernel⟩, List.mem_of_getElem? (i := 17) (by decide +kernel), List.mem_of_getElem? (i := 542) (by decide +kernel), List.mem_of_getElem? (i := 543) (by decide +kernel)⟩
def lw_privs_1 : List (MethodName × Nat) := [(⟨"GemCut", "beginRough", "(III)V"⟩, 6), (⟨"GemCut", "survey", "()V"⟩, 6), (⟨"GemCut", "surveyCell", "(IIII)V"⟩, 6), (⟨"GemCut", "wantCell", "(III)V"⟩, 6), (⟨"java/lang/Throwable", "fillInStackTrace", "(I)Ljava/lang/Throwable;"⟩, 6), (⟨"GemCut", "wantFlaw", "(I)V"⟩, 6), (⟨"GemCut", "wantStone", "(I)V"⟩, 6), (⟨"GemCut", "tellOfFlaw", "(III)I"⟩, 6), (⟨"GemCut$Trial", "levelCell", "(II)V"⟩, 6), (⟨"GemCut", "spend", "(I)V"⟩, 6), (⟨"GemCut", "wantPlane", "(II)V"⟩, 6), (⟨"GemCut", "tellOfStone", "(LGemCut$Stone;I)I"⟩, 6), (⟨"GemCut", "flawsOfState", "(II)I"⟩, 6), (⟨"GemCut", "worthOf", "(LGemCut$Stone;)I"⟩, 6), (⟨"GemCut", "tellCount", "(I)I"⟩, 6), (⟨"GemCut", "cellsOfStones", "()I"⟩, 6)]
theorem lw_r1 : ∀ q ∈ lw_privs_1, lw_okq q := List.forall_mem_cons.mpr ⟨lw_p0, List.forall_mem_cons.mpr ⟨lw_p1, List.forall_mem_cons.mpr ⟨lw_p2, List.forall_mem_cons.mpr ⟨lw_p3, List.forall_mem_cons.mpr ⟨lw_p4, List.forall_mem_cons.mpr ⟨lw_p5, List.forall_mem_cons.mpr ⟨lw_p6, List.forall_mem_cons.mpr ⟨lw_p7, List.forall_mem_cons.mpr ⟨lw_p8, List.forall_mem_cons.mpr ⟨lw_p9, List.forall_mem_cons.mpr ⟨lw_p10, List.forall_mem_cons.mpr ⟨lw_p11, List.forall_mem_cons.mpr ⟨lw_p12, List.forall_mem_cons.mpr ⟨lw_p13, List.forall_mem_cons.mpr ⟨lw_p14, List.forall_mem_cons.mpr ⟨lw_p15, fun _ h => absurd h List.not_mem_nil⟩⟩⟩⟩⟩⟩⟩⟩⟩⟩⟩⟩⟩⟩⟩⟩
theorem lw_p16 : lw_okq (⟨"GemCut", "stonesLeft", "()I"⟩, 6) := ⟨⟨by decide +kernel, by decide +kernel⟩, List.mem_of_getElem? (i := 17) (by decide +kernel), List.mem_of_getElem? (i := 546) (by decide +kernel), List.mem_of_getElem? (i := 547) (by decide +kernel)⟩
theorem lw_p17 : lw_okq (⟨"GemCut", "worthOfStones", "()I"⟩, 6) := ⟨⟨by decide +kernel, by decide +kernel⟩, List.mem_of_getElem? (i := 17) (by decide +kernel), List.mem_of_getElem? (i := 550) (by decide +kernel), List.mem_of_getElem? (i := 551) (by decide +kernel)⟩
theorem lw_p18 : lw_okq (⟨"GemCut$Trial", "lowerFloors", "(IIII)V"⟩, 6) := ⟨⟨by decide +kernel, by decide +kernel⟩, List.mem_of_getElem? (i := 165) (by decide +kernel), List.mem_of_getElem? (i := 563) (by decide +kernel), List.mem_of_getElem? (i := 564) (by decide +kernel)⟩
theorem lw_p19 : lw_okq (⟨"GemCut$Trial", "laterOpposites", "(II)I"⟩, 6) := ⟨⟨by decide +kernel, by decide +kernel⟩, List.mem_of_getElem? (i := 165) (by decide +kernel), List.mem_of_getElem? (i := 590) (by decide +kernel), List.mem_of_getElem? (i := 591) (by decide +kernel)⟩
theorem lw_p20 : lw_okq (⟨"GemCut$Trial", "isWithin", "(I)Z"⟩, 6) := ⟨⟨by decide +kernel, by decide +kernel⟩, List.mem_of_getElem? (i := 165) (by decide +kernel), List.mem_of_getElem? (i := 609) (by decide +kernel), List.mem_of_getElem? (i := 610) (by decide +kernel)⟩
theorem lw_p21 : lw_okq (⟨"GemCut$Trial", "lowestOf", "(LGemCut$Flaw;)I"⟩, 6) := ⟨⟨by decide +kernel, by decide +kernel⟩, List.mem_of_getElem? (i := 165) (by decide +kernel), List.mem_of_getElem? (i := 622) (by decide +kernel), List.mem_of_getElem? (i := 623) (by decide +kernel)⟩
def lw_privs_2 : List (MethodName × Nat) := [(⟨"GemCut", "stonesLeft", "()I"⟩, 6), (⟨"GemCut", "worthOfStones", "()I"⟩, 6), (⟨"GemCut$Trial", "lowerFloors", "(IIII)V"⟩, 6), (⟨"GemCut$Trial", "laterOpposites", "(II)I"⟩, 6), (⟨"GemCut$Trial", "isWithin", "(I)Z"⟩, 6), (⟨"GemCut$Trial", "lowestOf", "(LGemCut$Flaw;)I"⟩, 6)]
theorem lw_r2 : ∀ q ∈ lw_privs_2, lw_okq q := List.forall_mem_cons.mpr ⟨lw_p16, List.forall_mem_cons.mpr ⟨lw_p17, List.forall_mem_cons.mpr ⟨lw_p18, List.forall_mem_cons.mpr ⟨lw_p19, List.forall_mem_cons.mpr ⟨lw_p20, List.forall_mem_cons.mpr ⟨lw_p21, fun _ h => absurd h List.not_mem_nil⟩⟩⟩⟩⟩⟩
def lw_privs : List (MethodName × Nat) := lw_privs_1 ++ (lw_privs_2)
def lw_tbl : List Cond := k2_sels lw_privs ++ tables_1
theorem lw_privs_ok : ∀ q ∈ lw_privs, lw_okq q := by
  show ∀ q ∈ lw_privs_1 ++ (lw_privs_2), lw_okq q
  exact List.forall_mem_append.mpr ⟨lw_r1, lw_r2⟩
/-- the streams that the claim lets the run draw from -/
abbrev lw_cs : List Choice := [Jvm.Choice.named "NaN.bits"]
theorem lw_bits : nanBits ∈ lw_cs := by first | decide | exact List.mem_cons_self | simp [lw_cs, nanBits]
-- ===== end of PART A; then your names; then what follows =====
end
section
/-! ===== BEGIN words of one list among another's, by their places ===== -/
theorem goodIn_r {big : List Cond} (ws : List Cond) (ps : List Nat) (hp : ws = ps.filterMap (fun i => big[i]?)) (h : ws.all goodWord = true) : GoodIn big ws := by
  intro w hw
  have h1 := List.all_eq_true.mp h w hw
  rw [hp] at hw
  obtain ⟨i, -, hi⟩ := List.mem_filterMap.mp hw
  have hm : w ∈ big := by first | exact List.mem_of_getElem? hi | exact List.getElem?_mem hi
  exact ⟨hm, good_of_word h1⟩
theorem goodIn_app {big a b : List Cond} (ha : GoodIn big a) (hb : GoodIn big b) : GoodIn big (a ++ b) := fun w h => (List.mem_append.mp h).elim (ha w) (hb w)
theorem goodIn_ca {big a b : List Cond} {c : Cond} (ha : GoodIn big (c :: a)) (hb : GoodIn big b) : GoodIn big (c :: (a ++ b)) := fun w h => (List.mem_cons.mp h).elim (fun e => ha w (List.mem_cons.mpr (Or.inl e))) (fun h => (List.mem_append.mp h).elim (fun h => ha w (List.mem_cons.mpr (Or.inr h))) (hb w))
theorem goodIn_sub {big ws : List Cond} (hm : ∀ w ∈ ws, w ∈ big) (h : ws.all goodWord = true) : GoodIn big ws := fun w hw => ⟨hm w hw, good_of_word (List.all_eq_true.mp h w hw)⟩
/-! ===== END ===== -/

/-! ===== BEGIN exceptions that leave a method, and their catching by the caller (launches without stack traces) ===== -/
section VXA
/-! The laws vx_back, vx_callV, vx_callS, vx_callSW, vx_throw0, vx_throwS follow proofs of the library, with one case more: JvmDerived/Free/Laws.lean (Back.of_free), Shelf42/LK1.lean (callV, callS), Shelf/KitTraced.lean (throwNew0V, throwNewS). -/
/-- where a method has thrown q: the class by its name, the cell, what was written, the world -/
def vx_T (XC : String → State → State → Prop) (st : State) (q : Addr) (t : State) (mc ms : Nat) (free : Addr → Prop) : Prop :=
  ∃ (E : String) (ce : Cell) (L : List Loc), XC E st t ∧ t.heap[q]? = some ce ∧ ce.vm = .none ∧ st.vm.findClass E = some ce.cls ∧ st.WarmedH t.vm ∧ st.sameButNew ({ t with vm := st.vm } : State) L mc ms ∧ ∀ z ∈ L, free z.base
def vx_Q (Qc : Array Value → State → Outcome → State → Prop) (XC : String → State → State → Prop) (mc ms : Nat) (free : Addr → Prop) : Array Value → State → Outcome → State → Prop := fun a st o t =>
  (Qc a st o t ∧ ∃ L, FrameEnd st o t L mc ms ∧ ∀ q ∈ L, free q.base) ∨ ∃ q, o = .threw q ∧ vx_T XC st q t mc ms free
/-- a callee that returns or throws -/
def vx_Met (l : Launch) (y : MethodName) (ws : List Cond) (rm : Room) (Pc : Array Value → State → Prop) (Qc : Array Value → State → Outcome → State → Prop) (XC : String → State → State → Prop) (mc ms : Nat) (free : Addr → Prop) : Prop :=
  MetFree l y (headSpec ws rm) Pc (fun _ _ _ _ _ => True) (vx_Q Qc XC mc ms free)
def vx_Post (XC : String → State → State → Prop) (mc ms : Nat) (free : Addr → Prop) : Pt → Array Value → Addr → Pt → Prop := fun A a q B =>
  ∃ (g : JFrame) (mk : MethodId) (t : State) (L : List Loc) (E : String) (ce : Cell), B.U.heap = t.heap ∧ B.U.vm = t.vm ∧ XC E (A.U.calling g mk a) t ∧ t.heap[q]? = some ce ∧ ce.vm = .none ∧ A.U.vm.findClass E = some ce.cls ∧ B.locs = A.locs ++ L ∧ (∀ z ∈ L, free z.base) ∧ B.cells = A.cells + mc ∧ B.slots = A.slots + ms
def vx_Back (l : Launch) (R : Room) (p : Program) (e : Env) (below : List Frame) (s : State) (sargs : Array Value) (y : MethodName) (len W9 : Nat)
    (Pre : Pt → Array Value → Prop) (Post : Pt → Array Value → Option Value → Pt → Prop) (PostX : Pt → Array Value → Addr → Pt → Prop) : Prop :=
  ∀ (m : MethodId) (meth : Method) (c : Code) (A : Pt) (g : JFrame) (ig : Instr) (mk : MethodId) (a : Array Value),
    Stand p l e R s m sargs below meth c A.U A.locs A.cells A.slots → g.method = m → g.locals.size = c.maxLocals → decode c.code g.pc = .ok (ig, len) →
    2 * g.monitorRoom + (g.stack.map fun v => v.category).sum ≤ W9 → A.U.methodNamed? y = some mk → Pre A a →
    (∃ (v : Option Value) (B : Pt), Stand p l e R s m sargs below meth c B.U B.locs B.cells B.slots ∧ Post A a v B ∧
      Steps p.tables e below (doInvoke e (A.U.setTop g) [] mk a).1 (B.U.setTop { g with pc := g.pc + len, stack := v.toList ++ g.stack })) ∨
    (∃ (q : Addr) (B : Pt), Stand p l e R s m sargs below meth c B.U B.locs B.cells B.slots ∧ PostX A a q B ∧
      Steps p.tables e below (doInvoke e (A.U.setTop g) [] mk a).1 ((B.U.setTop g).pushFrame (.throwing q)))
section Payer
variable {l : Launch} {R : Room} {p : Program} {e : Env} {below : List Frame} {s : State} {sargs : Array Value} {y : MethodName} {len W9 : Nat}
theorem vx_back {ws : List Cond} {rm : Room} {Pc : Array Value → State → Prop} {Qc : Array Value → State → Outcome → State → Prop} {XC : String → State → State → Prop} {mc ms : Nat} {free : Addr → Prop} {bytes : ByteArray} {maxL : Nat} {ret : Option FieldType}
    (hM : vx_Met l y ws rm Pc Qc XC mc ms free) (hblind : FrameBlind Pc) (hrc : rm.cells = mc) (hrs : rm.slots = ms)
    (hframes : rm.frames + 1 ≤ R.frames) (hlocals : W9 + (maxL + 11) + rm.locals ≤ R.locals)
    (hws : ∀ w ∈ ws, ∀ a' U, s.WarmedH U.vm → w.before a' U = true) (hcode : Cond.code y bytes maxL ret ∈ ws) (hinit : ∀ a' U, s.WarmedH U.vm → (Cond.initialized y.cls).before a' U = true) :
    vx_Back l R p e below s sargs y len W9 (PreOf R mc ms Pc) (PostOf Qc mc ms free) (vx_Post XC mc ms free) := by
  intro m meth c A g ig mk a X hg hsize hdg hW hn hp
  have h1 : (headSpec ws rm).pre.before a A.U = true := atoms_intro fun w hw => hws w hw _ _ X.warmed
  have h2 : (Cond.code y bytes maxL ret).before a A.U = true := hws _ hcode _ _ X.warmed
  have h3 : (Cond.initialized y.cls).before a A.U = true := hinit _ _ X.warmed
  have h4 : A.cells + (headSpec ws rm).room.cells ≤ R.cells := by rw [show (headSpec ws rm).room.cells = mc from hrc]; exact hp.1
  have h5 : A.slots + (headSpec ws rm).room.slots ≤ R.slots := by rw [show (headSpec ws rm).room.slots = ms from hrs]; exact hp.2.1
  have hPc : Pc a (A.U.calling g mk a) := hblind _ _ _ _ hp.2.2
  obtain ⟨U, Ls, c0, s0⟩ := A
  dsimp only [Pt.U, Pt.locs, Pt.cells, Pt.slots] at h1 h2 h3 h4 h5 X hn hPc ⊢
  obtain ⟨methY, cY, hmY, hcY, -, hlY, -, -, -, -⟩ := Cond.code_spec hn h2
  obtain ⟨kY, hkY, -⟩ := className_of_methodNamed hn
  have hinitY : kY.init = .initialized := Cond.initialized_spec (findClass_of_methodNamed hn) hkY h3
  have h : At U g.method c below := by rw [hg]; exact X.here
  have hlocals9 : W9 + (maxL + 11) + (headSpec ws rm).room.locals ≤ R.locals := hlocals
  have happ : (headSpec ws rm).appliesLoose y e.platform (U.calling g mk a) = true :=
    Spec.appliesLoose_calling (g := g) h hdg hn hkY hinitY
      (X.room_calling (g := g) (R' := (headSpec ws rm).room) hsize hmY hcY hframes (by rw [hlY]; omega) h4 h5) h1
  obtain ⟨mid, hmid⟩ := h.above
  have hfr : (U.setTop g).frames = (.java g :: mid) ++ below := by rw [State.frames_setTop' g h.top, hmid]; rfl
  obtain ⟨o, s₂, hsteps, -, hend, hq⟩ := Steps.callFree hM p X.admits X.cas X.clock (acts := []) hfr happ hPc trivial
  have hq' : vx_Q Qc XC mc ms free a (U.calling g mk a) o s₂ := hq
  rw [State.frames_setTop' g h.top] at hend
  obtain ⟨g₀, hg0⟩ := Option.isSome_iff_exists.mp h.top
  obtain ⟨r, hr⟩ := State.topJava?_eq_some.mp hg0
  have hr' : (({ U with heap := s₂.heap, slotsUsed := s₂.slotsUsed } : State).setVm s₂.vm).frames = .java g₀ :: r := hr
  rcases hq' with ⟨hqc, L, hfe, hL⟩ | ⟨q, rfl, E, ce, L, hx, hce, hcv, hcl, hW₂, hsm, hL⟩
  · obtain ⟨⟨v, rfl⟩, hW₂, e2, q2, q3, q4, q5, q6⟩ := id hfe
    have e3 : s₂ = ({ (U.calling g mk a).setFrames s₂.frames with heap := s₂.heap, slotsUsed := s₂.slotsUsed } : State).setVm s₂.vm := by
      have : s₂ = ({ s₂ with vm := (U.calling g mk a).vm } : State).setVm s₂.vm := rfl
      rw [e2] at this
      exact this
    obtain ⟨c₂, i₂, len₂, hc₂, hd₂, hf₂⟩ := hend
    have hW' : U.WarmedH s₂.vm := hW₂
    have hcc : c₂ = c := by
      have h1 : s₂.code? g.method = U.code? g.method := by
        rw [State.code?_eq, State.code?_eq, hW'.alike.method?]
      exact Option.some.inj (hc₂.symm.trans (h1.trans h.code))
    subst hcc
    have hlen : len₂ = len := by rw [hdg] at hd₂; cases hd₂; rfl
    subst hlen
    have hs₂ : s₂ = (({ U with heap := s₂.heap, slotsUsed := s₂.slotsUsed } : State).setVm s₂.vm).setTop { g with pc := g.pc + len₂, stack := v.toList ++ g.stack } := by
      refine e3.trans ?_
      rw [hf₂, State.calling_eq h.top, State.setFrames_setFrames, State.setTop_of_frames _ hr', hr]
      rfl
    have hsame : U.sameButNew ({ U with heap := s₂.heap, slotsUsed := s₂.slotsUsed } : State) L mc ms := by
      refine ⟨?_, q2, q3, q4, q5, q6⟩
      obtain ⟨t, ht, -⟩ := State.frames_cons hr
      show ({ U with heap := s₂.heap, slotsUsed := s₂.slotsUsed } : State) = { U.setFrames U.frames with heap := s₂.heap, slotsUsed := s₂.slotsUsed }
      rw [State.setFrames_self ht]
    subst hg
    refine Or.inl ⟨v, ⟨(({ U with heap := s₂.heap, slotsUsed := s₂.slotsUsed } : State).setVm s₂.vm), Ls ++ L, c0 + mc, s0 + ms⟩,
      ⟨X.admits, X.cas, X.clock, X.frames, X.room, X.hears, X.method, X.code, (X.here.setHeapUsed s₂.heap s₂.slotsUsed).setVm hW'.alike, X.tail, State.WarmedH.trans X.warmed hW', X.limits, X.bytes, X.same.trans (hsame.setVm s.vm)⟩,
      ⟨g, mk, s₂, L, rfl, rfl, hqc, rfl, hL, rfl, rfl⟩, ?_⟩
    show Steps p.tables e below _ ((({ U with heap := s₂.heap, slotsUsed := s₂.slotsUsed } : State).setVm s₂.vm).setTop { g with pc := g.pc + len₂, stack := v.toList ++ g.stack })
    rw [← hs₂]
    exact hsteps
  · obtain ⟨e2, q2, q3, q4, q5, q6⟩ := id hsm
    have e3 : s₂ = ({ (U.calling g mk a).setFrames s₂.frames with heap := s₂.heap, slotsUsed := s₂.slotsUsed } : State).setVm s₂.vm := by
      have : s₂ = ({ s₂ with vm := (U.calling g mk a).vm } : State).setVm s₂.vm := rfl
      rw [e2] at this
      exact this
    have hf₂ : s₂.frames = .throwing q :: .java g :: U.frames.tail := hend
    have hW' : U.WarmedH s₂.vm := hW₂
    have hs₂ : s₂ = ((({ U with heap := s₂.heap, slotsUsed := s₂.slotsUsed } : State).setVm s₂.vm).setTop g).pushFrame (.throwing q) := by
      refine e3.trans ?_
      rw [hf₂, State.calling_eq h.top, State.setFrames_setFrames, State.pushFrame, State.frames_setTop _ hr', State.setTop_of_frames _ hr', State.setFrames_setFrames, hr]
      rfl
    have hsame : U.sameButNew ({ U with heap := s₂.heap, slotsUsed := s₂.slotsUsed } : State) L mc ms := by
      refine ⟨?_, q2, q3, q4, q5, q6⟩
      obtain ⟨t, ht, -⟩ := State.frames_cons hr
      show ({ U with heap := s₂.heap, slotsUsed := s₂.slotsUsed } : State) = { U.setFrames U.frames with heap := s₂.heap, slotsUsed := s₂.slotsUsed }
      rw [State.setFrames_self ht]
    subst hg
    refine Or.inr ⟨q, ⟨(({ U with heap := s₂.heap, slotsUsed := s₂.slotsUsed } : State).setVm s₂.vm), Ls ++ L, c0 + mc, s0 + ms⟩,
      ⟨X.admits, X.cas, X.clock, X.frames, X.room, X.hears, X.method, X.code, (X.here.setHeapUsed s₂.heap s₂.slotsUsed).setVm hW'.alike, X.tail, State.WarmedH.trans X.warmed hW', X.limits, X.bytes, X.same.trans (hsame.setVm s.vm)⟩,
      ⟨g, mk, s₂, L, E, ce, rfl, rfl, hx, hce, hcv, hcl, rfl, hL, rfl, rfl⟩, ?_⟩
    show Steps p.tables e below _ (((({ U with heap := s₂.heap, slotsUsed := s₂.slotsUsed } : State).setVm s₂.vm).setTop g).pushFrame (.throwing q))
    rw [← hs₂]
    exact hsteps
end Payer
section Calls
variable {p : Program} {l : Launch} {e : Env} {R : Room} {s : State} {m : MethodId} {args : Array Value} {below : List Frame} {meth : Method} {c : Code} {T : State} {locs : List Loc} {cells slots : Nat}
theorem vx_callV (X : Stand p l e R s m args below meth c T locs cells slots) (hexec : p.tables.exec = Jvm.exec) {own C : String} {index : Nat} {y : MethodName} {bytes : ByteArray} {maxL : Nat} {ret : Option FieldType}
    (hown : s.vm.findClass own = some m.cls) (hlink : (Cond.methodLink own index y).before args s = true) (hinst : (Cond.instanceMethod y).before args s = true) (hsel : (Cond.selects C y y).before args s = true)
    (hcode : (Cond.code y bytes maxL ret).before args s = true) (hy : y.cls ≠ "java/lang/invoke/MethodHandle" ∧ y.cls ≠ "java/lang/invoke/VarHandle")
    {W9 : Nat} {Pre : Pt → Array Value → Prop} {Post : Pt → Array Value → Option Value → Pt → Prop} {PostX : Pt → Array Value → Addr → Pt → Prop} (hK : vx_Back l R p e below s args y 3 W9 Pre Post PostX)
    {b : Addr} {cellB : Cell} (hcell : T.heap[b]? = some cellB) (hobj : cellB.vm.isStatics = false) (hcls : s.vm.findClass C = some cellB.cls)
    {g : JFrame} (hg : g.method = m) (hsize : g.locals.size = c.maxLocals) {argsL rest : List Value} (hlen : ∀ sig, parseMethodDescriptor y.desc = some sig → argsL.length = sig.parameters.length)
    (hstack : g.stack = argsL.reverse ++ .ref b :: rest) (hW : 2 * g.monitorRoom + (rest.map fun v => v.category).sum ≤ W9) (hdg : decode c.code g.pc = .ok (.invokevirtual index, 3))
    (hpre : ∀ vm₁, s.WarmedH vm₁ → Pre ⟨T.setVm vm₁, locs, cells, slots⟩ (Value.ref b :: argsL).toArray) :
    (∃ (v : Option Value) (vm₁ : Vm) (B : Pt), s.WarmedH vm₁ ∧ Stand p l e R s m args below meth c B.U B.locs B.cells B.slots ∧ Post ⟨T.setVm vm₁, locs, cells, slots⟩ (Value.ref b :: argsL).toArray v B ∧
      ∀ target, Steps p.tables e below (B.U.setTop { g with pc := g.pc + 3, stack := v.toList ++ rest }) target → Steps p.tables e below (T.setTop g) target) ∨
    (∃ (q : Addr) (vm₁ : Vm) (B : Pt), s.WarmedH vm₁ ∧ Stand p l e R s m args below meth c B.U B.locs B.cells B.slots ∧ PostX ⟨T.setVm vm₁, locs, cells, slots⟩ (Value.ref b :: argsL).toArray q B ∧
      Steps p.tables e below (T.setTop g) ((B.U.setTop { g with stack := rest }).pushFrame (.throwing q))) := by
  obtain ⟨mk, methM, hnamed, hmethM, hstM, habM⟩ := Cond.instanceMethod_spec hinst
  obtain ⟨methM', cM, hmethM', -, -, -, -, -, -, hsigM⟩ := Cond.code_spec hnamed hcode
  cases hmethM.symm.trans hmethM'
  obtain ⟨c2, r2, m2, q1, q2, q3, q4, kP, hkP, hkPi⟩ := Cond.selects_spec hsel
  cases hcls.symm.trans q1
  cases (State.methodFound?_of_named hnamed hy).symm.trans q2
  cases hnamed.symm.trans q3
  have hselP : selectMethod e.platform s.vm cellB.cls mk = .method mk := by rw [Launch.admits_selectMethod X.admits]; exact q4
  obtain ⟨vm₁, X₁, hstep₁⟩ := X.invokevirtual hexec hown hlink hnamed hmethM hstM hkP hkPi hy (a := b) (cell := cellB) hcell
    (fun z h => by rw [h] at hobj; cases hobj) hselP hmethM habM hkP hkPi (g := g) hg (argsL := argsL) (rest := rest) (hlen _ hsigM) hstack hdg
  rcases hK m meth c ⟨T.setVm vm₁, locs, cells, slots⟩ { g with stack := rest } (.invokevirtual index) mk (Value.ref b :: argsL).toArray X₁ hg hsize hdg hW (X₁.named hnamed) (hpre vm₁ X₁.warmed) with ⟨v, B, X', hpost, hsteps⟩ | ⟨q, B, X', hpost, hsteps⟩
  · exact Or.inl ⟨v, vm₁, B, X₁.warmed, X', hpost, fun target h => hstep₁ _ fun acts => by rw [doInvoke_state]; exact hsteps.trans h⟩
  · exact Or.inr ⟨q, vm₁, B, X₁.warmed, X', hpost, hstep₁ _ fun acts => by rw [doInvoke_state]; exact hsteps⟩
theorem vx_callS (X : Stand p l e R s m args below meth c T locs cells slots) (hexec : p.tables.exec = Jvm.exec) {own : String} {index : Nat} {y : MethodName} {bytes : ByteArray} {maxL : Nat} {ret : Option FieldType}
    (hown : s.vm.findClass own = some m.cls) (hlink : (Cond.methodLink own index y).before args s = true) (hstat : (Cond.static y).before args s = true) (hinit : (Cond.initialized y.cls).before args s = true)
    (hcode : (Cond.code y bytes maxL ret).before args s = true) (hy : y.cls ≠ "java/lang/invoke/MethodHandle" ∧ y.cls ≠ "java/lang/invoke/VarHandle")
    {W9 : Nat} {Pre : Pt → Array Value → Prop} {Post : Pt → Array Value → Option Value → Pt → Prop} {PostX : Pt → Array Value → Addr → Pt → Prop} (hK : vx_Back l R p e below s args y 3 W9 Pre Post PostX)
    {g : JFrame} (hg : g.method = m) (hsize : g.locals.size = c.maxLocals) {argsL rest : List Value} (hlen : ∀ sig, parseMethodDescriptor y.desc = some sig → argsL.length = sig.parameters.length)
    (hstack : g.stack = argsL.reverse ++ rest) (hW : 2 * g.monitorRoom + (rest.map fun v => v.category).sum ≤ W9) (hdg : decode c.code g.pc = .ok (.invokestatic index, 3))
    (hpre : ∀ vm₁, s.WarmedH vm₁ → Pre ⟨T.setVm vm₁, locs, cells, slots⟩ argsL.toArray) :
    (∃ (v : Option Value) (vm₁ : Vm) (B : Pt), s.WarmedH vm₁ ∧ Stand p l e R s m args below meth c B.U B.locs B.cells B.slots ∧ Post ⟨T.setVm vm₁, locs, cells, slots⟩ argsL.toArray v B ∧
      ∀ target, Steps p.tables e below (B.U.setTop { g with pc := g.pc + 3, stack := v.toList ++ rest }) target → Steps p.tables e below (T.setTop g) target) ∨
    (∃ (q : Addr) (vm₁ : Vm) (B : Pt), s.WarmedH vm₁ ∧ Stand p l e R s m args below meth c B.U B.locs B.cells B.slots ∧ PostX ⟨T.setVm vm₁, locs, cells, slots⟩ argsL.toArray q B ∧
      Steps p.tables e below (T.setTop g) ((B.U.setTop { g with stack := rest }).pushFrame (.throwing q))) := by
  obtain ⟨mk, hnamed⟩ := Cond.code_named hcode
  obtain ⟨methM, cM, hmethM, -, -, -, -, -, -, hsigM⟩ := Cond.code_spec hnamed hcode
  have hstatic : methM.isStatic = true := Cond.static_spec hnamed hmethM hstat
  obtain ⟨kP, hkP, -⟩ := className_of_methodNamed hnamed
  have hinitP : kP.init = .initialized := Cond.initialized_spec (findClass_of_methodNamed hnamed) hkP hinit
  obtain ⟨vm₁, X₁, hstep₁⟩ := X.invokestatic hexec hown hlink hnamed hmethM hstatic hkP hinitP hy (g := g) hg (argsL := argsL) (rest := rest) (hlen _ hsigM) hstack hdg
  rcases hK m meth c ⟨T.setVm vm₁, locs, cells, slots⟩ { g with stack := rest } (.invokestatic index) mk argsL.toArray X₁ hg hsize hdg hW (X₁.named hnamed) (hpre vm₁ X₁.warmed) with ⟨v, B, X', hpost, hsteps⟩ | ⟨q, B, X', hpost, hsteps⟩
  · exact Or.inl ⟨v, vm₁, B, X₁.warmed, X', hpost, fun target h => hstep₁ _ fun acts => by rw [doInvoke_state]; exact hsteps.trans h⟩
  · exact Or.inr ⟨q, vm₁, B, X₁.warmed, X', hpost, hstep₁ _ fun acts => by rw [doInvoke_state]; exact hsteps⟩
end Calls
theorem vx_cls {s : State} {T : State} {vm₁ : Vm} {E : String} {k : ClassId} (hW : s.WarmedH vm₁) (h : (T.setVm vm₁).vm.findClass E = some k) : s.vm.findClass E = some k := by
  have h1 : vm₁.findClass E = some k := h
  rw [hW.alike.findClass] at h1
  exact h1
/-- the method's frame g, with q thrown over it -/
def vx_W (p : Program) (l : Launch) (e : Env) (R : Room) (s : State) (m : MethodId) (args : Array Value) (below : List Frame) (meth : Method) (c : Code) (H : Heap) (locs : List Loc) (cells slots : Nat) (Q : State → Prop) (g : JFrame) (q : Addr) : Prop :=
  ∀ T : State, T.heap = H → Stand p l e R s m args below meth c T locs cells slots → ∃ t, Steps p.tables e below ((T.setTop g).pushFrame (.throwing q)) t ∧ Q t
def vx_Run (p : Program) (l : Launch) (e : Env) (R : Room) (s : State) (m : MethodId) (args : Array Value) (below : List Frame) (meth : Method) (c : Code) (H : Heap) (locs : List Loc) (cells slots mc ms : Nat) (g : JFrame) (rest : List Value) (Qa : State → Outcome → State → Prop) (XC : String → State → State → Prop) (free : Addr → Prop) : Prop :=
  ∀ T : State, T.heap = H → Stand p l e R s m args below meth c T locs cells slots →
    (∃ (v : Option Value) (st₀ t T' : State) (L : List Loc), st₀.heap = H ∧ Stand p l e R s m args below meth c T' (locs ++ L) (cells + mc) (slots + ms) ∧ (∀ q ∈ L, free q.base) ∧ T'.heap = t.heap ∧ T'.vm = t.vm ∧ Qa st₀ (.returned v) t ∧
      Goes p e below T g T' { g with pc := g.pc + 3, stack := v.toList ++ rest }) ∨
    (∃ (q : Addr) (st₀ t T' : State) (L : List Loc) (E : String) (ce : Cell), st₀.heap = H ∧ Stand p l e R s m args below meth c T' (locs ++ L) (cells + mc) (slots + ms) ∧ (∀ z ∈ L, free z.base) ∧ T'.heap = t.heap ∧ T'.vm = t.vm ∧ XC E st₀ t ∧ t.heap[q]? = some ce ∧ ce.vm = .none ∧ s.vm.findClass E = some ce.cls ∧
      Steps p.tables e below (T.setTop g) ((T'.setTop { g with stack := rest }).pushFrame (.throwing q)))
def vx_X {S : Type} (px : S → Prop) (B : String → S → State → Prop) (A : Nat → Prop) : String → State → State → Prop := fun E st t => ∃ u : S, px u ∧ B E u t ∧ va_F A st t
section Runs
variable {p : Program} {l : Launch} {e : Env} {R : Room} {s : State} {m : MethodId} {args : Array Value} {below : List Frame} {meth : Method} {c : Code} {H : Heap} {locs : List Loc} {cells slots : Nat}
variable {y : MethodName} {bytes cc : ByteArray} {maxL nL mc ms n index : Nat} {ret : Option FieldType} {ws : List Cond} {rm : Room} {Pc : Array Value → State → Prop} {Qc : Array Value → State → Outcome → State → Prop} {XC : String → State → State → Prop} {free : Addr → Prop} {Ts : List Cond} {own C : String} {b : Addr} {As rest : List Value} {g : JFrame}
theorem vx_callBack (cb : CallB R s args own index y bytes maxL ret ws rm mc ms n) (hM : vx_Met l y ws rm Pc Qc XC mc ms free) (hbl : FrameBlind Pc) : vx_Back l R p e below s args y 3 8 (PreOf R mc ms Pc) (PostOf Qc mc ms free) (vx_Post XC mc ms free) := by
  obtain ⟨hrc, hrs, hfr, hlo, hws, hcw, -, hini, -⟩ := cb
  exact vx_back (bytes := bytes) (maxL := maxL) (ret := ret) hM hbl hrc hrs hfr hlo hws hcw (fun a' U hW => word_at hW (Or.inl (by first | rfl | simp [Cond.onTables, Cond.keeps, Cond.steady])) hini)
theorem vx_runV (S : CallFix p m c cc nL s args Ts own) (hM : vx_Met l y ws rm Pc Qc XC mc ms free) (cw : CallW R s args own C index y bytes maxL ret ws rm mc ms n) (hp : PreV s H C b Pc As)
    (hg : g.method = m) (hn : As.length = n) (hsize : g.locals.size = nL) (hstack : g.stack = As.reverse ++ .ref b :: rest) (hW : 2 * g.monitorRoom + (rest.map fun v => v.category).sum ≤ 8) (hdg : decode cc g.pc = .ok (.invokevirtual index, 3)) (hf : cells + mc ≤ R.cells ∧ slots + ms ≤ R.slots) :
    vx_Run p l e R s m args below meth c H locs cells slots mc ms g rest (Qc (Value.ref b :: As).toArray) XC free := by
  have hK : vx_Back l R p e below s args y 3 8 (PreOf R mc ms Pc) (PostOf Qc mc ms free) (vx_Post XC mc ms free) := vx_callBack cw.1 hM hp.1
  obtain ⟨⟨-, -, -, -, -, -, hcode, -, hy, hlen, hl⟩, hin, hse⟩ := cw
  obtain ⟨hx, hb, hml, ho, -⟩ := S
  obtain ⟨-, ⟨cellB, hcB, hoB, hclB⟩, hPc⟩ := hp
  intro T hT X
  rcases vx_callV X hx (C := C) (bytes := bytes) (maxL := maxL) (ret := ret) ho hl hin hse hcode hy hK (by rw [hT]; exact hcB) hoB hclB hg (hsize.trans hml.symm) (argsL := As) (rest := rest) (fun sig h => hn.trans (hlen sig h)) hstack hW (by rw [hb]; exact hdg)
    (fun vm₁ hW₁ => ⟨hf.1, hf.2, hPc (T.setVm vm₁) hT hW₁⟩) with ⟨v, vm₁, ⟨U', l2, c2, s2⟩, hW₁, X', ⟨g', mk, t, L, e1, e2, hq, h1, hL, h2, h3⟩, st⟩ | ⟨q, vm₁, ⟨U', l2, c2, s2⟩, hW₁, X', ⟨g', mk, t, L, E, ce, e1, e2, hq, hce, hcv, hcl, h1, hL, h2, h3⟩, st⟩
  · dsimp only [Pt.U, Pt.locs, Pt.cells, Pt.slots] at X' e1 e2 h1 h2 h3 st
    subst h1; subst h2; subst h3
    exact Or.inl ⟨v, (T.setVm vm₁).calling g' mk (Value.ref b :: As).toArray, t, U', L, hT, X', hL, e1, e2, hq, st⟩
  · dsimp only [Pt.U, Pt.locs, Pt.cells, Pt.slots] at X' e1 e2 h1 h2 h3 st hcl
    subst h1; subst h2; subst h3
    exact Or.inr ⟨q, (T.setVm vm₁).calling g' mk (Value.ref b :: As).toArray, t, U', L, E, ce, hT, X', hL, e1, e2, hq, hce, hcv, vx_cls hW₁ hcl, st⟩
theorem vx_runS (S : CallFix p m c cc nL s args Ts own) (hM : vx_Met l y ws rm Pc Qc XC mc ms free) (cw : CallB R s args own index y bytes maxL ret ws rm mc ms n ∧ (Cond.static y).before args s = true) (hp : PreS s H Pc As)
    (hg : g.method = m) (hn : As.length = n) (hsize : g.locals.size = nL) (hstack : g.stack = As.reverse ++ rest) (hW : 2 * g.monitorRoom + (rest.map fun v => v.category).sum ≤ 8) (hdg : decode cc g.pc = .ok (.invokestatic index, 3)) (hf : cells + mc ≤ R.cells ∧ slots + ms ≤ R.slots) :
    vx_Run p l e R s m args below meth c H locs cells slots mc ms g rest (Qc As.toArray) XC free := by
  have hK : vx_Back l R p e below s args y 3 8 (PreOf R mc ms Pc) (PostOf Qc mc ms free) (vx_Post XC mc ms free) := vx_callBack cw.1 hM hp.1
  obtain ⟨⟨-, -, -, -, -, -, hcode, hini, hy, hlen, hl⟩, hstt⟩ := cw
  obtain ⟨hx, hb, hml, ho, -⟩ := S
  intro T hT X
  rcases vx_callS X hx (bytes := bytes) (maxL := maxL) (ret := ret) ho hl hstt hini hcode hy hK hg (hsize.trans hml.symm) (argsL := As) (rest := rest) (fun sig h => hn.trans (hlen sig h)) hstack hW (by rw [hb]; exact hdg)
    (fun vm₁ hW₁ => ⟨hf.1, hf.2, hp.2 (T.setVm vm₁) hT hW₁⟩) with ⟨v, vm₁, ⟨U', l2, c2, s2⟩, hW₁, X', ⟨g', mk, t, L, e1, e2, hq, h1, hL, h2, h3⟩, st⟩ | ⟨q, vm₁, ⟨U', l2, c2, s2⟩, hW₁, X', ⟨g', mk, t, L, E, ce, e1, e2, hq, hce, hcv, hcl, h1, hL, h2, h3⟩, st⟩
  · dsimp only [Pt.U, Pt.locs, Pt.cells, Pt.slots] at X' e1 e2 h1 h2 h3 st
    subst h1; subst h2; subst h3
    exact Or.inl ⟨v, (T.setVm vm₁).calling g' mk As.toArray, t, U', L, hT, X', hL, e1, e2, hq, st⟩
  · dsimp only [Pt.U, Pt.locs, Pt.cells, Pt.slots] at X' e1 e2 h1 h2 h3 st hcl
    subst h1; subst h2; subst h3
    exact Or.inr ⟨q, (T.setVm vm₁).calling g' mk As.toArray, t, U', L, E, ce, hT, X', hL, e1, e2, hq, hce, hcv, vx_cls hW₁ hcl, st⟩
end Runs
section Rows
variable {p : Program} {l : Launch} {e : Env} {R : Room} {s : State} {m : MethodId} {args : Array Value} {below : List Frame} {meth : Method} {c : Code} {H : Heap} {locs : List Loc} {cells slots : Nat} {Q : State → Prop}
variable {mc ms : Nat} {free : Addr → Prop} {A0 A1 : Nat → Prop} {H0 : Heap} {a : Array Value} {pc : Nat} {ls : Array Slot} {st0 rest : List Value}
theorem vx_keep {st₀ t T' : State} {L : List Loc} (h0 : st₀.heap = H) (e1 : T'.heap = t.heap) (hS : va_S A0 H0 H locs) (hA : ∀ q, q < H.size → A1 q → A0 q) (hf : ∀ q, free q → A0 q) (hL : ∀ q ∈ L, free q.base) (hF : va_F A1 st₀ t) :
    H.size ≤ T'.heap.size ∧ (∀ q : Nat, q < H.size → ¬ A1 q → T'.heap[q]? = H[q]?) ∧ va_S A0 H0 T'.heap (locs ++ L) := by
  obtain ⟨hz, hk⟩ := hF
  rw [h0] at hz hk
  exact ⟨by rw [e1]; exact hz, fun q h1 h2 => by rw [e1]; exact hk q h1 h2,
    ⟨Nat.le_trans hS.1 (by rw [e1]; exact hz), fun q h1 h2 => by rw [e1, hk q (Nat.lt_of_lt_of_le h1 hS.1) (fun z => h2 (hA q (Nat.lt_of_lt_of_le h1 hS.1) z))]; exact hS.2.1 q h1 h2, fun q hq => by
      rcases List.mem_append.mp hq with h | h
      · exact hS.2.2 q h
      · exact hf _ (hL q h)⟩⟩
theorem vx_calli {S SX : Type} {post : Int32 → S → Prop} {px : SX → Prop} {B : S → State → Prop} {BX : String → SX → State → Prop} {AX : Nat → Prop} (hr : vx_Run p l e R s m args below meth c H locs cells slots mc ms (F0 m pc ls st0) rest (va_Qi post B A1 a) (vx_X px BX AX) free) (hS : va_S A0 H0 H locs) (hA : ∀ q, q < H.size → A1 q → A0 q) (hf : ∀ q, free q → A0 q) (hAX : ∀ q, q < H.size → AX q → A0 q)
    (kx : ∀ (E : String) (ce : Cell) (q9 : Addr) (u : SX) (t : State) (H1 : Heap) (locs1 : List Loc), t.heap = H1 → s.vm.Alike t.vm → px u → BX E u t → H.size ≤ H1.size → (∀ q : Nat, q < H.size → ¬ AX q → H1[q]? = H[q]?) → va_S A0 H0 H1 locs1 → H1[q9]? = some ce → ce.vm = .none → s.vm.findClass E = some ce.cls → vx_W p l e R s m args below meth c H1 locs1 (cells + mc) (slots + ms) Q (F0 m pc ls rest) q9)
    (kk : ∀ (r : Int32) (u : S) (t : State) (H1 : Heap) (locs1 : List Loc), t.heap = H1 → s.vm.Alike t.vm → post r u → B u t → H.size ≤ H1.size → (∀ q : Nat, q < H.size → ¬ A1 q → H1[q]? = H[q]?) → va_S A0 H0 H1 locs1 → W p l e R s m args below meth c H1 locs1 (cells + mc) (slots + ms) Q (F0 m (pc + 3) ls (.int r :: rest))) : W p l e R s m args below meth c H locs cells slots Q (F0 m pc ls st0) := by
  intro T hT X
  rcases hr T hT X with ⟨v, st₀, t, T', L, h0, X', hL, e1, e2, ⟨⟨r, u, hv, hp, hb⟩, hF⟩, st⟩ | ⟨q, st₀, t, T', L, E, ce, h0, X', hL, e1, e2, ⟨u, hp, hb, hF⟩, hce, hcv, hcl, st⟩
  · cases hv
    obtain ⟨k1, k2, k3⟩ := vx_keep h0 e1 hS hA hf hL hF
    obtain ⟨t2, a1, b1⟩ := kk r u t T'.heap (locs ++ L) e1.symm (by rw [← e2]; exact X'.warmed.alike) hp hb k1 k2 k3 T' rfl X'
    exact ⟨t2, st t2 a1, b1⟩
  · obtain ⟨k1, k2, k3⟩ := vx_keep h0 e1 hS hAX hf hL hF
    obtain ⟨t2, a1, b1⟩ := kx E ce q u t T'.heap (locs ++ L) e1.symm (by rw [← e2]; exact X'.warmed.alike) hp hb k1 k2 k3 (by rw [e1]; exact hce) hcv hcl T' rfl X'
    exact ⟨t2, st.trans a1, b1⟩
theorem vx_calll {S SX : Type} {post : Int64 → S → Prop} {px : SX → Prop} {B : S → State → Prop} {BX : String → SX → State → Prop} {AX : Nat → Prop} (hr : vx_Run p l e R s m args below meth c H locs cells slots mc ms (F0 m pc ls st0) rest (va_Ql post B A1 a) (vx_X px BX AX) free) (hS : va_S A0 H0 H locs) (hA : ∀ q, q < H.size → A1 q → A0 q) (hf : ∀ q, free q → A0 q) (hAX : ∀ q, q < H.size → AX q → A0 q)
    (kx : ∀ (E : String) (ce : Cell) (q9 : Addr) (u : SX) (t : State) (H1 : Heap) (locs1 : List Loc), t.heap = H1 → s.vm.Alike t.vm → px u → BX E u t → H.size ≤ H1.size → (∀ q : Nat, q < H.size → ¬ AX q → H1[q]? = H[q]?) → va_S A0 H0 H1 locs1 → H1[q9]? = some ce → ce.vm = .none → s.vm.findClass E = some ce.cls → vx_W p l e R s m args below meth c H1 locs1 (cells + mc) (slots + ms) Q (F0 m pc ls rest) q9)
    (kk : ∀ (r : Int64) (u : S) (t : State) (H1 : Heap) (locs1 : List Loc), t.heap = H1 → s.vm.Alike t.vm → post r u → B u t → H.size ≤ H1.size → (∀ q : Nat, q < H.size → ¬ A1 q → H1[q]? = H[q]?) → va_S A0 H0 H1 locs1 → W p l e R s m args below meth c H1 locs1 (cells + mc) (slots + ms) Q (F0 m (pc + 3) ls (.long r :: rest))) : W p l e R s m args below meth c H locs cells slots Q (F0 m pc ls st0) := by
  intro T hT X
  rcases hr T hT X with ⟨v, st₀, t, T', L, h0, X', hL, e1, e2, ⟨⟨r, u, hv, hp, hb⟩, hF⟩, st⟩ | ⟨q, st₀, t, T', L, E, ce, h0, X', hL, e1, e2, ⟨u, hp, hb, hF⟩, hce, hcv, hcl, st⟩
  · cases hv
    obtain ⟨k1, k2, k3⟩ := vx_keep h0 e1 hS hA hf hL hF
    obtain ⟨t2, a1, b1⟩ := kk r u t T'.heap (locs ++ L) e1.symm (by rw [← e2]; exact X'.warmed.alike) hp hb k1 k2 k3 T' rfl X'
    exact ⟨t2, st t2 a1, b1⟩
  · obtain ⟨k1, k2, k3⟩ := vx_keep h0 e1 hS hAX hf hL hF
    obtain ⟨t2, a1, b1⟩ := kx E ce q u t T'.heap (locs ++ L) e1.symm (by rw [← e2]; exact X'.warmed.alike) hp hb k1 k2 k3 (by rw [e1]; exact hce) hcv hcl T' rfl X'
    exact ⟨t2, st.trans a1, b1⟩
theorem vx_callf {S SX : Type} {post : UInt32 → S → Prop} {px : SX → Prop} {B : S → State → Prop} {BX : String → SX → State → Prop} {AX : Nat → Prop} (hr : vx_Run p l e R s m args below meth c H locs cells slots mc ms (F0 m pc ls st0) rest (va_Qf post B A1 a) (vx_X px BX AX) free) (hS : va_S A0 H0 H locs) (hA : ∀ q, q < H.size → A1 q → A0 q) (hf : ∀ q, free q → A0 q) (hAX : ∀ q, q < H.size → AX q → A0 q)
    (kx : ∀ (E : String) (ce : Cell) (q9 : Addr) (u : SX) (t : State) (H1 : Heap) (locs1 : List Loc), t.heap = H1 → s.vm.Alike t.vm → px u → BX E u t → H.size ≤ H1.size → (∀ q : Nat, q < H.size → ¬ AX q → H1[q]? = H[q]?) → va_S A0 H0 H1 locs1 → H1[q9]? = some ce → ce.vm = .none → s.vm.findClass E = some ce.cls → vx_W p l e R s m args below meth c H1 locs1 (cells + mc) (slots + ms) Q (F0 m pc ls rest) q9)
    (kk : ∀ (r : UInt32) (u : S) (t : State) (H1 : Heap) (locs1 : List Loc), t.heap = H1 → s.vm.Alike t.vm → post r u → B u t → H.size ≤ H1.size → (∀ q : Nat, q < H.size → ¬ A1 q → H1[q]? = H[q]?) → va_S A0 H0 H1 locs1 → W p l e R s m args below meth c H1 locs1 (cells + mc) (slots + ms) Q (F0 m (pc + 3) ls (.float r :: rest))) : W p l e R s m args below meth c H locs cells slots Q (F0 m pc ls st0) := by
  intro T hT X
  rcases hr T hT X with ⟨v, st₀, t, T', L, h0, X', hL, e1, e2, ⟨⟨r, u, hv, hp, hb⟩, hF⟩, st⟩ | ⟨q, st₀, t, T', L, E, ce, h0, X', hL, e1, e2, ⟨u, hp, hb, hF⟩, hce, hcv, hcl, st⟩
  · cases hv
    obtain ⟨k1, k2, k3⟩ := vx_keep h0 e1 hS hA hf hL hF
    obtain ⟨t2, a1, b1⟩ := kk r u t T'.heap (locs ++ L) e1.symm (by rw [← e2]; exact X'.warmed.alike) hp hb k1 k2 k3 T' rfl X'
    exact ⟨t2, st t2 a1, b1⟩
  · obtain ⟨k1, k2, k3⟩ := vx_keep h0 e1 hS hAX hf hL hF
    obtain ⟨t2, a1, b1⟩ := kx E ce q u t T'.heap (locs ++ L) e1.symm (by rw [← e2]; exact X'.warmed.alike) hp hb k1 k2 k3 (by rw [e1]; exact hce) hcv hcl T' rfl X'
    exact ⟨t2, st.trans a1, b1⟩
theorem vx_calld {S SX : Type} {post : UInt64 → S → Prop} {px : SX → Prop} {B : S → State → Prop} {BX : String → SX → State → Prop} {AX : Nat → Prop} (hr : vx_Run p l e R s m args below meth c H locs cells slots mc ms (F0 m pc ls st0) rest (va_Qd post B A1 a) (vx_X px BX AX) free) (hS : va_S A0 H0 H locs) (hA : ∀ q, q < H.size → A1 q → A0 q) (hf : ∀ q, free q → A0 q) (hAX : ∀ q, q < H.size → AX q → A0 q)
    (kx : ∀ (E : String) (ce : Cell) (q9 : Addr) (u : SX) (t : State) (H1 : Heap) (locs1 : List Loc), t.heap = H1 → s.vm.Alike t.vm → px u → BX E u t → H.size ≤ H1.size → (∀ q : Nat, q < H.size → ¬ AX q → H1[q]? = H[q]?) → va_S A0 H0 H1 locs1 → H1[q9]? = some ce → ce.vm = .none → s.vm.findClass E = some ce.cls → vx_W p l e R s m args below meth c H1 locs1 (cells + mc) (slots + ms) Q (F0 m pc ls rest) q9)
    (kk : ∀ (r : UInt64) (u : S) (t : State) (H1 : Heap) (locs1 : List Loc), t.heap = H1 → s.vm.Alike t.vm → post r u → B u t → H.size ≤ H1.size → (∀ q : Nat, q < H.size → ¬ A1 q → H1[q]? = H[q]?) → va_S A0 H0 H1 locs1 → W p l e R s m args below meth c H1 locs1 (cells + mc) (slots + ms) Q (F0 m (pc + 3) ls (.double r :: rest))) : W p l e R s m args below meth c H locs cells slots Q (F0 m pc ls st0) := by
  intro T hT X
  rcases hr T hT X with ⟨v, st₀, t, T', L, h0, X', hL, e1, e2, ⟨⟨r, u, hv, hp, hb⟩, hF⟩, st⟩ | ⟨q, st₀, t, T', L, E, ce, h0, X', hL, e1, e2, ⟨u, hp, hb, hF⟩, hce, hcv, hcl, st⟩
  · cases hv
    obtain ⟨k1, k2, k3⟩ := vx_keep h0 e1 hS hA hf hL hF
    obtain ⟨t2, a1, b1⟩ := kk r u t T'.heap (locs ++ L) e1.symm (by rw [← e2]; exact X'.warmed.alike) hp hb k1 k2 k3 T' rfl X'
    exact ⟨t2, st t2 a1, b1⟩
  · obtain ⟨k1, k2, k3⟩ := vx_keep h0 e1 hS hAX hf hL hF
    obtain ⟨t2, a1, b1⟩ := kx E ce q u t T'.heap (locs ++ L) e1.symm (by rw [← e2]; exact X'.warmed.alike) hp hb k1 k2 k3 (by rw [e1]; exact hce) hcv hcl T' rfl X'
    exact ⟨t2, st.trans a1, b1⟩
theorem vx_callv {S SX : Type} {post : S → Prop} {px : SX → Prop} {B : S → State → Prop} {BX : String → SX → State → Prop} {AX : Nat → Prop} (hr : vx_Run p l e R s m args below meth c H locs cells slots mc ms (F0 m pc ls st0) rest (va_Qv post B A1 a) (vx_X px BX AX) free) (hS : va_S A0 H0 H locs) (hA : ∀ q, q < H.size → A1 q → A0 q) (hf : ∀ q, free q → A0 q) (hAX : ∀ q, q < H.size → AX q → A0 q)
    (kx : ∀ (E : String) (ce : Cell) (q9 : Addr) (u : SX) (t : State) (H1 : Heap) (locs1 : List Loc), t.heap = H1 → s.vm.Alike t.vm → px u → BX E u t → H.size ≤ H1.size → (∀ q : Nat, q < H.size → ¬ AX q → H1[q]? = H[q]?) → va_S A0 H0 H1 locs1 → H1[q9]? = some ce → ce.vm = .none → s.vm.findClass E = some ce.cls → vx_W p l e R s m args below meth c H1 locs1 (cells + mc) (slots + ms) Q (F0 m pc ls rest) q9)
    (kk : ∀ (u : S) (t : State) (H1 : Heap) (locs1 : List Loc), t.heap = H1 → s.vm.Alike t.vm → post u → B u t → H.size ≤ H1.size → (∀ q : Nat, q < H.size → ¬ A1 q → H1[q]? = H[q]?) → va_S A0 H0 H1 locs1 → W p l e R s m args below meth c H1 locs1 (cells + mc) (slots + ms) Q (F0 m (pc + 3) ls (rest))) : W p l e R s m args below meth c H locs cells slots Q (F0 m pc ls st0) := by
  intro T hT X
  rcases hr T hT X with ⟨v, st₀, t, T', L, h0, X', hL, e1, e2, ⟨⟨u, hv, hp, hb⟩, hF⟩, st⟩ | ⟨q, st₀, t, T', L, E, ce, h0, X', hL, e1, e2, ⟨u, hp, hb, hF⟩, hce, hcv, hcl, st⟩
  · cases hv
    obtain ⟨k1, k2, k3⟩ := vx_keep h0 e1 hS hA hf hL hF
    obtain ⟨t2, a1, b1⟩ := kk u t T'.heap (locs ++ L) e1.symm (by rw [← e2]; exact X'.warmed.alike) hp hb k1 k2 k3 T' rfl X'
    exact ⟨t2, st t2 a1, b1⟩
  · obtain ⟨k1, k2, k3⟩ := vx_keep h0 e1 hS hAX hf hL hF
    obtain ⟨t2, a1, b1⟩ := kx E ce q u t T'.heap (locs ++ L) e1.symm (by rw [← e2]; exact X'.warmed.alike) hp hb k1 k2 k3 (by rw [e1]; exact hce) hcv hcl T' rfl X'
    exact ⟨t2, st.trans a1, b1⟩
/-- caught by the row x of this method's table; the rows ahead don't take it -/
theorem vx_catch {own name : String} {E : String} {ce : Cell} {q : Addr} (hown : s.vm.findClass own = some m.cls) (pre : List ExceptionTableEntry) (x : ExceptionTableEntry) (suf : List ExceptionTableEntry) (hsplit : c.exceptionTable.toList = pre ++ x :: suf)
    (hpass : ∀ z ∈ pre, covers z pc = false ∨ (z.catchType ≠ 0 ∧ ∃ nm : String, (Cond.classLink own z.catchType nm).before args s = true ∧ va_Nc E nm s)) (hx : covers x pc = true) (h0 : x.catchType ≠ 0)
    (hlink : (Cond.classLink own x.catchType name).before args s = true) (hcast : (Cond.castable E name).before args s = true) (hcell : H[q]? = some ce) (hv : ce.vm = .none) (hcl : s.vm.findClass E = some ce.cls)
    (kk : W p l e R s m args below meth c H locs cells slots Q (F0 m x.handlerPc ls [.ref q])) : vx_W p l e R s m args below meth c H locs cells slots Q (F0 m pc ls rest) q := by
  intro T hT X
  have hpl : e.platform.magicAccessors = ({} : Platform).magicAccessors := by rw [X.admits.platform]
  obtain ⟨c3, c4, hc3, hc4, hasg⟩ := Cond.castable_spec hcast
  cases Option.some.inj (hc3.symm.trans hcl)
  obtain ⟨c5, hc5, hcl5⟩ := Cond.classLink_spec hown hlink e.platform hpl
  cases Option.some.inj (hc4.symm.trans hc5)
  obtain ⟨vm', X', st⟩ := X.thenCaughtThrough q (g := F0 m pc ls rest) rfl (Steps.refl _) (by rw [hT]; exact hcell) (by rw [hv]; rfl) (by obtain ⟨k9, h9, -⟩ := Vm.findClass_spec hcl; exact ⟨k9, h9⟩) pre x suf hsplit
    (fun z hz => by
      rcases hpass z hz with h | ⟨hz0, nm, hl1, hn1⟩
      · exact Or.inl h
      · obtain ⟨c6, hc6, hcl6⟩ := Cond.classLink_spec hown hl1 e.platform hpl
        obtain ⟨a8, b8, h1, h2, h3⟩ := hn1
        cases Option.some.inj (h1.symm.trans hcl)
        cases Option.some.inj (h2.symm.trans hc6)
        exact Or.inr ⟨hz0, _, hcl6, h3⟩) hx (Or.inr ⟨h0, c4, hcl5, hasg⟩)
  obtain ⟨t, a1, b1⟩ := kk (T.setVm vm') hT X'
  exact ⟨t, st.trans a1, b1⟩
end Rows
section Ends
variable {p : Program} {l : Launch} {e : Env} {R : Room} {s : State} {m : MethodId} {args : Array Value} {below : List Frame} {meth : Method} {c : Code} {H : Heap} {locs : List Loc} {cells slots : Nat} {Q : State → Prop}
variable {mc ms : Nat} {free : Addr → Prop} {A0 A1 : Nat → Prop} {H0 : Heap} {a : Array Value} {ls : Array Slot} {st0 rest : List Value}
variable {Qc : Array Value → State → Outcome → State → Prop} {XC : String → State → State → Prop}
/-- what a body that may throw owes at its end -/
def vx_MQ (below : List Frame) (Qc : Array Value → State → Outcome → State → Prop) (XC : String → State → State → Prop) (a : Array Value) (s : State) (mc ms : Nat) (free : Addr → Prop) : State → Prop := fun t =>
  ∃ o, t.status = .running ∧ Ended t below o ∧ vx_Q Qc XC mc ms free a s o t
theorem vx_ret {g : JFrame} {mc ms : Nat} (k : W p l e R s m args below meth c H locs cells slots (MQ below Qc args s mc ms free) g) : W p l e R s m args below meth c H locs cells slots (vx_MQ below Qc XC args s mc ms free) g := by
  intro T hT X
  obtain ⟨t, a1, o, b1, b2, b3, b4⟩ := k T hT X
  exact ⟨t, a1, o, b1, b2, Or.inl ⟨b3, b4⟩⟩
/-- not caught here: it goes on to the caller -/
theorem vx_widen {g : JFrame} {q : Addr} {k n : Nat} (h1 : cells ≤ k) (h2 : slots ≤ n) (kk : vx_W p l e R s m args below meth c H locs k n Q g q) : vx_W p l e R s m args below meth c H locs cells slots Q g q := fun T hT X => kk T hT (stand_widen X h1 h2)
theorem vx_out {pc : Nat} {E : String} {ce : Cell} {q : Addr} {mc ms : Nat} (hout : ∀ x ∈ c.exceptionTable.toList, covers x pc = false) (hlocks : meth.locks = false) (hcell : H[q]? = some ce) (hv : ce.vm = .none) (hcl : s.vm.findClass E = some ce.cls)
    (hx : ∀ t : State, t.heap = H → s.vm.Alike t.vm → XC E s t) (hf : ∀ z ∈ locs, free z.base) (hc : cells ≤ mc) (hs : slots ≤ ms) :
    vx_W p l e R s m args below meth c H locs cells slots (vx_MQ below Qc XC args s mc ms free) (F0 m pc ls rest) q := by
  intro T hT X
  obtain ⟨st1, hrun, hend, hW, hsm⟩ := X.leaveThrown q (g := F0 m pc ls rest) rfl rfl rfl hout hlocks
  have hcell9 : (T.setFrames (.throwing q :: below)).heap[q]? = some ce := by
    show T.heap[q]? = some ce
    rw [hT]; exact hcell
  exact ⟨_, st1, .threw q, hrun, hend, Or.inr ⟨q, rfl, E, ce, locs, hx _ hT hW.alike, hcell9, hv, hcl, hW, hsm.mono hc hs, hf⟩⟩
theorem vx_frame {U : State} {k n : Nat} (h : s.sameButNew ({ U with vm := s.vm } : State) locs k n) : s.heap.size ≤ U.heap.size ∧ ∀ q : Nat, q < s.heap.size → (∀ z ∈ locs, z.base ≠ q) → U.heap[q]? = s.heap[q]? := by
  obtain ⟨-, h2, -, -, -, h6⟩ := h
  refine ⟨h2, fun q hq hz => ?_⟩
  obtain ⟨c9, e1, e2, e3, e4⟩ := h6 q _ (Array.getElem?_eq_getElem hq)
  have hs : c9.slots = (s.heap[q]).slots := Array.ext_getElem? fun i => e4 i fun hm => hz _ hm rfl
  have h9 : c9 = s.heap[q] := by
    rw [hs] at e2
    exact e2
  have e5 : U.heap[q]? = some c9 := e1
  rw [e5, h9, Array.getElem?_eq_getElem hq]
/-- the words of a throw but the four that speak of the heap -/
def vx_no (w : Cond) : Bool := decide (w ≠ .isRef (.static Bundle.tN "UNASSIGNED_STACK" Bundle.steD)) && decide (w ≠ .isRef (.static Bundle.tN "SUPPRESSED_SENTINEL" Bundle.listD)) && decide (w ≠ .laysStatic Bundle.tN "UNASSIGNED_STACK" Bundle.steD) && decide (w ≠ .laysStatic Bundle.tN "SUPPRESSED_SENTINEL" Bundle.listD)
def vx_at0 (own : String) (ic : Nat) (X : String) (names : List String) : List Cond := (Bundle.ownAtoms0 own ic X names).filter vx_no
def vx_atS (own : String) (ic : Nat) (X : String) (names : List String) : List Cond := (Bundle.ownAtoms own ic X names).filter vx_no
/-- a word that the tables alone decide, or a good one -/
def vx_ot (w : Cond) : Bool := w.onTables || goodWord w
theorem vx_ot_at {args a' : Array Value} {s U : State} {w : Cond} (hW : s.WarmedH U.vm) (hvm : s.vm = U.vm) (hg : vx_ot w = true) (h : w.before args s = true) : w.before a' U = true := by
  simp only [vx_ot, Bool.or_eq_true] at hg
  rcases hg with hg | hg
  · exact va_tabs hg hvm h
  · exact word_at hW (good_of_word hg) h
/-- a list's words: the good ones out of the method's own list, the others by premises of their own -/
theorem vx_hat {args : Array Value} {s : State} {L B : List Cond} (h1 : ∀ w ∈ L.filter goodWord, w.before args s = true) (h2 : ∀ w ∈ L.filter (fun w => !goodWord w), w ∈ B) (h3 : ∀ w ∈ B, w.before args s = true) : ∀ w ∈ L, w.before args s = true := by
  intro w hw
  by_cases g : goodWord w = true
  · exact h1 w (List.mem_filter.mpr ⟨hw, g⟩)
  · refine h3 w (h2 w (List.mem_filter.mpr ⟨hw, ?_⟩))
    show (!goodWord w) = true
    cases hgw : goodWord w
    · rfl
    · exact absurd hgw g
theorem vx_c {args : Array Value} {s : State} {w : Cond} {B : List Cond} (h : w.before args s = true) (t : ∀ w ∈ B, w.before args s = true) : ∀ w' ∈ w :: B, w'.before args s = true := fun w' h' => (List.mem_cons.mp h').elim (fun e => by rw [e]; exact h) (t w')
theorem vx_n {args : Array Value} {s : State} : ∀ w ∈ ([] : List Cond), w.before args s = true := fun _ h => nomatch h
theorem vx_own {args : Array Value} {s : State} {L : List Cond} (h1 : ∀ w ∈ L.filter vx_no, w.before args s = true)
    (hU : (Cond.isRef (.static Bundle.tN "UNASSIGNED_STACK" Bundle.steD)).before args s = true) (hN : (Cond.isRef (.static Bundle.tN "SUPPRESSED_SENTINEL" Bundle.listD)).before args s = true)
    (lU : (Cond.laysStatic Bundle.tN "UNASSIGNED_STACK" Bundle.steD).before args s = true) (lN : (Cond.laysStatic Bundle.tN "SUPPRESSED_SENTINEL" Bundle.listD).before args s = true) : ∀ w ∈ L, w.before args s = true := by
  intro w hw
  by_cases e1 : w = .isRef (.static Bundle.tN "UNASSIGNED_STACK" Bundle.steD)
  · rw [e1]; exact hU
  · by_cases e2 : w = .isRef (.static Bundle.tN "SUPPRESSED_SENTINEL" Bundle.listD)
    · rw [e2]; exact hN
    · by_cases e3 : w = .laysStatic Bundle.tN "UNASSIGNED_STACK" Bundle.steD
      · rw [e3]; exact lU
      · by_cases e4 : w = .laysStatic Bundle.tN "SUPPRESSED_SENTINEL" Bundle.listD
        · rw [e4]; exact lN
        · exact h1 w (List.mem_filter.mpr ⟨hw, by unfold vx_no; rw [decide_eq_true e1, decide_eq_true e2, decide_eq_true e3, decide_eq_true e4]; rfl⟩)
/-- where a static field lies, its class's statics cell in H -/
def vx_L (C n d : String) (A : Nat → Prop) (U : State) (H : Heap) : Prop := ∃ (c : ClassId) (k : Class) (i : Nat) (f : Field) (a : Nat) (cell : Cell), U.vm.findClass C = some c ∧ U.fieldFound? C n d = some (c, k, i, f) ∧ f.isStatic = true ∧ k.statics = some a ∧ H[a]? = some cell ∧ cell.vm.isStatics = true ∧ cell.cls = c ∧ f.slot < cell.slots.size ∧ k.staticTypes[f.slot]? = some f.type ∧ ¬ A a
theorem vx_L.moved {C n d : String} {A : Nat → Prop} {u U : State} {H : Heap} (hvm : u.vm.Alike U.vm) (h : vx_L C n d A u H) : vx_L C n d A U H := by
  obtain ⟨c, k, i, f, a, cell, h1, h2, h3, h4, h5, h6, h7, h8, h9, h10⟩ := h
  obtain ⟨k', hi', he⟩ := State.fieldFound?_setVm hvm h2
  exact ⟨c, k', i, f, a, cell, by rw [hvm.findClass]; exact h1, hi', h3, by rw [he]; exact h4, h5, h6, h7, h8, by rw [he]; exact h9, h10⟩
theorem vx_L.kept {C n d : String} {A : Nat → Prop} {U : State} {H H1 : Heap} (h : vx_L C n d A U H) (hq : ∀ a : Nat, a < H.size → ¬ A a → H1[a]? = H[a]?) : vx_L C n d A U H1 := by
  obtain ⟨c, k, i, f, a, cell, h1, h2, h3, h4, h5, h6, h7, h8, h9, h10⟩ := h
  exact ⟨c, k, i, f, a, cell, h1, h2, h3, h4, by rw [hq a (Array.getElem?_eq_some_iff.mp h5).1 h10]; exact h5, h6, h7, h8, h9, h10⟩
theorem vx_L.narrow {C n d : String} {A B : Nat → Prop} {U : State} {H : Heap} (h : vx_L C n d A U H) (hAB : ∀ q, B q → A q) : vx_L C n d B U H := by
  obtain ⟨c, k, i, f, a, cell, h1, h2, h3, h4, h5, h6, h7, h8, h9, h10⟩ := h
  exact ⟨c, k, i, f, a, cell, h1, h2, h3, h4, h5, h6, h7, h8, h9, fun z => h10 (hAB _ z)⟩
theorem vx_L.word {C n d : String} {A : Nat → Prop} {s : State} {args : Array Value} (h : vx_L C n d A s s.heap) : (Cond.laysStatic C n d).before args s = true := by
  obtain ⟨c, k, i, f, a, cell, h1, h2, h3, h4, h5, h6, h7, h8, h9, -⟩ := h
  show (Cond.laysStatic C n d).holds args s none s [] = true
  exact Cond.laysStatic_of h1 h2 h3 h4 h5 h6 h7 h8 h9
/-- .. and what it holds: null or some reference -/
def vx_Zq (C n d : String) (A : Nat → Prop) (U : State) (H : Heap) : Prop := va_Zq C n d A U H ∧ vx_L C n d A U H
theorem vx_Zq.moved {C n d : String} {A : Nat → Prop} {u U : State} {H : Heap} (hvm : u.vm.Alike U.vm) (h : vx_Zq C n d A u H) : vx_Zq C n d A U H := ⟨va_Zq.moved hvm h.1, vx_L.moved hvm h.2⟩
theorem vx_Zq.kept {C n d : String} {A : Nat → Prop} {U : State} {H H1 : Heap} (h : vx_Zq C n d A U H) (hq : ∀ a : Nat, a < H.size → ¬ A a → H1[a]? = H[a]?) : vx_Zq C n d A U H1 := ⟨va_Zq.kept h.1 hq, vx_L.kept h.2 hq⟩
theorem vx_Zq.narrow {C n d : String} {A B : Nat → Prop} {U : State} {H : Heap} (h : vx_Zq C n d A U H) (hAB : ∀ q, B q → A q) : vx_Zq C n d B U H := ⟨va_Zq.narrow h.1 hAB, vx_L.narrow h.2 hAB⟩
theorem vx_Zqof {args : Array Value} {s : State} {C n d : String} {A : Nat → Prop} (hl : (Cond.laysStatic C n d).before args s = true) (hini : (Cond.initialized C).before args s = true) (h : (Cond.isRef (.static C n d)).before args s = true) (hA : ∀ a : Nat, a < s.heap.size → ¬ A a) : vx_Zq C n d A s s.heap := by
  refine ⟨va_Zqof hl hini h hA, ?_⟩
  obtain ⟨c, k, i, f, a, cell, h1, h2, h3, h4, h5, h6, h7, h8, h9⟩ := Cond.laysStatic_spec hl
  exact ⟨c, k, i, f, a, cell, h1, h2, h3, h4, h5, h6, h7, h8, h9, hA a (Array.getElem?_eq_some_iff.mp h5).1⟩
theorem vx_isRef {C n d : String} {v : Value} {A : Nat → Prop} {s : State} {args : Array Value} (h : va_Z C n d v A s s.heap) (hv : v.isRef = true) : (Cond.isRef (.static C n d)).before args s = true := by
  obtain ⟨cf, kf, fi, f, a, cell, h1, h2, h3, h4, h5, h6, h7, -⟩ := h
  have he : (Term.static C n d).eval args s none [] s = some v := by
    simp [Term.eval, State.fieldNamed?, h1, h2, h4, h5, h6, h7]
  simp only [Cond.before, Cond.holds, Cond.value, he]
  cases v <;> simp_all [Value.isRef]
theorem vx_isRefq {C n d : String} {A : Nat → Prop} {s : State} {args : Array Value} (h : va_Zq C n d A s s.heap) : (Cond.isRef (.static C n d)).before args s = true := by
  rcases h with h | ⟨t, h⟩
  · exact vx_isRef h rfl
  · exact vx_isRef h rfl
/-- the same frame, seen from here: as if the method were called anew in this heap -/
theorem vx_rebase {T : State} (X : Stand p l e R s m args below meth c T locs cells slots) {R' : Room} (hf : R'.frames ≤ R.frames) (hl : R'.locals ≤ R.locals) (hc : cells + R'.cells ≤ R.cells) (hs : slots + R'.slots ≤ R.slots) :
    Stand p l e R' ((T.setVm s.vm).setFrames (.invoking m args :: below)) m args below meth c T [] 0 0 := by
  have htop : (T.setVm s.vm).topJava?.isSome := X.here.top
  have hF : ((T.setVm s.vm).setFrames (.invoking m args :: below)).frames = .invoking m args :: below := State.frames_setFrames _ (State.cur_lt_of_top htop)
  obtain ⟨g₀, hg0⟩ := Option.isSome_iff_exists.mp htop
  obtain ⟨r, hr⟩ := State.topJava?_eq_some.mp hg0
  have hl9 : e.platform.stackLimits (T.setVm s.vm).me = e.platform.stackLimits s.me := X.limits
  have hb9 : (T.setVm s.vm).me.stackBytes = s.me.stackBytes := X.bytes
  refine ⟨X.admits, X.cas, X.clock, hF, ?_, X.hears, X.method, X.code, X.here, X.tail, X.warmed, ?_, ?_, ?_⟩
  · have h := X.room
    have hU : ((T.setVm s.vm).setFrames (.invoking m args :: below)).localsInUse = s.localsInUse := by
      rw [State.localsInUse_invoking hF (meth := meth) (c := c) X.method X.code, State.localsInUse_invoking X.frames X.method X.code]
    simp only [State.hasRoom, Bool.and_eq_true, decide_eq_true_eq] at h ⊢
    obtain ⟨⟨⟨⟨h1, h2, h3, h4, h5, h6⟩, h7⟩, h8⟩, h9⟩ := h
    rw [X.frames, List.length_cons] at h2 h3
    have q1 := X.heapSize
    have q2 := X.used
    simp only [hF, hU, List.length_cons, State.stackLimits_setFrames, State.stackBytes_setFrames, hl9, hb9]
    refine ⟨⟨⟨⟨by omega, by omega, by omega, by omega, by omega, h6⟩, ?_⟩, ?_⟩, X.book⟩
    · show T.heap.size + R'.cells ≤ e.platform.maxCells
      omega
    · show T.slotsUsed + R'.slots ≤ e.platform.maxSlots
      omega
  · rw [State.stackLimits_setFrames]; rfl
  · rw [State.stackBytes_setFrames]; rfl
  · refine ⟨?_, Nat.le_refl _, Nat.le_refl _, ?_, ?_, fun a c9 h9 => ⟨c9, h9, rfl, rfl, fun _ _ => rfl⟩⟩
    · obtain ⟨t, ht, -⟩ := State.frames_cons hr
      show T.setVm s.vm = { ((T.setVm s.vm).setFrames (.invoking m args :: below)).setFrames (T.setVm s.vm).frames with heap := T.heap, slotsUsed := T.slotsUsed }
      rw [State.setFrames_setFrames, State.setFrames_self ht]
      rfl
    · show T.slotsUsed = T.slotsUsed + ((T.heap.toList.drop T.heap.size).map (·.slots.size)).sum
      rw [List.drop_eq_nil_of_le (Nat.le_of_eq Array.length_toList)]
      rfl
    · show ((T.heap.toList.drop T.heap.size).map (·.slots.size)).sum ≤ 0
      rw [List.drop_eq_nil_of_le (Nat.le_of_eq Array.length_toList)]
      exact Nat.le_refl _
/-- 'throw new E()': new; dup; invokespecial; athrow -/
theorem vx_throw0 {cc : ByteArray} {pc : Nat} (hexec : p.tables.exec = Jvm.exec) (hb : c.code = cc) (hl : l.stackTraces = false) {own cls : String} {names : List String} {ik ic mc ms : Nat} {A : Nat → Prop}
    (hown : s.vm.findClass own = some m.cls) (hcls : Bundle.fit cls = true) (hnames : ∀ n ∈ names, Bundle.fit n = true)
    (hk : (Cond.classLink own ik cls).before args s = true) (hini : (Cond.initialized cls).before args s = true) (hat : ∀ w ∈ vx_at0 own ic cls names, w.before args s = true)
    (hgood : ∀ w ∈ Cond.classLink own ik cls :: Cond.initialized cls :: vx_at0 own ic cls names, vx_ot w = true)
    (hU : vx_Zq Bundle.tN "UNASSIGNED_STACK" Bundle.steD A s s.heap) (hN : vx_Zq Bundle.tN "SUPPRESSED_SENTINEL" Bundle.listD A s s.heap) (hS : va_S A s.heap H locs) (hsize : ls.size = c.maxLocals)
    (d0 : decode cc pc = .ok (.new ik, 3)) (d3 : decode cc (pc + 3) = .ok (.dup, 1)) (d4 : decode cc (pc + 4) = .ok (.invokespecial ic, 3)) (d7 : decode cc (pc + 7) = .ok (.athrow, 1))
    (hout : ∀ x ∈ c.exceptionTable.toList, covers x (pc + 7) = false)
    (hRframes : names.length + 3 < R.frames) (hRlocals : (rest.map fun v => v.category).sum + (13 * (names.length + 1) + 42) ≤ R.locals) (hRcells : cells + 1 ≤ R.cells) (hRslots : slots + 6 ≤ R.slots) (hlocks : meth.locks = false)
    (hx : ∀ t : State, s.vm.Alike t.vm → H.size ≤ t.heap.size → (∀ q : Nat, q < H.size → t.heap[q]? = H[q]?) → XC cls s t)
    (hf : ∀ z ∈ locs, free z.base) (hc : cells + 1 ≤ mc) (hs : slots + 6 ≤ ms) :
    W p l e R s m args below meth c H locs cells slots (vx_MQ below Qc XC args s mc ms free) (F0 m pc ls rest) := by
  intro T hT X
  have htr : e.platform.stackTraces = false := (show e.platform.stackTraces = l.stackTraces by rw [X.admits.platform]).trans hl
  have Y := vx_rebase X (R' := { frames := R.frames, locals := R.locals, cells := 1, slots := 6 }) (Nat.le_refl _) (Nat.le_refl _) hRcells hRslots
  obtain ⟨s', hA⟩ : ∃ z, z = (T.setVm s.vm).setFrames (.invoking m args :: below) := ⟨_, rfl⟩
  rw [← hA] at Y
  have hvm : s'.vm = s.vm := by rw [hA]; rfl
  have hhp : s'.heap = H := by rw [hA]; exact hT
  have hW0 : s.WarmedH s'.vm := by rw [hvm]; exact State.WarmedH.refl s
  have hat' : ∀ w ∈ vx_at0 own ic cls names, w.before args s' = true := fun w hw => vx_ot_at hW0 hvm.symm (hgood w (List.mem_cons_of_mem _ (List.mem_cons_of_mem _ hw))) (hat w hw)
  have hk' : (Cond.classLink own ik cls).before args s' = true := vx_ot_at hW0 hvm.symm (hgood _ List.mem_cons_self) hk
  have hini' : (Cond.initialized cls).before args s' = true := vx_ot_at hW0 hvm.symm (hgood _ (List.mem_cons_of_mem _ List.mem_cons_self)) hini
  have hU' : vx_Zq Bundle.tN "UNASSIGNED_STACK" Bundle.steD A s' s'.heap := by rw [hhp]; exact vx_Zq.moved hW0.alike (hU.kept hS.2.1)
  have hN' : vx_Zq Bundle.tN "SUPPRESSED_SENTINEL" Bundle.listD A s' s'.heap := by rw [hhp]; exact vx_Zq.moved hW0.alike (hN.kept hS.2.1)
  have h : ∀ w ∈ Bundle.ownAtoms0 own ic cls names, w.before args s' = true := vx_own hat' (vx_isRefq hU'.1) (vx_isRefq hN'.1) hU'.2.word hN'.2.word
  have hown' : s'.vm.findClass own = some m.cls := by rw [hvm]; exact hown
  have hins : (Cond.instantiable cls 6).before args s' = true := h _ (by simp [Bundle.ownAtoms0])
  obtain ⟨vm₁, cX, kX, hfX, hkX, -, -, X₁, st1⟩ := Y.newCold hexec (own := own) (C := cls) (index := ik) (n := 6) hown' hk' hins hini'
    (g := F0 m pc ls rest) rfl (by rw [hb]; exact d0) (Nat.le_refl _) (Nat.le_refl _)
  generalize hT1 : (T.setVm vm₁).pushCell { cls := cX, slots := kX.instanceTypes.map defaultValue, vm := .none } = T1 at X₁ st1
  have hcat : (Value.ref T.heap.size).category = 1 := rfl
  have hcellA : T1.heap[T.heap.size]? = some (freshCell cX kX) := by rw [← hT1]; exact State.heap_pushCell_size _ _
  have d3' : decode c.code (pc + 3) = .ok (.dup, 1) := by rw [hb]; exact d3
  obtain ⟨U, hsteps, hrun, hend, hW, hsame, ce, hce, hO⟩ := X₁.ctorThrow0 hexec htr (own := own) (cls := cls) (names := names) (ic := ic) hown' hcls hnames h (fun x hx => nomatch hx) hfX hkX hcellA (by rw [hhp, hT]; exact Nat.le_refl _)
    (g := { method := m, pc := pc + 4, locals := ls, stack := .ref T.heap.size :: .ref T.heap.size :: rest, locked := none }) rfl hsize rfl rfl (rest := rest) rfl
    (by rw [hb]; exact d4) (by rw [hb]; exact d7) hout hRframes (by simp only [List.map_cons, List.sum_cons, hcat]; omega) hlocks
  obtain ⟨f1, f2⟩ := vx_frame hsame
  rw [hhp] at f1 f2
  have hWs : s.WarmedH U.vm := State.WarmedH.trans hW0 hW
  have hcl : s.vm.findClass cls = some ce.cls := by
    have h9 := hO.cls
    rw [hvm] at h9
    exact h9
  have hall : s.sameButNew ({ U with vm := s.vm } : State) locs mc ms := by
    subst hA
    obtain ⟨e1, e2⟩ := hsame
    rw [State.setFrames_setFrames] at e1
    have h2 : (T.setVm s.vm).sameButNew ({ U with vm := s.vm } : State) [] (0 + 1) (0 + 6) := ⟨e1, e2⟩
    have h3 := X.same.trans h2
    rw [List.append_nil] at h3
    exact h3.mono hc hs
  refine ⟨U, ?_, .threw T.heap.size, hrun, hend, Or.inr ⟨T.heap.size, rfl, cls, ce, locs, hx U hWs.alike f1 (fun q hq => f2 q hq (fun z hz => nomatch hz)), hce, hO.vm, hcl, hWs, hall, hf⟩⟩
  refine st1 _ ?_
  show Steps p.tables e below (T1.setTop { method := m, pc := pc + 3, locals := ls, stack := .ref T.heap.size :: rest, locked := none }) _
  jvm_step X₁.here [X₁.here.top, hexec, d3', Value.category]
  exact hsteps
/-- 'throw new E("text")': new; dup; ldc; invokespecial; athrow -/
theorem vx_throwS {cc : ByteArray} {pc : Nat} (hexec : p.tables.exec = Jvm.exec) (hb : c.code = cc) (hl : l.stackTraces = false) {own cls text : String} {names : List String} {ik is ic mc ms sa : Nat} {A : Nat → Prop}
    (hown : s.vm.findClass own = some m.cls) (hcls : Bundle.fit cls = true) (hnames : ∀ n ∈ names, Bundle.fit n = true)
    (hk : (Cond.classLink own ik cls).before args s = true) (hini : (Cond.initialized cls).before args s = true) (hstr : vk_R own is text sa s) (hat : ∀ w ∈ vx_atS own ic cls names, w.before args s = true)
    (hgood : ∀ w ∈ Cond.classLink own ik cls :: Cond.initialized cls :: vx_atS own ic cls names, vx_ot w = true)
    (hU : vx_Zq Bundle.tN "UNASSIGNED_STACK" Bundle.steD A s s.heap) (hN : vx_Zq Bundle.tN "SUPPRESSED_SENTINEL" Bundle.listD A s s.heap) (hS : va_S A s.heap H locs) (hsize : ls.size = c.maxLocals)
    (d0 : decode cc pc = .ok (.new ik, 3)) (d3 : decode cc (pc + 3) = .ok (.dup, 1)) (d4 : decode cc (pc + 4) = .ok (.ldc is, 2)) (d6 : decode cc (pc + 6) = .ok (.invokespecial ic, 3)) (d9 : decode cc (pc + 9) = .ok (.athrow, 1))
    (hout : ∀ x ∈ c.exceptionTable.toList, covers x (pc + 9) = false)
    (hRframes : names.length + 3 < R.frames) (hRlocals : (rest.map fun v => v.category).sum + (13 * (names.length + 1) + 43) ≤ R.locals) (hRcells : cells + 1 ≤ R.cells) (hRslots : slots + 6 ≤ R.slots) (hlocks : meth.locks = false)
    (hx : ∀ t : State, s.vm.Alike t.vm → H.size ≤ t.heap.size → (∀ q : Nat, q < H.size → t.heap[q]? = H[q]?) → XC cls s t)
    (hf : ∀ z ∈ locs, free z.base) (hc : cells + 1 ≤ mc) (hs : slots + 6 ≤ ms) :
    W p l e R s m args below meth c H locs cells slots (vx_MQ below Qc XC args s mc ms free) (F0 m pc ls rest) := by
  intro T hT X
  have htr : e.platform.stackTraces = false := (show e.platform.stackTraces = l.stackTraces by rw [X.admits.platform]).trans hl
  have Y := vx_rebase X (R' := { frames := R.frames, locals := R.locals, cells := 1, slots := 6 }) (Nat.le_refl _) (Nat.le_refl _) hRcells hRslots
  obtain ⟨s', hA⟩ : ∃ z, z = (T.setVm s.vm).setFrames (.invoking m args :: below) := ⟨_, rfl⟩
  rw [← hA] at Y
  have hvm : s'.vm = s.vm := by rw [hA]; rfl
  have hhp : s'.heap = H := by rw [hA]; exact hT
  have hW0 : s.WarmedH s'.vm := by rw [hvm]; exact State.WarmedH.refl s
  have hat' : ∀ w ∈ vx_atS own ic cls names, w.before args s' = true := fun w hw => vx_ot_at hW0 hvm.symm (hgood w (List.mem_cons_of_mem _ (List.mem_cons_of_mem _ hw))) (hat w hw)
  have hk' : (Cond.classLink own ik cls).before args s' = true := vx_ot_at hW0 hvm.symm (hgood _ List.mem_cons_self) hk
  have hini' : (Cond.initialized cls).before args s' = true := vx_ot_at hW0 hvm.symm (hgood _ (List.mem_cons_of_mem _ List.mem_cons_self)) hini
  have hU' : vx_Zq Bundle.tN "UNASSIGNED_STACK" Bundle.steD A s' s'.heap := by rw [hhp]; exact vx_Zq.moved hW0.alike (hU.kept hS.2.1)
  have hN' : vx_Zq Bundle.tN "SUPPRESSED_SENTINEL" Bundle.listD A s' s'.heap := by rw [hhp]; exact vx_Zq.moved hW0.alike (hN.kept hS.2.1)
  have h : ∀ w ∈ Bundle.ownAtoms own ic cls names, w.before args s' = true := vx_own hat' (vx_isRefq hU'.1) (vx_isRefq hN'.1) hU'.2.word hN'.2.word
  have hown' : s'.vm.findClass own = some m.cls := by rw [hvm]; exact hown
  have hins : (Cond.instantiable cls 6).before args s' = true := h _ (by simp [Bundle.ownAtoms])
  obtain ⟨vm₁, cX, kX, hfX, hkX, -, -, X₁, st1⟩ := Y.newCold hexec (own := own) (C := cls) (index := ik) (n := 6) hown' hk' hins hini'
    (g := F0 m pc ls rest) rfl (by rw [hb]; exact d0) (Nat.le_refl _) (Nat.le_refl _)
  generalize hT1 : (T.setVm vm₁).pushCell { cls := cX, slots := kX.instanceTypes.map defaultValue, vm := .none } = T1 at X₁ st1
  have hcat : (Value.ref T.heap.size).category = 1 := rfl
  have hcellA : T1.heap[T.heap.size]? = some (freshCell cX kX) := by rw [← hT1]; exact State.heap_pushCell_size _ _
  have d3' : decode c.code (pc + 3) = .ok (.dup, 1) := by rw [hb]; exact d3
  have d4' : decode c.code (pc + 4) = .ok (.ldc is, 2) := by rw [hb]; exact d4
  have hstr' : vk_R own is text sa s' := vk_R.warm hW0 hstr
  obtain ⟨U, hsteps, hrun, hend, hW, hsame, ce, hce, hO⟩ := X₁.ctorThrowS hexec htr (own := own) (cls := cls) (names := names) (ic := ic) hown' hcls hnames h (fun x hx => nomatch hx) hfX hkX hcellA (by rw [hhp, hT]; exact Nat.le_refl _) (msg := .ref sa) rfl
    (g := { method := m, pc := pc + 6, locals := ls, stack := .ref sa :: .ref T.heap.size :: .ref T.heap.size :: rest, locked := none }) rfl hsize rfl rfl (rest := rest) rfl
    (by rw [hb]; exact d6) (by rw [hb]; exact d9) hout hRframes (by simp only [List.map_cons, List.sum_cons, hcat]; omega) hlocks
  obtain ⟨f1, f2⟩ := vx_frame hsame
  rw [hhp] at f1 f2
  have hWs : s.WarmedH U.vm := State.WarmedH.trans hW0 hW
  have hcl : s.vm.findClass cls = some ce.cls := by
    have h9 := hO.cls
    rw [hvm] at h9
    exact h9
  have hall : s.sameButNew ({ U with vm := s.vm } : State) locs mc ms := by
    subst hA
    obtain ⟨e1, e2⟩ := hsame
    rw [State.setFrames_setFrames] at e1
    have h2 : (T.setVm s.vm).sameButNew ({ U with vm := s.vm } : State) [] (0 + 1) (0 + 6) := ⟨e1, e2⟩
    have h3 := X.same.trans h2
    rw [List.append_nil] at h3
    exact h3.mono hc hs
  refine ⟨U, ?_, .threw T.heap.size, hrun, hend, Or.inr ⟨T.heap.size, rfl, cls, ce, locs, hx U hWs.alike f1 (fun q hq => f2 q hq (fun z hz => nomatch hz)), hce, hO.vm, hcl, hWs, hall, hf⟩⟩
  refine st1 _ ?_
  show Steps p.tables e below (T1.setTop { method := m, pc := pc + 3, locals := ls, stack := .ref T.heap.size :: rest, locked := none }) _
  jvm_step X₁.here [X₁.here.top, hexec, d3', Value.category]
  exact X₁.ldcString hexec (own := own) (text := text) (index := is) (a := sa) hown' hstr'.1 hstr'.2
    (g := { method := m, pc := pc + 4, locals := ls, stack := .ref T.heap.size :: .ref T.heap.size :: rest, locked := none }) rfl d4' _ hsteps
/-- 'throw new E("text")', the text by a wide index -/
theorem vx_throwSW {cc : ByteArray} {pc : Nat} (hexec : p.tables.exec = Jvm.exec) (hb : c.code = cc) (hl : l.stackTraces = false) {own cls text : String} {names : List String} {ik is ic mc ms sa : Nat} {A : Nat → Prop}
    (hown : s.vm.findClass own = some m.cls) (hcls : Bundle.fit cls = true) (hnames : ∀ n ∈ names, Bundle.fit n = true)
    (hk : (Cond.classLink own ik cls).before args s = true) (hini : (Cond.initialized cls).before args s = true) (hstr : vk_R own is text sa s) (hat : ∀ w ∈ vx_atS own ic cls names, w.before args s = true)
    (hgood : ∀ w ∈ Cond.classLink own ik cls :: Cond.initialized cls :: vx_atS own ic cls names, vx_ot w = true)
    (hU : vx_Zq Bundle.tN "UNASSIGNED_STACK" Bundle.steD A s s.heap) (hN : vx_Zq Bundle.tN "SUPPRESSED_SENTINEL" Bundle.listD A s s.heap) (hS : va_S A s.heap H locs) (hsize : ls.size = c.maxLocals)
    (d0 : decode cc pc = .ok (.new ik, 3)) (d3 : decode cc (pc + 3) = .ok (.dup, 1)) (d4 : decode cc (pc + 4) = .ok (.ldc_w is, 3)) (d7 : decode cc (pc + 7) = .ok (.invokespecial ic, 3)) (d10 : decode cc (pc + 10) = .ok (.athrow, 1))
    (hout : ∀ x ∈ c.exceptionTable.toList, covers x (pc + 10) = false)
    (hRframes : names.length + 3 < R.frames) (hRlocals : (rest.map fun v => v.category).sum + (13 * (names.length + 1) + 43) ≤ R.locals) (hRcells : cells + 1 ≤ R.cells) (hRslots : slots + 6 ≤ R.slots) (hlocks : meth.locks = false)
    (hx : ∀ t : State, s.vm.Alike t.vm → H.size ≤ t.heap.size → (∀ q : Nat, q < H.size → t.heap[q]? = H[q]?) → XC cls s t)
    (hf : ∀ z ∈ locs, free z.base) (hc : cells + 1 ≤ mc) (hs : slots + 6 ≤ ms) :
    W p l e R s m args below meth c H locs cells slots (vx_MQ below Qc XC args s mc ms free) (F0 m pc ls rest) := by
  intro T hT X
  have htr : e.platform.stackTraces = false := (show e.platform.stackTraces = l.stackTraces by rw [X.admits.platform]).trans hl
  have Y := vx_rebase X (R' := { frames := R.frames, locals := R.locals, cells := 1, slots := 6 }) (Nat.le_refl _) (Nat.le_refl _) hRcells hRslots
  obtain ⟨s', hA⟩ : ∃ z, z = (T.setVm s.vm).setFrames (.invoking m args :: below) := ⟨_, rfl⟩
  rw [← hA] at Y
  have hvm : s'.vm = s.vm := by rw [hA]; rfl
  have hhp : s'.heap = H := by rw [hA]; exact hT
  have hW0 : s.WarmedH s'.vm := by rw [hvm]; exact State.WarmedH.refl s
  have hat' : ∀ w ∈ vx_atS own ic cls names, w.before args s' = true := fun w hw => vx_ot_at hW0 hvm.symm (hgood w (List.mem_cons_of_mem _ (List.mem_cons_of_mem _ hw))) (hat w hw)
  have hk' : (Cond.classLink own ik cls).before args s' = true := vx_ot_at hW0 hvm.symm (hgood _ List.mem_cons_self) hk
  have hini' : (Cond.initialized cls).before args s' = true := vx_ot_at hW0 hvm.symm (hgood _ (List.mem_cons_of_mem _ List.mem_cons_self)) hini
  have hU' : vx_Zq Bundle.tN "UNASSIGNED_STACK" Bundle.steD A s' s'.heap := by rw [hhp]; exact vx_Zq.moved hW0.alike (hU.kept hS.2.1)
  have hN' : vx_Zq Bundle.tN "SUPPRESSED_SENTINEL" Bundle.listD A s' s'.heap := by rw [hhp]; exact vx_Zq.moved hW0.alike (hN.kept hS.2.1)
  have h : ∀ w ∈ Bundle.ownAtoms own ic cls names, w.before args s' = true := vx_own hat' (vx_isRefq hU'.1) (vx_isRefq hN'.1) hU'.2.word hN'.2.word
  have hown' : s'.vm.findClass own = some m.cls := by rw [hvm]; exact hown
  have hins : (Cond.instantiable cls 6).before args s' = true := h _ (by simp [Bundle.ownAtoms])
  obtain ⟨vm₁, cX, kX, hfX, hkX, -, -, X₁, st1⟩ := Y.newCold hexec (own := own) (C := cls) (index := ik) (n := 6) hown' hk' hins hini'
    (g := F0 m pc ls rest) rfl (by rw [hb]; exact d0) (Nat.le_refl _) (Nat.le_refl _)
  generalize hT1 : (T.setVm vm₁).pushCell { cls := cX, slots := kX.instanceTypes.map defaultValue, vm := .none } = T1 at X₁ st1
  have hcat : (Value.ref T.heap.size).category = 1 := rfl
  have hcellA : T1.heap[T.heap.size]? = some (freshCell cX kX) := by rw [← hT1]; exact State.heap_pushCell_size _ _
  have d3' : decode c.code (pc + 3) = .ok (.dup, 1) := by rw [hb]; exact d3
  have d4' : decode c.code (pc + 4) = .ok (.ldc_w is, 3) := by rw [hb]; exact d4
  have hstr' : vk_R own is text sa s' := vk_R.warm hW0 hstr
  obtain ⟨U, hsteps, hrun, hend, hW, hsame, ce, hce, hO⟩ := X₁.ctorThrowS hexec htr (own := own) (cls := cls) (names := names) (ic := ic) hown' hcls hnames h (fun x hx => nomatch hx) hfX hkX hcellA (by rw [hhp, hT]; exact Nat.le_refl _) (msg := .ref sa) rfl
    (g := { method := m, pc := pc + 7, locals := ls, stack := .ref sa :: .ref T.heap.size :: .ref T.heap.size :: rest, locked := none }) rfl hsize rfl rfl (rest := rest) rfl
    (by rw [hb]; exact d7) (by rw [hb]; exact d10) hout hRframes (by simp only [List.map_cons, List.sum_cons, hcat]; omega) hlocks
  obtain ⟨f1, f2⟩ := vx_frame hsame
  rw [hhp] at f1 f2
  have hWs : s.WarmedH U.vm := State.WarmedH.trans hW0 hW
  have hcl : s.vm.findClass cls = some ce.cls := by
    have h9 := hO.cls
    rw [hvm] at h9
    exact h9
  have hall : s.sameButNew ({ U with vm := s.vm } : State) locs mc ms := by
    subst hA
    obtain ⟨e1, e2⟩ := hsame
    rw [State.setFrames_setFrames] at e1
    have h2 : (T.setVm s.vm).sameButNew ({ U with vm := s.vm } : State) [] (0 + 1) (0 + 6) := ⟨e1, e2⟩
    have h3 := X.same.trans h2
    rw [List.append_nil] at h3
    exact h3.mono hc hs
  refine ⟨U, ?_, .threw T.heap.size, hrun, hend, Or.inr ⟨T.heap.size, rfl, cls, ce, locs, hx U hWs.alike f1 (fun q hq => f2 q hq (fun z hz => nomatch hz)), hce, hO.vm, hcl, hWs, hall, hf⟩⟩
  refine st1 _ ?_
  show Steps p.tables e below (T1.setTop { method := m, pc := pc + 3, locals := ls, stack := .ref T.heap.size :: rest, locked := none }) _
  jvm_step X₁.here [X₁.here.top, hexec, d3', Value.category]
  exact X₁.ldcStringW hexec (own := own) (text := text) (index := is) (a := sa) hown' hstr'.1 hstr'.2
    (g := { method := m, pc := pc + 4, locals := ls, stack := .ref T.heap.size :: .ref T.heap.size :: rest, locked := none }) rfl d4' _ hsteps
end Ends
section Bodies
variable {l : Launch}
theorem vx_ofW {y : MethodName} {ws ws' : List Cond} {rm : Room} {Pc : Array Value → State → Prop} {Qc : Array Value → State → Outcome → State → Prop} {XC : String → State → State → Prop} {mc ms : Nat} {free : Addr → Prop} {cc : ByteArray} {maxL : Nat} {ret : Option FieldType}
    (hy : plainName y.cls = true) (hw : ws = Cond.code y cc maxL ret :: ws')
    (body : ∀ p e s m args below meth c s₁, BodyLoose p l y (headSpec ws rm) cc maxL ret e s m args below meth c s₁ → c.maxLocals = maxL → (∀ x ∈ c.exceptionTable.toList, False) → Pc args s →
      W p l e (headSpec ws rm).room s m args below meth c s.heap [] 0 0 (vx_MQ below Qc XC args s mc ms free) (entryFrame m args maxL)) : vx_Met l y ws rm Pc Qc XC mc ms free := by
  refine MetFree.of_bodyS (code := cc) (maxLocals := maxL) (ret := ret) hy ?_ ?_
  · intro args s m h hn
    obtain ⟨meth, c, h1, h2, h3, h4, h5, h6, -, -⟩ := Cond.code_spec hn (atoms_spec (ws := ws) h _ (by rw [hw]; exact List.mem_cons_self))
    exact ⟨meth, c, h1, h2, h3, h4, h5, h6⟩
  · intro p e s m args below meth c s₁ B hml hP _
    have hh0 : s₁.heap = s.heap := by rw [B.state]; rfl
    have ht : ∀ x ∈ c.exceptionTable.toList, False := by
      obtain ⟨meth9, c9, h1, h2, -, -, -, -, h7, -⟩ := Cond.code_spec B.named (atoms_spec (ws := ws) B.pre _ (by rw [hw]; exact List.mem_cons_self))
      cases Option.some.inj (h1.symm.trans B.method)
      cases Option.some.inj (h2.symm.trans (Stand.of_body B).code)
      intro x hx
      rw [Array.isEmpty_iff.mp h7] at hx
      cases hx
    obtain ⟨t, a1, o, b1, b2, b3⟩ := body p e s m args below meth c s₁ B hml ht hP s₁ hh0 (Stand.of_body B)
    exact ⟨t, o, a1, b1, b2, b3⟩
/-- the table of a body with handlers -/
theorem vx_table {p : Program} {x y : MethodName} {S : Spec} {cc bytes : ByteArray} {maxL maxL' : Nat} {ret ret' : Option FieldType} {e : Env} {s s₁ : State} {m : MethodId} {args : Array Value} {below : List Frame} {meth : Method} {c : Code} {hh : List (Nat × Nat × Nat × Nat)}
    (B : BodyLoose p l y S cc maxL ret e s m args below meth c s₁) (h : (Cond.codeWith y bytes maxL' ret' hh).before args s = true) : c.exceptionTable.toList = tableOf hh := by
  obtain ⟨m9, meth9, c9, hn9, h1, h2, -, -, h6, -⟩ := Cond.codeWith_spec h
  cases Option.some.inj (hn9.symm.trans B.named)
  cases Option.some.inj (h1.symm.trans B.method)
  cases Option.some.inj (h2.symm.trans (Stand.of_body B).code)
  rw [← h6, table_eq]
end Bodies
end VXA
/-! ===== END ===== -/
/-! ===== BEGIN a static call of a method with an exception table ===== -/
section VXS
variable {p : Program} {l : Launch} {e : Env} {R : Room} {s : State} {m : MethodId} {args : Array Value} {below : List Frame} {meth : Method} {c : Code} {T : State} {H : Heap} {locs : List Loc} {cells slots : Nat}
abbrev vx_CSW (R : Room) (s : State) (args : Array Value) (own : String) (index : Nat) (y : MethodName) (bytes : ByteArray) (maxL : Nat) (ret : Option FieldType) (hh : List (Nat × Nat × Nat × Nat)) (ws : List Cond) (rm : Room) (mc ms n : Nat) : Prop :=
  (rm.cells = mc ∧ rm.slots = ms ∧ rm.frames + 1 ≤ R.frames ∧ 8 + (maxL + 11) + rm.locals ≤ R.locals ∧ (∀ w ∈ ws, ∀ (a' : Array Value) (U : State), s.WarmedH U.vm → w.before a' U = true) ∧ Cond.codeWith y bytes maxL ret hh ∈ ws) ∧
  (Cond.codeWith y bytes maxL ret hh).before args s = true ∧ (Cond.initialized y.cls).before args s = true ∧ (y.cls ≠ "java/lang/invoke/MethodHandle" ∧ y.cls ≠ "java/lang/invoke/VarHandle") ∧
  (∀ sig, parseMethodDescriptor y.desc = some sig → n = sig.parameters.length) ∧ (Cond.methodLink own index y).before args s = true ∧ (Cond.static y).before args s = true
theorem vx_cwSW {own : String} {index maxL mc ms : Nat} {y : MethodName} {bytes : ByteArray} {ret : Option FieldType} {hh : List (Nat × Nat × Nat × Nat)} {Ts ws ws' : List Cond} {rm : Room} (n : Nat) (ht : ∀ w ∈ Ts, w.before args s = true) (hT : GoodIn Ts (va_wsS own index y ws)) (hw : ws = Cond.codeWith y bytes maxL ret hh :: ws') (hrc : rm.cells = mc) (hrs : rm.slots = ms)
    (hd : y.cls ≠ "java/lang/invoke/MethodHandle" ∧ y.cls ≠ "java/lang/invoke/VarHandle" ∧ (parseMethodDescriptor y.desc).map (fun d => d.parameters.length) = some n) (hR : rm.frames + 1 ≤ R.frames ∧ 8 + (maxL + 11) + rm.locals ≤ R.locals) :
    vx_CSW R s args own index y bytes maxL ret hh ws rm mc ms n := by
  have ok : ∀ w ∈ va_wsS own index y ws, w.before args s = true := fun w h => ht w (hT w h).1
  have hG : GoodIn Ts ws := fun w h => hT w (by unfold va_wsS; exact List.mem_append_right _ h)
  have hc : Cond.codeWith y bytes maxL ret hh ∈ ws := by rw [hw]; exact List.mem_cons_self
  refine ⟨⟨hrc, hrs, hR.1, hR.2, pay_in ht hG, hc⟩, ht _ (hG _ hc).1, ok _ (by simp [va_wsS]), ⟨hd.1, hd.2.1⟩, fun sig h => ?_, ok _ (by simp [va_wsS]), ok _ (by simp [va_wsS])⟩
  have h2 := hd.2.2
  rw [h] at h2
  exact (Option.some.inj h2).symm
theorem vx_callSW (X : Stand p l e R s m args below meth c T locs cells slots) (hexec : p.tables.exec = Jvm.exec) {own : String} {index : Nat} {y : MethodName} {bytes : ByteArray} {maxL : Nat} {ret : Option FieldType} {hh : List (Nat × Nat × Nat × Nat)}
    (hown : s.vm.findClass own = some m.cls) (hlink : (Cond.methodLink own index y).before args s = true) (hstat : (Cond.static y).before args s = true) (hinit : (Cond.initialized y.cls).before args s = true)
    (hcode : (Cond.codeWith y bytes maxL ret hh).before args s = true) (hy : y.cls ≠ "java/lang/invoke/MethodHandle" ∧ y.cls ≠ "java/lang/invoke/VarHandle")
    {W9 : Nat} {Pre : Pt → Array Value → Prop} {Post : Pt → Array Value → Option Value → Pt → Prop} (hK : Back l R p e below s args y 3 W9 Pre Post)
    {g : JFrame} (hg : g.method = m) (hsize : g.locals.size = c.maxLocals) {argsL rest : List Value} (hlen : ∀ sig, parseMethodDescriptor y.desc = some sig → argsL.length = sig.parameters.length)
    (hstack : g.stack = argsL.reverse ++ rest) (hW : 2 * g.monitorRoom + (rest.map fun v => v.category).sum ≤ W9) (hdg : decode c.code g.pc = .ok (.invokestatic index, 3))
    (hpre : ∀ vm₁, s.WarmedH vm₁ → Pre ⟨T.setVm vm₁, locs, cells, slots⟩ argsL.toArray) :
    ∃ (v : Option Value) (vm₁ : Vm) (B : Pt), s.WarmedH vm₁ ∧ Stand p l e R s m args below meth c B.U B.locs B.cells B.slots ∧ Post ⟨T.setVm vm₁, locs, cells, slots⟩ argsL.toArray v B ∧
      ∀ target, Steps p.tables e below (B.U.setTop { g with pc := g.pc + 3, stack := v.toList ++ rest }) target → Steps p.tables e below (T.setTop g) target := by
  obtain ⟨mk, methM, cM, hnamed, hmethM, -, -, -, -, -, -, hsigM⟩ := Cond.codeWith_spec hcode
  have hstatic : methM.isStatic = true := Cond.static_spec hnamed hmethM hstat
  obtain ⟨kP, hkP, -⟩ := className_of_methodNamed hnamed
  have hinitP : kP.init = .initialized := Cond.initialized_spec (findClass_of_methodNamed hnamed) hkP hinit
  obtain ⟨vm₁, X₁, hstep₁⟩ := X.invokestatic hexec hown hlink hnamed hmethM hstatic hkP hinitP hy (g := g) hg (argsL := argsL) (rest := rest) (hlen _ hsigM) hstack hdg
  obtain ⟨v, B, X', hpost, hsteps⟩ := hK m meth c ⟨T.setVm vm₁, locs, cells, slots⟩ { g with stack := rest } (.invokestatic index) mk argsL.toArray X₁ hg hsize hdg hW (X₁.named hnamed) (hpre vm₁ X₁.warmed)
  exact ⟨v, vm₁, B, X₁.warmed, X', hpost, fun target h => hstep₁ _ fun acts => by rw [doInvoke_state]; exact hsteps.trans h⟩
theorem vx_runSW {y : MethodName} {bytes cc : ByteArray} {maxL nL mc ms n index : Nat} {ret : Option FieldType} {hh : List (Nat × Nat × Nat × Nat)} {ws : List Cond} {rm : Room} {Pc : Array Value → State → Prop} {Qc : Array Value → State → Outcome → State → Prop} {free : Addr → Prop} {Ts : List Cond} {own : String} {As rest : List Value} {g : JFrame}
    (S : CallFix p m c cc nL s args Ts own) (hM : Met l y ws rm Pc Qc mc ms free) (cw : vx_CSW R s args own index y bytes maxL ret hh ws rm mc ms n) (hp : PreS s H Pc As)
    (hg : g.method = m) (hn : As.length = n) (hsize : g.locals.size = nL) (hstack : g.stack = As.reverse ++ rest) (hW : 2 * g.monitorRoom + (rest.map fun v => v.category).sum ≤ 8) (hdg : decode cc g.pc = .ok (.invokestatic index, 3)) (hf : cells + mc ≤ R.cells ∧ slots + ms ≤ R.slots) :
    va_Run p l e R s m args below meth c H locs cells slots mc ms g rest (Qc As.toArray) (free) := by
  obtain ⟨⟨hrc, hrs, hfr, hlo, hws, hcw⟩, hcode, hini, hy, hlen, hl, hstt⟩ := cw
  have hK : Back l R p e below s args y 3 8 (PreOf R mc ms Pc) (PostOf Qc mc ms free) := va_backW (hh := hh) (bytes := bytes) (maxL := maxL) (ret := ret) hM hp.1 hrc hrs hfr hlo hws hcw (fun a' U hW => word_at hW (Or.inl (by first | rfl | simp [Cond.onTables, Cond.keeps, Cond.steady])) hini)
  obtain ⟨hx, hb, hml, ho, -⟩ := S
  intro T hT X
  obtain ⟨v, vm₁, ⟨U', l2, c2, s2⟩, hW₁, X', ⟨g', mk, t, L, e1, e2, hq, h1, hL, h2, h3⟩, st⟩ := vx_callSW X hx (hh := hh) (bytes := bytes) (maxL := maxL) (ret := ret) ho hl hstt hini hcode hy hK hg (hsize.trans hml.symm) (argsL := As) (rest := rest) (fun sig h => hn.trans (hlen sig h)) hstack hW (by rw [hb]; exact hdg)
    (fun vm₁ hW₁ => ⟨hf.1, hf.2, hp.2 (T.setVm vm₁) hT hW₁⟩)
  dsimp only [Pt.U, Pt.locs, Pt.cells, Pt.slots] at X' e1 e2 h1 h2 h3 st
  subst h1; subst h2; subst h3
  exact ⟨v, (T.setVm vm₁).calling g' mk As.toArray, t, U', L, hT, X', hL, e1, e2, hq, st⟩
/-- not caught here, past rows that name other classes: it goes on to the caller -/
theorem vx_outP {p : Program} {l : Launch} {e : Env} {R : Room} {s : State} {m : MethodId} {args : Array Value} {below : List Frame} {meth : Method} {c : Code} {H : Heap} {locs : List Loc} {cells slots : Nat} {free : Addr → Prop} {ls : Array Slot} {rest : List Value} {Qc : Array Value → State → Outcome → State → Prop} {XC : String → State → State → Prop}
    {pc : Nat} {own E : String} {ce : Cell} {q : Addr} {mc ms : Nat} (hown : s.vm.findClass own = some m.cls) (hlocks : meth.locks = false)
    (hpass : ∀ z ∈ c.exceptionTable.toList, covers z pc = false ∨ (z.catchType ≠ 0 ∧ ∃ nm : String, (Cond.classLink own z.catchType nm).before args s = true ∧ va_Nc E nm s)) (hcell : H[q]? = some ce) (hv : ce.vm = .none) (hcl : s.vm.findClass E = some ce.cls)
    (hx : ∀ t : State, t.heap = H → s.vm.Alike t.vm → XC E s t) (hf : ∀ z ∈ locs, free z.base) (hc : cells ≤ mc) (hs : slots ≤ ms) :
    vx_W p l e R s m args below meth c H locs cells slots (vx_MQ below Qc XC args s mc ms free) (F0 m pc ls rest) q := by
  intro T hT X
  have hpl : e.platform.magicAccessors = ({} : Platform).magicAccessors := by rw [X.admits.platform]
  obtain ⟨vm', hW', X', st⟩ := X.outThrough hlocks q (g := F0 m pc ls rest) rfl rfl rfl (cell := ce) (by rw [hT]; exact hcell) (by rw [hv]; rfl)
    (by obtain ⟨k9, h9, -⟩ := Vm.findClass_spec hcl; exact ⟨k9, h9⟩) (fun z hz => by
      rcases hpass z hz with h | ⟨hz0, nm, hl1, hn1⟩
      · exact Or.inl h
      · obtain ⟨c6, hc6, hcl6⟩ := Cond.classLink_spec hown hl1 e.platform hpl
        obtain ⟨a8, b8, h1, h2, h3⟩ := hn1
        cases Option.some.inj (h1.symm.trans hcl)
        cases Option.some.inj (h2.symm.trans hc6)
        exact Or.inr ⟨hz0, _, hcl6, h3⟩)
  obtain ⟨g₀, hfr⟩ := X'.frames_eq
  have hcell9 : ((T.setVm vm').setFrames (.throwing q :: below)).heap[q]? = some ce := by
    show T.heap[q]? = some ce
    rw [hT]; exact hcell
  have hend : Ended ((T.setVm vm').setFrames (.throwing q :: below)) below (.threw q) := State.frames_setFrames _ (State.cur_lt_of_frames hfr)
  refine ⟨(T.setVm vm').setFrames (.throwing q :: below), ?_, .threw q, X'.here.running, hend, Or.inr ⟨q, rfl, E, ce, locs, hx _ hT (X'.ends _).1.alike, hcell9, hv, hcl, (X'.ends _).1, (X'.ends _).2.mono hc hs, hf⟩⟩
  rw [X.pushThrowing_eq]
  exact st
/-- a thing of a world lies in the heap -/
theorem vx_lt {D : va_G} {cl : List vw_C} {ws : va_W} {H1 : Heap} (h : va_P D cl ws H1) {k : Nat} {q : Nat × va_E} (hk : ws[k]? = some q) : q.1 < H1.size := (h k q hk).lt
end VXS
/-! ===== END ===== -/
/-! ===== BEGIN methods with a table of their own: called by a name, returning or throwing ===== -/
section VXH
/-! vx_backW, vx_callVX, vx_callSX, vx_callVW, vx_runVW, vx_runVX, vx_runSX, vx_ofWH follow the same proofs as their sisters above (Free/Laws.lean, Shelf42/LK1.lean); vx_outP calls Shelf42/NT130.lean (outThrough). -/
section
variable {l : Launch} {R : Room} {p : Program} {e : Env} {below : List Frame} {s : State} {sargs : Array Value} {y : MethodName} {len W9 : Nat}
theorem vx_backW {ws : List Cond} {rm : Room} {Pc : Array Value → State → Prop} {Qc : Array Value → State → Outcome → State → Prop} {XC : String → State → State → Prop} {mc ms : Nat} {free : Addr → Prop} {bytes : ByteArray} {maxL : Nat} {ret : Option FieldType} {hh : List (Nat × Nat × Nat × Nat)}
    (hM : vx_Met l y ws rm Pc Qc XC mc ms free) (hblind : FrameBlind Pc) (hrc : rm.cells = mc) (hrs : rm.slots = ms)
    (hframes : rm.frames + 1 ≤ R.frames) (hlocals : W9 + (maxL + 11) + rm.locals ≤ R.locals)
    (hws : ∀ w ∈ ws, ∀ a' U, s.WarmedH U.vm → w.before a' U = true) (hcode : Cond.codeWith y bytes maxL ret hh ∈ ws) (hinit : ∀ a' U, s.WarmedH U.vm → (Cond.initialized y.cls).before a' U = true) :
    vx_Back l R p e below s sargs y len W9 (PreOf R mc ms Pc) (PostOf Qc mc ms free) (vx_Post XC mc ms free) := by
  intro m meth c A g ig mk a X hg hsize hdg hW hn hp
  have h1 : (headSpec ws rm).pre.before a A.U = true := atoms_intro fun w hw => hws w hw _ _ X.warmed
  have h2 : (Cond.codeWith y bytes maxL ret hh).before a A.U = true := hws _ hcode _ _ X.warmed
  have h3 : (Cond.initialized y.cls).before a A.U = true := hinit _ _ X.warmed
  have h4 : A.cells + (headSpec ws rm).room.cells ≤ R.cells := by rw [show (headSpec ws rm).room.cells = mc from hrc]; exact hp.1
  have h5 : A.slots + (headSpec ws rm).room.slots ≤ R.slots := by rw [show (headSpec ws rm).room.slots = ms from hrs]; exact hp.2.1
  have hPc : Pc a (A.U.calling g mk a) := hblind _ _ _ _ hp.2.2
  obtain ⟨U, Ls, c0, s0⟩ := A
  dsimp only [Pt.U, Pt.locs, Pt.cells, Pt.slots] at h1 h2 h3 h4 h5 X hn hPc ⊢
  obtain ⟨m9, methY, cY, hn9, hmY, hcY, -, hlY, -⟩ := Cond.codeWith_spec h2
  cases Option.some.inj (hn9.symm.trans hn)
  obtain ⟨kY, hkY, -⟩ := className_of_methodNamed hn
  have hinitY : kY.init = .initialized := Cond.initialized_spec (findClass_of_methodNamed hn) hkY h3
  have h : At U g.method c below := by rw [hg]; exact X.here
  have hlocals9 : W9 + (maxL + 11) + (headSpec ws rm).room.locals ≤ R.locals := hlocals
  have happ : (headSpec ws rm).appliesLoose y e.platform (U.calling g mk a) = true :=
    Spec.appliesLoose_calling (g := g) h hdg hn hkY hinitY
      (X.room_calling (g := g) (R' := (headSpec ws rm).room) hsize hmY hcY hframes (by rw [hlY]; omega) h4 h5) h1
  obtain ⟨mid, hmid⟩ := h.above
  have hfr : (U.setTop g).frames = (.java g :: mid) ++ below := by rw [State.frames_setTop' g h.top, hmid]; rfl
  obtain ⟨o, s₂, hsteps, -, hend, hq⟩ := Steps.callFree hM p X.admits X.cas X.clock (acts := []) hfr happ hPc trivial
  have hq' : vx_Q Qc XC mc ms free a (U.calling g mk a) o s₂ := hq
  rw [State.frames_setTop' g h.top] at hend
  obtain ⟨g₀, hg0⟩ := Option.isSome_iff_exists.mp h.top
  obtain ⟨r, hr⟩ := State.topJava?_eq_some.mp hg0
  have hr' : (({ U with heap := s₂.heap, slotsUsed := s₂.slotsUsed } : State).setVm s₂.vm).frames = .java g₀ :: r := hr
  rcases hq' with ⟨hqc, L, hfe, hL⟩ | ⟨q, rfl, E, ce, L, hx, hce, hcv, hcl, hW₂, hsm, hL⟩
  · obtain ⟨⟨v, rfl⟩, hW₂, e2, q2, q3, q4, q5, q6⟩ := id hfe
    have e3 : s₂ = ({ (U.calling g mk a).setFrames s₂.frames with heap := s₂.heap, slotsUsed := s₂.slotsUsed } : State).setVm s₂.vm := by
      have : s₂ = ({ s₂ with vm := (U.calling g mk a).vm } : State).setVm s₂.vm := rfl
      rw [e2] at this
      exact this
    obtain ⟨c₂, i₂, len₂, hc₂, hd₂, hf₂⟩ := hend
    have hW' : U.WarmedH s₂.vm := hW₂
    have hcc : c₂ = c := by
      have h1 : s₂.code? g.method = U.code? g.method := by
        rw [State.code?_eq, State.code?_eq, hW'.alike.method?]
      exact Option.some.inj (hc₂.symm.trans (h1.trans h.code))
    subst hcc
    have hlen : len₂ = len := by rw [hdg] at hd₂; cases hd₂; rfl
    subst hlen
    have hs₂ : s₂ = (({ U with heap := s₂.heap, slotsUsed := s₂.slotsUsed } : State).setVm s₂.vm).setTop { g with pc := g.pc + len₂, stack := v.toList ++ g.stack } := by
      refine e3.trans ?_
      rw [hf₂, State.calling_eq h.top, State.setFrames_setFrames, State.setTop_of_frames _ hr', hr]
      rfl
    have hsame : U.sameButNew ({ U with heap := s₂.heap, slotsUsed := s₂.slotsUsed } : State) L mc ms := by
      refine ⟨?_, q2, q3, q4, q5, q6⟩
      obtain ⟨t, ht, -⟩ := State.frames_cons hr
      show ({ U with heap := s₂.heap, slotsUsed := s₂.slotsUsed } : State) = { U.setFrames U.frames with heap := s₂.heap, slotsUsed := s₂.slotsUsed }
      rw [State.setFrames_self ht]
    subst hg
    refine Or.inl ⟨v, ⟨(({ U with heap := s₂.heap, slotsUsed := s₂.slotsUsed } : State).setVm s₂.vm), Ls ++ L, c0 + mc, s0 + ms⟩,
      ⟨X.admits, X.cas, X.clock, X.frames, X.room, X.hears, X.method, X.code, (X.here.setHeapUsed s₂.heap s₂.slotsUsed).setVm hW'.alike, X.tail, State.WarmedH.trans X.warmed hW', X.limits, X.bytes, X.same.trans (hsame.setVm s.vm)⟩,
      ⟨g, mk, s₂, L, rfl, rfl, hqc, rfl, hL, rfl, rfl⟩, ?_⟩
    show Steps p.tables e below _ ((({ U with heap := s₂.heap, slotsUsed := s₂.slotsUsed } : State).setVm s₂.vm).setTop { g with pc := g.pc + len₂, stack := v.toList ++ g.stack })
    rw [← hs₂]
    exact hsteps
  · obtain ⟨e2, q2, q3, q4, q5, q6⟩ := id hsm
    have e3 : s₂ = ({ (U.calling g mk a).setFrames s₂.frames with heap := s₂.heap, slotsUsed := s₂.slotsUsed } : State).setVm s₂.vm := by
      have : s₂ = ({ s₂ with vm := (U.calling g mk a).vm } : State).setVm s₂.vm := rfl
      rw [e2] at this
      exact this
    have hf₂ : s₂.frames = .throwing q :: .java g :: U.frames.tail := hend
    have hW' : U.WarmedH s₂.vm := hW₂
    have hs₂ : s₂ = ((({ U with heap := s₂.heap, slotsUsed := s₂.slotsUsed } : State).setVm s₂.vm).setTop g).pushFrame (.throwing q) := by
      refine e3.trans ?_
      rw [hf₂, State.calling_eq h.top, State.setFrames_setFrames, State.pushFrame, State.frames_setTop _ hr', State.setTop_of_frames _ hr', State.setFrames_setFrames, hr]
      rfl
    have hsame : U.sameButNew ({ U with heap := s₂.heap, slotsUsed := s₂.slotsUsed } : State) L mc ms := by
      refine ⟨?_, q2, q3, q4, q5, q6⟩
      obtain ⟨t, ht, -⟩ := State.frames_cons hr
      show ({ U with heap := s₂.heap, slotsUsed := s₂.slotsUsed } : State) = { U.setFrames U.frames with heap := s₂.heap, slotsUsed := s₂.slotsUsed }
      rw [State.setFrames_self ht]
    subst hg
    refine Or.inr ⟨q, ⟨(({ U with heap := s₂.heap, slotsUsed := s₂.slotsUsed } : State).setVm s₂.vm), Ls ++ L, c0 + mc, s0 + ms⟩,
      ⟨X.admits, X.cas, X.clock, X.frames, X.room, X.hears, X.method, X.code, (X.here.setHeapUsed s₂.heap s₂.slotsUsed).setVm hW'.alike, X.tail, State.WarmedH.trans X.warmed hW', X.limits, X.bytes, X.same.trans (hsame.setVm s.vm)⟩,
      ⟨g, mk, s₂, L, E, ce, rfl, rfl, hx, hce, hcv, hcl, rfl, hL, rfl, rfl⟩, ?_⟩
    show Steps p.tables e below _ (((({ U with heap := s₂.heap, slotsUsed := s₂.slotsUsed } : State).setVm s₂.vm).setTop g).pushFrame (.throwing q))
    rw [← hs₂]
    exact hsteps
end
variable {p : Program} {l : Launch} {e : Env} {R : Room} {s : State} {m : MethodId} {args : Array Value} {below : List Frame} {meth : Method} {c : Code} {T : State} {H : Heap} {locs : List Loc} {cells slots : Nat}
theorem vx_callVX (X : Stand p l e R s m args below meth c T locs cells slots) (hexec : p.tables.exec = Jvm.exec) {own C : String} {index : Nat} {y : MethodName} {bytes : ByteArray} {maxL : Nat} {ret : Option FieldType} {hh : List (Nat × Nat × Nat × Nat)}
    (hown : s.vm.findClass own = some m.cls) (hlink : (Cond.methodLink own index y).before args s = true) (hinst : (Cond.instanceMethod y).before args s = true) (hsel : (Cond.selects C y y).before args s = true)
    (hcode : (Cond.codeWith y bytes maxL ret hh).before args s = true) (hy : y.cls ≠ "java/lang/invoke/MethodHandle" ∧ y.cls ≠ "java/lang/invoke/VarHandle")
    {W9 : Nat} {Pre : Pt → Array Value → Prop} {Post : Pt → Array Value → Option Value → Pt → Prop} {PostX : Pt → Array Value → Addr → Pt → Prop} (hK : vx_Back l R p e below s args y 3 W9 Pre Post PostX)
    {b : Addr} {cellB : Cell} (hcell : T.heap[b]? = some cellB) (hobj : cellB.vm.isStatics = false) (hcls : s.vm.findClass C = some cellB.cls)
    {g : JFrame} (hg : g.method = m) (hsize : g.locals.size = c.maxLocals) {argsL rest : List Value} (hlen : ∀ sig, parseMethodDescriptor y.desc = some sig → argsL.length = sig.parameters.length)
    (hstack : g.stack = argsL.reverse ++ .ref b :: rest) (hW : 2 * g.monitorRoom + (rest.map fun v => v.category).sum ≤ W9) (hdg : decode c.code g.pc = .ok (.invokevirtual index, 3))
    (hpre : ∀ vm₁, s.WarmedH vm₁ → Pre ⟨T.setVm vm₁, locs, cells, slots⟩ (Value.ref b :: argsL).toArray) :
    (∃ (v : Option Value) (vm₁ : Vm) (B : Pt), s.WarmedH vm₁ ∧ Stand p l e R s m args below meth c B.U B.locs B.cells B.slots ∧ Post ⟨T.setVm vm₁, locs, cells, slots⟩ (Value.ref b :: argsL).toArray v B ∧
      ∀ target, Steps p.tables e below (B.U.setTop { g with pc := g.pc + 3, stack := v.toList ++ rest }) target → Steps p.tables e below (T.setTop g) target) ∨
    (∃ (q : Addr) (vm₁ : Vm) (B : Pt), s.WarmedH vm₁ ∧ Stand p l e R s m args below meth c B.U B.locs B.cells B.slots ∧ PostX ⟨T.setVm vm₁, locs, cells, slots⟩ (Value.ref b :: argsL).toArray q B ∧
      Steps p.tables e below (T.setTop g) ((B.U.setTop { g with stack := rest }).pushFrame (.throwing q))) := by
  obtain ⟨mk, methM, hnamed, hmethM, hstM, habM⟩ := Cond.instanceMethod_spec hinst
  obtain ⟨m8, methM', cM, hn8, hmethM', -, -, -, -, -, -, hsigM⟩ := Cond.codeWith_spec hcode
  cases Option.some.inj (hn8.symm.trans hnamed)
  cases hmethM.symm.trans hmethM'
  obtain ⟨c2, r2, m2, q1, q2, q3, q4, kP, hkP, hkPi⟩ := Cond.selects_spec hsel
  cases hcls.symm.trans q1
  cases (State.methodFound?_of_named hnamed hy).symm.trans q2
  cases hnamed.symm.trans q3
  have hselP : selectMethod e.platform s.vm cellB.cls mk = .method mk := by rw [Launch.admits_selectMethod X.admits]; exact q4
  obtain ⟨vm₁, X₁, hstep₁⟩ := X.invokevirtual hexec hown hlink hnamed hmethM hstM hkP hkPi hy (a := b) (cell := cellB) hcell
    (fun z h => by rw [h] at hobj; cases hobj) hselP hmethM habM hkP hkPi (g := g) hg (argsL := argsL) (rest := rest) (hlen _ hsigM) hstack hdg
  rcases hK m meth c ⟨T.setVm vm₁, locs, cells, slots⟩ { g with stack := rest } (.invokevirtual index) mk (Value.ref b :: argsL).toArray X₁ hg hsize hdg hW (X₁.named hnamed) (hpre vm₁ X₁.warmed) with ⟨v, B, X', hpost, hsteps⟩ | ⟨q, B, X', hpost, hsteps⟩
  · exact Or.inl ⟨v, vm₁, B, X₁.warmed, X', hpost, fun target h => hstep₁ _ fun acts => by rw [doInvoke_state]; exact hsteps.trans h⟩
  · exact Or.inr ⟨q, vm₁, B, X₁.warmed, X', hpost, hstep₁ _ fun acts => by rw [doInvoke_state]; exact hsteps⟩
theorem vx_callSX (X : Stand p l e R s m args below meth c T locs cells slots) (hexec : p.tables.exec = Jvm.exec) {own : String} {index : Nat} {y : MethodName} {bytes : ByteArray} {maxL : Nat} {ret : Option FieldType} {hh : List (Nat × Nat × Nat × Nat)}
    (hown : s.vm.findClass own = some m.cls) (hlink : (Cond.methodLink own index y).before args s = true) (hstat : (Cond.static y).before args s = true) (hinit : (Cond.initialized y.cls).before args s = true)
    (hcode : (Cond.codeWith y bytes maxL ret hh).before args s = true) (hy : y.cls ≠ "java/lang/invoke/MethodHandle" ∧ y.cls ≠ "java/lang/invoke/VarHandle")
    {W9 : Nat} {Pre : Pt → Array Value → Prop} {Post : Pt → Array Value → Option Value → Pt → Prop} {PostX : Pt → Array Value → Addr → Pt → Prop} (hK : vx_Back l R p e below s args y 3 W9 Pre Post PostX)
    {g : JFrame} (hg : g.method = m) (hsize : g.locals.size = c.maxLocals) {argsL rest : List Value} (hlen : ∀ sig, parseMethodDescriptor y.desc = some sig → argsL.length = sig.parameters.length)
    (hstack : g.stack = argsL.reverse ++ rest) (hW : 2 * g.monitorRoom + (rest.map fun v => v.category).sum ≤ W9) (hdg : decode c.code g.pc = .ok (.invokestatic index, 3))
    (hpre : ∀ vm₁, s.WarmedH vm₁ → Pre ⟨T.setVm vm₁, locs, cells, slots⟩ argsL.toArray) :
    (∃ (v : Option Value) (vm₁ : Vm) (B : Pt), s.WarmedH vm₁ ∧ Stand p l e R s m args below meth c B.U B.locs B.cells B.slots ∧ Post ⟨T.setVm vm₁, locs, cells, slots⟩ argsL.toArray v B ∧
      ∀ target, Steps p.tables e below (B.U.setTop { g with pc := g.pc + 3, stack := v.toList ++ rest }) target → Steps p.tables e below (T.setTop g) target) ∨
    (∃ (q : Addr) (vm₁ : Vm) (B : Pt), s.WarmedH vm₁ ∧ Stand p l e R s m args below meth c B.U B.locs B.cells B.slots ∧ PostX ⟨T.setVm vm₁, locs, cells, slots⟩ argsL.toArray q B ∧
      Steps p.tables e below (T.setTop g) ((B.U.setTop { g with stack := rest }).pushFrame (.throwing q))) := by
  obtain ⟨mk, methM, cM, hnamed, hmethM, -, -, -, -, -, -, hsigM⟩ := Cond.codeWith_spec hcode
  have hstatic : methM.isStatic = true := Cond.static_spec hnamed hmethM hstat
  obtain ⟨kP, hkP, -⟩ := className_of_methodNamed hnamed
  have hinitP : kP.init = .initialized := Cond.initialized_spec (findClass_of_methodNamed hnamed) hkP hinit
  obtain ⟨vm₁, X₁, hstep₁⟩ := X.invokestatic hexec hown hlink hnamed hmethM hstatic hkP hinitP hy (g := g) hg (argsL := argsL) (rest := rest) (hlen _ hsigM) hstack hdg
  rcases hK m meth c ⟨T.setVm vm₁, locs, cells, slots⟩ { g with stack := rest } (.invokestatic index) mk argsL.toArray X₁ hg hsize hdg hW (X₁.named hnamed) (hpre vm₁ X₁.warmed) with ⟨v, B, X', hpost, hsteps⟩ | ⟨q, B, X', hpost, hsteps⟩
  · exact Or.inl ⟨v, vm₁, B, X₁.warmed, X', hpost, fun target h => hstep₁ _ fun acts => by rw [doInvoke_state]; exact hsteps.trans h⟩
  · exact Or.inr ⟨q, vm₁, B, X₁.warmed, X', hpost, hstep₁ _ fun acts => by rw [doInvoke_state]; exact hsteps⟩
theorem vx_callVW (X : Stand p l e R s m args below meth c T locs cells slots) (hexec : p.tables.exec = Jvm.exec) {own C : String} {index : Nat} {y : MethodName} {bytes : ByteArray} {maxL : Nat} {ret : Option FieldType} {hh : List (Nat × Nat × Nat × Nat)}
    (hown : s.vm.findClass own = some m.cls) (hlink : (Cond.methodLink own index y).before args s = true) (hinst : (Cond.instanceMethod y).before args s = true) (hsel : (Cond.selects C y y).before args s = true)
    (hcode : (Cond.codeWith y bytes maxL ret hh).before args s = true) (hy : y.cls ≠ "java/lang/invoke/MethodHandle" ∧ y.cls ≠ "java/lang/invoke/VarHandle")
    {W9 : Nat} {Pre : Pt → Array Value → Prop} {Post : Pt → Array Value → Option Value → Pt → Prop} (hK : Back l R p e below s args y 3 W9 Pre Post)
    {b : Addr} {cellB : Cell} (hcell : T.heap[b]? = some cellB) (hobj : cellB.vm.isStatics = false) (hcls : s.vm.findClass C = some cellB.cls)
    {g : JFrame} (hg : g.method = m) (hsize : g.locals.size = c.maxLocals) {argsL rest : List Value} (hlen : ∀ sig, parseMethodDescriptor y.desc = some sig → argsL.length = sig.parameters.length)
    (hstack : g.stack = argsL.reverse ++ .ref b :: rest) (hW : 2 * g.monitorRoom + (rest.map fun v => v.category).sum ≤ W9) (hdg : decode c.code g.pc = .ok (.invokevirtual index, 3))
    (hpre : ∀ vm₁, s.WarmedH vm₁ → Pre ⟨T.setVm vm₁, locs, cells, slots⟩ (Value.ref b :: argsL).toArray) :
    ∃ (v : Option Value) (vm₁ : Vm) (B : Pt), s.WarmedH vm₁ ∧ Stand p l e R s m args below meth c B.U B.locs B.cells B.slots ∧ Post ⟨T.setVm vm₁, locs, cells, slots⟩ (Value.ref b :: argsL).toArray v B ∧
      ∀ target, Steps p.tables e below (B.U.setTop { g with pc := g.pc + 3, stack := v.toList ++ rest }) target → Steps p.tables e below (T.setTop g) target := by
  obtain ⟨mk, methM, hnamed, hmethM, hstM, habM⟩ := Cond.instanceMethod_spec hinst
  obtain ⟨m8, methM', cM, hn8, hmethM', -, -, -, -, -, -, hsigM⟩ := Cond.codeWith_spec hcode
  cases Option.some.inj (hn8.symm.trans hnamed)
  cases hmethM.symm.trans hmethM'
  obtain ⟨c2, r2, m2, q1, q2, q3, q4, kP, hkP, hkPi⟩ := Cond.selects_spec hsel
  cases hcls.symm.trans q1
  cases (State.methodFound?_of_named hnamed hy).symm.trans q2
  cases hnamed.symm.trans q3
  have hselP : selectMethod e.platform s.vm cellB.cls mk = .method mk := by rw [Launch.admits_selectMethod X.admits]; exact q4
  obtain ⟨vm₁, X₁, hstep₁⟩ := X.invokevirtual hexec hown hlink hnamed hmethM hstM hkP hkPi hy (a := b) (cell := cellB) hcell
    (fun z h => by rw [h] at hobj; cases hobj) hselP hmethM habM hkP hkPi (g := g) hg (argsL := argsL) (rest := rest) (hlen _ hsigM) hstack hdg
  obtain ⟨v, B, X', hpost, hsteps⟩ := hK m meth c ⟨T.setVm vm₁, locs, cells, slots⟩ { g with stack := rest } (.invokevirtual index) mk (Value.ref b :: argsL).toArray X₁ hg hsize hdg hW (X₁.named hnamed) (hpre vm₁ X₁.warmed)
  exact ⟨v, vm₁, B, X₁.warmed, X', hpost, fun target h => hstep₁ _ fun acts => by rw [doInvoke_state]; exact hsteps.trans h⟩
abbrev vx_CVW (R : Room) (s : State) (args : Array Value) (own C : String) (index : Nat) (y : MethodName) (bytes : ByteArray) (maxL : Nat) (ret : Option FieldType) (hh : List (Nat × Nat × Nat × Nat)) (ws : List Cond) (rm : Room) (mc ms n : Nat) : Prop :=
  (rm.cells = mc ∧ rm.slots = ms ∧ rm.frames + 1 ≤ R.frames ∧ 8 + (maxL + 11) + rm.locals ≤ R.locals ∧ (∀ w ∈ ws, ∀ (a' : Array Value) (U : State), s.WarmedH U.vm → w.before a' U = true) ∧ Cond.codeWith y bytes maxL ret hh ∈ ws) ∧
  (Cond.codeWith y bytes maxL ret hh).before args s = true ∧ (Cond.initialized y.cls).before args s = true ∧ (y.cls ≠ "java/lang/invoke/MethodHandle" ∧ y.cls ≠ "java/lang/invoke/VarHandle") ∧
  (∀ sig, parseMethodDescriptor y.desc = some sig → n = sig.parameters.length) ∧ (Cond.methodLink own index y).before args s = true ∧ (Cond.instanceMethod y).before args s = true ∧ (Cond.selects C y y).before args s = true
theorem vx_cwVW {own C : String} {index maxL mc ms : Nat} {y : MethodName} {bytes : ByteArray} {ret : Option FieldType} {hh : List (Nat × Nat × Nat × Nat)} {Ts ws ws' : List Cond} {rm : Room} (n : Nat) (ht : ∀ w ∈ Ts, w.before args s = true) (hT : GoodIn Ts (wsV own index C y ws)) (hw : ws = Cond.codeWith y bytes maxL ret hh :: ws') (hrc : rm.cells = mc) (hrs : rm.slots = ms)
    (hd : y.cls = C ∧ y.cls ≠ "java/lang/invoke/MethodHandle" ∧ y.cls ≠ "java/lang/invoke/VarHandle" ∧ (parseMethodDescriptor y.desc).map (fun d => d.parameters.length) = some n) (hR : rm.frames + 1 ≤ R.frames ∧ 8 + (maxL + 11) + rm.locals ≤ R.locals) :
    vx_CVW R s args own C index y bytes maxL ret hh ws rm mc ms n := by
  obtain ⟨hC, hd⟩ := hd
  subst hC
  have ok : ∀ w ∈ wsV own index y.cls y ws, w.before args s = true := fun w h => ht w (hT w h).1
  have hG : GoodIn Ts ws := fun w h => hT w (by unfold wsV; exact List.mem_append_right _ h)
  have hc : Cond.codeWith y bytes maxL ret hh ∈ ws := by rw [hw]; exact List.mem_cons_self
  refine ⟨⟨hrc, hrs, hR.1, hR.2, pay_in ht hG, hc⟩, ht _ (hG _ hc).1, ok _ (by simp [wsV]), ⟨hd.1, hd.2.1⟩, fun sig h => ?_, ok _ (by simp [wsV]), ok _ (by simp [wsV]), ok _ (by simp [wsV])⟩
  have h2 := hd.2.2
  rw [h] at h2
  exact (Option.some.inj h2).symm
theorem vx_runVW {y : MethodName} {bytes cc : ByteArray} {maxL nL mc ms n index : Nat} {ret : Option FieldType} {hh : List (Nat × Nat × Nat × Nat)} {ws : List Cond} {rm : Room} {Pc : Array Value → State → Prop} {Qc : Array Value → State → Outcome → State → Prop} {free : Addr → Prop} {Ts : List Cond} {own C : String} {b : Addr} {As rest : List Value} {g : JFrame}
    (S : CallFix p m c cc nL s args Ts own) (hM : Met l y ws rm Pc Qc mc ms free) (cw : vx_CVW R s args own C index y bytes maxL ret hh ws rm mc ms n) (hp : PreV s H C b Pc As)
    (hg : g.method = m) (hn : As.length = n) (hsize : g.locals.size = nL) (hstack : g.stack = As.reverse ++ .ref b :: rest) (hW : 2 * g.monitorRoom + (rest.map fun v => v.category).sum ≤ 8) (hdg : decode cc g.pc = .ok (.invokevirtual index, 3)) (hf : cells + mc ≤ R.cells ∧ slots + ms ≤ R.slots) :
    va_Run p l e R s m args below meth c H locs cells slots mc ms g rest (Qc (Value.ref b :: As).toArray) free := by
  obtain ⟨⟨hrc, hrs, hfr, hlo, hws, hcw⟩, hcode, hini, hy, hlen, hl, hin, hse⟩ := cw
  have hK : Back l R p e below s args y 3 8 (PreOf R mc ms Pc) (PostOf Qc mc ms free) := va_backW (hh := hh) (bytes := bytes) (maxL := maxL) (ret := ret) hM hp.1 hrc hrs hfr hlo hws hcw (fun a' U hW => word_at hW (Or.inl (by first | rfl | simp [Cond.onTables, Cond.keeps, Cond.steady])) hini)
  obtain ⟨hx, hb, hml, ho, -⟩ := S
  obtain ⟨-, ⟨cellB, hcB, hoB, hclB⟩, hPc⟩ := hp
  intro T hT X
  obtain ⟨v, vm₁, ⟨U', l2, c2, s2⟩, hW₁, X', ⟨g', mk, t, L, e1, e2, hq, h1, hL, h2, h3⟩, st⟩ := vx_callVW X hx (C := C) (hh := hh) (bytes := bytes) (maxL := maxL) (ret := ret) ho hl hin hse hcode hy hK (by rw [hT]; exact hcB) hoB hclB hg (hsize.trans hml.symm) (argsL := As) (rest := rest) (fun sig h => hn.trans (hlen sig h)) hstack hW (by rw [hb]; exact hdg)
    (fun vm₁ hW₁ => ⟨hf.1, hf.2, hPc (T.setVm vm₁) hT hW₁⟩)
  dsimp only [Pt.U, Pt.locs, Pt.cells, Pt.slots] at X' e1 e2 h1 h2 h3 st
  subst h1; subst h2; subst h3
  exact ⟨v, (T.setVm vm₁).calling g' mk (Value.ref b :: As).toArray, t, U', L, hT, X', hL, e1, e2, hq, st⟩
section
variable {y : MethodName} {bytes cc : ByteArray} {maxL nL mc ms n index : Nat} {ret : Option FieldType} {ws : List Cond} {rm : Room} {Pc : Array Value → State → Prop} {Qc : Array Value → State → Outcome → State → Prop} {XC : String → State → State → Prop} {free : Addr → Prop} {Ts : List Cond} {own C : String} {b : Addr} {As rest : List Value} {g : JFrame}
theorem vx_runVX {hh : List (Nat × Nat × Nat × Nat)} (S : CallFix p m c cc nL s args Ts own) (hM : vx_Met l y ws rm Pc Qc XC mc ms free) (cw : vx_CVW R s args own C index y bytes maxL ret hh ws rm mc ms n) (hp : PreV s H C b Pc As)
    (hg : g.method = m) (hn : As.length = n) (hsize : g.locals.size = nL) (hstack : g.stack = As.reverse ++ .ref b :: rest) (hW : 2 * g.monitorRoom + (rest.map fun v => v.category).sum ≤ 8) (hdg : decode cc g.pc = .ok (.invokevirtual index, 3)) (hf : cells + mc ≤ R.cells ∧ slots + ms ≤ R.slots) :
    vx_Run p l e R s m args below meth c H locs cells slots mc ms g rest (Qc (Value.ref b :: As).toArray) XC free := by
  obtain ⟨⟨hrc, hrs, hfr, hlo, hws, hcw⟩, hcode, hini, hy, hlen, hl, hin, hse⟩ := cw
  have hK : vx_Back l R p e below s args y 3 8 (PreOf R mc ms Pc) (PostOf Qc mc ms free) (vx_Post XC mc ms free) := vx_backW (hh := hh) (bytes := bytes) (maxL := maxL) (ret := ret) hM hp.1 hrc hrs hfr hlo hws hcw (fun a' U hW => word_at hW (Or.inl (by first | rfl | simp [Cond.onTables, Cond.keeps, Cond.steady])) hini)
  obtain ⟨hx, hb, hml, ho, -⟩ := S
  obtain ⟨-, ⟨cellB, hcB, hoB, hclB⟩, hPc⟩ := hp
  intro T hT X
  rcases vx_callVX X hx (C := C) (hh := hh) (bytes := bytes) (maxL := maxL) (ret := ret) ho hl hin hse hcode hy hK (by rw [hT]; exact hcB) hoB hclB hg (hsize.trans hml.symm) (argsL := As) (rest := rest) (fun sig h => hn.trans (hlen sig h)) hstack hW (by rw [hb]; exact hdg)
    (fun vm₁ hW₁ => ⟨hf.1, hf.2, hPc (T.setVm vm₁) hT hW₁⟩) with ⟨v, vm₁, ⟨U', l2, c2, s2⟩, hW₁, X', ⟨g', mk, t, L, e1, e2, hq, h1, hL, h2, h3⟩, st⟩ | ⟨q, vm₁, ⟨U', l2, c2, s2⟩, hW₁, X', ⟨g', mk, t, L, E, ce, e1, e2, hq, hce, hcv, hcl, h1, hL, h2, h3⟩, st⟩
  · dsimp only [Pt.U, Pt.locs, Pt.cells, Pt.slots] at X' e1 e2 h1 h2 h3 st
    subst h1; subst h2; subst h3
    exact Or.inl ⟨v, (T.setVm vm₁).calling g' mk (Value.ref b :: As).toArray, t, U', L, hT, X', hL, e1, e2, hq, st⟩
  · dsimp only [Pt.U, Pt.locs, Pt.cells, Pt.slots] at X' e1 e2 h1 h2 h3 st hcl
    subst h1; subst h2; subst h3
    exact Or.inr ⟨q, (T.setVm vm₁).calling g' mk (Value.ref b :: As).toArray, t, U', L, E, ce, hT, X', hL, e1, e2, hq, hce, hcv, vx_cls hW₁ hcl, st⟩
theorem vx_runSX {hh : List (Nat × Nat × Nat × Nat)} (S : CallFix p m c cc nL s args Ts own) (hM : vx_Met l y ws rm Pc Qc XC mc ms free) (cw : vx_CSW R s args own index y bytes maxL ret hh ws rm mc ms n) (hp : PreS s H Pc As)
    (hg : g.method = m) (hn : As.length = n) (hsize : g.locals.size = nL) (hstack : g.stack = As.reverse ++ rest) (hW : 2 * g.monitorRoom + (rest.map fun v => v.category).sum ≤ 8) (hdg : decode cc g.pc = .ok (.invokestatic index, 3)) (hf : cells + mc ≤ R.cells ∧ slots + ms ≤ R.slots) :
    vx_Run p l e R s m args below meth c H locs cells slots mc ms g rest (Qc As.toArray) XC free := by
  obtain ⟨⟨hrc, hrs, hfr, hlo, hws, hcw⟩, hcode, hini, hy, hlen, hl, hstt⟩ := cw
  have hK : vx_Back l R p e below s args y 3 8 (PreOf R mc ms Pc) (PostOf Qc mc ms free) (vx_Post XC mc ms free) := vx_backW (hh := hh) (bytes := bytes) (maxL := maxL) (ret := ret) hM hp.1 hrc hrs hfr hlo hws hcw (fun a' U hW => word_at hW (Or.inl (by first | rfl | simp [Cond.onTables, Cond.keeps, Cond.steady])) hini)
  obtain ⟨hx, hb, hml, ho, -⟩ := S
  intro T hT X
  rcases vx_callSX X hx (hh := hh) (bytes := bytes) (maxL := maxL) (ret := ret) ho hl hstt hini hcode hy hK hg (hsize.trans hml.symm) (argsL := As) (rest := rest) (fun sig h => hn.trans (hlen sig h)) hstack hW (by rw [hb]; exact hdg)
    (fun vm₁ hW₁ => ⟨hf.1, hf.2, hp.2 (T.setVm vm₁) hT hW₁⟩) with ⟨v, vm₁, ⟨U', l2, c2, s2⟩, hW₁, X', ⟨g', mk, t, L, e1, e2, hq, h1, hL, h2, h3⟩, st⟩ | ⟨q, vm₁, ⟨U', l2, c2, s2⟩, hW₁, X', ⟨g', mk, t, L, E, ce, e1, e2, hq, hce, hcv, hcl, h1, hL, h2, h3⟩, st⟩
  · dsimp only [Pt.U, Pt.locs, Pt.cells, Pt.slots] at X' e1 e2 h1 h2 h3 st
    subst h1; subst h2; subst h3
    exact Or.inl ⟨v, (T.setVm vm₁).calling g' mk As.toArray, t, U', L, hT, X', hL, e1, e2, hq, st⟩
  · dsimp only [Pt.U, Pt.locs, Pt.cells, Pt.slots] at X' e1 e2 h1 h2 h3 st hcl
    subst h1; subst h2; subst h3
    exact Or.inr ⟨q, (T.setVm vm₁).calling g' mk As.toArray, t, U', L, E, ce, hT, X', hL, e1, e2, hq, hce, hcv, vx_cls hW₁ hcl, st⟩
end
end VXH
theorem vx_ofWH {l : Launch} {y : MethodName} {ws ws' : List Cond} {rm : Room} {Pc : Array Value → State → Prop} {Qc : Array Value → State → Outcome → State → Prop} {XC : String → State → State → Prop} {mc ms : Nat} {free : Addr → Prop} {cc : ByteArray} {maxL : Nat} {ret : Option FieldType} {hh : List (Nat × Nat × Nat × Nat)}
    (hy : plainName y.cls = true) (hw : ws = Cond.codeWith y cc maxL ret hh :: ws')
    (body : ∀ p e s m args below meth c s₁, BodyLoose p l y (headSpec ws rm) cc maxL ret e s m args below meth c s₁ → c.maxLocals = maxL → Pc args s →
      W p l e (headSpec ws rm).room s m args below meth c s.heap [] 0 0 (vx_MQ below Qc XC args s mc ms free) (entryFrame m args maxL)) : vx_Met l y ws rm Pc Qc XC mc ms free := by
  refine MetFree.of_bodyS (code := cc) (maxLocals := maxL) (ret := ret) hy ?_ ?_
  · intro args s m h hn
    obtain ⟨m9, meth, c, hn9, h1, h2, h3, h4, -, h5, h6, -⟩ := Cond.codeWith_spec (atoms_spec (ws := ws) h _ (by rw [hw]; exact List.mem_cons_self))
    cases hn.symm.trans hn9
    exact ⟨meth, c, h1, h2, h3, h4, h5, h6⟩
  · intro p e s m args below meth c s₁ B hml hP _
    have hh0 : s₁.heap = s.heap := by rw [B.state]; rfl
    obtain ⟨t, a1, o, b1, b2, b3⟩ := body p e s m args below meth c s₁ B hml hP s₁ hh0 (Stand.of_body B)
    exact ⟨t, o, a1, b1, b2, b3⟩
/-! ===== END ===== -/
end
section
def RX0 : String := "GemCut$Flaw"
def TX0 : u_T := fun k => match k with
  | 0 => ("GemCut$Flaw", "severity", "I", false)
  | 1 => ("GemCut$Flaw", "cells", "[I", true)
  | 2 => ("GemCut$Flaw", "cellCount", "I", false)
  | 3 => ("GemCut$Flaw", "cellsIn", "[I", true)
  | _ => ("GemCut$Flaw", "bareIn", "[I", true)
def tyX0 : Nat → FieldType := fun k => match k with
  | 0 => .int
  | 1 => .array .int
  | 2 => .int
  | 3 => .array .int
  | _ => .array .int
abbrev wsX00 : List Cond := u_ws RX0 TX0 5
theorem nmX0 : ∀ a, a < 5 → ∀ b, b < 5 → a ≠ b → (TX0 a).2.1 ≠ (TX0 b).2.1 := by decide +kernel
theorem tyX0_ok : ∀ k, k < 5 → parseFieldDescriptor (TX0 k).2.2.1 = some (tyX0 k) := by decide +kernel
abbrev cX0_init : ByteArray := prog_2_method_1_code
def yX0_init : MethodName := ⟨RX0, "<init>", "()V"⟩
abbrev cX0_begin : ByteArray := prog_2_method_2_code
def yX0_begin : MethodName := ⟨RX0, "begin", "(I)V"⟩
abbrev cX0_addCell : ByteArray := prog_2_method_3_code
def yX0_addCell : MethodName := ⟨RX0, "addCell", "(I)V"⟩
abbrev cX0_survey : ByteArray := prog_2_method_4_code
def yX0_survey : MethodName := ⟨RX0, "survey", "(LGemCut$Rough;)V"⟩
abbrev cX0_stateIn : ByteArray := prog_2_method_5_code
def yX0_stateIn : MethodName := ⟨RX0, "stateIn", "(I)I"⟩
abbrev cX0_pointsIf : ByteArray := prog_2_method_6_code
def yX0_pointsIf : MethodName := ⟨RX0, "pointsIf", "(I)I"⟩
def RX1 : String := "GemCut$Plane"
def TX1 : u_T := fun k => match k with
  | 0 => ("GemCut$Plane", "p", "I", false)
  | 1 => ("GemCut$Plane", "q", "I", false)
  | 2 => ("GemCut$Plane", "r", "I", false)
  | 3 => ("GemCut$Plane", "d", "I", false)
  | 4 => ("GemCut$Plane", "reach", "I", false)
  | 5 => ("GemCut$Plane", "polished", "Z", false)
  | _ => ("GemCut$Plane", "touching", "I", false)
def tyX1 : Nat → FieldType := fun k => match k with
  | 0 => .int
  | 1 => .int
  | 2 => .int
  | 3 => .int
  | 4 => .int
  | 5 => .boolean
  | _ => .int
abbrev wsX10 : List Cond := u_ws RX1 TX1 7
theorem nmX1 : ∀ a, a < 7 → ∀ b, b < 7 → a ≠ b → (TX1 a).2.1 ≠ (TX1 b).2.1 := by decide +kernel
theorem tyX1_ok : ∀ k, k < 7 → parseFieldDescriptor (TX1 k).2.2.1 = some (tyX1 k) := by decide +kernel
abbrev cX1_init : ByteArray := prog_3_method_1_code
def yX1_init : MethodName := ⟨RX1, "<init>", "()V"⟩
abbrev cX1_set : ByteArray := prog_3_method_2_code
def yX1_set : MethodName := ⟨RX1, "set", "(IIII)V"⟩
abbrev cX1_heightOf : ByteArray := prog_3_method_3_code
def yX1_heightOf : MethodName := ⟨RX1, "heightOf", "(III)I"⟩
abbrev cX1_touches : ByteArray := prog_3_method_4_code
def yX1_touches : MethodName := ⟨RX1, "touches", "(III)Z"⟩
abbrev cX1_isFacet : ByteArray := prog_3_method_5_code
def yX1_isFacet : MethodName := ⟨RX1, "isFacet", "()Z"⟩
abbrev cX1_isOpposite : ByteArray := prog_3_method_8_code
def yX1_isOpposite : MethodName := ⟨RX1, "isOpposite", "(LGemCut$Plane;)Z"⟩
abbrev cX1_tell : ByteArray := prog_3_method_9_code
def yX1_tell : MethodName := ⟨RX1, "tell", "(I)I"⟩
def RX2 : String := "GemCut$Rough"
def TX2 : u_T := fun k => match k with
  | 0 => ("GemCut$Rough", "columns", "I", false)
  | 1 => ("GemCut$Rough", "rows", "I", false)
  | 2 => ("GemCut$Rough", "layers", "I", false)
  | 3 => ("GemCut$Rough", "owner", "[I", true)
  | 4 => ("GemCut$Rough", "bare", "[Z", true)
  | 5 => ("GemCut$Rough", "flaws", "[LGemCut$Flaw;", true)
  | _ => ("GemCut$Rough", "flawCount", "I", false)
def tyX2 : Nat → FieldType := fun k => match k with
  | 0 => .int
  | 1 => .int
  | 2 => .int
  | 3 => .array .int
  | 4 => .array .boolean
  | 5 => .array (.object "GemCut$Flaw")
  | _ => .int
abbrev wsX20 : List Cond := u_ws RX2 TX2 7
theorem nmX2 : ∀ a, a < 7 → ∀ b, b < 7 → a ≠ b → (TX2 a).2.1 ≠ (TX2 b).2.1 := by decide +kernel
theorem tyX2_ok : ∀ k, k < 7 → parseFieldDescriptor (TX2 k).2.2.1 = some (tyX2 k) := by decide +kernel
abbrev cX2_init : ByteArray := prog_4_method_1_code
def yX2_init : MethodName := ⟨RX2, "<init>", "()V"⟩
abbrev cX2_begin : ByteArray := prog_4_method_2_code
def yX2_begin : MethodName := ⟨RX2, "begin", "(III)V"⟩
abbrev cX2_size : ByteArray := prog_4_method_3_code
def yX2_size : MethodName := ⟨RX2, "size", "()I"⟩
abbrev cX2_holds : ByteArray := prog_4_method_4_code
def yX2_holds : MethodName := ⟨RX2, "holds", "(III)Z"⟩
abbrev cX2_indexOf : ByteArray := prog_4_method_5_code
def yX2_indexOf : MethodName := ⟨RX2, "indexOf", "(III)I"⟩
abbrev cX2_ownerAt : ByteArray := prog_4_method_6_code
def yX2_ownerAt : MethodName := ⟨RX2, "ownerAt", "(III)I"⟩
abbrev cX2_isBare : ByteArray := prog_4_method_7_code
def yX2_isBare : MethodName := ⟨RX2, "isBare", "(IIII)Z"⟩
abbrev cX2_addFlaw : ByteArray := prog_4_method_8_code
def yX2_addFlaw : MethodName := ⟨RX2, "addFlaw", "(IIIII)V"⟩
def RX3 : String := "GemCut$Stone"
def TX3 : u_T := fun k => match k with
  | 0 => ("GemCut$Stone", "number", "I", true)
  | 1 => ("GemCut$Stone", "planes", "[LGemCut$Plane;", true)
  | 2 => ("GemCut$Stone", "planeCount", "I", false)
  | 3 => ("GemCut$Stone", "weight", "I", false)
  | _ => ("GemCut$Stone", "bareCells", "I", false)
def tyX3 : Nat → FieldType := fun k => match k with
  | 0 => .int
  | 1 => .array (.object "GemCut$Plane")
  | 2 => .int
  | 3 => .int
  | _ => .int
abbrev wsX30 : List Cond := u_ws RX3 TX3 5
theorem nmX3 : ∀ a, a < 5 → ∀ b, b < 5 → a ≠ b → (TX3 a).2.1 ≠ (TX3 b).2.1 := by decide +kernel
theorem tyX3_ok : ∀ k, k < 5 → parseFieldDescriptor (TX3 k).2.2.1 = some (tyX3 k) := by decide +kernel
abbrev cX3_init : ByteArray := prog_5_method_1_code
def yX3_init : MethodName := ⟨RX3, "<init>", "(I)V"⟩
abbrev cX3_dropPlanes : ByteArray := prog_5_method_2_code
def yX3_dropPlanes : MethodName := ⟨RX3, "dropPlanes", "()V"⟩
abbrev cX3_forgetCells : ByteArray := prog_5_method_3_code
def yX3_forgetCells : MethodName := ⟨RX3, "forgetCells", "()V"⟩
abbrev cX3_countCell : ByteArray := prog_5_method_4_code
def yX3_countCell : MethodName := ⟨RX3, "countCell", "(IIIZ)V"⟩
abbrev cX3_keep : ByteArray := prog_5_method_5_code
def yX3_keep : MethodName := ⟨RX3, "keep", "(IIII)V"⟩
abbrev cX3_facets : ByteArray := prog_5_method_6_code
def yX3_facets : MethodName := ⟨RX3, "facets", "(Z)I"⟩
abbrev cX3_oppositePairs : ByteArray := prog_5_method_7_code
def yX3_oppositePairs : MethodName := ⟨RX3, "oppositePairs", "()I"⟩
def RX4 : String := "GemCut$Trial"
def TX4 : u_T := fun k => match k with
  | 0 => ("GemCut$Trial", "rough", "LGemCut$Rough;", true)
  | 1 => ("GemCut$Trial", "piece", "LGemCut$Stone;", false)
  | 2 => ("GemCut$Trial", "tried", "LGemCut$Plane;", true)
  | 3 => ("GemCut$Trial", "heights", "[I", true)
  | 4 => ("GemCut$Trial", "upTo", "[I", true)
  | _ => ("GemCut$Trial", "floors", "[I", true)
def tyX4 : Nat → FieldType := fun k => match k with
  | 0 => .object "GemCut$Rough"
  | 1 => .object "GemCut$Stone"
  | 2 => .object "GemCut$Plane"
  | 3 => .array .int
  | 4 => .array .int
  | _ => .array .int
abbrev wsX40 : List Cond := u_ws RX4 TX4 6
theorem nmX4 : ∀ a, a < 6 → ∀ b, b < 6 → a ≠ b → (TX4 a).2.1 ≠ (TX4 b).2.1 := by decide +kernel
theorem tyX4_ok : ∀ k, k < 6 → parseFieldDescriptor (TX4 k).2.2.1 = some (tyX4 k) := by decide +kernel
abbrev cX4_init : ByteArray := prog_6_method_1_code
def yX4_init : MethodName := ⟨RX4, "<init>", "(LGemCut$Rough;LGemCut$Stone;)V"⟩
abbrev cX4_level : ByteArray := prog_6_method_2_code
def yX4_level : MethodName := ⟨RX4, "level", "(LGemCut$Stone;III)V"⟩
abbrev cX4_levelCell : ByteArray := prog_6_method_3_code
def yX4_levelCell : MethodName := ⟨RX4, "levelCell", "(II)V"⟩
abbrev cX4_aim : ByteArray := prog_6_method_4_code
def yX4_aim : MethodName := ⟨RX4, "aim", "(LGemCut$Stone;III)V"⟩
abbrev cX4_lowerFloors : ByteArray := prog_6_method_5_code
def yX4_lowerFloors : MethodName := ⟨RX4, "lowerFloors", "(IIII)V"⟩
abbrev cX4_weightAt : ByteArray := prog_6_method_6_code
def yX4_weightAt : MethodName := ⟨RX4, "weightAt", "(I)I"⟩
abbrev cX4_lossAt : ByteArray := prog_6_method_7_code
def yX4_lossAt : MethodName := ⟨RX4, "lossAt", "(I)I"⟩
abbrev cX4_giveAbove : ByteArray := prog_6_method_8_code
def yX4_giveAbove : MethodName := ⟨RX4, "giveAbove", "(II)V"⟩
abbrev cX4_wouldBeFacet : ByteArray := prog_6_method_9_code
def yX4_wouldBeFacet : MethodName := ⟨RX4, "wouldBeFacet", "(I)Z"⟩
abbrev cX4_pairsAt : ByteArray := prog_6_method_10_code
def yX4_pairsAt : MethodName := ⟨RX4, "pairsAt", "(I)I"⟩
abbrev cX4_laterOpposites : ByteArray := prog_6_method_11_code
def yX4_laterOpposites : MethodName := ⟨RX4, "laterOpposites", "(II)I"⟩
abbrev cX4_polishedAt : ByteArray := prog_6_method_12_code
def yX4_polishedAt : MethodName := ⟨RX4, "polishedAt", "(I)I"⟩
abbrev cX4_stateAt : ByteArray := prog_6_method_13_code
def yX4_stateAt : MethodName := ⟨RX4, "stateAt", "(LGemCut$Flaw;I)I"⟩
abbrev cX4_openFlawsAt : ByteArray := prog_6_method_14_code
def yX4_openFlawsAt : MethodName := ⟨RX4, "openFlawsAt", "(I)I"⟩
abbrev cX4_worthAt : ByteArray := prog_6_method_15_code
def yX4_worthAt : MethodName := ⟨RX4, "worthAt", "(I)I"⟩
abbrev cX4_isWithin : ByteArray := prog_6_method_16_code
def yX4_isWithin : MethodName := ⟨RX4, "isWithin", "(I)Z"⟩
abbrev cX4_bestDepth : ByteArray := prog_6_method_17_code
def yX4_bestDepth : MethodName := ⟨RX4, "bestDepth", "()I"⟩
abbrev cX4_leastLoss : ByteArray := prog_6_method_18_code
def yX4_leastLoss : MethodName := ⟨RX4, "leastLoss", "(LGemCut$Stone;LGemCut$Flaw;I)I"⟩
abbrev cX4_lowestOf : ByteArray := prog_6_method_19_code
def yX4_lowestOf : MethodName := ⟨RX4, "lowestOf", "(LGemCut$Flaw;)I"⟩
def RX5 : String := "GemCut"
def TX5 : u_T := fun k => match k with
  | 0 => ("GemCut", "rough", "LGemCut$Rough;", true)
  | 1 => ("GemCut", "stones", "[LGemCut$Stone;", true)
  | 2 => ("GemCut", "trial", "LGemCut$Trial;", true)
  | 3 => ("GemCut", "stoneCount", "I", false)
  | 4 => ("GemCut", "turns", "I", false)
  | _ => ("GemCut", "spent", "I", false)
def tyX5 : Nat → FieldType := fun k => match k with
  | 0 => .object "GemCut$Rough"
  | 1 => .array (.object "GemCut$Stone")
  | 2 => .object "GemCut$Trial"
  | 3 => .int
  | 4 => .int
  | _ => .int
abbrev wsX50 : List Cond := u_ws RX5 TX5 6
theorem nmX5 : ∀ a, a < 6 → ∀ b, b < 6 → a ≠ b → (TX5 a).2.1 ≠ (TX5 b).2.1 := by decide +kernel
theorem tyX5_ok : ∀ k, k < 6 → parseFieldDescriptor (TX5 k).2.2.1 = some (tyX5 k) := by decide +kernel
abbrev cX5_init : ByteArray := prog_1_method_1_code
def yX5_init : MethodName := ⟨RX5, "<init>", "()V"⟩
abbrev cX5_take : ByteArray := prog_1_method_2_code
def yX5_take : MethodName := ⟨RX5, "take", "(III)I"⟩
abbrev cX5_flaw : ByteArray := prog_1_method_3_code
def yX5_flaw : MethodName := ⟨RX5, "flaw", "(IIIII)I"⟩
abbrev cX5_cell : ByteArray := prog_1_method_4_code
def yX5_cell : MethodName := ⟨RX5, "cell", "(III)I"⟩
abbrev cX5_flawIn : ByteArray := prog_1_method_5_code
def yX5_flawIn : MethodName := ⟨RX5, "flawIn", "(III)I"⟩
abbrev cX5_saw : ByteArray := prog_1_method_6_code
def yX5_saw : MethodName := ⟨RX5, "saw", "(IIIII)I"⟩
abbrev cX5_cut : ByteArray := prog_1_method_7_code
def yX5_cut : MethodName := ⟨RX5, "cut", "(IIIII)I"⟩
abbrev cX5_polish : ByteArray := prog_1_method_8_code
def yX5_polish : MethodName := ⟨RX5, "polish", "(II)I"⟩
abbrev cX5_dress : ByteArray := prog_1_method_9_code
def yX5_dress : MethodName := ⟨RX5, "dress", "()I"⟩
abbrev cX5_stone : ByteArray := prog_1_method_10_code
def yX5_stone : MethodName := ⟨RX5, "stone", "(II)I"⟩
abbrev cX5_plane : ByteArray := prog_1_method_11_code
def yX5_plane : MethodName := ⟨RX5, "plane", "(III)I"⟩
abbrev cX5_count : ByteArray := prog_1_method_13_code
def yX5_count : MethodName := ⟨RX5, "count", "(I)I"⟩
abbrev cX5_would : ByteArray := prog_1_method_14_code
def yX5_would : MethodName := ⟨RX5, "would", "(IIIIII)I"⟩
abbrev cX5_depth : ByteArray := prog_1_method_15_code
def yX5_depth : MethodName := ⟨RX5, "depth", "(IIII)I"⟩
abbrev cX5_rid : ByteArray := prog_1_method_16_code
def yX5_rid : MethodName := ⟨RX5, "rid", "(III)I"⟩
abbrev cX5_kept : ByteArray := prog_1_method_17_code
def yX5_kept : MethodName := ⟨RX5, "kept", "()D"⟩
abbrev cX5_isSide : ByteArray := prog_1_method_19_code
def yX5_isSide : MethodName := ⟨RX5, "isSide", "(I)Z"⟩
abbrev cX5_wantCell : ByteArray := prog_1_method_20_code
def yX5_wantCell : MethodName := ⟨RX5, "wantCell", "(III)V"⟩
abbrev cX5_wantFlaw : ByteArray := prog_1_method_21_code
def yX5_wantFlaw : MethodName := ⟨RX5, "wantFlaw", "(I)V"⟩
abbrev cX5_wantStone : ByteArray := prog_1_method_22_code
def yX5_wantStone : MethodName := ⟨RX5, "wantStone", "(I)V"⟩
abbrev cX5_wantPlane : ByteArray := prog_1_method_23_code
def yX5_wantPlane : MethodName := ⟨RX5, "wantPlane", "(II)V"⟩
abbrev cX5_wantWhat : ByteArray := prog_1_method_24_code
def yX5_wantWhat : MethodName := ⟨RX5, "wantWhat", "(II)V"⟩
abbrev cX5_wantSlope : ByteArray := prog_1_method_25_code
def yX5_wantSlope : MethodName := ⟨RX5, "wantSlope", "(III)V"⟩
abbrev cX5_isSteepness : ByteArray := prog_1_method_26_code
def yX5_isSteepness : MethodName := ⟨RX5, "isSteepness", "(I)Z"⟩
abbrev cX5_wantDepth : ByteArray := prog_1_method_27_code
def yX5_wantDepth : MethodName := ⟨RX5, "wantDepth", "(I)V"⟩
abbrev cX5_beginRough : ByteArray := prog_1_method_28_code
def yX5_beginRough : MethodName := ⟨RX5, "beginRough", "(III)V"⟩
abbrev cX5_spend : ByteArray := prog_1_method_29_code
def yX5_spend : MethodName := ⟨RX5, "spend", "(I)V"⟩
abbrev cX5_survey : ByteArray := prog_1_method_30_code
def yX5_survey : MethodName := ⟨RX5, "survey", "()V"⟩
abbrev cX5_surveyCell : ByteArray := prog_1_method_31_code
def yX5_surveyCell : MethodName := ⟨RX5, "surveyCell", "(IIII)V"⟩
abbrev cX5_tellOfFlaw : ByteArray := prog_1_method_32_code
def yX5_tellOfFlaw : MethodName := ⟨RX5, "tellOfFlaw", "(III)I"⟩
abbrev cX5_tellOfStone : ByteArray := prog_1_method_33_code
def yX5_tellOfStone : MethodName := ⟨RX5, "tellOfStone", "(LGemCut$Stone;I)I"⟩
abbrev cX5_tellCount : ByteArray := prog_1_method_34_code
def yX5_tellCount : MethodName := ⟨RX5, "tellCount", "(I)I"⟩
abbrev cX5_flawsOfState : ByteArray := prog_1_method_35_code
def yX5_flawsOfState : MethodName := ⟨RX5, "flawsOfState", "(II)I"⟩
abbrev cX5_worthOf : ByteArray := prog_1_method_36_code
def yX5_worthOf : MethodName := ⟨RX5, "worthOf", "(LGemCut$Stone;)I"⟩
abbrev cX5_worthBy : ByteArray := prog_1_method_37_code
def yX5_worthBy : MethodName := ⟨RX5, "worthBy", "(IIII)I"⟩
abbrev cX5_cellsOfStones : ByteArray := prog_1_method_38_code
def yX5_cellsOfStones : MethodName := ⟨RX5, "cellsOfStones", "()I"⟩
abbrev cX5_stonesLeft : ByteArray := prog_1_method_39_code
def yX5_stonesLeft : MethodName := ⟨RX5, "stonesLeft", "()I"⟩
abbrev cX5_worthOfStones : ByteArray := prog_1_method_40_code
def yX5_worthOfStones : MethodName := ⟨RX5, "worthOfStones", "()I"⟩
def RX6 : String := "GemCutLaw$Sim"
def TX6 : u_T := fun k => match k with
  | 0 => ("GemCutLaw$Sim", "rough", "[[[I", false)
  | 1 => ("GemCutLaw$Sim", "flaws", "[[I", false)
  | 2 => ("GemCutLaw$Sim", "planes", "[[[I", false)
  | 3 => ("GemCutLaw$Sim", "wheel", "I", false)
  | _ => ("GemCutLaw$Sim", "spent", "I", false)
def tyX6 : Nat → FieldType := fun k => match k with
  | 0 => .array (.array (.array .int))
  | 1 => .array (.array .int)
  | 2 => .array (.array (.array .int))
  | 3 => .int
  | _ => .int
abbrev wsX60 : List Cond := u_ws RX6 TX6 5
theorem nmX6 : ∀ a, a < 5 → ∀ b, b < 5 → a ≠ b → (TX6 a).2.1 ≠ (TX6 b).2.1 := by decide +kernel
theorem tyX6_ok : ∀ k, k < 5 → parseFieldDescriptor (TX6 k).2.2.1 = some (tyX6 k) := by decide +kernel
abbrev cX6_init : ByteArray := prog_8_method_1_code
def yX6_init : MethodName := ⟨RX6, "<init>", "(III)V"⟩
abbrev cX6_more : ByteArray := prog_8_method_2_code
def yX6_more : MethodName := ⟨RX6, "more", "([[I[I)[[I"⟩
def RX7 : String := "GemCutModel"
def TX7 : u_T := fun k => match k with
  | _ => ("", "", "", false)
def tyX7 : Nat → FieldType := fun k => match k with
  | _ => .int
abbrev wsX70 : List Cond := u_ws RX7 TX7 0
theorem nmX7 : ∀ a, a < 0 → ∀ b, b < 0 → a ≠ b → (TX7 a).2.1 ≠ (TX7 b).2.1 := by decide +kernel
theorem tyX7_ok : ∀ k, k < 0 → parseFieldDescriptor (TX7 k).2.2.1 = some (tyX7 k) := by decide +kernel
def RL : String := "GemCutLaw"
abbrev cL_below : ByteArray := method_2_code
def yL_below : MethodName := ⟨RL, "below", "(II)I"⟩
abbrev cL_cell : ByteArray := method_3_code
def yL_cell : MethodName := ⟨RL, "cell", "([II)I"⟩
abbrev cL_plane : ByteArray := method_4_code
def yL_plane : MethodName := ⟨RL, "plane", "(II)[I"⟩
abbrev cL_build : ByteArray := method_5_code
def yL_build : MethodName := ⟨RL, "build", "(LGemCut;[II)LGemCutLaw$Sim;"⟩
abbrev cL_law : ByteArray := code
def yL_law : MethodName := ⟨RL, "law", "([I)Z"⟩
theorem dX0_init_0 : decode cX0_init 0 = .ok (.aload_n 0, 1) := by decide +kernel
theorem dX0_init_1 : decode cX0_init 1 = .ok (.invokespecial 3, 3) := by decide +kernel
theorem dX0_init_4 : decode cX0_init 4 = .ok (.aload_n 0, 1) := by decide +kernel
theorem dX0_init_5 : decode cX0_init 5 = .ok (.bipush 63, 2) := by decide +kernel
theorem dX0_init_7 : decode cX0_init 7 = .ok (.newarray .int, 2) := by decide +kernel
theorem dX0_init_9 : decode cX0_init 9 = .ok (.putfield 9, 3) := by decide +kernel
theorem dX0_init_12 : decode cX0_init 12 = .ok (.aload_n 0, 1) := by decide +kernel
theorem dX0_init_13 : decode cX0_init 13 = .ok (.bipush 8, 2) := by decide +kernel
theorem dX0_init_15 : decode cX0_init 15 = .ok (.newarray .int, 2) := by decide +kernel
theorem dX0_init_17 : decode cX0_init 17 = .ok (.putfield 15, 3) := by decide +kernel
theorem dX0_init_20 : decode cX0_init 20 = .ok (.aload_n 0, 1) := by decide +kernel
theorem dX0_init_21 : decode cX0_init 21 = .ok (.bipush 8, 2) := by decide +kernel
theorem dX0_init_23 : decode cX0_init 23 = .ok (.newarray .int, 2) := by decide +kernel
theorem dX0_init_25 : decode cX0_init 25 = .ok (.putfield 18, 3) := by decide +kernel
theorem dX0_init_28 : decode cX0_init 28 = .ok (.return_, 1) := by decide +kernel
theorem dX0_begin_0 : decode cX0_begin 0 = .ok (.aload_n 0, 1) := by decide +kernel
theorem dX0_begin_1 : decode cX0_begin 1 = .ok (.iload_n 1, 1) := by decide +kernel
theorem dX0_begin_2 : decode cX0_begin 2 = .ok (.putfield 21, 3) := by decide +kernel
theorem dX0_begin_5 : decode cX0_begin 5 = .ok (.aload_n 0, 1) := by decide +kernel
theorem dX0_begin_6 : decode cX0_begin 6 = .ok (.iconst 0, 1) := by decide +kernel
theorem dX0_begin_7 : decode cX0_begin 7 = .ok (.putfield 25, 3) := by decide +kernel
theorem dX0_begin_10 : decode cX0_begin 10 = .ok (.return_, 1) := by decide +kernel
theorem dX0_addCell_0 : decode cX0_addCell 0 = .ok (.aload_n 0, 1) := by decide +kernel
theorem dX0_addCell_1 : decode cX0_addCell 1 = .ok (.getfield 25, 3) := by decide +kernel
theorem dX0_addCell_4 : decode cX0_addCell 4 = .ok (.bipush 63, 2) := by decide +kernel
theorem dX0_addCell_6 : decode cX0_addCell 6 = .ok (.if_icmp .ge 23, 3) := by decide +kernel
theorem dX0_addCell_9 : decode cX0_addCell 9 = .ok (.aload_n 0, 1) := by decide +kernel
theorem dX0_addCell_10 : decode cX0_addCell 10 = .ok (.getfield 9, 3) := by decide +kernel
theorem dX0_addCell_13 : decode cX0_addCell 13 = .ok (.aload_n 0, 1) := by decide +kernel
theorem dX0_addCell_14 : decode cX0_addCell 14 = .ok (.getfield 25, 3) := by decide +kernel
theorem dX0_addCell_17 : decode cX0_addCell 17 = .ok (.iload_n 1, 1) := by decide +kernel
theorem dX0_addCell_18 : decode cX0_addCell 18 = .ok (.iastore, 1) := by decide +kernel
theorem dX0_addCell_19 : decode cX0_addCell 19 = .ok (.aload_n 0, 1) := by decide +kernel
theorem dX0_addCell_20 : decode cX0_addCell 20 = .ok (.dup, 1) := by decide +kernel
theorem dX0_addCell_21 : decode cX0_addCell 21 = .ok (.getfield 25, 3) := by decide +kernel
theorem dX0_addCell_24 : decode cX0_addCell 24 = .ok (.iconst 1, 1) := by decide +kernel
theorem dX0_addCell_25 : decode cX0_addCell 25 = .ok (.iadd, 1) := by decide +kernel
theorem dX0_addCell_26 : decode cX0_addCell 26 = .ok (.putfield 25, 3) := by decide +kernel
theorem dX0_addCell_29 : decode cX0_addCell 29 = .ok (.return_, 1) := by decide +kernel
theorem dX0_survey_0 : decode cX0_survey 0 = .ok (.iconst 0, 1) := by decide +kernel
theorem dX0_survey_1 : decode cX0_survey 1 = .ok (.istore_n 2, 1) := by decide +kernel
theorem dX0_survey_2 : decode cX0_survey 2 = .ok (.iload_n 2, 1) := by decide +kernel
theorem dX0_survey_3 : decode cX0_survey 3 = .ok (.bipush 8, 2) := by decide +kernel
theorem dX0_survey_5 : decode cX0_survey 5 = .ok (.if_icmp .ge 23, 3) := by decide +kernel
theorem dX0_survey_8 : decode cX0_survey 8 = .ok (.aload_n 0, 1) := by decide +kernel
theorem dX0_survey_9 : decode cX0_survey 9 = .ok (.getfield 15, 3) := by decide +kernel
theorem dX0_survey_12 : decode cX0_survey 12 = .ok (.iload_n 2, 1) := by decide +kernel
theorem dX0_survey_13 : decode cX0_survey 13 = .ok (.iconst 0, 1) := by decide +kernel
theorem dX0_survey_14 : decode cX0_survey 14 = .ok (.iastore, 1) := by decide +kernel
theorem dX0_survey_15 : decode cX0_survey 15 = .ok (.aload_n 0, 1) := by decide +kernel
theorem dX0_survey_16 : decode cX0_survey 16 = .ok (.getfield 18, 3) := by decide +kernel
theorem dX0_survey_19 : decode cX0_survey 19 = .ok (.iload_n 2, 1) := by decide +kernel
theorem dX0_survey_20 : decode cX0_survey 20 = .ok (.iconst 0, 1) := by decide +kernel
theorem dX0_survey_21 : decode cX0_survey 21 = .ok (.iastore, 1) := by decide +kernel
theorem dX0_survey_22 : decode cX0_survey 22 = .ok (.iinc 2 1, 3) := by decide +kernel
theorem dX0_survey_25 : decode cX0_survey 25 = .ok (.goto (-23), 3) := by decide +kernel
theorem dX0_survey_28 : decode cX0_survey 28 = .ok (.iconst 0, 1) := by decide +kernel
theorem dX0_survey_29 : decode cX0_survey 29 = .ok (.istore_n 2, 1) := by decide +kernel
theorem dX0_survey_30 : decode cX0_survey 30 = .ok (.iload_n 2, 1) := by decide +kernel
theorem dX0_survey_31 : decode cX0_survey 31 = .ok (.aload_n 0, 1) := by decide +kernel
theorem dX0_survey_32 : decode cX0_survey 32 = .ok (.getfield 25, 3) := by decide +kernel
theorem dX0_survey_35 : decode cX0_survey 35 = .ok (.if_icmp .ge 71, 3) := by decide +kernel
theorem dX0_survey_38 : decode cX0_survey 38 = .ok (.aload_n 0, 1) := by decide +kernel
theorem dX0_survey_39 : decode cX0_survey 39 = .ok (.getfield 9, 3) := by decide +kernel
theorem dX0_survey_42 : decode cX0_survey 42 = .ok (.iload_n 2, 1) := by decide +kernel
theorem dX0_survey_43 : decode cX0_survey 43 = .ok (.iaload, 1) := by decide +kernel
theorem dX0_survey_44 : decode cX0_survey 44 = .ok (.istore_n 3, 1) := by decide +kernel
theorem dX0_survey_45 : decode cX0_survey 45 = .ok (.aload_n 1, 1) := by decide +kernel
theorem dX0_survey_46 : decode cX0_survey 46 = .ok (.getfield 28, 3) := by decide +kernel
theorem dX0_survey_49 : decode cX0_survey 49 = .ok (.iload_n 3, 1) := by decide +kernel
theorem dX0_survey_50 : decode cX0_survey 50 = .ok (.iaload, 1) := by decide +kernel
theorem dX0_survey_51 : decode cX0_survey 51 = .ok (.istore 4, 2) := by decide +kernel
theorem dX0_survey_53 : decode cX0_survey 53 = .ok (.iload 4, 2) := by decide +kernel
theorem dX0_survey_55 : decode cX0_survey 55 = .ok (.ifCond .lt 45, 3) := by decide +kernel
theorem dX0_survey_58 : decode cX0_survey 58 = .ok (.iload 4, 2) := by decide +kernel
theorem dX0_survey_60 : decode cX0_survey 60 = .ok (.bipush 8, 2) := by decide +kernel
theorem dX0_survey_62 : decode cX0_survey 62 = .ok (.if_icmp .ge 38, 3) := by decide +kernel
theorem dX0_survey_65 : decode cX0_survey 65 = .ok (.aload_n 0, 1) := by decide +kernel
theorem dX0_survey_66 : decode cX0_survey 66 = .ok (.getfield 15, 3) := by decide +kernel
theorem dX0_survey_69 : decode cX0_survey 69 = .ok (.iload 4, 2) := by decide +kernel
theorem dX0_survey_71 : decode cX0_survey 71 = .ok (.dup2, 1) := by decide +kernel
theorem dX0_survey_72 : decode cX0_survey 72 = .ok (.iaload, 1) := by decide +kernel
theorem dX0_survey_73 : decode cX0_survey 73 = .ok (.iconst 1, 1) := by decide +kernel
theorem dX0_survey_74 : decode cX0_survey 74 = .ok (.iadd, 1) := by decide +kernel
theorem dX0_survey_75 : decode cX0_survey 75 = .ok (.iastore, 1) := by decide +kernel
theorem dX0_survey_76 : decode cX0_survey 76 = .ok (.aload_n 0, 1) := by decide +kernel
theorem dX0_survey_77 : decode cX0_survey 77 = .ok (.getfield 18, 3) := by decide +kernel
theorem dX0_survey_80 : decode cX0_survey 80 = .ok (.iload 4, 2) := by decide +kernel
theorem dX0_survey_82 : decode cX0_survey 82 = .ok (.dup2, 1) := by decide +kernel
theorem dX0_survey_83 : decode cX0_survey 83 = .ok (.iaload, 1) := by decide +kernel
theorem dX0_survey_84 : decode cX0_survey 84 = .ok (.aload_n 1, 1) := by decide +kernel
theorem dX0_survey_85 : decode cX0_survey 85 = .ok (.getfield 33, 3) := by decide +kernel
theorem dX0_survey_88 : decode cX0_survey 88 = .ok (.iload_n 3, 1) := by decide +kernel
theorem dX0_survey_89 : decode cX0_survey 89 = .ok (.baload, 1) := by decide +kernel
theorem dX0_survey_90 : decode cX0_survey 90 = .ok (.ifCond .eq 7, 3) := by decide +kernel
theorem dX0_survey_93 : decode cX0_survey 93 = .ok (.iconst 1, 1) := by decide +kernel
theorem dX0_survey_94 : decode cX0_survey 94 = .ok (.goto 4, 3) := by decide +kernel
theorem dX0_survey_97 : decode cX0_survey 97 = .ok (.iconst 0, 1) := by decide +kernel
theorem dX0_survey_98 : decode cX0_survey 98 = .ok (.iadd, 1) := by decide +kernel
theorem dX0_survey_99 : decode cX0_survey 99 = .ok (.iastore, 1) := by decide +kernel
theorem dX0_survey_100 : decode cX0_survey 100 = .ok (.iinc 2 1, 3) := by decide +kernel
theorem dX0_survey_103 : decode cX0_survey 103 = .ok (.goto (-73), 3) := by decide +kernel
theorem dX0_survey_106 : decode cX0_survey 106 = .ok (.return_, 1) := by decide +kernel
theorem dX0_stateIn_0 : decode cX0_stateIn 0 = .ok (.aload_n 0, 1) := by decide +kernel
theorem dX0_stateIn_1 : decode cX0_stateIn 1 = .ok (.getfield 15, 3) := by decide +kernel
theorem dX0_stateIn_4 : decode cX0_stateIn 4 = .ok (.iload_n 1, 1) := by decide +kernel
theorem dX0_stateIn_5 : decode cX0_stateIn 5 = .ok (.iaload, 1) := by decide +kernel
theorem dX0_stateIn_6 : decode cX0_stateIn 6 = .ok (.ifCond .ne 5, 3) := by decide +kernel
theorem dX0_stateIn_9 : decode cX0_stateIn 9 = .ok (.iconst (-1), 1) := by decide +kernel
theorem dX0_stateIn_10 : decode cX0_stateIn 10 = .ok (.ireturn, 1) := by decide +kernel
theorem dX0_stateIn_11 : decode cX0_stateIn 11 = .ok (.aload_n 0, 1) := by decide +kernel
theorem dX0_stateIn_12 : decode cX0_stateIn 12 = .ok (.getfield 18, 3) := by decide +kernel
theorem dX0_stateIn_15 : decode cX0_stateIn 15 = .ok (.iload_n 1, 1) := by decide +kernel
theorem dX0_stateIn_16 : decode cX0_stateIn 16 = .ok (.iaload, 1) := by decide +kernel
theorem dX0_stateIn_17 : decode cX0_stateIn 17 = .ok (.ifCond .le 7, 3) := by decide +kernel
theorem dX0_stateIn_20 : decode cX0_stateIn 20 = .ok (.iconst 1, 1) := by decide +kernel
theorem dX0_stateIn_21 : decode cX0_stateIn 21 = .ok (.goto 4, 3) := by decide +kernel
theorem dX0_stateIn_24 : decode cX0_stateIn 24 = .ok (.iconst 0, 1) := by decide +kernel
theorem dX0_stateIn_25 : decode cX0_stateIn 25 = .ok (.ireturn, 1) := by decide +kernel
theorem dX0_pointsIf_0 : decode cX0_pointsIf 0 = .ok (.iload_n 1, 1) := by decide +kernel
theorem dX0_pointsIf_1 : decode cX0_pointsIf 1 = .ok (.lookupswitch 42 #[(0, 35), (1, 27)], 27) := by decide +kernel
theorem dX0_pointsIf_28 : decode cX0_pointsIf 28 = .ok (.bipush 6, 2) := by decide +kernel
theorem dX0_pointsIf_30 : decode cX0_pointsIf 30 = .ok (.aload_n 0, 1) := by decide +kernel
theorem dX0_pointsIf_31 : decode cX0_pointsIf 31 = .ok (.getfield 21, 3) := by decide +kernel
theorem dX0_pointsIf_34 : decode cX0_pointsIf 34 = .ok (.imul, 1) := by decide +kernel
theorem dX0_pointsIf_35 : decode cX0_pointsIf 35 = .ok (.ireturn, 1) := by decide +kernel
theorem dX0_pointsIf_36 : decode cX0_pointsIf 36 = .ok (.iconst 2, 1) := by decide +kernel
theorem dX0_pointsIf_37 : decode cX0_pointsIf 37 = .ok (.aload_n 0, 1) := by decide +kernel
theorem dX0_pointsIf_38 : decode cX0_pointsIf 38 = .ok (.getfield 21, 3) := by decide +kernel
theorem dX0_pointsIf_41 : decode cX0_pointsIf 41 = .ok (.imul, 1) := by decide +kernel
theorem dX0_pointsIf_42 : decode cX0_pointsIf 42 = .ok (.ireturn, 1) := by decide +kernel
theorem dX0_pointsIf_43 : decode cX0_pointsIf 43 = .ok (.iconst 0, 1) := by decide +kernel
theorem dX0_pointsIf_44 : decode cX0_pointsIf 44 = .ok (.ireturn, 1) := by decide +kernel
theorem dX1_init_0 : decode cX1_init 0 = .ok (.aload_n 0, 1) := by decide +kernel
theorem dX1_init_1 : decode cX1_init 1 = .ok (.invokespecial 1, 3) := by decide +kernel
theorem dX1_init_4 : decode cX1_init 4 = .ok (.return_, 1) := by decide +kernel
theorem dX1_set_0 : decode cX1_set 0 = .ok (.aload_n 0, 1) := by decide +kernel
theorem dX1_set_1 : decode cX1_set 1 = .ok (.iload_n 1, 1) := by decide +kernel
theorem dX1_set_2 : decode cX1_set 2 = .ok (.putfield 7, 3) := by decide +kernel
theorem dX1_set_5 : decode cX1_set 5 = .ok (.aload_n 0, 1) := by decide +kernel
theorem dX1_set_6 : decode cX1_set 6 = .ok (.iload_n 2, 1) := by decide +kernel
theorem dX1_set_7 : decode cX1_set 7 = .ok (.putfield 13, 3) := by decide +kernel
theorem dX1_set_10 : decode cX1_set 10 = .ok (.aload_n 0, 1) := by decide +kernel
theorem dX1_set_11 : decode cX1_set 11 = .ok (.iload_n 3, 1) := by decide +kernel
theorem dX1_set_12 : decode cX1_set 12 = .ok (.putfield 16, 3) := by decide +kernel
theorem dX1_set_15 : decode cX1_set 15 = .ok (.aload_n 0, 1) := by decide +kernel
theorem dX1_set_16 : decode cX1_set 16 = .ok (.iload 4, 2) := by decide +kernel
theorem dX1_set_18 : decode cX1_set 18 = .ok (.putfield 19, 3) := by decide +kernel
theorem dX1_set_21 : decode cX1_set 21 = .ok (.aload_n 0, 1) := by decide +kernel
theorem dX1_set_22 : decode cX1_set 22 = .ok (.aload_n 0, 1) := by decide +kernel
theorem dX1_set_23 : decode cX1_set 23 = .ok (.getfield 7, 3) := by decide +kernel
theorem dX1_set_26 : decode cX1_set 26 = .ok (.invokestatic 22, 3) := by decide +kernel
theorem dX1_set_29 : decode cX1_set 29 = .ok (.aload_n 0, 1) := by decide +kernel
theorem dX1_set_30 : decode cX1_set 30 = .ok (.getfield 13, 3) := by decide +kernel
theorem dX1_set_33 : decode cX1_set 33 = .ok (.invokestatic 22, 3) := by decide +kernel
theorem dX1_set_36 : decode cX1_set 36 = .ok (.aload_n 0, 1) := by decide +kernel
theorem dX1_set_37 : decode cX1_set 37 = .ok (.getfield 16, 3) := by decide +kernel
theorem dX1_set_40 : decode cX1_set 40 = .ok (.invokestatic 22, 3) := by decide +kernel
theorem dX1_set_43 : decode cX1_set 43 = .ok (.invokestatic 28, 3) := by decide +kernel
theorem dX1_set_46 : decode cX1_set 46 = .ok (.invokestatic 28, 3) := by decide +kernel
theorem dX1_set_49 : decode cX1_set 49 = .ok (.putfield 32, 3) := by decide +kernel
theorem dX1_set_52 : decode cX1_set 52 = .ok (.aload_n 0, 1) := by decide +kernel
theorem dX1_set_53 : decode cX1_set 53 = .ok (.iconst 0, 1) := by decide +kernel
theorem dX1_set_54 : decode cX1_set 54 = .ok (.putfield 35, 3) := by decide +kernel
theorem dX1_set_57 : decode cX1_set 57 = .ok (.aload_n 0, 1) := by decide +kernel
theorem dX1_set_58 : decode cX1_set 58 = .ok (.iconst 0, 1) := by decide +kernel
theorem dX1_set_59 : decode cX1_set 59 = .ok (.putfield 39, 3) := by decide +kernel
theorem dX1_set_62 : decode cX1_set 62 = .ok (.return_, 1) := by decide +kernel
theorem dX1_heightOf_0 : decode cX1_heightOf 0 = .ok (.aload_n 0, 1) := by decide +kernel
theorem dX1_heightOf_1 : decode cX1_heightOf 1 = .ok (.getfield 7, 3) := by decide +kernel
theorem dX1_heightOf_4 : decode cX1_heightOf 4 = .ok (.iload_n 1, 1) := by decide +kernel
theorem dX1_heightOf_5 : decode cX1_heightOf 5 = .ok (.imul, 1) := by decide +kernel
theorem dX1_heightOf_6 : decode cX1_heightOf 6 = .ok (.aload_n 0, 1) := by decide +kernel
theorem dX1_heightOf_7 : decode cX1_heightOf 7 = .ok (.getfield 13, 3) := by decide +kernel
theorem dX1_heightOf_10 : decode cX1_heightOf 10 = .ok (.iload_n 2, 1) := by decide +kernel
theorem dX1_heightOf_11 : decode cX1_heightOf 11 = .ok (.imul, 1) := by decide +kernel
theorem dX1_heightOf_12 : decode cX1_heightOf 12 = .ok (.iadd, 1) := by decide +kernel
theorem dX1_heightOf_13 : decode cX1_heightOf 13 = .ok (.aload_n 0, 1) := by decide +kernel
theorem dX1_heightOf_14 : decode cX1_heightOf 14 = .ok (.getfield 16, 3) := by decide +kernel
theorem dX1_heightOf_17 : decode cX1_heightOf 17 = .ok (.iload_n 3, 1) := by decide +kernel
theorem dX1_heightOf_18 : decode cX1_heightOf 18 = .ok (.imul, 1) := by decide +kernel
theorem dX1_heightOf_19 : decode cX1_heightOf 19 = .ok (.iadd, 1) := by decide +kernel
theorem dX1_heightOf_20 : decode cX1_heightOf 20 = .ok (.ireturn, 1) := by decide +kernel
theorem dX1_touches_0 : decode cX1_touches 0 = .ok (.aload_n 0, 1) := by decide +kernel
theorem dX1_touches_1 : decode cX1_touches 1 = .ok (.iload_n 1, 1) := by decide +kernel
theorem dX1_touches_2 : decode cX1_touches 2 = .ok (.iload_n 2, 1) := by decide +kernel
theorem dX1_touches_3 : decode cX1_touches 3 = .ok (.iload_n 3, 1) := by decide +kernel
theorem dX1_touches_4 : decode cX1_touches 4 = .ok (.invokevirtual 42, 3) := by decide +kernel
theorem dX1_touches_7 : decode cX1_touches 7 = .ok (.aload_n 0, 1) := by decide +kernel
theorem dX1_touches_8 : decode cX1_touches 8 = .ok (.getfield 32, 3) := by decide +kernel
theorem dX1_touches_11 : decode cX1_touches 11 = .ok (.iadd, 1) := by decide +kernel
theorem dX1_touches_12 : decode cX1_touches 12 = .ok (.aload_n 0, 1) := by decide +kernel
theorem dX1_touches_13 : decode cX1_touches 13 = .ok (.getfield 19, 3) := by decide +kernel
theorem dX1_touches_16 : decode cX1_touches 16 = .ok (.if_icmp .le 7, 3) := by decide +kernel
theorem dX1_touches_19 : decode cX1_touches 19 = .ok (.iconst 1, 1) := by decide +kernel
theorem dX1_touches_20 : decode cX1_touches 20 = .ok (.goto 4, 3) := by decide +kernel
theorem dX1_touches_23 : decode cX1_touches 23 = .ok (.iconst 0, 1) := by decide +kernel
theorem dX1_touches_24 : decode cX1_touches 24 = .ok (.ireturn, 1) := by decide +kernel
theorem dX1_isFacet_0 : decode cX1_isFacet 0 = .ok (.aload_n 0, 1) := by decide +kernel
theorem dX1_isFacet_1 : decode cX1_isFacet 1 = .ok (.getfield 39, 3) := by decide +kernel
theorem dX1_isFacet_4 : decode cX1_isFacet 4 = .ok (.ifCond .le 7, 3) := by decide +kernel
theorem dX1_isFacet_7 : decode cX1_isFacet 7 = .ok (.iconst 1, 1) := by decide +kernel
theorem dX1_isFacet_8 : decode cX1_isFacet 8 = .ok (.goto 4, 3) := by decide +kernel
theorem dX1_isFacet_11 : decode cX1_isFacet 11 = .ok (.iconst 0, 1) := by decide +kernel
theorem dX1_isFacet_12 : decode cX1_isFacet 12 = .ok (.ireturn, 1) := by decide +kernel
theorem dX1_isOpposite_0 : decode cX1_isOpposite 0 = .ok (.aload_n 0, 1) := by decide +kernel
theorem dX1_isOpposite_1 : decode cX1_isOpposite 1 = .ok (.getfield 7, 3) := by decide +kernel
theorem dX1_isOpposite_4 : decode cX1_isOpposite 4 = .ok (.aload_n 1, 1) := by decide +kernel
theorem dX1_isOpposite_5 : decode cX1_isOpposite 5 = .ok (.getfield 7, 3) := by decide +kernel
theorem dX1_isOpposite_8 : decode cX1_isOpposite 8 = .ok (.ineg, 1) := by decide +kernel
theorem dX1_isOpposite_9 : decode cX1_isOpposite 9 = .ok (.if_icmp .ne 31, 3) := by decide +kernel
theorem dX1_isOpposite_12 : decode cX1_isOpposite 12 = .ok (.aload_n 0, 1) := by decide +kernel
theorem dX1_isOpposite_13 : decode cX1_isOpposite 13 = .ok (.getfield 13, 3) := by decide +kernel
theorem dX1_isOpposite_16 : decode cX1_isOpposite 16 = .ok (.aload_n 1, 1) := by decide +kernel
theorem dX1_isOpposite_17 : decode cX1_isOpposite 17 = .ok (.getfield 13, 3) := by decide +kernel
theorem dX1_isOpposite_20 : decode cX1_isOpposite 20 = .ok (.ineg, 1) := by decide +kernel
theorem dX1_isOpposite_21 : decode cX1_isOpposite 21 = .ok (.if_icmp .ne 19, 3) := by decide +kernel
theorem dX1_isOpposite_24 : decode cX1_isOpposite 24 = .ok (.aload_n 0, 1) := by decide +kernel
theorem dX1_isOpposite_25 : decode cX1_isOpposite 25 = .ok (.getfield 16, 3) := by decide +kernel
theorem dX1_isOpposite_28 : decode cX1_isOpposite 28 = .ok (.aload_n 1, 1) := by decide +kernel
theorem dX1_isOpposite_29 : decode cX1_isOpposite 29 = .ok (.getfield 16, 3) := by decide +kernel
theorem dX1_isOpposite_32 : decode cX1_isOpposite 32 = .ok (.ineg, 1) := by decide +kernel
theorem dX1_isOpposite_33 : decode cX1_isOpposite 33 = .ok (.if_icmp .ne 7, 3) := by decide +kernel
theorem dX1_isOpposite_36 : decode cX1_isOpposite 36 = .ok (.iconst 1, 1) := by decide +kernel
theorem dX1_isOpposite_37 : decode cX1_isOpposite 37 = .ok (.goto 4, 3) := by decide +kernel
theorem dX1_isOpposite_40 : decode cX1_isOpposite 40 = .ok (.iconst 0, 1) := by decide +kernel
theorem dX1_isOpposite_41 : decode cX1_isOpposite 41 = .ok (.ireturn, 1) := by decide +kernel
theorem dX1_tell_0 : decode cX1_tell 0 = .ok (.iload_n 1, 1) := by decide +kernel
theorem dX1_tell_1 : decode cX1_tell 1 = .ok (.tableswitch 60 0 4 #[35, 40, 45, 50, 55], 35) := by decide +kernel
theorem dX1_tell_36 : decode cX1_tell 36 = .ok (.aload_n 0, 1) := by decide +kernel
theorem dX1_tell_37 : decode cX1_tell 37 = .ok (.getfield 7, 3) := by decide +kernel
theorem dX1_tell_40 : decode cX1_tell 40 = .ok (.ireturn, 1) := by decide +kernel
theorem dX1_tell_41 : decode cX1_tell 41 = .ok (.aload_n 0, 1) := by decide +kernel
theorem dX1_tell_42 : decode cX1_tell 42 = .ok (.getfield 13, 3) := by decide +kernel
theorem dX1_tell_45 : decode cX1_tell 45 = .ok (.ireturn, 1) := by decide +kernel
theorem dX1_tell_46 : decode cX1_tell 46 = .ok (.aload_n 0, 1) := by decide +kernel
theorem dX1_tell_47 : decode cX1_tell 47 = .ok (.getfield 16, 3) := by decide +kernel
theorem dX1_tell_50 : decode cX1_tell 50 = .ok (.ireturn, 1) := by decide +kernel
theorem dX1_tell_51 : decode cX1_tell 51 = .ok (.aload_n 0, 1) := by decide +kernel
theorem dX1_tell_52 : decode cX1_tell 52 = .ok (.getfield 19, 3) := by decide +kernel
theorem dX1_tell_55 : decode cX1_tell 55 = .ok (.ireturn, 1) := by decide +kernel
theorem dX1_tell_56 : decode cX1_tell 56 = .ok (.aload_n 0, 1) := by decide +kernel
theorem dX1_tell_57 : decode cX1_tell 57 = .ok (.getfield 39, 3) := by decide +kernel
theorem dX1_tell_60 : decode cX1_tell 60 = .ok (.ireturn, 1) := by decide +kernel
theorem dX1_tell_61 : decode cX1_tell 61 = .ok (.aload_n 0, 1) := by decide +kernel
theorem dX1_tell_62 : decode cX1_tell 62 = .ok (.getfield 35, 3) := by decide +kernel
theorem dX1_tell_65 : decode cX1_tell 65 = .ok (.ifCond .eq 7, 3) := by decide +kernel
theorem dX1_tell_68 : decode cX1_tell 68 = .ok (.iconst 1, 1) := by decide +kernel
theorem dX1_tell_69 : decode cX1_tell 69 = .ok (.goto 4, 3) := by decide +kernel
theorem dX1_tell_72 : decode cX1_tell 72 = .ok (.iconst 0, 1) := by decide +kernel
theorem dX1_tell_73 : decode cX1_tell 73 = .ok (.ireturn, 1) := by decide +kernel
theorem dX2_init_0 : decode cX2_init 0 = .ok (.aload_n 0, 1) := by decide +kernel
theorem dX2_init_1 : decode cX2_init 1 = .ok (.invokespecial 3, 3) := by decide +kernel
theorem dX2_init_4 : decode cX2_init 4 = .ok (.aload_n 0, 1) := by decide +kernel
theorem dX2_init_5 : decode cX2_init 5 = .ok (.sipush 1000, 3) := by decide +kernel
theorem dX2_init_8 : decode cX2_init 8 = .ok (.newarray .int, 2) := by decide +kernel
theorem dX2_init_10 : decode cX2_init 10 = .ok (.putfield 9, 3) := by decide +kernel
theorem dX2_init_13 : decode cX2_init 13 = .ok (.aload_n 0, 1) := by decide +kernel
theorem dX2_init_14 : decode cX2_init 14 = .ok (.sipush 1000, 3) := by decide +kernel
theorem dX2_init_17 : decode cX2_init 17 = .ok (.newarray .boolean, 2) := by decide +kernel
theorem dX2_init_19 : decode cX2_init 19 = .ok (.putfield 15, 3) := by decide +kernel
theorem dX2_init_22 : decode cX2_init 22 = .ok (.aload_n 0, 1) := by decide +kernel
theorem dX2_init_23 : decode cX2_init 23 = .ok (.bipush 10, 2) := by decide +kernel
theorem dX2_init_25 : decode cX2_init 25 = .ok (.anewarray 19, 3) := by decide +kernel
theorem dX2_init_28 : decode cX2_init 28 = .ok (.putfield 21, 3) := by decide +kernel
theorem dX2_init_31 : decode cX2_init 31 = .ok (.iconst 0, 1) := by decide +kernel
theorem dX2_init_32 : decode cX2_init 32 = .ok (.istore_n 1, 1) := by decide +kernel
theorem dX2_init_33 : decode cX2_init 33 = .ok (.iload_n 1, 1) := by decide +kernel
theorem dX2_init_34 : decode cX2_init 34 = .ok (.bipush 10, 2) := by decide +kernel
theorem dX2_init_36 : decode cX2_init 36 = .ok (.if_icmp .ge 22, 3) := by decide +kernel
theorem dX2_init_39 : decode cX2_init 39 = .ok (.aload_n 0, 1) := by decide +kernel
theorem dX2_init_40 : decode cX2_init 40 = .ok (.getfield 21, 3) := by decide +kernel
theorem dX2_init_43 : decode cX2_init 43 = .ok (.iload_n 1, 1) := by decide +kernel
theorem dX2_init_44 : decode cX2_init 44 = .ok (.new 19, 3) := by decide +kernel
theorem dX2_init_47 : decode cX2_init 47 = .ok (.dup, 1) := by decide +kernel
theorem dX2_init_48 : decode cX2_init 48 = .ok (.invokespecial 25, 3) := by decide +kernel
theorem dX2_init_51 : decode cX2_init 51 = .ok (.aastore, 1) := by decide +kernel
theorem dX2_init_52 : decode cX2_init 52 = .ok (.iinc 1 1, 3) := by decide +kernel
theorem dX2_init_55 : decode cX2_init 55 = .ok (.goto (-22), 3) := by decide +kernel
theorem dX2_init_58 : decode cX2_init 58 = .ok (.return_, 1) := by decide +kernel
theorem dX2_begin_0 : decode cX2_begin 0 = .ok (.aload_n 0, 1) := by decide +kernel
theorem dX2_begin_1 : decode cX2_begin 1 = .ok (.iload_n 1, 1) := by decide +kernel
theorem dX2_begin_2 : decode cX2_begin 2 = .ok (.putfield 26, 3) := by decide +kernel
theorem dX2_begin_5 : decode cX2_begin 5 = .ok (.aload_n 0, 1) := by decide +kernel
theorem dX2_begin_6 : decode cX2_begin 6 = .ok (.iload_n 2, 1) := by decide +kernel
theorem dX2_begin_7 : decode cX2_begin 7 = .ok (.putfield 30, 3) := by decide +kernel
theorem dX2_begin_10 : decode cX2_begin 10 = .ok (.aload_n 0, 1) := by decide +kernel
theorem dX2_begin_11 : decode cX2_begin 11 = .ok (.iload_n 3, 1) := by decide +kernel
theorem dX2_begin_12 : decode cX2_begin 12 = .ok (.putfield 33, 3) := by decide +kernel
theorem dX2_begin_15 : decode cX2_begin 15 = .ok (.aload_n 0, 1) := by decide +kernel
theorem dX2_begin_16 : decode cX2_begin 16 = .ok (.iconst 0, 1) := by decide +kernel
theorem dX2_begin_17 : decode cX2_begin 17 = .ok (.putfield 36, 3) := by decide +kernel
theorem dX2_begin_20 : decode cX2_begin 20 = .ok (.aload_n 0, 1) := by decide +kernel
theorem dX2_begin_21 : decode cX2_begin 21 = .ok (.invokevirtual 39, 3) := by decide +kernel
theorem dX2_begin_24 : decode cX2_begin 24 = .ok (.istore 4, 2) := by decide +kernel
theorem dX2_begin_26 : decode cX2_begin 26 = .ok (.iconst 0, 1) := by decide +kernel
theorem dX2_begin_27 : decode cX2_begin 27 = .ok (.istore 5, 2) := by decide +kernel
theorem dX2_begin_29 : decode cX2_begin 29 = .ok (.iload 5, 2) := by decide +kernel
theorem dX2_begin_31 : decode cX2_begin 31 = .ok (.iload 4, 2) := by decide +kernel
theorem dX2_begin_33 : decode cX2_begin 33 = .ok (.if_icmp .ge 17, 3) := by decide +kernel
theorem dX2_begin_36 : decode cX2_begin 36 = .ok (.aload_n 0, 1) := by decide +kernel
theorem dX2_begin_37 : decode cX2_begin 37 = .ok (.getfield 9, 3) := by decide +kernel
theorem dX2_begin_40 : decode cX2_begin 40 = .ok (.iload 5, 2) := by decide +kernel
theorem dX2_begin_42 : decode cX2_begin 42 = .ok (.iconst 0, 1) := by decide +kernel
theorem dX2_begin_43 : decode cX2_begin 43 = .ok (.iastore, 1) := by decide +kernel
theorem dX2_begin_44 : decode cX2_begin 44 = .ok (.iinc 5 1, 3) := by decide +kernel
theorem dX2_begin_47 : decode cX2_begin 47 = .ok (.goto (-18), 3) := by decide +kernel
theorem dX2_begin_50 : decode cX2_begin 50 = .ok (.return_, 1) := by decide +kernel
theorem dX2_size_0 : decode cX2_size 0 = .ok (.aload_n 0, 1) := by decide +kernel
theorem dX2_size_1 : decode cX2_size 1 = .ok (.getfield 26, 3) := by decide +kernel
theorem dX2_size_4 : decode cX2_size 4 = .ok (.aload_n 0, 1) := by decide +kernel
theorem dX2_size_5 : decode cX2_size 5 = .ok (.getfield 30, 3) := by decide +kernel
theorem dX2_size_8 : decode cX2_size 8 = .ok (.imul, 1) := by decide +kernel
theorem dX2_size_9 : decode cX2_size 9 = .ok (.aload_n 0, 1) := by decide +kernel
theorem dX2_size_10 : decode cX2_size 10 = .ok (.getfield 33, 3) := by decide +kernel
theorem dX2_size_13 : decode cX2_size 13 = .ok (.imul, 1) := by decide +kernel
theorem dX2_size_14 : decode cX2_size 14 = .ok (.ireturn, 1) := by decide +kernel
theorem dX2_holds_0 : decode cX2_holds 0 = .ok (.iload_n 1, 1) := by decide +kernel
theorem dX2_holds_1 : decode cX2_holds 1 = .ok (.ifCond .lt 39, 3) := by decide +kernel
theorem dX2_holds_4 : decode cX2_holds 4 = .ok (.iload_n 1, 1) := by decide +kernel
theorem dX2_holds_5 : decode cX2_holds 5 = .ok (.aload_n 0, 1) := by decide +kernel
theorem dX2_holds_6 : decode cX2_holds 6 = .ok (.getfield 26, 3) := by decide +kernel
theorem dX2_holds_9 : decode cX2_holds 9 = .ok (.if_icmp .ge 31, 3) := by decide +kernel
theorem dX2_holds_12 : decode cX2_holds 12 = .ok (.iload_n 2, 1) := by decide +kernel
theorem dX2_holds_13 : decode cX2_holds 13 = .ok (.ifCond .lt 27, 3) := by decide +kernel
theorem dX2_holds_16 : decode cX2_holds 16 = .ok (.iload_n 2, 1) := by decide +kernel
theorem dX2_holds_17 : decode cX2_holds 17 = .ok (.aload_n 0, 1) := by decide +kernel
theorem dX2_holds_18 : decode cX2_holds 18 = .ok (.getfield 30, 3) := by decide +kernel
theorem dX2_holds_21 : decode cX2_holds 21 = .ok (.if_icmp .ge 19, 3) := by decide +kernel
theorem dX2_holds_24 : decode cX2_holds 24 = .ok (.iload_n 3, 1) := by decide +kernel
theorem dX2_holds_25 : decode cX2_holds 25 = .ok (.ifCond .lt 15, 3) := by decide +kernel
theorem dX2_holds_28 : decode cX2_holds 28 = .ok (.iload_n 3, 1) := by decide +kernel
theorem dX2_holds_29 : decode cX2_holds 29 = .ok (.aload_n 0, 1) := by decide +kernel
theorem dX2_holds_30 : decode cX2_holds 30 = .ok (.getfield 33, 3) := by decide +kernel
theorem dX2_holds_33 : decode cX2_holds 33 = .ok (.if_icmp .ge 7, 3) := by decide +kernel
theorem dX2_holds_36 : decode cX2_holds 36 = .ok (.iconst 1, 1) := by decide +kernel
theorem dX2_holds_37 : decode cX2_holds 37 = .ok (.goto 4, 3) := by decide +kernel
theorem dX2_holds_40 : decode cX2_holds 40 = .ok (.iconst 0, 1) := by decide +kernel
theorem dX2_holds_41 : decode cX2_holds 41 = .ok (.ireturn, 1) := by decide +kernel
theorem dX2_indexOf_0 : decode cX2_indexOf 0 = .ok (.iload_n 3, 1) := by decide +kernel
theorem dX2_indexOf_1 : decode cX2_indexOf 1 = .ok (.aload_n 0, 1) := by decide +kernel
theorem dX2_indexOf_2 : decode cX2_indexOf 2 = .ok (.getfield 30, 3) := by decide +kernel
theorem dX2_indexOf_5 : decode cX2_indexOf 5 = .ok (.imul, 1) := by decide +kernel
theorem dX2_indexOf_6 : decode cX2_indexOf 6 = .ok (.iload_n 2, 1) := by decide +kernel
theorem dX2_indexOf_7 : decode cX2_indexOf 7 = .ok (.iadd, 1) := by decide +kernel
theorem dX2_indexOf_8 : decode cX2_indexOf 8 = .ok (.aload_n 0, 1) := by decide +kernel
theorem dX2_indexOf_9 : decode cX2_indexOf 9 = .ok (.getfield 26, 3) := by decide +kernel
theorem dX2_indexOf_12 : decode cX2_indexOf 12 = .ok (.imul, 1) := by decide +kernel
theorem dX2_indexOf_13 : decode cX2_indexOf 13 = .ok (.iload_n 1, 1) := by decide +kernel
theorem dX2_indexOf_14 : decode cX2_indexOf 14 = .ok (.iadd, 1) := by decide +kernel
theorem dX2_indexOf_15 : decode cX2_indexOf 15 = .ok (.ireturn, 1) := by decide +kernel
theorem dX2_ownerAt_0 : decode cX2_ownerAt 0 = .ok (.aload_n 0, 1) := by decide +kernel
theorem dX2_ownerAt_1 : decode cX2_ownerAt 1 = .ok (.iload_n 1, 1) := by decide +kernel
theorem dX2_ownerAt_2 : decode cX2_ownerAt 2 = .ok (.iload_n 2, 1) := by decide +kernel
theorem dX2_ownerAt_3 : decode cX2_ownerAt 3 = .ok (.iload_n 3, 1) := by decide +kernel
theorem dX2_ownerAt_4 : decode cX2_ownerAt 4 = .ok (.invokevirtual 43, 3) := by decide +kernel
theorem dX2_ownerAt_7 : decode cX2_ownerAt 7 = .ok (.ifCond .eq 18, 3) := by decide +kernel
theorem dX2_ownerAt_10 : decode cX2_ownerAt 10 = .ok (.aload_n 0, 1) := by decide +kernel
theorem dX2_ownerAt_11 : decode cX2_ownerAt 11 = .ok (.getfield 9, 3) := by decide +kernel
theorem dX2_ownerAt_14 : decode cX2_ownerAt 14 = .ok (.aload_n 0, 1) := by decide +kernel
theorem dX2_ownerAt_15 : decode cX2_ownerAt 15 = .ok (.iload_n 1, 1) := by decide +kernel
theorem dX2_ownerAt_16 : decode cX2_ownerAt 16 = .ok (.iload_n 2, 1) := by decide +kernel
theorem dX2_ownerAt_17 : decode cX2_ownerAt 17 = .ok (.iload_n 3, 1) := by decide +kernel
theorem dX2_ownerAt_18 : decode cX2_ownerAt 18 = .ok (.invokevirtual 47, 3) := by decide +kernel
theorem dX2_ownerAt_21 : decode cX2_ownerAt 21 = .ok (.iaload, 1) := by decide +kernel
theorem dX2_ownerAt_22 : decode cX2_ownerAt 22 = .ok (.goto 4, 3) := by decide +kernel
theorem dX2_ownerAt_25 : decode cX2_ownerAt 25 = .ok (.iconst (-1), 1) := by decide +kernel
theorem dX2_ownerAt_26 : decode cX2_ownerAt 26 = .ok (.ireturn, 1) := by decide +kernel
theorem dX2_isBare_0 : decode cX2_isBare 0 = .ok (.aload_n 0, 1) := by decide +kernel
theorem dX2_isBare_1 : decode cX2_isBare 1 = .ok (.iload_n 2, 1) := by decide +kernel
theorem dX2_isBare_2 : decode cX2_isBare 2 = .ok (.iconst 1, 1) := by decide +kernel
theorem dX2_isBare_3 : decode cX2_isBare 3 = .ok (.isub, 1) := by decide +kernel
theorem dX2_isBare_4 : decode cX2_isBare 4 = .ok (.iload_n 3, 1) := by decide +kernel
theorem dX2_isBare_5 : decode cX2_isBare 5 = .ok (.iload 4, 2) := by decide +kernel
theorem dX2_isBare_7 : decode cX2_isBare 7 = .ok (.invokevirtual 51, 3) := by decide +kernel
theorem dX2_isBare_10 : decode cX2_isBare 10 = .ok (.iload_n 1, 1) := by decide +kernel
theorem dX2_isBare_11 : decode cX2_isBare 11 = .ok (.if_icmp .ne 73, 3) := by decide +kernel
theorem dX2_isBare_14 : decode cX2_isBare 14 = .ok (.aload_n 0, 1) := by decide +kernel
theorem dX2_isBare_15 : decode cX2_isBare 15 = .ok (.iload_n 2, 1) := by decide +kernel
theorem dX2_isBare_16 : decode cX2_isBare 16 = .ok (.iconst 1, 1) := by decide +kernel
theorem dX2_isBare_17 : decode cX2_isBare 17 = .ok (.iadd, 1) := by decide +kernel
theorem dX2_isBare_18 : decode cX2_isBare 18 = .ok (.iload_n 3, 1) := by decide +kernel
theorem dX2_isBare_19 : decode cX2_isBare 19 = .ok (.iload 4, 2) := by decide +kernel
theorem dX2_isBare_21 : decode cX2_isBare 21 = .ok (.invokevirtual 51, 3) := by decide +kernel
theorem dX2_isBare_24 : decode cX2_isBare 24 = .ok (.iload_n 1, 1) := by decide +kernel
theorem dX2_isBare_25 : decode cX2_isBare 25 = .ok (.if_icmp .ne 59, 3) := by decide +kernel
theorem dX2_isBare_28 : decode cX2_isBare 28 = .ok (.aload_n 0, 1) := by decide +kernel
theorem dX2_isBare_29 : decode cX2_isBare 29 = .ok (.iload_n 2, 1) := by decide +kernel
theorem dX2_isBare_30 : decode cX2_isBare 30 = .ok (.iload_n 3, 1) := by decide +kernel
theorem dX2_isBare_31 : decode cX2_isBare 31 = .ok (.iconst 1, 1) := by decide +kernel
theorem dX2_isBare_32 : decode cX2_isBare 32 = .ok (.isub, 1) := by decide +kernel
theorem dX2_isBare_33 : decode cX2_isBare 33 = .ok (.iload 4, 2) := by decide +kernel
theorem dX2_isBare_35 : decode cX2_isBare 35 = .ok (.invokevirtual 51, 3) := by decide +kernel
theorem dX2_isBare_38 : decode cX2_isBare 38 = .ok (.iload_n 1, 1) := by decide +kernel
theorem dX2_isBare_39 : decode cX2_isBare 39 = .ok (.if_icmp .ne 45, 3) := by decide +kernel
theorem dX2_isBare_42 : decode cX2_isBare 42 = .ok (.aload_n 0, 1) := by decide +kernel
theorem dX2_isBare_43 : decode cX2_isBare 43 = .ok (.iload_n 2, 1) := by decide +kernel
theorem dX2_isBare_44 : decode cX2_isBare 44 = .ok (.iload_n 3, 1) := by decide +kernel
theorem dX2_isBare_45 : decode cX2_isBare 45 = .ok (.iconst 1, 1) := by decide +kernel
theorem dX2_isBare_46 : decode cX2_isBare 46 = .ok (.iadd, 1) := by decide +kernel
theorem dX2_isBare_47 : decode cX2_isBare 47 = .ok (.iload 4, 2) := by decide +kernel
theorem dX2_isBare_49 : decode cX2_isBare 49 = .ok (.invokevirtual 51, 3) := by decide +kernel
theorem dX2_isBare_52 : decode cX2_isBare 52 = .ok (.iload_n 1, 1) := by decide +kernel
theorem dX2_isBare_53 : decode cX2_isBare 53 = .ok (.if_icmp .ne 31, 3) := by decide +kernel
theorem dX2_isBare_56 : decode cX2_isBare 56 = .ok (.aload_n 0, 1) := by decide +kernel
theorem dX2_isBare_57 : decode cX2_isBare 57 = .ok (.iload_n 2, 1) := by decide +kernel
theorem dX2_isBare_58 : decode cX2_isBare 58 = .ok (.iload_n 3, 1) := by decide +kernel
theorem dX2_isBare_59 : decode cX2_isBare 59 = .ok (.iload 4, 2) := by decide +kernel
theorem dX2_isBare_61 : decode cX2_isBare 61 = .ok (.iconst 1, 1) := by decide +kernel
theorem dX2_isBare_62 : decode cX2_isBare 62 = .ok (.isub, 1) := by decide +kernel
theorem dX2_isBare_63 : decode cX2_isBare 63 = .ok (.invokevirtual 51, 3) := by decide +kernel
theorem dX2_isBare_66 : decode cX2_isBare 66 = .ok (.iload_n 1, 1) := by decide +kernel
theorem dX2_isBare_67 : decode cX2_isBare 67 = .ok (.if_icmp .ne 17, 3) := by decide +kernel
theorem dX2_isBare_70 : decode cX2_isBare 70 = .ok (.aload_n 0, 1) := by decide +kernel
theorem dX2_isBare_71 : decode cX2_isBare 71 = .ok (.iload_n 2, 1) := by decide +kernel
theorem dX2_isBare_72 : decode cX2_isBare 72 = .ok (.iload_n 3, 1) := by decide +kernel
theorem dX2_isBare_73 : decode cX2_isBare 73 = .ok (.iload 4, 2) := by decide +kernel
theorem dX2_isBare_75 : decode cX2_isBare 75 = .ok (.iconst 1, 1) := by decide +kernel
theorem dX2_isBare_76 : decode cX2_isBare 76 = .ok (.iadd, 1) := by decide +kernel
theorem dX2_isBare_77 : decode cX2_isBare 77 = .ok (.invokevirtual 51, 3) := by decide +kernel
theorem dX2_isBare_80 : decode cX2_isBare 80 = .ok (.iload_n 1, 1) := by decide +kernel
theorem dX2_isBare_81 : decode cX2_isBare 81 = .ok (.if_icmp .eq 7, 3) := by decide +kernel
theorem dX2_isBare_84 : decode cX2_isBare 84 = .ok (.iconst 1, 1) := by decide +kernel
theorem dX2_isBare_85 : decode cX2_isBare 85 = .ok (.goto 4, 3) := by decide +kernel
theorem dX2_isBare_88 : decode cX2_isBare 88 = .ok (.iconst 0, 1) := by decide +kernel
theorem dX2_isBare_89 : decode cX2_isBare 89 = .ok (.ireturn, 1) := by decide +kernel
theorem dX2_addFlaw_0 : decode cX2_addFlaw 0 = .ok (.aload_n 0, 1) := by decide +kernel
theorem dX2_addFlaw_1 : decode cX2_addFlaw 1 = .ok (.getfield 21, 3) := by decide +kernel
theorem dX2_addFlaw_4 : decode cX2_addFlaw 4 = .ok (.aload_n 0, 1) := by decide +kernel
theorem dX2_addFlaw_5 : decode cX2_addFlaw 5 = .ok (.getfield 36, 3) := by decide +kernel
theorem dX2_addFlaw_8 : decode cX2_addFlaw 8 = .ok (.aaload, 1) := by decide +kernel
theorem dX2_addFlaw_9 : decode cX2_addFlaw 9 = .ok (.astore 6, 2) := by decide +kernel
theorem dX2_addFlaw_11 : decode cX2_addFlaw 11 = .ok (.aload 6, 2) := by decide +kernel
theorem dX2_addFlaw_13 : decode cX2_addFlaw 13 = .ok (.iload 5, 2) := by decide +kernel
theorem dX2_addFlaw_15 : decode cX2_addFlaw 15 = .ok (.invokevirtual 54, 3) := by decide +kernel
theorem dX2_addFlaw_18 : decode cX2_addFlaw 18 = .ok (.iload_n 3, 1) := by decide +kernel
theorem dX2_addFlaw_19 : decode cX2_addFlaw 19 = .ok (.iload 4, 2) := by decide +kernel
theorem dX2_addFlaw_21 : decode cX2_addFlaw 21 = .ok (.isub, 1) := by decide +kernel
theorem dX2_addFlaw_22 : decode cX2_addFlaw 22 = .ok (.istore 7, 2) := by decide +kernel
theorem dX2_addFlaw_24 : decode cX2_addFlaw 24 = .ok (.iload 7, 2) := by decide +kernel
theorem dX2_addFlaw_26 : decode cX2_addFlaw 26 = .ok (.iload_n 3, 1) := by decide +kernel
theorem dX2_addFlaw_27 : decode cX2_addFlaw 27 = .ok (.iload 4, 2) := by decide +kernel
theorem dX2_addFlaw_29 : decode cX2_addFlaw 29 = .ok (.iadd, 1) := by decide +kernel
theorem dX2_addFlaw_30 : decode cX2_addFlaw 30 = .ok (.if_icmp .gt 111, 3) := by decide +kernel
theorem dX2_addFlaw_33 : decode cX2_addFlaw 33 = .ok (.iload_n 2, 1) := by decide +kernel
theorem dX2_addFlaw_34 : decode cX2_addFlaw 34 = .ok (.iload 4, 2) := by decide +kernel
theorem dX2_addFlaw_36 : decode cX2_addFlaw 36 = .ok (.isub, 1) := by decide +kernel
theorem dX2_addFlaw_37 : decode cX2_addFlaw 37 = .ok (.istore 8, 2) := by decide +kernel
theorem dX2_addFlaw_39 : decode cX2_addFlaw 39 = .ok (.iload 8, 2) := by decide +kernel
theorem dX2_addFlaw_41 : decode cX2_addFlaw 41 = .ok (.iload_n 2, 1) := by decide +kernel
theorem dX2_addFlaw_42 : decode cX2_addFlaw 42 = .ok (.iload 4, 2) := by decide +kernel
theorem dX2_addFlaw_44 : decode cX2_addFlaw 44 = .ok (.iadd, 1) := by decide +kernel
theorem dX2_addFlaw_45 : decode cX2_addFlaw 45 = .ok (.if_icmp .gt 90, 3) := by decide +kernel
theorem dX2_addFlaw_48 : decode cX2_addFlaw 48 = .ok (.iload_n 1, 1) := by decide +kernel
theorem dX2_addFlaw_49 : decode cX2_addFlaw 49 = .ok (.iload 4, 2) := by decide +kernel
theorem dX2_addFlaw_51 : decode cX2_addFlaw 51 = .ok (.isub, 1) := by decide +kernel
theorem dX2_addFlaw_52 : decode cX2_addFlaw 52 = .ok (.istore 9, 2) := by decide +kernel
theorem dX2_addFlaw_54 : decode cX2_addFlaw 54 = .ok (.iload 9, 2) := by decide +kernel
theorem dX2_addFlaw_56 : decode cX2_addFlaw 56 = .ok (.iload_n 1, 1) := by decide +kernel
theorem dX2_addFlaw_57 : decode cX2_addFlaw 57 = .ok (.iload 4, 2) := by decide +kernel
theorem dX2_addFlaw_59 : decode cX2_addFlaw 59 = .ok (.iadd, 1) := by decide +kernel
theorem dX2_addFlaw_60 : decode cX2_addFlaw 60 = .ok (.if_icmp .gt 69, 3) := by decide +kernel
theorem dX2_addFlaw_63 : decode cX2_addFlaw 63 = .ok (.iload 9, 2) := by decide +kernel
theorem dX2_addFlaw_65 : decode cX2_addFlaw 65 = .ok (.iload_n 1, 1) := by decide +kernel
theorem dX2_addFlaw_66 : decode cX2_addFlaw 66 = .ok (.isub, 1) := by decide +kernel
theorem dX2_addFlaw_67 : decode cX2_addFlaw 67 = .ok (.invokestatic 58, 3) := by decide +kernel
theorem dX2_addFlaw_70 : decode cX2_addFlaw 70 = .ok (.iload 8, 2) := by decide +kernel
theorem dX2_addFlaw_72 : decode cX2_addFlaw 72 = .ok (.iload_n 2, 1) := by decide +kernel
theorem dX2_addFlaw_73 : decode cX2_addFlaw 73 = .ok (.isub, 1) := by decide +kernel
theorem dX2_addFlaw_74 : decode cX2_addFlaw 74 = .ok (.invokestatic 58, 3) := by decide +kernel
theorem dX2_addFlaw_77 : decode cX2_addFlaw 77 = .ok (.iadd, 1) := by decide +kernel
theorem dX2_addFlaw_78 : decode cX2_addFlaw 78 = .ok (.iload 7, 2) := by decide +kernel
theorem dX2_addFlaw_80 : decode cX2_addFlaw 80 = .ok (.iload_n 3, 1) := by decide +kernel
theorem dX2_addFlaw_81 : decode cX2_addFlaw 81 = .ok (.isub, 1) := by decide +kernel
theorem dX2_addFlaw_82 : decode cX2_addFlaw 82 = .ok (.invokestatic 58, 3) := by decide +kernel
theorem dX2_addFlaw_85 : decode cX2_addFlaw 85 = .ok (.iadd, 1) := by decide +kernel
theorem dX2_addFlaw_86 : decode cX2_addFlaw 86 = .ok (.istore 10, 2) := by decide +kernel
theorem dX2_addFlaw_88 : decode cX2_addFlaw 88 = .ok (.iload 10, 2) := by decide +kernel
theorem dX2_addFlaw_90 : decode cX2_addFlaw 90 = .ok (.iload 4, 2) := by decide +kernel
theorem dX2_addFlaw_92 : decode cX2_addFlaw 92 = .ok (.if_icmp .gt 31, 3) := by decide +kernel
theorem dX2_addFlaw_95 : decode cX2_addFlaw 95 = .ok (.aload_n 0, 1) := by decide +kernel
theorem dX2_addFlaw_96 : decode cX2_addFlaw 96 = .ok (.iload 9, 2) := by decide +kernel
theorem dX2_addFlaw_98 : decode cX2_addFlaw 98 = .ok (.iload 8, 2) := by decide +kernel
theorem dX2_addFlaw_100 : decode cX2_addFlaw 100 = .ok (.iload 7, 2) := by decide +kernel
theorem dX2_addFlaw_102 : decode cX2_addFlaw 102 = .ok (.invokevirtual 43, 3) := by decide +kernel
theorem dX2_addFlaw_105 : decode cX2_addFlaw 105 = .ok (.ifCond .eq 18, 3) := by decide +kernel
theorem dX2_addFlaw_108 : decode cX2_addFlaw 108 = .ok (.aload 6, 2) := by decide +kernel
theorem dX2_addFlaw_110 : decode cX2_addFlaw 110 = .ok (.aload_n 0, 1) := by decide +kernel
theorem dX2_addFlaw_111 : decode cX2_addFlaw 111 = .ok (.iload 9, 2) := by decide +kernel
theorem dX2_addFlaw_113 : decode cX2_addFlaw 113 = .ok (.iload 8, 2) := by decide +kernel
theorem dX2_addFlaw_115 : decode cX2_addFlaw 115 = .ok (.iload 7, 2) := by decide +kernel
theorem dX2_addFlaw_117 : decode cX2_addFlaw 117 = .ok (.invokevirtual 47, 3) := by decide +kernel
theorem dX2_addFlaw_120 : decode cX2_addFlaw 120 = .ok (.invokevirtual 64, 3) := by decide +kernel
theorem dX2_addFlaw_123 : decode cX2_addFlaw 123 = .ok (.iinc 9 1, 3) := by decide +kernel
theorem dX2_addFlaw_126 : decode cX2_addFlaw 126 = .ok (.goto (-72), 3) := by decide +kernel
theorem dX2_addFlaw_129 : decode cX2_addFlaw 129 = .ok (.iinc 8 1, 3) := by decide +kernel
theorem dX2_addFlaw_132 : decode cX2_addFlaw 132 = .ok (.goto (-93), 3) := by decide +kernel
theorem dX2_addFlaw_135 : decode cX2_addFlaw 135 = .ok (.iinc 7 1, 3) := by decide +kernel
theorem dX2_addFlaw_138 : decode cX2_addFlaw 138 = .ok (.goto (-114), 3) := by decide +kernel
theorem dX2_addFlaw_141 : decode cX2_addFlaw 141 = .ok (.aload 6, 2) := by decide +kernel
theorem dX2_addFlaw_143 : decode cX2_addFlaw 143 = .ok (.aload_n 0, 1) := by decide +kernel
theorem dX2_addFlaw_144 : decode cX2_addFlaw 144 = .ok (.invokevirtual 67, 3) := by decide +kernel
theorem dX2_addFlaw_147 : decode cX2_addFlaw 147 = .ok (.aload_n 0, 1) := by decide +kernel
theorem dX2_addFlaw_148 : decode cX2_addFlaw 148 = .ok (.dup, 1) := by decide +kernel
theorem dX2_addFlaw_149 : decode cX2_addFlaw 149 = .ok (.getfield 36, 3) := by decide +kernel
theorem dX2_addFlaw_152 : decode cX2_addFlaw 152 = .ok (.iconst 1, 1) := by decide +kernel
theorem dX2_addFlaw_153 : decode cX2_addFlaw 153 = .ok (.iadd, 1) := by decide +kernel
theorem dX2_addFlaw_154 : decode cX2_addFlaw 154 = .ok (.putfield 36, 3) := by decide +kernel
theorem dX2_addFlaw_157 : decode cX2_addFlaw 157 = .ok (.return_, 1) := by decide +kernel
theorem dX3_init_0 : decode cX3_init 0 = .ok (.aload_n 0, 1) := by decide +kernel
theorem dX3_init_1 : decode cX3_init 1 = .ok (.invokespecial 3, 3) := by decide +kernel
theorem dX3_init_4 : decode cX3_init 4 = .ok (.aload_n 0, 1) := by decide +kernel
theorem dX3_init_5 : decode cX3_init 5 = .ok (.bipush 16, 2) := by decide +kernel
theorem dX3_init_7 : decode cX3_init 7 = .ok (.anewarray 9, 3) := by decide +kernel
theorem dX3_init_10 : decode cX3_init 10 = .ok (.putfield 11, 3) := by decide +kernel
theorem dX3_init_13 : decode cX3_init 13 = .ok (.aload_n 0, 1) := by decide +kernel
theorem dX3_init_14 : decode cX3_init 14 = .ok (.iload_n 1, 1) := by decide +kernel
theorem dX3_init_15 : decode cX3_init 15 = .ok (.putfield 17, 3) := by decide +kernel
theorem dX3_init_18 : decode cX3_init 18 = .ok (.iconst 0, 1) := by decide +kernel
theorem dX3_init_19 : decode cX3_init 19 = .ok (.istore_n 2, 1) := by decide +kernel
theorem dX3_init_20 : decode cX3_init 20 = .ok (.iload_n 2, 1) := by decide +kernel
theorem dX3_init_21 : decode cX3_init 21 = .ok (.bipush 16, 2) := by decide +kernel
theorem dX3_init_23 : decode cX3_init 23 = .ok (.if_icmp .ge 22, 3) := by decide +kernel
theorem dX3_init_26 : decode cX3_init 26 = .ok (.aload_n 0, 1) := by decide +kernel
theorem dX3_init_27 : decode cX3_init 27 = .ok (.getfield 11, 3) := by decide +kernel
theorem dX3_init_30 : decode cX3_init 30 = .ok (.iload_n 2, 1) := by decide +kernel
theorem dX3_init_31 : decode cX3_init 31 = .ok (.new 9, 3) := by decide +kernel
theorem dX3_init_34 : decode cX3_init 34 = .ok (.dup, 1) := by decide +kernel
theorem dX3_init_35 : decode cX3_init 35 = .ok (.invokespecial 21, 3) := by decide +kernel
theorem dX3_init_38 : decode cX3_init 38 = .ok (.aastore, 1) := by decide +kernel
theorem dX3_init_39 : decode cX3_init 39 = .ok (.iinc 2 1, 3) := by decide +kernel
theorem dX3_init_42 : decode cX3_init 42 = .ok (.goto (-22), 3) := by decide +kernel
theorem dX3_init_45 : decode cX3_init 45 = .ok (.return_, 1) := by decide +kernel
theorem dX3_dropPlanes_0 : decode cX3_dropPlanes 0 = .ok (.aload_n 0, 1) := by decide +kernel
theorem dX3_dropPlanes_1 : decode cX3_dropPlanes 1 = .ok (.iconst 0, 1) := by decide +kernel
theorem dX3_dropPlanes_2 : decode cX3_dropPlanes 2 = .ok (.putfield 22, 3) := by decide +kernel
theorem dX3_dropPlanes_5 : decode cX3_dropPlanes 5 = .ok (.return_, 1) := by decide +kernel
theorem dX3_forgetCells_0 : decode cX3_forgetCells 0 = .ok (.aload_n 0, 1) := by decide +kernel
theorem dX3_forgetCells_1 : decode cX3_forgetCells 1 = .ok (.iconst 0, 1) := by decide +kernel
theorem dX3_forgetCells_2 : decode cX3_forgetCells 2 = .ok (.putfield 25, 3) := by decide +kernel
theorem dX3_forgetCells_5 : decode cX3_forgetCells 5 = .ok (.aload_n 0, 1) := by decide +kernel
theorem dX3_forgetCells_6 : decode cX3_forgetCells 6 = .ok (.iconst 0, 1) := by decide +kernel
theorem dX3_forgetCells_7 : decode cX3_forgetCells 7 = .ok (.putfield 28, 3) := by decide +kernel
theorem dX3_forgetCells_10 : decode cX3_forgetCells 10 = .ok (.iconst 0, 1) := by decide +kernel
theorem dX3_forgetCells_11 : decode cX3_forgetCells 11 = .ok (.istore_n 1, 1) := by decide +kernel
theorem dX3_forgetCells_12 : decode cX3_forgetCells 12 = .ok (.iload_n 1, 1) := by decide +kernel
theorem dX3_forgetCells_13 : decode cX3_forgetCells 13 = .ok (.aload_n 0, 1) := by decide +kernel
theorem dX3_forgetCells_14 : decode cX3_forgetCells 14 = .ok (.getfield 22, 3) := by decide +kernel
theorem dX3_forgetCells_17 : decode cX3_forgetCells 17 = .ok (.if_icmp .ge 19, 3) := by decide +kernel
theorem dX3_forgetCells_20 : decode cX3_forgetCells 20 = .ok (.aload_n 0, 1) := by decide +kernel
theorem dX3_forgetCells_21 : decode cX3_forgetCells 21 = .ok (.getfield 11, 3) := by decide +kernel
theorem dX3_forgetCells_24 : decode cX3_forgetCells 24 = .ok (.iload_n 1, 1) := by decide +kernel
theorem dX3_forgetCells_25 : decode cX3_forgetCells 25 = .ok (.aaload, 1) := by decide +kernel
theorem dX3_forgetCells_26 : decode cX3_forgetCells 26 = .ok (.iconst 0, 1) := by decide +kernel
theorem dX3_forgetCells_27 : decode cX3_forgetCells 27 = .ok (.putfield 31, 3) := by decide +kernel
theorem dX3_forgetCells_30 : decode cX3_forgetCells 30 = .ok (.iinc 1 1, 3) := by decide +kernel
theorem dX3_forgetCells_33 : decode cX3_forgetCells 33 = .ok (.goto (-21), 3) := by decide +kernel
theorem dX3_forgetCells_36 : decode cX3_forgetCells 36 = .ok (.return_, 1) := by decide +kernel
theorem dX3_countCell_0 : decode cX3_countCell 0 = .ok (.aload_n 0, 1) := by decide +kernel
theorem dX3_countCell_1 : decode cX3_countCell 1 = .ok (.dup, 1) := by decide +kernel
theorem dX3_countCell_2 : decode cX3_countCell 2 = .ok (.getfield 25, 3) := by decide +kernel
theorem dX3_countCell_5 : decode cX3_countCell 5 = .ok (.iconst 1, 1) := by decide +kernel
theorem dX3_countCell_6 : decode cX3_countCell 6 = .ok (.iadd, 1) := by decide +kernel
theorem dX3_countCell_7 : decode cX3_countCell 7 = .ok (.putfield 25, 3) := by decide +kernel
theorem dX3_countCell_10 : decode cX3_countCell 10 = .ok (.aload_n 0, 1) := by decide +kernel
theorem dX3_countCell_11 : decode cX3_countCell 11 = .ok (.dup, 1) := by decide +kernel
theorem dX3_countCell_12 : decode cX3_countCell 12 = .ok (.getfield 28, 3) := by decide +kernel
theorem dX3_countCell_15 : decode cX3_countCell 15 = .ok (.iload 4, 2) := by decide +kernel
theorem dX3_countCell_17 : decode cX3_countCell 17 = .ok (.ifCond .eq 7, 3) := by decide +kernel
theorem dX3_countCell_20 : decode cX3_countCell 20 = .ok (.iconst 1, 1) := by decide +kernel
theorem dX3_countCell_21 : decode cX3_countCell 21 = .ok (.goto 4, 3) := by decide +kernel
theorem dX3_countCell_24 : decode cX3_countCell 24 = .ok (.iconst 0, 1) := by decide +kernel
theorem dX3_countCell_25 : decode cX3_countCell 25 = .ok (.iadd, 1) := by decide +kernel
theorem dX3_countCell_26 : decode cX3_countCell 26 = .ok (.putfield 28, 3) := by decide +kernel
theorem dX3_countCell_29 : decode cX3_countCell 29 = .ok (.iconst 0, 1) := by decide +kernel
theorem dX3_countCell_30 : decode cX3_countCell 30 = .ok (.istore 5, 2) := by decide +kernel
theorem dX3_countCell_32 : decode cX3_countCell 32 = .ok (.iload 5, 2) := by decide +kernel
theorem dX3_countCell_34 : decode cX3_countCell 34 = .ok (.aload_n 0, 1) := by decide +kernel
theorem dX3_countCell_35 : decode cX3_countCell 35 = .ok (.getfield 22, 3) := by decide +kernel
theorem dX3_countCell_38 : decode cX3_countCell 38 = .ok (.if_icmp .ge 41, 3) := by decide +kernel
theorem dX3_countCell_41 : decode cX3_countCell 41 = .ok (.aload_n 0, 1) := by decide +kernel
theorem dX3_countCell_42 : decode cX3_countCell 42 = .ok (.getfield 11, 3) := by decide +kernel
theorem dX3_countCell_45 : decode cX3_countCell 45 = .ok (.iload 5, 2) := by decide +kernel
theorem dX3_countCell_47 : decode cX3_countCell 47 = .ok (.aaload, 1) := by decide +kernel
theorem dX3_countCell_48 : decode cX3_countCell 48 = .ok (.iload_n 1, 1) := by decide +kernel
theorem dX3_countCell_49 : decode cX3_countCell 49 = .ok (.iload_n 2, 1) := by decide +kernel
theorem dX3_countCell_50 : decode cX3_countCell 50 = .ok (.iload_n 3, 1) := by decide +kernel
theorem dX3_countCell_51 : decode cX3_countCell 51 = .ok (.invokevirtual 34, 3) := by decide +kernel
theorem dX3_countCell_54 : decode cX3_countCell 54 = .ok (.ifCond .eq 19, 3) := by decide +kernel
theorem dX3_countCell_57 : decode cX3_countCell 57 = .ok (.aload_n 0, 1) := by decide +kernel
theorem dX3_countCell_58 : decode cX3_countCell 58 = .ok (.getfield 11, 3) := by decide +kernel
theorem dX3_countCell_61 : decode cX3_countCell 61 = .ok (.iload 5, 2) := by decide +kernel
theorem dX3_countCell_63 : decode cX3_countCell 63 = .ok (.aaload, 1) := by decide +kernel
theorem dX3_countCell_64 : decode cX3_countCell 64 = .ok (.dup, 1) := by decide +kernel
theorem dX3_countCell_65 : decode cX3_countCell 65 = .ok (.getfield 31, 3) := by decide +kernel
theorem dX3_countCell_68 : decode cX3_countCell 68 = .ok (.iconst 1, 1) := by decide +kernel
theorem dX3_countCell_69 : decode cX3_countCell 69 = .ok (.iadd, 1) := by decide +kernel
theorem dX3_countCell_70 : decode cX3_countCell 70 = .ok (.putfield 31, 3) := by decide +kernel
theorem dX3_countCell_73 : decode cX3_countCell 73 = .ok (.iinc 5 1, 3) := by decide +kernel
theorem dX3_countCell_76 : decode cX3_countCell 76 = .ok (.goto (-44), 3) := by decide +kernel
theorem dX3_countCell_79 : decode cX3_countCell 79 = .ok (.return_, 1) := by decide +kernel
theorem dX3_keep_0 : decode cX3_keep 0 = .ok (.aload_n 0, 1) := by decide +kernel
theorem dX3_keep_1 : decode cX3_keep 1 = .ok (.getfield 22, 3) := by decide +kernel
theorem dX3_keep_4 : decode cX3_keep 4 = .ok (.bipush 16, 2) := by decide +kernel
theorem dX3_keep_6 : decode cX3_keep 6 = .ok (.if_icmp .ge 30, 3) := by decide +kernel
theorem dX3_keep_9 : decode cX3_keep 9 = .ok (.aload_n 0, 1) := by decide +kernel
theorem dX3_keep_10 : decode cX3_keep 10 = .ok (.getfield 11, 3) := by decide +kernel
theorem dX3_keep_13 : decode cX3_keep 13 = .ok (.aload_n 0, 1) := by decide +kernel
theorem dX3_keep_14 : decode cX3_keep 14 = .ok (.getfield 22, 3) := by decide +kernel
theorem dX3_keep_17 : decode cX3_keep 17 = .ok (.aaload, 1) := by decide +kernel
theorem dX3_keep_18 : decode cX3_keep 18 = .ok (.iload_n 1, 1) := by decide +kernel
theorem dX3_keep_19 : decode cX3_keep 19 = .ok (.iload_n 2, 1) := by decide +kernel
theorem dX3_keep_20 : decode cX3_keep 20 = .ok (.iload_n 3, 1) := by decide +kernel
theorem dX3_keep_21 : decode cX3_keep 21 = .ok (.iload 4, 2) := by decide +kernel
theorem dX3_keep_23 : decode cX3_keep 23 = .ok (.invokevirtual 38, 3) := by decide +kernel
theorem dX3_keep_26 : decode cX3_keep 26 = .ok (.aload_n 0, 1) := by decide +kernel
theorem dX3_keep_27 : decode cX3_keep 27 = .ok (.dup, 1) := by decide +kernel
theorem dX3_keep_28 : decode cX3_keep 28 = .ok (.getfield 22, 3) := by decide +kernel
theorem dX3_keep_31 : decode cX3_keep 31 = .ok (.iconst 1, 1) := by decide +kernel
theorem dX3_keep_32 : decode cX3_keep 32 = .ok (.iadd, 1) := by decide +kernel
theorem dX3_keep_33 : decode cX3_keep 33 = .ok (.putfield 22, 3) := by decide +kernel
theorem dX3_keep_36 : decode cX3_keep 36 = .ok (.return_, 1) := by decide +kernel
theorem dX3_facets_0 : decode cX3_facets 0 = .ok (.iconst 0, 1) := by decide +kernel
theorem dX3_facets_1 : decode cX3_facets 1 = .ok (.istore_n 2, 1) := by decide +kernel
theorem dX3_facets_2 : decode cX3_facets 2 = .ok (.iconst 0, 1) := by decide +kernel
theorem dX3_facets_3 : decode cX3_facets 3 = .ok (.istore_n 3, 1) := by decide +kernel
theorem dX3_facets_4 : decode cX3_facets 4 = .ok (.iload_n 3, 1) := by decide +kernel
theorem dX3_facets_5 : decode cX3_facets 5 = .ok (.aload_n 0, 1) := by decide +kernel
theorem dX3_facets_6 : decode cX3_facets 6 = .ok (.getfield 22, 3) := by decide +kernel
theorem dX3_facets_9 : decode cX3_facets 9 = .ok (.if_icmp .ge 40, 3) := by decide +kernel
theorem dX3_facets_12 : decode cX3_facets 12 = .ok (.aload_n 0, 1) := by decide +kernel
theorem dX3_facets_13 : decode cX3_facets 13 = .ok (.getfield 11, 3) := by decide +kernel
theorem dX3_facets_16 : decode cX3_facets 16 = .ok (.iload_n 3, 1) := by decide +kernel
theorem dX3_facets_17 : decode cX3_facets 17 = .ok (.aaload, 1) := by decide +kernel
theorem dX3_facets_18 : decode cX3_facets 18 = .ok (.invokevirtual 42, 3) := by decide +kernel
theorem dX3_facets_21 : decode cX3_facets 21 = .ok (.ifCond .eq 22, 3) := by decide +kernel
theorem dX3_facets_24 : decode cX3_facets 24 = .ok (.aload_n 0, 1) := by decide +kernel
theorem dX3_facets_25 : decode cX3_facets 25 = .ok (.getfield 11, 3) := by decide +kernel
theorem dX3_facets_28 : decode cX3_facets 28 = .ok (.iload_n 3, 1) := by decide +kernel
theorem dX3_facets_29 : decode cX3_facets 29 = .ok (.aaload, 1) := by decide +kernel
theorem dX3_facets_30 : decode cX3_facets 30 = .ok (.getfield 46, 3) := by decide +kernel
theorem dX3_facets_33 : decode cX3_facets 33 = .ok (.ifCond .ne 7, 3) := by decide +kernel
theorem dX3_facets_36 : decode cX3_facets 36 = .ok (.iload_n 1, 1) := by decide +kernel
theorem dX3_facets_37 : decode cX3_facets 37 = .ok (.ifCond .ne 6, 3) := by decide +kernel
theorem dX3_facets_40 : decode cX3_facets 40 = .ok (.iinc 2 1, 3) := by decide +kernel
theorem dX3_facets_43 : decode cX3_facets 43 = .ok (.iinc 3 1, 3) := by decide +kernel
theorem dX3_facets_46 : decode cX3_facets 46 = .ok (.goto (-42), 3) := by decide +kernel
theorem dX3_facets_49 : decode cX3_facets 49 = .ok (.iload_n 2, 1) := by decide +kernel
theorem dX3_facets_50 : decode cX3_facets 50 = .ok (.ireturn, 1) := by decide +kernel
theorem dX3_oppositePairs_0 : decode cX3_oppositePairs 0 = .ok (.iconst 0, 1) := by decide +kernel
theorem dX3_oppositePairs_1 : decode cX3_oppositePairs 1 = .ok (.istore_n 1, 1) := by decide +kernel
theorem dX3_oppositePairs_2 : decode cX3_oppositePairs 2 = .ok (.iconst 0, 1) := by decide +kernel
theorem dX3_oppositePairs_3 : decode cX3_oppositePairs 3 = .ok (.istore_n 2, 1) := by decide +kernel
theorem dX3_oppositePairs_4 : decode cX3_oppositePairs 4 = .ok (.iload_n 2, 1) := by decide +kernel
theorem dX3_oppositePairs_5 : decode cX3_oppositePairs 5 = .ok (.aload_n 0, 1) := by decide +kernel
theorem dX3_oppositePairs_6 : decode cX3_oppositePairs 6 = .ok (.getfield 22, 3) := by decide +kernel
theorem dX3_oppositePairs_9 : decode cX3_oppositePairs 9 = .ok (.if_icmp .ge 72, 3) := by decide +kernel
theorem dX3_oppositePairs_12 : decode cX3_oppositePairs 12 = .ok (.iload_n 2, 1) := by decide +kernel
theorem dX3_oppositePairs_13 : decode cX3_oppositePairs 13 = .ok (.iconst 1, 1) := by decide +kernel
theorem dX3_oppositePairs_14 : decode cX3_oppositePairs 14 = .ok (.iadd, 1) := by decide +kernel
theorem dX3_oppositePairs_15 : decode cX3_oppositePairs 15 = .ok (.istore_n 3, 1) := by decide +kernel
theorem dX3_oppositePairs_16 : decode cX3_oppositePairs 16 = .ok (.iload_n 3, 1) := by decide +kernel
theorem dX3_oppositePairs_17 : decode cX3_oppositePairs 17 = .ok (.aload_n 0, 1) := by decide +kernel
theorem dX3_oppositePairs_18 : decode cX3_oppositePairs 18 = .ok (.getfield 22, 3) := by decide +kernel
theorem dX3_oppositePairs_21 : decode cX3_oppositePairs 21 = .ok (.if_icmp .ge 54, 3) := by decide +kernel
theorem dX3_oppositePairs_24 : decode cX3_oppositePairs 24 = .ok (.aload_n 0, 1) := by decide +kernel
theorem dX3_oppositePairs_25 : decode cX3_oppositePairs 25 = .ok (.getfield 11, 3) := by decide +kernel
theorem dX3_oppositePairs_28 : decode cX3_oppositePairs 28 = .ok (.iload_n 2, 1) := by decide +kernel
theorem dX3_oppositePairs_29 : decode cX3_oppositePairs 29 = .ok (.aaload, 1) := by decide +kernel
theorem dX3_oppositePairs_30 : decode cX3_oppositePairs 30 = .ok (.invokevirtual 42, 3) := by decide +kernel
theorem dX3_oppositePairs_33 : decode cX3_oppositePairs 33 = .ok (.ifCond .eq 36, 3) := by decide +kernel
theorem dX3_oppositePairs_36 : decode cX3_oppositePairs 36 = .ok (.aload_n 0, 1) := by decide +kernel
theorem dX3_oppositePairs_37 : decode cX3_oppositePairs 37 = .ok (.getfield 11, 3) := by decide +kernel
theorem dX3_oppositePairs_40 : decode cX3_oppositePairs 40 = .ok (.iload_n 3, 1) := by decide +kernel
theorem dX3_oppositePairs_41 : decode cX3_oppositePairs 41 = .ok (.aaload, 1) := by decide +kernel
theorem dX3_oppositePairs_42 : decode cX3_oppositePairs 42 = .ok (.invokevirtual 42, 3) := by decide +kernel
theorem dX3_oppositePairs_45 : decode cX3_oppositePairs 45 = .ok (.ifCond .eq 24, 3) := by decide +kernel
theorem dX3_oppositePairs_48 : decode cX3_oppositePairs 48 = .ok (.aload_n 0, 1) := by decide +kernel
theorem dX3_oppositePairs_49 : decode cX3_oppositePairs 49 = .ok (.getfield 11, 3) := by decide +kernel
theorem dX3_oppositePairs_52 : decode cX3_oppositePairs 52 = .ok (.iload_n 2, 1) := by decide +kernel
theorem dX3_oppositePairs_53 : decode cX3_oppositePairs 53 = .ok (.aaload, 1) := by decide +kernel
theorem dX3_oppositePairs_54 : decode cX3_oppositePairs 54 = .ok (.aload_n 0, 1) := by decide +kernel
theorem dX3_oppositePairs_55 : decode cX3_oppositePairs 55 = .ok (.getfield 11, 3) := by decide +kernel
theorem dX3_oppositePairs_58 : decode cX3_oppositePairs 58 = .ok (.iload_n 3, 1) := by decide +kernel
theorem dX3_oppositePairs_59 : decode cX3_oppositePairs 59 = .ok (.aaload, 1) := by decide +kernel
theorem dX3_oppositePairs_60 : decode cX3_oppositePairs 60 = .ok (.invokevirtual 50, 3) := by decide +kernel
theorem dX3_oppositePairs_63 : decode cX3_oppositePairs 63 = .ok (.ifCond .eq 6, 3) := by decide +kernel
theorem dX3_oppositePairs_66 : decode cX3_oppositePairs 66 = .ok (.iinc 1 1, 3) := by decide +kernel
theorem dX3_oppositePairs_69 : decode cX3_oppositePairs 69 = .ok (.iinc 3 1, 3) := by decide +kernel
theorem dX3_oppositePairs_72 : decode cX3_oppositePairs 72 = .ok (.goto (-56), 3) := by decide +kernel
theorem dX3_oppositePairs_75 : decode cX3_oppositePairs 75 = .ok (.iinc 2 1, 3) := by decide +kernel
theorem dX3_oppositePairs_78 : decode cX3_oppositePairs 78 = .ok (.goto (-74), 3) := by decide +kernel
theorem dX3_oppositePairs_81 : decode cX3_oppositePairs 81 = .ok (.iload_n 1, 1) := by decide +kernel
theorem dX3_oppositePairs_82 : decode cX3_oppositePairs 82 = .ok (.ireturn, 1) := by decide +kernel
theorem dX4_init_0 : decode cX4_init 0 = .ok (.aload_n 0, 1) := by decide +kernel
theorem dX4_init_1 : decode cX4_init 1 = .ok (.invokespecial 3, 3) := by decide +kernel
theorem dX4_init_4 : decode cX4_init 4 = .ok (.aload_n 0, 1) := by decide +kernel
theorem dX4_init_5 : decode cX4_init 5 = .ok (.new 9, 3) := by decide +kernel
theorem dX4_init_8 : decode cX4_init 8 = .ok (.dup, 1) := by decide +kernel
theorem dX4_init_9 : decode cX4_init 9 = .ok (.invokespecial 11, 3) := by decide +kernel
theorem dX4_init_12 : decode cX4_init 12 = .ok (.putfield 12, 3) := by decide +kernel
theorem dX4_init_15 : decode cX4_init 15 = .ok (.aload_n 0, 1) := by decide +kernel
theorem dX4_init_16 : decode cX4_init 16 = .ok (.sipush 1000, 3) := by decide +kernel
theorem dX4_init_19 : decode cX4_init 19 = .ok (.newarray .int, 2) := by decide +kernel
theorem dX4_init_21 : decode cX4_init 21 = .ok (.putfield 18, 3) := by decide +kernel
theorem dX4_init_24 : decode cX4_init 24 = .ok (.aload_n 0, 1) := by decide +kernel
theorem dX4_init_25 : decode cX4_init 25 = .ok (.sipush 163, 3) := by decide +kernel
theorem dX4_init_28 : decode cX4_init 28 = .ok (.newarray .int, 2) := by decide +kernel
theorem dX4_init_30 : decode cX4_init 30 = .ok (.putfield 22, 3) := by decide +kernel
theorem dX4_init_33 : decode cX4_init 33 = .ok (.aload_n 0, 1) := by decide +kernel
theorem dX4_init_34 : decode cX4_init 34 = .ok (.bipush 16, 2) := by decide +kernel
theorem dX4_init_36 : decode cX4_init 36 = .ok (.newarray .int, 2) := by decide +kernel
theorem dX4_init_38 : decode cX4_init 38 = .ok (.putfield 25, 3) := by decide +kernel
theorem dX4_init_41 : decode cX4_init 41 = .ok (.aload_n 0, 1) := by decide +kernel
theorem dX4_init_42 : decode cX4_init 42 = .ok (.aload_n 1, 1) := by decide +kernel
theorem dX4_init_43 : decode cX4_init 43 = .ok (.putfield 28, 3) := by decide +kernel
theorem dX4_init_46 : decode cX4_init 46 = .ok (.aload_n 0, 1) := by decide +kernel
theorem dX4_init_47 : decode cX4_init 47 = .ok (.aload_n 2, 1) := by decide +kernel
theorem dX4_init_48 : decode cX4_init 48 = .ok (.putfield 32, 3) := by decide +kernel
theorem dX4_init_51 : decode cX4_init 51 = .ok (.return_, 1) := by decide +kernel
theorem dX4_level_0 : decode cX4_level 0 = .ok (.aload_n 0, 1) := by decide +kernel
theorem dX4_level_1 : decode cX4_level 1 = .ok (.aload_n 1, 1) := by decide +kernel
theorem dX4_level_2 : decode cX4_level 2 = .ok (.putfield 32, 3) := by decide +kernel
theorem dX4_level_5 : decode cX4_level 5 = .ok (.aload_n 0, 1) := by decide +kernel
theorem dX4_level_6 : decode cX4_level 6 = .ok (.getfield 12, 3) := by decide +kernel
theorem dX4_level_9 : decode cX4_level 9 = .ok (.iload_n 2, 1) := by decide +kernel
theorem dX4_level_10 : decode cX4_level 10 = .ok (.iload_n 3, 1) := by decide +kernel
theorem dX4_level_11 : decode cX4_level 11 = .ok (.iload 4, 2) := by decide +kernel
theorem dX4_level_13 : decode cX4_level 13 = .ok (.iconst 0, 1) := by decide +kernel
theorem dX4_level_14 : decode cX4_level 14 = .ok (.invokevirtual 36, 3) := by decide +kernel
theorem dX4_level_17 : decode cX4_level 17 = .ok (.iconst 0, 1) := by decide +kernel
theorem dX4_level_18 : decode cX4_level 18 = .ok (.istore 5, 2) := by decide +kernel
theorem dX4_level_20 : decode cX4_level 20 = .ok (.iload 5, 2) := by decide +kernel
theorem dX4_level_22 : decode cX4_level 22 = .ok (.aload_n 0, 1) := by decide +kernel
theorem dX4_level_23 : decode cX4_level 23 = .ok (.getfield 22, 3) := by decide +kernel
theorem dX4_level_26 : decode cX4_level 26 = .ok (.arraylength, 1) := by decide +kernel
theorem dX4_level_27 : decode cX4_level 27 = .ok (.if_icmp .ge 17, 3) := by decide +kernel
theorem dX4_level_30 : decode cX4_level 30 = .ok (.aload_n 0, 1) := by decide +kernel
theorem dX4_level_31 : decode cX4_level 31 = .ok (.getfield 22, 3) := by decide +kernel
theorem dX4_level_34 : decode cX4_level 34 = .ok (.iload 5, 2) := by decide +kernel
theorem dX4_level_36 : decode cX4_level 36 = .ok (.iconst 0, 1) := by decide +kernel
theorem dX4_level_37 : decode cX4_level 37 = .ok (.iastore, 1) := by decide +kernel
theorem dX4_level_38 : decode cX4_level 38 = .ok (.iinc 5 1, 3) := by decide +kernel
theorem dX4_level_41 : decode cX4_level 41 = .ok (.goto (-21), 3) := by decide +kernel
theorem dX4_level_44 : decode cX4_level 44 = .ok (.iconst 0, 1) := by decide +kernel
theorem dX4_level_45 : decode cX4_level 45 = .ok (.istore 5, 2) := by decide +kernel
theorem dX4_level_47 : decode cX4_level 47 = .ok (.iconst 0, 1) := by decide +kernel
theorem dX4_level_48 : decode cX4_level 48 = .ok (.istore 6, 2) := by decide +kernel
theorem dX4_level_50 : decode cX4_level 50 = .ok (.iload 6, 2) := by decide +kernel
theorem dX4_level_52 : decode cX4_level 52 = .ok (.aload_n 0, 1) := by decide +kernel
theorem dX4_level_53 : decode cX4_level 53 = .ok (.getfield 28, 3) := by decide +kernel
theorem dX4_level_56 : decode cX4_level 56 = .ok (.getfield 40, 3) := by decide +kernel
theorem dX4_level_59 : decode cX4_level 59 = .ok (.if_icmp .ge 73, 3) := by decide +kernel
theorem dX4_level_62 : decode cX4_level 62 = .ok (.iconst 0, 1) := by decide +kernel
theorem dX4_level_63 : decode cX4_level 63 = .ok (.istore 7, 2) := by decide +kernel
theorem dX4_level_65 : decode cX4_level 65 = .ok (.iload 7, 2) := by decide +kernel
theorem dX4_level_67 : decode cX4_level 67 = .ok (.aload_n 0, 1) := by decide +kernel
theorem dX4_level_68 : decode cX4_level 68 = .ok (.getfield 28, 3) := by decide +kernel
theorem dX4_level_71 : decode cX4_level 71 = .ok (.getfield 46, 3) := by decide +kernel
theorem dX4_level_74 : decode cX4_level 74 = .ok (.if_icmp .ge 52, 3) := by decide +kernel
theorem dX4_level_77 : decode cX4_level 77 = .ok (.iconst 0, 1) := by decide +kernel
theorem dX4_level_78 : decode cX4_level 78 = .ok (.istore 8, 2) := by decide +kernel
theorem dX4_level_80 : decode cX4_level 80 = .ok (.iload 8, 2) := by decide +kernel
theorem dX4_level_82 : decode cX4_level 82 = .ok (.aload_n 0, 1) := by decide +kernel
theorem dX4_level_83 : decode cX4_level 83 = .ok (.getfield 28, 3) := by decide +kernel
theorem dX4_level_86 : decode cX4_level 86 = .ok (.getfield 49, 3) := by decide +kernel
theorem dX4_level_89 : decode cX4_level 89 = .ok (.if_icmp .ge 31, 3) := by decide +kernel
theorem dX4_level_92 : decode cX4_level 92 = .ok (.aload_n 0, 1) := by decide +kernel
theorem dX4_level_93 : decode cX4_level 93 = .ok (.iload 5, 2) := by decide +kernel
theorem dX4_level_95 : decode cX4_level 95 = .ok (.aload_n 0, 1) := by decide +kernel
theorem dX4_level_96 : decode cX4_level 96 = .ok (.getfield 12, 3) := by decide +kernel
theorem dX4_level_99 : decode cX4_level 99 = .ok (.iload 8, 2) := by decide +kernel
theorem dX4_level_101 : decode cX4_level 101 = .ok (.iload 7, 2) := by decide +kernel
theorem dX4_level_103 : decode cX4_level 103 = .ok (.iload 6, 2) := by decide +kernel
theorem dX4_level_105 : decode cX4_level 105 = .ok (.invokevirtual 52, 3) := by decide +kernel
theorem dX4_level_108 : decode cX4_level 108 = .ok (.invokevirtual 56, 3) := by decide +kernel
theorem dX4_level_111 : decode cX4_level 111 = .ok (.iinc 5 1, 3) := by decide +kernel
theorem dX4_level_114 : decode cX4_level 114 = .ok (.iinc 8 1, 3) := by decide +kernel
theorem dX4_level_117 : decode cX4_level 117 = .ok (.goto (-37), 3) := by decide +kernel
theorem dX4_level_120 : decode cX4_level 120 = .ok (.iinc 7 1, 3) := by decide +kernel
theorem dX4_level_123 : decode cX4_level 123 = .ok (.goto (-58), 3) := by decide +kernel
theorem dX4_level_126 : decode cX4_level 126 = .ok (.iinc 6 1, 3) := by decide +kernel
theorem dX4_level_129 : decode cX4_level 129 = .ok (.goto (-79), 3) := by decide +kernel
theorem dX4_level_132 : decode cX4_level 132 = .ok (.iconst 1, 1) := by decide +kernel
theorem dX4_level_133 : decode cX4_level 133 = .ok (.istore 6, 2) := by decide +kernel
theorem dX4_level_135 : decode cX4_level 135 = .ok (.iload 6, 2) := by decide +kernel
theorem dX4_level_137 : decode cX4_level 137 = .ok (.aload_n 0, 1) := by decide +kernel
theorem dX4_level_138 : decode cX4_level 138 = .ok (.getfield 22, 3) := by decide +kernel
theorem dX4_level_141 : decode cX4_level 141 = .ok (.arraylength, 1) := by decide +kernel
theorem dX4_level_142 : decode cX4_level 142 = .ok (.if_icmp .ge 28, 3) := by decide +kernel
theorem dX4_level_145 : decode cX4_level 145 = .ok (.aload_n 0, 1) := by decide +kernel
theorem dX4_level_146 : decode cX4_level 146 = .ok (.getfield 22, 3) := by decide +kernel
theorem dX4_level_149 : decode cX4_level 149 = .ok (.iload 6, 2) := by decide +kernel
theorem dX4_level_151 : decode cX4_level 151 = .ok (.dup2, 1) := by decide +kernel
theorem dX4_level_152 : decode cX4_level 152 = .ok (.iaload, 1) := by decide +kernel
theorem dX4_level_153 : decode cX4_level 153 = .ok (.aload_n 0, 1) := by decide +kernel
theorem dX4_level_154 : decode cX4_level 154 = .ok (.getfield 22, 3) := by decide +kernel
theorem dX4_level_157 : decode cX4_level 157 = .ok (.iload 6, 2) := by decide +kernel
theorem dX4_level_159 : decode cX4_level 159 = .ok (.iconst 1, 1) := by decide +kernel
theorem dX4_level_160 : decode cX4_level 160 = .ok (.isub, 1) := by decide +kernel
theorem dX4_level_161 : decode cX4_level 161 = .ok (.iaload, 1) := by decide +kernel
theorem dX4_level_162 : decode cX4_level 162 = .ok (.iadd, 1) := by decide +kernel
theorem dX4_level_163 : decode cX4_level 163 = .ok (.iastore, 1) := by decide +kernel
theorem dX4_level_164 : decode cX4_level 164 = .ok (.iinc 6 1, 3) := by decide +kernel
theorem dX4_level_167 : decode cX4_level 167 = .ok (.goto (-32), 3) := by decide +kernel
theorem dX4_level_170 : decode cX4_level 170 = .ok (.return_, 1) := by decide +kernel
theorem dX4_levelCell_0 : decode cX4_levelCell 0 = .ok (.aload_n 0, 1) := by decide +kernel
theorem dX4_levelCell_1 : decode cX4_levelCell 1 = .ok (.getfield 18, 3) := by decide +kernel
theorem dX4_levelCell_4 : decode cX4_levelCell 4 = .ok (.iload_n 1, 1) := by decide +kernel
theorem dX4_levelCell_5 : decode cX4_levelCell 5 = .ok (.iload_n 2, 1) := by decide +kernel
theorem dX4_levelCell_6 : decode cX4_levelCell 6 = .ok (.iastore, 1) := by decide +kernel
theorem dX4_levelCell_7 : decode cX4_levelCell 7 = .ok (.aload_n 0, 1) := by decide +kernel
theorem dX4_levelCell_8 : decode cX4_levelCell 8 = .ok (.getfield 28, 3) := by decide +kernel
theorem dX4_levelCell_11 : decode cX4_levelCell 11 = .ok (.getfield 60, 3) := by decide +kernel
theorem dX4_levelCell_14 : decode cX4_levelCell 14 = .ok (.iload_n 1, 1) := by decide +kernel
theorem dX4_levelCell_15 : decode cX4_levelCell 15 = .ok (.iaload, 1) := by decide +kernel
theorem dX4_levelCell_16 : decode cX4_levelCell 16 = .ok (.aload_n 0, 1) := by decide +kernel
theorem dX4_levelCell_17 : decode cX4_levelCell 17 = .ok (.getfield 32, 3) := by decide +kernel
theorem dX4_levelCell_20 : decode cX4_levelCell 20 = .ok (.getfield 63, 3) := by decide +kernel
theorem dX4_levelCell_23 : decode cX4_levelCell 23 = .ok (.if_icmp .ne 28, 3) := by decide +kernel
theorem dX4_levelCell_26 : decode cX4_levelCell 26 = .ok (.iload_n 2, 1) := by decide +kernel
theorem dX4_levelCell_27 : decode cX4_levelCell 27 = .ok (.bipush (-81), 2) := by decide +kernel
theorem dX4_levelCell_29 : decode cX4_levelCell 29 = .ok (.if_icmp .lt 22, 3) := by decide +kernel
theorem dX4_levelCell_32 : decode cX4_levelCell 32 = .ok (.iload_n 2, 1) := by decide +kernel
theorem dX4_levelCell_33 : decode cX4_levelCell 33 = .ok (.bipush 81, 2) := by decide +kernel
theorem dX4_levelCell_35 : decode cX4_levelCell 35 = .ok (.if_icmp .gt 16, 3) := by decide +kernel
theorem dX4_levelCell_38 : decode cX4_levelCell 38 = .ok (.aload_n 0, 1) := by decide +kernel
theorem dX4_levelCell_39 : decode cX4_levelCell 39 = .ok (.getfield 22, 3) := by decide +kernel
theorem dX4_levelCell_42 : decode cX4_levelCell 42 = .ok (.iload_n 2, 1) := by decide +kernel
theorem dX4_levelCell_43 : decode cX4_levelCell 43 = .ok (.bipush 81, 2) := by decide +kernel
theorem dX4_levelCell_45 : decode cX4_levelCell 45 = .ok (.iadd, 1) := by decide +kernel
theorem dX4_levelCell_46 : decode cX4_levelCell 46 = .ok (.dup2, 1) := by decide +kernel
theorem dX4_levelCell_47 : decode cX4_levelCell 47 = .ok (.iaload, 1) := by decide +kernel
theorem dX4_levelCell_48 : decode cX4_levelCell 48 = .ok (.iconst 1, 1) := by decide +kernel
theorem dX4_levelCell_49 : decode cX4_levelCell 49 = .ok (.iadd, 1) := by decide +kernel
theorem dX4_levelCell_50 : decode cX4_levelCell 50 = .ok (.iastore, 1) := by decide +kernel
theorem dX4_levelCell_51 : decode cX4_levelCell 51 = .ok (.return_, 1) := by decide +kernel
theorem dX4_aim_0 : decode cX4_aim 0 = .ok (.aload_n 0, 1) := by decide +kernel
theorem dX4_aim_1 : decode cX4_aim 1 = .ok (.aload_n 1, 1) := by decide +kernel
theorem dX4_aim_2 : decode cX4_aim 2 = .ok (.iload_n 2, 1) := by decide +kernel
theorem dX4_aim_3 : decode cX4_aim 3 = .ok (.iload_n 3, 1) := by decide +kernel
theorem dX4_aim_4 : decode cX4_aim 4 = .ok (.iload 4, 2) := by decide +kernel
theorem dX4_aim_6 : decode cX4_aim 6 = .ok (.invokevirtual 68, 3) := by decide +kernel
theorem dX4_aim_9 : decode cX4_aim 9 = .ok (.iconst 0, 1) := by decide +kernel
theorem dX4_aim_10 : decode cX4_aim 10 = .ok (.istore 5, 2) := by decide +kernel
theorem dX4_aim_12 : decode cX4_aim 12 = .ok (.iload 5, 2) := by decide +kernel
theorem dX4_aim_14 : decode cX4_aim 14 = .ok (.bipush 16, 2) := by decide +kernel
theorem dX4_aim_16 : decode cX4_aim 16 = .ok (.if_icmp .ge 19, 3) := by decide +kernel
theorem dX4_aim_19 : decode cX4_aim 19 = .ok (.aload_n 0, 1) := by decide +kernel
theorem dX4_aim_20 : decode cX4_aim 20 = .ok (.getfield 25, 3) := by decide +kernel
theorem dX4_aim_23 : decode cX4_aim 23 = .ok (.iload 5, 2) := by decide +kernel
theorem dX4_aim_25 : decode cX4_aim 25 = .ok (.sipush 1000, 3) := by decide +kernel
theorem dX4_aim_28 : decode cX4_aim 28 = .ok (.iastore, 1) := by decide +kernel
theorem dX4_aim_29 : decode cX4_aim 29 = .ok (.iinc 5 1, 3) := by decide +kernel
theorem dX4_aim_32 : decode cX4_aim 32 = .ok (.goto (-20), 3) := by decide +kernel
theorem dX4_aim_35 : decode cX4_aim 35 = .ok (.iconst 0, 1) := by decide +kernel
theorem dX4_aim_36 : decode cX4_aim 36 = .ok (.istore 5, 2) := by decide +kernel
theorem dX4_aim_38 : decode cX4_aim 38 = .ok (.iconst 0, 1) := by decide +kernel
theorem dX4_aim_39 : decode cX4_aim 39 = .ok (.istore 6, 2) := by decide +kernel
theorem dX4_aim_41 : decode cX4_aim 41 = .ok (.iload 6, 2) := by decide +kernel
theorem dX4_aim_43 : decode cX4_aim 43 = .ok (.aload_n 0, 1) := by decide +kernel
theorem dX4_aim_44 : decode cX4_aim 44 = .ok (.getfield 28, 3) := by decide +kernel
theorem dX4_aim_47 : decode cX4_aim 47 = .ok (.getfield 40, 3) := by decide +kernel
theorem dX4_aim_50 : decode cX4_aim 50 = .ok (.if_icmp .ge 91, 3) := by decide +kernel
theorem dX4_aim_53 : decode cX4_aim 53 = .ok (.iconst 0, 1) := by decide +kernel
theorem dX4_aim_54 : decode cX4_aim 54 = .ok (.istore 7, 2) := by decide +kernel
theorem dX4_aim_56 : decode cX4_aim 56 = .ok (.iload 7, 2) := by decide +kernel
theorem dX4_aim_58 : decode cX4_aim 58 = .ok (.aload_n 0, 1) := by decide +kernel
theorem dX4_aim_59 : decode cX4_aim 59 = .ok (.getfield 28, 3) := by decide +kernel
theorem dX4_aim_62 : decode cX4_aim 62 = .ok (.getfield 46, 3) := by decide +kernel
theorem dX4_aim_65 : decode cX4_aim 65 = .ok (.if_icmp .ge 70, 3) := by decide +kernel
theorem dX4_aim_68 : decode cX4_aim 68 = .ok (.iconst 0, 1) := by decide +kernel
theorem dX4_aim_69 : decode cX4_aim 69 = .ok (.istore 8, 2) := by decide +kernel
theorem dX4_aim_71 : decode cX4_aim 71 = .ok (.iload 8, 2) := by decide +kernel
theorem dX4_aim_73 : decode cX4_aim 73 = .ok (.aload_n 0, 1) := by decide +kernel
theorem dX4_aim_74 : decode cX4_aim 74 = .ok (.getfield 28, 3) := by decide +kernel
theorem dX4_aim_77 : decode cX4_aim 77 = .ok (.getfield 49, 3) := by decide +kernel
theorem dX4_aim_80 : decode cX4_aim 80 = .ok (.if_icmp .ge 49, 3) := by decide +kernel
theorem dX4_aim_83 : decode cX4_aim 83 = .ok (.aload_n 0, 1) := by decide +kernel
theorem dX4_aim_84 : decode cX4_aim 84 = .ok (.getfield 28, 3) := by decide +kernel
theorem dX4_aim_87 : decode cX4_aim 87 = .ok (.getfield 60, 3) := by decide +kernel
theorem dX4_aim_90 : decode cX4_aim 90 = .ok (.iload 5, 2) := by decide +kernel
theorem dX4_aim_92 : decode cX4_aim 92 = .ok (.iaload, 1) := by decide +kernel
theorem dX4_aim_93 : decode cX4_aim 93 = .ok (.aload_n 0, 1) := by decide +kernel
theorem dX4_aim_94 : decode cX4_aim 94 = .ok (.getfield 32, 3) := by decide +kernel
theorem dX4_aim_97 : decode cX4_aim 97 = .ok (.getfield 63, 3) := by decide +kernel
theorem dX4_aim_100 : decode cX4_aim 100 = .ok (.if_icmp .ne 20, 3) := by decide +kernel
theorem dX4_aim_103 : decode cX4_aim 103 = .ok (.aload_n 0, 1) := by decide +kernel
theorem dX4_aim_104 : decode cX4_aim 104 = .ok (.aload_n 0, 1) := by decide +kernel
theorem dX4_aim_105 : decode cX4_aim 105 = .ok (.getfield 18, 3) := by decide +kernel
theorem dX4_aim_108 : decode cX4_aim 108 = .ok (.iload 5, 2) := by decide +kernel
theorem dX4_aim_110 : decode cX4_aim 110 = .ok (.iaload, 1) := by decide +kernel
theorem dX4_aim_111 : decode cX4_aim 111 = .ok (.iload 8, 2) := by decide +kernel
theorem dX4_aim_113 : decode cX4_aim 113 = .ok (.iload 7, 2) := by decide +kernel
theorem dX4_aim_115 : decode cX4_aim 115 = .ok (.iload 6, 2) := by decide +kernel
theorem dX4_aim_117 : decode cX4_aim 117 = .ok (.invokevirtual 72, 3) := by decide +kernel
theorem dX4_aim_120 : decode cX4_aim 120 = .ok (.iinc 5 1, 3) := by decide +kernel
theorem dX4_aim_123 : decode cX4_aim 123 = .ok (.iinc 8 1, 3) := by decide +kernel
theorem dX4_aim_126 : decode cX4_aim 126 = .ok (.goto (-55), 3) := by decide +kernel
theorem dX4_aim_129 : decode cX4_aim 129 = .ok (.iinc 7 1, 3) := by decide +kernel
theorem dX4_aim_132 : decode cX4_aim 132 = .ok (.goto (-76), 3) := by decide +kernel
theorem dX4_aim_135 : decode cX4_aim 135 = .ok (.iinc 6 1, 3) := by decide +kernel
theorem dX4_aim_138 : decode cX4_aim 138 = .ok (.goto (-97), 3) := by decide +kernel
theorem dX4_aim_141 : decode cX4_aim 141 = .ok (.return_, 1) := by decide +kernel
theorem dX4_lowerFloors_0 : decode cX4_lowerFloors 0 = .ok (.iconst 0, 1) := by decide +kernel
theorem dX4_lowerFloors_1 : decode cX4_lowerFloors 1 = .ok (.istore 5, 2) := by decide +kernel
theorem dX4_lowerFloors_3 : decode cX4_lowerFloors 3 = .ok (.iload 5, 2) := by decide +kernel
theorem dX4_lowerFloors_5 : decode cX4_lowerFloors 5 = .ok (.aload_n 0, 1) := by decide +kernel
theorem dX4_lowerFloors_6 : decode cX4_lowerFloors 6 = .ok (.getfield 32, 3) := by decide +kernel
theorem dX4_lowerFloors_9 : decode cX4_lowerFloors 9 = .ok (.getfield 75, 3) := by decide +kernel
theorem dX4_lowerFloors_12 : decode cX4_lowerFloors 12 = .ok (.if_icmp .ge 48, 3) := by decide +kernel
theorem dX4_lowerFloors_15 : decode cX4_lowerFloors 15 = .ok (.iload_n 1, 1) := by decide +kernel
theorem dX4_lowerFloors_16 : decode cX4_lowerFloors 16 = .ok (.aload_n 0, 1) := by decide +kernel
theorem dX4_lowerFloors_17 : decode cX4_lowerFloors 17 = .ok (.getfield 25, 3) := by decide +kernel
theorem dX4_lowerFloors_20 : decode cX4_lowerFloors 20 = .ok (.iload 5, 2) := by decide +kernel
theorem dX4_lowerFloors_22 : decode cX4_lowerFloors 22 = .ok (.iaload, 1) := by decide +kernel
theorem dX4_lowerFloors_23 : decode cX4_lowerFloors 23 = .ok (.if_icmp .ge 31, 3) := by decide +kernel
theorem dX4_lowerFloors_26 : decode cX4_lowerFloors 26 = .ok (.aload_n 0, 1) := by decide +kernel
theorem dX4_lowerFloors_27 : decode cX4_lowerFloors 27 = .ok (.getfield 32, 3) := by decide +kernel
theorem dX4_lowerFloors_30 : decode cX4_lowerFloors 30 = .ok (.getfield 78, 3) := by decide +kernel
theorem dX4_lowerFloors_33 : decode cX4_lowerFloors 33 = .ok (.iload 5, 2) := by decide +kernel
theorem dX4_lowerFloors_35 : decode cX4_lowerFloors 35 = .ok (.aaload, 1) := by decide +kernel
theorem dX4_lowerFloors_36 : decode cX4_lowerFloors 36 = .ok (.iload_n 2, 1) := by decide +kernel
theorem dX4_lowerFloors_37 : decode cX4_lowerFloors 37 = .ok (.iload_n 3, 1) := by decide +kernel
theorem dX4_lowerFloors_38 : decode cX4_lowerFloors 38 = .ok (.iload 4, 2) := by decide +kernel
theorem dX4_lowerFloors_40 : decode cX4_lowerFloors 40 = .ok (.invokevirtual 82, 3) := by decide +kernel
theorem dX4_lowerFloors_43 : decode cX4_lowerFloors 43 = .ok (.ifCond .eq 11, 3) := by decide +kernel
theorem dX4_lowerFloors_46 : decode cX4_lowerFloors 46 = .ok (.aload_n 0, 1) := by decide +kernel
theorem dX4_lowerFloors_47 : decode cX4_lowerFloors 47 = .ok (.getfield 25, 3) := by decide +kernel
theorem dX4_lowerFloors_50 : decode cX4_lowerFloors 50 = .ok (.iload 5, 2) := by decide +kernel
theorem dX4_lowerFloors_52 : decode cX4_lowerFloors 52 = .ok (.iload_n 1, 1) := by decide +kernel
theorem dX4_lowerFloors_53 : decode cX4_lowerFloors 53 = .ok (.iastore, 1) := by decide +kernel
theorem dX4_lowerFloors_54 : decode cX4_lowerFloors 54 = .ok (.iinc 5 1, 3) := by decide +kernel
theorem dX4_lowerFloors_57 : decode cX4_lowerFloors 57 = .ok (.goto (-54), 3) := by decide +kernel
theorem dX4_lowerFloors_60 : decode cX4_lowerFloors 60 = .ok (.return_, 1) := by decide +kernel
theorem dX4_weightAt_0 : decode cX4_weightAt 0 = .ok (.iload_n 1, 1) := by decide +kernel
theorem dX4_weightAt_1 : decode cX4_weightAt 1 = .ok (.bipush (-81), 2) := by decide +kernel
theorem dX4_weightAt_3 : decode cX4_weightAt 3 = .ok (.if_icmp .ge 5, 3) := by decide +kernel
theorem dX4_weightAt_6 : decode cX4_weightAt 6 = .ok (.iconst 0, 1) := by decide +kernel
theorem dX4_weightAt_7 : decode cX4_weightAt 7 = .ok (.ireturn, 1) := by decide +kernel
theorem dX4_weightAt_8 : decode cX4_weightAt 8 = .ok (.aload_n 0, 1) := by decide +kernel
theorem dX4_weightAt_9 : decode cX4_weightAt 9 = .ok (.getfield 22, 3) := by decide +kernel
theorem dX4_weightAt_12 : decode cX4_weightAt 12 = .ok (.iload_n 1, 1) := by decide +kernel
theorem dX4_weightAt_13 : decode cX4_weightAt 13 = .ok (.bipush 81, 2) := by decide +kernel
theorem dX4_weightAt_15 : decode cX4_weightAt 15 = .ok (.invokestatic 86, 3) := by decide +kernel
theorem dX4_weightAt_18 : decode cX4_weightAt 18 = .ok (.bipush 81, 2) := by decide +kernel
theorem dX4_weightAt_20 : decode cX4_weightAt 20 = .ok (.iadd, 1) := by decide +kernel
theorem dX4_weightAt_21 : decode cX4_weightAt 21 = .ok (.iaload, 1) := by decide +kernel
theorem dX4_weightAt_22 : decode cX4_weightAt 22 = .ok (.ireturn, 1) := by decide +kernel
theorem dX4_lossAt_0 : decode cX4_lossAt 0 = .ok (.aload_n 0, 1) := by decide +kernel
theorem dX4_lossAt_1 : decode cX4_lossAt 1 = .ok (.getfield 32, 3) := by decide +kernel
theorem dX4_lossAt_4 : decode cX4_lossAt 4 = .ok (.getfield 92, 3) := by decide +kernel
theorem dX4_lossAt_7 : decode cX4_lossAt 7 = .ok (.aload_n 0, 1) := by decide +kernel
theorem dX4_lossAt_8 : decode cX4_lossAt 8 = .ok (.iload_n 1, 1) := by decide +kernel
theorem dX4_lossAt_9 : decode cX4_lossAt 9 = .ok (.invokevirtual 95, 3) := by decide +kernel
theorem dX4_lossAt_12 : decode cX4_lossAt 12 = .ok (.isub, 1) := by decide +kernel
theorem dX4_lossAt_13 : decode cX4_lossAt 13 = .ok (.ireturn, 1) := by decide +kernel
theorem dX4_giveAbove_0 : decode cX4_giveAbove 0 = .ok (.aload_n 0, 1) := by decide +kernel
theorem dX4_giveAbove_1 : decode cX4_giveAbove 1 = .ok (.getfield 28, 3) := by decide +kernel
theorem dX4_giveAbove_4 : decode cX4_giveAbove 4 = .ok (.invokevirtual 99, 3) := by decide +kernel
theorem dX4_giveAbove_7 : decode cX4_giveAbove 7 = .ok (.istore_n 3, 1) := by decide +kernel
theorem dX4_giveAbove_8 : decode cX4_giveAbove 8 = .ok (.iconst 0, 1) := by decide +kernel
theorem dX4_giveAbove_9 : decode cX4_giveAbove 9 = .ok (.istore 4, 2) := by decide +kernel
theorem dX4_giveAbove_11 : decode cX4_giveAbove 11 = .ok (.iload 4, 2) := by decide +kernel
theorem dX4_giveAbove_13 : decode cX4_giveAbove 13 = .ok (.iload_n 3, 1) := by decide +kernel
theorem dX4_giveAbove_14 : decode cX4_giveAbove 14 = .ok (.if_icmp .ge 51, 3) := by decide +kernel
theorem dX4_giveAbove_17 : decode cX4_giveAbove 17 = .ok (.aload_n 0, 1) := by decide +kernel
theorem dX4_giveAbove_18 : decode cX4_giveAbove 18 = .ok (.getfield 28, 3) := by decide +kernel
theorem dX4_giveAbove_21 : decode cX4_giveAbove 21 = .ok (.getfield 60, 3) := by decide +kernel
theorem dX4_giveAbove_24 : decode cX4_giveAbove 24 = .ok (.iload 4, 2) := by decide +kernel
theorem dX4_giveAbove_26 : decode cX4_giveAbove 26 = .ok (.iaload, 1) := by decide +kernel
theorem dX4_giveAbove_27 : decode cX4_giveAbove 27 = .ok (.aload_n 0, 1) := by decide +kernel
theorem dX4_giveAbove_28 : decode cX4_giveAbove 28 = .ok (.getfield 32, 3) := by decide +kernel
theorem dX4_giveAbove_31 : decode cX4_giveAbove 31 = .ok (.getfield 63, 3) := by decide +kernel
theorem dX4_giveAbove_34 : decode cX4_giveAbove 34 = .ok (.if_icmp .ne 25, 3) := by decide +kernel
theorem dX4_giveAbove_37 : decode cX4_giveAbove 37 = .ok (.aload_n 0, 1) := by decide +kernel
theorem dX4_giveAbove_38 : decode cX4_giveAbove 38 = .ok (.getfield 18, 3) := by decide +kernel
theorem dX4_giveAbove_41 : decode cX4_giveAbove 41 = .ok (.iload 4, 2) := by decide +kernel
theorem dX4_giveAbove_43 : decode cX4_giveAbove 43 = .ok (.iaload, 1) := by decide +kernel
theorem dX4_giveAbove_44 : decode cX4_giveAbove 44 = .ok (.iload_n 1, 1) := by decide +kernel
theorem dX4_giveAbove_45 : decode cX4_giveAbove 45 = .ok (.if_icmp .le 14, 3) := by decide +kernel
theorem dX4_giveAbove_48 : decode cX4_giveAbove 48 = .ok (.aload_n 0, 1) := by decide +kernel
theorem dX4_giveAbove_49 : decode cX4_giveAbove 49 = .ok (.getfield 28, 3) := by decide +kernel
theorem dX4_giveAbove_52 : decode cX4_giveAbove 52 = .ok (.getfield 60, 3) := by decide +kernel
theorem dX4_giveAbove_55 : decode cX4_giveAbove 55 = .ok (.iload 4, 2) := by decide +kernel
theorem dX4_giveAbove_57 : decode cX4_giveAbove 57 = .ok (.iload_n 2, 1) := by decide +kernel
theorem dX4_giveAbove_58 : decode cX4_giveAbove 58 = .ok (.iastore, 1) := by decide +kernel
theorem dX4_giveAbove_59 : decode cX4_giveAbove 59 = .ok (.iinc 4 1, 3) := by decide +kernel
theorem dX4_giveAbove_62 : decode cX4_giveAbove 62 = .ok (.goto (-51), 3) := by decide +kernel
theorem dX4_giveAbove_65 : decode cX4_giveAbove 65 = .ok (.return_, 1) := by decide +kernel
theorem dX4_wouldBeFacet_0 : decode cX4_wouldBeFacet 0 = .ok (.aload_n 0, 1) := by decide +kernel
theorem dX4_wouldBeFacet_1 : decode cX4_wouldBeFacet 1 = .ok (.iload_n 1, 1) := by decide +kernel
theorem dX4_wouldBeFacet_2 : decode cX4_wouldBeFacet 2 = .ok (.invokevirtual 95, 3) := by decide +kernel
theorem dX4_wouldBeFacet_5 : decode cX4_wouldBeFacet 5 = .ok (.aload_n 0, 1) := by decide +kernel
theorem dX4_wouldBeFacet_6 : decode cX4_wouldBeFacet 6 = .ok (.iload_n 1, 1) := by decide +kernel
theorem dX4_wouldBeFacet_7 : decode cX4_wouldBeFacet 7 = .ok (.aload_n 0, 1) := by decide +kernel
theorem dX4_wouldBeFacet_8 : decode cX4_wouldBeFacet 8 = .ok (.getfield 12, 3) := by decide +kernel
theorem dX4_wouldBeFacet_11 : decode cX4_wouldBeFacet 11 = .ok (.getfield 103, 3) := by decide +kernel
theorem dX4_wouldBeFacet_14 : decode cX4_wouldBeFacet 14 = .ok (.isub, 1) := by decide +kernel
theorem dX4_wouldBeFacet_15 : decode cX4_wouldBeFacet 15 = .ok (.invokevirtual 95, 3) := by decide +kernel
theorem dX4_wouldBeFacet_18 : decode cX4_wouldBeFacet 18 = .ok (.if_icmp .le 7, 3) := by decide +kernel
theorem dX4_wouldBeFacet_21 : decode cX4_wouldBeFacet 21 = .ok (.iconst 1, 1) := by decide +kernel
theorem dX4_wouldBeFacet_22 : decode cX4_wouldBeFacet 22 = .ok (.goto 4, 3) := by decide +kernel
theorem dX4_wouldBeFacet_25 : decode cX4_wouldBeFacet 25 = .ok (.iconst 0, 1) := by decide +kernel
theorem dX4_wouldBeFacet_26 : decode cX4_wouldBeFacet 26 = .ok (.ireturn, 1) := by decide +kernel
theorem dX4_pairsAt_0 : decode cX4_pairsAt 0 = .ok (.aload_n 0, 1) := by decide +kernel
theorem dX4_pairsAt_1 : decode cX4_pairsAt 1 = .ok (.iload_n 1, 1) := by decide +kernel
theorem dX4_pairsAt_2 : decode cX4_pairsAt 2 = .ok (.invokevirtual 106, 3) := by decide +kernel
theorem dX4_pairsAt_5 : decode cX4_pairsAt 5 = .ok (.istore_n 2, 1) := by decide +kernel
theorem dX4_pairsAt_6 : decode cX4_pairsAt 6 = .ok (.iconst 0, 1) := by decide +kernel
theorem dX4_pairsAt_7 : decode cX4_pairsAt 7 = .ok (.istore_n 3, 1) := by decide +kernel
theorem dX4_pairsAt_8 : decode cX4_pairsAt 8 = .ok (.iconst 0, 1) := by decide +kernel
theorem dX4_pairsAt_9 : decode cX4_pairsAt 9 = .ok (.istore 4, 2) := by decide +kernel
theorem dX4_pairsAt_11 : decode cX4_pairsAt 11 = .ok (.iload 4, 2) := by decide +kernel
theorem dX4_pairsAt_13 : decode cX4_pairsAt 13 = .ok (.aload_n 0, 1) := by decide +kernel
theorem dX4_pairsAt_14 : decode cX4_pairsAt 14 = .ok (.getfield 32, 3) := by decide +kernel
theorem dX4_pairsAt_17 : decode cX4_pairsAt 17 = .ok (.getfield 75, 3) := by decide +kernel
theorem dX4_pairsAt_20 : decode cX4_pairsAt 20 = .ok (.if_icmp .ge 62, 3) := by decide +kernel
theorem dX4_pairsAt_23 : decode cX4_pairsAt 23 = .ok (.aload_n 0, 1) := by decide +kernel
theorem dX4_pairsAt_24 : decode cX4_pairsAt 24 = .ok (.getfield 25, 3) := by decide +kernel
theorem dX4_pairsAt_27 : decode cX4_pairsAt 27 = .ok (.iload 4, 2) := by decide +kernel
theorem dX4_pairsAt_29 : decode cX4_pairsAt 29 = .ok (.iaload, 1) := by decide +kernel
theorem dX4_pairsAt_30 : decode cX4_pairsAt 30 = .ok (.iload_n 1, 1) := by decide +kernel
theorem dX4_pairsAt_31 : decode cX4_pairsAt 31 = .ok (.if_icmp .gt 45, 3) := by decide +kernel
theorem dX4_pairsAt_34 : decode cX4_pairsAt 34 = .ok (.iload_n 3, 1) := by decide +kernel
theorem dX4_pairsAt_35 : decode cX4_pairsAt 35 = .ok (.iload_n 2, 1) := by decide +kernel
theorem dX4_pairsAt_36 : decode cX4_pairsAt 36 = .ok (.ifCond .eq 27, 3) := by decide +kernel
theorem dX4_pairsAt_39 : decode cX4_pairsAt 39 = .ok (.aload_n 0, 1) := by decide +kernel
theorem dX4_pairsAt_40 : decode cX4_pairsAt 40 = .ok (.getfield 32, 3) := by decide +kernel
theorem dX4_pairsAt_43 : decode cX4_pairsAt 43 = .ok (.getfield 78, 3) := by decide +kernel
theorem dX4_pairsAt_46 : decode cX4_pairsAt 46 = .ok (.iload 4, 2) := by decide +kernel
theorem dX4_pairsAt_48 : decode cX4_pairsAt 48 = .ok (.aaload, 1) := by decide +kernel
theorem dX4_pairsAt_49 : decode cX4_pairsAt 49 = .ok (.aload_n 0, 1) := by decide +kernel
theorem dX4_pairsAt_50 : decode cX4_pairsAt 50 = .ok (.getfield 12, 3) := by decide +kernel
theorem dX4_pairsAt_53 : decode cX4_pairsAt 53 = .ok (.invokevirtual 110, 3) := by decide +kernel
theorem dX4_pairsAt_56 : decode cX4_pairsAt 56 = .ok (.ifCond .eq 7, 3) := by decide +kernel
theorem dX4_pairsAt_59 : decode cX4_pairsAt 59 = .ok (.iconst 1, 1) := by decide +kernel
theorem dX4_pairsAt_60 : decode cX4_pairsAt 60 = .ok (.goto 4, 3) := by decide +kernel
theorem dX4_pairsAt_63 : decode cX4_pairsAt 63 = .ok (.iconst 0, 1) := by decide +kernel
theorem dX4_pairsAt_64 : decode cX4_pairsAt 64 = .ok (.iadd, 1) := by decide +kernel
theorem dX4_pairsAt_65 : decode cX4_pairsAt 65 = .ok (.istore_n 3, 1) := by decide +kernel
theorem dX4_pairsAt_66 : decode cX4_pairsAt 66 = .ok (.iload_n 3, 1) := by decide +kernel
theorem dX4_pairsAt_67 : decode cX4_pairsAt 67 = .ok (.aload_n 0, 1) := by decide +kernel
theorem dX4_pairsAt_68 : decode cX4_pairsAt 68 = .ok (.iload 4, 2) := by decide +kernel
theorem dX4_pairsAt_70 : decode cX4_pairsAt 70 = .ok (.iload_n 1, 1) := by decide +kernel
theorem dX4_pairsAt_71 : decode cX4_pairsAt 71 = .ok (.invokevirtual 114, 3) := by decide +kernel
theorem dX4_pairsAt_74 : decode cX4_pairsAt 74 = .ok (.iadd, 1) := by decide +kernel
theorem dX4_pairsAt_75 : decode cX4_pairsAt 75 = .ok (.istore_n 3, 1) := by decide +kernel
theorem dX4_pairsAt_76 : decode cX4_pairsAt 76 = .ok (.iinc 4 1, 3) := by decide +kernel
theorem dX4_pairsAt_79 : decode cX4_pairsAt 79 = .ok (.goto (-68), 3) := by decide +kernel
theorem dX4_pairsAt_82 : decode cX4_pairsAt 82 = .ok (.iload_n 3, 1) := by decide +kernel
theorem dX4_pairsAt_83 : decode cX4_pairsAt 83 = .ok (.ireturn, 1) := by decide +kernel
theorem dX4_laterOpposites_0 : decode cX4_laterOpposites 0 = .ok (.iconst 0, 1) := by decide +kernel
theorem dX4_laterOpposites_1 : decode cX4_laterOpposites 1 = .ok (.istore_n 3, 1) := by decide +kernel
theorem dX4_laterOpposites_2 : decode cX4_laterOpposites 2 = .ok (.iload_n 1, 1) := by decide +kernel
theorem dX4_laterOpposites_3 : decode cX4_laterOpposites 3 = .ok (.iconst 1, 1) := by decide +kernel
theorem dX4_laterOpposites_4 : decode cX4_laterOpposites 4 = .ok (.iadd, 1) := by decide +kernel
theorem dX4_laterOpposites_5 : decode cX4_laterOpposites 5 = .ok (.istore 4, 2) := by decide +kernel
theorem dX4_laterOpposites_7 : decode cX4_laterOpposites 7 = .ok (.iload 4, 2) := by decide +kernel
theorem dX4_laterOpposites_9 : decode cX4_laterOpposites 9 = .ok (.aload_n 0, 1) := by decide +kernel
theorem dX4_laterOpposites_10 : decode cX4_laterOpposites 10 = .ok (.getfield 32, 3) := by decide +kernel
theorem dX4_laterOpposites_13 : decode cX4_laterOpposites 13 = .ok (.getfield 75, 3) := by decide +kernel
theorem dX4_laterOpposites_16 : decode cX4_laterOpposites 16 = .ok (.if_icmp .ge 48, 3) := by decide +kernel
theorem dX4_laterOpposites_19 : decode cX4_laterOpposites 19 = .ok (.aload_n 0, 1) := by decide +kernel
theorem dX4_laterOpposites_20 : decode cX4_laterOpposites 20 = .ok (.getfield 25, 3) := by decide +kernel
theorem dX4_laterOpposites_23 : decode cX4_laterOpposites 23 = .ok (.iload 4, 2) := by decide +kernel
theorem dX4_laterOpposites_25 : decode cX4_laterOpposites 25 = .ok (.iaload, 1) := by decide +kernel
theorem dX4_laterOpposites_26 : decode cX4_laterOpposites 26 = .ok (.iload_n 2, 1) := by decide +kernel
theorem dX4_laterOpposites_27 : decode cX4_laterOpposites 27 = .ok (.if_icmp .gt 31, 3) := by decide +kernel
theorem dX4_laterOpposites_30 : decode cX4_laterOpposites 30 = .ok (.aload_n 0, 1) := by decide +kernel
theorem dX4_laterOpposites_31 : decode cX4_laterOpposites 31 = .ok (.getfield 32, 3) := by decide +kernel
theorem dX4_laterOpposites_34 : decode cX4_laterOpposites 34 = .ok (.getfield 78, 3) := by decide +kernel
theorem dX4_laterOpposites_37 : decode cX4_laterOpposites 37 = .ok (.iload_n 1, 1) := by decide +kernel
theorem dX4_laterOpposites_38 : decode cX4_laterOpposites 38 = .ok (.aaload, 1) := by decide +kernel
theorem dX4_laterOpposites_39 : decode cX4_laterOpposites 39 = .ok (.aload_n 0, 1) := by decide +kernel
theorem dX4_laterOpposites_40 : decode cX4_laterOpposites 40 = .ok (.getfield 32, 3) := by decide +kernel
theorem dX4_laterOpposites_43 : decode cX4_laterOpposites 43 = .ok (.getfield 78, 3) := by decide +kernel
theorem dX4_laterOpposites_46 : decode cX4_laterOpposites 46 = .ok (.iload 4, 2) := by decide +kernel
theorem dX4_laterOpposites_48 : decode cX4_laterOpposites 48 = .ok (.aaload, 1) := by decide +kernel
theorem dX4_laterOpposites_49 : decode cX4_laterOpposites 49 = .ok (.invokevirtual 110, 3) := by decide +kernel
theorem dX4_laterOpposites_52 : decode cX4_laterOpposites 52 = .ok (.ifCond .eq 6, 3) := by decide +kernel
theorem dX4_laterOpposites_55 : decode cX4_laterOpposites 55 = .ok (.iinc 3 1, 3) := by decide +kernel
theorem dX4_laterOpposites_58 : decode cX4_laterOpposites 58 = .ok (.iinc 4 1, 3) := by decide +kernel
theorem dX4_laterOpposites_61 : decode cX4_laterOpposites 61 = .ok (.goto (-54), 3) := by decide +kernel
theorem dX4_laterOpposites_64 : decode cX4_laterOpposites 64 = .ok (.iload_n 3, 1) := by decide +kernel
theorem dX4_laterOpposites_65 : decode cX4_laterOpposites 65 = .ok (.ireturn, 1) := by decide +kernel
theorem dX4_polishedAt_0 : decode cX4_polishedAt 0 = .ok (.iconst 0, 1) := by decide +kernel
theorem dX4_polishedAt_1 : decode cX4_polishedAt 1 = .ok (.istore_n 2, 1) := by decide +kernel
theorem dX4_polishedAt_2 : decode cX4_polishedAt 2 = .ok (.iconst 0, 1) := by decide +kernel
theorem dX4_polishedAt_3 : decode cX4_polishedAt 3 = .ok (.istore_n 3, 1) := by decide +kernel
theorem dX4_polishedAt_4 : decode cX4_polishedAt 4 = .ok (.iload_n 3, 1) := by decide +kernel
theorem dX4_polishedAt_5 : decode cX4_polishedAt 5 = .ok (.aload_n 0, 1) := by decide +kernel
theorem dX4_polishedAt_6 : decode cX4_polishedAt 6 = .ok (.getfield 32, 3) := by decide +kernel
theorem dX4_polishedAt_9 : decode cX4_polishedAt 9 = .ok (.getfield 75, 3) := by decide +kernel
theorem dX4_polishedAt_12 : decode cX4_polishedAt 12 = .ok (.if_icmp .ge 37, 3) := by decide +kernel
theorem dX4_polishedAt_15 : decode cX4_polishedAt 15 = .ok (.aload_n 0, 1) := by decide +kernel
theorem dX4_polishedAt_16 : decode cX4_polishedAt 16 = .ok (.getfield 25, 3) := by decide +kernel
theorem dX4_polishedAt_19 : decode cX4_polishedAt 19 = .ok (.iload_n 3, 1) := by decide +kernel
theorem dX4_polishedAt_20 : decode cX4_polishedAt 20 = .ok (.iaload, 1) := by decide +kernel
theorem dX4_polishedAt_21 : decode cX4_polishedAt 21 = .ok (.iload_n 1, 1) := by decide +kernel
theorem dX4_polishedAt_22 : decode cX4_polishedAt 22 = .ok (.if_icmp .gt 21, 3) := by decide +kernel
theorem dX4_polishedAt_25 : decode cX4_polishedAt 25 = .ok (.aload_n 0, 1) := by decide +kernel
theorem dX4_polishedAt_26 : decode cX4_polishedAt 26 = .ok (.getfield 32, 3) := by decide +kernel
theorem dX4_polishedAt_29 : decode cX4_polishedAt 29 = .ok (.getfield 78, 3) := by decide +kernel
theorem dX4_polishedAt_32 : decode cX4_polishedAt 32 = .ok (.iload_n 3, 1) := by decide +kernel
theorem dX4_polishedAt_33 : decode cX4_polishedAt 33 = .ok (.aaload, 1) := by decide +kernel
theorem dX4_polishedAt_34 : decode cX4_polishedAt 34 = .ok (.getfield 117, 3) := by decide +kernel
theorem dX4_polishedAt_37 : decode cX4_polishedAt 37 = .ok (.ifCond .eq 6, 3) := by decide +kernel
theorem dX4_polishedAt_40 : decode cX4_polishedAt 40 = .ok (.iinc 2 1, 3) := by decide +kernel
theorem dX4_polishedAt_43 : decode cX4_polishedAt 43 = .ok (.iinc 3 1, 3) := by decide +kernel
theorem dX4_polishedAt_46 : decode cX4_polishedAt 46 = .ok (.goto (-42), 3) := by decide +kernel
theorem dX4_polishedAt_49 : decode cX4_polishedAt 49 = .ok (.iload_n 2, 1) := by decide +kernel
theorem dX4_polishedAt_50 : decode cX4_polishedAt 50 = .ok (.ireturn, 1) := by decide +kernel
theorem dX4_stateAt_0 : decode cX4_stateAt 0 = .ok (.iconst (-1), 1) := by decide +kernel
theorem dX4_stateAt_1 : decode cX4_stateAt 1 = .ok (.istore_n 3, 1) := by decide +kernel
theorem dX4_stateAt_2 : decode cX4_stateAt 2 = .ok (.iconst 0, 1) := by decide +kernel
theorem dX4_stateAt_3 : decode cX4_stateAt 3 = .ok (.istore 4, 2) := by decide +kernel
theorem dX4_stateAt_5 : decode cX4_stateAt 5 = .ok (.iload 4, 2) := by decide +kernel
theorem dX4_stateAt_7 : decode cX4_stateAt 7 = .ok (.aload_n 1, 1) := by decide +kernel
theorem dX4_stateAt_8 : decode cX4_stateAt 8 = .ok (.getfield 121, 3) := by decide +kernel
theorem dX4_stateAt_11 : decode cX4_stateAt 11 = .ok (.if_icmp .ge 85, 3) := by decide +kernel
theorem dX4_stateAt_14 : decode cX4_stateAt 14 = .ok (.aload_n 1, 1) := by decide +kernel
theorem dX4_stateAt_15 : decode cX4_stateAt 15 = .ok (.getfield 126, 3) := by decide +kernel
theorem dX4_stateAt_18 : decode cX4_stateAt 18 = .ok (.iload 4, 2) := by decide +kernel
theorem dX4_stateAt_20 : decode cX4_stateAt 20 = .ok (.iaload, 1) := by decide +kernel
theorem dX4_stateAt_21 : decode cX4_stateAt 21 = .ok (.istore 5, 2) := by decide +kernel
theorem dX4_stateAt_23 : decode cX4_stateAt 23 = .ok (.aload_n 0, 1) := by decide +kernel
theorem dX4_stateAt_24 : decode cX4_stateAt 24 = .ok (.getfield 28, 3) := by decide +kernel
theorem dX4_stateAt_27 : decode cX4_stateAt 27 = .ok (.getfield 60, 3) := by decide +kernel
theorem dX4_stateAt_30 : decode cX4_stateAt 30 = .ok (.iload 5, 2) := by decide +kernel
theorem dX4_stateAt_32 : decode cX4_stateAt 32 = .ok (.iaload, 1) := by decide +kernel
theorem dX4_stateAt_33 : decode cX4_stateAt 33 = .ok (.aload_n 0, 1) := by decide +kernel
theorem dX4_stateAt_34 : decode cX4_stateAt 34 = .ok (.getfield 32, 3) := by decide +kernel
theorem dX4_stateAt_37 : decode cX4_stateAt 37 = .ok (.getfield 63, 3) := by decide +kernel
theorem dX4_stateAt_40 : decode cX4_stateAt 40 = .ok (.if_icmp .ne 50, 3) := by decide +kernel
theorem dX4_stateAt_43 : decode cX4_stateAt 43 = .ok (.aload_n 0, 1) := by decide +kernel
theorem dX4_stateAt_44 : decode cX4_stateAt 44 = .ok (.getfield 18, 3) := by decide +kernel
theorem dX4_stateAt_47 : decode cX4_stateAt 47 = .ok (.iload 5, 2) := by decide +kernel
theorem dX4_stateAt_49 : decode cX4_stateAt 49 = .ok (.iaload, 1) := by decide +kernel
theorem dX4_stateAt_50 : decode cX4_stateAt 50 = .ok (.iload_n 2, 1) := by decide +kernel
theorem dX4_stateAt_51 : decode cX4_stateAt 51 = .ok (.if_icmp .gt 39, 3) := by decide +kernel
theorem dX4_stateAt_54 : decode cX4_stateAt 54 = .ok (.aload_n 0, 1) := by decide +kernel
theorem dX4_stateAt_55 : decode cX4_stateAt 55 = .ok (.getfield 28, 3) := by decide +kernel
theorem dX4_stateAt_58 : decode cX4_stateAt 58 = .ok (.getfield 129, 3) := by decide +kernel
theorem dX4_stateAt_61 : decode cX4_stateAt 61 = .ok (.iload 5, 2) := by decide +kernel
theorem dX4_stateAt_63 : decode cX4_stateAt 63 = .ok (.baload, 1) := by decide +kernel
theorem dX4_stateAt_64 : decode cX4_stateAt 64 = .ok (.ifCond .ne 22, 3) := by decide +kernel
theorem dX4_stateAt_67 : decode cX4_stateAt 67 = .ok (.aload_n 0, 1) := by decide +kernel
theorem dX4_stateAt_68 : decode cX4_stateAt 68 = .ok (.getfield 18, 3) := by decide +kernel
theorem dX4_stateAt_71 : decode cX4_stateAt 71 = .ok (.iload 5, 2) := by decide +kernel
theorem dX4_stateAt_73 : decode cX4_stateAt 73 = .ok (.iaload, 1) := by decide +kernel
theorem dX4_stateAt_74 : decode cX4_stateAt 74 = .ok (.aload_n 0, 1) := by decide +kernel
theorem dX4_stateAt_75 : decode cX4_stateAt 75 = .ok (.getfield 12, 3) := by decide +kernel
theorem dX4_stateAt_78 : decode cX4_stateAt 78 = .ok (.getfield 103, 3) := by decide +kernel
theorem dX4_stateAt_81 : decode cX4_stateAt 81 = .ok (.iadd, 1) := by decide +kernel
theorem dX4_stateAt_82 : decode cX4_stateAt 82 = .ok (.iload_n 2, 1) := by decide +kernel
theorem dX4_stateAt_83 : decode cX4_stateAt 83 = .ok (.if_icmp .le 5, 3) := by decide +kernel
theorem dX4_stateAt_86 : decode cX4_stateAt 86 = .ok (.iconst 1, 1) := by decide +kernel
theorem dX4_stateAt_87 : decode cX4_stateAt 87 = .ok (.ireturn, 1) := by decide +kernel
theorem dX4_stateAt_88 : decode cX4_stateAt 88 = .ok (.iconst 0, 1) := by decide +kernel
theorem dX4_stateAt_89 : decode cX4_stateAt 89 = .ok (.istore_n 3, 1) := by decide +kernel
theorem dX4_stateAt_90 : decode cX4_stateAt 90 = .ok (.iinc 4 1, 3) := by decide +kernel
theorem dX4_stateAt_93 : decode cX4_stateAt 93 = .ok (.goto (-88), 3) := by decide +kernel
theorem dX4_stateAt_96 : decode cX4_stateAt 96 = .ok (.iload_n 3, 1) := by decide +kernel
theorem dX4_stateAt_97 : decode cX4_stateAt 97 = .ok (.ireturn, 1) := by decide +kernel
theorem dX4_openFlawsAt_0 : decode cX4_openFlawsAt 0 = .ok (.iconst 0, 1) := by decide +kernel
theorem dX4_openFlawsAt_1 : decode cX4_openFlawsAt 1 = .ok (.istore_n 2, 1) := by decide +kernel
theorem dX4_openFlawsAt_2 : decode cX4_openFlawsAt 2 = .ok (.iconst 0, 1) := by decide +kernel
theorem dX4_openFlawsAt_3 : decode cX4_openFlawsAt 3 = .ok (.istore_n 3, 1) := by decide +kernel
theorem dX4_openFlawsAt_4 : decode cX4_openFlawsAt 4 = .ok (.iload_n 3, 1) := by decide +kernel
theorem dX4_openFlawsAt_5 : decode cX4_openFlawsAt 5 = .ok (.aload_n 0, 1) := by decide +kernel
theorem dX4_openFlawsAt_6 : decode cX4_openFlawsAt 6 = .ok (.getfield 28, 3) := by decide +kernel
theorem dX4_openFlawsAt_9 : decode cX4_openFlawsAt 9 = .ok (.getfield 133, 3) := by decide +kernel
theorem dX4_openFlawsAt_12 : decode cX4_openFlawsAt 12 = .ok (.if_icmp .ge 30, 3) := by decide +kernel
theorem dX4_openFlawsAt_15 : decode cX4_openFlawsAt 15 = .ok (.aload_n 0, 1) := by decide +kernel
theorem dX4_openFlawsAt_16 : decode cX4_openFlawsAt 16 = .ok (.aload_n 0, 1) := by decide +kernel
theorem dX4_openFlawsAt_17 : decode cX4_openFlawsAt 17 = .ok (.getfield 28, 3) := by decide +kernel
theorem dX4_openFlawsAt_20 : decode cX4_openFlawsAt 20 = .ok (.getfield 136, 3) := by decide +kernel
theorem dX4_openFlawsAt_23 : decode cX4_openFlawsAt 23 = .ok (.iload_n 3, 1) := by decide +kernel
theorem dX4_openFlawsAt_24 : decode cX4_openFlawsAt 24 = .ok (.aaload, 1) := by decide +kernel
theorem dX4_openFlawsAt_25 : decode cX4_openFlawsAt 25 = .ok (.iload_n 1, 1) := by decide +kernel
theorem dX4_openFlawsAt_26 : decode cX4_openFlawsAt 26 = .ok (.invokevirtual 140, 3) := by decide +kernel
theorem dX4_openFlawsAt_29 : decode cX4_openFlawsAt 29 = .ok (.iconst 1, 1) := by decide +kernel
theorem dX4_openFlawsAt_30 : decode cX4_openFlawsAt 30 = .ok (.if_icmp .ne 6, 3) := by decide +kernel
theorem dX4_openFlawsAt_33 : decode cX4_openFlawsAt 33 = .ok (.iinc 2 1, 3) := by decide +kernel
theorem dX4_openFlawsAt_36 : decode cX4_openFlawsAt 36 = .ok (.iinc 3 1, 3) := by decide +kernel
theorem dX4_openFlawsAt_39 : decode cX4_openFlawsAt 39 = .ok (.goto (-35), 3) := by decide +kernel
theorem dX4_openFlawsAt_42 : decode cX4_openFlawsAt 42 = .ok (.iload_n 2, 1) := by decide +kernel
theorem dX4_openFlawsAt_43 : decode cX4_openFlawsAt 43 = .ok (.ireturn, 1) := by decide +kernel
theorem dX4_worthAt_0 : decode cX4_worthAt 0 = .ok (.iconst 0, 1) := by decide +kernel
theorem dX4_worthAt_1 : decode cX4_worthAt 1 = .ok (.istore_n 2, 1) := by decide +kernel
theorem dX4_worthAt_2 : decode cX4_worthAt 2 = .ok (.iconst 0, 1) := by decide +kernel
theorem dX4_worthAt_3 : decode cX4_worthAt 3 = .ok (.istore_n 3, 1) := by decide +kernel
theorem dX4_worthAt_4 : decode cX4_worthAt 4 = .ok (.iload_n 3, 1) := by decide +kernel
theorem dX4_worthAt_5 : decode cX4_worthAt 5 = .ok (.aload_n 0, 1) := by decide +kernel
theorem dX4_worthAt_6 : decode cX4_worthAt 6 = .ok (.getfield 28, 3) := by decide +kernel
theorem dX4_worthAt_9 : decode cX4_worthAt 9 = .ok (.getfield 133, 3) := by decide +kernel
theorem dX4_worthAt_12 : decode cX4_worthAt 12 = .ok (.if_icmp .ge 38, 3) := by decide +kernel
theorem dX4_worthAt_15 : decode cX4_worthAt 15 = .ok (.iload_n 2, 1) := by decide +kernel
theorem dX4_worthAt_16 : decode cX4_worthAt 16 = .ok (.aload_n 0, 1) := by decide +kernel
theorem dX4_worthAt_17 : decode cX4_worthAt 17 = .ok (.getfield 28, 3) := by decide +kernel
theorem dX4_worthAt_20 : decode cX4_worthAt 20 = .ok (.getfield 136, 3) := by decide +kernel
theorem dX4_worthAt_23 : decode cX4_worthAt 23 = .ok (.iload_n 3, 1) := by decide +kernel
theorem dX4_worthAt_24 : decode cX4_worthAt 24 = .ok (.aaload, 1) := by decide +kernel
theorem dX4_worthAt_25 : decode cX4_worthAt 25 = .ok (.aload_n 0, 1) := by decide +kernel
theorem dX4_worthAt_26 : decode cX4_worthAt 26 = .ok (.aload_n 0, 1) := by decide +kernel
theorem dX4_worthAt_27 : decode cX4_worthAt 27 = .ok (.getfield 28, 3) := by decide +kernel
theorem dX4_worthAt_30 : decode cX4_worthAt 30 = .ok (.getfield 136, 3) := by decide +kernel
theorem dX4_worthAt_33 : decode cX4_worthAt 33 = .ok (.iload_n 3, 1) := by decide +kernel
theorem dX4_worthAt_34 : decode cX4_worthAt 34 = .ok (.aaload, 1) := by decide +kernel
theorem dX4_worthAt_35 : decode cX4_worthAt 35 = .ok (.iload_n 1, 1) := by decide +kernel
theorem dX4_worthAt_36 : decode cX4_worthAt 36 = .ok (.invokevirtual 140, 3) := by decide +kernel
theorem dX4_worthAt_39 : decode cX4_worthAt 39 = .ok (.invokevirtual 144, 3) := by decide +kernel
theorem dX4_worthAt_42 : decode cX4_worthAt 42 = .ok (.iadd, 1) := by decide +kernel
theorem dX4_worthAt_43 : decode cX4_worthAt 43 = .ok (.istore_n 2, 1) := by decide +kernel
theorem dX4_worthAt_44 : decode cX4_worthAt 44 = .ok (.iinc 3 1, 3) := by decide +kernel
theorem dX4_worthAt_47 : decode cX4_worthAt 47 = .ok (.goto (-43), 3) := by decide +kernel
theorem dX4_worthAt_50 : decode cX4_worthAt 50 = .ok (.aload_n 0, 1) := by decide +kernel
theorem dX4_worthAt_51 : decode cX4_worthAt 51 = .ok (.iload_n 1, 1) := by decide +kernel
theorem dX4_worthAt_52 : decode cX4_worthAt 52 = .ok (.invokevirtual 95, 3) := by decide +kernel
theorem dX4_worthAt_55 : decode cX4_worthAt 55 = .ok (.iload_n 2, 1) := by decide +kernel
theorem dX4_worthAt_56 : decode cX4_worthAt 56 = .ok (.aload_n 0, 1) := by decide +kernel
theorem dX4_worthAt_57 : decode cX4_worthAt 57 = .ok (.iload_n 1, 1) := by decide +kernel
theorem dX4_worthAt_58 : decode cX4_worthAt 58 = .ok (.invokevirtual 147, 3) := by decide +kernel
theorem dX4_worthAt_61 : decode cX4_worthAt 61 = .ok (.aload_n 0, 1) := by decide +kernel
theorem dX4_worthAt_62 : decode cX4_worthAt 62 = .ok (.iload_n 1, 1) := by decide +kernel
theorem dX4_worthAt_63 : decode cX4_worthAt 63 = .ok (.invokevirtual 150, 3) := by decide +kernel
theorem dX4_worthAt_66 : decode cX4_worthAt 66 = .ok (.invokestatic 153, 3) := by decide +kernel
theorem dX4_worthAt_69 : decode cX4_worthAt 69 = .ok (.ireturn, 1) := by decide +kernel
theorem dX4_isWithin_0 : decode cX4_isWithin 0 = .ok (.aload_n 0, 1) := by decide +kernel
theorem dX4_isWithin_1 : decode cX4_isWithin 1 = .ok (.iload_n 1, 1) := by decide +kernel
theorem dX4_isWithin_2 : decode cX4_isWithin 2 = .ok (.invokevirtual 95, 3) := by decide +kernel
theorem dX4_isWithin_5 : decode cX4_isWithin 5 = .ok (.ifCond .le 24, 3) := by decide +kernel
theorem dX4_isWithin_8 : decode cX4_isWithin 8 = .ok (.aload_n 0, 1) := by decide +kernel
theorem dX4_isWithin_9 : decode cX4_isWithin 9 = .ok (.iload_n 1, 1) := by decide +kernel
theorem dX4_isWithin_10 : decode cX4_isWithin 10 = .ok (.iconst 1, 1) := by decide +kernel
theorem dX4_isWithin_11 : decode cX4_isWithin 11 = .ok (.isub, 1) := by decide +kernel
theorem dX4_isWithin_12 : decode cX4_isWithin 12 = .ok (.invokevirtual 95, 3) := by decide +kernel
theorem dX4_isWithin_15 : decode cX4_isWithin 15 = .ok (.aload_n 0, 1) := by decide +kernel
theorem dX4_isWithin_16 : decode cX4_isWithin 16 = .ok (.getfield 32, 3) := by decide +kernel
theorem dX4_isWithin_19 : decode cX4_isWithin 19 = .ok (.getfield 92, 3) := by decide +kernel
theorem dX4_isWithin_22 : decode cX4_isWithin 22 = .ok (.if_icmp .ge 7, 3) := by decide +kernel
theorem dX4_isWithin_25 : decode cX4_isWithin 25 = .ok (.iconst 1, 1) := by decide +kernel
theorem dX4_isWithin_26 : decode cX4_isWithin 26 = .ok (.goto 4, 3) := by decide +kernel
theorem dX4_isWithin_29 : decode cX4_isWithin 29 = .ok (.iconst 0, 1) := by decide +kernel
theorem dX4_isWithin_30 : decode cX4_isWithin 30 = .ok (.ireturn, 1) := by decide +kernel
theorem dX4_bestDepth_0 : decode cX4_bestDepth 0 = .ok (.iconst 0, 1) := by decide +kernel
theorem dX4_bestDepth_1 : decode cX4_bestDepth 1 = .ok (.istore_n 1, 1) := by decide +kernel
theorem dX4_bestDepth_2 : decode cX4_bestDepth 2 = .ok (.iconst 0, 1) := by decide +kernel
theorem dX4_bestDepth_3 : decode cX4_bestDepth 3 = .ok (.istore_n 2, 1) := by decide +kernel
theorem dX4_bestDepth_4 : decode cX4_bestDepth 4 = .ok (.bipush (-81), 2) := by decide +kernel
theorem dX4_bestDepth_6 : decode cX4_bestDepth 6 = .ok (.istore_n 3, 1) := by decide +kernel
theorem dX4_bestDepth_7 : decode cX4_bestDepth 7 = .ok (.iload_n 3, 1) := by decide +kernel
theorem dX4_bestDepth_8 : decode cX4_bestDepth 8 = .ok (.bipush 81, 2) := by decide +kernel
theorem dX4_bestDepth_10 : decode cX4_bestDepth 10 = .ok (.if_icmp .gt 35, 3) := by decide +kernel
theorem dX4_bestDepth_13 : decode cX4_bestDepth 13 = .ok (.aload_n 0, 1) := by decide +kernel
theorem dX4_bestDepth_14 : decode cX4_bestDepth 14 = .ok (.iload_n 3, 1) := by decide +kernel
theorem dX4_bestDepth_15 : decode cX4_bestDepth 15 = .ok (.invokevirtual 157, 3) := by decide +kernel
theorem dX4_bestDepth_18 : decode cX4_bestDepth 18 = .ok (.ifCond .eq 21, 3) := by decide +kernel
theorem dX4_bestDepth_21 : decode cX4_bestDepth 21 = .ok (.aload_n 0, 1) := by decide +kernel
theorem dX4_bestDepth_22 : decode cX4_bestDepth 22 = .ok (.iload_n 3, 1) := by decide +kernel
theorem dX4_bestDepth_23 : decode cX4_bestDepth 23 = .ok (.invokevirtual 160, 3) := by decide +kernel
theorem dX4_bestDepth_26 : decode cX4_bestDepth 26 = .ok (.istore 4, 2) := by decide +kernel
theorem dX4_bestDepth_28 : decode cX4_bestDepth 28 = .ok (.iload 4, 2) := by decide +kernel
theorem dX4_bestDepth_30 : decode cX4_bestDepth 30 = .ok (.iload_n 2, 1) := by decide +kernel
theorem dX4_bestDepth_31 : decode cX4_bestDepth 31 = .ok (.if_icmp .lt 8, 3) := by decide +kernel
theorem dX4_bestDepth_34 : decode cX4_bestDepth 34 = .ok (.iload_n 3, 1) := by decide +kernel
theorem dX4_bestDepth_35 : decode cX4_bestDepth 35 = .ok (.istore_n 1, 1) := by decide +kernel
theorem dX4_bestDepth_36 : decode cX4_bestDepth 36 = .ok (.iload 4, 2) := by decide +kernel
theorem dX4_bestDepth_38 : decode cX4_bestDepth 38 = .ok (.istore_n 2, 1) := by decide +kernel
theorem dX4_bestDepth_39 : decode cX4_bestDepth 39 = .ok (.iinc 3 1, 3) := by decide +kernel
theorem dX4_bestDepth_42 : decode cX4_bestDepth 42 = .ok (.goto (-35), 3) := by decide +kernel
theorem dX4_bestDepth_45 : decode cX4_bestDepth 45 = .ok (.iload_n 1, 1) := by decide +kernel
theorem dX4_bestDepth_46 : decode cX4_bestDepth 46 = .ok (.ireturn, 1) := by decide +kernel
theorem dX4_leastLoss_0 : decode cX4_leastLoss 0 = .ok (.iconst (-1), 1) := by decide +kernel
theorem dX4_leastLoss_1 : decode cX4_leastLoss 1 = .ok (.istore 4, 2) := by decide +kernel
theorem dX4_leastLoss_3 : decode cX4_leastLoss 3 = .ok (.sipush (-1000), 3) := by decide +kernel
theorem dX4_leastLoss_6 : decode cX4_leastLoss 6 = .ok (.istore 5, 2) := by decide +kernel
theorem dX4_leastLoss_8 : decode cX4_leastLoss 8 = .ok (.sipush 1001, 3) := by decide +kernel
theorem dX4_leastLoss_11 : decode cX4_leastLoss 11 = .ok (.istore 6, 2) := by decide +kernel
theorem dX4_leastLoss_13 : decode cX4_leastLoss 13 = .ok (.iconst 0, 1) := by decide +kernel
theorem dX4_leastLoss_14 : decode cX4_leastLoss 14 = .ok (.istore 7, 2) := by decide +kernel
theorem dX4_leastLoss_16 : decode cX4_leastLoss 16 = .ok (.iload 7, 2) := by decide +kernel
theorem dX4_leastLoss_18 : decode cX4_leastLoss 18 = .ok (.bipush 27, 2) := by decide +kernel
theorem dX4_leastLoss_20 : decode cX4_leastLoss 20 = .ok (.if_icmp .ge 98, 3) := by decide +kernel
theorem dX4_leastLoss_23 : decode cX4_leastLoss 23 = .ok (.iload 7, 2) := by decide +kernel
theorem dX4_leastLoss_25 : decode cX4_leastLoss 25 = .ok (.bipush 9, 2) := by decide +kernel
theorem dX4_leastLoss_27 : decode cX4_leastLoss 27 = .ok (.idiv, 1) := by decide +kernel
theorem dX4_leastLoss_28 : decode cX4_leastLoss 28 = .ok (.iconst 1, 1) := by decide +kernel
theorem dX4_leastLoss_29 : decode cX4_leastLoss 29 = .ok (.isub, 1) := by decide +kernel
theorem dX4_leastLoss_30 : decode cX4_leastLoss 30 = .ok (.istore 8, 2) := by decide +kernel
theorem dX4_leastLoss_32 : decode cX4_leastLoss 32 = .ok (.iload 7, 2) := by decide +kernel
theorem dX4_leastLoss_34 : decode cX4_leastLoss 34 = .ok (.iconst 3, 1) := by decide +kernel
theorem dX4_leastLoss_35 : decode cX4_leastLoss 35 = .ok (.idiv, 1) := by decide +kernel
theorem dX4_leastLoss_36 : decode cX4_leastLoss 36 = .ok (.iconst 3, 1) := by decide +kernel
theorem dX4_leastLoss_37 : decode cX4_leastLoss 37 = .ok (.irem, 1) := by decide +kernel
theorem dX4_leastLoss_38 : decode cX4_leastLoss 38 = .ok (.iconst 1, 1) := by decide +kernel
theorem dX4_leastLoss_39 : decode cX4_leastLoss 39 = .ok (.isub, 1) := by decide +kernel
theorem dX4_leastLoss_40 : decode cX4_leastLoss 40 = .ok (.istore 9, 2) := by decide +kernel
theorem dX4_leastLoss_42 : decode cX4_leastLoss 42 = .ok (.iload 7, 2) := by decide +kernel
theorem dX4_leastLoss_44 : decode cX4_leastLoss 44 = .ok (.iconst 3, 1) := by decide +kernel
theorem dX4_leastLoss_45 : decode cX4_leastLoss 45 = .ok (.irem, 1) := by decide +kernel
theorem dX4_leastLoss_46 : decode cX4_leastLoss 46 = .ok (.iconst 1, 1) := by decide +kernel
theorem dX4_leastLoss_47 : decode cX4_leastLoss 47 = .ok (.isub, 1) := by decide +kernel
theorem dX4_leastLoss_48 : decode cX4_leastLoss 48 = .ok (.istore 10, 2) := by decide +kernel
theorem dX4_leastLoss_50 : decode cX4_leastLoss 50 = .ok (.iload 8, 2) := by decide +kernel
theorem dX4_leastLoss_52 : decode cX4_leastLoss 52 = .ok (.ifCond .ne 13, 3) := by decide +kernel
theorem dX4_leastLoss_55 : decode cX4_leastLoss 55 = .ok (.iload 9, 2) := by decide +kernel
theorem dX4_leastLoss_57 : decode cX4_leastLoss 57 = .ok (.ifCond .ne 8, 3) := by decide +kernel
theorem dX4_leastLoss_60 : decode cX4_leastLoss 60 = .ok (.iload 10, 2) := by decide +kernel
theorem dX4_leastLoss_62 : decode cX4_leastLoss 62 = .ok (.ifCond .eq 50, 3) := by decide +kernel
theorem dX4_leastLoss_65 : decode cX4_leastLoss 65 = .ok (.aload_n 0, 1) := by decide +kernel
theorem dX4_leastLoss_66 : decode cX4_leastLoss 66 = .ok (.aload_n 1, 1) := by decide +kernel
theorem dX4_leastLoss_67 : decode cX4_leastLoss 67 = .ok (.iload 8, 2) := by decide +kernel
theorem dX4_leastLoss_69 : decode cX4_leastLoss 69 = .ok (.iload 9, 2) := by decide +kernel
theorem dX4_leastLoss_71 : decode cX4_leastLoss 71 = .ok (.iload 10, 2) := by decide +kernel
theorem dX4_leastLoss_73 : decode cX4_leastLoss 73 = .ok (.invokevirtual 68, 3) := by decide +kernel
theorem dX4_leastLoss_76 : decode cX4_leastLoss 76 = .ok (.aload_n 0, 1) := by decide +kernel
theorem dX4_leastLoss_77 : decode cX4_leastLoss 77 = .ok (.aload_n 2, 1) := by decide +kernel
theorem dX4_leastLoss_78 : decode cX4_leastLoss 78 = .ok (.invokevirtual 163, 3) := by decide +kernel
theorem dX4_leastLoss_81 : decode cX4_leastLoss 81 = .ok (.iconst 1, 1) := by decide +kernel
theorem dX4_leastLoss_82 : decode cX4_leastLoss 82 = .ok (.isub, 1) := by decide +kernel
theorem dX4_leastLoss_83 : decode cX4_leastLoss 83 = .ok (.istore 11, 2) := by decide +kernel
theorem dX4_leastLoss_85 : decode cX4_leastLoss 85 = .ok (.aload_n 0, 1) := by decide +kernel
theorem dX4_leastLoss_86 : decode cX4_leastLoss 86 = .ok (.iload 11, 2) := by decide +kernel
theorem dX4_leastLoss_88 : decode cX4_leastLoss 88 = .ok (.invokevirtual 167, 3) := by decide +kernel
theorem dX4_leastLoss_91 : decode cX4_leastLoss 91 = .ok (.iload 6, 2) := by decide +kernel
theorem dX4_leastLoss_93 : decode cX4_leastLoss 93 = .ok (.if_icmp .ge 19, 3) := by decide +kernel
theorem dX4_leastLoss_96 : decode cX4_leastLoss 96 = .ok (.iload 7, 2) := by decide +kernel
theorem dX4_leastLoss_98 : decode cX4_leastLoss 98 = .ok (.istore 4, 2) := by decide +kernel
theorem dX4_leastLoss_100 : decode cX4_leastLoss 100 = .ok (.iload 11, 2) := by decide +kernel
theorem dX4_leastLoss_102 : decode cX4_leastLoss 102 = .ok (.istore 5, 2) := by decide +kernel
theorem dX4_leastLoss_104 : decode cX4_leastLoss 104 = .ok (.aload_n 0, 1) := by decide +kernel
theorem dX4_leastLoss_105 : decode cX4_leastLoss 105 = .ok (.iload 11, 2) := by decide +kernel
theorem dX4_leastLoss_107 : decode cX4_leastLoss 107 = .ok (.invokevirtual 167, 3) := by decide +kernel
theorem dX4_leastLoss_110 : decode cX4_leastLoss 110 = .ok (.istore 6, 2) := by decide +kernel
theorem dX4_leastLoss_112 : decode cX4_leastLoss 112 = .ok (.iinc 7 1, 3) := by decide +kernel
theorem dX4_leastLoss_115 : decode cX4_leastLoss 115 = .ok (.goto (-99), 3) := by decide +kernel
theorem dX4_leastLoss_118 : decode cX4_leastLoss 118 = .ok (.iload_n 3, 1) := by decide +kernel
theorem dX4_leastLoss_119 : decode cX4_leastLoss 119 = .ok (.lookupswitch 31 #[(0, 25), (1, 28)], 25) := by decide +kernel
theorem dX4_leastLoss_144 : decode cX4_leastLoss 144 = .ok (.iload 4, 2) := by decide +kernel
theorem dX4_leastLoss_146 : decode cX4_leastLoss 146 = .ok (.ireturn, 1) := by decide +kernel
theorem dX4_leastLoss_147 : decode cX4_leastLoss 147 = .ok (.iload 5, 2) := by decide +kernel
theorem dX4_leastLoss_149 : decode cX4_leastLoss 149 = .ok (.ireturn, 1) := by decide +kernel
theorem dX4_leastLoss_150 : decode cX4_leastLoss 150 = .ok (.iload 6, 2) := by decide +kernel
theorem dX4_leastLoss_152 : decode cX4_leastLoss 152 = .ok (.ireturn, 1) := by decide +kernel
theorem dX4_lowestOf_0 : decode cX4_lowestOf 0 = .ok (.bipush 81, 2) := by decide +kernel
theorem dX4_lowestOf_2 : decode cX4_lowestOf 2 = .ok (.istore_n 2, 1) := by decide +kernel
theorem dX4_lowestOf_3 : decode cX4_lowestOf 3 = .ok (.iconst 0, 1) := by decide +kernel
theorem dX4_lowestOf_4 : decode cX4_lowestOf 4 = .ok (.istore_n 3, 1) := by decide +kernel
theorem dX4_lowestOf_5 : decode cX4_lowestOf 5 = .ok (.iload_n 3, 1) := by decide +kernel
theorem dX4_lowestOf_6 : decode cX4_lowestOf 6 = .ok (.aload_n 1, 1) := by decide +kernel
theorem dX4_lowestOf_7 : decode cX4_lowestOf 7 = .ok (.getfield 121, 3) := by decide +kernel
theorem dX4_lowestOf_10 : decode cX4_lowestOf 10 = .ok (.if_icmp .ge 49, 3) := by decide +kernel
theorem dX4_lowestOf_13 : decode cX4_lowestOf 13 = .ok (.aload_n 1, 1) := by decide +kernel
theorem dX4_lowestOf_14 : decode cX4_lowestOf 14 = .ok (.getfield 126, 3) := by decide +kernel
theorem dX4_lowestOf_17 : decode cX4_lowestOf 17 = .ok (.iload_n 3, 1) := by decide +kernel
theorem dX4_lowestOf_18 : decode cX4_lowestOf 18 = .ok (.iaload, 1) := by decide +kernel
theorem dX4_lowestOf_19 : decode cX4_lowestOf 19 = .ok (.istore 4, 2) := by decide +kernel
theorem dX4_lowestOf_21 : decode cX4_lowestOf 21 = .ok (.aload_n 0, 1) := by decide +kernel
theorem dX4_lowestOf_22 : decode cX4_lowestOf 22 = .ok (.getfield 28, 3) := by decide +kernel
theorem dX4_lowestOf_25 : decode cX4_lowestOf 25 = .ok (.getfield 60, 3) := by decide +kernel
theorem dX4_lowestOf_28 : decode cX4_lowestOf 28 = .ok (.iload 4, 2) := by decide +kernel
theorem dX4_lowestOf_30 : decode cX4_lowestOf 30 = .ok (.iaload, 1) := by decide +kernel
theorem dX4_lowestOf_31 : decode cX4_lowestOf 31 = .ok (.aload_n 0, 1) := by decide +kernel
theorem dX4_lowestOf_32 : decode cX4_lowestOf 32 = .ok (.getfield 32, 3) := by decide +kernel
theorem dX4_lowestOf_35 : decode cX4_lowestOf 35 = .ok (.getfield 63, 3) := by decide +kernel
theorem dX4_lowestOf_38 : decode cX4_lowestOf 38 = .ok (.if_icmp .ne 15, 3) := by decide +kernel
theorem dX4_lowestOf_41 : decode cX4_lowestOf 41 = .ok (.iload_n 2, 1) := by decide +kernel
theorem dX4_lowestOf_42 : decode cX4_lowestOf 42 = .ok (.aload_n 0, 1) := by decide +kernel
theorem dX4_lowestOf_43 : decode cX4_lowestOf 43 = .ok (.getfield 18, 3) := by decide +kernel
theorem dX4_lowestOf_46 : decode cX4_lowestOf 46 = .ok (.iload 4, 2) := by decide +kernel
theorem dX4_lowestOf_48 : decode cX4_lowestOf 48 = .ok (.iaload, 1) := by decide +kernel
theorem dX4_lowestOf_49 : decode cX4_lowestOf 49 = .ok (.invokestatic 86, 3) := by decide +kernel
theorem dX4_lowestOf_52 : decode cX4_lowestOf 52 = .ok (.istore_n 2, 1) := by decide +kernel
theorem dX4_lowestOf_53 : decode cX4_lowestOf 53 = .ok (.iinc 3 1, 3) := by decide +kernel
theorem dX4_lowestOf_56 : decode cX4_lowestOf 56 = .ok (.goto (-51), 3) := by decide +kernel
theorem dX4_lowestOf_59 : decode cX4_lowestOf 59 = .ok (.iload_n 2, 1) := by decide +kernel
theorem dX4_lowestOf_60 : decode cX4_lowestOf 60 = .ok (.ireturn, 1) := by decide +kernel
theorem dX5_init_0 : decode cX5_init 0 = .ok (.aload_n 0, 1) := by decide +kernel
theorem dX5_init_1 : decode cX5_init 1 = .ok (.invokespecial 1, 3) := by decide +kernel
theorem dX5_init_4 : decode cX5_init 4 = .ok (.aload_n 0, 1) := by decide +kernel
theorem dX5_init_5 : decode cX5_init 5 = .ok (.new 7, 3) := by decide +kernel
theorem dX5_init_8 : decode cX5_init 8 = .ok (.dup, 1) := by decide +kernel
theorem dX5_init_9 : decode cX5_init 9 = .ok (.invokespecial 9, 3) := by decide +kernel
theorem dX5_init_12 : decode cX5_init 12 = .ok (.putfield 10, 3) := by decide +kernel
theorem dX5_init_15 : decode cX5_init 15 = .ok (.aload_n 0, 1) := by decide +kernel
theorem dX5_init_16 : decode cX5_init 16 = .ok (.bipush 8, 2) := by decide +kernel
theorem dX5_init_18 : decode cX5_init 18 = .ok (.anewarray 16, 3) := by decide +kernel
theorem dX5_init_21 : decode cX5_init 21 = .ok (.putfield 18, 3) := by decide +kernel
theorem dX5_init_24 : decode cX5_init 24 = .ok (.iconst 0, 1) := by decide +kernel
theorem dX5_init_25 : decode cX5_init 25 = .ok (.istore_n 1, 1) := by decide +kernel
theorem dX5_init_26 : decode cX5_init 26 = .ok (.iload_n 1, 1) := by decide +kernel
theorem dX5_init_27 : decode cX5_init 27 = .ok (.bipush 8, 2) := by decide +kernel
theorem dX5_init_29 : decode cX5_init 29 = .ok (.if_icmp .ge 23, 3) := by decide +kernel
theorem dX5_init_32 : decode cX5_init 32 = .ok (.aload_n 0, 1) := by decide +kernel
theorem dX5_init_33 : decode cX5_init 33 = .ok (.getfield 18, 3) := by decide +kernel
theorem dX5_init_36 : decode cX5_init 36 = .ok (.iload_n 1, 1) := by decide +kernel
theorem dX5_init_37 : decode cX5_init 37 = .ok (.new 16, 3) := by decide +kernel
theorem dX5_init_40 : decode cX5_init 40 = .ok (.dup, 1) := by decide +kernel
theorem dX5_init_41 : decode cX5_init 41 = .ok (.iload_n 1, 1) := by decide +kernel
theorem dX5_init_42 : decode cX5_init 42 = .ok (.invokespecial 22, 3) := by decide +kernel
theorem dX5_init_45 : decode cX5_init 45 = .ok (.aastore, 1) := by decide +kernel
theorem dX5_init_46 : decode cX5_init 46 = .ok (.iinc 1 1, 3) := by decide +kernel
theorem dX5_init_49 : decode cX5_init 49 = .ok (.goto (-23), 3) := by decide +kernel
theorem dX5_init_52 : decode cX5_init 52 = .ok (.aload_n 0, 1) := by decide +kernel
theorem dX5_init_53 : decode cX5_init 53 = .ok (.new 25, 3) := by decide +kernel
theorem dX5_init_56 : decode cX5_init 56 = .ok (.dup, 1) := by decide +kernel
theorem dX5_init_57 : decode cX5_init 57 = .ok (.aload_n 0, 1) := by decide +kernel
theorem dX5_init_58 : decode cX5_init 58 = .ok (.getfield 10, 3) := by decide +kernel
theorem dX5_init_61 : decode cX5_init 61 = .ok (.aload_n 0, 1) := by decide +kernel
theorem dX5_init_62 : decode cX5_init 62 = .ok (.getfield 18, 3) := by decide +kernel
theorem dX5_init_65 : decode cX5_init 65 = .ok (.iconst 0, 1) := by decide +kernel
theorem dX5_init_66 : decode cX5_init 66 = .ok (.aaload, 1) := by decide +kernel
theorem dX5_init_67 : decode cX5_init 67 = .ok (.invokespecial 27, 3) := by decide +kernel
theorem dX5_init_70 : decode cX5_init 70 = .ok (.putfield 30, 3) := by decide +kernel
theorem dX5_init_73 : decode cX5_init 73 = .ok (.aload_n 0, 1) := by decide +kernel
theorem dX5_init_74 : decode cX5_init 74 = .ok (.bipush 6, 2) := by decide +kernel
theorem dX5_init_76 : decode cX5_init 76 = .ok (.bipush 6, 2) := by decide +kernel
theorem dX5_init_78 : decode cX5_init 78 = .ok (.bipush 6, 2) := by decide +kernel
theorem dX5_init_80 : decode cX5_init 80 = .ok (.invokevirtual 34, 3) := by decide +kernel
theorem dX5_init_83 : decode cX5_init 83 = .ok (.return_, 1) := by decide +kernel
theorem dX5_take_0 : decode cX5_take 0 = .ok (.iload_n 1, 1) := by decide +kernel
theorem dX5_take_1 : decode cX5_take 1 = .ok (.invokestatic 38, 3) := by decide +kernel
theorem dX5_take_4 : decode cX5_take 4 = .ok (.ifCond .eq 17, 3) := by decide +kernel
theorem dX5_take_7 : decode cX5_take 7 = .ok (.iload_n 2, 1) := by decide +kernel
theorem dX5_take_8 : decode cX5_take 8 = .ok (.invokestatic 38, 3) := by decide +kernel
theorem dX5_take_11 : decode cX5_take 11 = .ok (.ifCond .eq 10, 3) := by decide +kernel
theorem dX5_take_14 : decode cX5_take 14 = .ok (.iload_n 3, 1) := by decide +kernel
theorem dX5_take_15 : decode cX5_take 15 = .ok (.invokestatic 38, 3) := by decide +kernel
theorem dX5_take_18 : decode cX5_take 18 = .ok (.ifCond .ne 13, 3) := by decide +kernel
theorem dX5_take_21 : decode cX5_take 21 = .ok (.new 42, 3) := by decide +kernel
theorem dX5_take_24 : decode cX5_take 24 = .ok (.dup, 1) := by decide +kernel
theorem dX5_take_25 : decode cX5_take 25 = .ok (.ldc 44, 2) := by decide +kernel
theorem dX5_take_27 : decode cX5_take 27 = .ok (.invokespecial 46, 3) := by decide +kernel
theorem dX5_take_30 : decode cX5_take 30 = .ok (.athrow, 1) := by decide +kernel
theorem dX5_take_31 : decode cX5_take 31 = .ok (.aload_n 0, 1) := by decide +kernel
theorem dX5_take_32 : decode cX5_take 32 = .ok (.iload_n 1, 1) := by decide +kernel
theorem dX5_take_33 : decode cX5_take 33 = .ok (.iload_n 2, 1) := by decide +kernel
theorem dX5_take_34 : decode cX5_take 34 = .ok (.iload_n 3, 1) := by decide +kernel
theorem dX5_take_35 : decode cX5_take 35 = .ok (.invokevirtual 34, 3) := by decide +kernel
theorem dX5_take_38 : decode cX5_take 38 = .ok (.aload_n 0, 1) := by decide +kernel
theorem dX5_take_39 : decode cX5_take 39 = .ok (.getfield 10, 3) := by decide +kernel
theorem dX5_take_42 : decode cX5_take 42 = .ok (.invokevirtual 49, 3) := by decide +kernel
theorem dX5_take_45 : decode cX5_take 45 = .ok (.ireturn, 1) := by decide +kernel
theorem dX5_flaw_0 : decode cX5_flaw 0 = .ok (.aload_n 0, 1) := by decide +kernel
theorem dX5_flaw_1 : decode cX5_flaw 1 = .ok (.iload_n 1, 1) := by decide +kernel
theorem dX5_flaw_2 : decode cX5_flaw 2 = .ok (.iload_n 2, 1) := by decide +kernel
theorem dX5_flaw_3 : decode cX5_flaw 3 = .ok (.iload_n 3, 1) := by decide +kernel
theorem dX5_flaw_4 : decode cX5_flaw 4 = .ok (.invokevirtual 53, 3) := by decide +kernel
theorem dX5_flaw_7 : decode cX5_flaw 7 = .ok (.iload 4, 2) := by decide +kernel
theorem dX5_flaw_9 : decode cX5_flaw 9 = .ok (.ifCond .lt 22, 3) := by decide +kernel
theorem dX5_flaw_12 : decode cX5_flaw 12 = .ok (.iload 4, 2) := by decide +kernel
theorem dX5_flaw_14 : decode cX5_flaw 14 = .ok (.iconst 3, 1) := by decide +kernel
theorem dX5_flaw_15 : decode cX5_flaw 15 = .ok (.if_icmp .gt 16, 3) := by decide +kernel
theorem dX5_flaw_18 : decode cX5_flaw 18 = .ok (.iload 5, 2) := by decide +kernel
theorem dX5_flaw_20 : decode cX5_flaw 20 = .ok (.iconst 1, 1) := by decide +kernel
theorem dX5_flaw_21 : decode cX5_flaw 21 = .ok (.if_icmp .lt 10, 3) := by decide +kernel
theorem dX5_flaw_24 : decode cX5_flaw 24 = .ok (.iload 5, 2) := by decide +kernel
theorem dX5_flaw_26 : decode cX5_flaw 26 = .ok (.bipush 9, 2) := by decide +kernel
theorem dX5_flaw_28 : decode cX5_flaw 28 = .ok (.if_icmp .le 13, 3) := by decide +kernel
theorem dX5_flaw_31 : decode cX5_flaw 31 = .ok (.new 42, 3) := by decide +kernel
theorem dX5_flaw_34 : decode cX5_flaw 34 = .ok (.dup, 1) := by decide +kernel
theorem dX5_flaw_35 : decode cX5_flaw 35 = .ok (.ldc 56, 2) := by decide +kernel
theorem dX5_flaw_37 : decode cX5_flaw 37 = .ok (.invokespecial 46, 3) := by decide +kernel
theorem dX5_flaw_40 : decode cX5_flaw 40 = .ok (.athrow, 1) := by decide +kernel
theorem dX5_flaw_41 : decode cX5_flaw 41 = .ok (.aload_n 0, 1) := by decide +kernel
theorem dX5_flaw_42 : decode cX5_flaw 42 = .ok (.getfield 10, 3) := by decide +kernel
theorem dX5_flaw_45 : decode cX5_flaw 45 = .ok (.getfield 58, 3) := by decide +kernel
theorem dX5_flaw_48 : decode cX5_flaw 48 = .ok (.bipush 10, 2) := by decide +kernel
theorem dX5_flaw_50 : decode cX5_flaw 50 = .ok (.if_icmp .lt 13, 3) := by decide +kernel
theorem dX5_flaw_53 : decode cX5_flaw 53 = .ok (.new 62, 3) := by decide +kernel
theorem dX5_flaw_56 : decode cX5_flaw 56 = .ok (.dup, 1) := by decide +kernel
theorem dX5_flaw_57 : decode cX5_flaw 57 = .ok (.ldc 64, 2) := by decide +kernel
theorem dX5_flaw_59 : decode cX5_flaw 59 = .ok (.invokespecial 66, 3) := by decide +kernel
theorem dX5_flaw_62 : decode cX5_flaw 62 = .ok (.athrow, 1) := by decide +kernel
theorem dX5_flaw_63 : decode cX5_flaw 63 = .ok (.aload_n 0, 1) := by decide +kernel
theorem dX5_flaw_64 : decode cX5_flaw 64 = .ok (.getfield 10, 3) := by decide +kernel
theorem dX5_flaw_67 : decode cX5_flaw 67 = .ok (.iload_n 1, 1) := by decide +kernel
theorem dX5_flaw_68 : decode cX5_flaw 68 = .ok (.iload_n 2, 1) := by decide +kernel
theorem dX5_flaw_69 : decode cX5_flaw 69 = .ok (.iload_n 3, 1) := by decide +kernel
theorem dX5_flaw_70 : decode cX5_flaw 70 = .ok (.iload 4, 2) := by decide +kernel
theorem dX5_flaw_72 : decode cX5_flaw 72 = .ok (.iload 5, 2) := by decide +kernel
theorem dX5_flaw_74 : decode cX5_flaw 74 = .ok (.invokevirtual 67, 3) := by decide +kernel
theorem dX5_flaw_77 : decode cX5_flaw 77 = .ok (.aload_n 0, 1) := by decide +kernel
theorem dX5_flaw_78 : decode cX5_flaw 78 = .ok (.getfield 10, 3) := by decide +kernel
theorem dX5_flaw_81 : decode cX5_flaw 81 = .ok (.getfield 58, 3) := by decide +kernel
theorem dX5_flaw_84 : decode cX5_flaw 84 = .ok (.iconst 1, 1) := by decide +kernel
theorem dX5_flaw_85 : decode cX5_flaw 85 = .ok (.isub, 1) := by decide +kernel
theorem dX5_flaw_86 : decode cX5_flaw 86 = .ok (.ireturn, 1) := by decide +kernel
theorem dX5_cell_0 : decode cX5_cell 0 = .ok (.aload_n 0, 1) := by decide +kernel
theorem dX5_cell_1 : decode cX5_cell 1 = .ok (.iload_n 1, 1) := by decide +kernel
theorem dX5_cell_2 : decode cX5_cell 2 = .ok (.iload_n 2, 1) := by decide +kernel
theorem dX5_cell_3 : decode cX5_cell 3 = .ok (.iload_n 3, 1) := by decide +kernel
theorem dX5_cell_4 : decode cX5_cell 4 = .ok (.invokevirtual 53, 3) := by decide +kernel
theorem dX5_cell_7 : decode cX5_cell 7 = .ok (.aload_n 0, 1) := by decide +kernel
theorem dX5_cell_8 : decode cX5_cell 8 = .ok (.getfield 10, 3) := by decide +kernel
theorem dX5_cell_11 : decode cX5_cell 11 = .ok (.iload_n 1, 1) := by decide +kernel
theorem dX5_cell_12 : decode cX5_cell 12 = .ok (.iload_n 2, 1) := by decide +kernel
theorem dX5_cell_13 : decode cX5_cell 13 = .ok (.iload_n 3, 1) := by decide +kernel
theorem dX5_cell_14 : decode cX5_cell 14 = .ok (.invokevirtual 71, 3) := by decide +kernel
theorem dX5_cell_17 : decode cX5_cell 17 = .ok (.ireturn, 1) := by decide +kernel
theorem dX5_flawIn_0 : decode cX5_flawIn 0 = .ok (.aload_n 0, 1) := by decide +kernel
theorem dX5_flawIn_1 : decode cX5_flawIn 1 = .ok (.iload_n 1, 1) := by decide +kernel
theorem dX5_flawIn_2 : decode cX5_flawIn 2 = .ok (.invokevirtual 75, 3) := by decide +kernel
theorem dX5_flawIn_5 : decode cX5_flawIn 5 = .ok (.aload_n 0, 1) := by decide +kernel
theorem dX5_flawIn_6 : decode cX5_flawIn 6 = .ok (.iload_n 2, 1) := by decide +kernel
theorem dX5_flawIn_7 : decode cX5_flawIn 7 = .ok (.invokevirtual 78, 3) := by decide +kernel
theorem dX5_flawIn_10 : decode cX5_flawIn 10 = .ok (.iload_n 3, 1) := by decide +kernel
theorem dX5_flawIn_11 : decode cX5_flawIn 11 = .ok (.iconst 3, 1) := by decide +kernel
theorem dX5_flawIn_12 : decode cX5_flawIn 12 = .ok (.invokestatic 81, 3) := by decide +kernel
theorem dX5_flawIn_15 : decode cX5_flawIn 15 = .ok (.aload_n 0, 1) := by decide +kernel
theorem dX5_flawIn_16 : decode cX5_flawIn 16 = .ok (.iload_n 1, 1) := by decide +kernel
theorem dX5_flawIn_17 : decode cX5_flawIn 17 = .ok (.iload_n 2, 1) := by decide +kernel
theorem dX5_flawIn_18 : decode cX5_flawIn 18 = .ok (.iload_n 3, 1) := by decide +kernel
theorem dX5_flawIn_19 : decode cX5_flawIn 19 = .ok (.invokevirtual 85, 3) := by decide +kernel
theorem dX5_flawIn_22 : decode cX5_flawIn 22 = .ok (.ireturn, 1) := by decide +kernel
theorem dX5_saw_0 : decode cX5_saw 0 = .ok (.aload_n 0, 1) := by decide +kernel
theorem dX5_saw_1 : decode cX5_saw 1 = .ok (.iload_n 1, 1) := by decide +kernel
theorem dX5_saw_2 : decode cX5_saw 2 = .ok (.invokevirtual 78, 3) := by decide +kernel
theorem dX5_saw_5 : decode cX5_saw 5 = .ok (.iload_n 2, 1) := by decide +kernel
theorem dX5_saw_6 : decode cX5_saw 6 = .ok (.iload_n 3, 1) := by decide +kernel
theorem dX5_saw_7 : decode cX5_saw 7 = .ok (.iload 4, 2) := by decide +kernel
theorem dX5_saw_9 : decode cX5_saw 9 = .ok (.invokestatic 88, 3) := by decide +kernel
theorem dX5_saw_12 : decode cX5_saw 12 = .ok (.iload 5, 2) := by decide +kernel
theorem dX5_saw_14 : decode cX5_saw 14 = .ok (.invokestatic 91, 3) := by decide +kernel
theorem dX5_saw_17 : decode cX5_saw 17 = .ok (.aload_n 0, 1) := by decide +kernel
theorem dX5_saw_18 : decode cX5_saw 18 = .ok (.getfield 30, 3) := by decide +kernel
theorem dX5_saw_21 : decode cX5_saw 21 = .ok (.aload_n 0, 1) := by decide +kernel
theorem dX5_saw_22 : decode cX5_saw 22 = .ok (.getfield 18, 3) := by decide +kernel
theorem dX5_saw_25 : decode cX5_saw 25 = .ok (.iload_n 1, 1) := by decide +kernel
theorem dX5_saw_26 : decode cX5_saw 26 = .ok (.aaload, 1) := by decide +kernel
theorem dX5_saw_27 : decode cX5_saw 27 = .ok (.iload_n 2, 1) := by decide +kernel
theorem dX5_saw_28 : decode cX5_saw 28 = .ok (.iload_n 3, 1) := by decide +kernel
theorem dX5_saw_29 : decode cX5_saw 29 = .ok (.iload 4, 2) := by decide +kernel
theorem dX5_saw_31 : decode cX5_saw 31 = .ok (.invokevirtual 94, 3) := by decide +kernel
theorem dX5_saw_34 : decode cX5_saw 34 = .ok (.aload_n 0, 1) := by decide +kernel
theorem dX5_saw_35 : decode cX5_saw 35 = .ok (.getfield 30, 3) := by decide +kernel
theorem dX5_saw_38 : decode cX5_saw 38 = .ok (.iload 5, 2) := by decide +kernel
theorem dX5_saw_40 : decode cX5_saw 40 = .ok (.invokevirtual 98, 3) := by decide +kernel
theorem dX5_saw_43 : decode cX5_saw 43 = .ok (.istore 6, 2) := by decide +kernel
theorem dX5_saw_45 : decode cX5_saw 45 = .ok (.aload_n 0, 1) := by decide +kernel
theorem dX5_saw_46 : decode cX5_saw 46 = .ok (.getfield 102, 3) := by decide +kernel
theorem dX5_saw_49 : decode cX5_saw 49 = .ok (.bipush 8, 2) := by decide +kernel
theorem dX5_saw_51 : decode cX5_saw 51 = .ok (.if_icmp .ge 22, 3) := by decide +kernel
theorem dX5_saw_54 : decode cX5_saw 54 = .ok (.iload 6, 2) := by decide +kernel
theorem dX5_saw_56 : decode cX5_saw 56 = .ok (.ifCond .eq 17, 3) := by decide +kernel
theorem dX5_saw_59 : decode cX5_saw 59 = .ok (.iload 6, 2) := by decide +kernel
theorem dX5_saw_61 : decode cX5_saw 61 = .ok (.aload_n 0, 1) := by decide +kernel
theorem dX5_saw_62 : decode cX5_saw 62 = .ok (.getfield 18, 3) := by decide +kernel
theorem dX5_saw_65 : decode cX5_saw 65 = .ok (.iload_n 1, 1) := by decide +kernel
theorem dX5_saw_66 : decode cX5_saw 66 = .ok (.aaload, 1) := by decide +kernel
theorem dX5_saw_67 : decode cX5_saw 67 = .ok (.getfield 105, 3) := by decide +kernel
theorem dX5_saw_70 : decode cX5_saw 70 = .ok (.if_icmp .ne 13, 3) := by decide +kernel
theorem dX5_saw_73 : decode cX5_saw 73 = .ok (.new 62, 3) := by decide +kernel
theorem dX5_saw_76 : decode cX5_saw 76 = .ok (.dup, 1) := by decide +kernel
theorem dX5_saw_77 : decode cX5_saw 77 = .ok (.ldc 108, 2) := by decide +kernel
theorem dX5_saw_79 : decode cX5_saw 79 = .ok (.invokespecial 66, 3) := by decide +kernel
theorem dX5_saw_82 : decode cX5_saw 82 = .ok (.athrow, 1) := by decide +kernel
theorem dX5_saw_83 : decode cX5_saw 83 = .ok (.aload_n 0, 1) := by decide +kernel
theorem dX5_saw_84 : decode cX5_saw 84 = .ok (.getfield 102, 3) := by decide +kernel
theorem dX5_saw_87 : decode cX5_saw 87 = .ok (.istore 7, 2) := by decide +kernel
theorem dX5_saw_89 : decode cX5_saw 89 = .ok (.aload_n 0, 1) := by decide +kernel
theorem dX5_saw_90 : decode cX5_saw 90 = .ok (.getfield 18, 3) := by decide +kernel
theorem dX5_saw_93 : decode cX5_saw 93 = .ok (.iload 7, 2) := by decide +kernel
theorem dX5_saw_95 : decode cX5_saw 95 = .ok (.aaload, 1) := by decide +kernel
theorem dX5_saw_96 : decode cX5_saw 96 = .ok (.invokevirtual 110, 3) := by decide +kernel
theorem dX5_saw_99 : decode cX5_saw 99 = .ok (.aload_n 0, 1) := by decide +kernel
theorem dX5_saw_100 : decode cX5_saw 100 = .ok (.dup, 1) := by decide +kernel
theorem dX5_saw_101 : decode cX5_saw 101 = .ok (.getfield 102, 3) := by decide +kernel
theorem dX5_saw_104 : decode cX5_saw 104 = .ok (.iconst 1, 1) := by decide +kernel
theorem dX5_saw_105 : decode cX5_saw 105 = .ok (.iadd, 1) := by decide +kernel
theorem dX5_saw_106 : decode cX5_saw 106 = .ok (.putfield 102, 3) := by decide +kernel
theorem dX5_saw_109 : decode cX5_saw 109 = .ok (.aload_n 0, 1) := by decide +kernel
theorem dX5_saw_110 : decode cX5_saw 110 = .ok (.getfield 30, 3) := by decide +kernel
theorem dX5_saw_113 : decode cX5_saw 113 = .ok (.iload 5, 2) := by decide +kernel
theorem dX5_saw_115 : decode cX5_saw 115 = .ok (.iload 7, 2) := by decide +kernel
theorem dX5_saw_117 : decode cX5_saw 117 = .ok (.invokevirtual 113, 3) := by decide +kernel
theorem dX5_saw_120 : decode cX5_saw 120 = .ok (.aload_n 0, 1) := by decide +kernel
theorem dX5_saw_121 : decode cX5_saw 121 = .ok (.invokevirtual 116, 3) := by decide +kernel
theorem dX5_saw_124 : decode cX5_saw 124 = .ok (.iload 7, 2) := by decide +kernel
theorem dX5_saw_126 : decode cX5_saw 126 = .ok (.ireturn, 1) := by decide +kernel
theorem dX5_cut_0 : decode cX5_cut 0 = .ok (.aload_n 0, 1) := by decide +kernel
theorem dX5_cut_1 : decode cX5_cut 1 = .ok (.iload_n 1, 1) := by decide +kernel
theorem dX5_cut_2 : decode cX5_cut 2 = .ok (.invokevirtual 78, 3) := by decide +kernel
theorem dX5_cut_5 : decode cX5_cut 5 = .ok (.iload_n 2, 1) := by decide +kernel
theorem dX5_cut_6 : decode cX5_cut 6 = .ok (.iload_n 3, 1) := by decide +kernel
theorem dX5_cut_7 : decode cX5_cut 7 = .ok (.iload 4, 2) := by decide +kernel
theorem dX5_cut_9 : decode cX5_cut 9 = .ok (.invokestatic 88, 3) := by decide +kernel
theorem dX5_cut_12 : decode cX5_cut 12 = .ok (.iload 5, 2) := by decide +kernel
theorem dX5_cut_14 : decode cX5_cut 14 = .ok (.invokestatic 91, 3) := by decide +kernel
theorem dX5_cut_17 : decode cX5_cut 17 = .ok (.aload_n 0, 1) := by decide +kernel
theorem dX5_cut_18 : decode cX5_cut 18 = .ok (.getfield 18, 3) := by decide +kernel
theorem dX5_cut_21 : decode cX5_cut 21 = .ok (.iload_n 1, 1) := by decide +kernel
theorem dX5_cut_22 : decode cX5_cut 22 = .ok (.aaload, 1) := by decide +kernel
theorem dX5_cut_23 : decode cX5_cut 23 = .ok (.astore 6, 2) := by decide +kernel
theorem dX5_cut_25 : decode cX5_cut 25 = .ok (.aload_n 0, 1) := by decide +kernel
theorem dX5_cut_26 : decode cX5_cut 26 = .ok (.getfield 30, 3) := by decide +kernel
theorem dX5_cut_29 : decode cX5_cut 29 = .ok (.aload 6, 2) := by decide +kernel
theorem dX5_cut_31 : decode cX5_cut 31 = .ok (.iload_n 2, 1) := by decide +kernel
theorem dX5_cut_32 : decode cX5_cut 32 = .ok (.iload_n 3, 1) := by decide +kernel
theorem dX5_cut_33 : decode cX5_cut 33 = .ok (.iload 4, 2) := by decide +kernel
theorem dX5_cut_35 : decode cX5_cut 35 = .ok (.invokevirtual 94, 3) := by decide +kernel
theorem dX5_cut_38 : decode cX5_cut 38 = .ok (.aload_n 0, 1) := by decide +kernel
theorem dX5_cut_39 : decode cX5_cut 39 = .ok (.getfield 30, 3) := by decide +kernel
theorem dX5_cut_42 : decode cX5_cut 42 = .ok (.iload 5, 2) := by decide +kernel
theorem dX5_cut_44 : decode cX5_cut 44 = .ok (.invokevirtual 98, 3) := by decide +kernel
theorem dX5_cut_47 : decode cX5_cut 47 = .ok (.istore 7, 2) := by decide +kernel
theorem dX5_cut_49 : decode cX5_cut 49 = .ok (.iconst 3, 1) := by decide +kernel
theorem dX5_cut_50 : decode cX5_cut 50 = .ok (.iload 7, 2) := by decide +kernel
theorem dX5_cut_52 : decode cX5_cut 52 = .ok (.imul, 1) := by decide +kernel
theorem dX5_cut_53 : decode cX5_cut 53 = .ok (.istore 8, 2) := by decide +kernel
theorem dX5_cut_55 : decode cX5_cut 55 = .ok (.aload 6, 2) := by decide +kernel
theorem dX5_cut_57 : decode cX5_cut 57 = .ok (.getfield 119, 3) := by decide +kernel
theorem dX5_cut_60 : decode cX5_cut 60 = .ok (.bipush 16, 2) := by decide +kernel
theorem dX5_cut_62 : decode cX5_cut 62 = .ok (.if_icmp .ge 12, 3) := by decide +kernel
theorem dX5_cut_65 : decode cX5_cut 65 = .ok (.iload 8, 2) := by decide +kernel
theorem dX5_cut_67 : decode cX5_cut 67 = .ok (.aload_n 0, 1) := by decide +kernel
theorem dX5_cut_68 : decode cX5_cut 68 = .ok (.getfield 122, 3) := by decide +kernel
theorem dX5_cut_71 : decode cX5_cut 71 = .ok (.if_icmp .le 13, 3) := by decide +kernel
theorem dX5_cut_74 : decode cX5_cut 74 = .ok (.new 62, 3) := by decide +kernel
theorem dX5_cut_77 : decode cX5_cut 77 = .ok (.dup, 1) := by decide +kernel
theorem dX5_cut_78 : decode cX5_cut 78 = .ok (.ldc 125, 2) := by decide +kernel
theorem dX5_cut_80 : decode cX5_cut 80 = .ok (.invokespecial 66, 3) := by decide +kernel
theorem dX5_cut_83 : decode cX5_cut 83 = .ok (.athrow, 1) := by decide +kernel
theorem dX5_cut_84 : decode cX5_cut 84 = .ok (.aload 6, 2) := by decide +kernel
theorem dX5_cut_86 : decode cX5_cut 86 = .ok (.iload_n 2, 1) := by decide +kernel
theorem dX5_cut_87 : decode cX5_cut 87 = .ok (.iload_n 3, 1) := by decide +kernel
theorem dX5_cut_88 : decode cX5_cut 88 = .ok (.iload 4, 2) := by decide +kernel
theorem dX5_cut_90 : decode cX5_cut 90 = .ok (.iload 5, 2) := by decide +kernel
theorem dX5_cut_92 : decode cX5_cut 92 = .ok (.invokevirtual 127, 3) := by decide +kernel
theorem dX5_cut_95 : decode cX5_cut 95 = .ok (.aload_n 0, 1) := by decide +kernel
theorem dX5_cut_96 : decode cX5_cut 96 = .ok (.getfield 30, 3) := by decide +kernel
theorem dX5_cut_99 : decode cX5_cut 99 = .ok (.iload 5, 2) := by decide +kernel
theorem dX5_cut_101 : decode cX5_cut 101 = .ok (.iconst (-1), 1) := by decide +kernel
theorem dX5_cut_102 : decode cX5_cut 102 = .ok (.invokevirtual 113, 3) := by decide +kernel
theorem dX5_cut_105 : decode cX5_cut 105 = .ok (.aload_n 0, 1) := by decide +kernel
theorem dX5_cut_106 : decode cX5_cut 106 = .ok (.iload 8, 2) := by decide +kernel
theorem dX5_cut_108 : decode cX5_cut 108 = .ok (.invokevirtual 131, 3) := by decide +kernel
theorem dX5_cut_111 : decode cX5_cut 111 = .ok (.aload_n 0, 1) := by decide +kernel
theorem dX5_cut_112 : decode cX5_cut 112 = .ok (.invokevirtual 116, 3) := by decide +kernel
theorem dX5_cut_115 : decode cX5_cut 115 = .ok (.iload 7, 2) := by decide +kernel
theorem dX5_cut_117 : decode cX5_cut 117 = .ok (.ireturn, 1) := by decide +kernel
theorem dX5_polish_0 : decode cX5_polish 0 = .ok (.aload_n 0, 1) := by decide +kernel
theorem dX5_polish_1 : decode cX5_polish 1 = .ok (.iload_n 1, 1) := by decide +kernel
theorem dX5_polish_2 : decode cX5_polish 2 = .ok (.invokevirtual 78, 3) := by decide +kernel
theorem dX5_polish_5 : decode cX5_polish 5 = .ok (.aload_n 0, 1) := by decide +kernel
theorem dX5_polish_6 : decode cX5_polish 6 = .ok (.iload_n 1, 1) := by decide +kernel
theorem dX5_polish_7 : decode cX5_polish 7 = .ok (.iload_n 2, 1) := by decide +kernel
theorem dX5_polish_8 : decode cX5_polish 8 = .ok (.invokevirtual 134, 3) := by decide +kernel
theorem dX5_polish_11 : decode cX5_polish 11 = .ok (.aload_n 0, 1) := by decide +kernel
theorem dX5_polish_12 : decode cX5_polish 12 = .ok (.getfield 18, 3) := by decide +kernel
theorem dX5_polish_15 : decode cX5_polish 15 = .ok (.iload_n 1, 1) := by decide +kernel
theorem dX5_polish_16 : decode cX5_polish 16 = .ok (.aaload, 1) := by decide +kernel
theorem dX5_polish_17 : decode cX5_polish 17 = .ok (.getfield 137, 3) := by decide +kernel
theorem dX5_polish_20 : decode cX5_polish 20 = .ok (.iload_n 2, 1) := by decide +kernel
theorem dX5_polish_21 : decode cX5_polish 21 = .ok (.aaload, 1) := by decide +kernel
theorem dX5_polish_22 : decode cX5_polish 22 = .ok (.astore_n 3, 1) := by decide +kernel
theorem dX5_polish_23 : decode cX5_polish 23 = .ok (.aload_n 3, 1) := by decide +kernel
theorem dX5_polish_24 : decode cX5_polish 24 = .ok (.getfield 141, 3) := by decide +kernel
theorem dX5_polish_27 : decode cX5_polish 27 = .ok (.iconst 5, 1) := by decide +kernel
theorem dX5_polish_28 : decode cX5_polish 28 = .ok (.iadd, 1) := by decide +kernel
theorem dX5_polish_29 : decode cX5_polish 29 = .ok (.istore 4, 2) := by decide +kernel
theorem dX5_polish_31 : decode cX5_polish 31 = .ok (.aload_n 3, 1) := by decide +kernel
theorem dX5_polish_32 : decode cX5_polish 32 = .ok (.invokevirtual 146, 3) := by decide +kernel
theorem dX5_polish_35 : decode cX5_polish 35 = .ok (.ifCond .eq 19, 3) := by decide +kernel
theorem dX5_polish_38 : decode cX5_polish 38 = .ok (.aload_n 3, 1) := by decide +kernel
theorem dX5_polish_39 : decode cX5_polish 39 = .ok (.getfield 150, 3) := by decide +kernel
theorem dX5_polish_42 : decode cX5_polish 42 = .ok (.ifCond .ne 12, 3) := by decide +kernel
theorem dX5_polish_45 : decode cX5_polish 45 = .ok (.iload 4, 2) := by decide +kernel
theorem dX5_polish_47 : decode cX5_polish 47 = .ok (.aload_n 0, 1) := by decide +kernel
theorem dX5_polish_48 : decode cX5_polish 48 = .ok (.getfield 122, 3) := by decide +kernel
theorem dX5_polish_51 : decode cX5_polish 51 = .ok (.if_icmp .le 13, 3) := by decide +kernel
theorem dX5_polish_54 : decode cX5_polish 54 = .ok (.new 62, 3) := by decide +kernel
theorem dX5_polish_57 : decode cX5_polish 57 = .ok (.dup, 1) := by decide +kernel
theorem dX5_polish_58 : decode cX5_polish 58 = .ok (.ldc 154, 2) := by decide +kernel
theorem dX5_polish_60 : decode cX5_polish 60 = .ok (.invokespecial 66, 3) := by decide +kernel
theorem dX5_polish_63 : decode cX5_polish 63 = .ok (.athrow, 1) := by decide +kernel
theorem dX5_polish_64 : decode cX5_polish 64 = .ok (.aload_n 3, 1) := by decide +kernel
theorem dX5_polish_65 : decode cX5_polish 65 = .ok (.iconst 1, 1) := by decide +kernel
theorem dX5_polish_66 : decode cX5_polish 66 = .ok (.putfield 150, 3) := by decide +kernel
theorem dX5_polish_69 : decode cX5_polish 69 = .ok (.aload_n 0, 1) := by decide +kernel
theorem dX5_polish_70 : decode cX5_polish 70 = .ok (.iload 4, 2) := by decide +kernel
theorem dX5_polish_72 : decode cX5_polish 72 = .ok (.invokevirtual 131, 3) := by decide +kernel
theorem dX5_polish_75 : decode cX5_polish 75 = .ok (.iload 4, 2) := by decide +kernel
theorem dX5_polish_77 : decode cX5_polish 77 = .ok (.ireturn, 1) := by decide +kernel
theorem dX5_dress_0 : decode cX5_dress 0 = .ok (.aload_n 0, 1) := by decide +kernel
theorem dX5_dress_1 : decode cX5_dress 1 = .ok (.getfield 122, 3) := by decide +kernel
theorem dX5_dress_4 : decode cX5_dress 4 = .ok (.istore_n 1, 1) := by decide +kernel
theorem dX5_dress_5 : decode cX5_dress 5 = .ok (.aload_n 0, 1) := by decide +kernel
theorem dX5_dress_6 : decode cX5_dress 6 = .ok (.sipush 400, 3) := by decide +kernel
theorem dX5_dress_9 : decode cX5_dress 9 = .ok (.putfield 122, 3) := by decide +kernel
theorem dX5_dress_12 : decode cX5_dress 12 = .ok (.iload_n 1, 1) := by decide +kernel
theorem dX5_dress_13 : decode cX5_dress 13 = .ok (.ireturn, 1) := by decide +kernel
theorem dX5_stone_0 : decode cX5_stone 0 = .ok (.aload_n 0, 1) := by decide +kernel
theorem dX5_stone_1 : decode cX5_stone 1 = .ok (.iload_n 1, 1) := by decide +kernel
theorem dX5_stone_2 : decode cX5_stone 2 = .ok (.invokevirtual 78, 3) := by decide +kernel
theorem dX5_stone_5 : decode cX5_stone 5 = .ok (.iload_n 2, 1) := by decide +kernel
theorem dX5_stone_6 : decode cX5_stone 6 = .ok (.bipush 9, 2) := by decide +kernel
theorem dX5_stone_8 : decode cX5_stone 8 = .ok (.invokestatic 81, 3) := by decide +kernel
theorem dX5_stone_11 : decode cX5_stone 11 = .ok (.aload_n 0, 1) := by decide +kernel
theorem dX5_stone_12 : decode cX5_stone 12 = .ok (.aload_n 0, 1) := by decide +kernel
theorem dX5_stone_13 : decode cX5_stone 13 = .ok (.getfield 18, 3) := by decide +kernel
theorem dX5_stone_16 : decode cX5_stone 16 = .ok (.iload_n 1, 1) := by decide +kernel
theorem dX5_stone_17 : decode cX5_stone 17 = .ok (.aaload, 1) := by decide +kernel
theorem dX5_stone_18 : decode cX5_stone 18 = .ok (.iload_n 2, 1) := by decide +kernel
theorem dX5_stone_19 : decode cX5_stone 19 = .ok (.invokevirtual 156, 3) := by decide +kernel
theorem dX5_stone_22 : decode cX5_stone 22 = .ok (.ireturn, 1) := by decide +kernel
theorem dX5_plane_0 : decode cX5_plane 0 = .ok (.aload_n 0, 1) := by decide +kernel
theorem dX5_plane_1 : decode cX5_plane 1 = .ok (.iload_n 1, 1) := by decide +kernel
theorem dX5_plane_2 : decode cX5_plane 2 = .ok (.invokevirtual 78, 3) := by decide +kernel
theorem dX5_plane_5 : decode cX5_plane 5 = .ok (.aload_n 0, 1) := by decide +kernel
theorem dX5_plane_6 : decode cX5_plane 6 = .ok (.iload_n 1, 1) := by decide +kernel
theorem dX5_plane_7 : decode cX5_plane 7 = .ok (.iload_n 2, 1) := by decide +kernel
theorem dX5_plane_8 : decode cX5_plane 8 = .ok (.invokevirtual 134, 3) := by decide +kernel
theorem dX5_plane_11 : decode cX5_plane 11 = .ok (.iload_n 3, 1) := by decide +kernel
theorem dX5_plane_12 : decode cX5_plane 12 = .ok (.bipush 6, 2) := by decide +kernel
theorem dX5_plane_14 : decode cX5_plane 14 = .ok (.invokestatic 81, 3) := by decide +kernel
theorem dX5_plane_17 : decode cX5_plane 17 = .ok (.aload_n 0, 1) := by decide +kernel
theorem dX5_plane_18 : decode cX5_plane 18 = .ok (.getfield 18, 3) := by decide +kernel
theorem dX5_plane_21 : decode cX5_plane 21 = .ok (.iload_n 1, 1) := by decide +kernel
theorem dX5_plane_22 : decode cX5_plane 22 = .ok (.aaload, 1) := by decide +kernel
theorem dX5_plane_23 : decode cX5_plane 23 = .ok (.getfield 137, 3) := by decide +kernel
theorem dX5_plane_26 : decode cX5_plane 26 = .ok (.iload_n 2, 1) := by decide +kernel
theorem dX5_plane_27 : decode cX5_plane 27 = .ok (.aaload, 1) := by decide +kernel
theorem dX5_plane_28 : decode cX5_plane 28 = .ok (.iload_n 3, 1) := by decide +kernel
theorem dX5_plane_29 : decode cX5_plane 29 = .ok (.invokevirtual 160, 3) := by decide +kernel
theorem dX5_plane_32 : decode cX5_plane 32 = .ok (.ireturn, 1) := by decide +kernel
theorem dX5_count_0 : decode cX5_count 0 = .ok (.iload_n 1, 1) := by decide +kernel
theorem dX5_count_1 : decode cX5_count 1 = .ok (.bipush 8, 2) := by decide +kernel
theorem dX5_count_3 : decode cX5_count 3 = .ok (.invokestatic 81, 3) := by decide +kernel
theorem dX5_count_6 : decode cX5_count 6 = .ok (.aload_n 0, 1) := by decide +kernel
theorem dX5_count_7 : decode cX5_count 7 = .ok (.iload_n 1, 1) := by decide +kernel
theorem dX5_count_8 : decode cX5_count 8 = .ok (.invokevirtual 167, 3) := by decide +kernel
theorem dX5_count_11 : decode cX5_count 11 = .ok (.ireturn, 1) := by decide +kernel
theorem dX5_would_0 : decode cX5_would 0 = .ok (.aload_n 0, 1) := by decide +kernel
theorem dX5_would_1 : decode cX5_would 1 = .ok (.iload_n 1, 1) := by decide +kernel
theorem dX5_would_2 : decode cX5_would 2 = .ok (.invokevirtual 78, 3) := by decide +kernel
theorem dX5_would_5 : decode cX5_would 5 = .ok (.iload 6, 2) := by decide +kernel
theorem dX5_would_7 : decode cX5_would 7 = .ok (.iconst 4, 1) := by decide +kernel
theorem dX5_would_8 : decode cX5_would 8 = .ok (.invokestatic 81, 3) := by decide +kernel
theorem dX5_would_11 : decode cX5_would 11 = .ok (.iload_n 2, 1) := by decide +kernel
theorem dX5_would_12 : decode cX5_would 12 = .ok (.iload_n 3, 1) := by decide +kernel
theorem dX5_would_13 : decode cX5_would 13 = .ok (.iload 4, 2) := by decide +kernel
theorem dX5_would_15 : decode cX5_would 15 = .ok (.invokestatic 88, 3) := by decide +kernel
theorem dX5_would_18 : decode cX5_would 18 = .ok (.iload 5, 2) := by decide +kernel
theorem dX5_would_20 : decode cX5_would 20 = .ok (.invokestatic 91, 3) := by decide +kernel
theorem dX5_would_23 : decode cX5_would 23 = .ok (.aload_n 0, 1) := by decide +kernel
theorem dX5_would_24 : decode cX5_would 24 = .ok (.getfield 30, 3) := by decide +kernel
theorem dX5_would_27 : decode cX5_would 27 = .ok (.aload_n 0, 1) := by decide +kernel
theorem dX5_would_28 : decode cX5_would 28 = .ok (.getfield 18, 3) := by decide +kernel
theorem dX5_would_31 : decode cX5_would 31 = .ok (.iload_n 1, 1) := by decide +kernel
theorem dX5_would_32 : decode cX5_would 32 = .ok (.aaload, 1) := by decide +kernel
theorem dX5_would_33 : decode cX5_would 33 = .ok (.iload_n 2, 1) := by decide +kernel
theorem dX5_would_34 : decode cX5_would 34 = .ok (.iload_n 3, 1) := by decide +kernel
theorem dX5_would_35 : decode cX5_would 35 = .ok (.iload 4, 2) := by decide +kernel
theorem dX5_would_37 : decode cX5_would 37 = .ok (.invokevirtual 170, 3) := by decide +kernel
theorem dX5_would_40 : decode cX5_would 40 = .ok (.iload 6, 2) := by decide +kernel
theorem dX5_would_42 : decode cX5_would 42 = .ok (.tableswitch 56 0 2 #[26, 36, 46], 26) := by decide +kernel
theorem dX5_would_68 : decode cX5_would 68 = .ok (.aload_n 0, 1) := by decide +kernel
theorem dX5_would_69 : decode cX5_would 69 = .ok (.getfield 30, 3) := by decide +kernel
theorem dX5_would_72 : decode cX5_would 72 = .ok (.iload 5, 2) := by decide +kernel
theorem dX5_would_74 : decode cX5_would 74 = .ok (.invokevirtual 98, 3) := by decide +kernel
theorem dX5_would_77 : decode cX5_would 77 = .ok (.ireturn, 1) := by decide +kernel
theorem dX5_would_78 : decode cX5_would 78 = .ok (.aload_n 0, 1) := by decide +kernel
theorem dX5_would_79 : decode cX5_would 79 = .ok (.getfield 30, 3) := by decide +kernel
theorem dX5_would_82 : decode cX5_would 82 = .ok (.iload 5, 2) := by decide +kernel
theorem dX5_would_84 : decode cX5_would 84 = .ok (.invokevirtual 173, 3) := by decide +kernel
theorem dX5_would_87 : decode cX5_would 87 = .ok (.ireturn, 1) := by decide +kernel
theorem dX5_would_88 : decode cX5_would 88 = .ok (.aload_n 0, 1) := by decide +kernel
theorem dX5_would_89 : decode cX5_would 89 = .ok (.getfield 30, 3) := by decide +kernel
theorem dX5_would_92 : decode cX5_would 92 = .ok (.iload 5, 2) := by decide +kernel
theorem dX5_would_94 : decode cX5_would 94 = .ok (.invokevirtual 176, 3) := by decide +kernel
theorem dX5_would_97 : decode cX5_would 97 = .ok (.ireturn, 1) := by decide +kernel
theorem dX5_would_98 : decode cX5_would 98 = .ok (.aload_n 0, 1) := by decide +kernel
theorem dX5_would_99 : decode cX5_would 99 = .ok (.getfield 30, 3) := by decide +kernel
theorem dX5_would_102 : decode cX5_would 102 = .ok (.iload 5, 2) := by decide +kernel
theorem dX5_would_104 : decode cX5_would 104 = .ok (.invokevirtual 179, 3) := by decide +kernel
theorem dX5_would_107 : decode cX5_would 107 = .ok (.ireturn, 1) := by decide +kernel
theorem dX5_depth_0 : decode cX5_depth 0 = .ok (.aload_n 0, 1) := by decide +kernel
theorem dX5_depth_1 : decode cX5_depth 1 = .ok (.iload_n 1, 1) := by decide +kernel
theorem dX5_depth_2 : decode cX5_depth 2 = .ok (.invokevirtual 78, 3) := by decide +kernel
theorem dX5_depth_5 : decode cX5_depth 5 = .ok (.iload_n 2, 1) := by decide +kernel
theorem dX5_depth_6 : decode cX5_depth 6 = .ok (.iload_n 3, 1) := by decide +kernel
theorem dX5_depth_7 : decode cX5_depth 7 = .ok (.iload 4, 2) := by decide +kernel
theorem dX5_depth_9 : decode cX5_depth 9 = .ok (.invokestatic 88, 3) := by decide +kernel
theorem dX5_depth_12 : decode cX5_depth 12 = .ok (.aload_n 0, 1) := by decide +kernel
theorem dX5_depth_13 : decode cX5_depth 13 = .ok (.getfield 18, 3) := by decide +kernel
theorem dX5_depth_16 : decode cX5_depth 16 = .ok (.iload_n 1, 1) := by decide +kernel
theorem dX5_depth_17 : decode cX5_depth 17 = .ok (.aaload, 1) := by decide +kernel
theorem dX5_depth_18 : decode cX5_depth 18 = .ok (.getfield 105, 3) := by decide +kernel
theorem dX5_depth_21 : decode cX5_depth 21 = .ok (.ifCond .ne 13, 3) := by decide +kernel
theorem dX5_depth_24 : decode cX5_depth 24 = .ok (.new 62, 3) := by decide +kernel
theorem dX5_depth_27 : decode cX5_depth 27 = .ok (.dup, 1) := by decide +kernel
theorem dX5_depth_28 : decode cX5_depth 28 = .ok (.ldc 182, 2) := by decide +kernel
theorem dX5_depth_30 : decode cX5_depth 30 = .ok (.invokespecial 66, 3) := by decide +kernel
theorem dX5_depth_33 : decode cX5_depth 33 = .ok (.athrow, 1) := by decide +kernel
theorem dX5_depth_34 : decode cX5_depth 34 = .ok (.aload_n 0, 1) := by decide +kernel
theorem dX5_depth_35 : decode cX5_depth 35 = .ok (.getfield 30, 3) := by decide +kernel
theorem dX5_depth_38 : decode cX5_depth 38 = .ok (.aload_n 0, 1) := by decide +kernel
theorem dX5_depth_39 : decode cX5_depth 39 = .ok (.getfield 18, 3) := by decide +kernel
theorem dX5_depth_42 : decode cX5_depth 42 = .ok (.iload_n 1, 1) := by decide +kernel
theorem dX5_depth_43 : decode cX5_depth 43 = .ok (.aaload, 1) := by decide +kernel
theorem dX5_depth_44 : decode cX5_depth 44 = .ok (.iload_n 2, 1) := by decide +kernel
theorem dX5_depth_45 : decode cX5_depth 45 = .ok (.iload_n 3, 1) := by decide +kernel
theorem dX5_depth_46 : decode cX5_depth 46 = .ok (.iload 4, 2) := by decide +kernel
theorem dX5_depth_48 : decode cX5_depth 48 = .ok (.invokevirtual 170, 3) := by decide +kernel
theorem dX5_depth_51 : decode cX5_depth 51 = .ok (.aload_n 0, 1) := by decide +kernel
theorem dX5_depth_52 : decode cX5_depth 52 = .ok (.getfield 30, 3) := by decide +kernel
theorem dX5_depth_55 : decode cX5_depth 55 = .ok (.invokevirtual 184, 3) := by decide +kernel
theorem dX5_depth_58 : decode cX5_depth 58 = .ok (.ireturn, 1) := by decide +kernel
theorem dX5_rid_0 : decode cX5_rid 0 = .ok (.aload_n 0, 1) := by decide +kernel
theorem dX5_rid_1 : decode cX5_rid 1 = .ok (.iload_n 1, 1) := by decide +kernel
theorem dX5_rid_2 : decode cX5_rid 2 = .ok (.invokevirtual 75, 3) := by decide +kernel
theorem dX5_rid_5 : decode cX5_rid 5 = .ok (.aload_n 0, 1) := by decide +kernel
theorem dX5_rid_6 : decode cX5_rid 6 = .ok (.iload_n 2, 1) := by decide +kernel
theorem dX5_rid_7 : decode cX5_rid 7 = .ok (.invokevirtual 78, 3) := by decide +kernel
theorem dX5_rid_10 : decode cX5_rid 10 = .ok (.iload_n 3, 1) := by decide +kernel
theorem dX5_rid_11 : decode cX5_rid 11 = .ok (.iconst 3, 1) := by decide +kernel
theorem dX5_rid_12 : decode cX5_rid 12 = .ok (.invokestatic 81, 3) := by decide +kernel
theorem dX5_rid_15 : decode cX5_rid 15 = .ok (.aload_n 0, 1) := by decide +kernel
theorem dX5_rid_16 : decode cX5_rid 16 = .ok (.getfield 10, 3) := by decide +kernel
theorem dX5_rid_19 : decode cX5_rid 19 = .ok (.getfield 187, 3) := by decide +kernel
theorem dX5_rid_22 : decode cX5_rid 22 = .ok (.iload_n 1, 1) := by decide +kernel
theorem dX5_rid_23 : decode cX5_rid 23 = .ok (.aaload, 1) := by decide +kernel
theorem dX5_rid_24 : decode cX5_rid 24 = .ok (.astore 4, 2) := by decide +kernel
theorem dX5_rid_26 : decode cX5_rid 26 = .ok (.aload 4, 2) := by decide +kernel
theorem dX5_rid_28 : decode cX5_rid 28 = .ok (.iload_n 2, 1) := by decide +kernel
theorem dX5_rid_29 : decode cX5_rid 29 = .ok (.invokevirtual 191, 3) := by decide +kernel
theorem dX5_rid_32 : decode cX5_rid 32 = .ok (.iconst (-1), 1) := by decide +kernel
theorem dX5_rid_33 : decode cX5_rid 33 = .ok (.if_icmp .ne 16, 3) := by decide +kernel
theorem dX5_rid_36 : decode cX5_rid 36 = .ok (.iload_n 3, 1) := by decide +kernel
theorem dX5_rid_37 : decode cX5_rid 37 = .ok (.iconst 1, 1) := by decide +kernel
theorem dX5_rid_38 : decode cX5_rid 38 = .ok (.if_icmp .ne 9, 3) := by decide +kernel
theorem dX5_rid_41 : decode cX5_rid 41 = .ok (.sipush (-1000), 3) := by decide +kernel
theorem dX5_rid_44 : decode cX5_rid 44 = .ok (.goto 4, 3) := by decide +kernel
theorem dX5_rid_47 : decode cX5_rid 47 = .ok (.iconst (-1), 1) := by decide +kernel
theorem dX5_rid_48 : decode cX5_rid 48 = .ok (.ireturn, 1) := by decide +kernel
theorem dX5_rid_49 : decode cX5_rid 49 = .ok (.aload_n 0, 1) := by decide +kernel
theorem dX5_rid_50 : decode cX5_rid 50 = .ok (.getfield 30, 3) := by decide +kernel
theorem dX5_rid_53 : decode cX5_rid 53 = .ok (.aload_n 0, 1) := by decide +kernel
theorem dX5_rid_54 : decode cX5_rid 54 = .ok (.getfield 18, 3) := by decide +kernel
theorem dX5_rid_57 : decode cX5_rid 57 = .ok (.iload_n 2, 1) := by decide +kernel
theorem dX5_rid_58 : decode cX5_rid 58 = .ok (.aaload, 1) := by decide +kernel
theorem dX5_rid_59 : decode cX5_rid 59 = .ok (.aload 4, 2) := by decide +kernel
theorem dX5_rid_61 : decode cX5_rid 61 = .ok (.iload_n 3, 1) := by decide +kernel
theorem dX5_rid_62 : decode cX5_rid 62 = .ok (.invokevirtual 196, 3) := by decide +kernel
theorem dX5_rid_65 : decode cX5_rid 65 = .ok (.ireturn, 1) := by decide +kernel
theorem dX5_kept_0 : decode cX5_kept 0 = .ok (.aload_n 0, 1) := by decide +kernel
theorem dX5_kept_1 : decode cX5_kept 1 = .ok (.getfield 10, 3) := by decide +kernel
theorem dX5_kept_4 : decode cX5_kept 4 = .ok (.invokevirtual 49, 3) := by decide +kernel
theorem dX5_kept_7 : decode cX5_kept 7 = .ok (.istore_n 1, 1) := by decide +kernel
theorem dX5_kept_8 : decode cX5_kept 8 = .ok (.iload_n 1, 1) := by decide +kernel
theorem dX5_kept_9 : decode cX5_kept 9 = .ok (.ifCond .ne 7, 3) := by decide +kernel
theorem dX5_kept_12 : decode cX5_kept 12 = .ok (.dconst 0, 1) := by decide +kernel
theorem dX5_kept_13 : decode cX5_kept 13 = .ok (.goto 11, 3) := by decide +kernel
theorem dX5_kept_16 : decode cX5_kept 16 = .ok (.aload_n 0, 1) := by decide +kernel
theorem dX5_kept_17 : decode cX5_kept 17 = .ok (.invokevirtual 200, 3) := by decide +kernel
theorem dX5_kept_20 : decode cX5_kept 20 = .ok (.i2d, 1) := by decide +kernel
theorem dX5_kept_21 : decode cX5_kept 21 = .ok (.iload_n 1, 1) := by decide +kernel
theorem dX5_kept_22 : decode cX5_kept 22 = .ok (.i2d, 1) := by decide +kernel
theorem dX5_kept_23 : decode cX5_kept 23 = .ok (.ddiv, 1) := by decide +kernel
theorem dX5_kept_24 : decode cX5_kept 24 = .ok (.dreturn, 1) := by decide +kernel
theorem dX5_isSide_0 : decode cX5_isSide 0 = .ok (.iload_n 0, 1) := by decide +kernel
theorem dX5_isSide_1 : decode cX5_isSide 1 = .ok (.iconst 1, 1) := by decide +kernel
theorem dX5_isSide_2 : decode cX5_isSide 2 = .ok (.if_icmp .lt 13, 3) := by decide +kernel
theorem dX5_isSide_5 : decode cX5_isSide 5 = .ok (.iload_n 0, 1) := by decide +kernel
theorem dX5_isSide_6 : decode cX5_isSide 6 = .ok (.bipush 10, 2) := by decide +kernel
theorem dX5_isSide_8 : decode cX5_isSide 8 = .ok (.if_icmp .gt 7, 3) := by decide +kernel
theorem dX5_isSide_11 : decode cX5_isSide 11 = .ok (.iconst 1, 1) := by decide +kernel
theorem dX5_isSide_12 : decode cX5_isSide 12 = .ok (.goto 4, 3) := by decide +kernel
theorem dX5_isSide_15 : decode cX5_isSide 15 = .ok (.iconst 0, 1) := by decide +kernel
theorem dX5_isSide_16 : decode cX5_isSide 16 = .ok (.ireturn, 1) := by decide +kernel
theorem dX5_wantCell_0 : decode cX5_wantCell 0 = .ok (.aload_n 0, 1) := by decide +kernel
theorem dX5_wantCell_1 : decode cX5_wantCell 1 = .ok (.getfield 10, 3) := by decide +kernel
theorem dX5_wantCell_4 : decode cX5_wantCell 4 = .ok (.iload_n 1, 1) := by decide +kernel
theorem dX5_wantCell_5 : decode cX5_wantCell 5 = .ok (.iload_n 2, 1) := by decide +kernel
theorem dX5_wantCell_6 : decode cX5_wantCell 6 = .ok (.iload_n 3, 1) := by decide +kernel
theorem dX5_wantCell_7 : decode cX5_wantCell 7 = .ok (.invokevirtual 215, 3) := by decide +kernel
theorem dX5_wantCell_10 : decode cX5_wantCell 10 = .ok (.ifCond .ne 13, 3) := by decide +kernel
theorem dX5_wantCell_13 : decode cX5_wantCell 13 = .ok (.new 219, 3) := by decide +kernel
theorem dX5_wantCell_16 : decode cX5_wantCell 16 = .ok (.dup, 1) := by decide +kernel
theorem dX5_wantCell_17 : decode cX5_wantCell 17 = .ok (.ldc 221, 2) := by decide +kernel
theorem dX5_wantCell_19 : decode cX5_wantCell 19 = .ok (.invokespecial 223, 3) := by decide +kernel
theorem dX5_wantCell_22 : decode cX5_wantCell 22 = .ok (.athrow, 1) := by decide +kernel
theorem dX5_wantCell_23 : decode cX5_wantCell 23 = .ok (.return_, 1) := by decide +kernel
theorem dX5_wantFlaw_0 : decode cX5_wantFlaw 0 = .ok (.iload_n 1, 1) := by decide +kernel
theorem dX5_wantFlaw_1 : decode cX5_wantFlaw 1 = .ok (.ifCond .lt 14, 3) := by decide +kernel
theorem dX5_wantFlaw_4 : decode cX5_wantFlaw 4 = .ok (.iload_n 1, 1) := by decide +kernel
theorem dX5_wantFlaw_5 : decode cX5_wantFlaw 5 = .ok (.aload_n 0, 1) := by decide +kernel
theorem dX5_wantFlaw_6 : decode cX5_wantFlaw 6 = .ok (.getfield 10, 3) := by decide +kernel
theorem dX5_wantFlaw_9 : decode cX5_wantFlaw 9 = .ok (.getfield 58, 3) := by decide +kernel
theorem dX5_wantFlaw_12 : decode cX5_wantFlaw 12 = .ok (.if_icmp .lt 13, 3) := by decide +kernel
theorem dX5_wantFlaw_15 : decode cX5_wantFlaw 15 = .ok (.new 219, 3) := by decide +kernel
theorem dX5_wantFlaw_18 : decode cX5_wantFlaw 18 = .ok (.dup, 1) := by decide +kernel
theorem dX5_wantFlaw_19 : decode cX5_wantFlaw 19 = .ok (.ldc 224, 2) := by decide +kernel
theorem dX5_wantFlaw_21 : decode cX5_wantFlaw 21 = .ok (.invokespecial 223, 3) := by decide +kernel
theorem dX5_wantFlaw_24 : decode cX5_wantFlaw 24 = .ok (.athrow, 1) := by decide +kernel
theorem dX5_wantFlaw_25 : decode cX5_wantFlaw 25 = .ok (.return_, 1) := by decide +kernel
theorem dX5_wantStone_0 : decode cX5_wantStone 0 = .ok (.iload_n 1, 1) := by decide +kernel
theorem dX5_wantStone_1 : decode cX5_wantStone 1 = .ok (.ifCond .lt 11, 3) := by decide +kernel
theorem dX5_wantStone_4 : decode cX5_wantStone 4 = .ok (.iload_n 1, 1) := by decide +kernel
theorem dX5_wantStone_5 : decode cX5_wantStone 5 = .ok (.aload_n 0, 1) := by decide +kernel
theorem dX5_wantStone_6 : decode cX5_wantStone 6 = .ok (.getfield 102, 3) := by decide +kernel
theorem dX5_wantStone_9 : decode cX5_wantStone 9 = .ok (.if_icmp .lt 13, 3) := by decide +kernel
theorem dX5_wantStone_12 : decode cX5_wantStone 12 = .ok (.new 219, 3) := by decide +kernel
theorem dX5_wantStone_15 : decode cX5_wantStone 15 = .ok (.dup, 1) := by decide +kernel
theorem dX5_wantStone_16 : decode cX5_wantStone 16 = .ok (.ldc 226, 2) := by decide +kernel
theorem dX5_wantStone_18 : decode cX5_wantStone 18 = .ok (.invokespecial 223, 3) := by decide +kernel
theorem dX5_wantStone_21 : decode cX5_wantStone 21 = .ok (.athrow, 1) := by decide +kernel
theorem dX5_wantStone_22 : decode cX5_wantStone 22 = .ok (.return_, 1) := by decide +kernel
theorem dX5_wantPlane_0 : decode cX5_wantPlane 0 = .ok (.iload_n 2, 1) := by decide +kernel
theorem dX5_wantPlane_1 : decode cX5_wantPlane 1 = .ok (.ifCond .lt 16, 3) := by decide +kernel
theorem dX5_wantPlane_4 : decode cX5_wantPlane 4 = .ok (.iload_n 2, 1) := by decide +kernel
theorem dX5_wantPlane_5 : decode cX5_wantPlane 5 = .ok (.aload_n 0, 1) := by decide +kernel
theorem dX5_wantPlane_6 : decode cX5_wantPlane 6 = .ok (.getfield 18, 3) := by decide +kernel
theorem dX5_wantPlane_9 : decode cX5_wantPlane 9 = .ok (.iload_n 1, 1) := by decide +kernel
theorem dX5_wantPlane_10 : decode cX5_wantPlane 10 = .ok (.aaload, 1) := by decide +kernel
theorem dX5_wantPlane_11 : decode cX5_wantPlane 11 = .ok (.getfield 119, 3) := by decide +kernel
theorem dX5_wantPlane_14 : decode cX5_wantPlane 14 = .ok (.if_icmp .lt 13, 3) := by decide +kernel
theorem dX5_wantPlane_17 : decode cX5_wantPlane 17 = .ok (.new 219, 3) := by decide +kernel
theorem dX5_wantPlane_20 : decode cX5_wantPlane 20 = .ok (.dup, 1) := by decide +kernel
theorem dX5_wantPlane_21 : decode cX5_wantPlane 21 = .ok (.ldc 228, 2) := by decide +kernel
theorem dX5_wantPlane_23 : decode cX5_wantPlane 23 = .ok (.invokespecial 223, 3) := by decide +kernel
theorem dX5_wantPlane_26 : decode cX5_wantPlane 26 = .ok (.athrow, 1) := by decide +kernel
theorem dX5_wantPlane_27 : decode cX5_wantPlane 27 = .ok (.return_, 1) := by decide +kernel
theorem dX5_wantWhat_0 : decode cX5_wantWhat 0 = .ok (.iload_n 0, 1) := by decide +kernel
theorem dX5_wantWhat_1 : decode cX5_wantWhat 1 = .ok (.ifCond .lt 8, 3) := by decide +kernel
theorem dX5_wantWhat_4 : decode cX5_wantWhat 4 = .ok (.iload_n 0, 1) := by decide +kernel
theorem dX5_wantWhat_5 : decode cX5_wantWhat 5 = .ok (.iload_n 1, 1) := by decide +kernel
theorem dX5_wantWhat_6 : decode cX5_wantWhat 6 = .ok (.if_icmp .lt 13, 3) := by decide +kernel
theorem dX5_wantWhat_9 : decode cX5_wantWhat 9 = .ok (.new 219, 3) := by decide +kernel
theorem dX5_wantWhat_12 : decode cX5_wantWhat 12 = .ok (.dup, 1) := by decide +kernel
theorem dX5_wantWhat_13 : decode cX5_wantWhat 13 = .ok (.ldc 230, 2) := by decide +kernel
theorem dX5_wantWhat_15 : decode cX5_wantWhat 15 = .ok (.invokespecial 223, 3) := by decide +kernel
theorem dX5_wantWhat_18 : decode cX5_wantWhat 18 = .ok (.athrow, 1) := by decide +kernel
theorem dX5_wantWhat_19 : decode cX5_wantWhat 19 = .ok (.return_, 1) := by decide +kernel
theorem dX5_wantSlope_0 : decode cX5_wantSlope 0 = .ok (.iload_n 0, 1) := by decide +kernel
theorem dX5_wantSlope_1 : decode cX5_wantSlope 1 = .ok (.invokestatic 232, 3) := by decide +kernel
theorem dX5_wantSlope_4 : decode cX5_wantSlope 4 = .ok (.ifCond .eq 29, 3) := by decide +kernel
theorem dX5_wantSlope_7 : decode cX5_wantSlope 7 = .ok (.iload_n 1, 1) := by decide +kernel
theorem dX5_wantSlope_8 : decode cX5_wantSlope 8 = .ok (.invokestatic 232, 3) := by decide +kernel
theorem dX5_wantSlope_11 : decode cX5_wantSlope 11 = .ok (.ifCond .eq 22, 3) := by decide +kernel
theorem dX5_wantSlope_14 : decode cX5_wantSlope 14 = .ok (.iload_n 2, 1) := by decide +kernel
theorem dX5_wantSlope_15 : decode cX5_wantSlope 15 = .ok (.invokestatic 232, 3) := by decide +kernel
theorem dX5_wantSlope_18 : decode cX5_wantSlope 18 = .ok (.ifCond .eq 15, 3) := by decide +kernel
theorem dX5_wantSlope_21 : decode cX5_wantSlope 21 = .ok (.iload_n 0, 1) := by decide +kernel
theorem dX5_wantSlope_22 : decode cX5_wantSlope 22 = .ok (.ifCond .ne 21, 3) := by decide +kernel
theorem dX5_wantSlope_25 : decode cX5_wantSlope 25 = .ok (.iload_n 1, 1) := by decide +kernel
theorem dX5_wantSlope_26 : decode cX5_wantSlope 26 = .ok (.ifCond .ne 17, 3) := by decide +kernel
theorem dX5_wantSlope_29 : decode cX5_wantSlope 29 = .ok (.iload_n 2, 1) := by decide +kernel
theorem dX5_wantSlope_30 : decode cX5_wantSlope 30 = .ok (.ifCond .ne 13, 3) := by decide +kernel
theorem dX5_wantSlope_33 : decode cX5_wantSlope 33 = .ok (.new 42, 3) := by decide +kernel
theorem dX5_wantSlope_36 : decode cX5_wantSlope 36 = .ok (.dup, 1) := by decide +kernel
theorem dX5_wantSlope_37 : decode cX5_wantSlope 37 = .ok (.ldc 235, 2) := by decide +kernel
theorem dX5_wantSlope_39 : decode cX5_wantSlope 39 = .ok (.invokespecial 46, 3) := by decide +kernel
theorem dX5_wantSlope_42 : decode cX5_wantSlope 42 = .ok (.athrow, 1) := by decide +kernel
theorem dX5_wantSlope_43 : decode cX5_wantSlope 43 = .ok (.return_, 1) := by decide +kernel
theorem dX5_isSteepness_0 : decode cX5_isSteepness 0 = .ok (.iload_n 0, 1) := by decide +kernel
theorem dX5_isSteepness_1 : decode cX5_isSteepness 1 = .ok (.bipush (-3), 2) := by decide +kernel
theorem dX5_isSteepness_3 : decode cX5_isSteepness 3 = .ok (.if_icmp .lt 12, 3) := by decide +kernel
theorem dX5_isSteepness_6 : decode cX5_isSteepness 6 = .ok (.iload_n 0, 1) := by decide +kernel
theorem dX5_isSteepness_7 : decode cX5_isSteepness 7 = .ok (.iconst 3, 1) := by decide +kernel
theorem dX5_isSteepness_8 : decode cX5_isSteepness 8 = .ok (.if_icmp .gt 7, 3) := by decide +kernel
theorem dX5_isSteepness_11 : decode cX5_isSteepness 11 = .ok (.iconst 1, 1) := by decide +kernel
theorem dX5_isSteepness_12 : decode cX5_isSteepness 12 = .ok (.goto 4, 3) := by decide +kernel
theorem dX5_isSteepness_15 : decode cX5_isSteepness 15 = .ok (.iconst 0, 1) := by decide +kernel
theorem dX5_isSteepness_16 : decode cX5_isSteepness 16 = .ok (.ireturn, 1) := by decide +kernel
theorem dX5_wantDepth_0 : decode cX5_wantDepth 0 = .ok (.iload_n 0, 1) := by decide +kernel
theorem dX5_wantDepth_1 : decode cX5_wantDepth 1 = .ok (.bipush (-100), 2) := by decide +kernel
theorem dX5_wantDepth_3 : decode cX5_wantDepth 3 = .ok (.if_icmp .lt 9, 3) := by decide +kernel
theorem dX5_wantDepth_6 : decode cX5_wantDepth 6 = .ok (.iload_n 0, 1) := by decide +kernel
theorem dX5_wantDepth_7 : decode cX5_wantDepth 7 = .ok (.bipush 100, 2) := by decide +kernel
theorem dX5_wantDepth_9 : decode cX5_wantDepth 9 = .ok (.if_icmp .le 13, 3) := by decide +kernel
theorem dX5_wantDepth_12 : decode cX5_wantDepth 12 = .ok (.new 42, 3) := by decide +kernel
theorem dX5_wantDepth_15 : decode cX5_wantDepth 15 = .ok (.dup, 1) := by decide +kernel
theorem dX5_wantDepth_16 : decode cX5_wantDepth 16 = .ok (.ldc 237, 2) := by decide +kernel
theorem dX5_wantDepth_18 : decode cX5_wantDepth 18 = .ok (.invokespecial 46, 3) := by decide +kernel
theorem dX5_wantDepth_21 : decode cX5_wantDepth 21 = .ok (.athrow, 1) := by decide +kernel
theorem dX5_wantDepth_22 : decode cX5_wantDepth 22 = .ok (.return_, 1) := by decide +kernel
theorem dX5_beginRough_0 : decode cX5_beginRough 0 = .ok (.aload_n 0, 1) := by decide +kernel
theorem dX5_beginRough_1 : decode cX5_beginRough 1 = .ok (.getfield 10, 3) := by decide +kernel
theorem dX5_beginRough_4 : decode cX5_beginRough 4 = .ok (.iload_n 1, 1) := by decide +kernel
theorem dX5_beginRough_5 : decode cX5_beginRough 5 = .ok (.iload_n 2, 1) := by decide +kernel
theorem dX5_beginRough_6 : decode cX5_beginRough 6 = .ok (.iload_n 3, 1) := by decide +kernel
theorem dX5_beginRough_7 : decode cX5_beginRough 7 = .ok (.invokevirtual 239, 3) := by decide +kernel
theorem dX5_beginRough_10 : decode cX5_beginRough 10 = .ok (.aload_n 0, 1) := by decide +kernel
theorem dX5_beginRough_11 : decode cX5_beginRough 11 = .ok (.getfield 18, 3) := by decide +kernel
theorem dX5_beginRough_14 : decode cX5_beginRough 14 = .ok (.iconst 0, 1) := by decide +kernel
theorem dX5_beginRough_15 : decode cX5_beginRough 15 = .ok (.aaload, 1) := by decide +kernel
theorem dX5_beginRough_16 : decode cX5_beginRough 16 = .ok (.invokevirtual 110, 3) := by decide +kernel
theorem dX5_beginRough_19 : decode cX5_beginRough 19 = .ok (.aload_n 0, 1) := by decide +kernel
theorem dX5_beginRough_20 : decode cX5_beginRough 20 = .ok (.iconst 1, 1) := by decide +kernel
theorem dX5_beginRough_21 : decode cX5_beginRough 21 = .ok (.putfield 102, 3) := by decide +kernel
theorem dX5_beginRough_24 : decode cX5_beginRough 24 = .ok (.aload_n 0, 1) := by decide +kernel
theorem dX5_beginRough_25 : decode cX5_beginRough 25 = .ok (.sipush 400, 3) := by decide +kernel
theorem dX5_beginRough_28 : decode cX5_beginRough 28 = .ok (.putfield 122, 3) := by decide +kernel
theorem dX5_beginRough_31 : decode cX5_beginRough 31 = .ok (.aload_n 0, 1) := by decide +kernel
theorem dX5_beginRough_32 : decode cX5_beginRough 32 = .ok (.iconst 0, 1) := by decide +kernel
theorem dX5_beginRough_33 : decode cX5_beginRough 33 = .ok (.putfield 242, 3) := by decide +kernel
theorem dX5_beginRough_36 : decode cX5_beginRough 36 = .ok (.aload_n 0, 1) := by decide +kernel
theorem dX5_beginRough_37 : decode cX5_beginRough 37 = .ok (.invokevirtual 116, 3) := by decide +kernel
theorem dX5_beginRough_40 : decode cX5_beginRough 40 = .ok (.return_, 1) := by decide +kernel
theorem dX5_spend_0 : decode cX5_spend 0 = .ok (.aload_n 0, 1) := by decide +kernel
theorem dX5_spend_1 : decode cX5_spend 1 = .ok (.dup, 1) := by decide +kernel
theorem dX5_spend_2 : decode cX5_spend 2 = .ok (.getfield 122, 3) := by decide +kernel
theorem dX5_spend_5 : decode cX5_spend 5 = .ok (.iload_n 1, 1) := by decide +kernel
theorem dX5_spend_6 : decode cX5_spend 6 = .ok (.isub, 1) := by decide +kernel
theorem dX5_spend_7 : decode cX5_spend 7 = .ok (.putfield 122, 3) := by decide +kernel
theorem dX5_spend_10 : decode cX5_spend 10 = .ok (.aload_n 0, 1) := by decide +kernel
theorem dX5_spend_11 : decode cX5_spend 11 = .ok (.dup, 1) := by decide +kernel
theorem dX5_spend_12 : decode cX5_spend 12 = .ok (.getfield 242, 3) := by decide +kernel
theorem dX5_spend_15 : decode cX5_spend 15 = .ok (.iload_n 1, 1) := by decide +kernel
theorem dX5_spend_16 : decode cX5_spend 16 = .ok (.iadd, 1) := by decide +kernel
theorem dX5_spend_17 : decode cX5_spend 17 = .ok (.putfield 242, 3) := by decide +kernel
theorem dX5_spend_20 : decode cX5_spend 20 = .ok (.return_, 1) := by decide +kernel
theorem dX5_survey_0 : decode cX5_survey 0 = .ok (.iconst 0, 1) := by decide +kernel
theorem dX5_survey_1 : decode cX5_survey 1 = .ok (.istore_n 1, 1) := by decide +kernel
theorem dX5_survey_2 : decode cX5_survey 2 = .ok (.iload_n 1, 1) := by decide +kernel
theorem dX5_survey_3 : decode cX5_survey 3 = .ok (.aload_n 0, 1) := by decide +kernel
theorem dX5_survey_4 : decode cX5_survey 4 = .ok (.getfield 102, 3) := by decide +kernel
theorem dX5_survey_7 : decode cX5_survey 7 = .ok (.if_icmp .ge 18, 3) := by decide +kernel
theorem dX5_survey_10 : decode cX5_survey 10 = .ok (.aload_n 0, 1) := by decide +kernel
theorem dX5_survey_11 : decode cX5_survey 11 = .ok (.getfield 18, 3) := by decide +kernel
theorem dX5_survey_14 : decode cX5_survey 14 = .ok (.iload_n 1, 1) := by decide +kernel
theorem dX5_survey_15 : decode cX5_survey 15 = .ok (.aaload, 1) := by decide +kernel
theorem dX5_survey_16 : decode cX5_survey 16 = .ok (.invokevirtual 245, 3) := by decide +kernel
theorem dX5_survey_19 : decode cX5_survey 19 = .ok (.iinc 1 1, 3) := by decide +kernel
theorem dX5_survey_22 : decode cX5_survey 22 = .ok (.goto (-20), 3) := by decide +kernel
theorem dX5_survey_25 : decode cX5_survey 25 = .ok (.iconst 0, 1) := by decide +kernel
theorem dX5_survey_26 : decode cX5_survey 26 = .ok (.istore_n 1, 1) := by decide +kernel
theorem dX5_survey_27 : decode cX5_survey 27 = .ok (.iconst 0, 1) := by decide +kernel
theorem dX5_survey_28 : decode cX5_survey 28 = .ok (.istore_n 2, 1) := by decide +kernel
theorem dX5_survey_29 : decode cX5_survey 29 = .ok (.iload_n 2, 1) := by decide +kernel
theorem dX5_survey_30 : decode cX5_survey 30 = .ok (.aload_n 0, 1) := by decide +kernel
theorem dX5_survey_31 : decode cX5_survey 31 = .ok (.getfield 10, 3) := by decide +kernel
theorem dX5_survey_34 : decode cX5_survey 34 = .ok (.getfield 248, 3) := by decide +kernel
theorem dX5_survey_37 : decode cX5_survey 37 = .ok (.if_icmp .ge 61, 3) := by decide +kernel
theorem dX5_survey_40 : decode cX5_survey 40 = .ok (.iconst 0, 1) := by decide +kernel
theorem dX5_survey_41 : decode cX5_survey 41 = .ok (.istore_n 3, 1) := by decide +kernel
theorem dX5_survey_42 : decode cX5_survey 42 = .ok (.iload_n 3, 1) := by decide +kernel
theorem dX5_survey_43 : decode cX5_survey 43 = .ok (.aload_n 0, 1) := by decide +kernel
theorem dX5_survey_44 : decode cX5_survey 44 = .ok (.getfield 10, 3) := by decide +kernel
theorem dX5_survey_47 : decode cX5_survey 47 = .ok (.getfield 251, 3) := by decide +kernel
theorem dX5_survey_50 : decode cX5_survey 50 = .ok (.if_icmp .ge 42, 3) := by decide +kernel
theorem dX5_survey_53 : decode cX5_survey 53 = .ok (.iconst 0, 1) := by decide +kernel
theorem dX5_survey_54 : decode cX5_survey 54 = .ok (.istore 4, 2) := by decide +kernel
theorem dX5_survey_56 : decode cX5_survey 56 = .ok (.iload 4, 2) := by decide +kernel
theorem dX5_survey_58 : decode cX5_survey 58 = .ok (.aload_n 0, 1) := by decide +kernel
theorem dX5_survey_59 : decode cX5_survey 59 = .ok (.getfield 10, 3) := by decide +kernel
theorem dX5_survey_62 : decode cX5_survey 62 = .ok (.getfield 254, 3) := by decide +kernel
theorem dX5_survey_65 : decode cX5_survey 65 = .ok (.if_icmp .ge 21, 3) := by decide +kernel
theorem dX5_survey_68 : decode cX5_survey 68 = .ok (.aload_n 0, 1) := by decide +kernel
theorem dX5_survey_69 : decode cX5_survey 69 = .ok (.iload_n 1, 1) := by decide +kernel
theorem dX5_survey_70 : decode cX5_survey 70 = .ok (.iload 4, 2) := by decide +kernel
theorem dX5_survey_72 : decode cX5_survey 72 = .ok (.iload_n 3, 1) := by decide +kernel
theorem dX5_survey_73 : decode cX5_survey 73 = .ok (.iload_n 2, 1) := by decide +kernel
theorem dX5_survey_74 : decode cX5_survey 74 = .ok (.invokevirtual 257, 3) := by decide +kernel
theorem dX5_survey_77 : decode cX5_survey 77 = .ok (.iinc 1 1, 3) := by decide +kernel
theorem dX5_survey_80 : decode cX5_survey 80 = .ok (.iinc 4 1, 3) := by decide +kernel
theorem dX5_survey_83 : decode cX5_survey 83 = .ok (.goto (-27), 3) := by decide +kernel
theorem dX5_survey_86 : decode cX5_survey 86 = .ok (.iinc 3 1, 3) := by decide +kernel
theorem dX5_survey_89 : decode cX5_survey 89 = .ok (.goto (-47), 3) := by decide +kernel
theorem dX5_survey_92 : decode cX5_survey 92 = .ok (.iinc 2 1, 3) := by decide +kernel
theorem dX5_survey_95 : decode cX5_survey 95 = .ok (.goto (-66), 3) := by decide +kernel
theorem dX5_survey_98 : decode cX5_survey 98 = .ok (.iconst 0, 1) := by decide +kernel
theorem dX5_survey_99 : decode cX5_survey 99 = .ok (.istore_n 2, 1) := by decide +kernel
theorem dX5_survey_100 : decode cX5_survey 100 = .ok (.iload_n 2, 1) := by decide +kernel
theorem dX5_survey_101 : decode cX5_survey 101 = .ok (.aload_n 0, 1) := by decide +kernel
theorem dX5_survey_102 : decode cX5_survey 102 = .ok (.getfield 10, 3) := by decide +kernel
theorem dX5_survey_105 : decode cX5_survey 105 = .ok (.getfield 58, 3) := by decide +kernel
theorem dX5_survey_108 : decode cX5_survey 108 = .ok (.if_icmp .ge 25, 3) := by decide +kernel
theorem dX5_survey_111 : decode cX5_survey 111 = .ok (.aload_n 0, 1) := by decide +kernel
theorem dX5_survey_112 : decode cX5_survey 112 = .ok (.getfield 10, 3) := by decide +kernel
theorem dX5_survey_115 : decode cX5_survey 115 = .ok (.getfield 187, 3) := by decide +kernel
theorem dX5_survey_118 : decode cX5_survey 118 = .ok (.iload_n 2, 1) := by decide +kernel
theorem dX5_survey_119 : decode cX5_survey 119 = .ok (.aaload, 1) := by decide +kernel
theorem dX5_survey_120 : decode cX5_survey 120 = .ok (.aload_n 0, 1) := by decide +kernel
theorem dX5_survey_121 : decode cX5_survey 121 = .ok (.getfield 10, 3) := by decide +kernel
theorem dX5_survey_124 : decode cX5_survey 124 = .ok (.invokevirtual 260, 3) := by decide +kernel
theorem dX5_survey_127 : decode cX5_survey 127 = .ok (.iinc 2 1, 3) := by decide +kernel
theorem dX5_survey_130 : decode cX5_survey 130 = .ok (.goto (-30), 3) := by decide +kernel
theorem dX5_survey_133 : decode cX5_survey 133 = .ok (.return_, 1) := by decide +kernel
theorem dX5_surveyCell_0 : decode cX5_surveyCell 0 = .ok (.aload_n 0, 1) := by decide +kernel
theorem dX5_surveyCell_1 : decode cX5_surveyCell 1 = .ok (.getfield 10, 3) := by decide +kernel
theorem dX5_surveyCell_4 : decode cX5_surveyCell 4 = .ok (.getfield 207, 3) := by decide +kernel
theorem dX5_surveyCell_7 : decode cX5_surveyCell 7 = .ok (.iload_n 1, 1) := by decide +kernel
theorem dX5_surveyCell_8 : decode cX5_surveyCell 8 = .ok (.iaload, 1) := by decide +kernel
theorem dX5_surveyCell_9 : decode cX5_surveyCell 9 = .ok (.istore 5, 2) := by decide +kernel
theorem dX5_surveyCell_11 : decode cX5_surveyCell 11 = .ok (.iload 5, 2) := by decide +kernel
theorem dX5_surveyCell_13 : decode cX5_surveyCell 13 = .ok (.ifCond .lt 12, 3) := by decide +kernel
theorem dX5_surveyCell_16 : decode cX5_surveyCell 16 = .ok (.iload 5, 2) := by decide +kernel
theorem dX5_surveyCell_18 : decode cX5_surveyCell 18 = .ok (.aload_n 0, 1) := by decide +kernel
theorem dX5_surveyCell_19 : decode cX5_surveyCell 19 = .ok (.getfield 102, 3) := by decide +kernel
theorem dX5_surveyCell_22 : decode cX5_surveyCell 22 = .ok (.if_icmp .lt 4, 3) := by decide +kernel
theorem dX5_surveyCell_25 : decode cX5_surveyCell 25 = .ok (.return_, 1) := by decide +kernel
theorem dX5_surveyCell_26 : decode cX5_surveyCell 26 = .ok (.aload_n 0, 1) := by decide +kernel
theorem dX5_surveyCell_27 : decode cX5_surveyCell 27 = .ok (.getfield 10, 3) := by decide +kernel
theorem dX5_surveyCell_30 : decode cX5_surveyCell 30 = .ok (.iload 5, 2) := by decide +kernel
theorem dX5_surveyCell_32 : decode cX5_surveyCell 32 = .ok (.iload_n 2, 1) := by decide +kernel
theorem dX5_surveyCell_33 : decode cX5_surveyCell 33 = .ok (.iload_n 3, 1) := by decide +kernel
theorem dX5_surveyCell_34 : decode cX5_surveyCell 34 = .ok (.iload 4, 2) := by decide +kernel
theorem dX5_surveyCell_36 : decode cX5_surveyCell 36 = .ok (.invokevirtual 263, 3) := by decide +kernel
theorem dX5_surveyCell_39 : decode cX5_surveyCell 39 = .ok (.istore 6, 2) := by decide +kernel
theorem dX5_surveyCell_41 : decode cX5_surveyCell 41 = .ok (.aload_n 0, 1) := by decide +kernel
theorem dX5_surveyCell_42 : decode cX5_surveyCell 42 = .ok (.getfield 10, 3) := by decide +kernel
theorem dX5_surveyCell_45 : decode cX5_surveyCell 45 = .ok (.getfield 267, 3) := by decide +kernel
theorem dX5_surveyCell_48 : decode cX5_surveyCell 48 = .ok (.iload_n 1, 1) := by decide +kernel
theorem dX5_surveyCell_49 : decode cX5_surveyCell 49 = .ok (.iload 6, 2) := by decide +kernel
theorem dX5_surveyCell_51 : decode cX5_surveyCell 51 = .ok (.bastore, 1) := by decide +kernel
theorem dX5_surveyCell_52 : decode cX5_surveyCell 52 = .ok (.aload_n 0, 1) := by decide +kernel
theorem dX5_surveyCell_53 : decode cX5_surveyCell 53 = .ok (.getfield 18, 3) := by decide +kernel
theorem dX5_surveyCell_56 : decode cX5_surveyCell 56 = .ok (.iload 5, 2) := by decide +kernel
theorem dX5_surveyCell_58 : decode cX5_surveyCell 58 = .ok (.aaload, 1) := by decide +kernel
theorem dX5_surveyCell_59 : decode cX5_surveyCell 59 = .ok (.iload_n 2, 1) := by decide +kernel
theorem dX5_surveyCell_60 : decode cX5_surveyCell 60 = .ok (.iload_n 3, 1) := by decide +kernel
theorem dX5_surveyCell_61 : decode cX5_surveyCell 61 = .ok (.iload 4, 2) := by decide +kernel
theorem dX5_surveyCell_63 : decode cX5_surveyCell 63 = .ok (.iload 6, 2) := by decide +kernel
theorem dX5_surveyCell_65 : decode cX5_surveyCell 65 = .ok (.invokevirtual 271, 3) := by decide +kernel
theorem dX5_surveyCell_68 : decode cX5_surveyCell 68 = .ok (.return_, 1) := by decide +kernel
theorem dX5_tellOfFlaw_0 : decode cX5_tellOfFlaw 0 = .ok (.aload_n 0, 1) := by decide +kernel
theorem dX5_tellOfFlaw_1 : decode cX5_tellOfFlaw 1 = .ok (.getfield 10, 3) := by decide +kernel
theorem dX5_tellOfFlaw_4 : decode cX5_tellOfFlaw 4 = .ok (.getfield 187, 3) := by decide +kernel
theorem dX5_tellOfFlaw_7 : decode cX5_tellOfFlaw 7 = .ok (.iload_n 1, 1) := by decide +kernel
theorem dX5_tellOfFlaw_8 : decode cX5_tellOfFlaw 8 = .ok (.aaload, 1) := by decide +kernel
theorem dX5_tellOfFlaw_9 : decode cX5_tellOfFlaw 9 = .ok (.astore 4, 2) := by decide +kernel
theorem dX5_tellOfFlaw_11 : decode cX5_tellOfFlaw 11 = .ok (.iload_n 3, 1) := by decide +kernel
theorem dX5_tellOfFlaw_12 : decode cX5_tellOfFlaw 12 = .ok (.lookupswitch 44 #[(0, 28), (1, 36)], 28) := by decide +kernel
theorem dX5_tellOfFlaw_40 : decode cX5_tellOfFlaw 40 = .ok (.aload 4, 2) := by decide +kernel
theorem dX5_tellOfFlaw_42 : decode cX5_tellOfFlaw 42 = .ok (.getfield 275, 3) := by decide +kernel
theorem dX5_tellOfFlaw_45 : decode cX5_tellOfFlaw 45 = .ok (.iload_n 2, 1) := by decide +kernel
theorem dX5_tellOfFlaw_46 : decode cX5_tellOfFlaw 46 = .ok (.iaload, 1) := by decide +kernel
theorem dX5_tellOfFlaw_47 : decode cX5_tellOfFlaw 47 = .ok (.ireturn, 1) := by decide +kernel
theorem dX5_tellOfFlaw_48 : decode cX5_tellOfFlaw 48 = .ok (.aload 4, 2) := by decide +kernel
theorem dX5_tellOfFlaw_50 : decode cX5_tellOfFlaw 50 = .ok (.getfield 278, 3) := by decide +kernel
theorem dX5_tellOfFlaw_53 : decode cX5_tellOfFlaw 53 = .ok (.iload_n 2, 1) := by decide +kernel
theorem dX5_tellOfFlaw_54 : decode cX5_tellOfFlaw 54 = .ok (.iaload, 1) := by decide +kernel
theorem dX5_tellOfFlaw_55 : decode cX5_tellOfFlaw 55 = .ok (.ireturn, 1) := by decide +kernel
theorem dX5_tellOfFlaw_56 : decode cX5_tellOfFlaw 56 = .ok (.aload 4, 2) := by decide +kernel
theorem dX5_tellOfFlaw_58 : decode cX5_tellOfFlaw 58 = .ok (.iload_n 2, 1) := by decide +kernel
theorem dX5_tellOfFlaw_59 : decode cX5_tellOfFlaw 59 = .ok (.invokevirtual 191, 3) := by decide +kernel
theorem dX5_tellOfFlaw_62 : decode cX5_tellOfFlaw 62 = .ok (.ireturn, 1) := by decide +kernel
theorem dX5_tellOfStone_0 : decode cX5_tellOfStone 0 = .ok (.iload_n 2, 1) := by decide +kernel
theorem dX5_tellOfStone_1 : decode cX5_tellOfStone 1 = .ok (.tableswitch 100 0 7 #[47, 52, 57, 63, 69, 74, 84, 94], 47) := by decide +kernel
theorem dX5_tellOfStone_48 : decode cX5_tellOfStone 48 = .ok (.aload_n 1, 1) := by decide +kernel
theorem dX5_tellOfStone_49 : decode cX5_tellOfStone 49 = .ok (.getfield 105, 3) := by decide +kernel
theorem dX5_tellOfStone_52 : decode cX5_tellOfStone 52 = .ok (.ireturn, 1) := by decide +kernel
theorem dX5_tellOfStone_53 : decode cX5_tellOfStone 53 = .ok (.aload_n 1, 1) := by decide +kernel
theorem dX5_tellOfStone_54 : decode cX5_tellOfStone 54 = .ok (.getfield 119, 3) := by decide +kernel
theorem dX5_tellOfStone_57 : decode cX5_tellOfStone 57 = .ok (.ireturn, 1) := by decide +kernel
theorem dX5_tellOfStone_58 : decode cX5_tellOfStone 58 = .ok (.aload_n 1, 1) := by decide +kernel
theorem dX5_tellOfStone_59 : decode cX5_tellOfStone 59 = .ok (.iconst 0, 1) := by decide +kernel
theorem dX5_tellOfStone_60 : decode cX5_tellOfStone 60 = .ok (.invokevirtual 281, 3) := by decide +kernel
theorem dX5_tellOfStone_63 : decode cX5_tellOfStone 63 = .ok (.ireturn, 1) := by decide +kernel
theorem dX5_tellOfStone_64 : decode cX5_tellOfStone 64 = .ok (.aload_n 1, 1) := by decide +kernel
theorem dX5_tellOfStone_65 : decode cX5_tellOfStone 65 = .ok (.iconst 1, 1) := by decide +kernel
theorem dX5_tellOfStone_66 : decode cX5_tellOfStone 66 = .ok (.invokevirtual 281, 3) := by decide +kernel
theorem dX5_tellOfStone_69 : decode cX5_tellOfStone 69 = .ok (.ireturn, 1) := by decide +kernel
theorem dX5_tellOfStone_70 : decode cX5_tellOfStone 70 = .ok (.aload_n 1, 1) := by decide +kernel
theorem dX5_tellOfStone_71 : decode cX5_tellOfStone 71 = .ok (.invokevirtual 285, 3) := by decide +kernel
theorem dX5_tellOfStone_74 : decode cX5_tellOfStone 74 = .ok (.ireturn, 1) := by decide +kernel
theorem dX5_tellOfStone_75 : decode cX5_tellOfStone 75 = .ok (.aload_n 0, 1) := by decide +kernel
theorem dX5_tellOfStone_76 : decode cX5_tellOfStone 76 = .ok (.aload_n 1, 1) := by decide +kernel
theorem dX5_tellOfStone_77 : decode cX5_tellOfStone 77 = .ok (.getfield 288, 3) := by decide +kernel
theorem dX5_tellOfStone_80 : decode cX5_tellOfStone 80 = .ok (.iconst 1, 1) := by decide +kernel
theorem dX5_tellOfStone_81 : decode cX5_tellOfStone 81 = .ok (.invokevirtual 291, 3) := by decide +kernel
theorem dX5_tellOfStone_84 : decode cX5_tellOfStone 84 = .ok (.ireturn, 1) := by decide +kernel
theorem dX5_tellOfStone_85 : decode cX5_tellOfStone 85 = .ok (.aload_n 0, 1) := by decide +kernel
theorem dX5_tellOfStone_86 : decode cX5_tellOfStone 86 = .ok (.aload_n 1, 1) := by decide +kernel
theorem dX5_tellOfStone_87 : decode cX5_tellOfStone 87 = .ok (.getfield 288, 3) := by decide +kernel
theorem dX5_tellOfStone_90 : decode cX5_tellOfStone 90 = .ok (.iconst 0, 1) := by decide +kernel
theorem dX5_tellOfStone_91 : decode cX5_tellOfStone 91 = .ok (.invokevirtual 291, 3) := by decide +kernel
theorem dX5_tellOfStone_94 : decode cX5_tellOfStone 94 = .ok (.ireturn, 1) := by decide +kernel
theorem dX5_tellOfStone_95 : decode cX5_tellOfStone 95 = .ok (.aload_n 0, 1) := by decide +kernel
theorem dX5_tellOfStone_96 : decode cX5_tellOfStone 96 = .ok (.aload_n 1, 1) := by decide +kernel
theorem dX5_tellOfStone_97 : decode cX5_tellOfStone 97 = .ok (.invokevirtual 295, 3) := by decide +kernel
theorem dX5_tellOfStone_100 : decode cX5_tellOfStone 100 = .ok (.ireturn, 1) := by decide +kernel
theorem dX5_tellOfStone_101 : decode cX5_tellOfStone 101 = .ok (.aload_n 1, 1) := by decide +kernel
theorem dX5_tellOfStone_102 : decode cX5_tellOfStone 102 = .ok (.getfield 299, 3) := by decide +kernel
theorem dX5_tellOfStone_105 : decode cX5_tellOfStone 105 = .ok (.ireturn, 1) := by decide +kernel
theorem dX5_tellCount_0 : decode cX5_tellCount 0 = .ok (.iload_n 1, 1) := by decide +kernel
theorem dX5_tellCount_1 : decode cX5_tellCount 1 = .ok (.tableswitch 84 0 6 #[43, 51, 56, 61, 66, 74, 79], 43) := by decide +kernel
theorem dX5_tellCount_44 : decode cX5_tellCount 44 = .ok (.aload_n 0, 1) := by decide +kernel
theorem dX5_tellCount_45 : decode cX5_tellCount 45 = .ok (.getfield 10, 3) := by decide +kernel
theorem dX5_tellCount_48 : decode cX5_tellCount 48 = .ok (.invokevirtual 49, 3) := by decide +kernel
theorem dX5_tellCount_51 : decode cX5_tellCount 51 = .ok (.ireturn, 1) := by decide +kernel
theorem dX5_tellCount_52 : decode cX5_tellCount 52 = .ok (.aload_n 0, 1) := by decide +kernel
theorem dX5_tellCount_53 : decode cX5_tellCount 53 = .ok (.invokevirtual 200, 3) := by decide +kernel
theorem dX5_tellCount_56 : decode cX5_tellCount 56 = .ok (.ireturn, 1) := by decide +kernel
theorem dX5_tellCount_57 : decode cX5_tellCount 57 = .ok (.aload_n 0, 1) := by decide +kernel
theorem dX5_tellCount_58 : decode cX5_tellCount 58 = .ok (.getfield 102, 3) := by decide +kernel
theorem dX5_tellCount_61 : decode cX5_tellCount 61 = .ok (.ireturn, 1) := by decide +kernel
theorem dX5_tellCount_62 : decode cX5_tellCount 62 = .ok (.aload_n 0, 1) := by decide +kernel
theorem dX5_tellCount_63 : decode cX5_tellCount 63 = .ok (.invokevirtual 302, 3) := by decide +kernel
theorem dX5_tellCount_66 : decode cX5_tellCount 66 = .ok (.ireturn, 1) := by decide +kernel
theorem dX5_tellCount_67 : decode cX5_tellCount 67 = .ok (.aload_n 0, 1) := by decide +kernel
theorem dX5_tellCount_68 : decode cX5_tellCount 68 = .ok (.getfield 10, 3) := by decide +kernel
theorem dX5_tellCount_71 : decode cX5_tellCount 71 = .ok (.getfield 58, 3) := by decide +kernel
theorem dX5_tellCount_74 : decode cX5_tellCount 74 = .ok (.ireturn, 1) := by decide +kernel
theorem dX5_tellCount_75 : decode cX5_tellCount 75 = .ok (.aload_n 0, 1) := by decide +kernel
theorem dX5_tellCount_76 : decode cX5_tellCount 76 = .ok (.getfield 122, 3) := by decide +kernel
theorem dX5_tellCount_79 : decode cX5_tellCount 79 = .ok (.ireturn, 1) := by decide +kernel
theorem dX5_tellCount_80 : decode cX5_tellCount 80 = .ok (.aload_n 0, 1) := by decide +kernel
theorem dX5_tellCount_81 : decode cX5_tellCount 81 = .ok (.invokevirtual 305, 3) := by decide +kernel
theorem dX5_tellCount_84 : decode cX5_tellCount 84 = .ok (.ireturn, 1) := by decide +kernel
theorem dX5_tellCount_85 : decode cX5_tellCount 85 = .ok (.aload_n 0, 1) := by decide +kernel
theorem dX5_tellCount_86 : decode cX5_tellCount 86 = .ok (.getfield 242, 3) := by decide +kernel
theorem dX5_tellCount_89 : decode cX5_tellCount 89 = .ok (.ireturn, 1) := by decide +kernel
theorem dX5_flawsOfState_0 : decode cX5_flawsOfState 0 = .ok (.iconst 0, 1) := by decide +kernel
theorem dX5_flawsOfState_1 : decode cX5_flawsOfState 1 = .ok (.istore_n 3, 1) := by decide +kernel
theorem dX5_flawsOfState_2 : decode cX5_flawsOfState 2 = .ok (.iconst 0, 1) := by decide +kernel
theorem dX5_flawsOfState_3 : decode cX5_flawsOfState 3 = .ok (.istore 4, 2) := by decide +kernel
theorem dX5_flawsOfState_5 : decode cX5_flawsOfState 5 = .ok (.iload 4, 2) := by decide +kernel
theorem dX5_flawsOfState_7 : decode cX5_flawsOfState 7 = .ok (.aload_n 0, 1) := by decide +kernel
theorem dX5_flawsOfState_8 : decode cX5_flawsOfState 8 = .ok (.getfield 10, 3) := by decide +kernel
theorem dX5_flawsOfState_11 : decode cX5_flawsOfState 11 = .ok (.getfield 58, 3) := by decide +kernel
theorem dX5_flawsOfState_14 : decode cX5_flawsOfState 14 = .ok (.if_icmp .ge 30, 3) := by decide +kernel
theorem dX5_flawsOfState_17 : decode cX5_flawsOfState 17 = .ok (.aload_n 0, 1) := by decide +kernel
theorem dX5_flawsOfState_18 : decode cX5_flawsOfState 18 = .ok (.getfield 10, 3) := by decide +kernel
theorem dX5_flawsOfState_21 : decode cX5_flawsOfState 21 = .ok (.getfield 187, 3) := by decide +kernel
theorem dX5_flawsOfState_24 : decode cX5_flawsOfState 24 = .ok (.iload 4, 2) := by decide +kernel
theorem dX5_flawsOfState_26 : decode cX5_flawsOfState 26 = .ok (.aaload, 1) := by decide +kernel
theorem dX5_flawsOfState_27 : decode cX5_flawsOfState 27 = .ok (.iload_n 1, 1) := by decide +kernel
theorem dX5_flawsOfState_28 : decode cX5_flawsOfState 28 = .ok (.invokevirtual 191, 3) := by decide +kernel
theorem dX5_flawsOfState_31 : decode cX5_flawsOfState 31 = .ok (.iload_n 2, 1) := by decide +kernel
theorem dX5_flawsOfState_32 : decode cX5_flawsOfState 32 = .ok (.if_icmp .ne 6, 3) := by decide +kernel
theorem dX5_flawsOfState_35 : decode cX5_flawsOfState 35 = .ok (.iinc 3 1, 3) := by decide +kernel
theorem dX5_flawsOfState_38 : decode cX5_flawsOfState 38 = .ok (.iinc 4 1, 3) := by decide +kernel
theorem dX5_flawsOfState_41 : decode cX5_flawsOfState 41 = .ok (.goto (-36), 3) := by decide +kernel
theorem dX5_flawsOfState_44 : decode cX5_flawsOfState 44 = .ok (.iload_n 3, 1) := by decide +kernel
theorem dX5_flawsOfState_45 : decode cX5_flawsOfState 45 = .ok (.ireturn, 1) := by decide +kernel
theorem dX5_worthOf_0 : decode cX5_worthOf 0 = .ok (.iconst 0, 1) := by decide +kernel
theorem dX5_worthOf_1 : decode cX5_worthOf 1 = .ok (.istore_n 2, 1) := by decide +kernel
theorem dX5_worthOf_2 : decode cX5_worthOf 2 = .ok (.iconst 0, 1) := by decide +kernel
theorem dX5_worthOf_3 : decode cX5_worthOf 3 = .ok (.istore_n 3, 1) := by decide +kernel
theorem dX5_worthOf_4 : decode cX5_worthOf 4 = .ok (.iload_n 3, 1) := by decide +kernel
theorem dX5_worthOf_5 : decode cX5_worthOf 5 = .ok (.aload_n 0, 1) := by decide +kernel
theorem dX5_worthOf_6 : decode cX5_worthOf 6 = .ok (.getfield 10, 3) := by decide +kernel
theorem dX5_worthOf_9 : decode cX5_worthOf 9 = .ok (.getfield 58, 3) := by decide +kernel
theorem dX5_worthOf_12 : decode cX5_worthOf 12 = .ok (.if_icmp .ge 37, 3) := by decide +kernel
theorem dX5_worthOf_15 : decode cX5_worthOf 15 = .ok (.aload_n 0, 1) := by decide +kernel
theorem dX5_worthOf_16 : decode cX5_worthOf 16 = .ok (.getfield 10, 3) := by decide +kernel
theorem dX5_worthOf_19 : decode cX5_worthOf 19 = .ok (.getfield 187, 3) := by decide +kernel
theorem dX5_worthOf_22 : decode cX5_worthOf 22 = .ok (.iload_n 3, 1) := by decide +kernel
theorem dX5_worthOf_23 : decode cX5_worthOf 23 = .ok (.aaload, 1) := by decide +kernel
theorem dX5_worthOf_24 : decode cX5_worthOf 24 = .ok (.astore 4, 2) := by decide +kernel
theorem dX5_worthOf_26 : decode cX5_worthOf 26 = .ok (.iload_n 2, 1) := by decide +kernel
theorem dX5_worthOf_27 : decode cX5_worthOf 27 = .ok (.aload 4, 2) := by decide +kernel
theorem dX5_worthOf_29 : decode cX5_worthOf 29 = .ok (.aload 4, 2) := by decide +kernel
theorem dX5_worthOf_31 : decode cX5_worthOf 31 = .ok (.aload_n 1, 1) := by decide +kernel
theorem dX5_worthOf_32 : decode cX5_worthOf 32 = .ok (.getfield 288, 3) := by decide +kernel
theorem dX5_worthOf_35 : decode cX5_worthOf 35 = .ok (.invokevirtual 191, 3) := by decide +kernel
theorem dX5_worthOf_38 : decode cX5_worthOf 38 = .ok (.invokevirtual 308, 3) := by decide +kernel
theorem dX5_worthOf_41 : decode cX5_worthOf 41 = .ok (.iadd, 1) := by decide +kernel
theorem dX5_worthOf_42 : decode cX5_worthOf 42 = .ok (.istore_n 2, 1) := by decide +kernel
theorem dX5_worthOf_43 : decode cX5_worthOf 43 = .ok (.iinc 3 1, 3) := by decide +kernel
theorem dX5_worthOf_46 : decode cX5_worthOf 46 = .ok (.goto (-42), 3) := by decide +kernel
theorem dX5_worthOf_49 : decode cX5_worthOf 49 = .ok (.aload_n 1, 1) := by decide +kernel
theorem dX5_worthOf_50 : decode cX5_worthOf 50 = .ok (.getfield 105, 3) := by decide +kernel
theorem dX5_worthOf_53 : decode cX5_worthOf 53 = .ok (.iload_n 2, 1) := by decide +kernel
theorem dX5_worthOf_54 : decode cX5_worthOf 54 = .ok (.aload_n 1, 1) := by decide +kernel
theorem dX5_worthOf_55 : decode cX5_worthOf 55 = .ok (.iconst 1, 1) := by decide +kernel
theorem dX5_worthOf_56 : decode cX5_worthOf 56 = .ok (.invokevirtual 281, 3) := by decide +kernel
theorem dX5_worthOf_59 : decode cX5_worthOf 59 = .ok (.aload_n 1, 1) := by decide +kernel
theorem dX5_worthOf_60 : decode cX5_worthOf 60 = .ok (.invokevirtual 285, 3) := by decide +kernel
theorem dX5_worthOf_63 : decode cX5_worthOf 63 = .ok (.invokestatic 311, 3) := by decide +kernel
theorem dX5_worthOf_66 : decode cX5_worthOf 66 = .ok (.ireturn, 1) := by decide +kernel
theorem dX5_worthBy_0 : decode cX5_worthBy 0 = .ok (.iload_n 0, 1) := by decide +kernel
theorem dX5_worthBy_1 : decode cX5_worthBy 1 = .ok (.ifCond .ne 5, 3) := by decide +kernel
theorem dX5_worthBy_4 : decode cX5_worthBy 4 = .ok (.iconst 0, 1) := by decide +kernel
theorem dX5_worthBy_5 : decode cX5_worthBy 5 = .ok (.ireturn, 1) := by decide +kernel
theorem dX5_worthBy_6 : decode cX5_worthBy 6 = .ok (.bipush 10, 2) := by decide +kernel
theorem dX5_worthBy_8 : decode cX5_worthBy 8 = .ok (.bipush 100, 2) := by decide +kernel
theorem dX5_worthBy_10 : decode cX5_worthBy 10 = .ok (.iload_n 1, 1) := by decide +kernel
theorem dX5_worthBy_11 : decode cX5_worthBy 11 = .ok (.isub, 1) := by decide +kernel
theorem dX5_worthBy_12 : decode cX5_worthBy 12 = .ok (.invokestatic 315, 3) := by decide +kernel
theorem dX5_worthBy_15 : decode cX5_worthBy 15 = .ok (.istore 4, 2) := by decide +kernel
theorem dX5_worthBy_17 : decode cX5_worthBy 17 = .ok (.iload_n 0, 1) := by decide +kernel
theorem dX5_worthBy_18 : decode cX5_worthBy 18 = .ok (.iload_n 0, 1) := by decide +kernel
theorem dX5_worthBy_19 : decode cX5_worthBy 19 = .ok (.imul, 1) := by decide +kernel
theorem dX5_worthBy_20 : decode cX5_worthBy 20 = .ok (.bipush 10, 2) := by decide +kernel
theorem dX5_worthBy_22 : decode cX5_worthBy 22 = .ok (.idiv, 1) := by decide +kernel
theorem dX5_worthBy_23 : decode cX5_worthBy 23 = .ok (.bipush 10, 2) := by decide +kernel
theorem dX5_worthBy_25 : decode cX5_worthBy 25 = .ok (.iload_n 0, 1) := by decide +kernel
theorem dX5_worthBy_26 : decode cX5_worthBy 26 = .ok (.imul, 1) := by decide +kernel
theorem dX5_worthBy_27 : decode cX5_worthBy 27 = .ok (.iadd, 1) := by decide +kernel
theorem dX5_worthBy_28 : decode cX5_worthBy 28 = .ok (.istore 5, 2) := by decide +kernel
theorem dX5_worthBy_30 : decode cX5_worthBy 30 = .ok (.iload 5, 2) := by decide +kernel
theorem dX5_worthBy_32 : decode cX5_worthBy 32 = .ok (.iload 4, 2) := by decide +kernel
theorem dX5_worthBy_34 : decode cX5_worthBy 34 = .ok (.imul, 1) := by decide +kernel
theorem dX5_worthBy_35 : decode cX5_worthBy 35 = .ok (.bipush 100, 2) := by decide +kernel
theorem dX5_worthBy_37 : decode cX5_worthBy 37 = .ok (.idiv, 1) := by decide +kernel
theorem dX5_worthBy_38 : decode cX5_worthBy 38 = .ok (.bipush 25, 2) := by decide +kernel
theorem dX5_worthBy_40 : decode cX5_worthBy 40 = .ok (.iload_n 2, 1) := by decide +kernel
theorem dX5_worthBy_41 : decode cX5_worthBy 41 = .ok (.imul, 1) := by decide +kernel
theorem dX5_worthBy_42 : decode cX5_worthBy 42 = .ok (.iadd, 1) := by decide +kernel
theorem dX5_worthBy_43 : decode cX5_worthBy 43 = .ok (.bipush 40, 2) := by decide +kernel
theorem dX5_worthBy_45 : decode cX5_worthBy 45 = .ok (.iload_n 3, 1) := by decide +kernel
theorem dX5_worthBy_46 : decode cX5_worthBy 46 = .ok (.imul, 1) := by decide +kernel
theorem dX5_worthBy_47 : decode cX5_worthBy 47 = .ok (.iadd, 1) := by decide +kernel
theorem dX5_worthBy_48 : decode cX5_worthBy 48 = .ok (.ireturn, 1) := by decide +kernel
theorem dX5_cellsOfStones_0 : decode cX5_cellsOfStones 0 = .ok (.iconst 0, 1) := by decide +kernel
theorem dX5_cellsOfStones_1 : decode cX5_cellsOfStones 1 = .ok (.istore_n 1, 1) := by decide +kernel
theorem dX5_cellsOfStones_2 : decode cX5_cellsOfStones 2 = .ok (.iconst 0, 1) := by decide +kernel
theorem dX5_cellsOfStones_3 : decode cX5_cellsOfStones 3 = .ok (.istore_n 2, 1) := by decide +kernel
theorem dX5_cellsOfStones_4 : decode cX5_cellsOfStones 4 = .ok (.iload_n 2, 1) := by decide +kernel
theorem dX5_cellsOfStones_5 : decode cX5_cellsOfStones 5 = .ok (.aload_n 0, 1) := by decide +kernel
theorem dX5_cellsOfStones_6 : decode cX5_cellsOfStones 6 = .ok (.getfield 102, 3) := by decide +kernel
theorem dX5_cellsOfStones_9 : decode cX5_cellsOfStones 9 = .ok (.if_icmp .ge 21, 3) := by decide +kernel
theorem dX5_cellsOfStones_12 : decode cX5_cellsOfStones 12 = .ok (.iload_n 1, 1) := by decide +kernel
theorem dX5_cellsOfStones_13 : decode cX5_cellsOfStones 13 = .ok (.aload_n 0, 1) := by decide +kernel
theorem dX5_cellsOfStones_14 : decode cX5_cellsOfStones 14 = .ok (.getfield 18, 3) := by decide +kernel
theorem dX5_cellsOfStones_17 : decode cX5_cellsOfStones 17 = .ok (.iload_n 2, 1) := by decide +kernel
theorem dX5_cellsOfStones_18 : decode cX5_cellsOfStones 18 = .ok (.aaload, 1) := by decide +kernel
theorem dX5_cellsOfStones_19 : decode cX5_cellsOfStones 19 = .ok (.getfield 105, 3) := by decide +kernel
theorem dX5_cellsOfStones_22 : decode cX5_cellsOfStones 22 = .ok (.iadd, 1) := by decide +kernel
theorem dX5_cellsOfStones_23 : decode cX5_cellsOfStones 23 = .ok (.istore_n 1, 1) := by decide +kernel
theorem dX5_cellsOfStones_24 : decode cX5_cellsOfStones 24 = .ok (.iinc 2 1, 3) := by decide +kernel
theorem dX5_cellsOfStones_27 : decode cX5_cellsOfStones 27 = .ok (.goto (-23), 3) := by decide +kernel
theorem dX5_cellsOfStones_30 : decode cX5_cellsOfStones 30 = .ok (.iload_n 1, 1) := by decide +kernel
theorem dX5_cellsOfStones_31 : decode cX5_cellsOfStones 31 = .ok (.ireturn, 1) := by decide +kernel
theorem dX5_stonesLeft_0 : decode cX5_stonesLeft 0 = .ok (.iconst 0, 1) := by decide +kernel
theorem dX5_stonesLeft_1 : decode cX5_stonesLeft 1 = .ok (.istore_n 1, 1) := by decide +kernel
theorem dX5_stonesLeft_2 : decode cX5_stonesLeft 2 = .ok (.iconst 0, 1) := by decide +kernel
theorem dX5_stonesLeft_3 : decode cX5_stonesLeft 3 = .ok (.istore_n 2, 1) := by decide +kernel
theorem dX5_stonesLeft_4 : decode cX5_stonesLeft 4 = .ok (.iload_n 2, 1) := by decide +kernel
theorem dX5_stonesLeft_5 : decode cX5_stonesLeft 5 = .ok (.aload_n 0, 1) := by decide +kernel
theorem dX5_stonesLeft_6 : decode cX5_stonesLeft 6 = .ok (.getfield 102, 3) := by decide +kernel
theorem dX5_stonesLeft_9 : decode cX5_stonesLeft 9 = .ok (.if_icmp .ge 24, 3) := by decide +kernel
theorem dX5_stonesLeft_12 : decode cX5_stonesLeft 12 = .ok (.aload_n 0, 1) := by decide +kernel
theorem dX5_stonesLeft_13 : decode cX5_stonesLeft 13 = .ok (.getfield 18, 3) := by decide +kernel
theorem dX5_stonesLeft_16 : decode cX5_stonesLeft 16 = .ok (.iload_n 2, 1) := by decide +kernel
theorem dX5_stonesLeft_17 : decode cX5_stonesLeft 17 = .ok (.aaload, 1) := by decide +kernel
theorem dX5_stonesLeft_18 : decode cX5_stonesLeft 18 = .ok (.getfield 105, 3) := by decide +kernel
theorem dX5_stonesLeft_21 : decode cX5_stonesLeft 21 = .ok (.ifCond .le 6, 3) := by decide +kernel
theorem dX5_stonesLeft_24 : decode cX5_stonesLeft 24 = .ok (.iinc 1 1, 3) := by decide +kernel
theorem dX5_stonesLeft_27 : decode cX5_stonesLeft 27 = .ok (.iinc 2 1, 3) := by decide +kernel
theorem dX5_stonesLeft_30 : decode cX5_stonesLeft 30 = .ok (.goto (-26), 3) := by decide +kernel
theorem dX5_stonesLeft_33 : decode cX5_stonesLeft 33 = .ok (.iload_n 1, 1) := by decide +kernel
theorem dX5_stonesLeft_34 : decode cX5_stonesLeft 34 = .ok (.ireturn, 1) := by decide +kernel
theorem dX5_worthOfStones_0 : decode cX5_worthOfStones 0 = .ok (.iconst 0, 1) := by decide +kernel
theorem dX5_worthOfStones_1 : decode cX5_worthOfStones 1 = .ok (.istore_n 1, 1) := by decide +kernel
theorem dX5_worthOfStones_2 : decode cX5_worthOfStones 2 = .ok (.iconst 0, 1) := by decide +kernel
theorem dX5_worthOfStones_3 : decode cX5_worthOfStones 3 = .ok (.istore_n 2, 1) := by decide +kernel
theorem dX5_worthOfStones_4 : decode cX5_worthOfStones 4 = .ok (.iload_n 2, 1) := by decide +kernel
theorem dX5_worthOfStones_5 : decode cX5_worthOfStones 5 = .ok (.aload_n 0, 1) := by decide +kernel
theorem dX5_worthOfStones_6 : decode cX5_worthOfStones 6 = .ok (.getfield 102, 3) := by decide +kernel
theorem dX5_worthOfStones_9 : decode cX5_worthOfStones 9 = .ok (.if_icmp .ge 22, 3) := by decide +kernel
theorem dX5_worthOfStones_12 : decode cX5_worthOfStones 12 = .ok (.iload_n 1, 1) := by decide +kernel
theorem dX5_worthOfStones_13 : decode cX5_worthOfStones 13 = .ok (.aload_n 0, 1) := by decide +kernel
theorem dX5_worthOfStones_14 : decode cX5_worthOfStones 14 = .ok (.aload_n 0, 1) := by decide +kernel
theorem dX5_worthOfStones_15 : decode cX5_worthOfStones 15 = .ok (.getfield 18, 3) := by decide +kernel
theorem dX5_worthOfStones_18 : decode cX5_worthOfStones 18 = .ok (.iload_n 2, 1) := by decide +kernel
theorem dX5_worthOfStones_19 : decode cX5_worthOfStones 19 = .ok (.aaload, 1) := by decide +kernel
theorem dX5_worthOfStones_20 : decode cX5_worthOfStones 20 = .ok (.invokevirtual 295, 3) := by decide +kernel
theorem dX5_worthOfStones_23 : decode cX5_worthOfStones 23 = .ok (.iadd, 1) := by decide +kernel
theorem dX5_worthOfStones_24 : decode cX5_worthOfStones 24 = .ok (.istore_n 1, 1) := by decide +kernel
theorem dX5_worthOfStones_25 : decode cX5_worthOfStones 25 = .ok (.iinc 2 1, 3) := by decide +kernel
theorem dX5_worthOfStones_28 : decode cX5_worthOfStones 28 = .ok (.goto (-24), 3) := by decide +kernel
theorem dX5_worthOfStones_31 : decode cX5_worthOfStones 31 = .ok (.iload_n 1, 1) := by decide +kernel
theorem dX5_worthOfStones_32 : decode cX5_worthOfStones 32 = .ok (.ireturn, 1) := by decide +kernel
theorem dX6_init_0 : decode cX6_init 0 = .ok (.aload_n 0, 1) := by decide +kernel
theorem dX6_init_1 : decode cX6_init 1 = .ok (.invokespecial 1, 3) := by decide +kernel
theorem dX6_init_4 : decode cX6_init 4 = .ok (.aload_n 0, 1) := by decide +kernel
theorem dX6_init_5 : decode cX6_init 5 = .ok (.iconst 0, 1) := by decide +kernel
theorem dX6_init_6 : decode cX6_init 6 = .ok (.anewarray 7, 3) := by decide +kernel
theorem dX6_init_9 : decode cX6_init 9 = .ok (.putfield 9, 3) := by decide +kernel
theorem dX6_init_12 : decode cX6_init 12 = .ok (.aload_n 0, 1) := by decide +kernel
theorem dX6_init_13 : decode cX6_init 13 = .ok (.iconst 1, 1) := by decide +kernel
theorem dX6_init_14 : decode cX6_init 14 = .ok (.anewarray 15, 3) := by decide +kernel
theorem dX6_init_17 : decode cX6_init 17 = .ok (.dup, 1) := by decide +kernel
theorem dX6_init_18 : decode cX6_init 18 = .ok (.iconst 0, 1) := by decide +kernel
theorem dX6_init_19 : decode cX6_init 19 = .ok (.iconst 0, 1) := by decide +kernel
theorem dX6_init_20 : decode cX6_init 20 = .ok (.anewarray 7, 3) := by decide +kernel
theorem dX6_init_23 : decode cX6_init 23 = .ok (.aastore, 1) := by decide +kernel
theorem dX6_init_24 : decode cX6_init 24 = .ok (.putfield 16, 3) := by decide +kernel
theorem dX6_init_27 : decode cX6_init 27 = .ok (.aload_n 0, 1) := by decide +kernel
theorem dX6_init_28 : decode cX6_init 28 = .ok (.sipush 400, 3) := by decide +kernel
theorem dX6_init_31 : decode cX6_init 31 = .ok (.putfield 20, 3) := by decide +kernel
theorem dX6_init_34 : decode cX6_init 34 = .ok (.aload_n 0, 1) := by decide +kernel
theorem dX6_init_35 : decode cX6_init 35 = .ok (.iload_n 1, 1) := by decide +kernel
theorem dX6_init_36 : decode cX6_init 36 = .ok (.iload_n 2, 1) := by decide +kernel
theorem dX6_init_37 : decode cX6_init 37 = .ok (.iload_n 3, 1) := by decide +kernel
theorem dX6_init_38 : decode cX6_init 38 = .ok (.multianewarray 24 3, 4) := by decide +kernel
theorem dX6_init_42 : decode cX6_init 42 = .ok (.putfield 25, 3) := by decide +kernel
theorem dX6_init_45 : decode cX6_init 45 = .ok (.return_, 1) := by decide +kernel
theorem dX6_more_0 : decode cX6_more 0 = .ok (.aload_n 0, 1) := by decide +kernel
theorem dX6_more_1 : decode cX6_more 1 = .ok (.arraylength, 1) := by decide +kernel
theorem dX6_more_2 : decode cX6_more 2 = .ok (.iconst 1, 1) := by decide +kernel
theorem dX6_more_3 : decode cX6_more 3 = .ok (.iadd, 1) := by decide +kernel
theorem dX6_more_4 : decode cX6_more 4 = .ok (.anewarray 7, 3) := by decide +kernel
theorem dX6_more_7 : decode cX6_more 7 = .ok (.astore_n 2, 1) := by decide +kernel
theorem dX6_more_8 : decode cX6_more 8 = .ok (.iconst 0, 1) := by decide +kernel
theorem dX6_more_9 : decode cX6_more 9 = .ok (.istore_n 3, 1) := by decide +kernel
theorem dX6_more_10 : decode cX6_more 10 = .ok (.iload_n 3, 1) := by decide +kernel
theorem dX6_more_11 : decode cX6_more 11 = .ok (.aload_n 0, 1) := by decide +kernel
theorem dX6_more_12 : decode cX6_more 12 = .ok (.arraylength, 1) := by decide +kernel
theorem dX6_more_13 : decode cX6_more 13 = .ok (.if_icmp .ge 15, 3) := by decide +kernel
theorem dX6_more_16 : decode cX6_more 16 = .ok (.aload_n 2, 1) := by decide +kernel
theorem dX6_more_17 : decode cX6_more 17 = .ok (.iload_n 3, 1) := by decide +kernel
theorem dX6_more_18 : decode cX6_more 18 = .ok (.aload_n 0, 1) := by decide +kernel
theorem dX6_more_19 : decode cX6_more 19 = .ok (.iload_n 3, 1) := by decide +kernel
theorem dX6_more_20 : decode cX6_more 20 = .ok (.aaload, 1) := by decide +kernel
theorem dX6_more_21 : decode cX6_more 21 = .ok (.aastore, 1) := by decide +kernel
theorem dX6_more_22 : decode cX6_more 22 = .ok (.iinc 3 1, 3) := by decide +kernel
theorem dX6_more_25 : decode cX6_more 25 = .ok (.goto (-15), 3) := by decide +kernel
theorem dX6_more_28 : decode cX6_more 28 = .ok (.aload_n 2, 1) := by decide +kernel
theorem dX6_more_29 : decode cX6_more 29 = .ok (.aload_n 0, 1) := by decide +kernel
theorem dX6_more_30 : decode cX6_more 30 = .ok (.arraylength, 1) := by decide +kernel
theorem dX6_more_31 : decode cX6_more 31 = .ok (.aload_n 1, 1) := by decide +kernel
theorem dX6_more_32 : decode cX6_more 32 = .ok (.aastore, 1) := by decide +kernel
theorem dX6_more_33 : decode cX6_more 33 = .ok (.aload_n 2, 1) := by decide +kernel
theorem dX6_more_34 : decode cX6_more 34 = .ok (.areturn, 1) := by decide +kernel
theorem dL_below_0 : decode cL_below 0 = .ok (.iload_n 0, 1) := by decide +kernel
theorem dL_below_1 : decode cL_below 1 = .ok (.ldc 7, 2) := by decide +kernel
theorem dL_below_3 : decode cL_below 3 = .ok (.iand, 1) := by decide +kernel
theorem dL_below_4 : decode cL_below 4 = .ok (.iload_n 1, 1) := by decide +kernel
theorem dL_below_5 : decode cL_below 5 = .ok (.irem, 1) := by decide +kernel
theorem dL_below_6 : decode cL_below 6 = .ok (.ireturn, 1) := by decide +kernel
theorem dL_cell_0 : decode cL_cell 0 = .ok (.iload_n 1, 1) := by decide +kernel
theorem dL_cell_1 : decode cL_cell 1 = .ok (.aload_n 0, 1) := by decide +kernel
theorem dL_cell_2 : decode cL_cell 2 = .ok (.arraylength, 1) := by decide +kernel
theorem dL_cell_3 : decode cL_cell 3 = .ok (.if_icmp .ge 9, 3) := by decide +kernel
theorem dL_cell_6 : decode cL_cell 6 = .ok (.aload_n 0, 1) := by decide +kernel
theorem dL_cell_7 : decode cL_cell 7 = .ok (.iload_n 1, 1) := by decide +kernel
theorem dL_cell_8 : decode cL_cell 8 = .ok (.iaload, 1) := by decide +kernel
theorem dL_cell_9 : decode cL_cell 9 = .ok (.goto 9, 3) := by decide +kernel
theorem dL_cell_12 : decode cL_cell 12 = .ok (.ldc 8, 2) := by decide +kernel
theorem dL_cell_14 : decode cL_cell 14 = .ok (.iload_n 1, 1) := by decide +kernel
theorem dL_cell_15 : decode cL_cell 15 = .ok (.iconst 3, 1) := by decide +kernel
theorem dL_cell_16 : decode cL_cell 16 = .ok (.iadd, 1) := by decide +kernel
theorem dL_cell_17 : decode cL_cell 17 = .ok (.imul, 1) := by decide +kernel
theorem dL_cell_18 : decode cL_cell 18 = .ok (.ireturn, 1) := by decide +kernel
theorem dL_plane_0 : decode cL_plane 0 = .ok (.iconst 4, 1) := by decide +kernel
theorem dL_plane_1 : decode cL_plane 1 = .ok (.newarray .int, 2) := by decide +kernel
theorem dL_plane_3 : decode cL_plane 3 = .ok (.dup, 1) := by decide +kernel
theorem dL_plane_4 : decode cL_plane 4 = .ok (.iconst 0, 1) := by decide +kernel
theorem dL_plane_5 : decode cL_plane 5 = .ok (.iload_n 0, 1) := by decide +kernel
theorem dL_plane_6 : decode cL_plane 6 = .ok (.bipush 7, 2) := by decide +kernel
theorem dL_plane_8 : decode cL_plane 8 = .ok (.invokestatic 9, 3) := by decide +kernel
theorem dL_plane_11 : decode cL_plane 11 = .ok (.iconst 3, 1) := by decide +kernel
theorem dL_plane_12 : decode cL_plane 12 = .ok (.isub, 1) := by decide +kernel
theorem dL_plane_13 : decode cL_plane 13 = .ok (.iastore, 1) := by decide +kernel
theorem dL_plane_14 : decode cL_plane 14 = .ok (.dup, 1) := by decide +kernel
theorem dL_plane_15 : decode cL_plane 15 = .ok (.iconst 1, 1) := by decide +kernel
theorem dL_plane_16 : decode cL_plane 16 = .ok (.iload_n 0, 1) := by decide +kernel
theorem dL_plane_17 : decode cL_plane 17 = .ok (.iconst 2, 1) := by decide +kernel
theorem dL_plane_18 : decode cL_plane 18 = .ok (.ishr, 1) := by decide +kernel
theorem dL_plane_19 : decode cL_plane 19 = .ok (.bipush 7, 2) := by decide +kernel
theorem dL_plane_21 : decode cL_plane 21 = .ok (.invokestatic 9, 3) := by decide +kernel
theorem dL_plane_24 : decode cL_plane 24 = .ok (.iconst 3, 1) := by decide +kernel
theorem dL_plane_25 : decode cL_plane 25 = .ok (.isub, 1) := by decide +kernel
theorem dL_plane_26 : decode cL_plane 26 = .ok (.iastore, 1) := by decide +kernel
theorem dL_plane_27 : decode cL_plane 27 = .ok (.dup, 1) := by decide +kernel
theorem dL_plane_28 : decode cL_plane 28 = .ok (.iconst 2, 1) := by decide +kernel
theorem dL_plane_29 : decode cL_plane 29 = .ok (.iload_n 0, 1) := by decide +kernel
theorem dL_plane_30 : decode cL_plane 30 = .ok (.iconst 4, 1) := by decide +kernel
theorem dL_plane_31 : decode cL_plane 31 = .ok (.ishr, 1) := by decide +kernel
theorem dL_plane_32 : decode cL_plane 32 = .ok (.bipush 7, 2) := by decide +kernel
theorem dL_plane_34 : decode cL_plane 34 = .ok (.invokestatic 9, 3) := by decide +kernel
theorem dL_plane_37 : decode cL_plane 37 = .ok (.iconst 3, 1) := by decide +kernel
theorem dL_plane_38 : decode cL_plane 38 = .ok (.isub, 1) := by decide +kernel
theorem dL_plane_39 : decode cL_plane 39 = .ok (.iastore, 1) := by decide +kernel
theorem dL_plane_40 : decode cL_plane 40 = .ok (.dup, 1) := by decide +kernel
theorem dL_plane_41 : decode cL_plane 41 = .ok (.iconst 3, 1) := by decide +kernel
theorem dL_plane_42 : decode cL_plane 42 = .ok (.iconst 0, 1) := by decide +kernel
theorem dL_plane_43 : decode cL_plane 43 = .ok (.iastore, 1) := by decide +kernel
theorem dL_plane_44 : decode cL_plane 44 = .ok (.astore_n 2, 1) := by decide +kernel
theorem dL_plane_45 : decode cL_plane 45 = .ok (.iload_n 0, 1) := by decide +kernel
theorem dL_plane_46 : decode cL_plane 46 = .ok (.bipush 6, 2) := by decide +kernel
theorem dL_plane_48 : decode cL_plane 48 = .ok (.ishr, 1) := by decide +kernel
theorem dL_plane_49 : decode cL_plane 49 = .ok (.iconst 2, 1) := by decide +kernel
theorem dL_plane_50 : decode cL_plane 50 = .ok (.invokestatic 9, 3) := by decide +kernel
theorem dL_plane_53 : decode cL_plane 53 = .ok (.ifCond .ne 26, 3) := by decide +kernel
theorem dL_plane_56 : decode cL_plane 56 = .ok (.iconst 0, 1) := by decide +kernel
theorem dL_plane_57 : decode cL_plane 57 = .ok (.istore_n 3, 1) := by decide +kernel
theorem dL_plane_58 : decode cL_plane 58 = .ok (.iload_n 3, 1) := by decide +kernel
theorem dL_plane_59 : decode cL_plane 59 = .ok (.iconst 3, 1) := by decide +kernel
theorem dL_plane_60 : decode cL_plane 60 = .ok (.if_icmp .ge 19, 3) := by decide +kernel
theorem dL_plane_63 : decode cL_plane 63 = .ok (.aload_n 2, 1) := by decide +kernel
theorem dL_plane_64 : decode cL_plane 64 = .ok (.iload_n 3, 1) := by decide +kernel
theorem dL_plane_65 : decode cL_plane 65 = .ok (.aload_n 2, 1) := by decide +kernel
theorem dL_plane_66 : decode cL_plane 66 = .ok (.iload_n 3, 1) := by decide +kernel
theorem dL_plane_67 : decode cL_plane 67 = .ok (.iaload, 1) := by decide +kernel
theorem dL_plane_68 : decode cL_plane 68 = .ok (.iconst 0, 1) := by decide +kernel
theorem dL_plane_69 : decode cL_plane 69 = .ok (.invokestatic 15, 3) := by decide +kernel
theorem dL_plane_72 : decode cL_plane 72 = .ok (.iastore, 1) := by decide +kernel
theorem dL_plane_73 : decode cL_plane 73 = .ok (.iinc 3 1, 3) := by decide +kernel
theorem dL_plane_76 : decode cL_plane 76 = .ok (.goto (-18), 3) := by decide +kernel
theorem dL_plane_79 : decode cL_plane 79 = .ok (.aload_n 2, 1) := by decide +kernel
theorem dL_plane_80 : decode cL_plane 80 = .ok (.iconst 0, 1) := by decide +kernel
theorem dL_plane_81 : decode cL_plane 81 = .ok (.iaload, 1) := by decide +kernel
theorem dL_plane_82 : decode cL_plane 82 = .ok (.ifCond .ne 23, 3) := by decide +kernel
theorem dL_plane_85 : decode cL_plane 85 = .ok (.aload_n 2, 1) := by decide +kernel
theorem dL_plane_86 : decode cL_plane 86 = .ok (.iconst 1, 1) := by decide +kernel
theorem dL_plane_87 : decode cL_plane 87 = .ok (.iaload, 1) := by decide +kernel
theorem dL_plane_88 : decode cL_plane 88 = .ok (.ifCond .ne 17, 3) := by decide +kernel
theorem dL_plane_91 : decode cL_plane 91 = .ok (.aload_n 2, 1) := by decide +kernel
theorem dL_plane_92 : decode cL_plane 92 = .ok (.iconst 2, 1) := by decide +kernel
theorem dL_plane_93 : decode cL_plane 93 = .ok (.iaload, 1) := by decide +kernel
theorem dL_plane_94 : decode cL_plane 94 = .ok (.ifCond .ne 11, 3) := by decide +kernel
theorem dL_plane_97 : decode cL_plane 97 = .ok (.aload_n 2, 1) := by decide +kernel
theorem dL_plane_98 : decode cL_plane 98 = .ok (.iload_n 0, 1) := by decide +kernel
theorem dL_plane_99 : decode cL_plane 99 = .ok (.iconst 3, 1) := by decide +kernel
theorem dL_plane_100 : decode cL_plane 100 = .ok (.invokestatic 9, 3) := by decide +kernel
theorem dL_plane_103 : decode cL_plane 103 = .ok (.iconst 1, 1) := by decide +kernel
theorem dL_plane_104 : decode cL_plane 104 = .ok (.iastore, 1) := by decide +kernel
theorem dL_plane_105 : decode cL_plane 105 = .ok (.iconst 0, 1) := by decide +kernel
theorem dL_plane_106 : decode cL_plane 106 = .ok (.istore_n 3, 1) := by decide +kernel
theorem dL_plane_107 : decode cL_plane 107 = .ok (.iconst 0, 1) := by decide +kernel
theorem dL_plane_108 : decode cL_plane 108 = .ok (.istore 4, 2) := by decide +kernel
theorem dL_plane_110 : decode cL_plane 110 = .ok (.iconst 0, 1) := by decide +kernel
theorem dL_plane_111 : decode cL_plane 111 = .ok (.istore 5, 2) := by decide +kernel
theorem dL_plane_113 : decode cL_plane 113 = .ok (.iload 5, 2) := by decide +kernel
theorem dL_plane_115 : decode cL_plane 115 = .ok (.iconst 3, 1) := by decide +kernel
theorem dL_plane_116 : decode cL_plane 116 = .ok (.if_icmp .ge 37, 3) := by decide +kernel
theorem dL_plane_119 : decode cL_plane 119 = .ok (.iload_n 3, 1) := by decide +kernel
theorem dL_plane_120 : decode cL_plane 120 = .ok (.iconst 0, 1) := by decide +kernel
theorem dL_plane_121 : decode cL_plane 121 = .ok (.aload_n 2, 1) := by decide +kernel
theorem dL_plane_122 : decode cL_plane 122 = .ok (.iload 5, 2) := by decide +kernel
theorem dL_plane_124 : decode cL_plane 124 = .ok (.iaload, 1) := by decide +kernel
theorem dL_plane_125 : decode cL_plane 125 = .ok (.invokestatic 20, 3) := by decide +kernel
theorem dL_plane_128 : decode cL_plane 128 = .ok (.iload_n 1, 1) := by decide +kernel
theorem dL_plane_129 : decode cL_plane 129 = .ok (.imul, 1) := by decide +kernel
theorem dL_plane_130 : decode cL_plane 130 = .ok (.iadd, 1) := by decide +kernel
theorem dL_plane_131 : decode cL_plane 131 = .ok (.istore_n 3, 1) := by decide +kernel
theorem dL_plane_132 : decode cL_plane 132 = .ok (.iload 4, 2) := by decide +kernel
theorem dL_plane_134 : decode cL_plane 134 = .ok (.iconst 0, 1) := by decide +kernel
theorem dL_plane_135 : decode cL_plane 135 = .ok (.aload_n 2, 1) := by decide +kernel
theorem dL_plane_136 : decode cL_plane 136 = .ok (.iload 5, 2) := by decide +kernel
theorem dL_plane_138 : decode cL_plane 138 = .ok (.iaload, 1) := by decide +kernel
theorem dL_plane_139 : decode cL_plane 139 = .ok (.invokestatic 25, 3) := by decide +kernel
theorem dL_plane_142 : decode cL_plane 142 = .ok (.iload_n 1, 1) := by decide +kernel
theorem dL_plane_143 : decode cL_plane 143 = .ok (.imul, 1) := by decide +kernel
theorem dL_plane_144 : decode cL_plane 144 = .ok (.iadd, 1) := by decide +kernel
theorem dL_plane_145 : decode cL_plane 145 = .ok (.istore 4, 2) := by decide +kernel
theorem dL_plane_147 : decode cL_plane 147 = .ok (.iinc 5 1, 3) := by decide +kernel
theorem dL_plane_150 : decode cL_plane 150 = .ok (.goto (-37), 3) := by decide +kernel
theorem dL_plane_153 : decode cL_plane 153 = .ok (.aload_n 2, 1) := by decide +kernel
theorem dL_plane_154 : decode cL_plane 154 = .ok (.iconst 3, 1) := by decide +kernel
theorem dL_plane_155 : decode cL_plane 155 = .ok (.iload_n 0, 1) := by decide +kernel
theorem dL_plane_156 : decode cL_plane 156 = .ok (.bipush 8, 2) := by decide +kernel
theorem dL_plane_158 : decode cL_plane 158 = .ok (.ishr, 1) := by decide +kernel
theorem dL_plane_159 : decode cL_plane 159 = .ok (.bipush 6, 2) := by decide +kernel
theorem dL_plane_161 : decode cL_plane 161 = .ok (.invokestatic 9, 3) := by decide +kernel
theorem dL_plane_164 : decode cL_plane 164 = .ok (.ifCond .ne 18, 3) := by decide +kernel
theorem dL_plane_167 : decode cL_plane 167 = .ok (.iload_n 0, 1) := by decide +kernel
theorem dL_plane_168 : decode cL_plane 168 = .ok (.iconst 3, 1) := by decide +kernel
theorem dL_plane_169 : decode cL_plane 169 = .ok (.ishr, 1) := by decide +kernel
theorem dL_plane_170 : decode cL_plane 170 = .ok (.sipush 201, 3) := by decide +kernel
theorem dL_plane_173 : decode cL_plane 173 = .ok (.invokestatic 9, 3) := by decide +kernel
theorem dL_plane_176 : decode cL_plane 176 = .ok (.bipush 100, 2) := by decide +kernel
theorem dL_plane_178 : decode cL_plane 178 = .ok (.isub, 1) := by decide +kernel
theorem dL_plane_179 : decode cL_plane 179 = .ok (.goto 18, 3) := by decide +kernel
theorem dL_plane_182 : decode cL_plane 182 = .ok (.iload 4, 2) := by decide +kernel
theorem dL_plane_184 : decode cL_plane 184 = .ok (.iload_n 0, 1) := by decide +kernel
theorem dL_plane_185 : decode cL_plane 185 = .ok (.iconst 5, 1) := by decide +kernel
theorem dL_plane_186 : decode cL_plane 186 = .ok (.ishr, 1) := by decide +kernel
theorem dL_plane_187 : decode cL_plane 187 = .ok (.iload_n 3, 1) := by decide +kernel
theorem dL_plane_188 : decode cL_plane 188 = .ok (.iload 4, 2) := by decide +kernel
theorem dL_plane_190 : decode cL_plane 190 = .ok (.isub, 1) := by decide +kernel
theorem dL_plane_191 : decode cL_plane 191 = .ok (.iconst 3, 1) := by decide +kernel
theorem dL_plane_192 : decode cL_plane 192 = .ok (.iadd, 1) := by decide +kernel
theorem dL_plane_193 : decode cL_plane 193 = .ok (.invokestatic 9, 3) := by decide +kernel
theorem dL_plane_196 : decode cL_plane 196 = .ok (.iadd, 1) := by decide +kernel
theorem dL_plane_197 : decode cL_plane 197 = .ok (.iastore, 1) := by decide +kernel
theorem dL_plane_198 : decode cL_plane 198 = .ok (.aload_n 2, 1) := by decide +kernel
theorem dL_plane_199 : decode cL_plane 199 = .ok (.areturn, 1) := by decide +kernel
theorem dL_build_0 : decode cL_build 0 = .ok (.iconst 3, 1) := by decide +kernel
theorem dL_build_1 : decode cL_build 1 = .ok (.newarray .int, 2) := by decide +kernel
theorem dL_build_3 : decode cL_build 3 = .ok (.dup, 1) := by decide +kernel
theorem dL_build_4 : decode cL_build 4 = .ok (.iconst 0, 1) := by decide +kernel
theorem dL_build_5 : decode cL_build 5 = .ok (.iconst 1, 1) := by decide +kernel
theorem dL_build_6 : decode cL_build 6 = .ok (.aload_n 1, 1) := by decide +kernel
theorem dL_build_7 : decode cL_build 7 = .ok (.iconst 0, 1) := by decide +kernel
theorem dL_build_8 : decode cL_build 8 = .ok (.invokestatic 28, 3) := by decide +kernel
theorem dL_build_11 : decode cL_build 11 = .ok (.iload_n 2, 1) := by decide +kernel
theorem dL_build_12 : decode cL_build 12 = .ok (.invokestatic 9, 3) := by decide +kernel
theorem dL_build_15 : decode cL_build 15 = .ok (.iadd, 1) := by decide +kernel
theorem dL_build_16 : decode cL_build 16 = .ok (.iastore, 1) := by decide +kernel
theorem dL_build_17 : decode cL_build 17 = .ok (.dup, 1) := by decide +kernel
theorem dL_build_18 : decode cL_build 18 = .ok (.iconst 1, 1) := by decide +kernel
theorem dL_build_19 : decode cL_build 19 = .ok (.iconst 1, 1) := by decide +kernel
theorem dL_build_20 : decode cL_build 20 = .ok (.aload_n 1, 1) := by decide +kernel
theorem dL_build_21 : decode cL_build 21 = .ok (.iconst 1, 1) := by decide +kernel
theorem dL_build_22 : decode cL_build 22 = .ok (.invokestatic 28, 3) := by decide +kernel
theorem dL_build_25 : decode cL_build 25 = .ok (.iload_n 2, 1) := by decide +kernel
theorem dL_build_26 : decode cL_build 26 = .ok (.invokestatic 9, 3) := by decide +kernel
theorem dL_build_29 : decode cL_build 29 = .ok (.iadd, 1) := by decide +kernel
theorem dL_build_30 : decode cL_build 30 = .ok (.iastore, 1) := by decide +kernel
theorem dL_build_31 : decode cL_build 31 = .ok (.dup, 1) := by decide +kernel
theorem dL_build_32 : decode cL_build 32 = .ok (.iconst 2, 1) := by decide +kernel
theorem dL_build_33 : decode cL_build 33 = .ok (.iconst 1, 1) := by decide +kernel
theorem dL_build_34 : decode cL_build 34 = .ok (.aload_n 1, 1) := by decide +kernel
theorem dL_build_35 : decode cL_build 35 = .ok (.iconst 2, 1) := by decide +kernel
theorem dL_build_36 : decode cL_build 36 = .ok (.invokestatic 28, 3) := by decide +kernel
theorem dL_build_39 : decode cL_build 39 = .ok (.iload_n 2, 1) := by decide +kernel
theorem dL_build_40 : decode cL_build 40 = .ok (.invokestatic 9, 3) := by decide +kernel
theorem dL_build_43 : decode cL_build 43 = .ok (.iadd, 1) := by decide +kernel
theorem dL_build_44 : decode cL_build 44 = .ok (.iastore, 1) := by decide +kernel
theorem dL_build_45 : decode cL_build 45 = .ok (.astore_n 3, 1) := by decide +kernel
theorem dL_build_46 : decode cL_build 46 = .ok (.aload_n 0, 1) := by decide +kernel
theorem dL_build_47 : decode cL_build 47 = .ok (.aload_n 3, 1) := by decide +kernel
theorem dL_build_48 : decode cL_build 48 = .ok (.iconst 0, 1) := by decide +kernel
theorem dL_build_49 : decode cL_build 49 = .ok (.iaload, 1) := by decide +kernel
theorem dL_build_50 : decode cL_build 50 = .ok (.aload_n 3, 1) := by decide +kernel
theorem dL_build_51 : decode cL_build 51 = .ok (.iconst 1, 1) := by decide +kernel
theorem dL_build_52 : decode cL_build 52 = .ok (.iaload, 1) := by decide +kernel
theorem dL_build_53 : decode cL_build 53 = .ok (.aload_n 3, 1) := by decide +kernel
theorem dL_build_54 : decode cL_build 54 = .ok (.iconst 2, 1) := by decide +kernel
theorem dL_build_55 : decode cL_build 55 = .ok (.iaload, 1) := by decide +kernel
theorem dL_build_56 : decode cL_build 56 = .ok (.invokevirtual 32, 3) := by decide +kernel
theorem dL_build_59 : decode cL_build 59 = .ok (.aload_n 3, 1) := by decide +kernel
theorem dL_build_60 : decode cL_build 60 = .ok (.iconst 0, 1) := by decide +kernel
theorem dL_build_61 : decode cL_build 61 = .ok (.iaload, 1) := by decide +kernel
theorem dL_build_62 : decode cL_build 62 = .ok (.aload_n 3, 1) := by decide +kernel
theorem dL_build_63 : decode cL_build 63 = .ok (.iconst 1, 1) := by decide +kernel
theorem dL_build_64 : decode cL_build 64 = .ok (.iaload, 1) := by decide +kernel
theorem dL_build_65 : decode cL_build 65 = .ok (.imul, 1) := by decide +kernel
theorem dL_build_66 : decode cL_build 66 = .ok (.aload_n 3, 1) := by decide +kernel
theorem dL_build_67 : decode cL_build 67 = .ok (.iconst 2, 1) := by decide +kernel
theorem dL_build_68 : decode cL_build 68 = .ok (.iaload, 1) := by decide +kernel
theorem dL_build_69 : decode cL_build 69 = .ok (.imul, 1) := by decide +kernel
theorem dL_build_70 : decode cL_build 70 = .ok (.if_icmp .eq 5, 3) := by decide +kernel
theorem dL_build_73 : decode cL_build 73 = .ok (.aconst_null, 1) := by decide +kernel
theorem dL_build_74 : decode cL_build 74 = .ok (.areturn, 1) := by decide +kernel
theorem dL_build_75 : decode cL_build 75 = .ok (.new 38, 3) := by decide +kernel
theorem dL_build_78 : decode cL_build 78 = .ok (.dup, 1) := by decide +kernel
theorem dL_build_79 : decode cL_build 79 = .ok (.aload_n 3, 1) := by decide +kernel
theorem dL_build_80 : decode cL_build 80 = .ok (.iconst 0, 1) := by decide +kernel
theorem dL_build_81 : decode cL_build 81 = .ok (.iaload, 1) := by decide +kernel
theorem dL_build_82 : decode cL_build 82 = .ok (.aload_n 3, 1) := by decide +kernel
theorem dL_build_83 : decode cL_build 83 = .ok (.iconst 1, 1) := by decide +kernel
theorem dL_build_84 : decode cL_build 84 = .ok (.iaload, 1) := by decide +kernel
theorem dL_build_85 : decode cL_build 85 = .ok (.aload_n 3, 1) := by decide +kernel
theorem dL_build_86 : decode cL_build 86 = .ok (.iconst 2, 1) := by decide +kernel
theorem dL_build_87 : decode cL_build 87 = .ok (.iaload, 1) := by decide +kernel
theorem dL_build_88 : decode cL_build 88 = .ok (.invokespecial 40, 3) := by decide +kernel
theorem dL_build_91 : decode cL_build 91 = .ok (.astore 4, 2) := by decide +kernel
theorem dL_build_93 : decode cL_build 93 = .ok (.aload_n 1, 1) := by decide +kernel
theorem dL_build_94 : decode cL_build 94 = .ok (.iconst 3, 1) := by decide +kernel
theorem dL_build_95 : decode cL_build 95 = .ok (.invokestatic 28, 3) := by decide +kernel
theorem dL_build_98 : decode cL_build 98 = .ok (.iconst 5, 1) := by decide +kernel
theorem dL_build_99 : decode cL_build 99 = .ok (.invokestatic 9, 3) := by decide +kernel
theorem dL_build_102 : decode cL_build 102 = .ok (.istore 5, 2) := by decide +kernel
theorem dL_build_104 : decode cL_build 104 = .ok (.iconst 0, 1) := by decide +kernel
theorem dL_build_105 : decode cL_build 105 = .ok (.istore 6, 2) := by decide +kernel
theorem dL_build_107 : decode cL_build 107 = .ok (.iload 6, 2) := by decide +kernel
theorem dL_build_109 : decode cL_build 109 = .ok (.iload 5, 2) := by decide +kernel
theorem dL_build_111 : decode cL_build 111 = .ok (.if_icmp .ge 160, 3) := by decide +kernel
theorem dL_build_114 : decode cL_build 114 = .ok (.aload_n 1, 1) := by decide +kernel
theorem dL_build_115 : decode cL_build 115 = .ok (.iconst 4, 1) := by decide +kernel
theorem dL_build_116 : decode cL_build 116 = .ok (.iload 6, 2) := by decide +kernel
theorem dL_build_118 : decode cL_build 118 = .ok (.iconst 2, 1) := by decide +kernel
theorem dL_build_119 : decode cL_build 119 = .ok (.irem, 1) := by decide +kernel
theorem dL_build_120 : decode cL_build 120 = .ok (.iadd, 1) := by decide +kernel
theorem dL_build_121 : decode cL_build 121 = .ok (.invokestatic 28, 3) := by decide +kernel
theorem dL_build_124 : decode cL_build 124 = .ok (.iload 6, 2) := by decide +kernel
theorem dL_build_126 : decode cL_build 126 = .ok (.ishr, 1) := by decide +kernel
theorem dL_build_127 : decode cL_build 127 = .ok (.bipush 7, 2) := by decide +kernel
theorem dL_build_129 : decode cL_build 129 = .ok (.iload 6, 2) := by decide +kernel
theorem dL_build_131 : decode cL_build 131 = .ok (.imul, 1) := by decide +kernel
theorem dL_build_132 : decode cL_build 132 = .ok (.iadd, 1) := by decide +kernel
theorem dL_build_133 : decode cL_build 133 = .ok (.istore 7, 2) := by decide +kernel
theorem dL_build_135 : decode cL_build 135 = .ok (.iconst 5, 1) := by decide +kernel
theorem dL_build_136 : decode cL_build 136 = .ok (.newarray .int, 2) := by decide +kernel
theorem dL_build_138 : decode cL_build 138 = .ok (.dup, 1) := by decide +kernel
theorem dL_build_139 : decode cL_build 139 = .ok (.iconst 0, 1) := by decide +kernel
theorem dL_build_140 : decode cL_build 140 = .ok (.iload 7, 2) := by decide +kernel
theorem dL_build_142 : decode cL_build 142 = .ok (.aload_n 3, 1) := by decide +kernel
theorem dL_build_143 : decode cL_build 143 = .ok (.iconst 0, 1) := by decide +kernel
theorem dL_build_144 : decode cL_build 144 = .ok (.iaload, 1) := by decide +kernel
theorem dL_build_145 : decode cL_build 145 = .ok (.invokestatic 9, 3) := by decide +kernel
theorem dL_build_148 : decode cL_build 148 = .ok (.iastore, 1) := by decide +kernel
theorem dL_build_149 : decode cL_build 149 = .ok (.dup, 1) := by decide +kernel
theorem dL_build_150 : decode cL_build 150 = .ok (.iconst 1, 1) := by decide +kernel
theorem dL_build_151 : decode cL_build 151 = .ok (.iload 7, 2) := by decide +kernel
theorem dL_build_153 : decode cL_build 153 = .ok (.iconst 2, 1) := by decide +kernel
theorem dL_build_154 : decode cL_build 154 = .ok (.ishr, 1) := by decide +kernel
theorem dL_build_155 : decode cL_build 155 = .ok (.aload_n 3, 1) := by decide +kernel
theorem dL_build_156 : decode cL_build 156 = .ok (.iconst 1, 1) := by decide +kernel
theorem dL_build_157 : decode cL_build 157 = .ok (.iaload, 1) := by decide +kernel
theorem dL_build_158 : decode cL_build 158 = .ok (.invokestatic 9, 3) := by decide +kernel
theorem dL_build_161 : decode cL_build 161 = .ok (.iastore, 1) := by decide +kernel
theorem dL_build_162 : decode cL_build 162 = .ok (.dup, 1) := by decide +kernel
theorem dL_build_163 : decode cL_build 163 = .ok (.iconst 2, 1) := by decide +kernel
theorem dL_build_164 : decode cL_build 164 = .ok (.iload 7, 2) := by decide +kernel
theorem dL_build_166 : decode cL_build 166 = .ok (.iconst 4, 1) := by decide +kernel
theorem dL_build_167 : decode cL_build 167 = .ok (.ishr, 1) := by decide +kernel
theorem dL_build_168 : decode cL_build 168 = .ok (.aload_n 3, 1) := by decide +kernel
theorem dL_build_169 : decode cL_build 169 = .ok (.iconst 2, 1) := by decide +kernel
theorem dL_build_170 : decode cL_build 170 = .ok (.iaload, 1) := by decide +kernel
theorem dL_build_171 : decode cL_build 171 = .ok (.invokestatic 9, 3) := by decide +kernel
theorem dL_build_174 : decode cL_build 174 = .ok (.iastore, 1) := by decide +kernel
theorem dL_build_175 : decode cL_build 175 = .ok (.dup, 1) := by decide +kernel
theorem dL_build_176 : decode cL_build 176 = .ok (.iconst 3, 1) := by decide +kernel
theorem dL_build_177 : decode cL_build 177 = .ok (.iload 7, 2) := by decide +kernel
theorem dL_build_179 : decode cL_build 179 = .ok (.bipush 6, 2) := by decide +kernel
theorem dL_build_181 : decode cL_build 181 = .ok (.ishr, 1) := by decide +kernel
theorem dL_build_182 : decode cL_build 182 = .ok (.iload 7, 2) := by decide +kernel
theorem dL_build_184 : decode cL_build 184 = .ok (.bipush 8, 2) := by decide +kernel
theorem dL_build_186 : decode cL_build 186 = .ok (.ishr, 1) := by decide +kernel
theorem dL_build_187 : decode cL_build 187 = .ok (.iconst 2, 1) := by decide +kernel
theorem dL_build_188 : decode cL_build 188 = .ok (.invokestatic 9, 3) := by decide +kernel
theorem dL_build_191 : decode cL_build 191 = .ok (.ifCond .ne 7, 3) := by decide +kernel
theorem dL_build_194 : decode cL_build 194 = .ok (.iconst 4, 1) := by decide +kernel
theorem dL_build_195 : decode cL_build 195 = .ok (.goto 4, 3) := by decide +kernel
theorem dL_build_198 : decode cL_build 198 = .ok (.iconst 2, 1) := by decide +kernel
theorem dL_build_199 : decode cL_build 199 = .ok (.invokestatic 9, 3) := by decide +kernel
theorem dL_build_202 : decode cL_build 202 = .ok (.iastore, 1) := by decide +kernel
theorem dL_build_203 : decode cL_build 203 = .ok (.dup, 1) := by decide +kernel
theorem dL_build_204 : decode cL_build 204 = .ok (.iconst 4, 1) := by decide +kernel
theorem dL_build_205 : decode cL_build 205 = .ok (.iconst 1, 1) := by decide +kernel
theorem dL_build_206 : decode cL_build 206 = .ok (.iload 7, 2) := by decide +kernel
theorem dL_build_208 : decode cL_build 208 = .ok (.iconst 3, 1) := by decide +kernel
theorem dL_build_209 : decode cL_build 209 = .ok (.ishr, 1) := by decide +kernel
theorem dL_build_210 : decode cL_build 210 = .ok (.bipush 9, 2) := by decide +kernel
theorem dL_build_212 : decode cL_build 212 = .ok (.invokestatic 9, 3) := by decide +kernel
theorem dL_build_215 : decode cL_build 215 = .ok (.iadd, 1) := by decide +kernel
theorem dL_build_216 : decode cL_build 216 = .ok (.iastore, 1) := by decide +kernel
theorem dL_build_217 : decode cL_build 217 = .ok (.astore 8, 2) := by decide +kernel
theorem dL_build_219 : decode cL_build 219 = .ok (.aload_n 0, 1) := by decide +kernel
theorem dL_build_220 : decode cL_build 220 = .ok (.aload 8, 2) := by decide +kernel
theorem dL_build_222 : decode cL_build 222 = .ok (.iconst 0, 1) := by decide +kernel
theorem dL_build_223 : decode cL_build 223 = .ok (.iaload, 1) := by decide +kernel
theorem dL_build_224 : decode cL_build 224 = .ok (.aload 8, 2) := by decide +kernel
theorem dL_build_226 : decode cL_build 226 = .ok (.iconst 1, 1) := by decide +kernel
theorem dL_build_227 : decode cL_build 227 = .ok (.iaload, 1) := by decide +kernel
theorem dL_build_228 : decode cL_build 228 = .ok (.aload 8, 2) := by decide +kernel
theorem dL_build_230 : decode cL_build 230 = .ok (.iconst 2, 1) := by decide +kernel
theorem dL_build_231 : decode cL_build 231 = .ok (.iaload, 1) := by decide +kernel
theorem dL_build_232 : decode cL_build 232 = .ok (.aload 8, 2) := by decide +kernel
theorem dL_build_234 : decode cL_build 234 = .ok (.iconst 3, 1) := by decide +kernel
theorem dL_build_235 : decode cL_build 235 = .ok (.iaload, 1) := by decide +kernel
theorem dL_build_236 : decode cL_build 236 = .ok (.aload 8, 2) := by decide +kernel
theorem dL_build_238 : decode cL_build 238 = .ok (.iconst 4, 1) := by decide +kernel
theorem dL_build_239 : decode cL_build 239 = .ok (.iaload, 1) := by decide +kernel
theorem dL_build_240 : decode cL_build 240 = .ok (.invokevirtual 43, 3) := by decide +kernel
theorem dL_build_243 : decode cL_build 243 = .ok (.iload 6, 2) := by decide +kernel
theorem dL_build_245 : decode cL_build 245 = .ok (.if_icmp .eq 5, 3) := by decide +kernel
theorem dL_build_248 : decode cL_build 248 = .ok (.aconst_null, 1) := by decide +kernel
theorem dL_build_249 : decode cL_build 249 = .ok (.areturn, 1) := by decide +kernel
theorem dL_build_250 : decode cL_build 250 = .ok (.aload 4, 2) := by decide +kernel
theorem dL_build_252 : decode cL_build 252 = .ok (.aload 4, 2) := by decide +kernel
theorem dL_build_254 : decode cL_build 254 = .ok (.getfield 47, 3) := by decide +kernel
theorem dL_build_257 : decode cL_build 257 = .ok (.aload 8, 2) := by decide +kernel
theorem dL_build_259 : decode cL_build 259 = .ok (.invokestatic 51, 3) := by decide +kernel
theorem dL_build_262 : decode cL_build 262 = .ok (.putfield 47, 3) := by decide +kernel
theorem dL_build_265 : decode cL_build 265 = .ok (.iinc 6 1, 3) := by decide +kernel
theorem dL_build_268 : decode cL_build 268 = .ok (.goto (-161), 3) := by decide +kernel
theorem dL_build_271 : decode cL_build 271 = .ok (.aload 4, 2) := by decide +kernel
theorem dL_build_273 : decode cL_build 273 = .ok (.areturn, 1) := by decide +kernel
theorem dL_law_0 : decode cL_law 0 = .ok (.new 33, 3) := by decide +kernel
theorem dL_law_3 : decode cL_law 3 = .ok (.dup, 1) := by decide +kernel
theorem dL_law_4 : decode cL_law 4 = .ok (.invokespecial 96, 3) := by decide +kernel
theorem dL_law_7 : decode cL_law 7 = .ok (.astore_n 1, 1) := by decide +kernel
theorem dL_law_8 : decode cL_law 8 = .ok (.aload_n 1, 1) := by decide +kernel
theorem dL_law_9 : decode cL_law 9 = .ok (.aload_n 0, 1) := by decide +kernel
theorem dL_law_10 : decode cL_law 10 = .ok (.bipush 6, 2) := by decide +kernel
theorem dL_law_12 : decode cL_law 12 = .ok (.invokestatic 97, 3) := by decide +kernel
theorem dL_law_15 : decode cL_law 15 = .ok (.astore_n 2, 1) := by decide +kernel
theorem dL_law_16 : decode cL_law 16 = .ok (.aload_n 2, 1) := by decide +kernel
theorem dL_law_17 : decode cL_law 17 = .ok (.ifnonnull 5, 3) := by decide +kernel
theorem dL_law_20 : decode cL_law 20 = .ok (.iconst 0, 1) := by decide +kernel
theorem dL_law_21 : decode cL_law 21 = .ok (.ireturn, 1) := by decide +kernel
theorem dL_law_22 : decode cL_law 22 = .ok (.aload_n 2, 1) := by decide +kernel
theorem dL_law_23 : decode cL_law 23 = .ok (.getfield 59, 3) := by decide +kernel
theorem dL_law_26 : decode cL_law 26 = .ok (.arraylength, 1) := by decide +kernel
theorem dL_law_27 : decode cL_law 27 = .ok (.istore_n 3, 1) := by decide +kernel
theorem dL_law_28 : decode cL_law 28 = .ok (.aload_n 2, 1) := by decide +kernel
theorem dL_law_29 : decode cL_law 29 = .ok (.getfield 59, 3) := by decide +kernel
theorem dL_law_32 : decode cL_law 32 = .ok (.iconst 0, 1) := by decide +kernel
theorem dL_law_33 : decode cL_law 33 = .ok (.aaload, 1) := by decide +kernel
theorem dL_law_34 : decode cL_law 34 = .ok (.arraylength, 1) := by decide +kernel
theorem dL_law_35 : decode cL_law 35 = .ok (.istore 4, 2) := by decide +kernel
theorem dL_law_37 : decode cL_law 37 = .ok (.aload_n 2, 1) := by decide +kernel
theorem dL_law_38 : decode cL_law 38 = .ok (.getfield 59, 3) := by decide +kernel
theorem dL_law_41 : decode cL_law 41 = .ok (.iconst 0, 1) := by decide +kernel
theorem dL_law_42 : decode cL_law 42 = .ok (.aaload, 1) := by decide +kernel
theorem dL_law_43 : decode cL_law 43 = .ok (.iconst 0, 1) := by decide +kernel
theorem dL_law_44 : decode cL_law 44 = .ok (.aaload, 1) := by decide +kernel
theorem dL_law_45 : decode cL_law 45 = .ok (.arraylength, 1) := by decide +kernel
theorem dL_law_46 : decode cL_law 46 = .ok (.istore 5, 2) := by decide +kernel
theorem dL_law_48 : decode cL_law 48 = .ok (.iconst 0, 1) := by decide +kernel
theorem dL_law_49 : decode cL_law 49 = .ok (.istore 6, 2) := by decide +kernel
theorem dL_law_51 : decode cL_law 51 = .ok (.iconst 0, 1) := by decide +kernel
theorem dL_law_52 : decode cL_law 52 = .ok (.istore 7, 2) := by decide +kernel
theorem dL_law_54 : decode cL_law 54 = .ok (.iload 7, 2) := by decide +kernel
theorem dL_law_56 : decode cL_law 56 = .ok (.bipush 12, 2) := by decide +kernel
theorem dL_law_58 : decode cL_law 58 = .ok (.if_icmp .ge 1397, 3) := by decide +kernel
theorem dL_law_61 : decode cL_law 61 = .ok (.aload_n 0, 1) := by decide +kernel
theorem dL_law_62 : decode cL_law 62 = .ok (.iload 7, 2) := by decide +kernel
theorem dL_law_64 : decode cL_law 64 = .ok (.invokestatic 28, 3) := by decide +kernel
theorem dL_law_67 : decode cL_law 67 = .ok (.bipush 11, 2) := by decide +kernel
theorem dL_law_69 : decode cL_law 69 = .ok (.iload 7, 2) := by decide +kernel
theorem dL_law_71 : decode cL_law 71 = .ok (.imul, 1) := by decide +kernel
theorem dL_law_72 : decode cL_law 72 = .ok (.iadd, 1) := by decide +kernel
theorem dL_law_73 : decode cL_law 73 = .ok (.istore 8, 2) := by decide +kernel
theorem dL_law_75 : decode cL_law 75 = .ok (.aload_n 1, 1) := by decide +kernel
theorem dL_law_76 : decode cL_law 76 = .ok (.iconst 2, 1) := by decide +kernel
theorem dL_law_77 : decode cL_law 77 = .ok (.invokevirtual 101, 3) := by decide +kernel
theorem dL_law_80 : decode cL_law 80 = .ok (.istore 9, 2) := by decide +kernel
theorem dL_law_82 : decode cL_law 82 = .ok (.iload 8, 2) := by decide +kernel
theorem dL_law_84 : decode cL_law 84 = .ok (.iload 9, 2) := by decide +kernel
theorem dL_law_86 : decode cL_law 86 = .ok (.invokestatic 9, 3) := by decide +kernel
theorem dL_law_89 : decode cL_law 89 = .ok (.istore 10, 2) := by decide +kernel
theorem dL_law_91 : decode cL_law 91 = .ok (.iload 8, 2) := by decide +kernel
theorem dL_law_93 : decode cL_law 93 = .ok (.iconst 3, 1) := by decide +kernel
theorem dL_law_94 : decode cL_law 94 = .ok (.ishr, 1) := by decide +kernel
theorem dL_law_95 : decode cL_law 95 = .ok (.iload_n 3, 1) := by decide +kernel
theorem dL_law_96 : decode cL_law 96 = .ok (.iconst 1, 1) := by decide +kernel
theorem dL_law_97 : decode cL_law 97 = .ok (.isub, 1) := by decide +kernel
theorem dL_law_98 : decode cL_law 98 = .ok (.invokestatic 62, 3) := by decide +kernel
theorem dL_law_101 : decode cL_law 101 = .ok (.astore 11, 2) := by decide +kernel
theorem dL_law_103 : decode cL_law 103 = .ok (.aload_n 1, 1) := by decide +kernel
theorem dL_law_104 : decode cL_law 104 = .ok (.iload 10, 2) := by decide +kernel
theorem dL_law_106 : decode cL_law 106 = .ok (.iconst 0, 1) := by decide +kernel
theorem dL_law_107 : decode cL_law 107 = .ok (.invokevirtual 105, 3) := by decide +kernel
theorem dL_law_110 : decode cL_law 110 = .ok (.istore 12, 2) := by decide +kernel
theorem dL_law_112 : decode cL_law 112 = .ok (.aload_n 1, 1) := by decide +kernel
theorem dL_law_113 : decode cL_law 113 = .ok (.iload 10, 2) := by decide +kernel
theorem dL_law_115 : decode cL_law 115 = .ok (.iconst 1, 1) := by decide +kernel
theorem dL_law_116 : decode cL_law 116 = .ok (.invokevirtual 105, 3) := by decide +kernel
theorem dL_law_119 : decode cL_law 119 = .ok (.istore 13, 2) := by decide +kernel
theorem dL_law_121 : decode cL_law 121 = .ok (.aload_n 1, 1) := by decide +kernel
theorem dL_law_122 : decode cL_law 122 = .ok (.iconst 5, 1) := by decide +kernel
theorem dL_law_123 : decode cL_law 123 = .ok (.invokevirtual 101, 3) := by decide +kernel
theorem dL_law_126 : decode cL_law 126 = .ok (.istore 14, 2) := by decide +kernel
theorem dL_law_128 : decode cL_law 128 = .ok (.aload_n 1, 1) := by decide +kernel
theorem dL_law_129 : decode cL_law 129 = .ok (.bipush 7, 2) := by decide +kernel
theorem dL_law_131 : decode cL_law 131 = .ok (.invokevirtual 101, 3) := by decide +kernel
theorem dL_law_134 : decode cL_law 134 = .ok (.istore 15, 2) := by decide +kernel
theorem dL_law_136 : decode cL_law 136 = .ok (.aload_n 1, 1) := by decide +kernel
theorem dL_law_137 : decode cL_law 137 = .ok (.iconst 1, 1) := by decide +kernel
theorem dL_law_138 : decode cL_law 138 = .ok (.invokevirtual 101, 3) := by decide +kernel
theorem dL_law_141 : decode cL_law 141 = .ok (.istore 16, 2) := by decide +kernel
theorem dL_law_143 : decode cL_law 143 = .ok (.aload_n 1, 1) := by decide +kernel
theorem dL_law_144 : decode cL_law 144 = .ok (.iload 10, 2) := by decide +kernel
theorem dL_law_146 : decode cL_law 146 = .ok (.aload 11, 2) := by decide +kernel
theorem dL_law_148 : decode cL_law 148 = .ok (.iconst 0, 1) := by decide +kernel
theorem dL_law_149 : decode cL_law 149 = .ok (.iaload, 1) := by decide +kernel
theorem dL_law_150 : decode cL_law 150 = .ok (.aload 11, 2) := by decide +kernel
theorem dL_law_152 : decode cL_law 152 = .ok (.iconst 1, 1) := by decide +kernel
theorem dL_law_153 : decode cL_law 153 = .ok (.iaload, 1) := by decide +kernel
theorem dL_law_154 : decode cL_law 154 = .ok (.aload 11, 2) := by decide +kernel
theorem dL_law_156 : decode cL_law 156 = .ok (.iconst 2, 1) := by decide +kernel
theorem dL_law_157 : decode cL_law 157 = .ok (.iaload, 1) := by decide +kernel
theorem dL_law_158 : decode cL_law 158 = .ok (.aload 11, 2) := by decide +kernel
theorem dL_law_160 : decode cL_law 160 = .ok (.iconst 3, 1) := by decide +kernel
theorem dL_law_161 : decode cL_law 161 = .ok (.iaload, 1) := by decide +kernel
theorem dL_law_162 : decode cL_law 162 = .ok (.iconst 0, 1) := by decide +kernel
theorem dL_law_163 : decode cL_law 163 = .ok (.invokevirtual 108, 3) := by decide +kernel
theorem dL_law_166 : decode cL_law 166 = .ok (.istore 17, 2) := by decide +kernel
theorem dL_law_168 : decode cL_law 168 = .ok (.aload_n 1, 1) := by decide +kernel
theorem dL_law_169 : decode cL_law 169 = .ok (.iload 10, 2) := by decide +kernel
theorem dL_law_171 : decode cL_law 171 = .ok (.aload 11, 2) := by decide +kernel
theorem dL_law_173 : decode cL_law 173 = .ok (.iconst 0, 1) := by decide +kernel
theorem dL_law_174 : decode cL_law 174 = .ok (.iaload, 1) := by decide +kernel
theorem dL_law_175 : decode cL_law 175 = .ok (.aload 11, 2) := by decide +kernel
theorem dL_law_177 : decode cL_law 177 = .ok (.iconst 1, 1) := by decide +kernel
theorem dL_law_178 : decode cL_law 178 = .ok (.iaload, 1) := by decide +kernel
theorem dL_law_179 : decode cL_law 179 = .ok (.aload 11, 2) := by decide +kernel
theorem dL_law_181 : decode cL_law 181 = .ok (.iconst 2, 1) := by decide +kernel
theorem dL_law_182 : decode cL_law 182 = .ok (.iaload, 1) := by decide +kernel
theorem dL_law_183 : decode cL_law 183 = .ok (.aload 11, 2) := by decide +kernel
theorem dL_law_185 : decode cL_law 185 = .ok (.iconst 3, 1) := by decide +kernel
theorem dL_law_186 : decode cL_law 186 = .ok (.iaload, 1) := by decide +kernel
theorem dL_law_187 : decode cL_law 187 = .ok (.iconst 1, 1) := by decide +kernel
theorem dL_law_188 : decode cL_law 188 = .ok (.invokevirtual 108, 3) := by decide +kernel
theorem dL_law_191 : decode cL_law 191 = .ok (.istore 18, 2) := by decide +kernel
theorem dL_law_193 : decode cL_law 193 = .ok (.aload_n 1, 1) := by decide +kernel
theorem dL_law_194 : decode cL_law 194 = .ok (.iload 10, 2) := by decide +kernel
theorem dL_law_196 : decode cL_law 196 = .ok (.aload 11, 2) := by decide +kernel
theorem dL_law_198 : decode cL_law 198 = .ok (.iconst 0, 1) := by decide +kernel
theorem dL_law_199 : decode cL_law 199 = .ok (.iaload, 1) := by decide +kernel
theorem dL_law_200 : decode cL_law 200 = .ok (.aload 11, 2) := by decide +kernel
theorem dL_law_202 : decode cL_law 202 = .ok (.iconst 1, 1) := by decide +kernel
theorem dL_law_203 : decode cL_law 203 = .ok (.iaload, 1) := by decide +kernel
theorem dL_law_204 : decode cL_law 204 = .ok (.aload 11, 2) := by decide +kernel
theorem dL_law_206 : decode cL_law 206 = .ok (.iconst 2, 1) := by decide +kernel
theorem dL_law_207 : decode cL_law 207 = .ok (.iaload, 1) := by decide +kernel
theorem dL_law_208 : decode cL_law 208 = .ok (.aload 11, 2) := by decide +kernel
theorem dL_law_210 : decode cL_law 210 = .ok (.iconst 3, 1) := by decide +kernel
theorem dL_law_211 : decode cL_law 211 = .ok (.iaload, 1) := by decide +kernel
theorem dL_law_212 : decode cL_law 212 = .ok (.iconst 2, 1) := by decide +kernel
theorem dL_law_213 : decode cL_law 213 = .ok (.invokevirtual 108, 3) := by decide +kernel
theorem dL_law_216 : decode cL_law 216 = .ok (.istore 19, 2) := by decide +kernel
theorem dL_law_218 : decode cL_law 218 = .ok (.aload_n 1, 1) := by decide +kernel
theorem dL_law_219 : decode cL_law 219 = .ok (.iload 10, 2) := by decide +kernel
theorem dL_law_221 : decode cL_law 221 = .ok (.aload 11, 2) := by decide +kernel
theorem dL_law_223 : decode cL_law 223 = .ok (.iconst 0, 1) := by decide +kernel
theorem dL_law_224 : decode cL_law 224 = .ok (.iaload, 1) := by decide +kernel
theorem dL_law_225 : decode cL_law 225 = .ok (.aload 11, 2) := by decide +kernel
theorem dL_law_227 : decode cL_law 227 = .ok (.iconst 1, 1) := by decide +kernel
theorem dL_law_228 : decode cL_law 228 = .ok (.iaload, 1) := by decide +kernel
theorem dL_law_229 : decode cL_law 229 = .ok (.aload 11, 2) := by decide +kernel
theorem dL_law_231 : decode cL_law 231 = .ok (.iconst 2, 1) := by decide +kernel
theorem dL_law_232 : decode cL_law 232 = .ok (.iaload, 1) := by decide +kernel
theorem dL_law_233 : decode cL_law 233 = .ok (.aload 11, 2) := by decide +kernel
theorem dL_law_235 : decode cL_law 235 = .ok (.iconst 3, 1) := by decide +kernel
theorem dL_law_236 : decode cL_law 236 = .ok (.iaload, 1) := by decide +kernel
theorem dL_law_237 : decode cL_law 237 = .ok (.iconst 3, 1) := by decide +kernel
theorem dL_law_238 : decode cL_law 238 = .ok (.invokevirtual 108, 3) := by decide +kernel
theorem dL_law_241 : decode cL_law 241 = .ok (.istore 20, 2) := by decide +kernel
theorem dL_law_243 : decode cL_law 243 = .ok (.iload 17, 2) := by decide +kernel
theorem dL_law_245 : decode cL_law 245 = .ok (.ifCond .lt 10, 3) := by decide +kernel
theorem dL_law_248 : decode cL_law 248 = .ok (.iload 17, 2) := by decide +kernel
theorem dL_law_250 : decode cL_law 250 = .ok (.iload 12, 2) := by decide +kernel
theorem dL_law_252 : decode cL_law 252 = .ok (.if_icmp .le 5, 3) := by decide +kernel
theorem dL_law_255 : decode cL_law 255 = .ok (.iconst 0, 1) := by decide +kernel
theorem dL_law_256 : decode cL_law 256 = .ok (.ireturn, 1) := by decide +kernel
theorem dL_law_257 : decode cL_law 257 = .ok (.iload 12, 2) := by decide +kernel
theorem dL_law_259 : decode cL_law 259 = .ok (.ifCond .le 59, 3) := by decide +kernel
theorem dL_law_262 : decode cL_law 262 = .ok (.iload 17, 2) := by decide +kernel
theorem dL_law_264 : decode cL_law 264 = .ok (.iload 12, 2) := by decide +kernel
theorem dL_law_266 : decode cL_law 266 = .ok (.if_icmp .ge 52, 3) := by decide +kernel
theorem dL_law_269 : decode cL_law 269 = .ok (.aload_n 1, 1) := by decide +kernel
theorem dL_law_270 : decode cL_law 270 = .ok (.iload 10, 2) := by decide +kernel
theorem dL_law_272 : decode cL_law 272 = .ok (.aload 11, 2) := by decide +kernel
theorem dL_law_274 : decode cL_law 274 = .ok (.iconst 0, 1) := by decide +kernel
theorem dL_law_275 : decode cL_law 275 = .ok (.iaload, 1) := by decide +kernel
theorem dL_law_276 : decode cL_law 276 = .ok (.aload 11, 2) := by decide +kernel
theorem dL_law_278 : decode cL_law 278 = .ok (.iconst 1, 1) := by decide +kernel
theorem dL_law_279 : decode cL_law 279 = .ok (.iaload, 1) := by decide +kernel
theorem dL_law_280 : decode cL_law 280 = .ok (.aload 11, 2) := by decide +kernel
theorem dL_law_282 : decode cL_law 282 = .ok (.iconst 2, 1) := by decide +kernel
theorem dL_law_283 : decode cL_law 283 = .ok (.iaload, 1) := by decide +kernel
theorem dL_law_284 : decode cL_law 284 = .ok (.aload_n 1, 1) := by decide +kernel
theorem dL_law_285 : decode cL_law 285 = .ok (.iload 10, 2) := by decide +kernel
theorem dL_law_287 : decode cL_law 287 = .ok (.aload 11, 2) := by decide +kernel
theorem dL_law_289 : decode cL_law 289 = .ok (.iconst 0, 1) := by decide +kernel
theorem dL_law_290 : decode cL_law 290 = .ok (.iaload, 1) := by decide +kernel
theorem dL_law_291 : decode cL_law 291 = .ok (.aload 11, 2) := by decide +kernel
theorem dL_law_293 : decode cL_law 293 = .ok (.iconst 1, 1) := by decide +kernel
theorem dL_law_294 : decode cL_law 294 = .ok (.iaload, 1) := by decide +kernel
theorem dL_law_295 : decode cL_law 295 = .ok (.aload 11, 2) := by decide +kernel
theorem dL_law_297 : decode cL_law 297 = .ok (.iconst 2, 1) := by decide +kernel
theorem dL_law_298 : decode cL_law 298 = .ok (.iaload, 1) := by decide +kernel
theorem dL_law_299 : decode cL_law 299 = .ok (.invokevirtual 112, 3) := by decide +kernel
theorem dL_law_302 : decode cL_law 302 = .ok (.iconst 1, 1) := by decide +kernel
theorem dL_law_303 : decode cL_law 303 = .ok (.invokevirtual 108, 3) := by decide +kernel
theorem dL_law_306 : decode cL_law 306 = .ok (.iload 18, 2) := by decide +kernel
theorem dL_law_308 : decode cL_law 308 = .ok (.if_icmp .ge 10, 3) := by decide +kernel
theorem dL_law_311 : decode cL_law 311 = .ok (.iload 17, 2) := by decide +kernel
theorem dL_law_313 : decode cL_law 313 = .ok (.ifCond .le 5, 3) := by decide +kernel
theorem dL_law_316 : decode cL_law 316 = .ok (.iconst 0, 1) := by decide +kernel
theorem dL_law_317 : decode cL_law 317 = .ok (.ireturn, 1) := by decide +kernel
theorem dL_law_318 : decode cL_law 318 = .ok (.iload 8, 2) := by decide +kernel
theorem dL_law_320 : decode cL_law 320 = .ok (.bipush 6, 2) := by decide +kernel
theorem dL_law_322 : decode cL_law 322 = .ok (.ishr, 1) := by decide +kernel
theorem dL_law_323 : decode cL_law 323 = .ok (.iconst 4, 1) := by decide +kernel
theorem dL_law_324 : decode cL_law 324 = .ok (.invokestatic 9, 3) := by decide +kernel
theorem dL_law_327 : decode cL_law 327 = .ok (.ifCond .ne 131, 3) := by decide +kernel
theorem dL_law_330 : decode cL_law 330 = .ok (.iload 17, 2) := by decide +kernel
theorem dL_law_332 : decode cL_law 332 = .ok (.ifCond .le 126, 3) := by decide +kernel
theorem dL_law_335 : decode cL_law 335 = .ok (.iload 17, 2) := by decide +kernel
theorem dL_law_337 : decode cL_law 337 = .ok (.iload 12, 2) := by decide +kernel
theorem dL_law_339 : decode cL_law 339 = .ok (.if_icmp .ge 119, 3) := by decide +kernel
theorem dL_law_342 : decode cL_law 342 = .ok (.iload 9, 2) := by decide +kernel
theorem dL_law_344 : decode cL_law 344 = .ok (.bipush 8, 2) := by decide +kernel
theorem dL_law_346 : decode cL_law 346 = .ok (.if_icmp .ge 112, 3) := by decide +kernel
theorem dL_law_349 : decode cL_law 349 = .ok (.aload_n 1, 1) := by decide +kernel
theorem dL_law_350 : decode cL_law 350 = .ok (.iload 10, 2) := by decide +kernel
theorem dL_law_352 : decode cL_law 352 = .ok (.aload 11, 2) := by decide +kernel
theorem dL_law_354 : decode cL_law 354 = .ok (.iconst 0, 1) := by decide +kernel
theorem dL_law_355 : decode cL_law 355 = .ok (.iaload, 1) := by decide +kernel
theorem dL_law_356 : decode cL_law 356 = .ok (.aload 11, 2) := by decide +kernel
theorem dL_law_358 : decode cL_law 358 = .ok (.iconst 1, 1) := by decide +kernel
theorem dL_law_359 : decode cL_law 359 = .ok (.iaload, 1) := by decide +kernel
theorem dL_law_360 : decode cL_law 360 = .ok (.aload 11, 2) := by decide +kernel
theorem dL_law_362 : decode cL_law 362 = .ok (.iconst 2, 1) := by decide +kernel
theorem dL_law_363 : decode cL_law 363 = .ok (.iaload, 1) := by decide +kernel
theorem dL_law_364 : decode cL_law 364 = .ok (.aload 11, 2) := by decide +kernel
theorem dL_law_366 : decode cL_law 366 = .ok (.iconst 3, 1) := by decide +kernel
theorem dL_law_367 : decode cL_law 367 = .ok (.iaload, 1) := by decide +kernel
theorem dL_law_368 : decode cL_law 368 = .ok (.invokevirtual 74, 3) := by decide +kernel
theorem dL_law_371 : decode cL_law 371 = .ok (.iload 9, 2) := by decide +kernel
theorem dL_law_373 : decode cL_law 373 = .ok (.if_icmp .ne 83, 3) := by decide +kernel
theorem dL_law_376 : decode cL_law 376 = .ok (.aload_n 1, 1) := by decide +kernel
theorem dL_law_377 : decode cL_law 377 = .ok (.iload 9, 2) := by decide +kernel
theorem dL_law_379 : decode cL_law 379 = .ok (.iconst 0, 1) := by decide +kernel
theorem dL_law_380 : decode cL_law 380 = .ok (.invokevirtual 105, 3) := by decide +kernel
theorem dL_law_383 : decode cL_law 383 = .ok (.iload 17, 2) := by decide +kernel
theorem dL_law_385 : decode cL_law 385 = .ok (.if_icmp .ne 71, 3) := by decide +kernel
theorem dL_law_388 : decode cL_law 388 = .ok (.aload_n 1, 1) := by decide +kernel
theorem dL_law_389 : decode cL_law 389 = .ok (.iload 10, 2) := by decide +kernel
theorem dL_law_391 : decode cL_law 391 = .ok (.iconst 0, 1) := by decide +kernel
theorem dL_law_392 : decode cL_law 392 = .ok (.invokevirtual 105, 3) := by decide +kernel
theorem dL_law_395 : decode cL_law 395 = .ok (.iload 12, 2) := by decide +kernel
theorem dL_law_397 : decode cL_law 397 = .ok (.iload 17, 2) := by decide +kernel
theorem dL_law_399 : decode cL_law 399 = .ok (.isub, 1) := by decide +kernel
theorem dL_law_400 : decode cL_law 400 = .ok (.if_icmp .ne 56, 3) := by decide +kernel
theorem dL_law_403 : decode cL_law 403 = .ok (.aload_n 1, 1) := by decide +kernel
theorem dL_law_404 : decode cL_law 404 = .ok (.iconst 5, 1) := by decide +kernel
theorem dL_law_405 : decode cL_law 405 = .ok (.invokevirtual 101, 3) := by decide +kernel
theorem dL_law_408 : decode cL_law 408 = .ok (.iload 14, 2) := by decide +kernel
theorem dL_law_410 : decode cL_law 410 = .ok (.if_icmp .ne 46, 3) := by decide +kernel
theorem dL_law_413 : decode cL_law 413 = .ok (.aload_n 1, 1) := by decide +kernel
theorem dL_law_414 : decode cL_law 414 = .ok (.bipush 7, 2) := by decide +kernel
theorem dL_law_416 : decode cL_law 416 = .ok (.invokevirtual 101, 3) := by decide +kernel
theorem dL_law_419 : decode cL_law 419 = .ok (.iload 15, 2) := by decide +kernel
theorem dL_law_421 : decode cL_law 421 = .ok (.if_icmp .ne 35, 3) := by decide +kernel
theorem dL_law_424 : decode cL_law 424 = .ok (.aload_n 1, 1) := by decide +kernel
theorem dL_law_425 : decode cL_law 425 = .ok (.iload 9, 2) := by decide +kernel
theorem dL_law_427 : decode cL_law 427 = .ok (.iconst 1, 1) := by decide +kernel
theorem dL_law_428 : decode cL_law 428 = .ok (.invokevirtual 105, 3) := by decide +kernel
theorem dL_law_431 : decode cL_law 431 = .ok (.ifCond .ne 25, 3) := by decide +kernel
theorem dL_law_434 : decode cL_law 434 = .ok (.aload_n 1, 1) := by decide +kernel
theorem dL_law_435 : decode cL_law 435 = .ok (.iload 10, 2) := by decide +kernel
theorem dL_law_437 : decode cL_law 437 = .ok (.iconst 1, 1) := by decide +kernel
theorem dL_law_438 : decode cL_law 438 = .ok (.invokevirtual 105, 3) := by decide +kernel
theorem dL_law_441 : decode cL_law 441 = .ok (.iload 13, 2) := by decide +kernel
theorem dL_law_443 : decode cL_law 443 = .ok (.if_icmp .ne 13, 3) := by decide +kernel
theorem dL_law_446 : decode cL_law 446 = .ok (.aload_n 1, 1) := by decide +kernel
theorem dL_law_447 : decode cL_law 447 = .ok (.iconst 1, 1) := by decide +kernel
theorem dL_law_448 : decode cL_law 448 = .ok (.invokevirtual 101, 3) := by decide +kernel
theorem dL_law_451 : decode cL_law 451 = .ok (.iload 16, 2) := by decide +kernel
theorem dL_law_453 : decode cL_law 453 = .ok (.if_icmp .eq 244, 3) := by decide +kernel
theorem dL_law_456 : decode cL_law 456 = .ok (.iconst 0, 1) := by decide +kernel
theorem dL_law_457 : decode cL_law 457 = .ok (.ireturn, 1) := by decide +kernel
theorem dL_law_458 : decode cL_law 458 = .ok (.iload 13, 2) := by decide +kernel
theorem dL_law_460 : decode cL_law 460 = .ok (.bipush 16, 2) := by decide +kernel
theorem dL_law_462 : decode cL_law 462 = .ok (.if_icmp .ge 191, 3) := by decide +kernel
theorem dL_law_465 : decode cL_law 465 = .ok (.iconst 3, 1) := by decide +kernel
theorem dL_law_466 : decode cL_law 466 = .ok (.iload 17, 2) := by decide +kernel
theorem dL_law_468 : decode cL_law 468 = .ok (.imul, 1) := by decide +kernel
theorem dL_law_469 : decode cL_law 469 = .ok (.iload 14, 2) := by decide +kernel
theorem dL_law_471 : decode cL_law 471 = .ok (.if_icmp .gt 182, 3) := by decide +kernel
theorem dL_law_474 : decode cL_law 474 = .ok (.aload_n 1, 1) := by decide +kernel
theorem dL_law_475 : decode cL_law 475 = .ok (.iload 10, 2) := by decide +kernel
theorem dL_law_477 : decode cL_law 477 = .ok (.aload 11, 2) := by decide +kernel
theorem dL_law_479 : decode cL_law 479 = .ok (.iconst 0, 1) := by decide +kernel
theorem dL_law_480 : decode cL_law 480 = .ok (.iaload, 1) := by decide +kernel
theorem dL_law_481 : decode cL_law 481 = .ok (.aload 11, 2) := by decide +kernel
theorem dL_law_483 : decode cL_law 483 = .ok (.iconst 1, 1) := by decide +kernel
theorem dL_law_484 : decode cL_law 484 = .ok (.iaload, 1) := by decide +kernel
theorem dL_law_485 : decode cL_law 485 = .ok (.aload 11, 2) := by decide +kernel
theorem dL_law_487 : decode cL_law 487 = .ok (.iconst 2, 1) := by decide +kernel
theorem dL_law_488 : decode cL_law 488 = .ok (.iaload, 1) := by decide +kernel
theorem dL_law_489 : decode cL_law 489 = .ok (.aload 11, 2) := by decide +kernel
theorem dL_law_491 : decode cL_law 491 = .ok (.iconst 3, 1) := by decide +kernel
theorem dL_law_492 : decode cL_law 492 = .ok (.iaload, 1) := by decide +kernel
theorem dL_law_493 : decode cL_law 493 = .ok (.invokevirtual 90, 3) := by decide +kernel
theorem dL_law_496 : decode cL_law 496 = .ok (.iload 17, 2) := by decide +kernel
theorem dL_law_498 : decode cL_law 498 = .ok (.if_icmp .ne 113, 3) := by decide +kernel
theorem dL_law_501 : decode cL_law 501 = .ok (.aload_n 1, 1) := by decide +kernel
theorem dL_law_502 : decode cL_law 502 = .ok (.iload 10, 2) := by decide +kernel
theorem dL_law_504 : decode cL_law 504 = .ok (.iconst 0, 1) := by decide +kernel
theorem dL_law_505 : decode cL_law 505 = .ok (.invokevirtual 105, 3) := by decide +kernel
theorem dL_law_508 : decode cL_law 508 = .ok (.iload 12, 2) := by decide +kernel
theorem dL_law_510 : decode cL_law 510 = .ok (.iload 17, 2) := by decide +kernel
theorem dL_law_512 : decode cL_law 512 = .ok (.isub, 1) := by decide +kernel
theorem dL_law_513 : decode cL_law 513 = .ok (.if_icmp .ne 98, 3) := by decide +kernel
theorem dL_law_516 : decode cL_law 516 = .ok (.aload_n 1, 1) := by decide +kernel
theorem dL_law_517 : decode cL_law 517 = .ok (.iconst 5, 1) := by decide +kernel
theorem dL_law_518 : decode cL_law 518 = .ok (.invokevirtual 101, 3) := by decide +kernel
theorem dL_law_521 : decode cL_law 521 = .ok (.iload 14, 2) := by decide +kernel
theorem dL_law_523 : decode cL_law 523 = .ok (.iconst 3, 1) := by decide +kernel
theorem dL_law_524 : decode cL_law 524 = .ok (.iload 17, 2) := by decide +kernel
theorem dL_law_526 : decode cL_law 526 = .ok (.imul, 1) := by decide +kernel
theorem dL_law_527 : decode cL_law 527 = .ok (.isub, 1) := by decide +kernel
theorem dL_law_528 : decode cL_law 528 = .ok (.if_icmp .ne 83, 3) := by decide +kernel
theorem dL_law_531 : decode cL_law 531 = .ok (.aload_n 1, 1) := by decide +kernel
theorem dL_law_532 : decode cL_law 532 = .ok (.bipush 7, 2) := by decide +kernel
theorem dL_law_534 : decode cL_law 534 = .ok (.invokevirtual 101, 3) := by decide +kernel
theorem dL_law_537 : decode cL_law 537 = .ok (.iload 15, 2) := by decide +kernel
theorem dL_law_539 : decode cL_law 539 = .ok (.iconst 3, 1) := by decide +kernel
theorem dL_law_540 : decode cL_law 540 = .ok (.iload 17, 2) := by decide +kernel
theorem dL_law_542 : decode cL_law 542 = .ok (.imul, 1) := by decide +kernel
theorem dL_law_543 : decode cL_law 543 = .ok (.iadd, 1) := by decide +kernel
theorem dL_law_544 : decode cL_law 544 = .ok (.if_icmp .ne 67, 3) := by decide +kernel
theorem dL_law_547 : decode cL_law 547 = .ok (.aload_n 1, 1) := by decide +kernel
theorem dL_law_548 : decode cL_law 548 = .ok (.iload 10, 2) := by decide +kernel
theorem dL_law_550 : decode cL_law 550 = .ok (.bipush 7, 2) := by decide +kernel
theorem dL_law_552 : decode cL_law 552 = .ok (.invokevirtual 105, 3) := by decide +kernel
theorem dL_law_555 : decode cL_law 555 = .ok (.iload 18, 2) := by decide +kernel
theorem dL_law_557 : decode cL_law 557 = .ok (.if_icmp .ne 54, 3) := by decide +kernel
theorem dL_law_560 : decode cL_law 560 = .ok (.aload_n 1, 1) := by decide +kernel
theorem dL_law_561 : decode cL_law 561 = .ok (.iload 10, 2) := by decide +kernel
theorem dL_law_563 : decode cL_law 563 = .ok (.iconst 5, 1) := by decide +kernel
theorem dL_law_564 : decode cL_law 564 = .ok (.invokevirtual 105, 3) := by decide +kernel
theorem dL_law_567 : decode cL_law 567 = .ok (.iload 19, 2) := by decide +kernel
theorem dL_law_569 : decode cL_law 569 = .ok (.if_icmp .ne 42, 3) := by decide +kernel
theorem dL_law_572 : decode cL_law 572 = .ok (.aload_n 1, 1) := by decide +kernel
theorem dL_law_573 : decode cL_law 573 = .ok (.iload 10, 2) := by decide +kernel
theorem dL_law_575 : decode cL_law 575 = .ok (.iconst 4, 1) := by decide +kernel
theorem dL_law_576 : decode cL_law 576 = .ok (.invokevirtual 105, 3) := by decide +kernel
theorem dL_law_579 : decode cL_law 579 = .ok (.iload 20, 2) := by decide +kernel
theorem dL_law_581 : decode cL_law 581 = .ok (.if_icmp .ne 30, 3) := by decide +kernel
theorem dL_law_584 : decode cL_law 584 = .ok (.aload_n 1, 1) := by decide +kernel
theorem dL_law_585 : decode cL_law 585 = .ok (.iload 10, 2) := by decide +kernel
theorem dL_law_587 : decode cL_law 587 = .ok (.iconst 1, 1) := by decide +kernel
theorem dL_law_588 : decode cL_law 588 = .ok (.invokevirtual 105, 3) := by decide +kernel
theorem dL_law_591 : decode cL_law 591 = .ok (.iload 13, 2) := by decide +kernel
theorem dL_law_593 : decode cL_law 593 = .ok (.iconst 1, 1) := by decide +kernel
theorem dL_law_594 : decode cL_law 594 = .ok (.iadd, 1) := by decide +kernel
theorem dL_law_595 : decode cL_law 595 = .ok (.if_icmp .ne 16, 3) := by decide +kernel
theorem dL_law_598 : decode cL_law 598 = .ok (.aload_n 1, 1) := by decide +kernel
theorem dL_law_599 : decode cL_law 599 = .ok (.iconst 1, 1) := by decide +kernel
theorem dL_law_600 : decode cL_law 600 = .ok (.invokevirtual 101, 3) := by decide +kernel
theorem dL_law_603 : decode cL_law 603 = .ok (.iload 16, 2) := by decide +kernel
theorem dL_law_605 : decode cL_law 605 = .ok (.iload 17, 2) := by decide +kernel
theorem dL_law_607 : decode cL_law 607 = .ok (.isub, 1) := by decide +kernel
theorem dL_law_608 : decode cL_law 608 = .ok (.if_icmp .eq 5, 3) := by decide +kernel
theorem dL_law_611 : decode cL_law 611 = .ok (.iconst 0, 1) := by decide +kernel
theorem dL_law_612 : decode cL_law 612 = .ok (.ireturn, 1) := by decide +kernel
theorem dL_law_613 : decode cL_law 613 = .ok (.aload_n 1, 1) := by decide +kernel
theorem dL_law_614 : decode cL_law 614 = .ok (.iload 10, 2) := by decide +kernel
theorem dL_law_616 : decode cL_law 616 = .ok (.aload 11, 2) := by decide +kernel
theorem dL_law_618 : decode cL_law 618 = .ok (.iconst 0, 1) := by decide +kernel
theorem dL_law_619 : decode cL_law 619 = .ok (.iaload, 1) := by decide +kernel
theorem dL_law_620 : decode cL_law 620 = .ok (.aload 11, 2) := by decide +kernel
theorem dL_law_622 : decode cL_law 622 = .ok (.iconst 1, 1) := by decide +kernel
theorem dL_law_623 : decode cL_law 623 = .ok (.iaload, 1) := by decide +kernel
theorem dL_law_624 : decode cL_law 624 = .ok (.aload 11, 2) := by decide +kernel
theorem dL_law_626 : decode cL_law 626 = .ok (.iconst 2, 1) := by decide +kernel
theorem dL_law_627 : decode cL_law 627 = .ok (.iaload, 1) := by decide +kernel
theorem dL_law_628 : decode cL_law 628 = .ok (.aload 11, 2) := by decide +kernel
theorem dL_law_630 : decode cL_law 630 = .ok (.iconst 3, 1) := by decide +kernel
theorem dL_law_631 : decode cL_law 631 = .ok (.iaload, 1) := by decide +kernel
theorem dL_law_632 : decode cL_law 632 = .ok (.iconst 0, 1) := by decide +kernel
theorem dL_law_633 : decode cL_law 633 = .ok (.invokevirtual 108, 3) := by decide +kernel
theorem dL_law_636 : decode cL_law 636 = .ok (.ifCond .ne 15, 3) := by decide +kernel
theorem dL_law_639 : decode cL_law 639 = .ok (.aload_n 1, 1) := by decide +kernel
theorem dL_law_640 : decode cL_law 640 = .ok (.iload 10, 2) := by decide +kernel
theorem dL_law_642 : decode cL_law 642 = .ok (.iload 13, 2) := by decide +kernel
theorem dL_law_644 : decode cL_law 644 = .ok (.iconst 5, 1) := by decide +kernel
theorem dL_law_645 : decode cL_law 645 = .ok (.invokevirtual 116, 3) := by decide +kernel
theorem dL_law_648 : decode cL_law 648 = .ok (.ifCond .eq 49, 3) := by decide +kernel
theorem dL_law_651 : decode cL_law 651 = .ok (.iconst 0, 1) := by decide +kernel
theorem dL_law_652 : decode cL_law 652 = .ok (.ireturn, 1) := by decide +kernel
theorem dL_law_653 : decode cL_law 653 = .ok (.aload_n 1, 1) := by decide +kernel
theorem dL_law_654 : decode cL_law 654 = .ok (.invokevirtual 86, 3) := by decide +kernel
theorem dL_law_657 : decode cL_law 657 = .ok (.iload 14, 2) := by decide +kernel
theorem dL_law_659 : decode cL_law 659 = .ok (.if_icmp .ne 25, 3) := by decide +kernel
theorem dL_law_662 : decode cL_law 662 = .ok (.aload_n 1, 1) := by decide +kernel
theorem dL_law_663 : decode cL_law 663 = .ok (.iconst 5, 1) := by decide +kernel
theorem dL_law_664 : decode cL_law 664 = .ok (.invokevirtual 101, 3) := by decide +kernel
theorem dL_law_667 : decode cL_law 667 = .ok (.sipush 400, 3) := by decide +kernel
theorem dL_law_670 : decode cL_law 670 = .ok (.if_icmp .ne 14, 3) := by decide +kernel
theorem dL_law_673 : decode cL_law 673 = .ok (.aload_n 1, 1) := by decide +kernel
theorem dL_law_674 : decode cL_law 674 = .ok (.bipush 7, 2) := by decide +kernel
theorem dL_law_676 : decode cL_law 676 = .ok (.invokevirtual 101, 3) := by decide +kernel
theorem dL_law_679 : decode cL_law 679 = .ok (.iload 15, 2) := by decide +kernel
theorem dL_law_681 : decode cL_law 681 = .ok (.if_icmp .eq 5, 3) := by decide +kernel
theorem dL_law_684 : decode cL_law 684 = .ok (.iconst 0, 1) := by decide +kernel
theorem dL_law_685 : decode cL_law 685 = .ok (.ireturn, 1) := by decide +kernel
theorem dL_law_686 : decode cL_law 686 = .ok (.iload 6, 2) := by decide +kernel
theorem dL_law_688 : decode cL_law 688 = .ok (.sipush 400, 3) := by decide +kernel
theorem dL_law_691 : decode cL_law 691 = .ok (.iload 14, 2) := by decide +kernel
theorem dL_law_693 : decode cL_law 693 = .ok (.isub, 1) := by decide +kernel
theorem dL_law_694 : decode cL_law 694 = .ok (.iadd, 1) := by decide +kernel
theorem dL_law_695 : decode cL_law 695 = .ok (.istore 6, 2) := by decide +kernel
theorem dL_law_697 : decode cL_law 697 = .ok (.iconst 0, 1) := by decide +kernel
theorem dL_law_698 : decode cL_law 698 = .ok (.istore 21, 2) := by decide +kernel
theorem dL_law_700 : decode cL_law 700 = .ok (.iload 21, 2) := by decide +kernel
theorem dL_law_702 : decode cL_law 702 = .ok (.aload_n 1, 1) := by decide +kernel
theorem dL_law_703 : decode cL_law 703 = .ok (.iload 10, 2) := by decide +kernel
theorem dL_law_705 : decode cL_law 705 = .ok (.iconst 1, 1) := by decide +kernel
theorem dL_law_706 : decode cL_law 706 = .ok (.invokevirtual 105, 3) := by decide +kernel
theorem dL_law_709 : decode cL_law 709 = .ok (.if_icmp .ge 138, 3) := by decide +kernel
theorem dL_law_712 : decode cL_law 712 = .ok (.aload_n 1, 1) := by decide +kernel
theorem dL_law_713 : decode cL_law 713 = .ok (.iload 10, 2) := by decide +kernel
theorem dL_law_715 : decode cL_law 715 = .ok (.iload 21, 2) := by decide +kernel
theorem dL_law_717 : decode cL_law 717 = .ok (.iconst 4, 1) := by decide +kernel
theorem dL_law_718 : decode cL_law 718 = .ok (.invokevirtual 116, 3) := by decide +kernel
theorem dL_law_721 : decode cL_law 721 = .ok (.istore 22, 2) := by decide +kernel
theorem dL_law_723 : decode cL_law 723 = .ok (.aload_n 1, 1) := by decide +kernel
theorem dL_law_724 : decode cL_law 724 = .ok (.iconst 5, 1) := by decide +kernel
theorem dL_law_725 : decode cL_law 725 = .ok (.invokevirtual 101, 3) := by decide +kernel
theorem dL_law_728 : decode cL_law 728 = .ok (.istore 23, 2) := by decide +kernel
theorem dL_law_730 : decode cL_law 730 = .ok (.iload 22, 2) := by decide +kernel
theorem dL_law_732 : decode cL_law 732 = .ok (.ifCond .eq 109, 3) := by decide +kernel
theorem dL_law_735 : decode cL_law 735 = .ok (.aload_n 1, 1) := by decide +kernel
theorem dL_law_736 : decode cL_law 736 = .ok (.iload 10, 2) := by decide +kernel
theorem dL_law_738 : decode cL_law 738 = .ok (.iload 21, 2) := by decide +kernel
theorem dL_law_740 : decode cL_law 740 = .ok (.iconst 5, 1) := by decide +kernel
theorem dL_law_741 : decode cL_law 741 = .ok (.invokevirtual 116, 3) := by decide +kernel
theorem dL_law_744 : decode cL_law 744 = .ok (.iconst 1, 1) := by decide +kernel
theorem dL_law_745 : decode cL_law 745 = .ok (.if_icmp .eq 96, 3) := by decide +kernel
theorem dL_law_748 : decode cL_law 748 = .ok (.iload 22, 2) := by decide +kernel
theorem dL_law_750 : decode cL_law 750 = .ok (.iconst 5, 1) := by decide +kernel
theorem dL_law_751 : decode cL_law 751 = .ok (.iadd, 1) := by decide +kernel
theorem dL_law_752 : decode cL_law 752 = .ok (.iload 23, 2) := by decide +kernel
theorem dL_law_754 : decode cL_law 754 = .ok (.if_icmp .le 6, 3) := by decide +kernel
theorem dL_law_757 : decode cL_law 757 = .ok (.goto 84, 3) := by decide +kernel
theorem dL_law_760 : decode cL_law 760 = .ok (.aload_n 1, 1) := by decide +kernel
theorem dL_law_761 : decode cL_law 761 = .ok (.iload 10, 2) := by decide +kernel
theorem dL_law_763 : decode cL_law 763 = .ok (.bipush 7, 2) := by decide +kernel
theorem dL_law_765 : decode cL_law 765 = .ok (.invokevirtual 105, 3) := by decide +kernel
theorem dL_law_768 : decode cL_law 768 = .ok (.istore 24, 2) := by decide +kernel
theorem dL_law_770 : decode cL_law 770 = .ok (.aload_n 1, 1) := by decide +kernel
theorem dL_law_771 : decode cL_law 771 = .ok (.iload 10, 2) := by decide +kernel
theorem dL_law_773 : decode cL_law 773 = .ok (.iconst 3, 1) := by decide +kernel
theorem dL_law_774 : decode cL_law 774 = .ok (.invokevirtual 105, 3) := by decide +kernel
theorem dL_law_777 : decode cL_law 777 = .ok (.istore 25, 2) := by decide +kernel
theorem dL_law_779 : decode cL_law 779 = .ok (.aload_n 1, 1) := by decide +kernel
theorem dL_law_780 : decode cL_law 780 = .ok (.iload 10, 2) := by decide +kernel
theorem dL_law_782 : decode cL_law 782 = .ok (.iload 21, 2) := by decide +kernel
theorem dL_law_784 : decode cL_law 784 = .ok (.invokevirtual 83, 3) := by decide +kernel
theorem dL_law_787 : decode cL_law 787 = .ok (.iload 22, 2) := by decide +kernel
theorem dL_law_789 : decode cL_law 789 = .ok (.iconst 5, 1) := by decide +kernel
theorem dL_law_790 : decode cL_law 790 = .ok (.iadd, 1) := by decide +kernel
theorem dL_law_791 : decode cL_law 791 = .ok (.if_icmp .ne 48, 3) := by decide +kernel
theorem dL_law_794 : decode cL_law 794 = .ok (.aload_n 1, 1) := by decide +kernel
theorem dL_law_795 : decode cL_law 795 = .ok (.iconst 5, 1) := by decide +kernel
theorem dL_law_796 : decode cL_law 796 = .ok (.invokevirtual 101, 3) := by decide +kernel
theorem dL_law_799 : decode cL_law 799 = .ok (.iload 23, 2) := by decide +kernel
theorem dL_law_801 : decode cL_law 801 = .ok (.iload 22, 2) := by decide +kernel
theorem dL_law_803 : decode cL_law 803 = .ok (.isub, 1) := by decide +kernel
theorem dL_law_804 : decode cL_law 804 = .ok (.iconst 5, 1) := by decide +kernel
theorem dL_law_805 : decode cL_law 805 = .ok (.isub, 1) := by decide +kernel
theorem dL_law_806 : decode cL_law 806 = .ok (.if_icmp .ne 33, 3) := by decide +kernel
theorem dL_law_809 : decode cL_law 809 = .ok (.aload_n 1, 1) := by decide +kernel
theorem dL_law_810 : decode cL_law 810 = .ok (.iload 10, 2) := by decide +kernel
theorem dL_law_812 : decode cL_law 812 = .ok (.bipush 7, 2) := by decide +kernel
theorem dL_law_814 : decode cL_law 814 = .ok (.invokevirtual 105, 3) := by decide +kernel
theorem dL_law_817 : decode cL_law 817 = .ok (.iload 24, 2) := by decide +kernel
theorem dL_law_819 : decode cL_law 819 = .ok (.bipush 25, 2) := by decide +kernel
theorem dL_law_821 : decode cL_law 821 = .ok (.iadd, 1) := by decide +kernel
theorem dL_law_822 : decode cL_law 822 = .ok (.if_icmp .ne 17, 3) := by decide +kernel
theorem dL_law_825 : decode cL_law 825 = .ok (.aload_n 1, 1) := by decide +kernel
theorem dL_law_826 : decode cL_law 826 = .ok (.iload 10, 2) := by decide +kernel
theorem dL_law_828 : decode cL_law 828 = .ok (.iconst 3, 1) := by decide +kernel
theorem dL_law_829 : decode cL_law 829 = .ok (.invokevirtual 105, 3) := by decide +kernel
theorem dL_law_832 : decode cL_law 832 = .ok (.iload 25, 2) := by decide +kernel
theorem dL_law_834 : decode cL_law 834 = .ok (.iconst 1, 1) := by decide +kernel
theorem dL_law_835 : decode cL_law 835 = .ok (.iadd, 1) := by decide +kernel
theorem dL_law_836 : decode cL_law 836 = .ok (.if_icmp .eq 11, 3) := by decide +kernel
theorem dL_law_839 : decode cL_law 839 = .ok (.iconst 0, 1) := by decide +kernel
theorem dL_law_840 : decode cL_law 840 = .ok (.ireturn, 1) := by decide +kernel
theorem dL_law_841 : decode cL_law 841 = .ok (.iinc 21 1, 3) := by decide +kernel
theorem dL_law_844 : decode cL_law 844 = .ok (.goto (-144), 3) := by decide +kernel
theorem dL_law_847 : decode cL_law 847 = .ok (.aload_n 1, 1) := by decide +kernel
theorem dL_law_848 : decode cL_law 848 = .ok (.iconst 5, 1) := by decide +kernel
theorem dL_law_849 : decode cL_law 849 = .ok (.invokevirtual 101, 3) := by decide +kernel
theorem dL_law_852 : decode cL_law 852 = .ok (.aload_n 1, 1) := by decide +kernel
theorem dL_law_853 : decode cL_law 853 = .ok (.bipush 7, 2) := by decide +kernel
theorem dL_law_855 : decode cL_law 855 = .ok (.invokevirtual 101, 3) := by decide +kernel
theorem dL_law_858 : decode cL_law 858 = .ok (.iadd, 1) := by decide +kernel
theorem dL_law_859 : decode cL_law 859 = .ok (.sipush 400, 3) := by decide +kernel
theorem dL_law_862 : decode cL_law 862 = .ok (.iload 6, 2) := by decide +kernel
theorem dL_law_864 : decode cL_law 864 = .ok (.iadd, 1) := by decide +kernel
theorem dL_law_865 : decode cL_law 865 = .ok (.if_icmp .eq 5, 3) := by decide +kernel
theorem dL_law_868 : decode cL_law 868 = .ok (.iconst 0, 1) := by decide +kernel
theorem dL_law_869 : decode cL_law 869 = .ok (.ireturn, 1) := by decide +kernel
theorem dL_law_870 : decode cL_law 870 = .ok (.bipush 8, 2) := by decide +kernel
theorem dL_law_872 : decode cL_law 872 = .ok (.newarray .int, 2) := by decide +kernel
theorem dL_law_874 : decode cL_law 874 = .ok (.astore 21, 2) := by decide +kernel
theorem dL_law_876 : decode cL_law 876 = .ok (.iconst 0, 1) := by decide +kernel
theorem dL_law_877 : decode cL_law 877 = .ok (.istore 22, 2) := by decide +kernel
theorem dL_law_879 : decode cL_law 879 = .ok (.iload 22, 2) := by decide +kernel
theorem dL_law_881 : decode cL_law 881 = .ok (.iload_n 3, 1) := by decide +kernel
theorem dL_law_882 : decode cL_law 882 = .ok (.if_icmp .ge 85, 3) := by decide +kernel
theorem dL_law_885 : decode cL_law 885 = .ok (.iconst 0, 1) := by decide +kernel
theorem dL_law_886 : decode cL_law 886 = .ok (.istore 23, 2) := by decide +kernel
theorem dL_law_888 : decode cL_law 888 = .ok (.iload 23, 2) := by decide +kernel
theorem dL_law_890 : decode cL_law 890 = .ok (.iload 4, 2) := by decide +kernel
theorem dL_law_892 : decode cL_law 892 = .ok (.if_icmp .ge 69, 3) := by decide +kernel
theorem dL_law_895 : decode cL_law 895 = .ok (.iconst 0, 1) := by decide +kernel
theorem dL_law_896 : decode cL_law 896 = .ok (.istore 24, 2) := by decide +kernel
theorem dL_law_898 : decode cL_law 898 = .ok (.iload 24, 2) := by decide +kernel
theorem dL_law_900 : decode cL_law 900 = .ok (.iload 5, 2) := by decide +kernel
theorem dL_law_902 : decode cL_law 902 = .ok (.if_icmp .ge 53, 3) := by decide +kernel
theorem dL_law_905 : decode cL_law 905 = .ok (.aload_n 1, 1) := by decide +kernel
theorem dL_law_906 : decode cL_law 906 = .ok (.iload 22, 2) := by decide +kernel
theorem dL_law_908 : decode cL_law 908 = .ok (.iload 23, 2) := by decide +kernel
theorem dL_law_910 : decode cL_law 910 = .ok (.iload 24, 2) := by decide +kernel
theorem dL_law_912 : decode cL_law 912 = .ok (.invokevirtual 118, 3) := by decide +kernel
theorem dL_law_915 : decode cL_law 915 = .ok (.istore 25, 2) := by decide +kernel
theorem dL_law_917 : decode cL_law 917 = .ok (.iload 25, 2) := by decide +kernel
theorem dL_law_919 : decode cL_law 919 = .ok (.iconst (-1), 1) := by decide +kernel
theorem dL_law_920 : decode cL_law 920 = .ok (.if_icmp .lt 13, 3) := by decide +kernel
theorem dL_law_923 : decode cL_law 923 = .ok (.iload 25, 2) := by decide +kernel
theorem dL_law_925 : decode cL_law 925 = .ok (.aload_n 1, 1) := by decide +kernel
theorem dL_law_926 : decode cL_law 926 = .ok (.iconst 2, 1) := by decide +kernel
theorem dL_law_927 : decode cL_law 927 = .ok (.invokevirtual 101, 3) := by decide +kernel
theorem dL_law_930 : decode cL_law 930 = .ok (.if_icmp .lt 5, 3) := by decide +kernel
theorem dL_law_933 : decode cL_law 933 = .ok (.iconst 0, 1) := by decide +kernel
theorem dL_law_934 : decode cL_law 934 = .ok (.ireturn, 1) := by decide +kernel
theorem dL_law_935 : decode cL_law 935 = .ok (.iload 25, 2) := by decide +kernel
theorem dL_law_937 : decode cL_law 937 = .ok (.ifCond .lt 12, 3) := by decide +kernel
theorem dL_law_940 : decode cL_law 940 = .ok (.aload 21, 2) := by decide +kernel
theorem dL_law_942 : decode cL_law 942 = .ok (.iload 25, 2) := by decide +kernel
theorem dL_law_944 : decode cL_law 944 = .ok (.dup2, 1) := by decide +kernel
theorem dL_law_945 : decode cL_law 945 = .ok (.iaload, 1) := by decide +kernel
theorem dL_law_946 : decode cL_law 946 = .ok (.iconst 1, 1) := by decide +kernel
theorem dL_law_947 : decode cL_law 947 = .ok (.iadd, 1) := by decide +kernel
theorem dL_law_948 : decode cL_law 948 = .ok (.iastore, 1) := by decide +kernel
theorem dL_law_949 : decode cL_law 949 = .ok (.iinc 24 1, 3) := by decide +kernel
theorem dL_law_952 : decode cL_law 952 = .ok (.goto (-54), 3) := by decide +kernel
theorem dL_law_955 : decode cL_law 955 = .ok (.iinc 23 1, 3) := by decide +kernel
theorem dL_law_958 : decode cL_law 958 = .ok (.goto (-70), 3) := by decide +kernel
theorem dL_law_961 : decode cL_law 961 = .ok (.iinc 22 1, 3) := by decide +kernel
theorem dL_law_964 : decode cL_law 964 = .ok (.goto (-85), 3) := by decide +kernel
theorem dL_law_967 : decode cL_law 967 = .ok (.iconst 0, 1) := by decide +kernel
theorem dL_law_968 : decode cL_law 968 = .ok (.istore 22, 2) := by decide +kernel
theorem dL_law_970 : decode cL_law 970 = .ok (.iconst 0, 1) := by decide +kernel
theorem dL_law_971 : decode cL_law 971 = .ok (.istore 23, 2) := by decide +kernel
theorem dL_law_973 : decode cL_law 973 = .ok (.iconst 0, 1) := by decide +kernel
theorem dL_law_974 : decode cL_law 974 = .ok (.istore 24, 2) := by decide +kernel
theorem dL_law_976 : decode cL_law 976 = .ok (.iload 24, 2) := by decide +kernel
theorem dL_law_978 : decode cL_law 978 = .ok (.aload_n 1, 1) := by decide +kernel
theorem dL_law_979 : decode cL_law 979 = .ok (.iconst 2, 1) := by decide +kernel
theorem dL_law_980 : decode cL_law 980 = .ok (.invokevirtual 101, 3) := by decide +kernel
theorem dL_law_983 : decode cL_law 983 = .ok (.if_icmp .ge 423, 3) := by decide +kernel
theorem dL_law_986 : decode cL_law 986 = .ok (.aload_n 1, 1) := by decide +kernel
theorem dL_law_987 : decode cL_law 987 = .ok (.iload 24, 2) := by decide +kernel
theorem dL_law_989 : decode cL_law 989 = .ok (.iconst 0, 1) := by decide +kernel
theorem dL_law_990 : decode cL_law 990 = .ok (.invokevirtual 105, 3) := by decide +kernel
theorem dL_law_993 : decode cL_law 993 = .ok (.istore 25, 2) := by decide +kernel
theorem dL_law_995 : decode cL_law 995 = .ok (.iload 22, 2) := by decide +kernel
theorem dL_law_997 : decode cL_law 997 = .ok (.iload 25, 2) := by decide +kernel
theorem dL_law_999 : decode cL_law 999 = .ok (.iadd, 1) := by decide +kernel
theorem dL_law_1000 : decode cL_law 1000 = .ok (.istore 22, 2) := by decide +kernel
theorem dL_law_1002 : decode cL_law 1002 = .ok (.iload 23, 2) := by decide +kernel
theorem dL_law_1004 : decode cL_law 1004 = .ok (.aload_n 1, 1) := by decide +kernel
theorem dL_law_1005 : decode cL_law 1005 = .ok (.iload 24, 2) := by decide +kernel
theorem dL_law_1007 : decode cL_law 1007 = .ok (.bipush 7, 2) := by decide +kernel
theorem dL_law_1009 : decode cL_law 1009 = .ok (.invokevirtual 105, 3) := by decide +kernel
theorem dL_law_1012 : decode cL_law 1012 = .ok (.iadd, 1) := by decide +kernel
theorem dL_law_1013 : decode cL_law 1013 = .ok (.istore 23, 2) := by decide +kernel
theorem dL_law_1015 : decode cL_law 1015 = .ok (.iload 25, 2) := by decide +kernel
theorem dL_law_1017 : decode cL_law 1017 = .ok (.aload 21, 2) := by decide +kernel
theorem dL_law_1019 : decode cL_law 1019 = .ok (.iload 24, 2) := by decide +kernel
theorem dL_law_1021 : decode cL_law 1021 = .ok (.iaload, 1) := by decide +kernel
theorem dL_law_1022 : decode cL_law 1022 = .ok (.if_icmp .ne 91, 3) := by decide +kernel
theorem dL_law_1025 : decode cL_law 1025 = .ok (.aload_n 1, 1) := by decide +kernel
theorem dL_law_1026 : decode cL_law 1026 = .ok (.iload 24, 2) := by decide +kernel
theorem dL_law_1028 : decode cL_law 1028 = .ok (.bipush 8, 2) := by decide +kernel
theorem dL_law_1030 : decode cL_law 1030 = .ok (.invokevirtual 105, 3) := by decide +kernel
theorem dL_law_1033 : decode cL_law 1033 = .ok (.iload 25, 2) := by decide +kernel
theorem dL_law_1035 : decode cL_law 1035 = .ok (.if_icmp .gt 78, 3) := by decide +kernel
theorem dL_law_1038 : decode cL_law 1038 = .ok (.iload 25, 2) := by decide +kernel
theorem dL_law_1040 : decode cL_law 1040 = .ok (.ifCond .le 15, 3) := by decide +kernel
theorem dL_law_1043 : decode cL_law 1043 = .ok (.aload_n 1, 1) := by decide +kernel
theorem dL_law_1044 : decode cL_law 1044 = .ok (.iload 24, 2) := by decide +kernel
theorem dL_law_1046 : decode cL_law 1046 = .ok (.bipush 8, 2) := by decide +kernel
theorem dL_law_1048 : decode cL_law 1048 = .ok (.invokevirtual 105, 3) := by decide +kernel
theorem dL_law_1051 : decode cL_law 1051 = .ok (.iconst 1, 1) := by decide +kernel
theorem dL_law_1052 : decode cL_law 1052 = .ok (.if_icmp .lt 61, 3) := by decide +kernel
theorem dL_law_1055 : decode cL_law 1055 = .ok (.aload_n 1, 1) := by decide +kernel
theorem dL_law_1056 : decode cL_law 1056 = .ok (.iload 24, 2) := by decide +kernel
theorem dL_law_1058 : decode cL_law 1058 = .ok (.iconst 3, 1) := by decide +kernel
theorem dL_law_1059 : decode cL_law 1059 = .ok (.invokevirtual 105, 3) := by decide +kernel
theorem dL_law_1062 : decode cL_law 1062 = .ok (.aload_n 1, 1) := by decide +kernel
theorem dL_law_1063 : decode cL_law 1063 = .ok (.iload 24, 2) := by decide +kernel
theorem dL_law_1065 : decode cL_law 1065 = .ok (.iconst 2, 1) := by decide +kernel
theorem dL_law_1066 : decode cL_law 1066 = .ok (.invokevirtual 105, 3) := by decide +kernel
theorem dL_law_1069 : decode cL_law 1069 = .ok (.if_icmp .gt 44, 3) := by decide +kernel
theorem dL_law_1072 : decode cL_law 1072 = .ok (.aload_n 1, 1) := by decide +kernel
theorem dL_law_1073 : decode cL_law 1073 = .ok (.iload 24, 2) := by decide +kernel
theorem dL_law_1075 : decode cL_law 1075 = .ok (.iconst 2, 1) := by decide +kernel
theorem dL_law_1076 : decode cL_law 1076 = .ok (.invokevirtual 105, 3) := by decide +kernel
theorem dL_law_1079 : decode cL_law 1079 = .ok (.aload_n 1, 1) := by decide +kernel
theorem dL_law_1080 : decode cL_law 1080 = .ok (.iload 24, 2) := by decide +kernel
theorem dL_law_1082 : decode cL_law 1082 = .ok (.iconst 1, 1) := by decide +kernel
theorem dL_law_1083 : decode cL_law 1083 = .ok (.invokevirtual 105, 3) := by decide +kernel
theorem dL_law_1086 : decode cL_law 1086 = .ok (.if_icmp .gt 27, 3) := by decide +kernel
theorem dL_law_1089 : decode cL_law 1089 = .ok (.aload_n 1, 1) := by decide +kernel
theorem dL_law_1090 : decode cL_law 1090 = .ok (.iload 24, 2) := by decide +kernel
theorem dL_law_1092 : decode cL_law 1092 = .ok (.iconst 5, 1) := by decide +kernel
theorem dL_law_1093 : decode cL_law 1093 = .ok (.invokevirtual 105, 3) := by decide +kernel
theorem dL_law_1096 : decode cL_law 1096 = .ok (.aload_n 1, 1) := by decide +kernel
theorem dL_law_1097 : decode cL_law 1097 = .ok (.iload 24, 2) := by decide +kernel
theorem dL_law_1099 : decode cL_law 1099 = .ok (.bipush 6, 2) := by decide +kernel
theorem dL_law_1101 : decode cL_law 1101 = .ok (.invokevirtual 105, 3) := by decide +kernel
theorem dL_law_1104 : decode cL_law 1104 = .ok (.iadd, 1) := by decide +kernel
theorem dL_law_1105 : decode cL_law 1105 = .ok (.aload_n 2, 1) := by decide +kernel
theorem dL_law_1106 : decode cL_law 1106 = .ok (.getfield 47, 3) := by decide +kernel
theorem dL_law_1109 : decode cL_law 1109 = .ok (.arraylength, 1) := by decide +kernel
theorem dL_law_1110 : decode cL_law 1110 = .ok (.if_icmp .le 5, 3) := by decide +kernel
theorem dL_law_1113 : decode cL_law 1113 = .ok (.iconst 0, 1) := by decide +kernel
theorem dL_law_1114 : decode cL_law 1114 = .ok (.ireturn, 1) := by decide +kernel
theorem dL_law_1115 : decode cL_law 1115 = .ok (.iconst 0, 1) := by decide +kernel
theorem dL_law_1116 : decode cL_law 1116 = .ok (.istore 26, 2) := by decide +kernel
theorem dL_law_1118 : decode cL_law 1118 = .ok (.iconst 0, 1) := by decide +kernel
theorem dL_law_1119 : decode cL_law 1119 = .ok (.istore 27, 2) := by decide +kernel
theorem dL_law_1121 : decode cL_law 1121 = .ok (.iload 27, 2) := by decide +kernel
theorem dL_law_1123 : decode cL_law 1123 = .ok (.aload_n 2, 1) := by decide +kernel
theorem dL_law_1124 : decode cL_law 1124 = .ok (.getfield 47, 3) := by decide +kernel
theorem dL_law_1127 : decode cL_law 1127 = .ok (.arraylength, 1) := by decide +kernel
theorem dL_law_1128 : decode cL_law 1128 = .ok (.if_icmp .ge 200, 3) := by decide +kernel
theorem dL_law_1131 : decode cL_law 1131 = .ok (.aload_n 1, 1) := by decide +kernel
theorem dL_law_1132 : decode cL_law 1132 = .ok (.iload 27, 2) := by decide +kernel
theorem dL_law_1134 : decode cL_law 1134 = .ok (.iload 24, 2) := by decide +kernel
theorem dL_law_1136 : decode cL_law 1136 = .ok (.iconst 0, 1) := by decide +kernel
theorem dL_law_1137 : decode cL_law 1137 = .ok (.invokevirtual 120, 3) := by decide +kernel
theorem dL_law_1140 : decode cL_law 1140 = .ok (.istore 28, 2) := by decide +kernel
theorem dL_law_1142 : decode cL_law 1142 = .ok (.aload_n 1, 1) := by decide +kernel
theorem dL_law_1143 : decode cL_law 1143 = .ok (.iload 27, 2) := by decide +kernel
theorem dL_law_1145 : decode cL_law 1145 = .ok (.iload 24, 2) := by decide +kernel
theorem dL_law_1147 : decode cL_law 1147 = .ok (.iconst 1, 1) := by decide +kernel
theorem dL_law_1148 : decode cL_law 1148 = .ok (.invokevirtual 120, 3) := by decide +kernel
theorem dL_law_1151 : decode cL_law 1151 = .ok (.istore 29, 2) := by decide +kernel
theorem dL_law_1153 : decode cL_law 1153 = .ok (.iload 29, 2) := by decide +kernel
theorem dL_law_1155 : decode cL_law 1155 = .ok (.iload 28, 2) := by decide +kernel
theorem dL_law_1157 : decode cL_law 1157 = .ok (.if_icmp .gt 34, 3) := by decide +kernel
theorem dL_law_1160 : decode cL_law 1160 = .ok (.aload_n 1, 1) := by decide +kernel
theorem dL_law_1161 : decode cL_law 1161 = .ok (.iload 27, 2) := by decide +kernel
theorem dL_law_1163 : decode cL_law 1163 = .ok (.iload 24, 2) := by decide +kernel
theorem dL_law_1165 : decode cL_law 1165 = .ok (.iconst 2, 1) := by decide +kernel
theorem dL_law_1166 : decode cL_law 1166 = .ok (.invokevirtual 120, 3) := by decide +kernel
theorem dL_law_1169 : decode cL_law 1169 = .ok (.iload 28, 2) := by decide +kernel
theorem dL_law_1171 : decode cL_law 1171 = .ok (.ifCond .ne 7, 3) := by decide +kernel
theorem dL_law_1174 : decode cL_law 1174 = .ok (.iconst (-1), 1) := by decide +kernel
theorem dL_law_1175 : decode cL_law 1175 = .ok (.goto 13, 3) := by decide +kernel
theorem dL_law_1178 : decode cL_law 1178 = .ok (.iload 29, 2) := by decide +kernel
theorem dL_law_1180 : decode cL_law 1180 = .ok (.ifCond .le 7, 3) := by decide +kernel
theorem dL_law_1183 : decode cL_law 1183 = .ok (.iconst 1, 1) := by decide +kernel
theorem dL_law_1184 : decode cL_law 1184 = .ok (.goto 4, 3) := by decide +kernel
theorem dL_law_1187 : decode cL_law 1187 = .ok (.iconst 0, 1) := by decide +kernel
theorem dL_law_1188 : decode cL_law 1188 = .ok (.if_icmp .eq 5, 3) := by decide +kernel
theorem dL_law_1191 : decode cL_law 1191 = .ok (.iconst 0, 1) := by decide +kernel
theorem dL_law_1192 : decode cL_law 1192 = .ok (.ireturn, 1) := by decide +kernel
theorem dL_law_1193 : decode cL_law 1193 = .ok (.iload 26, 2) := by decide +kernel
theorem dL_law_1195 : decode cL_law 1195 = .ok (.iload 28, 2) := by decide +kernel
theorem dL_law_1197 : decode cL_law 1197 = .ok (.ifCond .ne 7, 3) := by decide +kernel
theorem dL_law_1200 : decode cL_law 1200 = .ok (.iconst 0, 1) := by decide +kernel
theorem dL_law_1201 : decode cL_law 1201 = .ok (.goto 24, 3) := by decide +kernel
theorem dL_law_1204 : decode cL_law 1204 = .ok (.iload 29, 2) := by decide +kernel
theorem dL_law_1206 : decode cL_law 1206 = .ok (.ifCond .le 8, 3) := by decide +kernel
theorem dL_law_1209 : decode cL_law 1209 = .ok (.bipush 6, 2) := by decide +kernel
theorem dL_law_1211 : decode cL_law 1211 = .ok (.goto 4, 3) := by decide +kernel
theorem dL_law_1214 : decode cL_law 1214 = .ok (.iconst 2, 1) := by decide +kernel
theorem dL_law_1215 : decode cL_law 1215 = .ok (.aload_n 2, 1) := by decide +kernel
theorem dL_law_1216 : decode cL_law 1216 = .ok (.getfield 47, 3) := by decide +kernel
theorem dL_law_1219 : decode cL_law 1219 = .ok (.iload 27, 2) := by decide +kernel
theorem dL_law_1221 : decode cL_law 1221 = .ok (.aaload, 1) := by decide +kernel
theorem dL_law_1222 : decode cL_law 1222 = .ok (.iconst 4, 1) := by decide +kernel
theorem dL_law_1223 : decode cL_law 1223 = .ok (.iaload, 1) := by decide +kernel
theorem dL_law_1224 : decode cL_law 1224 = .ok (.imul, 1) := by decide +kernel
theorem dL_law_1225 : decode cL_law 1225 = .ok (.iadd, 1) := by decide +kernel
theorem dL_law_1226 : decode cL_law 1226 = .ok (.istore 26, 2) := by decide +kernel
theorem dL_law_1228 : decode cL_law 1228 = .ok (.iload 28, 2) := by decide +kernel
theorem dL_law_1230 : decode cL_law 1230 = .ok (.ifCond .eq 92, 3) := by decide +kernel
theorem dL_law_1233 : decode cL_law 1233 = .ok (.iload 27, 2) := by decide +kernel
theorem dL_law_1235 : decode cL_law 1235 = .ok (.iconst 1, 1) := by decide +kernel
theorem dL_law_1236 : decode cL_law 1236 = .ok (.if_icmp .le 6, 3) := by decide +kernel
theorem dL_law_1239 : decode cL_law 1239 = .ok (.goto 83, 3) := by decide +kernel
theorem dL_law_1242 : decode cL_law 1242 = .ok (.aload_n 1, 1) := by decide +kernel
theorem dL_law_1243 : decode cL_law 1243 = .ok (.iload 27, 2) := by decide +kernel
theorem dL_law_1245 : decode cL_law 1245 = .ok (.iload 24, 2) := by decide +kernel
theorem dL_law_1247 : decode cL_law 1247 = .ok (.iconst 0, 1) := by decide +kernel
theorem dL_law_1248 : decode cL_law 1248 = .ok (.invokevirtual 123, 3) := by decide +kernel
theorem dL_law_1251 : decode cL_law 1251 = .ok (.istore 30, 2) := by decide +kernel
theorem dL_law_1253 : decode cL_law 1253 = .ok (.aload_n 1, 1) := by decide +kernel
theorem dL_law_1254 : decode cL_law 1254 = .ok (.iload 27, 2) := by decide +kernel
theorem dL_law_1256 : decode cL_law 1256 = .ok (.iload 24, 2) := by decide +kernel
theorem dL_law_1258 : decode cL_law 1258 = .ok (.iconst 1, 1) := by decide +kernel
theorem dL_law_1259 : decode cL_law 1259 = .ok (.invokevirtual 123, 3) := by decide +kernel
theorem dL_law_1262 : decode cL_law 1262 = .ok (.istore 31, 2) := by decide +kernel
theorem dL_law_1264 : decode cL_law 1264 = .ok (.aload_n 1, 1) := by decide +kernel
theorem dL_law_1265 : decode cL_law 1265 = .ok (.iload 24, 2) := by decide +kernel
theorem dL_law_1267 : decode cL_law 1267 = .ok (.iload 30, 2) := by decide +kernel
theorem dL_law_1269 : decode cL_law 1269 = .ok (.bipush 9, 2) := by decide +kernel
theorem dL_law_1271 : decode cL_law 1271 = .ok (.idiv, 1) := by decide +kernel
theorem dL_law_1272 : decode cL_law 1272 = .ok (.iconst 1, 1) := by decide +kernel
theorem dL_law_1273 : decode cL_law 1273 = .ok (.isub, 1) := by decide +kernel
theorem dL_law_1274 : decode cL_law 1274 = .ok (.iload 30, 2) := by decide +kernel
theorem dL_law_1276 : decode cL_law 1276 = .ok (.iconst 3, 1) := by decide +kernel
theorem dL_law_1277 : decode cL_law 1277 = .ok (.idiv, 1) := by decide +kernel
theorem dL_law_1278 : decode cL_law 1278 = .ok (.iconst 3, 1) := by decide +kernel
theorem dL_law_1279 : decode cL_law 1279 = .ok (.irem, 1) := by decide +kernel
theorem dL_law_1280 : decode cL_law 1280 = .ok (.iconst 1, 1) := by decide +kernel
theorem dL_law_1281 : decode cL_law 1281 = .ok (.isub, 1) := by decide +kernel
theorem dL_law_1282 : decode cL_law 1282 = .ok (.iload 30, 2) := by decide +kernel
theorem dL_law_1284 : decode cL_law 1284 = .ok (.iconst 3, 1) := by decide +kernel
theorem dL_law_1285 : decode cL_law 1285 = .ok (.irem, 1) := by decide +kernel
theorem dL_law_1286 : decode cL_law 1286 = .ok (.iconst 1, 1) := by decide +kernel
theorem dL_law_1287 : decode cL_law 1287 = .ok (.isub, 1) := by decide +kernel
theorem dL_law_1288 : decode cL_law 1288 = .ok (.iload 31, 2) := by decide +kernel
theorem dL_law_1290 : decode cL_law 1290 = .ok (.iconst 0, 1) := by decide +kernel
theorem dL_law_1291 : decode cL_law 1291 = .ok (.invokevirtual 108, 3) := by decide +kernel
theorem dL_law_1294 : decode cL_law 1294 = .ok (.aload_n 1, 1) := by decide +kernel
theorem dL_law_1295 : decode cL_law 1295 = .ok (.iload 27, 2) := by decide +kernel
theorem dL_law_1297 : decode cL_law 1297 = .ok (.iload 24, 2) := by decide +kernel
theorem dL_law_1299 : decode cL_law 1299 = .ok (.iconst 2, 1) := by decide +kernel
theorem dL_law_1300 : decode cL_law 1300 = .ok (.invokevirtual 123, 3) := by decide +kernel
theorem dL_law_1303 : decode cL_law 1303 = .ok (.if_icmp .ne 17, 3) := by decide +kernel
theorem dL_law_1306 : decode cL_law 1306 = .ok (.aload_n 1, 1) := by decide +kernel
theorem dL_law_1307 : decode cL_law 1307 = .ok (.iload 27, 2) := by decide +kernel
theorem dL_law_1309 : decode cL_law 1309 = .ok (.iload 24, 2) := by decide +kernel
theorem dL_law_1311 : decode cL_law 1311 = .ok (.iconst 2, 1) := by decide +kernel
theorem dL_law_1312 : decode cL_law 1312 = .ok (.invokevirtual 123, 3) := by decide +kernel
theorem dL_law_1315 : decode cL_law 1315 = .ok (.iload 28, 2) := by decide +kernel
theorem dL_law_1317 : decode cL_law 1317 = .ok (.if_icmp .ge 5, 3) := by decide +kernel
theorem dL_law_1320 : decode cL_law 1320 = .ok (.iconst 0, 1) := by decide +kernel
theorem dL_law_1321 : decode cL_law 1321 = .ok (.ireturn, 1) := by decide +kernel
theorem dL_law_1322 : decode cL_law 1322 = .ok (.iinc 27 1, 3) := by decide +kernel
theorem dL_law_1325 : decode cL_law 1325 = .ok (.goto (-204), 3) := by decide +kernel
theorem dL_law_1328 : decode cL_law 1328 = .ok (.aload_n 1, 1) := by decide +kernel
theorem dL_law_1329 : decode cL_law 1329 = .ok (.iload 24, 2) := by decide +kernel
theorem dL_law_1331 : decode cL_law 1331 = .ok (.bipush 7, 2) := by decide +kernel
theorem dL_law_1333 : decode cL_law 1333 = .ok (.invokevirtual 105, 3) := by decide +kernel
theorem dL_law_1336 : decode cL_law 1336 = .ok (.iload 25, 2) := by decide +kernel
theorem dL_law_1338 : decode cL_law 1338 = .ok (.ifCond .ne 7, 3) := by decide +kernel
theorem dL_law_1341 : decode cL_law 1341 = .ok (.iconst 0, 1) := by decide +kernel
theorem dL_law_1342 : decode cL_law 1342 = .ok (.goto 53, 3) := by decide +kernel
theorem dL_law_1345 : decode cL_law 1345 = .ok (.iload 25, 2) := by decide +kernel
theorem dL_law_1347 : decode cL_law 1347 = .ok (.iload 25, 2) := by decide +kernel
theorem dL_law_1349 : decode cL_law 1349 = .ok (.imul, 1) := by decide +kernel
theorem dL_law_1350 : decode cL_law 1350 = .ok (.bipush 10, 2) := by decide +kernel
theorem dL_law_1352 : decode cL_law 1352 = .ok (.idiv, 1) := by decide +kernel
theorem dL_law_1353 : decode cL_law 1353 = .ok (.bipush 10, 2) := by decide +kernel
theorem dL_law_1355 : decode cL_law 1355 = .ok (.iload 25, 2) := by decide +kernel
theorem dL_law_1357 : decode cL_law 1357 = .ok (.imul, 1) := by decide +kernel
theorem dL_law_1358 : decode cL_law 1358 = .ok (.iadd, 1) := by decide +kernel
theorem dL_law_1359 : decode cL_law 1359 = .ok (.bipush 10, 2) := by decide +kernel
theorem dL_law_1361 : decode cL_law 1361 = .ok (.bipush 100, 2) := by decide +kernel
theorem dL_law_1363 : decode cL_law 1363 = .ok (.iload 26, 2) := by decide +kernel
theorem dL_law_1365 : decode cL_law 1365 = .ok (.isub, 1) := by decide +kernel
theorem dL_law_1366 : decode cL_law 1366 = .ok (.invokestatic 20, 3) := by decide +kernel
theorem dL_law_1369 : decode cL_law 1369 = .ok (.imul, 1) := by decide +kernel
theorem dL_law_1370 : decode cL_law 1370 = .ok (.bipush 100, 2) := by decide +kernel
theorem dL_law_1372 : decode cL_law 1372 = .ok (.idiv, 1) := by decide +kernel
theorem dL_law_1373 : decode cL_law 1373 = .ok (.bipush 25, 2) := by decide +kernel
theorem dL_law_1375 : decode cL_law 1375 = .ok (.aload_n 1, 1) := by decide +kernel
theorem dL_law_1376 : decode cL_law 1376 = .ok (.iload 24, 2) := by decide +kernel
theorem dL_law_1378 : decode cL_law 1378 = .ok (.iconst 3, 1) := by decide +kernel
theorem dL_law_1379 : decode cL_law 1379 = .ok (.invokevirtual 105, 3) := by decide +kernel
theorem dL_law_1382 : decode cL_law 1382 = .ok (.imul, 1) := by decide +kernel
theorem dL_law_1383 : decode cL_law 1383 = .ok (.iadd, 1) := by decide +kernel
theorem dL_law_1384 : decode cL_law 1384 = .ok (.bipush 40, 2) := by decide +kernel
theorem dL_law_1386 : decode cL_law 1386 = .ok (.aload_n 1, 1) := by decide +kernel
theorem dL_law_1387 : decode cL_law 1387 = .ok (.iload 24, 2) := by decide +kernel
theorem dL_law_1389 : decode cL_law 1389 = .ok (.iconst 4, 1) := by decide +kernel
theorem dL_law_1390 : decode cL_law 1390 = .ok (.invokevirtual 105, 3) := by decide +kernel
theorem dL_law_1393 : decode cL_law 1393 = .ok (.imul, 1) := by decide +kernel
theorem dL_law_1394 : decode cL_law 1394 = .ok (.iadd, 1) := by decide +kernel
theorem dL_law_1395 : decode cL_law 1395 = .ok (.if_icmp .eq 5, 3) := by decide +kernel
theorem dL_law_1398 : decode cL_law 1398 = .ok (.iconst 0, 1) := by decide +kernel
theorem dL_law_1399 : decode cL_law 1399 = .ok (.ireturn, 1) := by decide +kernel
theorem dL_law_1400 : decode cL_law 1400 = .ok (.iinc 24 1, 3) := by decide +kernel
theorem dL_law_1403 : decode cL_law 1403 = .ok (.goto (-427), 3) := by decide +kernel
theorem dL_law_1406 : decode cL_law 1406 = .ok (.aload_n 1, 1) := by decide +kernel
theorem dL_law_1407 : decode cL_law 1407 = .ok (.iconst 1, 1) := by decide +kernel
theorem dL_law_1408 : decode cL_law 1408 = .ok (.invokevirtual 101, 3) := by decide +kernel
theorem dL_law_1411 : decode cL_law 1411 = .ok (.iload 22, 2) := by decide +kernel
theorem dL_law_1413 : decode cL_law 1413 = .ok (.if_icmp .ne 34, 3) := by decide +kernel
theorem dL_law_1416 : decode cL_law 1416 = .ok (.aload_n 1, 1) := by decide +kernel
theorem dL_law_1417 : decode cL_law 1417 = .ok (.bipush 6, 2) := by decide +kernel
theorem dL_law_1419 : decode cL_law 1419 = .ok (.invokevirtual 101, 3) := by decide +kernel
theorem dL_law_1422 : decode cL_law 1422 = .ok (.iload 23, 2) := by decide +kernel
theorem dL_law_1424 : decode cL_law 1424 = .ok (.if_icmp .ne 23, 3) := by decide +kernel
theorem dL_law_1427 : decode cL_law 1427 = .ok (.aload_n 1, 1) := by decide +kernel
theorem dL_law_1428 : decode cL_law 1428 = .ok (.invokevirtual 126, 3) := by decide +kernel
theorem dL_law_1431 : decode cL_law 1431 = .ok (.iload 22, 2) := by decide +kernel
theorem dL_law_1433 : decode cL_law 1433 = .ok (.i2d, 1) := by decide +kernel
theorem dL_law_1434 : decode cL_law 1434 = .ok (.iload_n 3, 1) := by decide +kernel
theorem dL_law_1435 : decode cL_law 1435 = .ok (.iload 4, 2) := by decide +kernel
theorem dL_law_1437 : decode cL_law 1437 = .ok (.imul, 1) := by decide +kernel
theorem dL_law_1438 : decode cL_law 1438 = .ok (.iload 5, 2) := by decide +kernel
theorem dL_law_1440 : decode cL_law 1440 = .ok (.imul, 1) := by decide +kernel
theorem dL_law_1441 : decode cL_law 1441 = .ok (.i2d, 1) := by decide +kernel
theorem dL_law_1442 : decode cL_law 1442 = .ok (.ddiv, 1) := by decide +kernel
theorem dL_law_1443 : decode cL_law 1443 = .ok (.dcmp .l, 1) := by decide +kernel
theorem dL_law_1444 : decode cL_law 1444 = .ok (.ifCond .eq 5, 3) := by decide +kernel
theorem dL_law_1447 : decode cL_law 1447 = .ok (.iconst 0, 1) := by decide +kernel
theorem dL_law_1448 : decode cL_law 1448 = .ok (.ireturn, 1) := by decide +kernel
theorem dL_law_1449 : decode cL_law 1449 = .ok (.iinc 7 1, 3) := by decide +kernel
theorem dL_law_1452 : decode cL_law 1452 = .ok (.goto (-1398), 3) := by decide +kernel
theorem dL_law_1455 : decode cL_law 1455 = .ok (.iconst 1, 1) := by decide +kernel
theorem dL_law_1456 : decode cL_law 1456 = .ok (.ireturn, 1) := by decide +kernel
abbrev vwCl : List vw_C := [(RX0, TX0, 5), (RX1, TX1, 7), (RX2, TX2, 7), (RX3, TX3, 5), (RX4, TX4, 6), (RX5, TX5, 6), (RX6, TX6, 5)]
end
section
/-! the tables' words that serve everywhere -/
def TB : List Cond := (k2_sels lw_privs ++ tables_1).filter goodWord
theorem tb_of {w : Cond} (h : w ∈ tables_1) (g : goodWord w = true) : w ∈ TB := List.mem_filter.mpr ⟨List.mem_append_right _ h, g⟩
theorem tb1 {w : Cond} (i : Nat) (h : tables_1_1[i]? = some w) (g : goodWord w = true) : w ∈ TB := tb_of (List.mem_append_left _ (List.mem_of_getElem? h)) g
theorem tb2 {w : Cond} (i : Nat) (h : tables_1_2[i]? = some w) (g : goodWord w = true) : w ∈ TB := tb_of (List.mem_append_right _ (List.mem_append_left _ (List.mem_of_getElem? h))) g
theorem tb3 {w : Cond} (i : Nat) (h : tables_1_3[i]? = some w) (g : goodWord w = true) : w ∈ TB := tb_of (List.mem_append_right _ (List.mem_append_right _ (List.mem_of_getElem? h))) g
theorem tbs1 {y : MethodName} {n : Nat} (i : Nat) (h : lw_privs_1[i]? = some (y, n)) : Cond.selects y.cls y y ∈ TB := List.mem_filter.mpr ⟨List.mem_append_left _ (List.mem_map.mpr ⟨(y, n), List.mem_append_left _ (List.mem_of_getElem? h), rfl⟩), rfl⟩
theorem tbs2 {y : MethodName} {n : Nat} (i : Nat) (h : lw_privs_2[i]? = some (y, n)) : Cond.selects y.cls y y ∈ TB := List.mem_filter.mpr ⟨List.mem_append_left _ (List.mem_map.mpr ⟨(y, n), List.mem_append_right _ (List.mem_of_getElem? h), rfl⟩), rfl⟩
theorem tw_1_0 : Cond.initialized "GemCutLaw" ∈ TB := tb1 0 rfl rfl
theorem tw_1_1 : Cond.initialized "GemCut" ∈ TB := tb1 1 rfl rfl
theorem tw_1_2 : Cond.initialized "GemCut$Rough" ∈ TB := tb1 2 rfl rfl
theorem tw_1_3 : Cond.initialized "GemCut$Flaw" ∈ TB := tb1 3 rfl rfl
theorem tw_1_4 : Cond.initialized "GemCut$Stone" ∈ TB := tb1 4 rfl rfl
theorem tw_1_5 : Cond.initialized "GemCut$Plane" ∈ TB := tb1 5 rfl rfl
theorem tw_1_6 : Cond.initialized "GemCut$Trial" ∈ TB := tb1 6 rfl rfl
theorem tw_1_7 : Cond.initialized "java/lang/Throwable" ∈ TB := tb1 7 rfl rfl
theorem tw_1_8 : Cond.initialized "java/lang/Exception" ∈ TB := tb1 8 rfl rfl
theorem tw_1_9 : Cond.initialized "java/lang/RuntimeException" ∈ TB := tb1 9 rfl rfl
theorem tw_1_10 : Cond.initialized "java/lang/IllegalArgumentException" ∈ TB := tb1 10 rfl rfl
theorem tw_1_11 : Cond.initialized "GemCutLaw$Sim" ∈ TB := tb1 11 rfl rfl
theorem tw_1_12 : Cond.initialized "java/lang/IndexOutOfBoundsException" ∈ TB := tb1 12 rfl rfl
theorem tw_1_13 : Cond.initialized "java/lang/IllegalStateException" ∈ TB := tb1 13 rfl rfl
theorem tw_1_14 : Cond.initialized "java/lang/Math" ∈ TB := tb1 14 rfl rfl
theorem tw_1_15 : Cond.initialized "java/lang/Integer" ∈ TB := tb1 15 rfl rfl
theorem tw_1_16 : Cond.classLink "GemCutLaw" 33 "GemCut" ∈ TB := tb1 16 rfl rfl
theorem tw_1_17 : Cond.instantiable "GemCut" 6 ∈ TB := tb1 17 rfl rfl
theorem tw_1_18 : Cond.methodLink "GemCutLaw" 96 yX5_init ∈ TB := tb1 18 rfl rfl
theorem tw_1_19 : Cond.instanceMethod yX5_init ∈ TB := tb1 19 rfl rfl
theorem tw_1_20 : Cond.code yX5_init cX5_init 2 none ∈ TB := tb1 20 rfl rfl
theorem tw_1_21 : Cond.methodLink "GemCut" 1 ⟨"java/lang/Object", "<init>", "()V"⟩ ∈ TB := tb1 21 rfl rfl
theorem tw_1_22 : Cond.instanceMethod ⟨"java/lang/Object", "<init>", "()V"⟩ ∈ TB := tb1 22 rfl rfl
theorem tw_1_23 : Cond.code ⟨"java/lang/Object", "<init>", "()V"⟩ object_method_1_code 1 none ∈ TB := tb1 23 rfl rfl
theorem tw_1_24 : Cond.classLink "GemCut" 7 "GemCut$Rough" ∈ TB := tb1 24 rfl rfl
theorem tw_1_25 : Cond.instantiable "GemCut$Rough" 7 ∈ TB := tb1 25 rfl rfl
theorem tw_1_26 : Cond.methodLink "GemCut" 9 yX2_init ∈ TB := tb1 26 rfl rfl
theorem tw_1_27 : Cond.instanceMethod yX2_init ∈ TB := tb1 27 rfl rfl
theorem tw_1_28 : Cond.code yX2_init cX2_init 2 none ∈ TB := tb1 28 rfl rfl
theorem tw_1_29 : Cond.methodLink "GemCut$Rough" 3 ⟨"java/lang/Object", "<init>", "()V"⟩ ∈ TB := tb1 29 rfl rfl
theorem tw_1_30 : Cond.classLink "GemCut$Rough" 19 "GemCut$Flaw" ∈ TB := tb1 30 rfl rfl
theorem tw_1_32 : Cond.instantiable "GemCut$Flaw" 5 ∈ TB := tb1 32 rfl rfl
theorem tw_1_34 : Cond.instanceMethod yX0_init ∈ TB := tb1 34 rfl rfl
theorem tw_1_35 : Cond.code yX0_init cX0_init 1 none ∈ TB := tb1 35 rfl rfl
theorem tw_1_36 : Cond.methodLink "GemCut$Flaw" 3 ⟨"java/lang/Object", "<init>", "()V"⟩ ∈ TB := tb1 36 rfl rfl
theorem tw_1_37 : Cond.fieldLink "GemCut$Flaw" 21 "GemCut$Flaw" "severity" "I" ∈ TB := tb1 37 rfl rfl
theorem tw_1_38 : Cond.fieldLink "GemCut$Flaw" 9 "GemCut$Flaw" "cells" "[I" ∈ TB := tb1 38 rfl rfl
theorem tw_1_39 : Cond.fieldLink "GemCut$Trial" 126 "GemCut$Flaw" "cells" "[I" ∈ TB := tb1 39 rfl rfl
theorem tw_1_40 : Cond.fieldLink "GemCut$Flaw" 25 "GemCut$Flaw" "cellCount" "I" ∈ TB := tb1 40 rfl rfl
theorem tw_1_41 : Cond.fieldLink "GemCut$Trial" 121 "GemCut$Flaw" "cellCount" "I" ∈ TB := tb1 41 rfl rfl
theorem tw_1_42 : Cond.fieldLink "GemCut$Flaw" 15 "GemCut$Flaw" "cellsIn" "[I" ∈ TB := tb1 42 rfl rfl
theorem tw_1_43 : Cond.fieldLink "GemCut" 275 "GemCut$Flaw" "cellsIn" "[I" ∈ TB := tb1 43 rfl rfl
theorem tw_1_44 : Cond.fieldLink "GemCut$Flaw" 18 "GemCut$Flaw" "bareIn" "[I" ∈ TB := tb1 44 rfl rfl
theorem tw_1_45 : Cond.fieldLink "GemCut" 278 "GemCut$Flaw" "bareIn" "[I" ∈ TB := tb1 45 rfl rfl
theorem tw_1_46 : Cond.lays "GemCut$Flaw" "GemCut$Flaw" "severity" "I" ∈ TB := tb1 46 rfl rfl
theorem tw_1_48 : Cond.laysFinal "GemCut$Flaw" "GemCut$Flaw" "cells" "[I" ∈ TB := tb1 48 rfl rfl
theorem tw_1_50 : Cond.lays "GemCut$Flaw" "GemCut$Flaw" "cellCount" "I" ∈ TB := tb1 50 rfl rfl
theorem tw_1_52 : Cond.laysFinal "GemCut$Flaw" "GemCut$Flaw" "cellsIn" "[I" ∈ TB := tb1 52 rfl rfl
theorem tw_1_54 : Cond.laysFinal "GemCut$Flaw" "GemCut$Flaw" "bareIn" "[I" ∈ TB := tb1 54 rfl rfl
theorem tw_1_57 : Cond.arrayClass FieldType.int ∈ TB := tb1 57 rfl rfl
theorem tw_1_58 : Cond.arrayClass FieldType.boolean ∈ TB := tb1 58 rfl rfl
theorem tw_1_59 : Cond.fieldLink "GemCut$Rough" 26 "GemCut$Rough" "columns" "I" ∈ TB := tb1 59 rfl rfl
theorem tw_1_60 : Cond.fieldLink "GemCut$Trial" 49 "GemCut$Rough" "columns" "I" ∈ TB := tb1 60 rfl rfl
theorem tw_1_61 : Cond.fieldLink "GemCut" 254 "GemCut$Rough" "columns" "I" ∈ TB := tb1 61 rfl rfl
theorem tw_1_62 : Cond.fieldLink "GemCut$Rough" 30 "GemCut$Rough" "rows" "I" ∈ TB := tb1 62 rfl rfl
theorem tw_1_63 : Cond.fieldLink "GemCut$Trial" 46 "GemCut$Rough" "rows" "I" ∈ TB := tb1 63 rfl rfl
theorem tw_1_64 : Cond.fieldLink "GemCut" 251 "GemCut$Rough" "rows" "I" ∈ TB := tb1 64 rfl rfl
theorem tw_1_65 : Cond.fieldLink "GemCut$Rough" 33 "GemCut$Rough" "layers" "I" ∈ TB := tb1 65 rfl rfl
theorem tw_1_66 : Cond.fieldLink "GemCut$Trial" 40 "GemCut$Rough" "layers" "I" ∈ TB := tb1 66 rfl rfl
theorem tw_1_67 : Cond.fieldLink "GemCut" 248 "GemCut$Rough" "layers" "I" ∈ TB := tb1 67 rfl rfl
theorem tw_1_68 : Cond.fieldLink "GemCut$Rough" 9 "GemCut$Rough" "owner" "[I" ∈ TB := tb1 68 rfl rfl
theorem tw_1_69 : Cond.fieldLink "GemCut$Trial" 60 "GemCut$Rough" "owner" "[I" ∈ TB := tb1 69 rfl rfl
theorem tw_1_70 : Cond.fieldLink "GemCut$Flaw" 28 "GemCut$Rough" "owner" "[I" ∈ TB := tb1 70 rfl rfl
theorem tw_1_71 : Cond.fieldLink "GemCut" 207 "GemCut$Rough" "owner" "[I" ∈ TB := tb1 71 rfl rfl
theorem tw_1_72 : Cond.fieldLink "GemCut$Rough" 15 "GemCut$Rough" "bare" "[Z" ∈ TB := tb1 72 rfl rfl
theorem tw_1_73 : Cond.fieldLink "GemCut$Flaw" 33 "GemCut$Rough" "bare" "[Z" ∈ TB := tb1 73 rfl rfl
theorem tw_1_74 : Cond.fieldLink "GemCut$Trial" 129 "GemCut$Rough" "bare" "[Z" ∈ TB := tb1 74 rfl rfl
theorem tw_1_75 : Cond.fieldLink "GemCut" 267 "GemCut$Rough" "bare" "[Z" ∈ TB := tb1 75 rfl rfl
theorem tw_1_76 : Cond.fieldLink "GemCut$Rough" 21 "GemCut$Rough" "flaws" "[LGemCut$Flaw;" ∈ TB := tb1 76 rfl rfl
theorem tw_1_77 : Cond.fieldLink "GemCut$Trial" 136 "GemCut$Rough" "flaws" "[LGemCut$Flaw;" ∈ TB := tb1 77 rfl rfl
theorem tw_1_78 : Cond.fieldLink "GemCut" 187 "GemCut$Rough" "flaws" "[LGemCut$Flaw;" ∈ TB := tb1 78 rfl rfl
theorem tw_1_79 : Cond.fieldLink "GemCut$Rough" 36 "GemCut$Rough" "flawCount" "I" ∈ TB := tb1 79 rfl rfl
theorem tw_1_80 : Cond.fieldLink "GemCut" 58 "GemCut$Rough" "flawCount" "I" ∈ TB := tb1 80 rfl rfl
theorem tw_1_81 : Cond.fieldLink "GemCut$Trial" 133 "GemCut$Rough" "flawCount" "I" ∈ TB := tb1 81 rfl rfl
theorem tw_1_82 : Cond.lays "GemCut$Rough" "GemCut$Rough" "columns" "I" ∈ TB := tb1 82 rfl rfl
theorem tw_1_84 : Cond.lays "GemCut$Rough" "GemCut$Rough" "rows" "I" ∈ TB := tb1 84 rfl rfl
theorem tw_1_86 : Cond.lays "GemCut$Rough" "GemCut$Rough" "layers" "I" ∈ TB := tb1 86 rfl rfl
theorem tw_1_88 : Cond.laysFinal "GemCut$Rough" "GemCut$Rough" "owner" "[I" ∈ TB := tb1 88 rfl rfl
theorem tw_1_90 : Cond.laysFinal "GemCut$Rough" "GemCut$Rough" "bare" "[Z" ∈ TB := tb1 90 rfl rfl
theorem tw_1_92 : Cond.laysFinal "GemCut$Rough" "GemCut$Rough" "flaws" "[LGemCut$Flaw;" ∈ TB := tb1 92 rfl rfl
theorem tw_1_94 : Cond.lays "GemCut$Rough" "GemCut$Rough" "flawCount" "I" ∈ TB := tb1 94 rfl rfl
theorem tw_1_97 : Cond.classLink "GemCut" 16 "GemCut$Stone" ∈ TB := tb1 97 rfl rfl
theorem tw_1_99 : Cond.instantiable "GemCut$Stone" 5 ∈ TB := tb1 99 rfl rfl
theorem tw_1_100 : Cond.methodLink "GemCut" 22 yX3_init ∈ TB := tb1 100 rfl rfl
theorem tw_1_101 : Cond.instanceMethod yX3_init ∈ TB := tb1 101 rfl rfl
theorem tw_1_102 : Cond.code yX3_init cX3_init 3 none ∈ TB := tb1 102 rfl rfl
theorem tw_1_103 : Cond.methodLink "GemCut$Stone" 3 ⟨"java/lang/Object", "<init>", "()V"⟩ ∈ TB := tb1 103 rfl rfl
theorem tw_1_104 : Cond.classLink "GemCut$Stone" 9 "GemCut$Plane" ∈ TB := tb1 104 rfl rfl
theorem tw_1_106 : Cond.instantiable "GemCut$Plane" 7 ∈ TB := tb1 106 rfl rfl
theorem tw_1_108 : Cond.instanceMethod yX1_init ∈ TB := tb1 108 rfl rfl
theorem tw_1_109 : Cond.code yX1_init cX1_init 1 none ∈ TB := tb1 109 rfl rfl
theorem tw_1_110 : Cond.methodLink "GemCut$Plane" 1 ⟨"java/lang/Object", "<init>", "()V"⟩ ∈ TB := tb1 110 rfl rfl
theorem tw_1_111 : Cond.fieldLink "GemCut$Plane" 7 "GemCut$Plane" "p" "I" ∈ TB := tb1 111 rfl rfl
theorem tw_1_112 : Cond.fieldLink "GemCut$Plane" 13 "GemCut$Plane" "q" "I" ∈ TB := tb1 112 rfl rfl
theorem tw_1_113 : Cond.fieldLink "GemCut$Plane" 16 "GemCut$Plane" "r" "I" ∈ TB := tb1 113 rfl rfl
theorem tw_1_114 : Cond.fieldLink "GemCut$Plane" 19 "GemCut$Plane" "d" "I" ∈ TB := tb1 114 rfl rfl
theorem tw_1_115 : Cond.fieldLink "GemCut$Plane" 32 "GemCut$Plane" "reach" "I" ∈ TB := tb1 115 rfl rfl
theorem tw_1_116 : Cond.fieldLink "GemCut$Trial" 103 "GemCut$Plane" "reach" "I" ∈ TB := tb1 116 rfl rfl
theorem tw_1_117 : Cond.fieldLink "GemCut$Plane" 35 "GemCut$Plane" "polished" "Z" ∈ TB := tb1 117 rfl rfl
theorem tw_1_118 : Cond.fieldLink "GemCut$Stone" 46 "GemCut$Plane" "polished" "Z" ∈ TB := tb1 118 rfl rfl
theorem tw_1_119 : Cond.fieldLink "GemCut" 150 "GemCut$Plane" "polished" "Z" ∈ TB := tb1 119 rfl rfl
theorem tw_1_120 : Cond.fieldLink "GemCut$Trial" 117 "GemCut$Plane" "polished" "Z" ∈ TB := tb1 120 rfl rfl
theorem tw_1_121 : Cond.fieldLink "GemCut$Plane" 39 "GemCut$Plane" "touching" "I" ∈ TB := tb1 121 rfl rfl
theorem tw_1_122 : Cond.fieldLink "GemCut$Stone" 31 "GemCut$Plane" "touching" "I" ∈ TB := tb1 122 rfl rfl
theorem tw_1_123 : Cond.fieldLink "GemCut" 141 "GemCut$Plane" "touching" "I" ∈ TB := tb1 123 rfl rfl
theorem tw_1_124 : Cond.lays "GemCut$Plane" "GemCut$Plane" "p" "I" ∈ TB := tb1 124 rfl rfl
theorem tw_1_126 : Cond.lays "GemCut$Plane" "GemCut$Plane" "q" "I" ∈ TB := tb1 126 rfl rfl
theorem tw_1_128 : Cond.lays "GemCut$Plane" "GemCut$Plane" "r" "I" ∈ TB := tb1 128 rfl rfl
theorem tw_1_130 : Cond.lays "GemCut$Plane" "GemCut$Plane" "d" "I" ∈ TB := tb1 130 rfl rfl
theorem tw_1_132 : Cond.lays "GemCut$Plane" "GemCut$Plane" "reach" "I" ∈ TB := tb1 132 rfl rfl
theorem tw_1_134 : Cond.lays "GemCut$Plane" "GemCut$Plane" "polished" "Z" ∈ TB := tb1 134 rfl rfl
theorem tw_1_136 : Cond.lays "GemCut$Plane" "GemCut$Plane" "touching" "I" ∈ TB := tb1 136 rfl rfl
theorem tw_1_139 : Cond.fieldLink "GemCut$Stone" 17 "GemCut$Stone" "number" "I" ∈ TB := tb1 139 rfl rfl
theorem tw_1_140 : Cond.fieldLink "GemCut$Trial" 63 "GemCut$Stone" "number" "I" ∈ TB := tb1 140 rfl rfl
theorem tw_1_141 : Cond.fieldLink "GemCut" 288 "GemCut$Stone" "number" "I" ∈ TB := tb1 141 rfl rfl
theorem tw_1_142 : Cond.fieldLink "GemCut$Stone" 11 "GemCut$Stone" "planes" "[LGemCut$Plane;" ∈ TB := tb1 142 rfl rfl
theorem tw_1_143 : Cond.fieldLink "GemCut$Trial" 78 "GemCut$Stone" "planes" "[LGemCut$Plane;" ∈ TB := tb1 143 rfl rfl
theorem tw_1_144 : Cond.fieldLink "GemCut" 137 "GemCut$Stone" "planes" "[LGemCut$Plane;" ∈ TB := tb1 144 rfl rfl
theorem tw_1_145 : Cond.fieldLink "GemCut$Stone" 22 "GemCut$Stone" "planeCount" "I" ∈ TB := tb1 145 rfl rfl
theorem tw_1_146 : Cond.fieldLink "GemCut$Trial" 75 "GemCut$Stone" "planeCount" "I" ∈ TB := tb1 146 rfl rfl
theorem tw_1_147 : Cond.fieldLink "GemCut" 119 "GemCut$Stone" "planeCount" "I" ∈ TB := tb1 147 rfl rfl
theorem tw_1_148 : Cond.fieldLink "GemCut$Stone" 25 "GemCut$Stone" "weight" "I" ∈ TB := tb1 148 rfl rfl
theorem tw_1_149 : Cond.fieldLink "GemCut" 105 "GemCut$Stone" "weight" "I" ∈ TB := tb1 149 rfl rfl
theorem tw_1_150 : Cond.fieldLink "GemCut$Trial" 92 "GemCut$Stone" "weight" "I" ∈ TB := tb1 150 rfl rfl
theorem tw_1_151 : Cond.fieldLink "GemCut$Stone" 28 "GemCut$Stone" "bareCells" "I" ∈ TB := tb1 151 rfl rfl
theorem tw_1_152 : Cond.fieldLink "GemCut" 299 "GemCut$Stone" "bareCells" "I" ∈ TB := tb1 152 rfl rfl
theorem tw_1_153 : Cond.laysFinal "GemCut$Stone" "GemCut$Stone" "number" "I" ∈ TB := tb1 153 rfl rfl
theorem tw_1_155 : Cond.laysFinal "GemCut$Stone" "GemCut$Stone" "planes" "[LGemCut$Plane;" ∈ TB := tb1 155 rfl rfl
theorem tw_1_157 : Cond.lays "GemCut$Stone" "GemCut$Stone" "planeCount" "I" ∈ TB := tb1 157 rfl rfl
theorem tw_1_159 : Cond.lays "GemCut$Stone" "GemCut$Stone" "weight" "I" ∈ TB := tb1 159 rfl rfl
theorem tw_1_161 : Cond.lays "GemCut$Stone" "GemCut$Stone" "bareCells" "I" ∈ TB := tb1 161 rfl rfl
theorem tw_1_164 : Cond.classLink "GemCut" 25 "GemCut$Trial" ∈ TB := tb1 164 rfl rfl
theorem tw_1_165 : Cond.instantiable "GemCut$Trial" 6 ∈ TB := tb1 165 rfl rfl
theorem tw_1_166 : Cond.methodLink "GemCut" 27 yX4_init ∈ TB := tb1 166 rfl rfl
theorem tw_1_167 : Cond.instanceMethod yX4_init ∈ TB := tb1 167 rfl rfl
theorem tw_1_168 : Cond.code yX4_init cX4_init 3 none ∈ TB := tb1 168 rfl rfl
theorem tw_1_169 : Cond.methodLink "GemCut$Trial" 3 ⟨"java/lang/Object", "<init>", "()V"⟩ ∈ TB := tb1 169 rfl rfl
theorem tw_1_170 : Cond.classLink "GemCut$Trial" 9 "GemCut$Plane" ∈ TB := tb1 170 rfl rfl
theorem tw_1_172 : Cond.fieldLink "GemCut$Trial" 28 "GemCut$Trial" "rough" "LGemCut$Rough;" ∈ TB := tb1 172 rfl rfl
theorem tw_1_173 : Cond.fieldLink "GemCut$Trial" 32 "GemCut$Trial" "piece" "LGemCut$Stone;" ∈ TB := tb1 173 rfl rfl
theorem tw_1_174 : Cond.fieldLink "GemCut$Trial" 12 "GemCut$Trial" "tried" "LGemCut$Plane;" ∈ TB := tb1 174 rfl rfl
theorem tw_1_175 : Cond.fieldLink "GemCut$Trial" 18 "GemCut$Trial" "heights" "[I" ∈ TB := tb1 175 rfl rfl
theorem tw_1_176 : Cond.fieldLink "GemCut$Trial" 22 "GemCut$Trial" "upTo" "[I" ∈ TB := tb1 176 rfl rfl
theorem tw_1_177 : Cond.fieldLink "GemCut$Trial" 25 "GemCut$Trial" "floors" "[I" ∈ TB := tb1 177 rfl rfl
theorem tw_1_178 : Cond.laysFinal "GemCut$Trial" "GemCut$Trial" "rough" "LGemCut$Rough;" ∈ TB := tb1 178 rfl rfl
theorem tw_1_180 : Cond.lays "GemCut$Trial" "GemCut$Trial" "piece" "LGemCut$Stone;" ∈ TB := tb1 180 rfl rfl
theorem tw_1_182 : Cond.laysFinal "GemCut$Trial" "GemCut$Trial" "tried" "LGemCut$Plane;" ∈ TB := tb1 182 rfl rfl
theorem tw_1_184 : Cond.laysFinal "GemCut$Trial" "GemCut$Trial" "heights" "[I" ∈ TB := tb1 184 rfl rfl
theorem tw_1_186 : Cond.laysFinal "GemCut$Trial" "GemCut$Trial" "upTo" "[I" ∈ TB := tb1 186 rfl rfl
theorem tw_1_188 : Cond.laysFinal "GemCut$Trial" "GemCut$Trial" "floors" "[I" ∈ TB := tb1 188 rfl rfl
theorem tw_1_191 : Cond.methodLink "GemCut" 34 yX5_beginRough ∈ TB := tb1 191 rfl rfl
theorem tw_1_193 : Cond.instanceMethod yX5_beginRough ∈ TB := tb1 193 rfl rfl
theorem tw_1_194 : Cond.code yX5_beginRough cX5_beginRough 4 none ∈ TB := tb1 194 rfl rfl
theorem tw_1_195 : Cond.methodLink "GemCut" 239 yX2_begin ∈ TB := tb1 195 rfl rfl
theorem tw_1_196 : Cond.instanceMethod yX2_begin ∈ TB := tb1 196 rfl rfl
theorem tw_1_197 : Cond.selects "GemCut$Rough" yX2_begin yX2_begin ∈ TB := tb1 197 rfl rfl
theorem tw_1_198 : Cond.code yX2_begin cX2_begin 6 none ∈ TB := tb1 198 rfl rfl
theorem tw_1_199 : Cond.methodLink "GemCut$Rough" 39 yX2_size ∈ TB := tb1 199 rfl rfl
theorem tw_1_200 : Cond.instanceMethod yX2_size ∈ TB := tb1 200 rfl rfl
theorem tw_1_201 : Cond.selects "GemCut$Rough" yX2_size yX2_size ∈ TB := tb1 201 rfl rfl
theorem tw_1_202 : Cond.code yX2_size cX2_size 1 (some FieldType.int) ∈ TB := tb1 202 rfl rfl
theorem tw_1_203 : Cond.methodLink "GemCut" 110 yX3_dropPlanes ∈ TB := tb1 203 rfl rfl
theorem tw_1_204 : Cond.instanceMethod yX3_dropPlanes ∈ TB := tb1 204 rfl rfl
theorem tw_1_205 : Cond.selects "GemCut$Stone" yX3_dropPlanes yX3_dropPlanes ∈ TB := tb1 205 rfl rfl
theorem tw_1_206 : Cond.code yX3_dropPlanes cX3_dropPlanes 1 none ∈ TB := tb1 206 rfl rfl
theorem tw_1_207 : Cond.methodLink "GemCut" 116 yX5_survey ∈ TB := tb1 207 rfl rfl
theorem tw_1_209 : Cond.instanceMethod yX5_survey ∈ TB := tb1 209 rfl rfl
theorem tw_1_210 : Cond.code yX5_survey cX5_survey 5 none ∈ TB := tb1 210 rfl rfl
theorem tw_1_211 : Cond.methodLink "GemCut" 245 yX3_forgetCells ∈ TB := tb1 211 rfl rfl
theorem tw_1_212 : Cond.instanceMethod yX3_forgetCells ∈ TB := tb1 212 rfl rfl
theorem tw_1_213 : Cond.selects "GemCut$Stone" yX3_forgetCells yX3_forgetCells ∈ TB := tb1 213 rfl rfl
theorem tw_1_214 : Cond.code yX3_forgetCells cX3_forgetCells 2 none ∈ TB := tb1 214 rfl rfl
theorem tw_1_215 : Cond.methodLink "GemCut" 257 yX5_surveyCell ∈ TB := tb1 215 rfl rfl
theorem tw_1_217 : Cond.instanceMethod yX5_surveyCell ∈ TB := tb1 217 rfl rfl
theorem tw_1_218 : Cond.code yX5_surveyCell cX5_surveyCell 7 none ∈ TB := tb1 218 rfl rfl
theorem tw_1_219 : Cond.methodLink "GemCut" 263 yX2_isBare ∈ TB := tb1 219 rfl rfl
theorem tw_1_220 : Cond.instanceMethod yX2_isBare ∈ TB := tb1 220 rfl rfl
theorem tw_1_221 : Cond.selects "GemCut$Rough" yX2_isBare yX2_isBare ∈ TB := tb1 221 rfl rfl
theorem tw_1_222 : Cond.code yX2_isBare cX2_isBare 5 (some FieldType.boolean) ∈ TB := tb1 222 rfl rfl
theorem tw_1_223 : Cond.methodLink "GemCut$Rough" 51 yX2_ownerAt ∈ TB := tb1 223 rfl rfl
theorem tw_1_224 : Cond.instanceMethod yX2_ownerAt ∈ TB := tb1 224 rfl rfl
theorem tw_1_225 : Cond.selects "GemCut$Rough" yX2_ownerAt yX2_ownerAt ∈ TB := tb1 225 rfl rfl
theorem tw_1_226 : Cond.code yX2_ownerAt cX2_ownerAt 4 (some FieldType.int) ∈ TB := tb1 226 rfl rfl
theorem tw_1_227 : Cond.methodLink "GemCut$Rough" 43 yX2_holds ∈ TB := tb1 227 rfl rfl
theorem tw_1_228 : Cond.instanceMethod yX2_holds ∈ TB := tb1 228 rfl rfl
theorem tw_1_229 : Cond.selects "GemCut$Rough" yX2_holds yX2_holds ∈ TB := tb1 229 rfl rfl
theorem tw_1_230 : Cond.code yX2_holds cX2_holds 4 (some FieldType.boolean) ∈ TB := tb1 230 rfl rfl
theorem tw_1_231 : Cond.methodLink "GemCut$Rough" 47 yX2_indexOf ∈ TB := tb1 231 rfl rfl
theorem tw_1_232 : Cond.instanceMethod yX2_indexOf ∈ TB := tb1 232 rfl rfl
theorem tw_1_233 : Cond.selects "GemCut$Rough" yX2_indexOf yX2_indexOf ∈ TB := tb1 233 rfl rfl
theorem tw_1_234 : Cond.code yX2_indexOf cX2_indexOf 4 (some FieldType.int) ∈ TB := tb1 234 rfl rfl
theorem tw_1_235 : Cond.methodLink "GemCut" 271 yX3_countCell ∈ TB := tb1 235 rfl rfl
theorem tw_1_236 : Cond.instanceMethod yX3_countCell ∈ TB := tb1 236 rfl rfl
theorem tw_1_237 : Cond.selects "GemCut$Stone" yX3_countCell yX3_countCell ∈ TB := tb1 237 rfl rfl
theorem tw_1_238 : Cond.code yX3_countCell cX3_countCell 6 none ∈ TB := tb1 238 rfl rfl
theorem tw_1_239 : Cond.methodLink "GemCut$Stone" 34 yX1_touches ∈ TB := tb1 239 rfl rfl
theorem tw_2_0 : Cond.instanceMethod yX1_touches ∈ TB := tb2 0 rfl rfl
theorem tw_2_1 : Cond.selects "GemCut$Plane" yX1_touches yX1_touches ∈ TB := tb2 1 rfl rfl
theorem tw_2_2 : Cond.code yX1_touches cX1_touches 4 (some FieldType.boolean) ∈ TB := tb2 2 rfl rfl
theorem tw_2_3 : Cond.methodLink "GemCut$Plane" 42 yX1_heightOf ∈ TB := tb2 3 rfl rfl
theorem tw_2_4 : Cond.instanceMethod yX1_heightOf ∈ TB := tb2 4 rfl rfl
theorem tw_2_5 : Cond.selects "GemCut$Plane" yX1_heightOf yX1_heightOf ∈ TB := tb2 5 rfl rfl
theorem tw_2_6 : Cond.code yX1_heightOf cX1_heightOf 4 (some FieldType.int) ∈ TB := tb2 6 rfl rfl
theorem tw_2_7 : Cond.methodLink "GemCut" 260 yX0_survey ∈ TB := tb2 7 rfl rfl
theorem tw_2_8 : Cond.instanceMethod yX0_survey ∈ TB := tb2 8 rfl rfl
theorem tw_2_9 : Cond.selects "GemCut$Flaw" yX0_survey yX0_survey ∈ TB := tb2 9 rfl rfl
theorem tw_2_10 : Cond.code yX0_survey cX0_survey 5 none ∈ TB := tb2 10 rfl rfl
theorem tw_2_11 : Cond.fieldLink "GemCut" 10 "GemCut" "rough" "LGemCut$Rough;" ∈ TB := tb2 11 rfl rfl
theorem tw_2_12 : Cond.fieldLink "GemCut" 18 "GemCut" "stones" "[LGemCut$Stone;" ∈ TB := tb2 12 rfl rfl
theorem tw_2_13 : Cond.fieldLink "GemCut" 30 "GemCut" "trial" "LGemCut$Trial;" ∈ TB := tb2 13 rfl rfl
theorem tw_2_14 : Cond.fieldLink "GemCut" 102 "GemCut" "stoneCount" "I" ∈ TB := tb2 14 rfl rfl
theorem tw_2_15 : Cond.fieldLink "GemCut" 122 "GemCut" "turns" "I" ∈ TB := tb2 15 rfl rfl
theorem tw_2_16 : Cond.fieldLink "GemCut" 242 "GemCut" "spent" "I" ∈ TB := tb2 16 rfl rfl
theorem tw_2_17 : Cond.laysFinal "GemCut" "GemCut" "rough" "LGemCut$Rough;" ∈ TB := tb2 17 rfl rfl
theorem tw_2_19 : Cond.laysFinal "GemCut" "GemCut" "stones" "[LGemCut$Stone;" ∈ TB := tb2 19 rfl rfl
theorem tw_2_21 : Cond.laysFinal "GemCut" "GemCut" "trial" "LGemCut$Trial;" ∈ TB := tb2 21 rfl rfl
theorem tw_2_23 : Cond.lays "GemCut" "GemCut" "stoneCount" "I" ∈ TB := tb2 23 rfl rfl
theorem tw_2_25 : Cond.lays "GemCut" "GemCut" "turns" "I" ∈ TB := tb2 25 rfl rfl
theorem tw_2_27 : Cond.lays "GemCut" "GemCut" "spent" "I" ∈ TB := tb2 27 rfl rfl
theorem tw_2_30 : Cond.methodLink "GemCutLaw" 118 yX5_cell ∈ TB := tb2 30 rfl rfl
theorem tw_2_31 : Cond.instanceMethod yX5_cell ∈ TB := tb2 31 rfl rfl
theorem tw_2_32 : Cond.selects "GemCut" yX5_cell yX5_cell ∈ TB := tb2 32 rfl rfl
theorem tw_2_33 : Cond.code yX5_cell cX5_cell 4 (some FieldType.int) ∈ TB := tb2 33 rfl rfl
theorem tw_2_34 : Cond.methodLink "GemCut" 53 yX5_wantCell ∈ TB := tb2 34 rfl rfl
theorem tw_2_36 : Cond.instanceMethod yX5_wantCell ∈ TB := tb2 36 rfl rfl
theorem tw_2_37 : Cond.code yX5_wantCell cX5_wantCell 4 none ∈ TB := tb2 37 rfl rfl
theorem tw_2_38 : Cond.methodLink "GemCut" 215 yX2_holds ∈ TB := tb2 38 rfl rfl
theorem tw_2_39 : Cond.classLink "GemCut" 219 "java/lang/IndexOutOfBoundsException" ∈ TB := tb2 39 rfl rfl
theorem tw_2_40 : Cond.instantiable "java/lang/IndexOutOfBoundsException" 6 ∈ TB := tb2 40 rfl rfl
theorem tw_2_48 : Cond.selects "java/lang/IndexOutOfBoundsException" ⟨"java/lang/Throwable", "fillInStackTrace", "(I)Ljava/lang/Throwable;"⟩ ⟨"java/lang/Throwable", "fillInStackTrace", "(I)Ljava/lang/Throwable;"⟩ ∈ TB := tb2 48 rfl rfl
theorem tw_2_49 : Cond.selects "java/lang/IndexOutOfBoundsException" ⟨"java/lang/Throwable", "fillInStackTrace", "()Ljava/lang/Throwable;"⟩ ⟨"java/lang/Throwable", "fillInStackTrace", "()Ljava/lang/Throwable;"⟩ ∈ TB := tb2 49 rfl rfl
theorem tw_2_50 : Cond.lays "java/lang/IndexOutOfBoundsException" "java/lang/Throwable" "cause" "Ljava/lang/Throwable;" ∈ TB := tb2 50 rfl rfl
theorem tw_2_51 : Cond.lays "java/lang/Throwable" "java/lang/Throwable" "cause" "Ljava/lang/Throwable;" ∈ TB := tb2 51 rfl rfl
theorem tw_2_52 : Cond.lays "java/lang/IndexOutOfBoundsException" "java/lang/Throwable" "stackTrace" "[Ljava/lang/StackTraceElement;" ∈ TB := tb2 52 rfl rfl
theorem tw_2_53 : Cond.lays "java/lang/Throwable" "java/lang/Throwable" "stackTrace" "[Ljava/lang/StackTraceElement;" ∈ TB := tb2 53 rfl rfl
theorem tw_2_54 : Cond.lays "java/lang/IndexOutOfBoundsException" "java/lang/Throwable" "suppressedExceptions" "Ljava/util/List;" ∈ TB := tb2 54 rfl rfl
theorem tw_2_55 : Cond.lays "java/lang/Throwable" "java/lang/Throwable" "suppressedExceptions" "Ljava/util/List;" ∈ TB := tb2 55 rfl rfl
theorem tw_2_56 : Cond.lays "java/lang/IndexOutOfBoundsException" "java/lang/Throwable" "detailMessage" "Ljava/lang/String;" ∈ TB := tb2 56 rfl rfl
theorem tw_2_57 : Cond.lays "java/lang/Throwable" "java/lang/Throwable" "detailMessage" "Ljava/lang/String;" ∈ TB := tb2 57 rfl rfl
theorem tw_2_58 : Cond.lays "java/lang/IndexOutOfBoundsException" "java/lang/Throwable" "backtrace" "Ljava/lang/Object;" ∈ TB := tb2 58 rfl rfl
theorem tw_2_59 : Cond.lays "java/lang/Throwable" "java/lang/Throwable" "backtrace" "Ljava/lang/Object;" ∈ TB := tb2 59 rfl rfl
theorem tw_2_60 : Cond.fieldLink "java/lang/Throwable" 198 "java/lang/Throwable" "backtrace" "Ljava/lang/Object;" ∈ TB := tb2 60 rfl rfl
theorem tw_2_62 : Cond.instanceMethod ⟨"java/lang/Throwable", "<init>", "()V"⟩ ∈ TB := tb2 62 rfl rfl
theorem tw_2_63 : Cond.code ⟨"java/lang/Throwable", "<init>", "()V"⟩ prog_18_method_1_code 1 none ∈ TB := tb2 63 rfl rfl
theorem tw_2_64 : Cond.methodLink "java/lang/Throwable" 1 ⟨"java/lang/Object", "<init>", "()V"⟩ ∈ TB := tb2 64 rfl rfl
theorem tw_2_65 : Cond.fieldLink "java/lang/Throwable" 13 "java/lang/Throwable" "UNASSIGNED_STACK" "[Ljava/lang/StackTraceElement;" ∈ TB := tb2 65 rfl rfl
theorem tw_2_67 : Cond.fieldLink "java/lang/Throwable" 20 "java/lang/Throwable" "SUPPRESSED_SENTINEL" "Ljava/util/List;" ∈ TB := tb2 67 rfl rfl
theorem tw_2_69 : Cond.methodLink "java/lang/Throwable" 27 ⟨"java/lang/Throwable", "fillInStackTrace", "()Ljava/lang/Throwable;"⟩ ∈ TB := tb2 69 rfl rfl
theorem tw_2_70 : Cond.instanceMethod ⟨"java/lang/Throwable", "fillInStackTrace", "()Ljava/lang/Throwable;"⟩ ∈ TB := tb2 70 rfl rfl
theorem tw_2_72 : Cond.selects "java/lang/IllegalArgumentException" ⟨"java/lang/Throwable", "fillInStackTrace", "()Ljava/lang/Throwable;"⟩ ⟨"java/lang/Throwable", "fillInStackTrace", "()Ljava/lang/Throwable;"⟩ ∈ TB := tb2 72 rfl rfl
theorem tw_2_73 : Cond.selects "java/lang/IllegalStateException" ⟨"java/lang/Throwable", "fillInStackTrace", "()Ljava/lang/Throwable;"⟩ ⟨"java/lang/Throwable", "fillInStackTrace", "()Ljava/lang/Throwable;"⟩ ∈ TB := tb2 73 rfl rfl
theorem tw_2_75 : Cond.methodLink "java/lang/Throwable" 202 ⟨"java/lang/Throwable", "fillInStackTrace", "(I)Ljava/lang/Throwable;"⟩ ∈ TB := tb2 75 rfl rfl
theorem tw_2_77 : Cond.instanceMethod ⟨"java/lang/Throwable", "fillInStackTrace", "(I)Ljava/lang/Throwable;"⟩ ∈ TB := tb2 77 rfl rfl
theorem tw_2_78 : Cond.instantiable "java/lang/Throwable" 6 ∈ TB := tb2 78 rfl rfl
theorem tw_2_79 : Cond.native ⟨"java/lang/Throwable", "fillInStackTrace", "(I)Ljava/lang/Throwable;"⟩ ∈ TB := tb2 79 rfl rfl
theorem tw_2_81 : Cond.methodLink "GemCut" 223 ⟨"java/lang/IndexOutOfBoundsException", "<init>", "(Ljava/lang/String;)V"⟩ ∈ TB := tb2 81 rfl rfl
theorem tw_2_82 : Cond.instanceMethod ⟨"java/lang/IndexOutOfBoundsException", "<init>", "(Ljava/lang/String;)V"⟩ ∈ TB := tb2 82 rfl rfl
theorem tw_2_83 : Cond.code ⟨"java/lang/IndexOutOfBoundsException", "<init>", "(Ljava/lang/String;)V"⟩ prog_13_method_2_code 2 none ∈ TB := tb2 83 rfl rfl
theorem tw_2_84 : Cond.methodLink "java/lang/IndexOutOfBoundsException" 7 ⟨"java/lang/RuntimeException", "<init>", "(Ljava/lang/String;)V"⟩ ∈ TB := tb2 84 rfl rfl
theorem tw_2_85 : Cond.instanceMethod ⟨"java/lang/RuntimeException", "<init>", "(Ljava/lang/String;)V"⟩ ∈ TB := tb2 85 rfl rfl
theorem tw_2_86 : Cond.code ⟨"java/lang/RuntimeException", "<init>", "(Ljava/lang/String;)V"⟩ prog_16_method_2_code 2 none ∈ TB := tb2 86 rfl rfl
theorem tw_2_87 : Cond.methodLink "java/lang/RuntimeException" 7 ⟨"java/lang/Exception", "<init>", "(Ljava/lang/String;)V"⟩ ∈ TB := tb2 87 rfl rfl
theorem tw_2_88 : Cond.instanceMethod ⟨"java/lang/Exception", "<init>", "(Ljava/lang/String;)V"⟩ ∈ TB := tb2 88 rfl rfl
theorem tw_2_89 : Cond.code ⟨"java/lang/Exception", "<init>", "(Ljava/lang/String;)V"⟩ prog_10_method_2_code 2 none ∈ TB := tb2 89 rfl rfl
theorem tw_2_90 : Cond.methodLink "java/lang/Exception" 7 ⟨"java/lang/Throwable", "<init>", "(Ljava/lang/String;)V"⟩ ∈ TB := tb2 90 rfl rfl
theorem tw_2_91 : Cond.instanceMethod ⟨"java/lang/Throwable", "<init>", "(Ljava/lang/String;)V"⟩ ∈ TB := tb2 91 rfl rfl
theorem tw_2_92 : Cond.code ⟨"java/lang/Throwable", "<init>", "(Ljava/lang/String;)V"⟩ prog_18_method_2_code 2 none ∈ TB := tb2 92 rfl rfl
theorem tw_2_94 : Cond.fieldLink "java/lang/Throwable" 31 "java/lang/Throwable" "detailMessage" "Ljava/lang/String;" ∈ TB := tb2 94 rfl rfl
theorem tw_2_95 : Cond.fieldLink "java/lang/Throwable" 7 "java/lang/Throwable" "cause" "Ljava/lang/Throwable;" ∈ TB := tb2 95 rfl rfl
theorem tw_2_96 : Cond.fieldLink "java/lang/Throwable" 17 "java/lang/Throwable" "stackTrace" "[Ljava/lang/StackTraceElement;" ∈ TB := tb2 96 rfl rfl
theorem tw_2_97 : Cond.fieldLink "java/lang/Throwable" 24 "java/lang/Throwable" "suppressedExceptions" "Ljava/util/List;" ∈ TB := tb2 97 rfl rfl
theorem tw_2_102 : Cond.lays "java/lang/IndexOutOfBoundsException" "java/lang/Throwable" "depth" "I" ∈ TB := tb2 102 rfl rfl
theorem tw_2_106 : Cond.arrayClass FieldType.byte ∈ TB := tb2 106 rfl rfl
theorem tw_2_107 : Cond.methodLink "GemCut" 71 yX2_ownerAt ∈ TB := tb2 107 rfl rfl
theorem tw_2_108 : Cond.methodLink "GemCutLaw" 120 yX5_flawIn ∈ TB := tb2 108 rfl rfl
theorem tw_2_109 : Cond.instanceMethod yX5_flawIn ∈ TB := tb2 109 rfl rfl
theorem tw_2_110 : Cond.selects "GemCut" yX5_flawIn yX5_flawIn ∈ TB := tb2 110 rfl rfl
theorem tw_2_111 : Cond.code yX5_flawIn cX5_flawIn 4 (some FieldType.int) ∈ TB := tb2 111 rfl rfl
theorem tw_2_112 : Cond.methodLink "GemCut" 75 yX5_wantFlaw ∈ TB := tb2 112 rfl rfl
theorem tw_2_114 : Cond.instanceMethod yX5_wantFlaw ∈ TB := tb2 114 rfl rfl
theorem tw_2_115 : Cond.code yX5_wantFlaw cX5_wantFlaw 2 none ∈ TB := tb2 115 rfl rfl
theorem tw_2_117 : Cond.methodLink "GemCut" 78 yX5_wantStone ∈ TB := tb2 117 rfl rfl
theorem tw_2_119 : Cond.instanceMethod yX5_wantStone ∈ TB := tb2 119 rfl rfl
theorem tw_2_120 : Cond.code yX5_wantStone cX5_wantStone 2 none ∈ TB := tb2 120 rfl rfl
theorem tw_2_122 : Cond.methodLink "GemCut" 81 yX5_wantWhat ∈ TB := tb2 122 rfl rfl
theorem tw_2_123 : Cond.static yX5_wantWhat ∈ TB := tb2 123 rfl rfl
theorem tw_2_124 : Cond.code yX5_wantWhat cX5_wantWhat 2 none ∈ TB := tb2 124 rfl rfl
theorem tw_2_126 : Cond.methodLink "GemCut" 85 yX5_tellOfFlaw ∈ TB := tb2 126 rfl rfl
theorem tw_2_128 : Cond.instanceMethod yX5_tellOfFlaw ∈ TB := tb2 128 rfl rfl
theorem tw_2_129 : Cond.code yX5_tellOfFlaw cX5_tellOfFlaw 5 (some FieldType.int) ∈ TB := tb2 129 rfl rfl
theorem tw_2_130 : Cond.methodLink "GemCut" 191 yX0_stateIn ∈ TB := tb2 130 rfl rfl
theorem tw_2_131 : Cond.instanceMethod yX0_stateIn ∈ TB := tb2 131 rfl rfl
theorem tw_2_132 : Cond.selects "GemCut$Flaw" yX0_stateIn yX0_stateIn ∈ TB := tb2 132 rfl rfl
theorem tw_2_133 : Cond.code yX0_stateIn cX0_stateIn 2 (some FieldType.int) ∈ TB := tb2 133 rfl rfl
theorem tw_2_134 : Cond.methodLink "GemCutLaw" 74 yX5_saw ∈ TB := tb2 134 rfl rfl
theorem tw_2_135 : Cond.instanceMethod yX5_saw ∈ TB := tb2 135 rfl rfl
theorem tw_2_136 : Cond.selects "GemCut" yX5_saw yX5_saw ∈ TB := tb2 136 rfl rfl
theorem tw_2_137 : Cond.code yX5_saw cX5_saw 8 (some FieldType.int) ∈ TB := tb2 137 rfl rfl
theorem tw_2_138 : Cond.methodLink "GemCut" 88 yX5_wantSlope ∈ TB := tb2 138 rfl rfl
theorem tw_2_139 : Cond.static yX5_wantSlope ∈ TB := tb2 139 rfl rfl
theorem tw_2_140 : Cond.code yX5_wantSlope cX5_wantSlope 3 none ∈ TB := tb2 140 rfl rfl
theorem tw_2_141 : Cond.methodLink "GemCut" 232 yX5_isSteepness ∈ TB := tb2 141 rfl rfl
theorem tw_2_142 : Cond.static yX5_isSteepness ∈ TB := tb2 142 rfl rfl
theorem tw_2_143 : Cond.code yX5_isSteepness cX5_isSteepness 1 (some FieldType.boolean) ∈ TB := tb2 143 rfl rfl
theorem tw_2_144 : Cond.classLink "GemCut" 42 "java/lang/IllegalArgumentException" ∈ TB := tb2 144 rfl rfl
theorem tw_2_145 : Cond.instantiable "java/lang/IllegalArgumentException" 6 ∈ TB := tb2 145 rfl rfl
theorem tw_2_147 : Cond.selects "java/lang/IllegalArgumentException" ⟨"java/lang/Throwable", "fillInStackTrace", "(I)Ljava/lang/Throwable;"⟩ ⟨"java/lang/Throwable", "fillInStackTrace", "(I)Ljava/lang/Throwable;"⟩ ∈ TB := tb2 147 rfl rfl
theorem tw_2_148 : Cond.lays "java/lang/IllegalArgumentException" "java/lang/Throwable" "cause" "Ljava/lang/Throwable;" ∈ TB := tb2 148 rfl rfl
theorem tw_2_149 : Cond.lays "java/lang/IllegalArgumentException" "java/lang/Throwable" "stackTrace" "[Ljava/lang/StackTraceElement;" ∈ TB := tb2 149 rfl rfl
theorem tw_2_150 : Cond.lays "java/lang/IllegalArgumentException" "java/lang/Throwable" "suppressedExceptions" "Ljava/util/List;" ∈ TB := tb2 150 rfl rfl
theorem tw_2_151 : Cond.lays "java/lang/IllegalArgumentException" "java/lang/Throwable" "detailMessage" "Ljava/lang/String;" ∈ TB := tb2 151 rfl rfl
theorem tw_2_152 : Cond.lays "java/lang/IllegalArgumentException" "java/lang/Throwable" "backtrace" "Ljava/lang/Object;" ∈ TB := tb2 152 rfl rfl
theorem tw_2_154 : Cond.methodLink "GemCut" 46 ⟨"java/lang/IllegalArgumentException", "<init>", "(Ljava/lang/String;)V"⟩ ∈ TB := tb2 154 rfl rfl
theorem tw_2_155 : Cond.instanceMethod ⟨"java/lang/IllegalArgumentException", "<init>", "(Ljava/lang/String;)V"⟩ ∈ TB := tb2 155 rfl rfl
theorem tw_2_156 : Cond.code ⟨"java/lang/IllegalArgumentException", "<init>", "(Ljava/lang/String;)V"⟩ prog_11_method_2_code 2 none ∈ TB := tb2 156 rfl rfl
theorem tw_2_157 : Cond.methodLink "java/lang/IllegalArgumentException" 7 ⟨"java/lang/RuntimeException", "<init>", "(Ljava/lang/String;)V"⟩ ∈ TB := tb2 157 rfl rfl
theorem tw_2_158 : Cond.lays "java/lang/IllegalArgumentException" "java/lang/Throwable" "depth" "I" ∈ TB := tb2 158 rfl rfl
theorem tw_2_160 : Cond.methodLink "GemCut" 91 yX5_wantDepth ∈ TB := tb2 160 rfl rfl
theorem tw_2_161 : Cond.static yX5_wantDepth ∈ TB := tb2 161 rfl rfl
theorem tw_2_162 : Cond.code yX5_wantDepth cX5_wantDepth 1 none ∈ TB := tb2 162 rfl rfl
theorem tw_2_164 : Cond.methodLink "GemCut" 94 yX4_level ∈ TB := tb2 164 rfl rfl
theorem tw_2_165 : Cond.instanceMethod yX4_level ∈ TB := tb2 165 rfl rfl
theorem tw_2_166 : Cond.selects "GemCut$Trial" yX4_level yX4_level ∈ TB := tb2 166 rfl rfl
theorem tw_2_167 : Cond.code yX4_level cX4_level 9 none ∈ TB := tb2 167 rfl rfl
theorem tw_2_168 : Cond.methodLink "GemCut$Trial" 36 yX1_set ∈ TB := tb2 168 rfl rfl
theorem tw_2_169 : Cond.instanceMethod yX1_set ∈ TB := tb2 169 rfl rfl
theorem tw_2_170 : Cond.selects "GemCut$Plane" yX1_set yX1_set ∈ TB := tb2 170 rfl rfl
theorem tw_2_171 : Cond.code yX1_set cX1_set 5 none ∈ TB := tb2 171 rfl rfl
theorem tw_2_172 : Cond.methodLink "GemCut$Plane" 22 ⟨"java/lang/Math", "abs", "(I)I"⟩ ∈ TB := tb2 172 rfl rfl
theorem tw_2_173 : Cond.static ⟨"java/lang/Math", "abs", "(I)I"⟩ ∈ TB := tb2 173 rfl rfl
theorem tw_2_174 : Cond.code ⟨"java/lang/Math", "abs", "(I)I"⟩ prog_15_method_59_code 1 (some FieldType.int) ∈ TB := tb2 174 rfl rfl
theorem tw_2_175 : Cond.methodLink "GemCut$Plane" 28 ⟨"java/lang/Math", "max", "(II)I"⟩ ∈ TB := tb2 175 rfl rfl
theorem tw_2_176 : Cond.static ⟨"java/lang/Math", "max", "(II)I"⟩ ∈ TB := tb2 176 rfl rfl
theorem tw_2_177 : Cond.code ⟨"java/lang/Math", "max", "(II)I"⟩ prog_15_method_65_code 2 (some FieldType.int) ∈ TB := tb2 177 rfl rfl
theorem tw_2_178 : Cond.methodLink "GemCut$Trial" 52 yX1_heightOf ∈ TB := tb2 178 rfl rfl
theorem tw_2_179 : Cond.methodLink "GemCut$Trial" 56 yX4_levelCell ∈ TB := tb2 179 rfl rfl
theorem tw_2_181 : Cond.instanceMethod yX4_levelCell ∈ TB := tb2 181 rfl rfl
theorem tw_2_182 : Cond.code yX4_levelCell cX4_levelCell 3 none ∈ TB := tb2 182 rfl rfl
theorem tw_2_183 : Cond.methodLink "GemCut" 98 yX4_lossAt ∈ TB := tb2 183 rfl rfl
theorem tw_2_184 : Cond.instanceMethod yX4_lossAt ∈ TB := tb2 184 rfl rfl
theorem tw_2_185 : Cond.selects "GemCut$Trial" yX4_lossAt yX4_lossAt ∈ TB := tb2 185 rfl rfl
theorem tw_2_186 : Cond.code yX4_lossAt cX4_lossAt 2 (some FieldType.int) ∈ TB := tb2 186 rfl rfl
theorem tw_2_187 : Cond.methodLink "GemCut$Trial" 95 yX4_weightAt ∈ TB := tb2 187 rfl rfl
theorem tw_2_188 : Cond.instanceMethod yX4_weightAt ∈ TB := tb2 188 rfl rfl
theorem tw_2_189 : Cond.selects "GemCut$Trial" yX4_weightAt yX4_weightAt ∈ TB := tb2 189 rfl rfl
theorem tw_2_190 : Cond.code yX4_weightAt cX4_weightAt 2 (some FieldType.int) ∈ TB := tb2 190 rfl rfl
theorem tw_2_191 : Cond.methodLink "GemCut$Trial" 86 ⟨"java/lang/Math", "min", "(II)I"⟩ ∈ TB := tb2 191 rfl rfl
theorem tw_2_192 : Cond.static ⟨"java/lang/Math", "min", "(II)I"⟩ ∈ TB := tb2 192 rfl rfl
theorem tw_2_193 : Cond.code ⟨"java/lang/Math", "min", "(II)I"⟩ prog_15_method_69_code 2 (some FieldType.int) ∈ TB := tb2 193 rfl rfl
theorem tw_2_194 : Cond.classLink "GemCut" 62 "java/lang/IllegalStateException" ∈ TB := tb2 194 rfl rfl
theorem tw_2_195 : Cond.instantiable "java/lang/IllegalStateException" 6 ∈ TB := tb2 195 rfl rfl
theorem tw_2_197 : Cond.selects "java/lang/IllegalStateException" ⟨"java/lang/Throwable", "fillInStackTrace", "(I)Ljava/lang/Throwable;"⟩ ⟨"java/lang/Throwable", "fillInStackTrace", "(I)Ljava/lang/Throwable;"⟩ ∈ TB := tb2 197 rfl rfl
theorem tw_2_198 : Cond.lays "java/lang/IllegalStateException" "java/lang/Throwable" "cause" "Ljava/lang/Throwable;" ∈ TB := tb2 198 rfl rfl
theorem tw_2_199 : Cond.lays "java/lang/IllegalStateException" "java/lang/Throwable" "stackTrace" "[Ljava/lang/StackTraceElement;" ∈ TB := tb2 199 rfl rfl
theorem tw_2_200 : Cond.lays "java/lang/IllegalStateException" "java/lang/Throwable" "suppressedExceptions" "Ljava/util/List;" ∈ TB := tb2 200 rfl rfl
theorem tw_2_201 : Cond.lays "java/lang/IllegalStateException" "java/lang/Throwable" "detailMessage" "Ljava/lang/String;" ∈ TB := tb2 201 rfl rfl
theorem tw_2_202 : Cond.lays "java/lang/IllegalStateException" "java/lang/Throwable" "backtrace" "Ljava/lang/Object;" ∈ TB := tb2 202 rfl rfl
theorem tw_2_204 : Cond.methodLink "GemCut" 66 ⟨"java/lang/IllegalStateException", "<init>", "(Ljava/lang/String;)V"⟩ ∈ TB := tb2 204 rfl rfl
theorem tw_2_205 : Cond.instanceMethod ⟨"java/lang/IllegalStateException", "<init>", "(Ljava/lang/String;)V"⟩ ∈ TB := tb2 205 rfl rfl
theorem tw_2_206 : Cond.code ⟨"java/lang/IllegalStateException", "<init>", "(Ljava/lang/String;)V"⟩ prog_12_method_2_code 2 none ∈ TB := tb2 206 rfl rfl
theorem tw_2_207 : Cond.methodLink "java/lang/IllegalStateException" 7 ⟨"java/lang/RuntimeException", "<init>", "(Ljava/lang/String;)V"⟩ ∈ TB := tb2 207 rfl rfl
theorem tw_2_208 : Cond.lays "java/lang/IllegalStateException" "java/lang/Throwable" "depth" "I" ∈ TB := tb2 208 rfl rfl
theorem tw_2_210 : Cond.methodLink "GemCut" 113 yX4_giveAbove ∈ TB := tb2 210 rfl rfl
theorem tw_2_211 : Cond.instanceMethod yX4_giveAbove ∈ TB := tb2 211 rfl rfl
theorem tw_2_212 : Cond.selects "GemCut$Trial" yX4_giveAbove yX4_giveAbove ∈ TB := tb2 212 rfl rfl
theorem tw_2_213 : Cond.code yX4_giveAbove cX4_giveAbove 5 none ∈ TB := tb2 213 rfl rfl
theorem tw_2_214 : Cond.methodLink "GemCut$Trial" 99 yX2_size ∈ TB := tb2 214 rfl rfl
theorem tw_2_215 : Cond.methodLink "GemCutLaw" 90 yX5_cut ∈ TB := tb2 215 rfl rfl
theorem tw_2_216 : Cond.instanceMethod yX5_cut ∈ TB := tb2 216 rfl rfl
theorem tw_2_217 : Cond.selects "GemCut" yX5_cut yX5_cut ∈ TB := tb2 217 rfl rfl
theorem tw_2_218 : Cond.code yX5_cut cX5_cut 9 (some FieldType.int) ∈ TB := tb2 218 rfl rfl
theorem tw_2_220 : Cond.methodLink "GemCut" 127 yX3_keep ∈ TB := tb2 220 rfl rfl
theorem tw_2_221 : Cond.instanceMethod yX3_keep ∈ TB := tb2 221 rfl rfl
theorem tw_2_222 : Cond.selects "GemCut$Stone" yX3_keep yX3_keep ∈ TB := tb2 222 rfl rfl
theorem tw_2_223 : Cond.code yX3_keep cX3_keep 5 none ∈ TB := tb2 223 rfl rfl
theorem tw_2_224 : Cond.methodLink "GemCut$Stone" 38 yX1_set ∈ TB := tb2 224 rfl rfl
theorem tw_2_225 : Cond.methodLink "GemCut" 131 yX5_spend ∈ TB := tb2 225 rfl rfl
theorem tw_2_227 : Cond.instanceMethod yX5_spend ∈ TB := tb2 227 rfl rfl
theorem tw_2_228 : Cond.code yX5_spend cX5_spend 2 none ∈ TB := tb2 228 rfl rfl
theorem tw_2_229 : Cond.methodLink "GemCutLaw" 83 yX5_polish ∈ TB := tb2 229 rfl rfl
theorem tw_2_230 : Cond.instanceMethod yX5_polish ∈ TB := tb2 230 rfl rfl
theorem tw_2_231 : Cond.selects "GemCut" yX5_polish yX5_polish ∈ TB := tb2 231 rfl rfl
theorem tw_2_232 : Cond.code yX5_polish cX5_polish 5 (some FieldType.int) ∈ TB := tb2 232 rfl rfl
theorem tw_2_233 : Cond.methodLink "GemCut" 134 yX5_wantPlane ∈ TB := tb2 233 rfl rfl
theorem tw_2_235 : Cond.instanceMethod yX5_wantPlane ∈ TB := tb2 235 rfl rfl
theorem tw_2_236 : Cond.code yX5_wantPlane cX5_wantPlane 3 none ∈ TB := tb2 236 rfl rfl
theorem tw_2_238 : Cond.methodLink "GemCut" 146 yX1_isFacet ∈ TB := tb2 238 rfl rfl
theorem tw_2_239 : Cond.instanceMethod yX1_isFacet ∈ TB := tb2 239 rfl rfl
theorem tw_3_0 : Cond.selects "GemCut$Plane" yX1_isFacet yX1_isFacet ∈ TB := tb3 0 rfl rfl
theorem tw_3_1 : Cond.code yX1_isFacet cX1_isFacet 1 (some FieldType.boolean) ∈ TB := tb3 1 rfl rfl
theorem tw_3_3 : Cond.methodLink "GemCutLaw" 86 yX5_dress ∈ TB := tb3 3 rfl rfl
theorem tw_3_4 : Cond.instanceMethod yX5_dress ∈ TB := tb3 4 rfl rfl
theorem tw_3_5 : Cond.selects "GemCut" yX5_dress yX5_dress ∈ TB := tb3 5 rfl rfl
theorem tw_3_6 : Cond.code yX5_dress cX5_dress 2 (some FieldType.int) ∈ TB := tb3 6 rfl rfl
theorem tw_3_7 : Cond.methodLink "GemCutLaw" 105 yX5_stone ∈ TB := tb3 7 rfl rfl
theorem tw_3_8 : Cond.instanceMethod yX5_stone ∈ TB := tb3 8 rfl rfl
theorem tw_3_9 : Cond.selects "GemCut" yX5_stone yX5_stone ∈ TB := tb3 9 rfl rfl
theorem tw_3_10 : Cond.code yX5_stone cX5_stone 3 (some FieldType.int) ∈ TB := tb3 10 rfl rfl
theorem tw_3_11 : Cond.methodLink "GemCut" 156 yX5_tellOfStone ∈ TB := tb3 11 rfl rfl
theorem tw_3_13 : Cond.instanceMethod yX5_tellOfStone ∈ TB := tb3 13 rfl rfl
theorem tw_3_14 : Cond.code yX5_tellOfStone cX5_tellOfStone 3 (some FieldType.int) ∈ TB := tb3 14 rfl rfl
theorem tw_3_15 : Cond.methodLink "GemCut" 281 yX3_facets ∈ TB := tb3 15 rfl rfl
theorem tw_3_16 : Cond.instanceMethod yX3_facets ∈ TB := tb3 16 rfl rfl
theorem tw_3_17 : Cond.selects "GemCut$Stone" yX3_facets yX3_facets ∈ TB := tb3 17 rfl rfl
theorem tw_3_18 : Cond.code yX3_facets cX3_facets 4 (some FieldType.int) ∈ TB := tb3 18 rfl rfl
theorem tw_3_19 : Cond.methodLink "GemCut$Stone" 42 yX1_isFacet ∈ TB := tb3 19 rfl rfl
theorem tw_3_20 : Cond.methodLink "GemCut" 285 yX3_oppositePairs ∈ TB := tb3 20 rfl rfl
theorem tw_3_21 : Cond.instanceMethod yX3_oppositePairs ∈ TB := tb3 21 rfl rfl
theorem tw_3_22 : Cond.selects "GemCut$Stone" yX3_oppositePairs yX3_oppositePairs ∈ TB := tb3 22 rfl rfl
theorem tw_3_23 : Cond.code yX3_oppositePairs cX3_oppositePairs 4 (some FieldType.int) ∈ TB := tb3 23 rfl rfl
theorem tw_3_24 : Cond.methodLink "GemCut$Stone" 50 yX1_isOpposite ∈ TB := tb3 24 rfl rfl
theorem tw_3_25 : Cond.instanceMethod yX1_isOpposite ∈ TB := tb3 25 rfl rfl
theorem tw_3_26 : Cond.selects "GemCut$Plane" yX1_isOpposite yX1_isOpposite ∈ TB := tb3 26 rfl rfl
theorem tw_3_27 : Cond.code yX1_isOpposite cX1_isOpposite 2 (some FieldType.boolean) ∈ TB := tb3 27 rfl rfl
theorem tw_3_28 : Cond.methodLink "GemCut" 291 yX5_flawsOfState ∈ TB := tb3 28 rfl rfl
theorem tw_3_30 : Cond.instanceMethod yX5_flawsOfState ∈ TB := tb3 30 rfl rfl
theorem tw_3_31 : Cond.code yX5_flawsOfState cX5_flawsOfState 5 (some FieldType.int) ∈ TB := tb3 31 rfl rfl
theorem tw_3_32 : Cond.methodLink "GemCut" 295 yX5_worthOf ∈ TB := tb3 32 rfl rfl
theorem tw_3_34 : Cond.instanceMethod yX5_worthOf ∈ TB := tb3 34 rfl rfl
theorem tw_3_35 : Cond.code yX5_worthOf cX5_worthOf 5 (some FieldType.int) ∈ TB := tb3 35 rfl rfl
theorem tw_3_36 : Cond.methodLink "GemCut" 308 yX0_pointsIf ∈ TB := tb3 36 rfl rfl
theorem tw_3_37 : Cond.instanceMethod yX0_pointsIf ∈ TB := tb3 37 rfl rfl
theorem tw_3_38 : Cond.selects "GemCut$Flaw" yX0_pointsIf yX0_pointsIf ∈ TB := tb3 38 rfl rfl
theorem tw_3_39 : Cond.code yX0_pointsIf cX0_pointsIf 2 (some FieldType.int) ∈ TB := tb3 39 rfl rfl
theorem tw_3_40 : Cond.methodLink "GemCut" 311 yX5_worthBy ∈ TB := tb3 40 rfl rfl
theorem tw_3_41 : Cond.static yX5_worthBy ∈ TB := tb3 41 rfl rfl
theorem tw_3_42 : Cond.code yX5_worthBy cX5_worthBy 6 (some FieldType.int) ∈ TB := tb3 42 rfl rfl
theorem tw_3_43 : Cond.methodLink "GemCut" 315 ⟨"java/lang/Math", "max", "(II)I"⟩ ∈ TB := tb3 43 rfl rfl
theorem tw_3_44 : Cond.methodLink "GemCutLaw" 116 yX5_plane ∈ TB := tb3 44 rfl rfl
theorem tw_3_45 : Cond.instanceMethod yX5_plane ∈ TB := tb3 45 rfl rfl
theorem tw_3_46 : Cond.selects "GemCut" yX5_plane yX5_plane ∈ TB := tb3 46 rfl rfl
theorem tw_3_47 : Cond.code yX5_plane cX5_plane 4 (some FieldType.int) ∈ TB := tb3 47 rfl rfl
theorem tw_3_48 : Cond.methodLink "GemCut" 160 yX1_tell ∈ TB := tb3 48 rfl rfl
theorem tw_3_49 : Cond.instanceMethod yX1_tell ∈ TB := tb3 49 rfl rfl
theorem tw_3_50 : Cond.selects "GemCut$Plane" yX1_tell yX1_tell ∈ TB := tb3 50 rfl rfl
theorem tw_3_51 : Cond.code yX1_tell cX1_tell 2 (some FieldType.int) ∈ TB := tb3 51 rfl rfl
theorem tw_3_52 : Cond.methodLink "GemCutLaw" 101 yX5_count ∈ TB := tb3 52 rfl rfl
theorem tw_3_53 : Cond.instanceMethod yX5_count ∈ TB := tb3 53 rfl rfl
theorem tw_3_54 : Cond.selects "GemCut" yX5_count yX5_count ∈ TB := tb3 54 rfl rfl
theorem tw_3_55 : Cond.code yX5_count cX5_count 2 (some FieldType.int) ∈ TB := tb3 55 rfl rfl
theorem tw_3_56 : Cond.methodLink "GemCut" 167 yX5_tellCount ∈ TB := tb3 56 rfl rfl
theorem tw_3_58 : Cond.instanceMethod yX5_tellCount ∈ TB := tb3 58 rfl rfl
theorem tw_3_59 : Cond.code yX5_tellCount cX5_tellCount 2 (some FieldType.int) ∈ TB := tb3 59 rfl rfl
theorem tw_3_60 : Cond.methodLink "GemCut" 49 yX2_size ∈ TB := tb3 60 rfl rfl
theorem tw_3_61 : Cond.methodLink "GemCut" 200 yX5_cellsOfStones ∈ TB := tb3 61 rfl rfl
theorem tw_3_63 : Cond.instanceMethod yX5_cellsOfStones ∈ TB := tb3 63 rfl rfl
theorem tw_3_64 : Cond.code yX5_cellsOfStones cX5_cellsOfStones 3 (some FieldType.int) ∈ TB := tb3 64 rfl rfl
theorem tw_3_65 : Cond.methodLink "GemCut" 302 yX5_stonesLeft ∈ TB := tb3 65 rfl rfl
theorem tw_3_67 : Cond.instanceMethod yX5_stonesLeft ∈ TB := tb3 67 rfl rfl
theorem tw_3_68 : Cond.code yX5_stonesLeft cX5_stonesLeft 3 (some FieldType.int) ∈ TB := tb3 68 rfl rfl
theorem tw_3_69 : Cond.methodLink "GemCut" 305 yX5_worthOfStones ∈ TB := tb3 69 rfl rfl
theorem tw_3_71 : Cond.instanceMethod yX5_worthOfStones ∈ TB := tb3 71 rfl rfl
theorem tw_3_72 : Cond.code yX5_worthOfStones cX5_worthOfStones 3 (some FieldType.int) ∈ TB := tb3 72 rfl rfl
theorem tw_3_73 : Cond.methodLink "GemCutLaw" 108 yX5_would ∈ TB := tb3 73 rfl rfl
theorem tw_3_74 : Cond.instanceMethod yX5_would ∈ TB := tb3 74 rfl rfl
theorem tw_3_75 : Cond.selects "GemCut" yX5_would yX5_would ∈ TB := tb3 75 rfl rfl
theorem tw_3_76 : Cond.code yX5_would cX5_would 7 (some FieldType.int) ∈ TB := tb3 76 rfl rfl
theorem tw_3_77 : Cond.methodLink "GemCut" 170 yX4_aim ∈ TB := tb3 77 rfl rfl
theorem tw_3_78 : Cond.instanceMethod yX4_aim ∈ TB := tb3 78 rfl rfl
theorem tw_3_79 : Cond.selects "GemCut$Trial" yX4_aim yX4_aim ∈ TB := tb3 79 rfl rfl
theorem tw_3_80 : Cond.code yX4_aim cX4_aim 9 none ∈ TB := tb3 80 rfl rfl
theorem tw_3_81 : Cond.methodLink "GemCut$Trial" 68 yX4_level ∈ TB := tb3 81 rfl rfl
theorem tw_3_82 : Cond.methodLink "GemCut$Trial" 72 yX4_lowerFloors ∈ TB := tb3 82 rfl rfl
theorem tw_3_84 : Cond.instanceMethod yX4_lowerFloors ∈ TB := tb3 84 rfl rfl
theorem tw_3_85 : Cond.code yX4_lowerFloors cX4_lowerFloors 6 none ∈ TB := tb3 85 rfl rfl
theorem tw_3_86 : Cond.methodLink "GemCut$Trial" 82 yX1_touches ∈ TB := tb3 86 rfl rfl
theorem tw_3_87 : Cond.methodLink "GemCut" 173 yX4_worthAt ∈ TB := tb3 87 rfl rfl
theorem tw_3_88 : Cond.instanceMethod yX4_worthAt ∈ TB := tb3 88 rfl rfl
theorem tw_3_89 : Cond.selects "GemCut$Trial" yX4_worthAt yX4_worthAt ∈ TB := tb3 89 rfl rfl
theorem tw_3_90 : Cond.code yX4_worthAt cX4_worthAt 4 (some FieldType.int) ∈ TB := tb3 90 rfl rfl
theorem tw_3_91 : Cond.methodLink "GemCut$Trial" 140 yX4_stateAt ∈ TB := tb3 91 rfl rfl
theorem tw_3_92 : Cond.instanceMethod yX4_stateAt ∈ TB := tb3 92 rfl rfl
theorem tw_3_93 : Cond.selects "GemCut$Trial" yX4_stateAt yX4_stateAt ∈ TB := tb3 93 rfl rfl
theorem tw_3_94 : Cond.code yX4_stateAt cX4_stateAt 6 (some FieldType.int) ∈ TB := tb3 94 rfl rfl
theorem tw_3_95 : Cond.methodLink "GemCut$Trial" 144 yX0_pointsIf ∈ TB := tb3 95 rfl rfl
theorem tw_3_96 : Cond.methodLink "GemCut$Trial" 147 yX4_polishedAt ∈ TB := tb3 96 rfl rfl
theorem tw_3_97 : Cond.instanceMethod yX4_polishedAt ∈ TB := tb3 97 rfl rfl
theorem tw_3_98 : Cond.selects "GemCut$Trial" yX4_polishedAt yX4_polishedAt ∈ TB := tb3 98 rfl rfl
theorem tw_3_99 : Cond.code yX4_polishedAt cX4_polishedAt 4 (some FieldType.int) ∈ TB := tb3 99 rfl rfl
theorem tw_3_100 : Cond.methodLink "GemCut$Trial" 150 yX4_pairsAt ∈ TB := tb3 100 rfl rfl
theorem tw_3_101 : Cond.instanceMethod yX4_pairsAt ∈ TB := tb3 101 rfl rfl
theorem tw_3_102 : Cond.selects "GemCut$Trial" yX4_pairsAt yX4_pairsAt ∈ TB := tb3 102 rfl rfl
theorem tw_3_103 : Cond.code yX4_pairsAt cX4_pairsAt 5 (some FieldType.int) ∈ TB := tb3 103 rfl rfl
theorem tw_3_104 : Cond.methodLink "GemCut$Trial" 106 yX4_wouldBeFacet ∈ TB := tb3 104 rfl rfl
theorem tw_3_105 : Cond.instanceMethod yX4_wouldBeFacet ∈ TB := tb3 105 rfl rfl
theorem tw_3_106 : Cond.selects "GemCut$Trial" yX4_wouldBeFacet yX4_wouldBeFacet ∈ TB := tb3 106 rfl rfl
theorem tw_3_107 : Cond.code yX4_wouldBeFacet cX4_wouldBeFacet 2 (some FieldType.boolean) ∈ TB := tb3 107 rfl rfl
theorem tw_3_108 : Cond.methodLink "GemCut$Trial" 110 yX1_isOpposite ∈ TB := tb3 108 rfl rfl
theorem tw_3_109 : Cond.methodLink "GemCut$Trial" 114 yX4_laterOpposites ∈ TB := tb3 109 rfl rfl
theorem tw_3_111 : Cond.instanceMethod yX4_laterOpposites ∈ TB := tb3 111 rfl rfl
theorem tw_3_112 : Cond.code yX4_laterOpposites cX4_laterOpposites 5 (some FieldType.int) ∈ TB := tb3 112 rfl rfl
theorem tw_3_114 : Cond.methodLink "GemCut" 176 yX4_openFlawsAt ∈ TB := tb3 114 rfl rfl
theorem tw_3_115 : Cond.instanceMethod yX4_openFlawsAt ∈ TB := tb3 115 rfl rfl
theorem tw_3_116 : Cond.selects "GemCut$Trial" yX4_openFlawsAt yX4_openFlawsAt ∈ TB := tb3 116 rfl rfl
theorem tw_3_117 : Cond.code yX4_openFlawsAt cX4_openFlawsAt 4 (some FieldType.int) ∈ TB := tb3 117 rfl rfl
theorem tw_3_118 : Cond.methodLink "GemCut" 179 yX4_pairsAt ∈ TB := tb3 118 rfl rfl
theorem tw_3_119 : Cond.methodLink "GemCutLaw" 112 yX5_depth ∈ TB := tb3 119 rfl rfl
theorem tw_3_120 : Cond.instanceMethod yX5_depth ∈ TB := tb3 120 rfl rfl
theorem tw_3_121 : Cond.selects "GemCut" yX5_depth yX5_depth ∈ TB := tb3 121 rfl rfl
theorem tw_3_122 : Cond.code yX5_depth cX5_depth 5 (some FieldType.int) ∈ TB := tb3 122 rfl rfl
theorem tw_3_124 : Cond.methodLink "GemCut" 184 yX4_bestDepth ∈ TB := tb3 124 rfl rfl
theorem tw_3_125 : Cond.instanceMethod yX4_bestDepth ∈ TB := tb3 125 rfl rfl
theorem tw_3_126 : Cond.selects "GemCut$Trial" yX4_bestDepth yX4_bestDepth ∈ TB := tb3 126 rfl rfl
theorem tw_3_127 : Cond.code yX4_bestDepth cX4_bestDepth 5 (some FieldType.int) ∈ TB := tb3 127 rfl rfl
theorem tw_3_128 : Cond.methodLink "GemCut$Trial" 157 yX4_isWithin ∈ TB := tb3 128 rfl rfl
theorem tw_3_130 : Cond.instanceMethod yX4_isWithin ∈ TB := tb3 130 rfl rfl
theorem tw_3_131 : Cond.code yX4_isWithin cX4_isWithin 2 (some FieldType.boolean) ∈ TB := tb3 131 rfl rfl
theorem tw_3_132 : Cond.methodLink "GemCut$Trial" 160 yX4_worthAt ∈ TB := tb3 132 rfl rfl
theorem tw_3_133 : Cond.methodLink "GemCutLaw" 123 yX5_rid ∈ TB := tb3 133 rfl rfl
theorem tw_3_134 : Cond.instanceMethod yX5_rid ∈ TB := tb3 134 rfl rfl
theorem tw_3_135 : Cond.selects "GemCut" yX5_rid yX5_rid ∈ TB := tb3 135 rfl rfl
theorem tw_3_136 : Cond.code yX5_rid cX5_rid 5 (some FieldType.int) ∈ TB := tb3 136 rfl rfl
theorem tw_3_137 : Cond.methodLink "GemCut" 196 yX4_leastLoss ∈ TB := tb3 137 rfl rfl
theorem tw_3_138 : Cond.instanceMethod yX4_leastLoss ∈ TB := tb3 138 rfl rfl
theorem tw_3_139 : Cond.selects "GemCut$Trial" yX4_leastLoss yX4_leastLoss ∈ TB := tb3 139 rfl rfl
theorem tw_3_140 : Cond.code yX4_leastLoss cX4_leastLoss 12 (some FieldType.int) ∈ TB := tb3 140 rfl rfl
theorem tw_3_141 : Cond.methodLink "GemCut$Trial" 163 yX4_lowestOf ∈ TB := tb3 141 rfl rfl
theorem tw_3_143 : Cond.instanceMethod yX4_lowestOf ∈ TB := tb3 143 rfl rfl
theorem tw_3_144 : Cond.code yX4_lowestOf cX4_lowestOf 5 (some FieldType.int) ∈ TB := tb3 144 rfl rfl
theorem tw_3_145 : Cond.methodLink "GemCut$Trial" 167 yX4_lossAt ∈ TB := tb3 145 rfl rfl
theorem tw_3_146 : Cond.methodLink "GemCutLaw" 126 yX5_kept ∈ TB := tb3 146 rfl rfl
theorem tw_3_147 : Cond.instanceMethod yX5_kept ∈ TB := tb3 147 rfl rfl
theorem tw_3_148 : Cond.selects "GemCut" yX5_kept yX5_kept ∈ TB := tb3 148 rfl rfl
theorem tw_3_149 : Cond.code yX5_kept cX5_kept 2 (some FieldType.double) ∈ TB := tb3 149 rfl rfl
theorem tw_3_150 : Cond.methodLink "GemCutLaw" 9 yL_below ∈ TB := tb3 150 rfl rfl
theorem tw_3_151 : Cond.static yL_below ∈ TB := tb3 151 rfl rfl
theorem tw_3_152 : Cond.code yL_below cL_below 2 (some FieldType.int) ∈ TB := tb3 152 rfl rfl
theorem tw_3_153 : Cond.constant "GemCutLaw" 7 (2147483647 : Int32) ∈ TB := tb3 153 rfl rfl
theorem tw_3_154 : Cond.methodLink "GemCutLaw" 28 yL_cell ∈ TB := tb3 154 rfl rfl
theorem tw_3_155 : Cond.static yL_cell ∈ TB := tb3 155 rfl rfl
theorem tw_3_156 : Cond.code yL_cell cL_cell 2 (some FieldType.int) ∈ TB := tb3 156 rfl rfl
theorem tw_3_157 : Cond.constant "GemCutLaw" 8 (790386105 : Int32) ∈ TB := tb3 157 rfl rfl
theorem tw_3_158 : Cond.methodLink "GemCutLaw" 62 yL_plane ∈ TB := tb3 158 rfl rfl
theorem tw_3_159 : Cond.static yL_plane ∈ TB := tb3 159 rfl rfl
theorem tw_3_160 : Cond.code yL_plane cL_plane 6 (some (FieldType.array FieldType.int)) ∈ TB := tb3 160 rfl rfl
theorem tw_3_161 : Cond.methodLink "GemCutLaw" 15 ⟨"java/lang/Integer", "compare", "(II)I"⟩ ∈ TB := tb3 161 rfl rfl
theorem tw_3_162 : Cond.static ⟨"java/lang/Integer", "compare", "(II)I"⟩ ∈ TB := tb3 162 rfl rfl
theorem tw_3_163 : Cond.code ⟨"java/lang/Integer", "compare", "(II)I"⟩ prog_14_method_40_code 2 (some FieldType.int) ∈ TB := tb3 163 rfl rfl
theorem tw_3_164 : Cond.methodLink "GemCutLaw" 20 ⟨"java/lang/Math", "max", "(II)I"⟩ ∈ TB := tb3 164 rfl rfl
theorem tw_3_165 : Cond.methodLink "GemCutLaw" 25 ⟨"java/lang/Math", "min", "(II)I"⟩ ∈ TB := tb3 165 rfl rfl
theorem tw_3_166 : Cond.methodLink "GemCutLaw" 97 yL_build ∈ TB := tb3 166 rfl rfl
theorem tw_3_167 : Cond.static yL_build ∈ TB := tb3 167 rfl rfl
theorem tw_3_168 : Cond.code yL_build cL_build 9 (some (FieldType.object "GemCutLaw$Sim")) ∈ TB := tb3 168 rfl rfl
theorem tw_3_169 : Cond.methodLink "GemCutLaw" 32 yX5_take ∈ TB := tb3 169 rfl rfl
theorem tw_3_170 : Cond.instanceMethod yX5_take ∈ TB := tb3 170 rfl rfl
theorem tw_3_171 : Cond.selects "GemCut" yX5_take yX5_take ∈ TB := tb3 171 rfl rfl
theorem tw_3_172 : Cond.code yX5_take cX5_take 4 (some FieldType.int) ∈ TB := tb3 172 rfl rfl
theorem tw_3_173 : Cond.methodLink "GemCut" 38 yX5_isSide ∈ TB := tb3 173 rfl rfl
theorem tw_3_174 : Cond.static yX5_isSide ∈ TB := tb3 174 rfl rfl
theorem tw_3_175 : Cond.code yX5_isSide cX5_isSide 1 (some FieldType.boolean) ∈ TB := tb3 175 rfl rfl
theorem tw_3_177 : Cond.classLink "GemCutLaw" 38 "GemCutLaw$Sim" ∈ TB := tb3 177 rfl rfl
theorem tw_3_178 : Cond.instantiable "GemCutLaw$Sim" 5 ∈ TB := tb3 178 rfl rfl
theorem tw_3_179 : Cond.methodLink "GemCutLaw" 40 yX6_init ∈ TB := tb3 179 rfl rfl
theorem tw_3_180 : Cond.instanceMethod yX6_init ∈ TB := tb3 180 rfl rfl
theorem tw_3_181 : Cond.code yX6_init cX6_init 4 none ∈ TB := tb3 181 rfl rfl
theorem tw_3_182 : Cond.methodLink "GemCutLaw$Sim" 1 ⟨"java/lang/Object", "<init>", "()V"⟩ ∈ TB := tb3 182 rfl rfl
theorem tw_3_183 : Cond.classLink "GemCutLaw$Sim" 7 "[I" ∈ TB := tb3 183 rfl rfl
theorem tw_3_185 : Cond.classLink "GemCutLaw$Sim" 15 "[[I" ∈ TB := tb3 185 rfl rfl
theorem tw_3_187 : Cond.classLink "GemCutLaw$Sim" 24 "[[[I" ∈ TB := tb3 187 rfl rfl
theorem tw_3_188 : Cond.fieldLink "GemCutLaw$Sim" 25 "GemCutLaw$Sim" "rough" "[[[I" ∈ TB := tb3 188 rfl rfl
theorem tw_3_189 : Cond.fieldLink "GemCutLaw" 59 "GemCutLaw$Sim" "rough" "[[[I" ∈ TB := tb3 189 rfl rfl
theorem tw_3_190 : Cond.fieldLink "GemCutLaw$Sim" 9 "GemCutLaw$Sim" "flaws" "[[I" ∈ TB := tb3 190 rfl rfl
theorem tw_3_191 : Cond.fieldLink "GemCutLaw" 47 "GemCutLaw$Sim" "flaws" "[[I" ∈ TB := tb3 191 rfl rfl
theorem tw_3_192 : Cond.fieldLink "GemCutLaw$Sim" 16 "GemCutLaw$Sim" "planes" "[[[I" ∈ TB := tb3 192 rfl rfl
theorem tw_3_193 : Cond.fieldLink "GemCutLaw$Sim" 20 "GemCutLaw$Sim" "wheel" "I" ∈ TB := tb3 193 rfl rfl
theorem tw_3_194 : Cond.lays "GemCutLaw$Sim" "GemCutLaw$Sim" "rough" "[[[I" ∈ TB := tb3 194 rfl rfl
theorem tw_3_196 : Cond.lays "GemCutLaw$Sim" "GemCutLaw$Sim" "flaws" "[[I" ∈ TB := tb3 196 rfl rfl
theorem tw_3_198 : Cond.lays "GemCutLaw$Sim" "GemCutLaw$Sim" "planes" "[[[I" ∈ TB := tb3 198 rfl rfl
theorem tw_3_200 : Cond.lays "GemCutLaw$Sim" "GemCutLaw$Sim" "wheel" "I" ∈ TB := tb3 200 rfl rfl
theorem tw_3_202 : Cond.lays "GemCutLaw$Sim" "GemCutLaw$Sim" "spent" "I" ∈ TB := tb3 202 rfl rfl
theorem tw_3_205 : Cond.methodLink "GemCutLaw" 43 yX5_flaw ∈ TB := tb3 205 rfl rfl
theorem tw_3_206 : Cond.instanceMethod yX5_flaw ∈ TB := tb3 206 rfl rfl
theorem tw_3_207 : Cond.selects "GemCut" yX5_flaw yX5_flaw ∈ TB := tb3 207 rfl rfl
theorem tw_3_208 : Cond.code yX5_flaw cX5_flaw 6 (some FieldType.int) ∈ TB := tb3 208 rfl rfl
theorem tw_3_211 : Cond.methodLink "GemCut" 67 yX2_addFlaw ∈ TB := tb3 211 rfl rfl
theorem tw_3_212 : Cond.instanceMethod yX2_addFlaw ∈ TB := tb3 212 rfl rfl
theorem tw_3_213 : Cond.selects "GemCut$Rough" yX2_addFlaw yX2_addFlaw ∈ TB := tb3 213 rfl rfl
theorem tw_3_214 : Cond.code yX2_addFlaw cX2_addFlaw 11 none ∈ TB := tb3 214 rfl rfl
theorem tw_3_215 : Cond.methodLink "GemCut$Rough" 54 yX0_begin ∈ TB := tb3 215 rfl rfl
theorem tw_3_216 : Cond.instanceMethod yX0_begin ∈ TB := tb3 216 rfl rfl
theorem tw_3_217 : Cond.selects "GemCut$Flaw" yX0_begin yX0_begin ∈ TB := tb3 217 rfl rfl
theorem tw_3_218 : Cond.code yX0_begin cX0_begin 2 none ∈ TB := tb3 218 rfl rfl
theorem tw_3_219 : Cond.methodLink "GemCut$Rough" 58 ⟨"java/lang/Math", "abs", "(I)I"⟩ ∈ TB := tb3 219 rfl rfl
theorem tw_3_220 : Cond.methodLink "GemCut$Rough" 64 yX0_addCell ∈ TB := tb3 220 rfl rfl
theorem tw_3_221 : Cond.instanceMethod yX0_addCell ∈ TB := tb3 221 rfl rfl
theorem tw_3_222 : Cond.selects "GemCut$Flaw" yX0_addCell yX0_addCell ∈ TB := tb3 222 rfl rfl
theorem tw_3_223 : Cond.code yX0_addCell cX0_addCell 2 none ∈ TB := tb3 223 rfl rfl
theorem tw_3_224 : Cond.methodLink "GemCut$Rough" 67 yX0_survey ∈ TB := tb3 224 rfl rfl
theorem tw_3_225 : Cond.methodLink "GemCutLaw" 51 yX6_more ∈ TB := tb3 225 rfl rfl
theorem tw_3_226 : Cond.static yX6_more ∈ TB := tb3 226 rfl rfl
theorem tw_3_227 : Cond.code yX6_more cX6_more 4 (some (FieldType.array (FieldType.array FieldType.int))) ∈ TB := tb3 227 rfl rfl
theorem tws_1_0 : Cond.selects "GemCut" yX5_beginRough yX5_beginRough ∈ TB := tbs1 (n := 6) 0 rfl
theorem tws_1_1 : Cond.selects "GemCut" yX5_survey yX5_survey ∈ TB := tbs1 (n := 6) 1 rfl
theorem tws_1_2 : Cond.selects "GemCut" yX5_surveyCell yX5_surveyCell ∈ TB := tbs1 (n := 6) 2 rfl
theorem tws_1_3 : Cond.selects "GemCut" yX5_wantCell yX5_wantCell ∈ TB := tbs1 (n := 6) 3 rfl
theorem tws_1_5 : Cond.selects "GemCut" yX5_wantFlaw yX5_wantFlaw ∈ TB := tbs1 (n := 6) 5 rfl
theorem tws_1_6 : Cond.selects "GemCut" yX5_wantStone yX5_wantStone ∈ TB := tbs1 (n := 6) 6 rfl
theorem tws_1_7 : Cond.selects "GemCut" yX5_tellOfFlaw yX5_tellOfFlaw ∈ TB := tbs1 (n := 6) 7 rfl
theorem tws_1_8 : Cond.selects "GemCut$Trial" yX4_levelCell yX4_levelCell ∈ TB := tbs1 (n := 6) 8 rfl
theorem tws_1_9 : Cond.selects "GemCut" yX5_spend yX5_spend ∈ TB := tbs1 (n := 6) 9 rfl
theorem tws_1_10 : Cond.selects "GemCut" yX5_wantPlane yX5_wantPlane ∈ TB := tbs1 (n := 6) 10 rfl
theorem tws_1_11 : Cond.selects "GemCut" yX5_tellOfStone yX5_tellOfStone ∈ TB := tbs1 (n := 6) 11 rfl
theorem tws_1_12 : Cond.selects "GemCut" yX5_flawsOfState yX5_flawsOfState ∈ TB := tbs1 (n := 6) 12 rfl
theorem tws_1_13 : Cond.selects "GemCut" yX5_worthOf yX5_worthOf ∈ TB := tbs1 (n := 6) 13 rfl
theorem tws_1_14 : Cond.selects "GemCut" yX5_tellCount yX5_tellCount ∈ TB := tbs1 (n := 6) 14 rfl
theorem tws_1_15 : Cond.selects "GemCut" yX5_cellsOfStones yX5_cellsOfStones ∈ TB := tbs1 (n := 6) 15 rfl
theorem tws_2_0 : Cond.selects "GemCut" yX5_stonesLeft yX5_stonesLeft ∈ TB := tbs2 (n := 6) 0 rfl
theorem tws_2_1 : Cond.selects "GemCut" yX5_worthOfStones yX5_worthOfStones ∈ TB := tbs2 (n := 6) 1 rfl
theorem tws_2_2 : Cond.selects "GemCut$Trial" yX4_lowerFloors yX4_lowerFloors ∈ TB := tbs2 (n := 6) 2 rfl
theorem tws_2_3 : Cond.selects "GemCut$Trial" yX4_laterOpposites yX4_laterOpposites ∈ TB := tbs2 (n := 6) 3 rfl
theorem tws_2_4 : Cond.selects "GemCut$Trial" yX4_isWithin yX4_isWithin ∈ TB := tbs2 (n := 6) 4 rfl
theorem tws_2_5 : Cond.selects "GemCut$Trial" yX4_lowestOf yX4_lowestOf ∈ TB := tbs2 (n := 6) 5 rfl
theorem iw_X0 : ∀ w ∈ u_ws RX0 TX0 5, w ∈ TB := by
  intro w h
  obtain ⟨k, hk, rfl⟩ := List.mem_map.mp h
  have hk := List.mem_range.mp hk
  match k, hk with
  | 0, _ => exact tw_1_46
  | 1, _ => exact tw_1_48
  | 2, _ => exact tw_1_50
  | 3, _ => exact tw_1_52
  | 4, _ => exact tw_1_54
theorem iw_X1 : ∀ w ∈ u_ws RX1 TX1 7, w ∈ TB := by
  intro w h
  obtain ⟨k, hk, rfl⟩ := List.mem_map.mp h
  have hk := List.mem_range.mp hk
  match k, hk with
  | 0, _ => exact tw_1_124
  | 1, _ => exact tw_1_126
  | 2, _ => exact tw_1_128
  | 3, _ => exact tw_1_130
  | 4, _ => exact tw_1_132
  | 5, _ => exact tw_1_134
  | 6, _ => exact tw_1_136
theorem iw_X2 : ∀ w ∈ u_ws RX2 TX2 7, w ∈ TB := by
  intro w h
  obtain ⟨k, hk, rfl⟩ := List.mem_map.mp h
  have hk := List.mem_range.mp hk
  match k, hk with
  | 0, _ => exact tw_1_82
  | 1, _ => exact tw_1_84
  | 2, _ => exact tw_1_86
  | 3, _ => exact tw_1_88
  | 4, _ => exact tw_1_90
  | 5, _ => exact tw_1_92
  | 6, _ => exact tw_1_94
theorem iw_X3 : ∀ w ∈ u_ws RX3 TX3 5, w ∈ TB := by
  intro w h
  obtain ⟨k, hk, rfl⟩ := List.mem_map.mp h
  have hk := List.mem_range.mp hk
  match k, hk with
  | 0, _ => exact tw_1_153
  | 1, _ => exact tw_1_155
  | 2, _ => exact tw_1_157
  | 3, _ => exact tw_1_159
  | 4, _ => exact tw_1_161
theorem iw_X4 : ∀ w ∈ u_ws RX4 TX4 6, w ∈ TB := by
  intro w h
  obtain ⟨k, hk, rfl⟩ := List.mem_map.mp h
  have hk := List.mem_range.mp hk
  match k, hk with
  | 0, _ => exact tw_1_178
  | 1, _ => exact tw_1_180
  | 2, _ => exact tw_1_182
  | 3, _ => exact tw_1_184
  | 4, _ => exact tw_1_186
  | 5, _ => exact tw_1_188
theorem iw_X5 : ∀ w ∈ u_ws RX5 TX5 6, w ∈ TB := by
  intro w h
  obtain ⟨k, hk, rfl⟩ := List.mem_map.mp h
  have hk := List.mem_range.mp hk
  match k, hk with
  | 0, _ => exact tw_2_17
  | 1, _ => exact tw_2_19
  | 2, _ => exact tw_2_21
  | 3, _ => exact tw_2_23
  | 4, _ => exact tw_2_25
  | 5, _ => exact tw_2_27
theorem iw_X6 : ∀ w ∈ u_ws RX6 TX6 5, w ∈ TB := by
  intro w h
  obtain ⟨k, hk, rfl⟩ := List.mem_map.mp h
  have hk := List.mem_range.mp hk
  match k, hk with
  | 0, _ => exact tw_3_194
  | 1, _ => exact tw_3_196
  | 2, _ => exact tw_3_198
  | 3, _ => exact tw_3_200
  | 4, _ => exact tw_3_202
theorem iw_X7 : ∀ w ∈ u_ws RX7 TX7 0, w ∈ TB := by
  intro w h
  obtain ⟨k, hk, rfl⟩ := List.mem_map.mp h
  have hk := List.mem_range.mp hk
  match k, hk with
/-- words that hold through a run but are not in TB: links to nest mates, declared methods -/
def NWn : List Cond := [Cond.methodLinkNest "GemCut$Rough" 25 yX0_init "GemCut", Cond.methodLinkNest "GemCut$Stone" 21 yX1_init "GemCut", Cond.methodLinkNest "GemCut$Trial" 11 yX1_init "GemCut", Cond.methodLinkNest "GemCut$Trial" 153 yX5_worthBy "GemCut"]
def NWd : List Cond := [Cond.declares ⟨"java/lang/RuntimeException", "<init>", "()V"⟩, Cond.declares ⟨"java/lang/RuntimeException", "<init>", "(Ljava/lang/String;)V"⟩, Cond.declares ⟨"java/lang/Exception", "<init>", "()V"⟩, Cond.declares ⟨"java/lang/Exception", "<init>", "(Ljava/lang/String;)V"⟩, Cond.declares ⟨"java/lang/Throwable", "<init>", "()V"⟩, Cond.declares ⟨"java/lang/Throwable", "<init>", "(Ljava/lang/String;)V"⟩]
/-- the texts of the exceptions: class, entry, text -/
def SRl : List (String × Nat × String) := [(RX5, 221, "there is no such cell in the rough"), (RX5, 224, "there is no such flaw"), (RX5, 226, "there is no such stone"), (RX5, 230, "there is no such what"), (RX5, 235, "p, q or r is not -3 to 3, or all are 0"), (RX5, 237, "d is not -100 to 100"), (RX5, 108, "there are 8 stones, or one of the two would be empty"), (RX5, 125, "it keeps 16 planes, or the wheel has not enough turns"), (RX5, 228, "the stone keeps no such plane"), (RX5, 154, "it is no facet now, or polished, or the wheel has not enough turns"), (RX5, 182, "nothing is left of the stone"), (RX5, 44, "a side of the rough is not 1 to 10"), (RX5, 56, "radius is not 0 to 3, or severity is not 1 to 9"), (RX5, 64, "there are 10 flaws")]
def gN (U : State) : Prop := (∀ w ∈ NWn, va_Nw w U) ∧ (∀ w ∈ NWd, va_Nw w U) ∧ ∀ q ∈ SRl, ∃ a, vk_R q.1 q.2.1 q.2.2 a U
theorem gN.warm {s U : State} (hW : s.WarmedH U.vm) (h : gN s) : gN U := by
  refine ⟨fun w hw => ?_, fun w hw => ?_, fun q hq => ?_⟩
  · have h1 : ∃ a i x h, w = .methodLinkNest a i x h := by
      simp only [NWn, List.mem_cons, List.not_mem_nil, or_false] at hw
      rcases hw with rfl|rfl|rfl|rfl <;> exact ⟨_, _, _, _, rfl⟩
    have h2 := h.1 w hw
    obtain ⟨a, i, x, h3, rfl⟩ := h1
    exact va_Nw.warmM hW h2
  · have h1 : ∃ x, w = .declares x := by
      simp only [NWd, List.mem_cons, List.not_mem_nil, or_false] at hw
      rcases hw with rfl|rfl|rfl|rfl|rfl|rfl <;> exact ⟨_, rfl⟩
    have h2 := h.2.1 w hw
    obtain ⟨x, rfl⟩ := h1
    exact va_Nw.warmD hW h2
  · obtain ⟨a, ha⟩ := h.2.2 q hq
    exact ⟨a, vk_R.warm hW ha⟩
theorem gN.same {u U : State} (h : u.vm = U.vm) (hz : gN u) : gN U := by
  refine ⟨fun w hw => ?_, fun w hw => ?_, fun q hq => ?_⟩
  · have h1 : w.onTables = true := by
      simp only [NWn, List.mem_cons, List.not_mem_nil, or_false] at hw
      rcases hw with rfl|rfl|rfl|rfl <;> rfl
    exact va_Nw.same h1 h (hz.1 w hw)
  · have h1 : w.onTables = true := by
      simp only [NWd, List.mem_cons, List.not_mem_nil, or_false] at hw
      rcases hw with rfl|rfl|rfl|rfl|rfl|rfl <;> rfl
    exact va_Nw.same h1 h (hz.2.1 w hw)
  · obtain ⟨a, ha⟩ := hz.2.2 q hq
    exact ⟨a, vk_R.same h.symm ha⟩
end
section
/-! A judgement with small goals. Mem: what each cell (by its number) holds at each place, as ints; a layout says what kind each cell is and where its references lead. -/
abbrev Mem : Type := Nat → Nat → Int32
abbrev gE : Type := va_G × (Nat → Nat) × (Nat → ClassId)
abbrev gL : Type := Nat × (gE → (Nat → Int32) → Nat → va_E)
def gW (Lw : gL) (E : gE) (σ : Mem) : va_W := (List.range Lw.1).map (fun i => (E.2.1 i, Lw.2 E (σ i) i))
def gT (cy : Nat → ClassId) : List (ClassId × FieldType) := [(cy 0, .int), (cy 1, .boolean), (cy 2, .object "GemCut$Flaw"), (cy 3, .object "GemCut$Plane"), (cy 4, .object "GemCut$Stone"), (cy 5, .array .int), (cy 6, .array (.array .int))]
abbrev gC : Type := Program × Launch × Env × Room × State × MethodId × Array Value × List Frame × Method × Code × Nat × Heap × (Nat → Prop) × gE × (State → Prop)
def gl : Nat → List (Option Value) → List (Nat × Value)
  | _, [] => []
  | i, none :: r => gl (i + 1) r
  | i, some v :: r => (i, v) :: gl (i + 1) r
def gEv (X : gC) : gE := X.2.2.2.2.2.2.2.2.2.2.2.2.2.1
def gA (X : gC) : Nat → Nat := (gEv X).2.1
def gR (d ca sa : Nat) : Room := { frames := d, cells := ca, slots := sa, locals := 40 * d }
def G (Lw : gL) (X : gC) (k n pc : Nat) (ls : List (Option Value)) (st : List Value) (σ : Mem) : Prop :=
  match X with
  | (p, l, e, R, s, m, args, below, meth, c, nL, H0, A, E, Q) => ∀ (H : Heap) (locs : List Loc) (arr : Array Slot), ls.length = nL → va_P E.1 vwCl (gW Lw E σ) H → va_S A H0 H locs → lv_has arr nL (gl 0 ls) → W p l e R s m args below meth c H locs k n Q (F0 m pc arr st)
def gOk (Lw : gL) (l : Launch) (X : gC) (cc : ByteArray) (own : String) (dd ca sa : Nat) : Prop :=
  match X with
  | (p, l', _, R, s, m, args, _, meth, c, nL, H0, A, E, _) => p.tables.exec = Jvm.exec ∧ c.code = cc ∧ c.maxLocals = nL ∧ s.vm.findClass own = some m.cls ∧ (∀ w ∈ TB, w.before args s = true) ∧ va_K E.1 vwCl (gT E.2.2) s ∧ (∀ σ, va_D A (gW Lw E σ)) ∧ (∀ q, H0.size ≤ q → A q) ∧ R = gR dd ca sa ∧ meth.locks = false ∧ l' = l ∧ s.heap = H0 ∧ gN s
theorem gl_mem (q : Nat × Value) : ∀ (ls : List (Option Value)) (i : Nat), q ∈ gl i ls ↔ ∃ j, q.1 = i + j ∧ ls[j]? = some (some q.2) := by
  intro ls
  induction ls with
  | nil => intro i; simp [gl]
  | cons o r ih =>
    intro i
    cases o with
    | none =>
      rw [gl, ih]
      constructor
      · rintro ⟨j, h1, h2⟩
        exact ⟨j + 1, by omega, by simpa using h2⟩
      · rintro ⟨j, h1, h2⟩
        cases j with
        | zero => simp at h2
        | succ j => exact ⟨j, by omega, by simpa using h2⟩
    | some v =>
      rw [gl, List.mem_cons, ih]
      constructor
      · rintro (rfl | ⟨j, h1, h2⟩)
        · exact ⟨0, rfl, rfl⟩
        · exact ⟨j + 1, by omega, by simpa using h2⟩
      · rintro ⟨j, h1, h2⟩
        cases j with
        | zero =>
          left
          obtain ⟨a, b⟩ := q
          simp at h1 h2
          rw [h1, h2]
        | succ j => right; exact ⟨j, by omega, by simpa using h2⟩
theorem g_loc {arr : Array Slot} {nL : Nat} {ls : List (Option Value)} (h : lv_has arr nL (gl 0 ls)) (j : Nat) {v : Value} (hj : ls[j]? = some (some v)) : arr[j]? = some (.val v) :=
  h.2.2 (j, v) ((gl_mem _ _ _).mpr ⟨j, by simp, hj⟩)
def g1 (o : Option Value) : Bool := match o with
  | none => true
  | some v => v.category == 1
theorem g_fil1 {arr : Array Slot} {nL i : Nat} {v : Value} {ls : List (Option Value)} (h : lv_has arr nL ((i, v) :: (gl 0 ls).filter (fun q => !(q.1 == i) && !(q.1 + 1 == i && q.2.category == 2)))) (hp : ∀ j, j + 1 = i → ∀ w, ls[j]? = some (some w) → w.category = 1) : lv_has arr nL (gl 0 (ls.set i (some v))) := by
  refine ⟨h.1, h.2.1, fun q hq => h.2.2 q ?_⟩
  obtain ⟨j, h1, h2⟩ := (gl_mem _ _ _).mp hq
  obtain ⟨a, b⟩ := q
  simp at h1
  subst h1
  rw [List.getElem?_set] at h2
  by_cases hj : i = a
  · subst hj
    rw [if_pos rfl] at h2
    split at h2
    · simp at h2
      subst h2
      exact List.mem_cons_self
    · cases h2
  · rw [if_neg hj] at h2
    refine List.mem_cons_of_mem _ (List.mem_filter.mpr ⟨(gl_mem _ _ _).mpr ⟨a, by simp, h2⟩, ?_⟩)
    have h3 : ¬ (a == i) = true := by simp; exact fun e => hj e.symm
    simp only [Bool.not_eq_true] at h3
    by_cases h4 : a + 1 = i
    · have := hp a h4 b h2
      simp [h3, this]
    · have h5 : (a + 1 == i) = false := by simp [h4]
      simp [h3, h5]
theorem g_fil2 {arr : Array Slot} {nL i : Nat} {v : Value} {ls : List (Option Value)} (h : lv_has arr nL ((i, v) :: (gl 0 ls).filter (fun q => !(q.1 == i) && (!(q.1 == i + 1) && !(q.1 + 1 == i && q.2.category == 2))))) (hp : ∀ j, j + 1 = i → ∀ w, ls[j]? = some (some w) → w.category = 1) : lv_has arr nL (gl 0 ((ls.set i (some v)).set (i + 1) none)) := by
  refine ⟨h.1, h.2.1, fun q hq => h.2.2 q ?_⟩
  obtain ⟨j, h1, h2⟩ := (gl_mem _ _ _).mp hq
  obtain ⟨a, b⟩ := q
  simp at h1
  subst h1
  rw [List.getElem?_set, List.getElem?_set] at h2
  by_cases hj2 : i + 1 = a
  · rw [if_pos hj2] at h2
    split at h2
    · cases h2
    · cases h2
  · rw [if_neg hj2] at h2
    by_cases hj : i = a
    · subst hj
      rw [if_pos rfl] at h2
      split at h2
      · simp at h2
        subst h2
        exact List.mem_cons_self
      · cases h2
    · rw [if_neg hj] at h2
      refine List.mem_cons_of_mem _ (List.mem_filter.mpr ⟨(gl_mem _ _ _).mpr ⟨a, by simp, h2⟩, ?_⟩)
      have h3 : (a == i) = false := by simp; exact fun e => hj e.symm
      have h6 : (a == i + 1) = false := by simp; exact fun e => hj2 e.symm
      by_cases h4 : a + 1 = i
      · have := hp a h4 b h2
        simp [h3, h6, this]
      · have h5 : (a + 1 == i) = false := by simp [h4]
        simp [h3, h6, h5]
theorem g1_spec {o : Option Value} (h : g1 o = true) : ∀ w, o = some w → w.category = 1 := by
  intro w hw
  subst hw
  simpa [g1] using h
/-- the locals at a method's start -/
def gent : Nat → List Value → List (Option Value)
  | n, [] => List.replicate n none
  | n, v :: r => if v.category = 2 then some v :: none :: gent (n - 2) r else some v :: gent (n - 1) r
theorem gent_len : ∀ (vs : List Value) (n : Nat), (lg_sl vs).length ≤ n → (gent n vs).length = n := by
  intro vs
  induction vs with
  | nil => intro n _; simp [gent]
  | cons v r ih =>
    intro n h
    rw [gent]
    have h1 : lg_sl (v :: r) = (if v.category = 2 then [.val v, .second] else [.val v]) ++ lg_sl r := by simp [lg_sl]
    rw [h1] at h
    split at h <;> rename_i hc
    · rw [if_pos hc]
      simp at h
      simp [ih (n - 2) (by omega)]
      omega
    · rw [if_neg hc]
      simp at h
      simp [ih (n - 1) (by omega)]
      omega
theorem gent_mem : ∀ (vs : List Value) (n i : Nat) (q : Nat × Value), q ∈ gl i (gent n vs) → q ∈ lv_args i vs := by
  intro vs
  induction vs with
  | nil =>
    intro n i q h
    rw [gl_mem] at h
    obtain ⟨j, -, h2⟩ := h
    simp [gent, List.getElem?_replicate] at h2
  | cons v r ih =>
    intro n i q h
    rw [lv_args]
    rw [gent] at h
    by_cases hc : v.category = 2
    · rw [if_pos hc] at h ⊢
      rw [gl, gl] at h
      rcases List.mem_cons.mp h with rfl | h
      · exact List.mem_cons_self
      · exact List.mem_cons_of_mem _ (ih _ _ _ h)
    · rw [if_neg hc] at h ⊢
      rw [gl] at h
      rcases List.mem_cons.mp h with rfl | h
      · exact List.mem_cons_self
      · exact List.mem_cons_of_mem _ (ih _ _ _ h)
theorem gW_at (Lw : gL) (E : gE) (σ : Mem) {i : Nat} (h : i < Lw.1) : (gW Lw E σ)[i]? = some (E.2.1 i, Lw.2 E (σ i) i) := by
  simp [gW, List.getElem?_map, List.getElem?_range h]
theorem gW_len (Lw : gL) (E : gE) (σ : Mem) : (gW Lw E σ).length = Lw.1 := by simp [gW]
theorem gW_fix {Lw : gL} {E : gE} {σ : Mem} {A : Nat → Prop} (h : va_D A (gW Lw E σ)) (σ' : Mem) : va_D A (gW Lw E σ') := by
  have key : ∀ (i : Nat) (p : Nat × va_E), (gW Lw E σ')[i]? = some p → ∃ q, (gW Lw E σ)[i]? = some q ∧ q.1 = p.1 := by
    intro i p hp
    have hi : i < Lw.1 := by rw [← gW_len Lw E σ']; exact (List.getElem?_eq_some_iff.mp hp).1
    rw [gW_at _ _ _ hi] at hp
    cases hp
    exact ⟨_, gW_at _ _ _ hi, rfl⟩
  refine ⟨fun i j p q hi hj hpq => ?_, fun i p hp => ?_⟩
  · obtain ⟨p', h1, h2⟩ := key i p hi
    obtain ⟨q', h3, h4⟩ := key j q hj
    exact h.1 i j p' q' h1 h3 (by rw [h2, h4]; exact hpq)
  · obtain ⟨p', h1, h2⟩ := key i p hp
    rw [← h2]
    exact h.2 i p' h1
/-- one place of one cell written -/
def upd2 (σ : Mem) (i j : Nat) (v : Int32) : Mem := fun a b => if a = i then (if b = j then v else σ a b) else σ a b
theorem upd2_at (σ : Mem) (i j : Nat) (v : Int32) : upd2 σ i j v i j = v := by simp [upd2]
theorem upd2_nj {σ : Mem} {i j j' : Nat} {v : Int32} (h : j' ≠ j) (i' : Nat) : upd2 σ i j v i' j' = σ i' j' := by
  simp [upd2, h]
theorem upd2_ni {σ : Mem} {i j i' : Nat} {v : Int32} (h : i' ≠ i) : upd2 σ i j v i' = σ i' := by
  funext b
  simp [upd2, h]
theorem upd2_row (σ : Mem) (i j : Nat) (v : Int32) : upd2 σ i j v i = upd (σ i) j v := by
  funext b
  simp [upd2, upd]
theorem gW_set {Lw : gL} {E : gE} {σ : Mem} {i j : Nat} {v : Int32} {e : va_E} (h : i < Lw.1) (he : Lw.2 E (upd (σ i) j v) i = e) : (gW Lw E σ).set i (E.2.1 i, e) = gW Lw E (upd2 σ i j v) := by
  apply List.ext_getElem?
  intro q
  by_cases hq : q < Lw.1
  · rw [gW_at _ _ _ hq, List.getElem?_set]
    by_cases hqi : i = q
    · subst hqi
      rw [if_pos rfl, if_pos (by rw [gW_len]; exact h), upd2_row, he]
    · rw [if_neg hqi, gW_at _ _ _ hq, upd2_ni (fun z => hqi z.symm)]
  · rw [List.getElem?_eq_none (by rw [List.length_set, gW_len]; omega), List.getElem?_eq_none (by rw [gW_len]; omega)]

theorem g_iconst {Lw : gL} {l : Launch} {X : gC} {cc : ByteArray} {own : String} {dd ca sa k n pc : Nat} {ls : List (Option Value)} {st : List Value} {σ : Mem} {z : Int} (v : Int32) (hC : gOk Lw l X cc own dd ca sa) (hd : decode cc pc = .ok (.iconst z, 1)) (hv : Int32.ofInt z = v) (kk : G Lw X k n (pc + 1) ls (.int v :: st) σ) : G Lw X k n pc ls (st) σ := by
  obtain ⟨p, l', e, R, s, m, args, below, meth, c, nL, H0, A, E, Q⟩ := X
  obtain ⟨hx, hb, hml, hown, hTB, hK, hD, hA, hR, hlocks, rfl, hh0, hNs⟩ := hC
  exact fun H locs arr hn hP hS hl => lv_iconst hx hb hd hv (kk H locs arr hn hP hS hl)
theorem g_bipush {Lw : gL} {l : Launch} {X : gC} {cc : ByteArray} {own : String} {dd ca sa k n pc : Nat} {ls : List (Option Value)} {st : List Value} {σ : Mem} {z : Int} (v : Int32) (hC : gOk Lw l X cc own dd ca sa) (hd : decode cc pc = .ok (.bipush z, 2)) (hv : (Int8.ofInt z).toInt32 = v) (kk : G Lw X k n (pc + 2) ls (.int v :: st) σ) : G Lw X k n pc ls (st) σ := by
  obtain ⟨p, l', e, R, s, m, args, below, meth, c, nL, H0, A, E, Q⟩ := X
  obtain ⟨hx, hb, hml, hown, hTB, hK, hD, hA, hR, hlocks, rfl, hh0, hNs⟩ := hC
  exact fun H locs arr hn hP hS hl => lv_bipush hx hb hd hv (kk H locs arr hn hP hS hl)
theorem g_sipush {Lw : gL} {l : Launch} {X : gC} {cc : ByteArray} {own : String} {dd ca sa k n pc : Nat} {ls : List (Option Value)} {st : List Value} {σ : Mem} {z : Int} (v : Int32) (hC : gOk Lw l X cc own dd ca sa) (hd : decode cc pc = .ok (.sipush z, 3)) (hv : (Int16.ofInt z).toInt32 = v) (kk : G Lw X k n (pc + 3) ls (.int v :: st) σ) : G Lw X k n pc ls (st) σ := by
  obtain ⟨p, l', e, R, s, m, args, below, meth, c, nL, H0, A, E, Q⟩ := X
  obtain ⟨hx, hb, hml, hown, hTB, hK, hD, hA, hR, hlocks, rfl, hh0, hNs⟩ := hC
  exact fun H locs arr hn hP hS hl => lv_sipush hx hb hd hv (kk H locs arr hn hP hS hl)
theorem g_iadd {Lw : gL} {l : Launch} {X : gC} {cc : ByteArray} {own : String} {dd ca sa k n pc : Nat} {ls : List (Option Value)} {st : List Value} {σ : Mem} {x y : Int32} (hC : gOk Lw l X cc own dd ca sa) (hd : decode cc pc = .ok (.iadd, 1))  (kk : G Lw X k n (pc + 1) ls (.int (x + y) :: st) σ) : G Lw X k n pc ls (.int y :: .int x :: st) σ := by
  obtain ⟨p, l', e, R, s, m, args, below, meth, c, nL, H0, A, E, Q⟩ := X
  obtain ⟨hx, hb, hml, hown, hTB, hK, hD, hA, hR, hlocks, rfl, hh0, hNs⟩ := hC
  exact fun H locs arr hn hP hS hl => lv_iadd hx hb hd (kk H locs arr hn hP hS hl)
theorem g_isub {Lw : gL} {l : Launch} {X : gC} {cc : ByteArray} {own : String} {dd ca sa k n pc : Nat} {ls : List (Option Value)} {st : List Value} {σ : Mem} {x y : Int32} (hC : gOk Lw l X cc own dd ca sa) (hd : decode cc pc = .ok (.isub, 1))  (kk : G Lw X k n (pc + 1) ls (.int (x - y) :: st) σ) : G Lw X k n pc ls (.int y :: .int x :: st) σ := by
  obtain ⟨p, l', e, R, s, m, args, below, meth, c, nL, H0, A, E, Q⟩ := X
  obtain ⟨hx, hb, hml, hown, hTB, hK, hD, hA, hR, hlocks, rfl, hh0, hNs⟩ := hC
  exact fun H locs arr hn hP hS hl => lv_isub hx hb hd (kk H locs arr hn hP hS hl)
theorem g_imul {Lw : gL} {l : Launch} {X : gC} {cc : ByteArray} {own : String} {dd ca sa k n pc : Nat} {ls : List (Option Value)} {st : List Value} {σ : Mem} {x y : Int32} (hC : gOk Lw l X cc own dd ca sa) (hd : decode cc pc = .ok (.imul, 1))  (kk : G Lw X k n (pc + 1) ls (.int (x * y) :: st) σ) : G Lw X k n pc ls (.int y :: .int x :: st) σ := by
  obtain ⟨p, l', e, R, s, m, args, below, meth, c, nL, H0, A, E, Q⟩ := X
  obtain ⟨hx, hb, hml, hown, hTB, hK, hD, hA, hR, hlocks, rfl, hh0, hNs⟩ := hC
  exact fun H locs arr hn hP hS hl => lv_imul hx hb hd (kk H locs arr hn hP hS hl)
theorem g_iand {Lw : gL} {l : Launch} {X : gC} {cc : ByteArray} {own : String} {dd ca sa k n pc : Nat} {ls : List (Option Value)} {st : List Value} {σ : Mem} {x y : Int32} (hC : gOk Lw l X cc own dd ca sa) (hd : decode cc pc = .ok (.iand, 1))  (kk : G Lw X k n (pc + 1) ls (.int (x &&& y) :: st) σ) : G Lw X k n pc ls (.int y :: .int x :: st) σ := by
  obtain ⟨p, l', e, R, s, m, args, below, meth, c, nL, H0, A, E, Q⟩ := X
  obtain ⟨hx, hb, hml, hown, hTB, hK, hD, hA, hR, hlocks, rfl, hh0, hNs⟩ := hC
  exact fun H locs arr hn hP hS hl => lv_iand hx hb hd (kk H locs arr hn hP hS hl)
theorem g_idiv {Lw : gL} {l : Launch} {X : gC} {cc : ByteArray} {own : String} {dd ca sa k n pc : Nat} {ls : List (Option Value)} {st : List Value} {σ : Mem} {x y : Int32} (hC : gOk Lw l X cc own dd ca sa) (hd : decode cc pc = .ok (.idiv, 1)) (hne : ¬ y = 0) (kk : G Lw X k n (pc + 1) ls (.int (x / y) :: st) σ) : G Lw X k n pc ls (.int y :: .int x :: st) σ := by
  obtain ⟨p, l', e, R, s, m, args, below, meth, c, nL, H0, A, E, Q⟩ := X
  obtain ⟨hx, hb, hml, hown, hTB, hK, hD, hA, hR, hlocks, rfl, hh0, hNs⟩ := hC
  exact fun H locs arr hn hP hS hl => lv_idiv hx hb hd hne (kk H locs arr hn hP hS hl)
theorem g_irem {Lw : gL} {l : Launch} {X : gC} {cc : ByteArray} {own : String} {dd ca sa k n pc : Nat} {ls : List (Option Value)} {st : List Value} {σ : Mem} {x y : Int32} (hC : gOk Lw l X cc own dd ca sa) (hd : decode cc pc = .ok (.irem, 1)) (hne : ¬ y = 0) (kk : G Lw X k n (pc + 1) ls (.int (x - x / y * y) :: st) σ) : G Lw X k n pc ls (.int y :: .int x :: st) σ := by
  obtain ⟨p, l', e, R, s, m, args, below, meth, c, nL, H0, A, E, Q⟩ := X
  obtain ⟨hx, hb, hml, hown, hTB, hK, hD, hA, hR, hlocks, rfl, hh0, hNs⟩ := hC
  exact fun H locs arr hn hP hS hl => lv_irem hx hb hd hne (kk H locs arr hn hP hS hl)
theorem g_ineg {Lw : gL} {l : Launch} {X : gC} {cc : ByteArray} {own : String} {dd ca sa k n pc : Nat} {ls : List (Option Value)} {st : List Value} {σ : Mem} {x : Int32} (hC : gOk Lw l X cc own dd ca sa) (hd : decode cc pc = .ok (.ineg, 1))  (kk : G Lw X k n (pc + 1) ls (.int (0 - x) :: st) σ) : G Lw X k n pc ls (.int x :: st) σ := by
  obtain ⟨p, l', e, R, s, m, args, below, meth, c, nL, H0, A, E, Q⟩ := X
  obtain ⟨hx, hb, hml, hown, hTB, hK, hD, hA, hR, hlocks, rfl, hh0, hNs⟩ := hC
  exact fun H locs arr hn hP hS hl => lv_ineg hx hb hd (kk H locs arr hn hP hS hl)
theorem g_ladd {Lw : gL} {l : Launch} {X : gC} {cc : ByteArray} {own : String} {dd ca sa k n pc : Nat} {ls : List (Option Value)} {st : List Value} {σ : Mem} {x y : Int64} (hC : gOk Lw l X cc own dd ca sa) (hd : decode cc pc = .ok (.ladd, 1))  (kk : G Lw X k n (pc + 1) ls (.long (x + y) :: st) σ) : G Lw X k n pc ls (.long y :: .long x :: st) σ := by
  obtain ⟨p, l', e, R, s, m, args, below, meth, c, nL, H0, A, E, Q⟩ := X
  obtain ⟨hx, hb, hml, hown, hTB, hK, hD, hA, hR, hlocks, rfl, hh0, hNs⟩ := hC
  exact fun H locs arr hn hP hS hl => lv_ladd hx hb hd (kk H locs arr hn hP hS hl)
theorem g_lmul {Lw : gL} {l : Launch} {X : gC} {cc : ByteArray} {own : String} {dd ca sa k n pc : Nat} {ls : List (Option Value)} {st : List Value} {σ : Mem} {x y : Int64} (hC : gOk Lw l X cc own dd ca sa) (hd : decode cc pc = .ok (.lmul, 1))  (kk : G Lw X k n (pc + 1) ls (.long (x * y) :: st) σ) : G Lw X k n pc ls (.long y :: .long x :: st) σ := by
  obtain ⟨p, l', e, R, s, m, args, below, meth, c, nL, H0, A, E, Q⟩ := X
  obtain ⟨hx, hb, hml, hown, hTB, hK, hD, hA, hR, hlocks, rfl, hh0, hNs⟩ := hC
  exact fun H locs arr hn hP hS hl => lv_lmul hx hb hd (kk H locs arr hn hP hS hl)
theorem g_i2l {Lw : gL} {l : Launch} {X : gC} {cc : ByteArray} {own : String} {dd ca sa k n pc : Nat} {ls : List (Option Value)} {st : List Value} {σ : Mem} {x : Int32} (hC : gOk Lw l X cc own dd ca sa) (hd : decode cc pc = .ok (.i2l, 1))  (kk : G Lw X k n (pc + 1) ls (.long x.toInt64 :: st) σ) : G Lw X k n pc ls (.int x :: st) σ := by
  obtain ⟨p, l', e, R, s, m, args, below, meth, c, nL, H0, A, E, Q⟩ := X
  obtain ⟨hx, hb, hml, hown, hTB, hK, hD, hA, hR, hlocks, rfl, hh0, hNs⟩ := hC
  exact fun H locs arr hn hP hS hl => lv_i2l hx hb hd rfl (kk H locs arr hn hP hS hl)
theorem g_i2d {Lw : gL} {l : Launch} {X : gC} {cc : ByteArray} {own : String} {dd ca sa k n pc : Nat} {ls : List (Option Value)} {st : List Value} {σ : Mem} {x : Int32} (hC : gOk Lw l X cc own dd ca sa) (hd : decode cc pc = .ok (.i2d, 1))  (kk : G Lw X k n (pc + 1) ls (.double (FP.i2d x) :: st) σ) : G Lw X k n pc ls (.int x :: st) σ := by
  obtain ⟨p, l', e, R, s, m, args, below, meth, c, nL, H0, A, E, Q⟩ := X
  obtain ⟨hx, hb, hml, hown, hTB, hK, hD, hA, hR, hlocks, rfl, hh0, hNs⟩ := hC
  exact fun H locs arr hn hP hS hl => lv_i2d hx hb hd (kk H locs arr hn hP hS hl)
theorem g_dconst0 {Lw : gL} {l : Launch} {X : gC} {cc : ByteArray} {own : String} {dd ca sa k n pc : Nat} {ls : List (Option Value)} {st : List Value} {σ : Mem}  (hC : gOk Lw l X cc own dd ca sa) (hd : decode cc pc = .ok (.dconst 0, 1))  (kk : G Lw X k n (pc + 1) ls (.double 0 :: st) σ) : G Lw X k n pc ls (st) σ := by
  obtain ⟨p, l', e, R, s, m, args, below, meth, c, nL, H0, A, E, Q⟩ := X
  obtain ⟨hx, hb, hml, hown, hTB, hK, hD, hA, hR, hlocks, rfl, hh0, hNs⟩ := hC
  exact fun H locs arr hn hP hS hl => lv_dconst0 hx hb hd (kk H locs arr hn hP hS hl)
theorem g_ddiv {Lw : gL} {l : Launch} {X : gC} {cc : ByteArray} {own : String} {dd ca sa k n pc : Nat} {ls : List (Option Value)} {st : List Value} {σ : Mem} {x y : UInt64} (hC : gOk Lw l X cc own dd ca sa) (hd : decode cc pc = .ok (.ddiv, 1)) (hne : vf_n64 (FP.ddiv x y)) (kk : G Lw X k n (pc + 1) ls (.double (FP.ddiv x y) :: st) σ) : G Lw X k n pc ls (.double y :: .double x :: st) σ := by
  obtain ⟨p, l', e, R, s, m, args, below, meth, c, nL, H0, A, E, Q⟩ := X
  obtain ⟨hx, hb, hml, hown, hTB, hK, hD, hA, hR, hlocks, rfl, hh0, hNs⟩ := hC
  exact fun H locs arr hn hP hS hl => lv_ddiv hx hb hd hne (kk H locs arr hn hP hS hl)
theorem g_dup {Lw : gL} {l : Launch} {X : gC} {cc : ByteArray} {own : String} {dd ca sa k n pc : Nat} {ls : List (Option Value)} {st : List Value} {σ : Mem} {v : Value} (hC : gOk Lw l X cc own dd ca sa) (hd : decode cc pc = .ok (.dup, 1)) (hv : v.category = 1) (kk : G Lw X k n (pc + 1) ls (v :: v :: st) σ) : G Lw X k n pc ls (v :: st) σ := by
  obtain ⟨p, l', e, R, s, m, args, below, meth, c, nL, H0, A, E, Q⟩ := X
  obtain ⟨hx, hb, hml, hown, hTB, hK, hD, hA, hR, hlocks, rfl, hh0, hNs⟩ := hC
  exact fun H locs arr hn hP hS hl => lv_dup hx hb hd hv (kk H locs arr hn hP hS hl)
theorem g_pop {Lw : gL} {l : Launch} {X : gC} {cc : ByteArray} {own : String} {dd ca sa k n pc : Nat} {ls : List (Option Value)} {st : List Value} {σ : Mem} {v : Value} (hC : gOk Lw l X cc own dd ca sa) (hd : decode cc pc = .ok (.pop, 1)) (hv : v.category = 1) (kk : G Lw X k n (pc + 1) ls (st) σ) : G Lw X k n pc ls (v :: st) σ := by
  obtain ⟨p, l', e, R, s, m, args, below, meth, c, nL, H0, A, E, Q⟩ := X
  obtain ⟨hx, hb, hml, hown, hTB, hK, hD, hA, hR, hlocks, rfl, hh0, hNs⟩ := hC
  exact fun H locs arr hn hP hS hl => lv_pop hx hb hd hv (kk H locs arr hn hP hS hl)
theorem g_dup2 {Lw : gL} {l : Launch} {X : gC} {cc : ByteArray} {own : String} {dd ca sa k n pc : Nat} {ls : List (Option Value)} {st : List Value} {σ : Mem} {v u : Value} (hC : gOk Lw l X cc own dd ca sa) (hd : decode cc pc = .ok (.dup2, 1)) (hv : v.category = 1) (hu : u.category = 1) (kk : G Lw X k n (pc + 1) ls (v :: u :: v :: u :: st) σ) : G Lw X k n pc ls (v :: u :: st) σ := by
  obtain ⟨p, l', e, R, s, m, args, below, meth, c, nL, H0, A, E, Q⟩ := X
  obtain ⟨hx, hb, hml, hown, hTB, hK, hD, hA, hR, hlocks, rfl, hh0, hNs⟩ := hC
  exact fun H locs arr hn hP hS hl => lv_dup2_11 hx hb hd hv hu (kk H locs arr hn hP hS hl)
theorem g_ild0 {Lw : gL} {l : Launch} {X : gC} {cc : ByteArray} {own : String} {dd ca sa k n pc : Nat} {st : List Value} {σ : Mem} {r : List (Option Value)} {x : Int32} (hC : gOk Lw l X cc own dd ca sa) (hd : decode cc pc = .ok (.iload_n 0, 1)) (kk : G Lw X k n (pc + 1) (some (.int x) :: r) (.int x :: st) σ) : G Lw X k n pc (some (.int x) :: r) st σ := by
  obtain ⟨p, l', e, R, s, m, args, below, meth, c, nL, H0, A, E, Q⟩ := X
  obtain ⟨hx, hb, hml, hown, hTB, hK, hD, hA, hR, hlocks, rfl, hh0, hNs⟩ := hC
  exact fun H locs arr hn hP hS hl => lv_iload_n hx hb hd rfl (g_loc hl 0 rfl) (kk H locs arr hn hP hS hl)
theorem g_ild1 {Lw : gL} {l : Launch} {X : gC} {cc : ByteArray} {own : String} {dd ca sa k n pc : Nat} {st : List Value} {σ : Mem} {a0 : Option Value} {r : List (Option Value)} {x : Int32} (hC : gOk Lw l X cc own dd ca sa) (hd : decode cc pc = .ok (.iload_n 1, 1)) (kk : G Lw X k n (pc + 1) (a0 :: some (.int x) :: r) (.int x :: st) σ) : G Lw X k n pc (a0 :: some (.int x) :: r) st σ := by
  obtain ⟨p, l', e, R, s, m, args, below, meth, c, nL, H0, A, E, Q⟩ := X
  obtain ⟨hx, hb, hml, hown, hTB, hK, hD, hA, hR, hlocks, rfl, hh0, hNs⟩ := hC
  exact fun H locs arr hn hP hS hl => lv_iload_n hx hb hd rfl (g_loc hl 1 rfl) (kk H locs arr hn hP hS hl)
theorem g_ild2 {Lw : gL} {l : Launch} {X : gC} {cc : ByteArray} {own : String} {dd ca sa k n pc : Nat} {st : List Value} {σ : Mem} {a0 a1 : Option Value} {r : List (Option Value)} {x : Int32} (hC : gOk Lw l X cc own dd ca sa) (hd : decode cc pc = .ok (.iload_n 2, 1)) (kk : G Lw X k n (pc + 1) (a0 :: a1 :: some (.int x) :: r) (.int x :: st) σ) : G Lw X k n pc (a0 :: a1 :: some (.int x) :: r) st σ := by
  obtain ⟨p, l', e, R, s, m, args, below, meth, c, nL, H0, A, E, Q⟩ := X
  obtain ⟨hx, hb, hml, hown, hTB, hK, hD, hA, hR, hlocks, rfl, hh0, hNs⟩ := hC
  exact fun H locs arr hn hP hS hl => lv_iload_n hx hb hd rfl (g_loc hl 2 rfl) (kk H locs arr hn hP hS hl)
theorem g_ild3 {Lw : gL} {l : Launch} {X : gC} {cc : ByteArray} {own : String} {dd ca sa k n pc : Nat} {st : List Value} {σ : Mem} {a0 a1 a2 : Option Value} {r : List (Option Value)} {x : Int32} (hC : gOk Lw l X cc own dd ca sa) (hd : decode cc pc = .ok (.iload_n 3, 1)) (kk : G Lw X k n (pc + 1) (a0 :: a1 :: a2 :: some (.int x) :: r) (.int x :: st) σ) : G Lw X k n pc (a0 :: a1 :: a2 :: some (.int x) :: r) st σ := by
  obtain ⟨p, l', e, R, s, m, args, below, meth, c, nL, H0, A, E, Q⟩ := X
  obtain ⟨hx, hb, hml, hown, hTB, hK, hD, hA, hR, hlocks, rfl, hh0, hNs⟩ := hC
  exact fun H locs arr hn hP hS hl => lv_iload_n hx hb hd rfl (g_loc hl 3 rfl) (kk H locs arr hn hP hS hl)
theorem g_ild4 {Lw : gL} {l : Launch} {X : gC} {cc : ByteArray} {own : String} {dd ca sa k n pc : Nat} {st : List Value} {σ : Mem} {a0 a1 a2 a3 : Option Value} {r : List (Option Value)} {x : Int32} (hC : gOk Lw l X cc own dd ca sa) (hd : decode cc pc = .ok (.iload 4, 2)) (kk : G Lw X k n (pc + 2) (a0 :: a1 :: a2 :: a3 :: some (.int x) :: r) (.int x :: st) σ) : G Lw X k n pc (a0 :: a1 :: a2 :: a3 :: some (.int x) :: r) st σ := by
  obtain ⟨p, l', e, R, s, m, args, below, meth, c, nL, H0, A, E, Q⟩ := X
  obtain ⟨hx, hb, hml, hown, hTB, hK, hD, hA, hR, hlocks, rfl, hh0, hNs⟩ := hC
  exact fun H locs arr hn hP hS hl => lv_iload hx hb hd (g_loc hl 4 rfl) (kk H locs arr hn hP hS hl)
theorem g_ild5 {Lw : gL} {l : Launch} {X : gC} {cc : ByteArray} {own : String} {dd ca sa k n pc : Nat} {st : List Value} {σ : Mem} {a0 a1 a2 a3 a4 : Option Value} {r : List (Option Value)} {x : Int32} (hC : gOk Lw l X cc own dd ca sa) (hd : decode cc pc = .ok (.iload 5, 2)) (kk : G Lw X k n (pc + 2) (a0 :: a1 :: a2 :: a3 :: a4 :: some (.int x) :: r) (.int x :: st) σ) : G Lw X k n pc (a0 :: a1 :: a2 :: a3 :: a4 :: some (.int x) :: r) st σ := by
  obtain ⟨p, l', e, R, s, m, args, below, meth, c, nL, H0, A, E, Q⟩ := X
  obtain ⟨hx, hb, hml, hown, hTB, hK, hD, hA, hR, hlocks, rfl, hh0, hNs⟩ := hC
  exact fun H locs arr hn hP hS hl => lv_iload hx hb hd (g_loc hl 5 rfl) (kk H locs arr hn hP hS hl)
theorem g_ild6 {Lw : gL} {l : Launch} {X : gC} {cc : ByteArray} {own : String} {dd ca sa k n pc : Nat} {st : List Value} {σ : Mem} {a0 a1 a2 a3 a4 a5 : Option Value} {r : List (Option Value)} {x : Int32} (hC : gOk Lw l X cc own dd ca sa) (hd : decode cc pc = .ok (.iload 6, 2)) (kk : G Lw X k n (pc + 2) (a0 :: a1 :: a2 :: a3 :: a4 :: a5 :: some (.int x) :: r) (.int x :: st) σ) : G Lw X k n pc (a0 :: a1 :: a2 :: a3 :: a4 :: a5 :: some (.int x) :: r) st σ := by
  obtain ⟨p, l', e, R, s, m, args, below, meth, c, nL, H0, A, E, Q⟩ := X
  obtain ⟨hx, hb, hml, hown, hTB, hK, hD, hA, hR, hlocks, rfl, hh0, hNs⟩ := hC
  exact fun H locs arr hn hP hS hl => lv_iload hx hb hd (g_loc hl 6 rfl) (kk H locs arr hn hP hS hl)
theorem g_ild7 {Lw : gL} {l : Launch} {X : gC} {cc : ByteArray} {own : String} {dd ca sa k n pc : Nat} {st : List Value} {σ : Mem} {a0 a1 a2 a3 a4 a5 a6 : Option Value} {r : List (Option Value)} {x : Int32} (hC : gOk Lw l X cc own dd ca sa) (hd : decode cc pc = .ok (.iload 7, 2)) (kk : G Lw X k n (pc + 2) (a0 :: a1 :: a2 :: a3 :: a4 :: a5 :: a6 :: some (.int x) :: r) (.int x :: st) σ) : G Lw X k n pc (a0 :: a1 :: a2 :: a3 :: a4 :: a5 :: a6 :: some (.int x) :: r) st σ := by
  obtain ⟨p, l', e, R, s, m, args, below, meth, c, nL, H0, A, E, Q⟩ := X
  obtain ⟨hx, hb, hml, hown, hTB, hK, hD, hA, hR, hlocks, rfl, hh0, hNs⟩ := hC
  exact fun H locs arr hn hP hS hl => lv_iload hx hb hd (g_loc hl 7 rfl) (kk H locs arr hn hP hS hl)
theorem g_ild8 {Lw : gL} {l : Launch} {X : gC} {cc : ByteArray} {own : String} {dd ca sa k n pc : Nat} {st : List Value} {σ : Mem} {a0 a1 a2 a3 a4 a5 a6 a7 : Option Value} {r : List (Option Value)} {x : Int32} (hC : gOk Lw l X cc own dd ca sa) (hd : decode cc pc = .ok (.iload 8, 2)) (kk : G Lw X k n (pc + 2) (a0 :: a1 :: a2 :: a3 :: a4 :: a5 :: a6 :: a7 :: some (.int x) :: r) (.int x :: st) σ) : G Lw X k n pc (a0 :: a1 :: a2 :: a3 :: a4 :: a5 :: a6 :: a7 :: some (.int x) :: r) st σ := by
  obtain ⟨p, l', e, R, s, m, args, below, meth, c, nL, H0, A, E, Q⟩ := X
  obtain ⟨hx, hb, hml, hown, hTB, hK, hD, hA, hR, hlocks, rfl, hh0, hNs⟩ := hC
  exact fun H locs arr hn hP hS hl => lv_iload hx hb hd (g_loc hl 8 rfl) (kk H locs arr hn hP hS hl)
theorem g_ild9 {Lw : gL} {l : Launch} {X : gC} {cc : ByteArray} {own : String} {dd ca sa k n pc : Nat} {st : List Value} {σ : Mem} {a0 a1 a2 a3 a4 a5 a6 a7 a8 : Option Value} {r : List (Option Value)} {x : Int32} (hC : gOk Lw l X cc own dd ca sa) (hd : decode cc pc = .ok (.iload 9, 2)) (kk : G Lw X k n (pc + 2) (a0 :: a1 :: a2 :: a3 :: a4 :: a5 :: a6 :: a7 :: a8 :: some (.int x) :: r) (.int x :: st) σ) : G Lw X k n pc (a0 :: a1 :: a2 :: a3 :: a4 :: a5 :: a6 :: a7 :: a8 :: some (.int x) :: r) st σ := by
  obtain ⟨p, l', e, R, s, m, args, below, meth, c, nL, H0, A, E, Q⟩ := X
  obtain ⟨hx, hb, hml, hown, hTB, hK, hD, hA, hR, hlocks, rfl, hh0, hNs⟩ := hC
  exact fun H locs arr hn hP hS hl => lv_iload hx hb hd (g_loc hl 9 rfl) (kk H locs arr hn hP hS hl)
theorem g_ild10 {Lw : gL} {l : Launch} {X : gC} {cc : ByteArray} {own : String} {dd ca sa k n pc : Nat} {st : List Value} {σ : Mem} {a0 a1 a2 a3 a4 a5 a6 a7 a8 a9 : Option Value} {r : List (Option Value)} {x : Int32} (hC : gOk Lw l X cc own dd ca sa) (hd : decode cc pc = .ok (.iload 10, 2)) (kk : G Lw X k n (pc + 2) (a0 :: a1 :: a2 :: a3 :: a4 :: a5 :: a6 :: a7 :: a8 :: a9 :: some (.int x) :: r) (.int x :: st) σ) : G Lw X k n pc (a0 :: a1 :: a2 :: a3 :: a4 :: a5 :: a6 :: a7 :: a8 :: a9 :: some (.int x) :: r) st σ := by
  obtain ⟨p, l', e, R, s, m, args, below, meth, c, nL, H0, A, E, Q⟩ := X
  obtain ⟨hx, hb, hml, hown, hTB, hK, hD, hA, hR, hlocks, rfl, hh0, hNs⟩ := hC
  exact fun H locs arr hn hP hS hl => lv_iload hx hb hd (g_loc hl 10 rfl) (kk H locs arr hn hP hS hl)
theorem g_ild11 {Lw : gL} {l : Launch} {X : gC} {cc : ByteArray} {own : String} {dd ca sa k n pc : Nat} {st : List Value} {σ : Mem} {a0 a1 a2 a3 a4 a5 a6 a7 a8 a9 a10 : Option Value} {r : List (Option Value)} {x : Int32} (hC : gOk Lw l X cc own dd ca sa) (hd : decode cc pc = .ok (.iload 11, 2)) (kk : G Lw X k n (pc + 2) (a0 :: a1 :: a2 :: a3 :: a4 :: a5 :: a6 :: a7 :: a8 :: a9 :: a10 :: some (.int x) :: r) (.int x :: st) σ) : G Lw X k n pc (a0 :: a1 :: a2 :: a3 :: a4 :: a5 :: a6 :: a7 :: a8 :: a9 :: a10 :: some (.int x) :: r) st σ := by
  obtain ⟨p, l', e, R, s, m, args, below, meth, c, nL, H0, A, E, Q⟩ := X
  obtain ⟨hx, hb, hml, hown, hTB, hK, hD, hA, hR, hlocks, rfl, hh0, hNs⟩ := hC
  exact fun H locs arr hn hP hS hl => lv_iload hx hb hd (g_loc hl 11 rfl) (kk H locs arr hn hP hS hl)
theorem g_ild12 {Lw : gL} {l : Launch} {X : gC} {cc : ByteArray} {own : String} {dd ca sa k n pc : Nat} {st : List Value} {σ : Mem} {a0 a1 a2 a3 a4 a5 a6 a7 a8 a9 a10 a11 : Option Value} {r : List (Option Value)} {x : Int32} (hC : gOk Lw l X cc own dd ca sa) (hd : decode cc pc = .ok (.iload 12, 2)) (kk : G Lw X k n (pc + 2) (a0 :: a1 :: a2 :: a3 :: a4 :: a5 :: a6 :: a7 :: a8 :: a9 :: a10 :: a11 :: some (.int x) :: r) (.int x :: st) σ) : G Lw X k n pc (a0 :: a1 :: a2 :: a3 :: a4 :: a5 :: a6 :: a7 :: a8 :: a9 :: a10 :: a11 :: some (.int x) :: r) st σ := by
  obtain ⟨p, l', e, R, s, m, args, below, meth, c, nL, H0, A, E, Q⟩ := X
  obtain ⟨hx, hb, hml, hown, hTB, hK, hD, hA, hR, hlocks, rfl, hh0, hNs⟩ := hC
  exact fun H locs arr hn hP hS hl => lv_iload hx hb hd (g_loc hl 12 rfl) (kk H locs arr hn hP hS hl)
theorem g_ild13 {Lw : gL} {l : Launch} {X : gC} {cc : ByteArray} {own : String} {dd ca sa k n pc : Nat} {st : List Value} {σ : Mem} {a0 a1 a2 a3 a4 a5 a6 a7 a8 a9 a10 a11 a12 : Option Value} {r : List (Option Value)} {x : Int32} (hC : gOk Lw l X cc own dd ca sa) (hd : decode cc pc = .ok (.iload 13, 2)) (kk : G Lw X k n (pc + 2) (a0 :: a1 :: a2 :: a3 :: a4 :: a5 :: a6 :: a7 :: a8 :: a9 :: a10 :: a11 :: a12 :: some (.int x) :: r) (.int x :: st) σ) : G Lw X k n pc (a0 :: a1 :: a2 :: a3 :: a4 :: a5 :: a6 :: a7 :: a8 :: a9 :: a10 :: a11 :: a12 :: some (.int x) :: r) st σ := by
  obtain ⟨p, l', e, R, s, m, args, below, meth, c, nL, H0, A, E, Q⟩ := X
  obtain ⟨hx, hb, hml, hown, hTB, hK, hD, hA, hR, hlocks, rfl, hh0, hNs⟩ := hC
  exact fun H locs arr hn hP hS hl => lv_iload hx hb hd (g_loc hl 13 rfl) (kk H locs arr hn hP hS hl)
theorem g_ald0 {Lw : gL} {l : Launch} {X : gC} {cc : ByteArray} {own : String} {dd ca sa k n pc : Nat} {st : List Value} {σ : Mem} {r : List (Option Value)} {x : Nat} (hC : gOk Lw l X cc own dd ca sa) (hd : decode cc pc = .ok (.aload_n 0, 1)) (kk : G Lw X k n (pc + 1) (some (.ref x) :: r) (.ref x :: st) σ) : G Lw X k n pc (some (.ref x) :: r) st σ := by
  obtain ⟨p, l', e, R, s, m, args, below, meth, c, nL, H0, A, E, Q⟩ := X
  obtain ⟨hx, hb, hml, hown, hTB, hK, hD, hA, hR, hlocks, rfl, hh0, hNs⟩ := hC
  exact fun H locs arr hn hP hS hl => lv_aload_n hx hb hd rfl (g_loc hl 0 rfl) (kk H locs arr hn hP hS hl)
theorem g_ald1 {Lw : gL} {l : Launch} {X : gC} {cc : ByteArray} {own : String} {dd ca sa k n pc : Nat} {st : List Value} {σ : Mem} {a0 : Option Value} {r : List (Option Value)} {x : Nat} (hC : gOk Lw l X cc own dd ca sa) (hd : decode cc pc = .ok (.aload_n 1, 1)) (kk : G Lw X k n (pc + 1) (a0 :: some (.ref x) :: r) (.ref x :: st) σ) : G Lw X k n pc (a0 :: some (.ref x) :: r) st σ := by
  obtain ⟨p, l', e, R, s, m, args, below, meth, c, nL, H0, A, E, Q⟩ := X
  obtain ⟨hx, hb, hml, hown, hTB, hK, hD, hA, hR, hlocks, rfl, hh0, hNs⟩ := hC
  exact fun H locs arr hn hP hS hl => lv_aload_n hx hb hd rfl (g_loc hl 1 rfl) (kk H locs arr hn hP hS hl)
theorem g_ald2 {Lw : gL} {l : Launch} {X : gC} {cc : ByteArray} {own : String} {dd ca sa k n pc : Nat} {st : List Value} {σ : Mem} {a0 a1 : Option Value} {r : List (Option Value)} {x : Nat} (hC : gOk Lw l X cc own dd ca sa) (hd : decode cc pc = .ok (.aload_n 2, 1)) (kk : G Lw X k n (pc + 1) (a0 :: a1 :: some (.ref x) :: r) (.ref x :: st) σ) : G Lw X k n pc (a0 :: a1 :: some (.ref x) :: r) st σ := by
  obtain ⟨p, l', e, R, s, m, args, below, meth, c, nL, H0, A, E, Q⟩ := X
  obtain ⟨hx, hb, hml, hown, hTB, hK, hD, hA, hR, hlocks, rfl, hh0, hNs⟩ := hC
  exact fun H locs arr hn hP hS hl => lv_aload_n hx hb hd rfl (g_loc hl 2 rfl) (kk H locs arr hn hP hS hl)
theorem g_ald3 {Lw : gL} {l : Launch} {X : gC} {cc : ByteArray} {own : String} {dd ca sa k n pc : Nat} {st : List Value} {σ : Mem} {a0 a1 a2 : Option Value} {r : List (Option Value)} {x : Nat} (hC : gOk Lw l X cc own dd ca sa) (hd : decode cc pc = .ok (.aload_n 3, 1)) (kk : G Lw X k n (pc + 1) (a0 :: a1 :: a2 :: some (.ref x) :: r) (.ref x :: st) σ) : G Lw X k n pc (a0 :: a1 :: a2 :: some (.ref x) :: r) st σ := by
  obtain ⟨p, l', e, R, s, m, args, below, meth, c, nL, H0, A, E, Q⟩ := X
  obtain ⟨hx, hb, hml, hown, hTB, hK, hD, hA, hR, hlocks, rfl, hh0, hNs⟩ := hC
  exact fun H locs arr hn hP hS hl => lv_aload_n hx hb hd rfl (g_loc hl 3 rfl) (kk H locs arr hn hP hS hl)
theorem g_ald4 {Lw : gL} {l : Launch} {X : gC} {cc : ByteArray} {own : String} {dd ca sa k n pc : Nat} {st : List Value} {σ : Mem} {a0 a1 a2 a3 : Option Value} {r : List (Option Value)} {x : Nat} (hC : gOk Lw l X cc own dd ca sa) (hd : decode cc pc = .ok (.aload 4, 2)) (kk : G Lw X k n (pc + 2) (a0 :: a1 :: a2 :: a3 :: some (.ref x) :: r) (.ref x :: st) σ) : G Lw X k n pc (a0 :: a1 :: a2 :: a3 :: some (.ref x) :: r) st σ := by
  obtain ⟨p, l', e, R, s, m, args, below, meth, c, nL, H0, A, E, Q⟩ := X
  obtain ⟨hx, hb, hml, hown, hTB, hK, hD, hA, hR, hlocks, rfl, hh0, hNs⟩ := hC
  exact fun H locs arr hn hP hS hl => lv_aload hx hb hd (g_loc hl 4 rfl) (kk H locs arr hn hP hS hl)
theorem g_ald5 {Lw : gL} {l : Launch} {X : gC} {cc : ByteArray} {own : String} {dd ca sa k n pc : Nat} {st : List Value} {σ : Mem} {a0 a1 a2 a3 a4 : Option Value} {r : List (Option Value)} {x : Nat} (hC : gOk Lw l X cc own dd ca sa) (hd : decode cc pc = .ok (.aload 5, 2)) (kk : G Lw X k n (pc + 2) (a0 :: a1 :: a2 :: a3 :: a4 :: some (.ref x) :: r) (.ref x :: st) σ) : G Lw X k n pc (a0 :: a1 :: a2 :: a3 :: a4 :: some (.ref x) :: r) st σ := by
  obtain ⟨p, l', e, R, s, m, args, below, meth, c, nL, H0, A, E, Q⟩ := X
  obtain ⟨hx, hb, hml, hown, hTB, hK, hD, hA, hR, hlocks, rfl, hh0, hNs⟩ := hC
  exact fun H locs arr hn hP hS hl => lv_aload hx hb hd (g_loc hl 5 rfl) (kk H locs arr hn hP hS hl)
theorem g_ald6 {Lw : gL} {l : Launch} {X : gC} {cc : ByteArray} {own : String} {dd ca sa k n pc : Nat} {st : List Value} {σ : Mem} {a0 a1 a2 a3 a4 a5 : Option Value} {r : List (Option Value)} {x : Nat} (hC : gOk Lw l X cc own dd ca sa) (hd : decode cc pc = .ok (.aload 6, 2)) (kk : G Lw X k n (pc + 2) (a0 :: a1 :: a2 :: a3 :: a4 :: a5 :: some (.ref x) :: r) (.ref x :: st) σ) : G Lw X k n pc (a0 :: a1 :: a2 :: a3 :: a4 :: a5 :: some (.ref x) :: r) st σ := by
  obtain ⟨p, l', e, R, s, m, args, below, meth, c, nL, H0, A, E, Q⟩ := X
  obtain ⟨hx, hb, hml, hown, hTB, hK, hD, hA, hR, hlocks, rfl, hh0, hNs⟩ := hC
  exact fun H locs arr hn hP hS hl => lv_aload hx hb hd (g_loc hl 6 rfl) (kk H locs arr hn hP hS hl)
theorem g_ald7 {Lw : gL} {l : Launch} {X : gC} {cc : ByteArray} {own : String} {dd ca sa k n pc : Nat} {st : List Value} {σ : Mem} {a0 a1 a2 a3 a4 a5 a6 : Option Value} {r : List (Option Value)} {x : Nat} (hC : gOk Lw l X cc own dd ca sa) (hd : decode cc pc = .ok (.aload 7, 2)) (kk : G Lw X k n (pc + 2) (a0 :: a1 :: a2 :: a3 :: a4 :: a5 :: a6 :: some (.ref x) :: r) (.ref x :: st) σ) : G Lw X k n pc (a0 :: a1 :: a2 :: a3 :: a4 :: a5 :: a6 :: some (.ref x) :: r) st σ := by
  obtain ⟨p, l', e, R, s, m, args, below, meth, c, nL, H0, A, E, Q⟩ := X
  obtain ⟨hx, hb, hml, hown, hTB, hK, hD, hA, hR, hlocks, rfl, hh0, hNs⟩ := hC
  exact fun H locs arr hn hP hS hl => lv_aload hx hb hd (g_loc hl 7 rfl) (kk H locs arr hn hP hS hl)
theorem g_ald8 {Lw : gL} {l : Launch} {X : gC} {cc : ByteArray} {own : String} {dd ca sa k n pc : Nat} {st : List Value} {σ : Mem} {a0 a1 a2 a3 a4 a5 a6 a7 : Option Value} {r : List (Option Value)} {x : Nat} (hC : gOk Lw l X cc own dd ca sa) (hd : decode cc pc = .ok (.aload 8, 2)) (kk : G Lw X k n (pc + 2) (a0 :: a1 :: a2 :: a3 :: a4 :: a5 :: a6 :: a7 :: some (.ref x) :: r) (.ref x :: st) σ) : G Lw X k n pc (a0 :: a1 :: a2 :: a3 :: a4 :: a5 :: a6 :: a7 :: some (.ref x) :: r) st σ := by
  obtain ⟨p, l', e, R, s, m, args, below, meth, c, nL, H0, A, E, Q⟩ := X
  obtain ⟨hx, hb, hml, hown, hTB, hK, hD, hA, hR, hlocks, rfl, hh0, hNs⟩ := hC
  exact fun H locs arr hn hP hS hl => lv_aload hx hb hd (g_loc hl 8 rfl) (kk H locs arr hn hP hS hl)
theorem g_ald9 {Lw : gL} {l : Launch} {X : gC} {cc : ByteArray} {own : String} {dd ca sa k n pc : Nat} {st : List Value} {σ : Mem} {a0 a1 a2 a3 a4 a5 a6 a7 a8 : Option Value} {r : List (Option Value)} {x : Nat} (hC : gOk Lw l X cc own dd ca sa) (hd : decode cc pc = .ok (.aload 9, 2)) (kk : G Lw X k n (pc + 2) (a0 :: a1 :: a2 :: a3 :: a4 :: a5 :: a6 :: a7 :: a8 :: some (.ref x) :: r) (.ref x :: st) σ) : G Lw X k n pc (a0 :: a1 :: a2 :: a3 :: a4 :: a5 :: a6 :: a7 :: a8 :: some (.ref x) :: r) st σ := by
  obtain ⟨p, l', e, R, s, m, args, below, meth, c, nL, H0, A, E, Q⟩ := X
  obtain ⟨hx, hb, hml, hown, hTB, hK, hD, hA, hR, hlocks, rfl, hh0, hNs⟩ := hC
  exact fun H locs arr hn hP hS hl => lv_aload hx hb hd (g_loc hl 9 rfl) (kk H locs arr hn hP hS hl)
theorem g_ald10 {Lw : gL} {l : Launch} {X : gC} {cc : ByteArray} {own : String} {dd ca sa k n pc : Nat} {st : List Value} {σ : Mem} {a0 a1 a2 a3 a4 a5 a6 a7 a8 a9 : Option Value} {r : List (Option Value)} {x : Nat} (hC : gOk Lw l X cc own dd ca sa) (hd : decode cc pc = .ok (.aload 10, 2)) (kk : G Lw X k n (pc + 2) (a0 :: a1 :: a2 :: a3 :: a4 :: a5 :: a6 :: a7 :: a8 :: a9 :: some (.ref x) :: r) (.ref x :: st) σ) : G Lw X k n pc (a0 :: a1 :: a2 :: a3 :: a4 :: a5 :: a6 :: a7 :: a8 :: a9 :: some (.ref x) :: r) st σ := by
  obtain ⟨p, l', e, R, s, m, args, below, meth, c, nL, H0, A, E, Q⟩ := X
  obtain ⟨hx, hb, hml, hown, hTB, hK, hD, hA, hR, hlocks, rfl, hh0, hNs⟩ := hC
  exact fun H locs arr hn hP hS hl => lv_aload hx hb hd (g_loc hl 10 rfl) (kk H locs arr hn hP hS hl)
theorem g_ald11 {Lw : gL} {l : Launch} {X : gC} {cc : ByteArray} {own : String} {dd ca sa k n pc : Nat} {st : List Value} {σ : Mem} {a0 a1 a2 a3 a4 a5 a6 a7 a8 a9 a10 : Option Value} {r : List (Option Value)} {x : Nat} (hC : gOk Lw l X cc own dd ca sa) (hd : decode cc pc = .ok (.aload 11, 2)) (kk : G Lw X k n (pc + 2) (a0 :: a1 :: a2 :: a3 :: a4 :: a5 :: a6 :: a7 :: a8 :: a9 :: a10 :: some (.ref x) :: r) (.ref x :: st) σ) : G Lw X k n pc (a0 :: a1 :: a2 :: a3 :: a4 :: a5 :: a6 :: a7 :: a8 :: a9 :: a10 :: some (.ref x) :: r) st σ := by
  obtain ⟨p, l', e, R, s, m, args, below, meth, c, nL, H0, A, E, Q⟩ := X
  obtain ⟨hx, hb, hml, hown, hTB, hK, hD, hA, hR, hlocks, rfl, hh0, hNs⟩ := hC
  exact fun H locs arr hn hP hS hl => lv_aload hx hb hd (g_loc hl 11 rfl) (kk H locs arr hn hP hS hl)
theorem g_ald12 {Lw : gL} {l : Launch} {X : gC} {cc : ByteArray} {own : String} {dd ca sa k n pc : Nat} {st : List Value} {σ : Mem} {a0 a1 a2 a3 a4 a5 a6 a7 a8 a9 a10 a11 : Option Value} {r : List (Option Value)} {x : Nat} (hC : gOk Lw l X cc own dd ca sa) (hd : decode cc pc = .ok (.aload 12, 2)) (kk : G Lw X k n (pc + 2) (a0 :: a1 :: a2 :: a3 :: a4 :: a5 :: a6 :: a7 :: a8 :: a9 :: a10 :: a11 :: some (.ref x) :: r) (.ref x :: st) σ) : G Lw X k n pc (a0 :: a1 :: a2 :: a3 :: a4 :: a5 :: a6 :: a7 :: a8 :: a9 :: a10 :: a11 :: some (.ref x) :: r) st σ := by
  obtain ⟨p, l', e, R, s, m, args, below, meth, c, nL, H0, A, E, Q⟩ := X
  obtain ⟨hx, hb, hml, hown, hTB, hK, hD, hA, hR, hlocks, rfl, hh0, hNs⟩ := hC
  exact fun H locs arr hn hP hS hl => lv_aload hx hb hd (g_loc hl 12 rfl) (kk H locs arr hn hP hS hl)
theorem g_ald13 {Lw : gL} {l : Launch} {X : gC} {cc : ByteArray} {own : String} {dd ca sa k n pc : Nat} {st : List Value} {σ : Mem} {a0 a1 a2 a3 a4 a5 a6 a7 a8 a9 a10 a11 a12 : Option Value} {r : List (Option Value)} {x : Nat} (hC : gOk Lw l X cc own dd ca sa) (hd : decode cc pc = .ok (.aload 13, 2)) (kk : G Lw X k n (pc + 2) (a0 :: a1 :: a2 :: a3 :: a4 :: a5 :: a6 :: a7 :: a8 :: a9 :: a10 :: a11 :: a12 :: some (.ref x) :: r) (.ref x :: st) σ) : G Lw X k n pc (a0 :: a1 :: a2 :: a3 :: a4 :: a5 :: a6 :: a7 :: a8 :: a9 :: a10 :: a11 :: a12 :: some (.ref x) :: r) st σ := by
  obtain ⟨p, l', e, R, s, m, args, below, meth, c, nL, H0, A, E, Q⟩ := X
  obtain ⟨hx, hb, hml, hown, hTB, hK, hD, hA, hR, hlocks, rfl, hh0, hNs⟩ := hC
  exact fun H locs arr hn hP hS hl => lv_aload hx hb hd (g_loc hl 13 rfl) (kk H locs arr hn hP hS hl)
theorem g_lld0 {Lw : gL} {l : Launch} {X : gC} {cc : ByteArray} {own : String} {dd ca sa k n pc : Nat} {st : List Value} {σ : Mem} {r : List (Option Value)} {x : Int64} (hC : gOk Lw l X cc own dd ca sa) (hd : decode cc pc = .ok (.lload_n 0, 1)) (kk : G Lw X k n (pc + 1) (some (.long x) :: r) (.long x :: st) σ) : G Lw X k n pc (some (.long x) :: r) st σ := by
  obtain ⟨p, l', e, R, s, m, args, below, meth, c, nL, H0, A, E, Q⟩ := X
  obtain ⟨hx, hb, hml, hown, hTB, hK, hD, hA, hR, hlocks, rfl, hh0, hNs⟩ := hC
  exact fun H locs arr hn hP hS hl => lv_lload_n hx hb hd rfl (g_loc hl 0 rfl) (kk H locs arr hn hP hS hl)
theorem g_lld1 {Lw : gL} {l : Launch} {X : gC} {cc : ByteArray} {own : String} {dd ca sa k n pc : Nat} {st : List Value} {σ : Mem} {a0 : Option Value} {r : List (Option Value)} {x : Int64} (hC : gOk Lw l X cc own dd ca sa) (hd : decode cc pc = .ok (.lload_n 1, 1)) (kk : G Lw X k n (pc + 1) (a0 :: some (.long x) :: r) (.long x :: st) σ) : G Lw X k n pc (a0 :: some (.long x) :: r) st σ := by
  obtain ⟨p, l', e, R, s, m, args, below, meth, c, nL, H0, A, E, Q⟩ := X
  obtain ⟨hx, hb, hml, hown, hTB, hK, hD, hA, hR, hlocks, rfl, hh0, hNs⟩ := hC
  exact fun H locs arr hn hP hS hl => lv_lload_n hx hb hd rfl (g_loc hl 1 rfl) (kk H locs arr hn hP hS hl)
theorem g_lld2 {Lw : gL} {l : Launch} {X : gC} {cc : ByteArray} {own : String} {dd ca sa k n pc : Nat} {st : List Value} {σ : Mem} {a0 a1 : Option Value} {r : List (Option Value)} {x : Int64} (hC : gOk Lw l X cc own dd ca sa) (hd : decode cc pc = .ok (.lload_n 2, 1)) (kk : G Lw X k n (pc + 1) (a0 :: a1 :: some (.long x) :: r) (.long x :: st) σ) : G Lw X k n pc (a0 :: a1 :: some (.long x) :: r) st σ := by
  obtain ⟨p, l', e, R, s, m, args, below, meth, c, nL, H0, A, E, Q⟩ := X
  obtain ⟨hx, hb, hml, hown, hTB, hK, hD, hA, hR, hlocks, rfl, hh0, hNs⟩ := hC
  exact fun H locs arr hn hP hS hl => lv_lload_n hx hb hd rfl (g_loc hl 2 rfl) (kk H locs arr hn hP hS hl)
theorem g_lld3 {Lw : gL} {l : Launch} {X : gC} {cc : ByteArray} {own : String} {dd ca sa k n pc : Nat} {st : List Value} {σ : Mem} {a0 a1 a2 : Option Value} {r : List (Option Value)} {x : Int64} (hC : gOk Lw l X cc own dd ca sa) (hd : decode cc pc = .ok (.lload_n 3, 1)) (kk : G Lw X k n (pc + 1) (a0 :: a1 :: a2 :: some (.long x) :: r) (.long x :: st) σ) : G Lw X k n pc (a0 :: a1 :: a2 :: some (.long x) :: r) st σ := by
  obtain ⟨p, l', e, R, s, m, args, below, meth, c, nL, H0, A, E, Q⟩ := X
  obtain ⟨hx, hb, hml, hown, hTB, hK, hD, hA, hR, hlocks, rfl, hh0, hNs⟩ := hC
  exact fun H locs arr hn hP hS hl => lv_lload_n hx hb hd rfl (g_loc hl 3 rfl) (kk H locs arr hn hP hS hl)
theorem g_lld4 {Lw : gL} {l : Launch} {X : gC} {cc : ByteArray} {own : String} {dd ca sa k n pc : Nat} {st : List Value} {σ : Mem} {a0 a1 a2 a3 : Option Value} {r : List (Option Value)} {x : Int64} (hC : gOk Lw l X cc own dd ca sa) (hd : decode cc pc = .ok (.lload 4, 2)) (kk : G Lw X k n (pc + 2) (a0 :: a1 :: a2 :: a3 :: some (.long x) :: r) (.long x :: st) σ) : G Lw X k n pc (a0 :: a1 :: a2 :: a3 :: some (.long x) :: r) st σ := by
  obtain ⟨p, l', e, R, s, m, args, below, meth, c, nL, H0, A, E, Q⟩ := X
  obtain ⟨hx, hb, hml, hown, hTB, hK, hD, hA, hR, hlocks, rfl, hh0, hNs⟩ := hC
  exact fun H locs arr hn hP hS hl => lv_lload hx hb hd (g_loc hl 4 rfl) (kk H locs arr hn hP hS hl)
theorem g_lld5 {Lw : gL} {l : Launch} {X : gC} {cc : ByteArray} {own : String} {dd ca sa k n pc : Nat} {st : List Value} {σ : Mem} {a0 a1 a2 a3 a4 : Option Value} {r : List (Option Value)} {x : Int64} (hC : gOk Lw l X cc own dd ca sa) (hd : decode cc pc = .ok (.lload 5, 2)) (kk : G Lw X k n (pc + 2) (a0 :: a1 :: a2 :: a3 :: a4 :: some (.long x) :: r) (.long x :: st) σ) : G Lw X k n pc (a0 :: a1 :: a2 :: a3 :: a4 :: some (.long x) :: r) st σ := by
  obtain ⟨p, l', e, R, s, m, args, below, meth, c, nL, H0, A, E, Q⟩ := X
  obtain ⟨hx, hb, hml, hown, hTB, hK, hD, hA, hR, hlocks, rfl, hh0, hNs⟩ := hC
  exact fun H locs arr hn hP hS hl => lv_lload hx hb hd (g_loc hl 5 rfl) (kk H locs arr hn hP hS hl)
theorem g_lld6 {Lw : gL} {l : Launch} {X : gC} {cc : ByteArray} {own : String} {dd ca sa k n pc : Nat} {st : List Value} {σ : Mem} {a0 a1 a2 a3 a4 a5 : Option Value} {r : List (Option Value)} {x : Int64} (hC : gOk Lw l X cc own dd ca sa) (hd : decode cc pc = .ok (.lload 6, 2)) (kk : G Lw X k n (pc + 2) (a0 :: a1 :: a2 :: a3 :: a4 :: a5 :: some (.long x) :: r) (.long x :: st) σ) : G Lw X k n pc (a0 :: a1 :: a2 :: a3 :: a4 :: a5 :: some (.long x) :: r) st σ := by
  obtain ⟨p, l', e, R, s, m, args, below, meth, c, nL, H0, A, E, Q⟩ := X
  obtain ⟨hx, hb, hml, hown, hTB, hK, hD, hA, hR, hlocks, rfl, hh0, hNs⟩ := hC
  exact fun H locs arr hn hP hS hl => lv_lload hx hb hd (g_loc hl 6 rfl) (kk H locs arr hn hP hS hl)
theorem g_lld7 {Lw : gL} {l : Launch} {X : gC} {cc : ByteArray} {own : String} {dd ca sa k n pc : Nat} {st : List Value} {σ : Mem} {a0 a1 a2 a3 a4 a5 a6 : Option Value} {r : List (Option Value)} {x : Int64} (hC : gOk Lw l X cc own dd ca sa) (hd : decode cc pc = .ok (.lload 7, 2)) (kk : G Lw X k n (pc + 2) (a0 :: a1 :: a2 :: a3 :: a4 :: a5 :: a6 :: some (.long x) :: r) (.long x :: st) σ) : G Lw X k n pc (a0 :: a1 :: a2 :: a3 :: a4 :: a5 :: a6 :: some (.long x) :: r) st σ := by
  obtain ⟨p, l', e, R, s, m, args, below, meth, c, nL, H0, A, E, Q⟩ := X
  obtain ⟨hx, hb, hml, hown, hTB, hK, hD, hA, hR, hlocks, rfl, hh0, hNs⟩ := hC
  exact fun H locs arr hn hP hS hl => lv_lload hx hb hd (g_loc hl 7 rfl) (kk H locs arr hn hP hS hl)
theorem g_lld8 {Lw : gL} {l : Launch} {X : gC} {cc : ByteArray} {own : String} {dd ca sa k n pc : Nat} {st : List Value} {σ : Mem} {a0 a1 a2 a3 a4 a5 a6 a7 : Option Value} {r : List (Option Value)} {x : Int64} (hC : gOk Lw l X cc own dd ca sa) (hd : decode cc pc = .ok (.lload 8, 2)) (kk : G Lw X k n (pc + 2) (a0 :: a1 :: a2 :: a3 :: a4 :: a5 :: a6 :: a7 :: some (.long x) :: r) (.long x :: st) σ) : G Lw X k n pc (a0 :: a1 :: a2 :: a3 :: a4 :: a5 :: a6 :: a7 :: some (.long x) :: r) st σ := by
  obtain ⟨p, l', e, R, s, m, args, below, meth, c, nL, H0, A, E, Q⟩ := X
  obtain ⟨hx, hb, hml, hown, hTB, hK, hD, hA, hR, hlocks, rfl, hh0, hNs⟩ := hC
  exact fun H locs arr hn hP hS hl => lv_lload hx hb hd (g_loc hl 8 rfl) (kk H locs arr hn hP hS hl)
theorem g_lld9 {Lw : gL} {l : Launch} {X : gC} {cc : ByteArray} {own : String} {dd ca sa k n pc : Nat} {st : List Value} {σ : Mem} {a0 a1 a2 a3 a4 a5 a6 a7 a8 : Option Value} {r : List (Option Value)} {x : Int64} (hC : gOk Lw l X cc own dd ca sa) (hd : decode cc pc = .ok (.lload 9, 2)) (kk : G Lw X k n (pc + 2) (a0 :: a1 :: a2 :: a3 :: a4 :: a5 :: a6 :: a7 :: a8 :: some (.long x) :: r) (.long x :: st) σ) : G Lw X k n pc (a0 :: a1 :: a2 :: a3 :: a4 :: a5 :: a6 :: a7 :: a8 :: some (.long x) :: r) st σ := by
  obtain ⟨p, l', e, R, s, m, args, below, meth, c, nL, H0, A, E, Q⟩ := X
  obtain ⟨hx, hb, hml, hown, hTB, hK, hD, hA, hR, hlocks, rfl, hh0, hNs⟩ := hC
  exact fun H locs arr hn hP hS hl => lv_lload hx hb hd (g_loc hl 9 rfl) (kk H locs arr hn hP hS hl)
theorem g_lld10 {Lw : gL} {l : Launch} {X : gC} {cc : ByteArray} {own : String} {dd ca sa k n pc : Nat} {st : List Value} {σ : Mem} {a0 a1 a2 a3 a4 a5 a6 a7 a8 a9 : Option Value} {r : List (Option Value)} {x : Int64} (hC : gOk Lw l X cc own dd ca sa) (hd : decode cc pc = .ok (.lload 10, 2)) (kk : G Lw X k n (pc + 2) (a0 :: a1 :: a2 :: a3 :: a4 :: a5 :: a6 :: a7 :: a8 :: a9 :: some (.long x) :: r) (.long x :: st) σ) : G Lw X k n pc (a0 :: a1 :: a2 :: a3 :: a4 :: a5 :: a6 :: a7 :: a8 :: a9 :: some (.long x) :: r) st σ := by
  obtain ⟨p, l', e, R, s, m, args, below, meth, c, nL, H0, A, E, Q⟩ := X
  obtain ⟨hx, hb, hml, hown, hTB, hK, hD, hA, hR, hlocks, rfl, hh0, hNs⟩ := hC
  exact fun H locs arr hn hP hS hl => lv_lload hx hb hd (g_loc hl 10 rfl) (kk H locs arr hn hP hS hl)
theorem g_lld11 {Lw : gL} {l : Launch} {X : gC} {cc : ByteArray} {own : String} {dd ca sa k n pc : Nat} {st : List Value} {σ : Mem} {a0 a1 a2 a3 a4 a5 a6 a7 a8 a9 a10 : Option Value} {r : List (Option Value)} {x : Int64} (hC : gOk Lw l X cc own dd ca sa) (hd : decode cc pc = .ok (.lload 11, 2)) (kk : G Lw X k n (pc + 2) (a0 :: a1 :: a2 :: a3 :: a4 :: a5 :: a6 :: a7 :: a8 :: a9 :: a10 :: some (.long x) :: r) (.long x :: st) σ) : G Lw X k n pc (a0 :: a1 :: a2 :: a3 :: a4 :: a5 :: a6 :: a7 :: a8 :: a9 :: a10 :: some (.long x) :: r) st σ := by
  obtain ⟨p, l', e, R, s, m, args, below, meth, c, nL, H0, A, E, Q⟩ := X
  obtain ⟨hx, hb, hml, hown, hTB, hK, hD, hA, hR, hlocks, rfl, hh0, hNs⟩ := hC
  exact fun H locs arr hn hP hS hl => lv_lload hx hb hd (g_loc hl 11 rfl) (kk H locs arr hn hP hS hl)
theorem g_lld12 {Lw : gL} {l : Launch} {X : gC} {cc : ByteArray} {own : String} {dd ca sa k n pc : Nat} {st : List Value} {σ : Mem} {a0 a1 a2 a3 a4 a5 a6 a7 a8 a9 a10 a11 : Option Value} {r : List (Option Value)} {x : Int64} (hC : gOk Lw l X cc own dd ca sa) (hd : decode cc pc = .ok (.lload 12, 2)) (kk : G Lw X k n (pc + 2) (a0 :: a1 :: a2 :: a3 :: a4 :: a5 :: a6 :: a7 :: a8 :: a9 :: a10 :: a11 :: some (.long x) :: r) (.long x :: st) σ) : G Lw X k n pc (a0 :: a1 :: a2 :: a3 :: a4 :: a5 :: a6 :: a7 :: a8 :: a9 :: a10 :: a11 :: some (.long x) :: r) st σ := by
  obtain ⟨p, l', e, R, s, m, args, below, meth, c, nL, H0, A, E, Q⟩ := X
  obtain ⟨hx, hb, hml, hown, hTB, hK, hD, hA, hR, hlocks, rfl, hh0, hNs⟩ := hC
  exact fun H locs arr hn hP hS hl => lv_lload hx hb hd (g_loc hl 12 rfl) (kk H locs arr hn hP hS hl)
theorem g_lld13 {Lw : gL} {l : Launch} {X : gC} {cc : ByteArray} {own : String} {dd ca sa k n pc : Nat} {st : List Value} {σ : Mem} {a0 a1 a2 a3 a4 a5 a6 a7 a8 a9 a10 a11 a12 : Option Value} {r : List (Option Value)} {x : Int64} (hC : gOk Lw l X cc own dd ca sa) (hd : decode cc pc = .ok (.lload 13, 2)) (kk : G Lw X k n (pc + 2) (a0 :: a1 :: a2 :: a3 :: a4 :: a5 :: a6 :: a7 :: a8 :: a9 :: a10 :: a11 :: a12 :: some (.long x) :: r) (.long x :: st) σ) : G Lw X k n pc (a0 :: a1 :: a2 :: a3 :: a4 :: a5 :: a6 :: a7 :: a8 :: a9 :: a10 :: a11 :: a12 :: some (.long x) :: r) st σ := by
  obtain ⟨p, l', e, R, s, m, args, below, meth, c, nL, H0, A, E, Q⟩ := X
  obtain ⟨hx, hb, hml, hown, hTB, hK, hD, hA, hR, hlocks, rfl, hh0, hNs⟩ := hC
  exact fun H locs arr hn hP hS hl => lv_lload hx hb hd (g_loc hl 13 rfl) (kk H locs arr hn hP hS hl)
theorem g_dld0 {Lw : gL} {l : Launch} {X : gC} {cc : ByteArray} {own : String} {dd ca sa k n pc : Nat} {st : List Value} {σ : Mem} {r : List (Option Value)} {x : UInt64} (hC : gOk Lw l X cc own dd ca sa) (hd : decode cc pc = .ok (.dload_n 0, 1)) (kk : G Lw X k n (pc + 1) (some (.double x) :: r) (.double x :: st) σ) : G Lw X k n pc (some (.double x) :: r) st σ := by
  obtain ⟨p, l', e, R, s, m, args, below, meth, c, nL, H0, A, E, Q⟩ := X
  obtain ⟨hx, hb, hml, hown, hTB, hK, hD, hA, hR, hlocks, rfl, hh0, hNs⟩ := hC
  exact fun H locs arr hn hP hS hl => lv_dload_n hx hb hd rfl (g_loc hl 0 rfl) (kk H locs arr hn hP hS hl)
theorem g_dld1 {Lw : gL} {l : Launch} {X : gC} {cc : ByteArray} {own : String} {dd ca sa k n pc : Nat} {st : List Value} {σ : Mem} {a0 : Option Value} {r : List (Option Value)} {x : UInt64} (hC : gOk Lw l X cc own dd ca sa) (hd : decode cc pc = .ok (.dload_n 1, 1)) (kk : G Lw X k n (pc + 1) (a0 :: some (.double x) :: r) (.double x :: st) σ) : G Lw X k n pc (a0 :: some (.double x) :: r) st σ := by
  obtain ⟨p, l', e, R, s, m, args, below, meth, c, nL, H0, A, E, Q⟩ := X
  obtain ⟨hx, hb, hml, hown, hTB, hK, hD, hA, hR, hlocks, rfl, hh0, hNs⟩ := hC
  exact fun H locs arr hn hP hS hl => lv_dload_n hx hb hd rfl (g_loc hl 1 rfl) (kk H locs arr hn hP hS hl)
theorem g_dld2 {Lw : gL} {l : Launch} {X : gC} {cc : ByteArray} {own : String} {dd ca sa k n pc : Nat} {st : List Value} {σ : Mem} {a0 a1 : Option Value} {r : List (Option Value)} {x : UInt64} (hC : gOk Lw l X cc own dd ca sa) (hd : decode cc pc = .ok (.dload_n 2, 1)) (kk : G Lw X k n (pc + 1) (a0 :: a1 :: some (.double x) :: r) (.double x :: st) σ) : G Lw X k n pc (a0 :: a1 :: some (.double x) :: r) st σ := by
  obtain ⟨p, l', e, R, s, m, args, below, meth, c, nL, H0, A, E, Q⟩ := X
  obtain ⟨hx, hb, hml, hown, hTB, hK, hD, hA, hR, hlocks, rfl, hh0, hNs⟩ := hC
  exact fun H locs arr hn hP hS hl => lv_dload_n hx hb hd rfl (g_loc hl 2 rfl) (kk H locs arr hn hP hS hl)
theorem g_dld3 {Lw : gL} {l : Launch} {X : gC} {cc : ByteArray} {own : String} {dd ca sa k n pc : Nat} {st : List Value} {σ : Mem} {a0 a1 a2 : Option Value} {r : List (Option Value)} {x : UInt64} (hC : gOk Lw l X cc own dd ca sa) (hd : decode cc pc = .ok (.dload_n 3, 1)) (kk : G Lw X k n (pc + 1) (a0 :: a1 :: a2 :: some (.double x) :: r) (.double x :: st) σ) : G Lw X k n pc (a0 :: a1 :: a2 :: some (.double x) :: r) st σ := by
  obtain ⟨p, l', e, R, s, m, args, below, meth, c, nL, H0, A, E, Q⟩ := X
  obtain ⟨hx, hb, hml, hown, hTB, hK, hD, hA, hR, hlocks, rfl, hh0, hNs⟩ := hC
  exact fun H locs arr hn hP hS hl => lv_dload_n hx hb hd rfl (g_loc hl 3 rfl) (kk H locs arr hn hP hS hl)
theorem g_dld4 {Lw : gL} {l : Launch} {X : gC} {cc : ByteArray} {own : String} {dd ca sa k n pc : Nat} {st : List Value} {σ : Mem} {a0 a1 a2 a3 : Option Value} {r : List (Option Value)} {x : UInt64} (hC : gOk Lw l X cc own dd ca sa) (hd : decode cc pc = .ok (.dload 4, 2)) (kk : G Lw X k n (pc + 2) (a0 :: a1 :: a2 :: a3 :: some (.double x) :: r) (.double x :: st) σ) : G Lw X k n pc (a0 :: a1 :: a2 :: a3 :: some (.double x) :: r) st σ := by
  obtain ⟨p, l', e, R, s, m, args, below, meth, c, nL, H0, A, E, Q⟩ := X
  obtain ⟨hx, hb, hml, hown, hTB, hK, hD, hA, hR, hlocks, rfl, hh0, hNs⟩ := hC
  exact fun H locs arr hn hP hS hl => lv_dload hx hb hd (g_loc hl 4 rfl) (kk H locs arr hn hP hS hl)
theorem g_dld5 {Lw : gL} {l : Launch} {X : gC} {cc : ByteArray} {own : String} {dd ca sa k n pc : Nat} {st : List Value} {σ : Mem} {a0 a1 a2 a3 a4 : Option Value} {r : List (Option Value)} {x : UInt64} (hC : gOk Lw l X cc own dd ca sa) (hd : decode cc pc = .ok (.dload 5, 2)) (kk : G Lw X k n (pc + 2) (a0 :: a1 :: a2 :: a3 :: a4 :: some (.double x) :: r) (.double x :: st) σ) : G Lw X k n pc (a0 :: a1 :: a2 :: a3 :: a4 :: some (.double x) :: r) st σ := by
  obtain ⟨p, l', e, R, s, m, args, below, meth, c, nL, H0, A, E, Q⟩ := X
  obtain ⟨hx, hb, hml, hown, hTB, hK, hD, hA, hR, hlocks, rfl, hh0, hNs⟩ := hC
  exact fun H locs arr hn hP hS hl => lv_dload hx hb hd (g_loc hl 5 rfl) (kk H locs arr hn hP hS hl)
theorem g_dld6 {Lw : gL} {l : Launch} {X : gC} {cc : ByteArray} {own : String} {dd ca sa k n pc : Nat} {st : List Value} {σ : Mem} {a0 a1 a2 a3 a4 a5 : Option Value} {r : List (Option Value)} {x : UInt64} (hC : gOk Lw l X cc own dd ca sa) (hd : decode cc pc = .ok (.dload 6, 2)) (kk : G Lw X k n (pc + 2) (a0 :: a1 :: a2 :: a3 :: a4 :: a5 :: some (.double x) :: r) (.double x :: st) σ) : G Lw X k n pc (a0 :: a1 :: a2 :: a3 :: a4 :: a5 :: some (.double x) :: r) st σ := by
  obtain ⟨p, l', e, R, s, m, args, below, meth, c, nL, H0, A, E, Q⟩ := X
  obtain ⟨hx, hb, hml, hown, hTB, hK, hD, hA, hR, hlocks, rfl, hh0, hNs⟩ := hC
  exact fun H locs arr hn hP hS hl => lv_dload hx hb hd (g_loc hl 6 rfl) (kk H locs arr hn hP hS hl)
theorem g_dld7 {Lw : gL} {l : Launch} {X : gC} {cc : ByteArray} {own : String} {dd ca sa k n pc : Nat} {st : List Value} {σ : Mem} {a0 a1 a2 a3 a4 a5 a6 : Option Value} {r : List (Option Value)} {x : UInt64} (hC : gOk Lw l X cc own dd ca sa) (hd : decode cc pc = .ok (.dload 7, 2)) (kk : G Lw X k n (pc + 2) (a0 :: a1 :: a2 :: a3 :: a4 :: a5 :: a6 :: some (.double x) :: r) (.double x :: st) σ) : G Lw X k n pc (a0 :: a1 :: a2 :: a3 :: a4 :: a5 :: a6 :: some (.double x) :: r) st σ := by
  obtain ⟨p, l', e, R, s, m, args, below, meth, c, nL, H0, A, E, Q⟩ := X
  obtain ⟨hx, hb, hml, hown, hTB, hK, hD, hA, hR, hlocks, rfl, hh0, hNs⟩ := hC
  exact fun H locs arr hn hP hS hl => lv_dload hx hb hd (g_loc hl 7 rfl) (kk H locs arr hn hP hS hl)
theorem g_dld8 {Lw : gL} {l : Launch} {X : gC} {cc : ByteArray} {own : String} {dd ca sa k n pc : Nat} {st : List Value} {σ : Mem} {a0 a1 a2 a3 a4 a5 a6 a7 : Option Value} {r : List (Option Value)} {x : UInt64} (hC : gOk Lw l X cc own dd ca sa) (hd : decode cc pc = .ok (.dload 8, 2)) (kk : G Lw X k n (pc + 2) (a0 :: a1 :: a2 :: a3 :: a4 :: a5 :: a6 :: a7 :: some (.double x) :: r) (.double x :: st) σ) : G Lw X k n pc (a0 :: a1 :: a2 :: a3 :: a4 :: a5 :: a6 :: a7 :: some (.double x) :: r) st σ := by
  obtain ⟨p, l', e, R, s, m, args, below, meth, c, nL, H0, A, E, Q⟩ := X
  obtain ⟨hx, hb, hml, hown, hTB, hK, hD, hA, hR, hlocks, rfl, hh0, hNs⟩ := hC
  exact fun H locs arr hn hP hS hl => lv_dload hx hb hd (g_loc hl 8 rfl) (kk H locs arr hn hP hS hl)
theorem g_dld9 {Lw : gL} {l : Launch} {X : gC} {cc : ByteArray} {own : String} {dd ca sa k n pc : Nat} {st : List Value} {σ : Mem} {a0 a1 a2 a3 a4 a5 a6 a7 a8 : Option Value} {r : List (Option Value)} {x : UInt64} (hC : gOk Lw l X cc own dd ca sa) (hd : decode cc pc = .ok (.dload 9, 2)) (kk : G Lw X k n (pc + 2) (a0 :: a1 :: a2 :: a3 :: a4 :: a5 :: a6 :: a7 :: a8 :: some (.double x) :: r) (.double x :: st) σ) : G Lw X k n pc (a0 :: a1 :: a2 :: a3 :: a4 :: a5 :: a6 :: a7 :: a8 :: some (.double x) :: r) st σ := by
  obtain ⟨p, l', e, R, s, m, args, below, meth, c, nL, H0, A, E, Q⟩ := X
  obtain ⟨hx, hb, hml, hown, hTB, hK, hD, hA, hR, hlocks, rfl, hh0, hNs⟩ := hC
  exact fun H locs arr hn hP hS hl => lv_dload hx hb hd (g_loc hl 9 rfl) (kk H locs arr hn hP hS hl)
theorem g_dld10 {Lw : gL} {l : Launch} {X : gC} {cc : ByteArray} {own : String} {dd ca sa k n pc : Nat} {st : List Value} {σ : Mem} {a0 a1 a2 a3 a4 a5 a6 a7 a8 a9 : Option Value} {r : List (Option Value)} {x : UInt64} (hC : gOk Lw l X cc own dd ca sa) (hd : decode cc pc = .ok (.dload 10, 2)) (kk : G Lw X k n (pc + 2) (a0 :: a1 :: a2 :: a3 :: a4 :: a5 :: a6 :: a7 :: a8 :: a9 :: some (.double x) :: r) (.double x :: st) σ) : G Lw X k n pc (a0 :: a1 :: a2 :: a3 :: a4 :: a5 :: a6 :: a7 :: a8 :: a9 :: some (.double x) :: r) st σ := by
  obtain ⟨p, l', e, R, s, m, args, below, meth, c, nL, H0, A, E, Q⟩ := X
  obtain ⟨hx, hb, hml, hown, hTB, hK, hD, hA, hR, hlocks, rfl, hh0, hNs⟩ := hC
  exact fun H locs arr hn hP hS hl => lv_dload hx hb hd (g_loc hl 10 rfl) (kk H locs arr hn hP hS hl)
theorem g_dld11 {Lw : gL} {l : Launch} {X : gC} {cc : ByteArray} {own : String} {dd ca sa k n pc : Nat} {st : List Value} {σ : Mem} {a0 a1 a2 a3 a4 a5 a6 a7 a8 a9 a10 : Option Value} {r : List (Option Value)} {x : UInt64} (hC : gOk Lw l X cc own dd ca sa) (hd : decode cc pc = .ok (.dload 11, 2)) (kk : G Lw X k n (pc + 2) (a0 :: a1 :: a2 :: a3 :: a4 :: a5 :: a6 :: a7 :: a8 :: a9 :: a10 :: some (.double x) :: r) (.double x :: st) σ) : G Lw X k n pc (a0 :: a1 :: a2 :: a3 :: a4 :: a5 :: a6 :: a7 :: a8 :: a9 :: a10 :: some (.double x) :: r) st σ := by
  obtain ⟨p, l', e, R, s, m, args, below, meth, c, nL, H0, A, E, Q⟩ := X
  obtain ⟨hx, hb, hml, hown, hTB, hK, hD, hA, hR, hlocks, rfl, hh0, hNs⟩ := hC
  exact fun H locs arr hn hP hS hl => lv_dload hx hb hd (g_loc hl 11 rfl) (kk H locs arr hn hP hS hl)
theorem g_dld12 {Lw : gL} {l : Launch} {X : gC} {cc : ByteArray} {own : String} {dd ca sa k n pc : Nat} {st : List Value} {σ : Mem} {a0 a1 a2 a3 a4 a5 a6 a7 a8 a9 a10 a11 : Option Value} {r : List (Option Value)} {x : UInt64} (hC : gOk Lw l X cc own dd ca sa) (hd : decode cc pc = .ok (.dload 12, 2)) (kk : G Lw X k n (pc + 2) (a0 :: a1 :: a2 :: a3 :: a4 :: a5 :: a6 :: a7 :: a8 :: a9 :: a10 :: a11 :: some (.double x) :: r) (.double x :: st) σ) : G Lw X k n pc (a0 :: a1 :: a2 :: a3 :: a4 :: a5 :: a6 :: a7 :: a8 :: a9 :: a10 :: a11 :: some (.double x) :: r) st σ := by
  obtain ⟨p, l', e, R, s, m, args, below, meth, c, nL, H0, A, E, Q⟩ := X
  obtain ⟨hx, hb, hml, hown, hTB, hK, hD, hA, hR, hlocks, rfl, hh0, hNs⟩ := hC
  exact fun H locs arr hn hP hS hl => lv_dload hx hb hd (g_loc hl 12 rfl) (kk H locs arr hn hP hS hl)
theorem g_dld13 {Lw : gL} {l : Launch} {X : gC} {cc : ByteArray} {own : String} {dd ca sa k n pc : Nat} {st : List Value} {σ : Mem} {a0 a1 a2 a3 a4 a5 a6 a7 a8 a9 a10 a11 a12 : Option Value} {r : List (Option Value)} {x : UInt64} (hC : gOk Lw l X cc own dd ca sa) (hd : decode cc pc = .ok (.dload 13, 2)) (kk : G Lw X k n (pc + 2) (a0 :: a1 :: a2 :: a3 :: a4 :: a5 :: a6 :: a7 :: a8 :: a9 :: a10 :: a11 :: a12 :: some (.double x) :: r) (.double x :: st) σ) : G Lw X k n pc (a0 :: a1 :: a2 :: a3 :: a4 :: a5 :: a6 :: a7 :: a8 :: a9 :: a10 :: a11 :: a12 :: some (.double x) :: r) st σ := by
  obtain ⟨p, l', e, R, s, m, args, below, meth, c, nL, H0, A, E, Q⟩ := X
  obtain ⟨hx, hb, hml, hown, hTB, hK, hD, hA, hR, hlocks, rfl, hh0, hNs⟩ := hC
  exact fun H locs arr hn hP hS hl => lv_dload hx hb hd (g_loc hl 13 rfl) (kk H locs arr hn hP hS hl)
theorem g_ist0 {Lw : gL} {l : Launch} {X : gC} {cc : ByteArray} {own : String} {dd ca sa k n pc : Nat} {st : List Value} {σ : Mem} {r : List (Option Value)} {b : Option Value} {x : Int32} (hC : gOk Lw l X cc own dd ca sa) (hd : decode cc pc = .ok (.istore_n 0, 1)) (kk : G Lw X k n (pc + 1) (some (.int x) :: r) st σ) : G Lw X k n pc (b :: r) (.int x :: st) σ := by
  obtain ⟨p, l', e, R, s, m, args, below, meth, c, nL, H0, A, E, Q⟩ := X
  obtain ⟨hx, hb, hml, hown, hTB, hK, hD, hA, hR, hlocks, rfl, hh0, hNs⟩ := hC
  exact fun H locs arr hn hP hS hl => lv_istore_n (i := 0) hx hb hd rfl hl (by rw [← hn]; simp only [List.length_cons]; omega) rfl (fun arr1 hl1 => kk H locs arr1 hn hP hS (g_fil1 hl1 (fun j hj => absurd hj (by omega))))
theorem g_ist1 {Lw : gL} {l : Launch} {X : gC} {cc : ByteArray} {own : String} {dd ca sa k n pc : Nat} {st : List Value} {σ : Mem} {a0 : Option Value} {r : List (Option Value)} {b : Option Value} {x : Int32} (hC : gOk Lw l X cc own dd ca sa) (hd : decode cc pc = .ok (.istore_n 1, 1)) (hp : g1 a0 = true) (kk : G Lw X k n (pc + 1) (a0 :: some (.int x) :: r) st σ) : G Lw X k n pc (a0 :: b :: r) (.int x :: st) σ := by
  obtain ⟨p, l', e, R, s, m, args, below, meth, c, nL, H0, A, E, Q⟩ := X
  obtain ⟨hx, hb, hml, hown, hTB, hK, hD, hA, hR, hlocks, rfl, hh0, hNs⟩ := hC
  exact fun H locs arr hn hP hS hl => lv_istore_n (i := 1) hx hb hd rfl hl (by rw [← hn]; simp only [List.length_cons]; omega) rfl (fun arr1 hl1 => kk H locs arr1 hn hP hS (g_fil1 hl1 (fun j hj w hw => g1_spec hp w (by obtain rfl : j = 0 := (by omega); exact Option.some.inj hw))))
theorem g_ist2 {Lw : gL} {l : Launch} {X : gC} {cc : ByteArray} {own : String} {dd ca sa k n pc : Nat} {st : List Value} {σ : Mem} {a0 a1 : Option Value} {r : List (Option Value)} {b : Option Value} {x : Int32} (hC : gOk Lw l X cc own dd ca sa) (hd : decode cc pc = .ok (.istore_n 2, 1)) (hp : g1 a1 = true) (kk : G Lw X k n (pc + 1) (a0 :: a1 :: some (.int x) :: r) st σ) : G Lw X k n pc (a0 :: a1 :: b :: r) (.int x :: st) σ := by
  obtain ⟨p, l', e, R, s, m, args, below, meth, c, nL, H0, A, E, Q⟩ := X
  obtain ⟨hx, hb, hml, hown, hTB, hK, hD, hA, hR, hlocks, rfl, hh0, hNs⟩ := hC
  exact fun H locs arr hn hP hS hl => lv_istore_n (i := 2) hx hb hd rfl hl (by rw [← hn]; simp only [List.length_cons]; omega) rfl (fun arr1 hl1 => kk H locs arr1 hn hP hS (g_fil1 hl1 (fun j hj w hw => g1_spec hp w (by obtain rfl : j = 1 := (by omega); exact Option.some.inj hw))))
theorem g_ist3 {Lw : gL} {l : Launch} {X : gC} {cc : ByteArray} {own : String} {dd ca sa k n pc : Nat} {st : List Value} {σ : Mem} {a0 a1 a2 : Option Value} {r : List (Option Value)} {b : Option Value} {x : Int32} (hC : gOk Lw l X cc own dd ca sa) (hd : decode cc pc = .ok (.istore_n 3, 1)) (hp : g1 a2 = true) (kk : G Lw X k n (pc + 1) (a0 :: a1 :: a2 :: some (.int x) :: r) st σ) : G Lw X k n pc (a0 :: a1 :: a2 :: b :: r) (.int x :: st) σ := by
  obtain ⟨p, l', e, R, s, m, args, below, meth, c, nL, H0, A, E, Q⟩ := X
  obtain ⟨hx, hb, hml, hown, hTB, hK, hD, hA, hR, hlocks, rfl, hh0, hNs⟩ := hC
  exact fun H locs arr hn hP hS hl => lv_istore_n (i := 3) hx hb hd rfl hl (by rw [← hn]; simp only [List.length_cons]; omega) rfl (fun arr1 hl1 => kk H locs arr1 hn hP hS (g_fil1 hl1 (fun j hj w hw => g1_spec hp w (by obtain rfl : j = 2 := (by omega); exact Option.some.inj hw))))
theorem g_ist4 {Lw : gL} {l : Launch} {X : gC} {cc : ByteArray} {own : String} {dd ca sa k n pc : Nat} {st : List Value} {σ : Mem} {a0 a1 a2 a3 : Option Value} {r : List (Option Value)} {b : Option Value} {x : Int32} (hC : gOk Lw l X cc own dd ca sa) (hd : decode cc pc = .ok (.istore 4, 2)) (hp : g1 a3 = true) (kk : G Lw X k n (pc + 2) (a0 :: a1 :: a2 :: a3 :: some (.int x) :: r) st σ) : G Lw X k n pc (a0 :: a1 :: a2 :: a3 :: b :: r) (.int x :: st) σ := by
  obtain ⟨p, l', e, R, s, m, args, below, meth, c, nL, H0, A, E, Q⟩ := X
  obtain ⟨hx, hb, hml, hown, hTB, hK, hD, hA, hR, hlocks, rfl, hh0, hNs⟩ := hC
  exact fun H locs arr hn hP hS hl => lv_istore hx hb hd hl (by rw [← hn]; simp only [List.length_cons]; omega) rfl (fun arr1 hl1 => kk H locs arr1 hn hP hS (g_fil1 hl1 (fun j hj w hw => g1_spec hp w (by obtain rfl : j = 3 := (by omega); exact Option.some.inj hw))))
theorem g_ist5 {Lw : gL} {l : Launch} {X : gC} {cc : ByteArray} {own : String} {dd ca sa k n pc : Nat} {st : List Value} {σ : Mem} {a0 a1 a2 a3 a4 : Option Value} {r : List (Option Value)} {b : Option Value} {x : Int32} (hC : gOk Lw l X cc own dd ca sa) (hd : decode cc pc = .ok (.istore 5, 2)) (hp : g1 a4 = true) (kk : G Lw X k n (pc + 2) (a0 :: a1 :: a2 :: a3 :: a4 :: some (.int x) :: r) st σ) : G Lw X k n pc (a0 :: a1 :: a2 :: a3 :: a4 :: b :: r) (.int x :: st) σ := by
  obtain ⟨p, l', e, R, s, m, args, below, meth, c, nL, H0, A, E, Q⟩ := X
  obtain ⟨hx, hb, hml, hown, hTB, hK, hD, hA, hR, hlocks, rfl, hh0, hNs⟩ := hC
  exact fun H locs arr hn hP hS hl => lv_istore hx hb hd hl (by rw [← hn]; simp only [List.length_cons]; omega) rfl (fun arr1 hl1 => kk H locs arr1 hn hP hS (g_fil1 hl1 (fun j hj w hw => g1_spec hp w (by obtain rfl : j = 4 := (by omega); exact Option.some.inj hw))))
theorem g_ist6 {Lw : gL} {l : Launch} {X : gC} {cc : ByteArray} {own : String} {dd ca sa k n pc : Nat} {st : List Value} {σ : Mem} {a0 a1 a2 a3 a4 a5 : Option Value} {r : List (Option Value)} {b : Option Value} {x : Int32} (hC : gOk Lw l X cc own dd ca sa) (hd : decode cc pc = .ok (.istore 6, 2)) (hp : g1 a5 = true) (kk : G Lw X k n (pc + 2) (a0 :: a1 :: a2 :: a3 :: a4 :: a5 :: some (.int x) :: r) st σ) : G Lw X k n pc (a0 :: a1 :: a2 :: a3 :: a4 :: a5 :: b :: r) (.int x :: st) σ := by
  obtain ⟨p, l', e, R, s, m, args, below, meth, c, nL, H0, A, E, Q⟩ := X
  obtain ⟨hx, hb, hml, hown, hTB, hK, hD, hA, hR, hlocks, rfl, hh0, hNs⟩ := hC
  exact fun H locs arr hn hP hS hl => lv_istore hx hb hd hl (by rw [← hn]; simp only [List.length_cons]; omega) rfl (fun arr1 hl1 => kk H locs arr1 hn hP hS (g_fil1 hl1 (fun j hj w hw => g1_spec hp w (by obtain rfl : j = 5 := (by omega); exact Option.some.inj hw))))
theorem g_ist7 {Lw : gL} {l : Launch} {X : gC} {cc : ByteArray} {own : String} {dd ca sa k n pc : Nat} {st : List Value} {σ : Mem} {a0 a1 a2 a3 a4 a5 a6 : Option Value} {r : List (Option Value)} {b : Option Value} {x : Int32} (hC : gOk Lw l X cc own dd ca sa) (hd : decode cc pc = .ok (.istore 7, 2)) (hp : g1 a6 = true) (kk : G Lw X k n (pc + 2) (a0 :: a1 :: a2 :: a3 :: a4 :: a5 :: a6 :: some (.int x) :: r) st σ) : G Lw X k n pc (a0 :: a1 :: a2 :: a3 :: a4 :: a5 :: a6 :: b :: r) (.int x :: st) σ := by
  obtain ⟨p, l', e, R, s, m, args, below, meth, c, nL, H0, A, E, Q⟩ := X
  obtain ⟨hx, hb, hml, hown, hTB, hK, hD, hA, hR, hlocks, rfl, hh0, hNs⟩ := hC
  exact fun H locs arr hn hP hS hl => lv_istore hx hb hd hl (by rw [← hn]; simp only [List.length_cons]; omega) rfl (fun arr1 hl1 => kk H locs arr1 hn hP hS (g_fil1 hl1 (fun j hj w hw => g1_spec hp w (by obtain rfl : j = 6 := (by omega); exact Option.some.inj hw))))
theorem g_ist8 {Lw : gL} {l : Launch} {X : gC} {cc : ByteArray} {own : String} {dd ca sa k n pc : Nat} {st : List Value} {σ : Mem} {a0 a1 a2 a3 a4 a5 a6 a7 : Option Value} {r : List (Option Value)} {b : Option Value} {x : Int32} (hC : gOk Lw l X cc own dd ca sa) (hd : decode cc pc = .ok (.istore 8, 2)) (hp : g1 a7 = true) (kk : G Lw X k n (pc + 2) (a0 :: a1 :: a2 :: a3 :: a4 :: a5 :: a6 :: a7 :: some (.int x) :: r) st σ) : G Lw X k n pc (a0 :: a1 :: a2 :: a3 :: a4 :: a5 :: a6 :: a7 :: b :: r) (.int x :: st) σ := by
  obtain ⟨p, l', e, R, s, m, args, below, meth, c, nL, H0, A, E, Q⟩ := X
  obtain ⟨hx, hb, hml, hown, hTB, hK, hD, hA, hR, hlocks, rfl, hh0, hNs⟩ := hC
  exact fun H locs arr hn hP hS hl => lv_istore hx hb hd hl (by rw [← hn]; simp only [List.length_cons]; omega) rfl (fun arr1 hl1 => kk H locs arr1 hn hP hS (g_fil1 hl1 (fun j hj w hw => g1_spec hp w (by obtain rfl : j = 7 := (by omega); exact Option.some.inj hw))))
theorem g_ist9 {Lw : gL} {l : Launch} {X : gC} {cc : ByteArray} {own : String} {dd ca sa k n pc : Nat} {st : List Value} {σ : Mem} {a0 a1 a2 a3 a4 a5 a6 a7 a8 : Option Value} {r : List (Option Value)} {b : Option Value} {x : Int32} (hC : gOk Lw l X cc own dd ca sa) (hd : decode cc pc = .ok (.istore 9, 2)) (hp : g1 a8 = true) (kk : G Lw X k n (pc + 2) (a0 :: a1 :: a2 :: a3 :: a4 :: a5 :: a6 :: a7 :: a8 :: some (.int x) :: r) st σ) : G Lw X k n pc (a0 :: a1 :: a2 :: a3 :: a4 :: a5 :: a6 :: a7 :: a8 :: b :: r) (.int x :: st) σ := by
  obtain ⟨p, l', e, R, s, m, args, below, meth, c, nL, H0, A, E, Q⟩ := X
  obtain ⟨hx, hb, hml, hown, hTB, hK, hD, hA, hR, hlocks, rfl, hh0, hNs⟩ := hC
  exact fun H locs arr hn hP hS hl => lv_istore hx hb hd hl (by rw [← hn]; simp only [List.length_cons]; omega) rfl (fun arr1 hl1 => kk H locs arr1 hn hP hS (g_fil1 hl1 (fun j hj w hw => g1_spec hp w (by obtain rfl : j = 8 := (by omega); exact Option.some.inj hw))))
theorem g_ist10 {Lw : gL} {l : Launch} {X : gC} {cc : ByteArray} {own : String} {dd ca sa k n pc : Nat} {st : List Value} {σ : Mem} {a0 a1 a2 a3 a4 a5 a6 a7 a8 a9 : Option Value} {r : List (Option Value)} {b : Option Value} {x : Int32} (hC : gOk Lw l X cc own dd ca sa) (hd : decode cc pc = .ok (.istore 10, 2)) (hp : g1 a9 = true) (kk : G Lw X k n (pc + 2) (a0 :: a1 :: a2 :: a3 :: a4 :: a5 :: a6 :: a7 :: a8 :: a9 :: some (.int x) :: r) st σ) : G Lw X k n pc (a0 :: a1 :: a2 :: a3 :: a4 :: a5 :: a6 :: a7 :: a8 :: a9 :: b :: r) (.int x :: st) σ := by
  obtain ⟨p, l', e, R, s, m, args, below, meth, c, nL, H0, A, E, Q⟩ := X
  obtain ⟨hx, hb, hml, hown, hTB, hK, hD, hA, hR, hlocks, rfl, hh0, hNs⟩ := hC
  exact fun H locs arr hn hP hS hl => lv_istore hx hb hd hl (by rw [← hn]; simp only [List.length_cons]; omega) rfl (fun arr1 hl1 => kk H locs arr1 hn hP hS (g_fil1 hl1 (fun j hj w hw => g1_spec hp w (by obtain rfl : j = 9 := (by omega); exact Option.some.inj hw))))
theorem g_ist11 {Lw : gL} {l : Launch} {X : gC} {cc : ByteArray} {own : String} {dd ca sa k n pc : Nat} {st : List Value} {σ : Mem} {a0 a1 a2 a3 a4 a5 a6 a7 a8 a9 a10 : Option Value} {r : List (Option Value)} {b : Option Value} {x : Int32} (hC : gOk Lw l X cc own dd ca sa) (hd : decode cc pc = .ok (.istore 11, 2)) (hp : g1 a10 = true) (kk : G Lw X k n (pc + 2) (a0 :: a1 :: a2 :: a3 :: a4 :: a5 :: a6 :: a7 :: a8 :: a9 :: a10 :: some (.int x) :: r) st σ) : G Lw X k n pc (a0 :: a1 :: a2 :: a3 :: a4 :: a5 :: a6 :: a7 :: a8 :: a9 :: a10 :: b :: r) (.int x :: st) σ := by
  obtain ⟨p, l', e, R, s, m, args, below, meth, c, nL, H0, A, E, Q⟩ := X
  obtain ⟨hx, hb, hml, hown, hTB, hK, hD, hA, hR, hlocks, rfl, hh0, hNs⟩ := hC
  exact fun H locs arr hn hP hS hl => lv_istore hx hb hd hl (by rw [← hn]; simp only [List.length_cons]; omega) rfl (fun arr1 hl1 => kk H locs arr1 hn hP hS (g_fil1 hl1 (fun j hj w hw => g1_spec hp w (by obtain rfl : j = 10 := (by omega); exact Option.some.inj hw))))
theorem g_ist12 {Lw : gL} {l : Launch} {X : gC} {cc : ByteArray} {own : String} {dd ca sa k n pc : Nat} {st : List Value} {σ : Mem} {a0 a1 a2 a3 a4 a5 a6 a7 a8 a9 a10 a11 : Option Value} {r : List (Option Value)} {b : Option Value} {x : Int32} (hC : gOk Lw l X cc own dd ca sa) (hd : decode cc pc = .ok (.istore 12, 2)) (hp : g1 a11 = true) (kk : G Lw X k n (pc + 2) (a0 :: a1 :: a2 :: a3 :: a4 :: a5 :: a6 :: a7 :: a8 :: a9 :: a10 :: a11 :: some (.int x) :: r) st σ) : G Lw X k n pc (a0 :: a1 :: a2 :: a3 :: a4 :: a5 :: a6 :: a7 :: a8 :: a9 :: a10 :: a11 :: b :: r) (.int x :: st) σ := by
  obtain ⟨p, l', e, R, s, m, args, below, meth, c, nL, H0, A, E, Q⟩ := X
  obtain ⟨hx, hb, hml, hown, hTB, hK, hD, hA, hR, hlocks, rfl, hh0, hNs⟩ := hC
  exact fun H locs arr hn hP hS hl => lv_istore hx hb hd hl (by rw [← hn]; simp only [List.length_cons]; omega) rfl (fun arr1 hl1 => kk H locs arr1 hn hP hS (g_fil1 hl1 (fun j hj w hw => g1_spec hp w (by obtain rfl : j = 11 := (by omega); exact Option.some.inj hw))))
theorem g_ist13 {Lw : gL} {l : Launch} {X : gC} {cc : ByteArray} {own : String} {dd ca sa k n pc : Nat} {st : List Value} {σ : Mem} {a0 a1 a2 a3 a4 a5 a6 a7 a8 a9 a10 a11 a12 : Option Value} {r : List (Option Value)} {b : Option Value} {x : Int32} (hC : gOk Lw l X cc own dd ca sa) (hd : decode cc pc = .ok (.istore 13, 2)) (hp : g1 a12 = true) (kk : G Lw X k n (pc + 2) (a0 :: a1 :: a2 :: a3 :: a4 :: a5 :: a6 :: a7 :: a8 :: a9 :: a10 :: a11 :: a12 :: some (.int x) :: r) st σ) : G Lw X k n pc (a0 :: a1 :: a2 :: a3 :: a4 :: a5 :: a6 :: a7 :: a8 :: a9 :: a10 :: a11 :: a12 :: b :: r) (.int x :: st) σ := by
  obtain ⟨p, l', e, R, s, m, args, below, meth, c, nL, H0, A, E, Q⟩ := X
  obtain ⟨hx, hb, hml, hown, hTB, hK, hD, hA, hR, hlocks, rfl, hh0, hNs⟩ := hC
  exact fun H locs arr hn hP hS hl => lv_istore hx hb hd hl (by rw [← hn]; simp only [List.length_cons]; omega) rfl (fun arr1 hl1 => kk H locs arr1 hn hP hS (g_fil1 hl1 (fun j hj w hw => g1_spec hp w (by obtain rfl : j = 12 := (by omega); exact Option.some.inj hw))))
theorem g_ast0 {Lw : gL} {l : Launch} {X : gC} {cc : ByteArray} {own : String} {dd ca sa k n pc : Nat} {st : List Value} {σ : Mem} {r : List (Option Value)} {b : Option Value} {x : Nat} (hC : gOk Lw l X cc own dd ca sa) (hd : decode cc pc = .ok (.astore_n 0, 1)) (kk : G Lw X k n (pc + 1) (some (.ref x) :: r) st σ) : G Lw X k n pc (b :: r) (.ref x :: st) σ := by
  obtain ⟨p, l', e, R, s, m, args, below, meth, c, nL, H0, A, E, Q⟩ := X
  obtain ⟨hx, hb, hml, hown, hTB, hK, hD, hA, hR, hlocks, rfl, hh0, hNs⟩ := hC
  exact fun H locs arr hn hP hS hl => lv_astore_n (i := 0) hx hb hd rfl hl (by rw [← hn]; simp only [List.length_cons]; omega) rfl (fun arr1 hl1 => kk H locs arr1 hn hP hS (g_fil1 hl1 (fun j hj => absurd hj (by omega))))
theorem g_ast1 {Lw : gL} {l : Launch} {X : gC} {cc : ByteArray} {own : String} {dd ca sa k n pc : Nat} {st : List Value} {σ : Mem} {a0 : Option Value} {r : List (Option Value)} {b : Option Value} {x : Nat} (hC : gOk Lw l X cc own dd ca sa) (hd : decode cc pc = .ok (.astore_n 1, 1)) (hp : g1 a0 = true) (kk : G Lw X k n (pc + 1) (a0 :: some (.ref x) :: r) st σ) : G Lw X k n pc (a0 :: b :: r) (.ref x :: st) σ := by
  obtain ⟨p, l', e, R, s, m, args, below, meth, c, nL, H0, A, E, Q⟩ := X
  obtain ⟨hx, hb, hml, hown, hTB, hK, hD, hA, hR, hlocks, rfl, hh0, hNs⟩ := hC
  exact fun H locs arr hn hP hS hl => lv_astore_n (i := 1) hx hb hd rfl hl (by rw [← hn]; simp only [List.length_cons]; omega) rfl (fun arr1 hl1 => kk H locs arr1 hn hP hS (g_fil1 hl1 (fun j hj w hw => g1_spec hp w (by obtain rfl : j = 0 := (by omega); exact Option.some.inj hw))))
theorem g_ast2 {Lw : gL} {l : Launch} {X : gC} {cc : ByteArray} {own : String} {dd ca sa k n pc : Nat} {st : List Value} {σ : Mem} {a0 a1 : Option Value} {r : List (Option Value)} {b : Option Value} {x : Nat} (hC : gOk Lw l X cc own dd ca sa) (hd : decode cc pc = .ok (.astore_n 2, 1)) (hp : g1 a1 = true) (kk : G Lw X k n (pc + 1) (a0 :: a1 :: some (.ref x) :: r) st σ) : G Lw X k n pc (a0 :: a1 :: b :: r) (.ref x :: st) σ := by
  obtain ⟨p, l', e, R, s, m, args, below, meth, c, nL, H0, A, E, Q⟩ := X
  obtain ⟨hx, hb, hml, hown, hTB, hK, hD, hA, hR, hlocks, rfl, hh0, hNs⟩ := hC
  exact fun H locs arr hn hP hS hl => lv_astore_n (i := 2) hx hb hd rfl hl (by rw [← hn]; simp only [List.length_cons]; omega) rfl (fun arr1 hl1 => kk H locs arr1 hn hP hS (g_fil1 hl1 (fun j hj w hw => g1_spec hp w (by obtain rfl : j = 1 := (by omega); exact Option.some.inj hw))))
theorem g_ast3 {Lw : gL} {l : Launch} {X : gC} {cc : ByteArray} {own : String} {dd ca sa k n pc : Nat} {st : List Value} {σ : Mem} {a0 a1 a2 : Option Value} {r : List (Option Value)} {b : Option Value} {x : Nat} (hC : gOk Lw l X cc own dd ca sa) (hd : decode cc pc = .ok (.astore_n 3, 1)) (hp : g1 a2 = true) (kk : G Lw X k n (pc + 1) (a0 :: a1 :: a2 :: some (.ref x) :: r) st σ) : G Lw X k n pc (a0 :: a1 :: a2 :: b :: r) (.ref x :: st) σ := by
  obtain ⟨p, l', e, R, s, m, args, below, meth, c, nL, H0, A, E, Q⟩ := X
  obtain ⟨hx, hb, hml, hown, hTB, hK, hD, hA, hR, hlocks, rfl, hh0, hNs⟩ := hC
  exact fun H locs arr hn hP hS hl => lv_astore_n (i := 3) hx hb hd rfl hl (by rw [← hn]; simp only [List.length_cons]; omega) rfl (fun arr1 hl1 => kk H locs arr1 hn hP hS (g_fil1 hl1 (fun j hj w hw => g1_spec hp w (by obtain rfl : j = 2 := (by omega); exact Option.some.inj hw))))
theorem g_ast4 {Lw : gL} {l : Launch} {X : gC} {cc : ByteArray} {own : String} {dd ca sa k n pc : Nat} {st : List Value} {σ : Mem} {a0 a1 a2 a3 : Option Value} {r : List (Option Value)} {b : Option Value} {x : Nat} (hC : gOk Lw l X cc own dd ca sa) (hd : decode cc pc = .ok (.astore 4, 2)) (hp : g1 a3 = true) (kk : G Lw X k n (pc + 2) (a0 :: a1 :: a2 :: a3 :: some (.ref x) :: r) st σ) : G Lw X k n pc (a0 :: a1 :: a2 :: a3 :: b :: r) (.ref x :: st) σ := by
  obtain ⟨p, l', e, R, s, m, args, below, meth, c, nL, H0, A, E, Q⟩ := X
  obtain ⟨hx, hb, hml, hown, hTB, hK, hD, hA, hR, hlocks, rfl, hh0, hNs⟩ := hC
  exact fun H locs arr hn hP hS hl => lv_astore hx hb hd hl (by rw [← hn]; simp only [List.length_cons]; omega) rfl (fun arr1 hl1 => kk H locs arr1 hn hP hS (g_fil1 hl1 (fun j hj w hw => g1_spec hp w (by obtain rfl : j = 3 := (by omega); exact Option.some.inj hw))))
theorem g_ast5 {Lw : gL} {l : Launch} {X : gC} {cc : ByteArray} {own : String} {dd ca sa k n pc : Nat} {st : List Value} {σ : Mem} {a0 a1 a2 a3 a4 : Option Value} {r : List (Option Value)} {b : Option Value} {x : Nat} (hC : gOk Lw l X cc own dd ca sa) (hd : decode cc pc = .ok (.astore 5, 2)) (hp : g1 a4 = true) (kk : G Lw X k n (pc + 2) (a0 :: a1 :: a2 :: a3 :: a4 :: some (.ref x) :: r) st σ) : G Lw X k n pc (a0 :: a1 :: a2 :: a3 :: a4 :: b :: r) (.ref x :: st) σ := by
  obtain ⟨p, l', e, R, s, m, args, below, meth, c, nL, H0, A, E, Q⟩ := X
  obtain ⟨hx, hb, hml, hown, hTB, hK, hD, hA, hR, hlocks, rfl, hh0, hNs⟩ := hC
  exact fun H locs arr hn hP hS hl => lv_astore hx hb hd hl (by rw [← hn]; simp only [List.length_cons]; omega) rfl (fun arr1 hl1 => kk H locs arr1 hn hP hS (g_fil1 hl1 (fun j hj w hw => g1_spec hp w (by obtain rfl : j = 4 := (by omega); exact Option.some.inj hw))))
theorem g_ast6 {Lw : gL} {l : Launch} {X : gC} {cc : ByteArray} {own : String} {dd ca sa k n pc : Nat} {st : List Value} {σ : Mem} {a0 a1 a2 a3 a4 a5 : Option Value} {r : List (Option Value)} {b : Option Value} {x : Nat} (hC : gOk Lw l X cc own dd ca sa) (hd : decode cc pc = .ok (.astore 6, 2)) (hp : g1 a5 = true) (kk : G Lw X k n (pc + 2) (a0 :: a1 :: a2 :: a3 :: a4 :: a5 :: some (.ref x) :: r) st σ) : G Lw X k n pc (a0 :: a1 :: a2 :: a3 :: a4 :: a5 :: b :: r) (.ref x :: st) σ := by
  obtain ⟨p, l', e, R, s, m, args, below, meth, c, nL, H0, A, E, Q⟩ := X
  obtain ⟨hx, hb, hml, hown, hTB, hK, hD, hA, hR, hlocks, rfl, hh0, hNs⟩ := hC
  exact fun H locs arr hn hP hS hl => lv_astore hx hb hd hl (by rw [← hn]; simp only [List.length_cons]; omega) rfl (fun arr1 hl1 => kk H locs arr1 hn hP hS (g_fil1 hl1 (fun j hj w hw => g1_spec hp w (by obtain rfl : j = 5 := (by omega); exact Option.some.inj hw))))
theorem g_ast7 {Lw : gL} {l : Launch} {X : gC} {cc : ByteArray} {own : String} {dd ca sa k n pc : Nat} {st : List Value} {σ : Mem} {a0 a1 a2 a3 a4 a5 a6 : Option Value} {r : List (Option Value)} {b : Option Value} {x : Nat} (hC : gOk Lw l X cc own dd ca sa) (hd : decode cc pc = .ok (.astore 7, 2)) (hp : g1 a6 = true) (kk : G Lw X k n (pc + 2) (a0 :: a1 :: a2 :: a3 :: a4 :: a5 :: a6 :: some (.ref x) :: r) st σ) : G Lw X k n pc (a0 :: a1 :: a2 :: a3 :: a4 :: a5 :: a6 :: b :: r) (.ref x :: st) σ := by
  obtain ⟨p, l', e, R, s, m, args, below, meth, c, nL, H0, A, E, Q⟩ := X
  obtain ⟨hx, hb, hml, hown, hTB, hK, hD, hA, hR, hlocks, rfl, hh0, hNs⟩ := hC
  exact fun H locs arr hn hP hS hl => lv_astore hx hb hd hl (by rw [← hn]; simp only [List.length_cons]; omega) rfl (fun arr1 hl1 => kk H locs arr1 hn hP hS (g_fil1 hl1 (fun j hj w hw => g1_spec hp w (by obtain rfl : j = 6 := (by omega); exact Option.some.inj hw))))
theorem g_ast8 {Lw : gL} {l : Launch} {X : gC} {cc : ByteArray} {own : String} {dd ca sa k n pc : Nat} {st : List Value} {σ : Mem} {a0 a1 a2 a3 a4 a5 a6 a7 : Option Value} {r : List (Option Value)} {b : Option Value} {x : Nat} (hC : gOk Lw l X cc own dd ca sa) (hd : decode cc pc = .ok (.astore 8, 2)) (hp : g1 a7 = true) (kk : G Lw X k n (pc + 2) (a0 :: a1 :: a2 :: a3 :: a4 :: a5 :: a6 :: a7 :: some (.ref x) :: r) st σ) : G Lw X k n pc (a0 :: a1 :: a2 :: a3 :: a4 :: a5 :: a6 :: a7 :: b :: r) (.ref x :: st) σ := by
  obtain ⟨p, l', e, R, s, m, args, below, meth, c, nL, H0, A, E, Q⟩ := X
  obtain ⟨hx, hb, hml, hown, hTB, hK, hD, hA, hR, hlocks, rfl, hh0, hNs⟩ := hC
  exact fun H locs arr hn hP hS hl => lv_astore hx hb hd hl (by rw [← hn]; simp only [List.length_cons]; omega) rfl (fun arr1 hl1 => kk H locs arr1 hn hP hS (g_fil1 hl1 (fun j hj w hw => g1_spec hp w (by obtain rfl : j = 7 := (by omega); exact Option.some.inj hw))))
theorem g_ast9 {Lw : gL} {l : Launch} {X : gC} {cc : ByteArray} {own : String} {dd ca sa k n pc : Nat} {st : List Value} {σ : Mem} {a0 a1 a2 a3 a4 a5 a6 a7 a8 : Option Value} {r : List (Option Value)} {b : Option Value} {x : Nat} (hC : gOk Lw l X cc own dd ca sa) (hd : decode cc pc = .ok (.astore 9, 2)) (hp : g1 a8 = true) (kk : G Lw X k n (pc + 2) (a0 :: a1 :: a2 :: a3 :: a4 :: a5 :: a6 :: a7 :: a8 :: some (.ref x) :: r) st σ) : G Lw X k n pc (a0 :: a1 :: a2 :: a3 :: a4 :: a5 :: a6 :: a7 :: a8 :: b :: r) (.ref x :: st) σ := by
  obtain ⟨p, l', e, R, s, m, args, below, meth, c, nL, H0, A, E, Q⟩ := X
  obtain ⟨hx, hb, hml, hown, hTB, hK, hD, hA, hR, hlocks, rfl, hh0, hNs⟩ := hC
  exact fun H locs arr hn hP hS hl => lv_astore hx hb hd hl (by rw [← hn]; simp only [List.length_cons]; omega) rfl (fun arr1 hl1 => kk H locs arr1 hn hP hS (g_fil1 hl1 (fun j hj w hw => g1_spec hp w (by obtain rfl : j = 8 := (by omega); exact Option.some.inj hw))))
theorem g_ast10 {Lw : gL} {l : Launch} {X : gC} {cc : ByteArray} {own : String} {dd ca sa k n pc : Nat} {st : List Value} {σ : Mem} {a0 a1 a2 a3 a4 a5 a6 a7 a8 a9 : Option Value} {r : List (Option Value)} {b : Option Value} {x : Nat} (hC : gOk Lw l X cc own dd ca sa) (hd : decode cc pc = .ok (.astore 10, 2)) (hp : g1 a9 = true) (kk : G Lw X k n (pc + 2) (a0 :: a1 :: a2 :: a3 :: a4 :: a5 :: a6 :: a7 :: a8 :: a9 :: some (.ref x) :: r) st σ) : G Lw X k n pc (a0 :: a1 :: a2 :: a3 :: a4 :: a5 :: a6 :: a7 :: a8 :: a9 :: b :: r) (.ref x :: st) σ := by
  obtain ⟨p, l', e, R, s, m, args, below, meth, c, nL, H0, A, E, Q⟩ := X
  obtain ⟨hx, hb, hml, hown, hTB, hK, hD, hA, hR, hlocks, rfl, hh0, hNs⟩ := hC
  exact fun H locs arr hn hP hS hl => lv_astore hx hb hd hl (by rw [← hn]; simp only [List.length_cons]; omega) rfl (fun arr1 hl1 => kk H locs arr1 hn hP hS (g_fil1 hl1 (fun j hj w hw => g1_spec hp w (by obtain rfl : j = 9 := (by omega); exact Option.some.inj hw))))
theorem g_ast11 {Lw : gL} {l : Launch} {X : gC} {cc : ByteArray} {own : String} {dd ca sa k n pc : Nat} {st : List Value} {σ : Mem} {a0 a1 a2 a3 a4 a5 a6 a7 a8 a9 a10 : Option Value} {r : List (Option Value)} {b : Option Value} {x : Nat} (hC : gOk Lw l X cc own dd ca sa) (hd : decode cc pc = .ok (.astore 11, 2)) (hp : g1 a10 = true) (kk : G Lw X k n (pc + 2) (a0 :: a1 :: a2 :: a3 :: a4 :: a5 :: a6 :: a7 :: a8 :: a9 :: a10 :: some (.ref x) :: r) st σ) : G Lw X k n pc (a0 :: a1 :: a2 :: a3 :: a4 :: a5 :: a6 :: a7 :: a8 :: a9 :: a10 :: b :: r) (.ref x :: st) σ := by
  obtain ⟨p, l', e, R, s, m, args, below, meth, c, nL, H0, A, E, Q⟩ := X
  obtain ⟨hx, hb, hml, hown, hTB, hK, hD, hA, hR, hlocks, rfl, hh0, hNs⟩ := hC
  exact fun H locs arr hn hP hS hl => lv_astore hx hb hd hl (by rw [← hn]; simp only [List.length_cons]; omega) rfl (fun arr1 hl1 => kk H locs arr1 hn hP hS (g_fil1 hl1 (fun j hj w hw => g1_spec hp w (by obtain rfl : j = 10 := (by omega); exact Option.some.inj hw))))
theorem g_ast12 {Lw : gL} {l : Launch} {X : gC} {cc : ByteArray} {own : String} {dd ca sa k n pc : Nat} {st : List Value} {σ : Mem} {a0 a1 a2 a3 a4 a5 a6 a7 a8 a9 a10 a11 : Option Value} {r : List (Option Value)} {b : Option Value} {x : Nat} (hC : gOk Lw l X cc own dd ca sa) (hd : decode cc pc = .ok (.astore 12, 2)) (hp : g1 a11 = true) (kk : G Lw X k n (pc + 2) (a0 :: a1 :: a2 :: a3 :: a4 :: a5 :: a6 :: a7 :: a8 :: a9 :: a10 :: a11 :: some (.ref x) :: r) st σ) : G Lw X k n pc (a0 :: a1 :: a2 :: a3 :: a4 :: a5 :: a6 :: a7 :: a8 :: a9 :: a10 :: a11 :: b :: r) (.ref x :: st) σ := by
  obtain ⟨p, l', e, R, s, m, args, below, meth, c, nL, H0, A, E, Q⟩ := X
  obtain ⟨hx, hb, hml, hown, hTB, hK, hD, hA, hR, hlocks, rfl, hh0, hNs⟩ := hC
  exact fun H locs arr hn hP hS hl => lv_astore hx hb hd hl (by rw [← hn]; simp only [List.length_cons]; omega) rfl (fun arr1 hl1 => kk H locs arr1 hn hP hS (g_fil1 hl1 (fun j hj w hw => g1_spec hp w (by obtain rfl : j = 11 := (by omega); exact Option.some.inj hw))))
theorem g_ast13 {Lw : gL} {l : Launch} {X : gC} {cc : ByteArray} {own : String} {dd ca sa k n pc : Nat} {st : List Value} {σ : Mem} {a0 a1 a2 a3 a4 a5 a6 a7 a8 a9 a10 a11 a12 : Option Value} {r : List (Option Value)} {b : Option Value} {x : Nat} (hC : gOk Lw l X cc own dd ca sa) (hd : decode cc pc = .ok (.astore 13, 2)) (hp : g1 a12 = true) (kk : G Lw X k n (pc + 2) (a0 :: a1 :: a2 :: a3 :: a4 :: a5 :: a6 :: a7 :: a8 :: a9 :: a10 :: a11 :: a12 :: some (.ref x) :: r) st σ) : G Lw X k n pc (a0 :: a1 :: a2 :: a3 :: a4 :: a5 :: a6 :: a7 :: a8 :: a9 :: a10 :: a11 :: a12 :: b :: r) (.ref x :: st) σ := by
  obtain ⟨p, l', e, R, s, m, args, below, meth, c, nL, H0, A, E, Q⟩ := X
  obtain ⟨hx, hb, hml, hown, hTB, hK, hD, hA, hR, hlocks, rfl, hh0, hNs⟩ := hC
  exact fun H locs arr hn hP hS hl => lv_astore hx hb hd hl (by rw [← hn]; simp only [List.length_cons]; omega) rfl (fun arr1 hl1 => kk H locs arr1 hn hP hS (g_fil1 hl1 (fun j hj w hw => g1_spec hp w (by obtain rfl : j = 12 := (by omega); exact Option.some.inj hw))))
theorem g_lst0 {Lw : gL} {l : Launch} {X : gC} {cc : ByteArray} {own : String} {dd ca sa k n pc : Nat} {st : List Value} {σ : Mem} {r : List (Option Value)} {b b1 : Option Value} {x : Int64} (hC : gOk Lw l X cc own dd ca sa) (hd : decode cc pc = .ok (.lstore_n 0, 1)) (kk : G Lw X k n (pc + 1) (some (.long x) :: none :: r) st σ) : G Lw X k n pc (b :: b1 :: r) (.long x :: st) σ := by
  obtain ⟨p, l', e, R, s, m, args, below, meth, c, nL, H0, A, E, Q⟩ := X
  obtain ⟨hx, hb, hml, hown, hTB, hK, hD, hA, hR, hlocks, rfl, hh0, hNs⟩ := hC
  exact fun H locs arr hn hP hS hl => lv_lstore_n (i := 0) hx hb hd rfl hl (by rw [← hn]; simp only [List.length_cons]; omega) rfl (fun arr1 hl1 => kk H locs arr1 hn hP hS (g_fil2 hl1 (fun j hj => absurd hj (by omega))))
theorem g_lst1 {Lw : gL} {l : Launch} {X : gC} {cc : ByteArray} {own : String} {dd ca sa k n pc : Nat} {st : List Value} {σ : Mem} {a0 : Option Value} {r : List (Option Value)} {b b1 : Option Value} {x : Int64} (hC : gOk Lw l X cc own dd ca sa) (hd : decode cc pc = .ok (.lstore_n 1, 1)) (hp : g1 a0 = true) (kk : G Lw X k n (pc + 1) (a0 :: some (.long x) :: none :: r) st σ) : G Lw X k n pc (a0 :: b :: b1 :: r) (.long x :: st) σ := by
  obtain ⟨p, l', e, R, s, m, args, below, meth, c, nL, H0, A, E, Q⟩ := X
  obtain ⟨hx, hb, hml, hown, hTB, hK, hD, hA, hR, hlocks, rfl, hh0, hNs⟩ := hC
  exact fun H locs arr hn hP hS hl => lv_lstore_n (i := 1) hx hb hd rfl hl (by rw [← hn]; simp only [List.length_cons]; omega) rfl (fun arr1 hl1 => kk H locs arr1 hn hP hS (g_fil2 hl1 (fun j hj w hw => g1_spec hp w (by obtain rfl : j = 0 := (by omega); exact Option.some.inj hw))))
theorem g_lst2 {Lw : gL} {l : Launch} {X : gC} {cc : ByteArray} {own : String} {dd ca sa k n pc : Nat} {st : List Value} {σ : Mem} {a0 a1 : Option Value} {r : List (Option Value)} {b b1 : Option Value} {x : Int64} (hC : gOk Lw l X cc own dd ca sa) (hd : decode cc pc = .ok (.lstore_n 2, 1)) (hp : g1 a1 = true) (kk : G Lw X k n (pc + 1) (a0 :: a1 :: some (.long x) :: none :: r) st σ) : G Lw X k n pc (a0 :: a1 :: b :: b1 :: r) (.long x :: st) σ := by
  obtain ⟨p, l', e, R, s, m, args, below, meth, c, nL, H0, A, E, Q⟩ := X
  obtain ⟨hx, hb, hml, hown, hTB, hK, hD, hA, hR, hlocks, rfl, hh0, hNs⟩ := hC
  exact fun H locs arr hn hP hS hl => lv_lstore_n (i := 2) hx hb hd rfl hl (by rw [← hn]; simp only [List.length_cons]; omega) rfl (fun arr1 hl1 => kk H locs arr1 hn hP hS (g_fil2 hl1 (fun j hj w hw => g1_spec hp w (by obtain rfl : j = 1 := (by omega); exact Option.some.inj hw))))
theorem g_lst3 {Lw : gL} {l : Launch} {X : gC} {cc : ByteArray} {own : String} {dd ca sa k n pc : Nat} {st : List Value} {σ : Mem} {a0 a1 a2 : Option Value} {r : List (Option Value)} {b b1 : Option Value} {x : Int64} (hC : gOk Lw l X cc own dd ca sa) (hd : decode cc pc = .ok (.lstore_n 3, 1)) (hp : g1 a2 = true) (kk : G Lw X k n (pc + 1) (a0 :: a1 :: a2 :: some (.long x) :: none :: r) st σ) : G Lw X k n pc (a0 :: a1 :: a2 :: b :: b1 :: r) (.long x :: st) σ := by
  obtain ⟨p, l', e, R, s, m, args, below, meth, c, nL, H0, A, E, Q⟩ := X
  obtain ⟨hx, hb, hml, hown, hTB, hK, hD, hA, hR, hlocks, rfl, hh0, hNs⟩ := hC
  exact fun H locs arr hn hP hS hl => lv_lstore_n (i := 3) hx hb hd rfl hl (by rw [← hn]; simp only [List.length_cons]; omega) rfl (fun arr1 hl1 => kk H locs arr1 hn hP hS (g_fil2 hl1 (fun j hj w hw => g1_spec hp w (by obtain rfl : j = 2 := (by omega); exact Option.some.inj hw))))
theorem g_lst4 {Lw : gL} {l : Launch} {X : gC} {cc : ByteArray} {own : String} {dd ca sa k n pc : Nat} {st : List Value} {σ : Mem} {a0 a1 a2 a3 : Option Value} {r : List (Option Value)} {b b1 : Option Value} {x : Int64} (hC : gOk Lw l X cc own dd ca sa) (hd : decode cc pc = .ok (.lstore 4, 2)) (hp : g1 a3 = true) (kk : G Lw X k n (pc + 2) (a0 :: a1 :: a2 :: a3 :: some (.long x) :: none :: r) st σ) : G Lw X k n pc (a0 :: a1 :: a2 :: a3 :: b :: b1 :: r) (.long x :: st) σ := by
  obtain ⟨p, l', e, R, s, m, args, below, meth, c, nL, H0, A, E, Q⟩ := X
  obtain ⟨hx, hb, hml, hown, hTB, hK, hD, hA, hR, hlocks, rfl, hh0, hNs⟩ := hC
  exact fun H locs arr hn hP hS hl => lv_lstore hx hb hd hl (by rw [← hn]; simp only [List.length_cons]; omega) rfl (fun arr1 hl1 => kk H locs arr1 hn hP hS (g_fil2 hl1 (fun j hj w hw => g1_spec hp w (by obtain rfl : j = 3 := (by omega); exact Option.some.inj hw))))
theorem g_lst5 {Lw : gL} {l : Launch} {X : gC} {cc : ByteArray} {own : String} {dd ca sa k n pc : Nat} {st : List Value} {σ : Mem} {a0 a1 a2 a3 a4 : Option Value} {r : List (Option Value)} {b b1 : Option Value} {x : Int64} (hC : gOk Lw l X cc own dd ca sa) (hd : decode cc pc = .ok (.lstore 5, 2)) (hp : g1 a4 = true) (kk : G Lw X k n (pc + 2) (a0 :: a1 :: a2 :: a3 :: a4 :: some (.long x) :: none :: r) st σ) : G Lw X k n pc (a0 :: a1 :: a2 :: a3 :: a4 :: b :: b1 :: r) (.long x :: st) σ := by
  obtain ⟨p, l', e, R, s, m, args, below, meth, c, nL, H0, A, E, Q⟩ := X
  obtain ⟨hx, hb, hml, hown, hTB, hK, hD, hA, hR, hlocks, rfl, hh0, hNs⟩ := hC
  exact fun H locs arr hn hP hS hl => lv_lstore hx hb hd hl (by rw [← hn]; simp only [List.length_cons]; omega) rfl (fun arr1 hl1 => kk H locs arr1 hn hP hS (g_fil2 hl1 (fun j hj w hw => g1_spec hp w (by obtain rfl : j = 4 := (by omega); exact Option.some.inj hw))))
theorem g_lst6 {Lw : gL} {l : Launch} {X : gC} {cc : ByteArray} {own : String} {dd ca sa k n pc : Nat} {st : List Value} {σ : Mem} {a0 a1 a2 a3 a4 a5 : Option Value} {r : List (Option Value)} {b b1 : Option Value} {x : Int64} (hC : gOk Lw l X cc own dd ca sa) (hd : decode cc pc = .ok (.lstore 6, 2)) (hp : g1 a5 = true) (kk : G Lw X k n (pc + 2) (a0 :: a1 :: a2 :: a3 :: a4 :: a5 :: some (.long x) :: none :: r) st σ) : G Lw X k n pc (a0 :: a1 :: a2 :: a3 :: a4 :: a5 :: b :: b1 :: r) (.long x :: st) σ := by
  obtain ⟨p, l', e, R, s, m, args, below, meth, c, nL, H0, A, E, Q⟩ := X
  obtain ⟨hx, hb, hml, hown, hTB, hK, hD, hA, hR, hlocks, rfl, hh0, hNs⟩ := hC
  exact fun H locs arr hn hP hS hl => lv_lstore hx hb hd hl (by rw [← hn]; simp only [List.length_cons]; omega) rfl (fun arr1 hl1 => kk H locs arr1 hn hP hS (g_fil2 hl1 (fun j hj w hw => g1_spec hp w (by obtain rfl : j = 5 := (by omega); exact Option.some.inj hw))))
theorem g_lst7 {Lw : gL} {l : Launch} {X : gC} {cc : ByteArray} {own : String} {dd ca sa k n pc : Nat} {st : List Value} {σ : Mem} {a0 a1 a2 a3 a4 a5 a6 : Option Value} {r : List (Option Value)} {b b1 : Option Value} {x : Int64} (hC : gOk Lw l X cc own dd ca sa) (hd : decode cc pc = .ok (.lstore 7, 2)) (hp : g1 a6 = true) (kk : G Lw X k n (pc + 2) (a0 :: a1 :: a2 :: a3 :: a4 :: a5 :: a6 :: some (.long x) :: none :: r) st σ) : G Lw X k n pc (a0 :: a1 :: a2 :: a3 :: a4 :: a5 :: a6 :: b :: b1 :: r) (.long x :: st) σ := by
  obtain ⟨p, l', e, R, s, m, args, below, meth, c, nL, H0, A, E, Q⟩ := X
  obtain ⟨hx, hb, hml, hown, hTB, hK, hD, hA, hR, hlocks, rfl, hh0, hNs⟩ := hC
  exact fun H locs arr hn hP hS hl => lv_lstore hx hb hd hl (by rw [← hn]; simp only [List.length_cons]; omega) rfl (fun arr1 hl1 => kk H locs arr1 hn hP hS (g_fil2 hl1 (fun j hj w hw => g1_spec hp w (by obtain rfl : j = 6 := (by omega); exact Option.some.inj hw))))
theorem g_lst8 {Lw : gL} {l : Launch} {X : gC} {cc : ByteArray} {own : String} {dd ca sa k n pc : Nat} {st : List Value} {σ : Mem} {a0 a1 a2 a3 a4 a5 a6 a7 : Option Value} {r : List (Option Value)} {b b1 : Option Value} {x : Int64} (hC : gOk Lw l X cc own dd ca sa) (hd : decode cc pc = .ok (.lstore 8, 2)) (hp : g1 a7 = true) (kk : G Lw X k n (pc + 2) (a0 :: a1 :: a2 :: a3 :: a4 :: a5 :: a6 :: a7 :: some (.long x) :: none :: r) st σ) : G Lw X k n pc (a0 :: a1 :: a2 :: a3 :: a4 :: a5 :: a6 :: a7 :: b :: b1 :: r) (.long x :: st) σ := by
  obtain ⟨p, l', e, R, s, m, args, below, meth, c, nL, H0, A, E, Q⟩ := X
  obtain ⟨hx, hb, hml, hown, hTB, hK, hD, hA, hR, hlocks, rfl, hh0, hNs⟩ := hC
  exact fun H locs arr hn hP hS hl => lv_lstore hx hb hd hl (by rw [← hn]; simp only [List.length_cons]; omega) rfl (fun arr1 hl1 => kk H locs arr1 hn hP hS (g_fil2 hl1 (fun j hj w hw => g1_spec hp w (by obtain rfl : j = 7 := (by omega); exact Option.some.inj hw))))
theorem g_lst9 {Lw : gL} {l : Launch} {X : gC} {cc : ByteArray} {own : String} {dd ca sa k n pc : Nat} {st : List Value} {σ : Mem} {a0 a1 a2 a3 a4 a5 a6 a7 a8 : Option Value} {r : List (Option Value)} {b b1 : Option Value} {x : Int64} (hC : gOk Lw l X cc own dd ca sa) (hd : decode cc pc = .ok (.lstore 9, 2)) (hp : g1 a8 = true) (kk : G Lw X k n (pc + 2) (a0 :: a1 :: a2 :: a3 :: a4 :: a5 :: a6 :: a7 :: a8 :: some (.long x) :: none :: r) st σ) : G Lw X k n pc (a0 :: a1 :: a2 :: a3 :: a4 :: a5 :: a6 :: a7 :: a8 :: b :: b1 :: r) (.long x :: st) σ := by
  obtain ⟨p, l', e, R, s, m, args, below, meth, c, nL, H0, A, E, Q⟩ := X
  obtain ⟨hx, hb, hml, hown, hTB, hK, hD, hA, hR, hlocks, rfl, hh0, hNs⟩ := hC
  exact fun H locs arr hn hP hS hl => lv_lstore hx hb hd hl (by rw [← hn]; simp only [List.length_cons]; omega) rfl (fun arr1 hl1 => kk H locs arr1 hn hP hS (g_fil2 hl1 (fun j hj w hw => g1_spec hp w (by obtain rfl : j = 8 := (by omega); exact Option.some.inj hw))))
theorem g_lst10 {Lw : gL} {l : Launch} {X : gC} {cc : ByteArray} {own : String} {dd ca sa k n pc : Nat} {st : List Value} {σ : Mem} {a0 a1 a2 a3 a4 a5 a6 a7 a8 a9 : Option Value} {r : List (Option Value)} {b b1 : Option Value} {x : Int64} (hC : gOk Lw l X cc own dd ca sa) (hd : decode cc pc = .ok (.lstore 10, 2)) (hp : g1 a9 = true) (kk : G Lw X k n (pc + 2) (a0 :: a1 :: a2 :: a3 :: a4 :: a5 :: a6 :: a7 :: a8 :: a9 :: some (.long x) :: none :: r) st σ) : G Lw X k n pc (a0 :: a1 :: a2 :: a3 :: a4 :: a5 :: a6 :: a7 :: a8 :: a9 :: b :: b1 :: r) (.long x :: st) σ := by
  obtain ⟨p, l', e, R, s, m, args, below, meth, c, nL, H0, A, E, Q⟩ := X
  obtain ⟨hx, hb, hml, hown, hTB, hK, hD, hA, hR, hlocks, rfl, hh0, hNs⟩ := hC
  exact fun H locs arr hn hP hS hl => lv_lstore hx hb hd hl (by rw [← hn]; simp only [List.length_cons]; omega) rfl (fun arr1 hl1 => kk H locs arr1 hn hP hS (g_fil2 hl1 (fun j hj w hw => g1_spec hp w (by obtain rfl : j = 9 := (by omega); exact Option.some.inj hw))))
theorem g_lst11 {Lw : gL} {l : Launch} {X : gC} {cc : ByteArray} {own : String} {dd ca sa k n pc : Nat} {st : List Value} {σ : Mem} {a0 a1 a2 a3 a4 a5 a6 a7 a8 a9 a10 : Option Value} {r : List (Option Value)} {b b1 : Option Value} {x : Int64} (hC : gOk Lw l X cc own dd ca sa) (hd : decode cc pc = .ok (.lstore 11, 2)) (hp : g1 a10 = true) (kk : G Lw X k n (pc + 2) (a0 :: a1 :: a2 :: a3 :: a4 :: a5 :: a6 :: a7 :: a8 :: a9 :: a10 :: some (.long x) :: none :: r) st σ) : G Lw X k n pc (a0 :: a1 :: a2 :: a3 :: a4 :: a5 :: a6 :: a7 :: a8 :: a9 :: a10 :: b :: b1 :: r) (.long x :: st) σ := by
  obtain ⟨p, l', e, R, s, m, args, below, meth, c, nL, H0, A, E, Q⟩ := X
  obtain ⟨hx, hb, hml, hown, hTB, hK, hD, hA, hR, hlocks, rfl, hh0, hNs⟩ := hC
  exact fun H locs arr hn hP hS hl => lv_lstore hx hb hd hl (by rw [← hn]; simp only [List.length_cons]; omega) rfl (fun arr1 hl1 => kk H locs arr1 hn hP hS (g_fil2 hl1 (fun j hj w hw => g1_spec hp w (by obtain rfl : j = 10 := (by omega); exact Option.some.inj hw))))
theorem g_lst12 {Lw : gL} {l : Launch} {X : gC} {cc : ByteArray} {own : String} {dd ca sa k n pc : Nat} {st : List Value} {σ : Mem} {a0 a1 a2 a3 a4 a5 a6 a7 a8 a9 a10 a11 : Option Value} {r : List (Option Value)} {b b1 : Option Value} {x : Int64} (hC : gOk Lw l X cc own dd ca sa) (hd : decode cc pc = .ok (.lstore 12, 2)) (hp : g1 a11 = true) (kk : G Lw X k n (pc + 2) (a0 :: a1 :: a2 :: a3 :: a4 :: a5 :: a6 :: a7 :: a8 :: a9 :: a10 :: a11 :: some (.long x) :: none :: r) st σ) : G Lw X k n pc (a0 :: a1 :: a2 :: a3 :: a4 :: a5 :: a6 :: a7 :: a8 :: a9 :: a10 :: a11 :: b :: b1 :: r) (.long x :: st) σ := by
  obtain ⟨p, l', e, R, s, m, args, below, meth, c, nL, H0, A, E, Q⟩ := X
  obtain ⟨hx, hb, hml, hown, hTB, hK, hD, hA, hR, hlocks, rfl, hh0, hNs⟩ := hC
  exact fun H locs arr hn hP hS hl => lv_lstore hx hb hd hl (by rw [← hn]; simp only [List.length_cons]; omega) rfl (fun arr1 hl1 => kk H locs arr1 hn hP hS (g_fil2 hl1 (fun j hj w hw => g1_spec hp w (by obtain rfl : j = 11 := (by omega); exact Option.some.inj hw))))
theorem g_lst13 {Lw : gL} {l : Launch} {X : gC} {cc : ByteArray} {own : String} {dd ca sa k n pc : Nat} {st : List Value} {σ : Mem} {a0 a1 a2 a3 a4 a5 a6 a7 a8 a9 a10 a11 a12 : Option Value} {r : List (Option Value)} {b b1 : Option Value} {x : Int64} (hC : gOk Lw l X cc own dd ca sa) (hd : decode cc pc = .ok (.lstore 13, 2)) (hp : g1 a12 = true) (kk : G Lw X k n (pc + 2) (a0 :: a1 :: a2 :: a3 :: a4 :: a5 :: a6 :: a7 :: a8 :: a9 :: a10 :: a11 :: a12 :: some (.long x) :: none :: r) st σ) : G Lw X k n pc (a0 :: a1 :: a2 :: a3 :: a4 :: a5 :: a6 :: a7 :: a8 :: a9 :: a10 :: a11 :: a12 :: b :: b1 :: r) (.long x :: st) σ := by
  obtain ⟨p, l', e, R, s, m, args, below, meth, c, nL, H0, A, E, Q⟩ := X
  obtain ⟨hx, hb, hml, hown, hTB, hK, hD, hA, hR, hlocks, rfl, hh0, hNs⟩ := hC
  exact fun H locs arr hn hP hS hl => lv_lstore hx hb hd hl (by rw [← hn]; simp only [List.length_cons]; omega) rfl (fun arr1 hl1 => kk H locs arr1 hn hP hS (g_fil2 hl1 (fun j hj w hw => g1_spec hp w (by obtain rfl : j = 12 := (by omega); exact Option.some.inj hw))))
theorem g_dst0 {Lw : gL} {l : Launch} {X : gC} {cc : ByteArray} {own : String} {dd ca sa k n pc : Nat} {st : List Value} {σ : Mem} {r : List (Option Value)} {b b1 : Option Value} {x : UInt64} (hC : gOk Lw l X cc own dd ca sa) (hd : decode cc pc = .ok (.dstore_n 0, 1)) (kk : G Lw X k n (pc + 1) (some (.double x) :: none :: r) st σ) : G Lw X k n pc (b :: b1 :: r) (.double x :: st) σ := by
  obtain ⟨p, l', e, R, s, m, args, below, meth, c, nL, H0, A, E, Q⟩ := X
  obtain ⟨hx, hb, hml, hown, hTB, hK, hD, hA, hR, hlocks, rfl, hh0, hNs⟩ := hC
  exact fun H locs arr hn hP hS hl => lv_dstore_n (i := 0) hx hb hd rfl hl (by rw [← hn]; simp only [List.length_cons]; omega) rfl (fun arr1 hl1 => kk H locs arr1 hn hP hS (g_fil2 hl1 (fun j hj => absurd hj (by omega))))
theorem g_dst1 {Lw : gL} {l : Launch} {X : gC} {cc : ByteArray} {own : String} {dd ca sa k n pc : Nat} {st : List Value} {σ : Mem} {a0 : Option Value} {r : List (Option Value)} {b b1 : Option Value} {x : UInt64} (hC : gOk Lw l X cc own dd ca sa) (hd : decode cc pc = .ok (.dstore_n 1, 1)) (hp : g1 a0 = true) (kk : G Lw X k n (pc + 1) (a0 :: some (.double x) :: none :: r) st σ) : G Lw X k n pc (a0 :: b :: b1 :: r) (.double x :: st) σ := by
  obtain ⟨p, l', e, R, s, m, args, below, meth, c, nL, H0, A, E, Q⟩ := X
  obtain ⟨hx, hb, hml, hown, hTB, hK, hD, hA, hR, hlocks, rfl, hh0, hNs⟩ := hC
  exact fun H locs arr hn hP hS hl => lv_dstore_n (i := 1) hx hb hd rfl hl (by rw [← hn]; simp only [List.length_cons]; omega) rfl (fun arr1 hl1 => kk H locs arr1 hn hP hS (g_fil2 hl1 (fun j hj w hw => g1_spec hp w (by obtain rfl : j = 0 := (by omega); exact Option.some.inj hw))))
theorem g_dst2 {Lw : gL} {l : Launch} {X : gC} {cc : ByteArray} {own : String} {dd ca sa k n pc : Nat} {st : List Value} {σ : Mem} {a0 a1 : Option Value} {r : List (Option Value)} {b b1 : Option Value} {x : UInt64} (hC : gOk Lw l X cc own dd ca sa) (hd : decode cc pc = .ok (.dstore_n 2, 1)) (hp : g1 a1 = true) (kk : G Lw X k n (pc + 1) (a0 :: a1 :: some (.double x) :: none :: r) st σ) : G Lw X k n pc (a0 :: a1 :: b :: b1 :: r) (.double x :: st) σ := by
  obtain ⟨p, l', e, R, s, m, args, below, meth, c, nL, H0, A, E, Q⟩ := X
  obtain ⟨hx, hb, hml, hown, hTB, hK, hD, hA, hR, hlocks, rfl, hh0, hNs⟩ := hC
  exact fun H locs arr hn hP hS hl => lv_dstore_n (i := 2) hx hb hd rfl hl (by rw [← hn]; simp only [List.length_cons]; omega) rfl (fun arr1 hl1 => kk H locs arr1 hn hP hS (g_fil2 hl1 (fun j hj w hw => g1_spec hp w (by obtain rfl : j = 1 := (by omega); exact Option.some.inj hw))))
theorem g_dst3 {Lw : gL} {l : Launch} {X : gC} {cc : ByteArray} {own : String} {dd ca sa k n pc : Nat} {st : List Value} {σ : Mem} {a0 a1 a2 : Option Value} {r : List (Option Value)} {b b1 : Option Value} {x : UInt64} (hC : gOk Lw l X cc own dd ca sa) (hd : decode cc pc = .ok (.dstore_n 3, 1)) (hp : g1 a2 = true) (kk : G Lw X k n (pc + 1) (a0 :: a1 :: a2 :: some (.double x) :: none :: r) st σ) : G Lw X k n pc (a0 :: a1 :: a2 :: b :: b1 :: r) (.double x :: st) σ := by
  obtain ⟨p, l', e, R, s, m, args, below, meth, c, nL, H0, A, E, Q⟩ := X
  obtain ⟨hx, hb, hml, hown, hTB, hK, hD, hA, hR, hlocks, rfl, hh0, hNs⟩ := hC
  exact fun H locs arr hn hP hS hl => lv_dstore_n (i := 3) hx hb hd rfl hl (by rw [← hn]; simp only [List.length_cons]; omega) rfl (fun arr1 hl1 => kk H locs arr1 hn hP hS (g_fil2 hl1 (fun j hj w hw => g1_spec hp w (by obtain rfl : j = 2 := (by omega); exact Option.some.inj hw))))
theorem g_dst4 {Lw : gL} {l : Launch} {X : gC} {cc : ByteArray} {own : String} {dd ca sa k n pc : Nat} {st : List Value} {σ : Mem} {a0 a1 a2 a3 : Option Value} {r : List (Option Value)} {b b1 : Option Value} {x : UInt64} (hC : gOk Lw l X cc own dd ca sa) (hd : decode cc pc = .ok (.dstore 4, 2)) (hp : g1 a3 = true) (kk : G Lw X k n (pc + 2) (a0 :: a1 :: a2 :: a3 :: some (.double x) :: none :: r) st σ) : G Lw X k n pc (a0 :: a1 :: a2 :: a3 :: b :: b1 :: r) (.double x :: st) σ := by
  obtain ⟨p, l', e, R, s, m, args, below, meth, c, nL, H0, A, E, Q⟩ := X
  obtain ⟨hx, hb, hml, hown, hTB, hK, hD, hA, hR, hlocks, rfl, hh0, hNs⟩ := hC
  exact fun H locs arr hn hP hS hl => lv_dstore hx hb hd hl (by rw [← hn]; simp only [List.length_cons]; omega) rfl (fun arr1 hl1 => kk H locs arr1 hn hP hS (g_fil2 hl1 (fun j hj w hw => g1_spec hp w (by obtain rfl : j = 3 := (by omega); exact Option.some.inj hw))))
theorem g_dst5 {Lw : gL} {l : Launch} {X : gC} {cc : ByteArray} {own : String} {dd ca sa k n pc : Nat} {st : List Value} {σ : Mem} {a0 a1 a2 a3 a4 : Option Value} {r : List (Option Value)} {b b1 : Option Value} {x : UInt64} (hC : gOk Lw l X cc own dd ca sa) (hd : decode cc pc = .ok (.dstore 5, 2)) (hp : g1 a4 = true) (kk : G Lw X k n (pc + 2) (a0 :: a1 :: a2 :: a3 :: a4 :: some (.double x) :: none :: r) st σ) : G Lw X k n pc (a0 :: a1 :: a2 :: a3 :: a4 :: b :: b1 :: r) (.double x :: st) σ := by
  obtain ⟨p, l', e, R, s, m, args, below, meth, c, nL, H0, A, E, Q⟩ := X
  obtain ⟨hx, hb, hml, hown, hTB, hK, hD, hA, hR, hlocks, rfl, hh0, hNs⟩ := hC
  exact fun H locs arr hn hP hS hl => lv_dstore hx hb hd hl (by rw [← hn]; simp only [List.length_cons]; omega) rfl (fun arr1 hl1 => kk H locs arr1 hn hP hS (g_fil2 hl1 (fun j hj w hw => g1_spec hp w (by obtain rfl : j = 4 := (by omega); exact Option.some.inj hw))))
theorem g_dst6 {Lw : gL} {l : Launch} {X : gC} {cc : ByteArray} {own : String} {dd ca sa k n pc : Nat} {st : List Value} {σ : Mem} {a0 a1 a2 a3 a4 a5 : Option Value} {r : List (Option Value)} {b b1 : Option Value} {x : UInt64} (hC : gOk Lw l X cc own dd ca sa) (hd : decode cc pc = .ok (.dstore 6, 2)) (hp : g1 a5 = true) (kk : G Lw X k n (pc + 2) (a0 :: a1 :: a2 :: a3 :: a4 :: a5 :: some (.double x) :: none :: r) st σ) : G Lw X k n pc (a0 :: a1 :: a2 :: a3 :: a4 :: a5 :: b :: b1 :: r) (.double x :: st) σ := by
  obtain ⟨p, l', e, R, s, m, args, below, meth, c, nL, H0, A, E, Q⟩ := X
  obtain ⟨hx, hb, hml, hown, hTB, hK, hD, hA, hR, hlocks, rfl, hh0, hNs⟩ := hC
  exact fun H locs arr hn hP hS hl => lv_dstore hx hb hd hl (by rw [← hn]; simp only [List.length_cons]; omega) rfl (fun arr1 hl1 => kk H locs arr1 hn hP hS (g_fil2 hl1 (fun j hj w hw => g1_spec hp w (by obtain rfl : j = 5 := (by omega); exact Option.some.inj hw))))
theorem g_dst7 {Lw : gL} {l : Launch} {X : gC} {cc : ByteArray} {own : String} {dd ca sa k n pc : Nat} {st : List Value} {σ : Mem} {a0 a1 a2 a3 a4 a5 a6 : Option Value} {r : List (Option Value)} {b b1 : Option Value} {x : UInt64} (hC : gOk Lw l X cc own dd ca sa) (hd : decode cc pc = .ok (.dstore 7, 2)) (hp : g1 a6 = true) (kk : G Lw X k n (pc + 2) (a0 :: a1 :: a2 :: a3 :: a4 :: a5 :: a6 :: some (.double x) :: none :: r) st σ) : G Lw X k n pc (a0 :: a1 :: a2 :: a3 :: a4 :: a5 :: a6 :: b :: b1 :: r) (.double x :: st) σ := by
  obtain ⟨p, l', e, R, s, m, args, below, meth, c, nL, H0, A, E, Q⟩ := X
  obtain ⟨hx, hb, hml, hown, hTB, hK, hD, hA, hR, hlocks, rfl, hh0, hNs⟩ := hC
  exact fun H locs arr hn hP hS hl => lv_dstore hx hb hd hl (by rw [← hn]; simp only [List.length_cons]; omega) rfl (fun arr1 hl1 => kk H locs arr1 hn hP hS (g_fil2 hl1 (fun j hj w hw => g1_spec hp w (by obtain rfl : j = 6 := (by omega); exact Option.some.inj hw))))
theorem g_dst8 {Lw : gL} {l : Launch} {X : gC} {cc : ByteArray} {own : String} {dd ca sa k n pc : Nat} {st : List Value} {σ : Mem} {a0 a1 a2 a3 a4 a5 a6 a7 : Option Value} {r : List (Option Value)} {b b1 : Option Value} {x : UInt64} (hC : gOk Lw l X cc own dd ca sa) (hd : decode cc pc = .ok (.dstore 8, 2)) (hp : g1 a7 = true) (kk : G Lw X k n (pc + 2) (a0 :: a1 :: a2 :: a3 :: a4 :: a5 :: a6 :: a7 :: some (.double x) :: none :: r) st σ) : G Lw X k n pc (a0 :: a1 :: a2 :: a3 :: a4 :: a5 :: a6 :: a7 :: b :: b1 :: r) (.double x :: st) σ := by
  obtain ⟨p, l', e, R, s, m, args, below, meth, c, nL, H0, A, E, Q⟩ := X
  obtain ⟨hx, hb, hml, hown, hTB, hK, hD, hA, hR, hlocks, rfl, hh0, hNs⟩ := hC
  exact fun H locs arr hn hP hS hl => lv_dstore hx hb hd hl (by rw [← hn]; simp only [List.length_cons]; omega) rfl (fun arr1 hl1 => kk H locs arr1 hn hP hS (g_fil2 hl1 (fun j hj w hw => g1_spec hp w (by obtain rfl : j = 7 := (by omega); exact Option.some.inj hw))))
theorem g_dst9 {Lw : gL} {l : Launch} {X : gC} {cc : ByteArray} {own : String} {dd ca sa k n pc : Nat} {st : List Value} {σ : Mem} {a0 a1 a2 a3 a4 a5 a6 a7 a8 : Option Value} {r : List (Option Value)} {b b1 : Option Value} {x : UInt64} (hC : gOk Lw l X cc own dd ca sa) (hd : decode cc pc = .ok (.dstore 9, 2)) (hp : g1 a8 = true) (kk : G Lw X k n (pc + 2) (a0 :: a1 :: a2 :: a3 :: a4 :: a5 :: a6 :: a7 :: a8 :: some (.double x) :: none :: r) st σ) : G Lw X k n pc (a0 :: a1 :: a2 :: a3 :: a4 :: a5 :: a6 :: a7 :: a8 :: b :: b1 :: r) (.double x :: st) σ := by
  obtain ⟨p, l', e, R, s, m, args, below, meth, c, nL, H0, A, E, Q⟩ := X
  obtain ⟨hx, hb, hml, hown, hTB, hK, hD, hA, hR, hlocks, rfl, hh0, hNs⟩ := hC
  exact fun H locs arr hn hP hS hl => lv_dstore hx hb hd hl (by rw [← hn]; simp only [List.length_cons]; omega) rfl (fun arr1 hl1 => kk H locs arr1 hn hP hS (g_fil2 hl1 (fun j hj w hw => g1_spec hp w (by obtain rfl : j = 8 := (by omega); exact Option.some.inj hw))))
theorem g_dst10 {Lw : gL} {l : Launch} {X : gC} {cc : ByteArray} {own : String} {dd ca sa k n pc : Nat} {st : List Value} {σ : Mem} {a0 a1 a2 a3 a4 a5 a6 a7 a8 a9 : Option Value} {r : List (Option Value)} {b b1 : Option Value} {x : UInt64} (hC : gOk Lw l X cc own dd ca sa) (hd : decode cc pc = .ok (.dstore 10, 2)) (hp : g1 a9 = true) (kk : G Lw X k n (pc + 2) (a0 :: a1 :: a2 :: a3 :: a4 :: a5 :: a6 :: a7 :: a8 :: a9 :: some (.double x) :: none :: r) st σ) : G Lw X k n pc (a0 :: a1 :: a2 :: a3 :: a4 :: a5 :: a6 :: a7 :: a8 :: a9 :: b :: b1 :: r) (.double x :: st) σ := by
  obtain ⟨p, l', e, R, s, m, args, below, meth, c, nL, H0, A, E, Q⟩ := X
  obtain ⟨hx, hb, hml, hown, hTB, hK, hD, hA, hR, hlocks, rfl, hh0, hNs⟩ := hC
  exact fun H locs arr hn hP hS hl => lv_dstore hx hb hd hl (by rw [← hn]; simp only [List.length_cons]; omega) rfl (fun arr1 hl1 => kk H locs arr1 hn hP hS (g_fil2 hl1 (fun j hj w hw => g1_spec hp w (by obtain rfl : j = 9 := (by omega); exact Option.some.inj hw))))
theorem g_dst11 {Lw : gL} {l : Launch} {X : gC} {cc : ByteArray} {own : String} {dd ca sa k n pc : Nat} {st : List Value} {σ : Mem} {a0 a1 a2 a3 a4 a5 a6 a7 a8 a9 a10 : Option Value} {r : List (Option Value)} {b b1 : Option Value} {x : UInt64} (hC : gOk Lw l X cc own dd ca sa) (hd : decode cc pc = .ok (.dstore 11, 2)) (hp : g1 a10 = true) (kk : G Lw X k n (pc + 2) (a0 :: a1 :: a2 :: a3 :: a4 :: a5 :: a6 :: a7 :: a8 :: a9 :: a10 :: some (.double x) :: none :: r) st σ) : G Lw X k n pc (a0 :: a1 :: a2 :: a3 :: a4 :: a5 :: a6 :: a7 :: a8 :: a9 :: a10 :: b :: b1 :: r) (.double x :: st) σ := by
  obtain ⟨p, l', e, R, s, m, args, below, meth, c, nL, H0, A, E, Q⟩ := X
  obtain ⟨hx, hb, hml, hown, hTB, hK, hD, hA, hR, hlocks, rfl, hh0, hNs⟩ := hC
  exact fun H locs arr hn hP hS hl => lv_dstore hx hb hd hl (by rw [← hn]; simp only [List.length_cons]; omega) rfl (fun arr1 hl1 => kk H locs arr1 hn hP hS (g_fil2 hl1 (fun j hj w hw => g1_spec hp w (by obtain rfl : j = 10 := (by omega); exact Option.some.inj hw))))
theorem g_dst12 {Lw : gL} {l : Launch} {X : gC} {cc : ByteArray} {own : String} {dd ca sa k n pc : Nat} {st : List Value} {σ : Mem} {a0 a1 a2 a3 a4 a5 a6 a7 a8 a9 a10 a11 : Option Value} {r : List (Option Value)} {b b1 : Option Value} {x : UInt64} (hC : gOk Lw l X cc own dd ca sa) (hd : decode cc pc = .ok (.dstore 12, 2)) (hp : g1 a11 = true) (kk : G Lw X k n (pc + 2) (a0 :: a1 :: a2 :: a3 :: a4 :: a5 :: a6 :: a7 :: a8 :: a9 :: a10 :: a11 :: some (.double x) :: none :: r) st σ) : G Lw X k n pc (a0 :: a1 :: a2 :: a3 :: a4 :: a5 :: a6 :: a7 :: a8 :: a9 :: a10 :: a11 :: b :: b1 :: r) (.double x :: st) σ := by
  obtain ⟨p, l', e, R, s, m, args, below, meth, c, nL, H0, A, E, Q⟩ := X
  obtain ⟨hx, hb, hml, hown, hTB, hK, hD, hA, hR, hlocks, rfl, hh0, hNs⟩ := hC
  exact fun H locs arr hn hP hS hl => lv_dstore hx hb hd hl (by rw [← hn]; simp only [List.length_cons]; omega) rfl (fun arr1 hl1 => kk H locs arr1 hn hP hS (g_fil2 hl1 (fun j hj w hw => g1_spec hp w (by obtain rfl : j = 11 := (by omega); exact Option.some.inj hw))))
theorem g_dst13 {Lw : gL} {l : Launch} {X : gC} {cc : ByteArray} {own : String} {dd ca sa k n pc : Nat} {st : List Value} {σ : Mem} {a0 a1 a2 a3 a4 a5 a6 a7 a8 a9 a10 a11 a12 : Option Value} {r : List (Option Value)} {b b1 : Option Value} {x : UInt64} (hC : gOk Lw l X cc own dd ca sa) (hd : decode cc pc = .ok (.dstore 13, 2)) (hp : g1 a12 = true) (kk : G Lw X k n (pc + 2) (a0 :: a1 :: a2 :: a3 :: a4 :: a5 :: a6 :: a7 :: a8 :: a9 :: a10 :: a11 :: a12 :: some (.double x) :: none :: r) st σ) : G Lw X k n pc (a0 :: a1 :: a2 :: a3 :: a4 :: a5 :: a6 :: a7 :: a8 :: a9 :: a10 :: a11 :: a12 :: b :: b1 :: r) (.double x :: st) σ := by
  obtain ⟨p, l', e, R, s, m, args, below, meth, c, nL, H0, A, E, Q⟩ := X
  obtain ⟨hx, hb, hml, hown, hTB, hK, hD, hA, hR, hlocks, rfl, hh0, hNs⟩ := hC
  exact fun H locs arr hn hP hS hl => lv_dstore hx hb hd hl (by rw [← hn]; simp only [List.length_cons]; omega) rfl (fun arr1 hl1 => kk H locs arr1 hn hP hS (g_fil2 hl1 (fun j hj w hw => g1_spec hp w (by obtain rfl : j = 12 := (by omega); exact Option.some.inj hw))))
theorem g_inc0 {Lw : gL} {l : Launch} {X : gC} {cc : ByteArray} {own : String} {dd ca sa k n pc : Nat} {st : List Value} {σ : Mem} {r : List (Option Value)} {x : Int32} {z : Int} (v : Int32) (hC : gOk Lw l X cc own dd ca sa) (hd : decode cc pc = .ok (.iinc 0 z, 3)) (hv : Int32.ofInt z = v) (kk : G Lw X k n (pc + 3) (some (.int (x + v)) :: r) st σ) : G Lw X k n pc (some (.int x) :: r) st σ := by
  obtain ⟨p, l', e, R, s, m, args, below, meth, c, nL, H0, A, E, Q⟩ := X
  obtain ⟨hx, hb, hml, hown, hTB, hK, hD, hA, hR, hlocks, rfl, hh0, hNs⟩ := hC
  subst hv
  intro H locs arr hn hP hS hl T hT XX
  obtain ⟨arr1, e1, hl1⟩ := lv_store1 (v := .int (x + Int32.ofInt z)) hl (show 0 < nL by rw [← hn]; simp only [List.length_cons]; omega) rfl
  have hg := g_loc hl 0 rfl
  obtain ⟨t, a, b⟩ := kk H locs arr1 hn hP hS (g_fil1 hl1 (fun j hj => absurd hj (by omega))) T hT XX
  refine ⟨t, ?_, b⟩
  jvm_step XX.here [XX.here.top, ↓top_set XX.here.top, hx, hb, hd, hg, e1]
  exact a
theorem g_inc1 {Lw : gL} {l : Launch} {X : gC} {cc : ByteArray} {own : String} {dd ca sa k n pc : Nat} {st : List Value} {σ : Mem} {a0 : Option Value} {r : List (Option Value)} {x : Int32} {z : Int} (v : Int32) (hC : gOk Lw l X cc own dd ca sa) (hd : decode cc pc = .ok (.iinc 1 z, 3)) (hv : Int32.ofInt z = v) (hp : g1 a0 = true) (kk : G Lw X k n (pc + 3) (a0 :: some (.int (x + v)) :: r) st σ) : G Lw X k n pc (a0 :: some (.int x) :: r) st σ := by
  obtain ⟨p, l', e, R, s, m, args, below, meth, c, nL, H0, A, E, Q⟩ := X
  obtain ⟨hx, hb, hml, hown, hTB, hK, hD, hA, hR, hlocks, rfl, hh0, hNs⟩ := hC
  subst hv
  intro H locs arr hn hP hS hl T hT XX
  obtain ⟨arr1, e1, hl1⟩ := lv_store1 (v := .int (x + Int32.ofInt z)) hl (show 1 < nL by rw [← hn]; simp only [List.length_cons]; omega) rfl
  have hg := g_loc hl 1 rfl
  obtain ⟨t, a, b⟩ := kk H locs arr1 hn hP hS (g_fil1 hl1 (fun j hj w hw => g1_spec hp w (by obtain rfl : j = 0 := (by omega); exact Option.some.inj hw))) T hT XX
  refine ⟨t, ?_, b⟩
  jvm_step XX.here [XX.here.top, ↓top_set XX.here.top, hx, hb, hd, hg, e1]
  exact a
theorem g_inc2 {Lw : gL} {l : Launch} {X : gC} {cc : ByteArray} {own : String} {dd ca sa k n pc : Nat} {st : List Value} {σ : Mem} {a0 a1 : Option Value} {r : List (Option Value)} {x : Int32} {z : Int} (v : Int32) (hC : gOk Lw l X cc own dd ca sa) (hd : decode cc pc = .ok (.iinc 2 z, 3)) (hv : Int32.ofInt z = v) (hp : g1 a1 = true) (kk : G Lw X k n (pc + 3) (a0 :: a1 :: some (.int (x + v)) :: r) st σ) : G Lw X k n pc (a0 :: a1 :: some (.int x) :: r) st σ := by
  obtain ⟨p, l', e, R, s, m, args, below, meth, c, nL, H0, A, E, Q⟩ := X
  obtain ⟨hx, hb, hml, hown, hTB, hK, hD, hA, hR, hlocks, rfl, hh0, hNs⟩ := hC
  subst hv
  intro H locs arr hn hP hS hl T hT XX
  obtain ⟨arr1, e1, hl1⟩ := lv_store1 (v := .int (x + Int32.ofInt z)) hl (show 2 < nL by rw [← hn]; simp only [List.length_cons]; omega) rfl
  have hg := g_loc hl 2 rfl
  obtain ⟨t, a, b⟩ := kk H locs arr1 hn hP hS (g_fil1 hl1 (fun j hj w hw => g1_spec hp w (by obtain rfl : j = 1 := (by omega); exact Option.some.inj hw))) T hT XX
  refine ⟨t, ?_, b⟩
  jvm_step XX.here [XX.here.top, ↓top_set XX.here.top, hx, hb, hd, hg, e1]
  exact a
theorem g_inc3 {Lw : gL} {l : Launch} {X : gC} {cc : ByteArray} {own : String} {dd ca sa k n pc : Nat} {st : List Value} {σ : Mem} {a0 a1 a2 : Option Value} {r : List (Option Value)} {x : Int32} {z : Int} (v : Int32) (hC : gOk Lw l X cc own dd ca sa) (hd : decode cc pc = .ok (.iinc 3 z, 3)) (hv : Int32.ofInt z = v) (hp : g1 a2 = true) (kk : G Lw X k n (pc + 3) (a0 :: a1 :: a2 :: some (.int (x + v)) :: r) st σ) : G Lw X k n pc (a0 :: a1 :: a2 :: some (.int x) :: r) st σ := by
  obtain ⟨p, l', e, R, s, m, args, below, meth, c, nL, H0, A, E, Q⟩ := X
  obtain ⟨hx, hb, hml, hown, hTB, hK, hD, hA, hR, hlocks, rfl, hh0, hNs⟩ := hC
  subst hv
  intro H locs arr hn hP hS hl T hT XX
  obtain ⟨arr1, e1, hl1⟩ := lv_store1 (v := .int (x + Int32.ofInt z)) hl (show 3 < nL by rw [← hn]; simp only [List.length_cons]; omega) rfl
  have hg := g_loc hl 3 rfl
  obtain ⟨t, a, b⟩ := kk H locs arr1 hn hP hS (g_fil1 hl1 (fun j hj w hw => g1_spec hp w (by obtain rfl : j = 2 := (by omega); exact Option.some.inj hw))) T hT XX
  refine ⟨t, ?_, b⟩
  jvm_step XX.here [XX.here.top, ↓top_set XX.here.top, hx, hb, hd, hg, e1]
  exact a
theorem g_inc4 {Lw : gL} {l : Launch} {X : gC} {cc : ByteArray} {own : String} {dd ca sa k n pc : Nat} {st : List Value} {σ : Mem} {a0 a1 a2 a3 : Option Value} {r : List (Option Value)} {x : Int32} {z : Int} (v : Int32) (hC : gOk Lw l X cc own dd ca sa) (hd : decode cc pc = .ok (.iinc 4 z, 3)) (hv : Int32.ofInt z = v) (hp : g1 a3 = true) (kk : G Lw X k n (pc + 3) (a0 :: a1 :: a2 :: a3 :: some (.int (x + v)) :: r) st σ) : G Lw X k n pc (a0 :: a1 :: a2 :: a3 :: some (.int x) :: r) st σ := by
  obtain ⟨p, l', e, R, s, m, args, below, meth, c, nL, H0, A, E, Q⟩ := X
  obtain ⟨hx, hb, hml, hown, hTB, hK, hD, hA, hR, hlocks, rfl, hh0, hNs⟩ := hC
  subst hv
  intro H locs arr hn hP hS hl T hT XX
  obtain ⟨arr1, e1, hl1⟩ := lv_store1 (v := .int (x + Int32.ofInt z)) hl (show 4 < nL by rw [← hn]; simp only [List.length_cons]; omega) rfl
  have hg := g_loc hl 4 rfl
  obtain ⟨t, a, b⟩ := kk H locs arr1 hn hP hS (g_fil1 hl1 (fun j hj w hw => g1_spec hp w (by obtain rfl : j = 3 := (by omega); exact Option.some.inj hw))) T hT XX
  refine ⟨t, ?_, b⟩
  jvm_step XX.here [XX.here.top, ↓top_set XX.here.top, hx, hb, hd, hg, e1]
  exact a
theorem g_inc5 {Lw : gL} {l : Launch} {X : gC} {cc : ByteArray} {own : String} {dd ca sa k n pc : Nat} {st : List Value} {σ : Mem} {a0 a1 a2 a3 a4 : Option Value} {r : List (Option Value)} {x : Int32} {z : Int} (v : Int32) (hC : gOk Lw l X cc own dd ca sa) (hd : decode cc pc = .ok (.iinc 5 z, 3)) (hv : Int32.ofInt z = v) (hp : g1 a4 = true) (kk : G Lw X k n (pc + 3) (a0 :: a1 :: a2 :: a3 :: a4 :: some (.int (x + v)) :: r) st σ) : G Lw X k n pc (a0 :: a1 :: a2 :: a3 :: a4 :: some (.int x) :: r) st σ := by
  obtain ⟨p, l', e, R, s, m, args, below, meth, c, nL, H0, A, E, Q⟩ := X
  obtain ⟨hx, hb, hml, hown, hTB, hK, hD, hA, hR, hlocks, rfl, hh0, hNs⟩ := hC
  subst hv
  intro H locs arr hn hP hS hl T hT XX
  obtain ⟨arr1, e1, hl1⟩ := lv_store1 (v := .int (x + Int32.ofInt z)) hl (show 5 < nL by rw [← hn]; simp only [List.length_cons]; omega) rfl
  have hg := g_loc hl 5 rfl
  obtain ⟨t, a, b⟩ := kk H locs arr1 hn hP hS (g_fil1 hl1 (fun j hj w hw => g1_spec hp w (by obtain rfl : j = 4 := (by omega); exact Option.some.inj hw))) T hT XX
  refine ⟨t, ?_, b⟩
  jvm_step XX.here [XX.here.top, ↓top_set XX.here.top, hx, hb, hd, hg, e1]
  exact a
theorem g_inc6 {Lw : gL} {l : Launch} {X : gC} {cc : ByteArray} {own : String} {dd ca sa k n pc : Nat} {st : List Value} {σ : Mem} {a0 a1 a2 a3 a4 a5 : Option Value} {r : List (Option Value)} {x : Int32} {z : Int} (v : Int32) (hC : gOk Lw l X cc own dd ca sa) (hd : decode cc pc = .ok (.iinc 6 z, 3)) (hv : Int32.ofInt z = v) (hp : g1 a5 = true) (kk : G Lw X k n (pc + 3) (a0 :: a1 :: a2 :: a3 :: a4 :: a5 :: some (.int (x + v)) :: r) st σ) : G Lw X k n pc (a0 :: a1 :: a2 :: a3 :: a4 :: a5 :: some (.int x) :: r) st σ := by
  obtain ⟨p, l', e, R, s, m, args, below, meth, c, nL, H0, A, E, Q⟩ := X
  obtain ⟨hx, hb, hml, hown, hTB, hK, hD, hA, hR, hlocks, rfl, hh0, hNs⟩ := hC
  subst hv
  intro H locs arr hn hP hS hl T hT XX
  obtain ⟨arr1, e1, hl1⟩ := lv_store1 (v := .int (x + Int32.ofInt z)) hl (show 6 < nL by rw [← hn]; simp only [List.length_cons]; omega) rfl
  have hg := g_loc hl 6 rfl
  obtain ⟨t, a, b⟩ := kk H locs arr1 hn hP hS (g_fil1 hl1 (fun j hj w hw => g1_spec hp w (by obtain rfl : j = 5 := (by omega); exact Option.some.inj hw))) T hT XX
  refine ⟨t, ?_, b⟩
  jvm_step XX.here [XX.here.top, ↓top_set XX.here.top, hx, hb, hd, hg, e1]
  exact a
theorem g_inc7 {Lw : gL} {l : Launch} {X : gC} {cc : ByteArray} {own : String} {dd ca sa k n pc : Nat} {st : List Value} {σ : Mem} {a0 a1 a2 a3 a4 a5 a6 : Option Value} {r : List (Option Value)} {x : Int32} {z : Int} (v : Int32) (hC : gOk Lw l X cc own dd ca sa) (hd : decode cc pc = .ok (.iinc 7 z, 3)) (hv : Int32.ofInt z = v) (hp : g1 a6 = true) (kk : G Lw X k n (pc + 3) (a0 :: a1 :: a2 :: a3 :: a4 :: a5 :: a6 :: some (.int (x + v)) :: r) st σ) : G Lw X k n pc (a0 :: a1 :: a2 :: a3 :: a4 :: a5 :: a6 :: some (.int x) :: r) st σ := by
  obtain ⟨p, l', e, R, s, m, args, below, meth, c, nL, H0, A, E, Q⟩ := X
  obtain ⟨hx, hb, hml, hown, hTB, hK, hD, hA, hR, hlocks, rfl, hh0, hNs⟩ := hC
  subst hv
  intro H locs arr hn hP hS hl T hT XX
  obtain ⟨arr1, e1, hl1⟩ := lv_store1 (v := .int (x + Int32.ofInt z)) hl (show 7 < nL by rw [← hn]; simp only [List.length_cons]; omega) rfl
  have hg := g_loc hl 7 rfl
  obtain ⟨t, a, b⟩ := kk H locs arr1 hn hP hS (g_fil1 hl1 (fun j hj w hw => g1_spec hp w (by obtain rfl : j = 6 := (by omega); exact Option.some.inj hw))) T hT XX
  refine ⟨t, ?_, b⟩
  jvm_step XX.here [XX.here.top, ↓top_set XX.here.top, hx, hb, hd, hg, e1]
  exact a
theorem g_inc8 {Lw : gL} {l : Launch} {X : gC} {cc : ByteArray} {own : String} {dd ca sa k n pc : Nat} {st : List Value} {σ : Mem} {a0 a1 a2 a3 a4 a5 a6 a7 : Option Value} {r : List (Option Value)} {x : Int32} {z : Int} (v : Int32) (hC : gOk Lw l X cc own dd ca sa) (hd : decode cc pc = .ok (.iinc 8 z, 3)) (hv : Int32.ofInt z = v) (hp : g1 a7 = true) (kk : G Lw X k n (pc + 3) (a0 :: a1 :: a2 :: a3 :: a4 :: a5 :: a6 :: a7 :: some (.int (x + v)) :: r) st σ) : G Lw X k n pc (a0 :: a1 :: a2 :: a3 :: a4 :: a5 :: a6 :: a7 :: some (.int x) :: r) st σ := by
  obtain ⟨p, l', e, R, s, m, args, below, meth, c, nL, H0, A, E, Q⟩ := X
  obtain ⟨hx, hb, hml, hown, hTB, hK, hD, hA, hR, hlocks, rfl, hh0, hNs⟩ := hC
  subst hv
  intro H locs arr hn hP hS hl T hT XX
  obtain ⟨arr1, e1, hl1⟩ := lv_store1 (v := .int (x + Int32.ofInt z)) hl (show 8 < nL by rw [← hn]; simp only [List.length_cons]; omega) rfl
  have hg := g_loc hl 8 rfl
  obtain ⟨t, a, b⟩ := kk H locs arr1 hn hP hS (g_fil1 hl1 (fun j hj w hw => g1_spec hp w (by obtain rfl : j = 7 := (by omega); exact Option.some.inj hw))) T hT XX
  refine ⟨t, ?_, b⟩
  jvm_step XX.here [XX.here.top, ↓top_set XX.here.top, hx, hb, hd, hg, e1]
  exact a
theorem g_inc9 {Lw : gL} {l : Launch} {X : gC} {cc : ByteArray} {own : String} {dd ca sa k n pc : Nat} {st : List Value} {σ : Mem} {a0 a1 a2 a3 a4 a5 a6 a7 a8 : Option Value} {r : List (Option Value)} {x : Int32} {z : Int} (v : Int32) (hC : gOk Lw l X cc own dd ca sa) (hd : decode cc pc = .ok (.iinc 9 z, 3)) (hv : Int32.ofInt z = v) (hp : g1 a8 = true) (kk : G Lw X k n (pc + 3) (a0 :: a1 :: a2 :: a3 :: a4 :: a5 :: a6 :: a7 :: a8 :: some (.int (x + v)) :: r) st σ) : G Lw X k n pc (a0 :: a1 :: a2 :: a3 :: a4 :: a5 :: a6 :: a7 :: a8 :: some (.int x) :: r) st σ := by
  obtain ⟨p, l', e, R, s, m, args, below, meth, c, nL, H0, A, E, Q⟩ := X
  obtain ⟨hx, hb, hml, hown, hTB, hK, hD, hA, hR, hlocks, rfl, hh0, hNs⟩ := hC
  subst hv
  intro H locs arr hn hP hS hl T hT XX
  obtain ⟨arr1, e1, hl1⟩ := lv_store1 (v := .int (x + Int32.ofInt z)) hl (show 9 < nL by rw [← hn]; simp only [List.length_cons]; omega) rfl
  have hg := g_loc hl 9 rfl
  obtain ⟨t, a, b⟩ := kk H locs arr1 hn hP hS (g_fil1 hl1 (fun j hj w hw => g1_spec hp w (by obtain rfl : j = 8 := (by omega); exact Option.some.inj hw))) T hT XX
  refine ⟨t, ?_, b⟩
  jvm_step XX.here [XX.here.top, ↓top_set XX.here.top, hx, hb, hd, hg, e1]
  exact a
theorem g_inc10 {Lw : gL} {l : Launch} {X : gC} {cc : ByteArray} {own : String} {dd ca sa k n pc : Nat} {st : List Value} {σ : Mem} {a0 a1 a2 a3 a4 a5 a6 a7 a8 a9 : Option Value} {r : List (Option Value)} {x : Int32} {z : Int} (v : Int32) (hC : gOk Lw l X cc own dd ca sa) (hd : decode cc pc = .ok (.iinc 10 z, 3)) (hv : Int32.ofInt z = v) (hp : g1 a9 = true) (kk : G Lw X k n (pc + 3) (a0 :: a1 :: a2 :: a3 :: a4 :: a5 :: a6 :: a7 :: a8 :: a9 :: some (.int (x + v)) :: r) st σ) : G Lw X k n pc (a0 :: a1 :: a2 :: a3 :: a4 :: a5 :: a6 :: a7 :: a8 :: a9 :: some (.int x) :: r) st σ := by
  obtain ⟨p, l', e, R, s, m, args, below, meth, c, nL, H0, A, E, Q⟩ := X
  obtain ⟨hx, hb, hml, hown, hTB, hK, hD, hA, hR, hlocks, rfl, hh0, hNs⟩ := hC
  subst hv
  intro H locs arr hn hP hS hl T hT XX
  obtain ⟨arr1, e1, hl1⟩ := lv_store1 (v := .int (x + Int32.ofInt z)) hl (show 10 < nL by rw [← hn]; simp only [List.length_cons]; omega) rfl
  have hg := g_loc hl 10 rfl
  obtain ⟨t, a, b⟩ := kk H locs arr1 hn hP hS (g_fil1 hl1 (fun j hj w hw => g1_spec hp w (by obtain rfl : j = 9 := (by omega); exact Option.some.inj hw))) T hT XX
  refine ⟨t, ?_, b⟩
  jvm_step XX.here [XX.here.top, ↓top_set XX.here.top, hx, hb, hd, hg, e1]
  exact a
theorem g_inc11 {Lw : gL} {l : Launch} {X : gC} {cc : ByteArray} {own : String} {dd ca sa k n pc : Nat} {st : List Value} {σ : Mem} {a0 a1 a2 a3 a4 a5 a6 a7 a8 a9 a10 : Option Value} {r : List (Option Value)} {x : Int32} {z : Int} (v : Int32) (hC : gOk Lw l X cc own dd ca sa) (hd : decode cc pc = .ok (.iinc 11 z, 3)) (hv : Int32.ofInt z = v) (hp : g1 a10 = true) (kk : G Lw X k n (pc + 3) (a0 :: a1 :: a2 :: a3 :: a4 :: a5 :: a6 :: a7 :: a8 :: a9 :: a10 :: some (.int (x + v)) :: r) st σ) : G Lw X k n pc (a0 :: a1 :: a2 :: a3 :: a4 :: a5 :: a6 :: a7 :: a8 :: a9 :: a10 :: some (.int x) :: r) st σ := by
  obtain ⟨p, l', e, R, s, m, args, below, meth, c, nL, H0, A, E, Q⟩ := X
  obtain ⟨hx, hb, hml, hown, hTB, hK, hD, hA, hR, hlocks, rfl, hh0, hNs⟩ := hC
  subst hv
  intro H locs arr hn hP hS hl T hT XX
  obtain ⟨arr1, e1, hl1⟩ := lv_store1 (v := .int (x + Int32.ofInt z)) hl (show 11 < nL by rw [← hn]; simp only [List.length_cons]; omega) rfl
  have hg := g_loc hl 11 rfl
  obtain ⟨t, a, b⟩ := kk H locs arr1 hn hP hS (g_fil1 hl1 (fun j hj w hw => g1_spec hp w (by obtain rfl : j = 10 := (by omega); exact Option.some.inj hw))) T hT XX
  refine ⟨t, ?_, b⟩
  jvm_step XX.here [XX.here.top, ↓top_set XX.here.top, hx, hb, hd, hg, e1]
  exact a
theorem g_inc12 {Lw : gL} {l : Launch} {X : gC} {cc : ByteArray} {own : String} {dd ca sa k n pc : Nat} {st : List Value} {σ : Mem} {a0 a1 a2 a3 a4 a5 a6 a7 a8 a9 a10 a11 : Option Value} {r : List (Option Value)} {x : Int32} {z : Int} (v : Int32) (hC : gOk Lw l X cc own dd ca sa) (hd : decode cc pc = .ok (.iinc 12 z, 3)) (hv : Int32.ofInt z = v) (hp : g1 a11 = true) (kk : G Lw X k n (pc + 3) (a0 :: a1 :: a2 :: a3 :: a4 :: a5 :: a6 :: a7 :: a8 :: a9 :: a10 :: a11 :: some (.int (x + v)) :: r) st σ) : G Lw X k n pc (a0 :: a1 :: a2 :: a3 :: a4 :: a5 :: a6 :: a7 :: a8 :: a9 :: a10 :: a11 :: some (.int x) :: r) st σ := by
  obtain ⟨p, l', e, R, s, m, args, below, meth, c, nL, H0, A, E, Q⟩ := X
  obtain ⟨hx, hb, hml, hown, hTB, hK, hD, hA, hR, hlocks, rfl, hh0, hNs⟩ := hC
  subst hv
  intro H locs arr hn hP hS hl T hT XX
  obtain ⟨arr1, e1, hl1⟩ := lv_store1 (v := .int (x + Int32.ofInt z)) hl (show 12 < nL by rw [← hn]; simp only [List.length_cons]; omega) rfl
  have hg := g_loc hl 12 rfl
  obtain ⟨t, a, b⟩ := kk H locs arr1 hn hP hS (g_fil1 hl1 (fun j hj w hw => g1_spec hp w (by obtain rfl : j = 11 := (by omega); exact Option.some.inj hw))) T hT XX
  refine ⟨t, ?_, b⟩
  jvm_step XX.here [XX.here.top, ↓top_set XX.here.top, hx, hb, hd, hg, e1]
  exact a
theorem g_inc13 {Lw : gL} {l : Launch} {X : gC} {cc : ByteArray} {own : String} {dd ca sa k n pc : Nat} {st : List Value} {σ : Mem} {a0 a1 a2 a3 a4 a5 a6 a7 a8 a9 a10 a11 a12 : Option Value} {r : List (Option Value)} {x : Int32} {z : Int} (v : Int32) (hC : gOk Lw l X cc own dd ca sa) (hd : decode cc pc = .ok (.iinc 13 z, 3)) (hv : Int32.ofInt z = v) (hp : g1 a12 = true) (kk : G Lw X k n (pc + 3) (a0 :: a1 :: a2 :: a3 :: a4 :: a5 :: a6 :: a7 :: a8 :: a9 :: a10 :: a11 :: a12 :: some (.int (x + v)) :: r) st σ) : G Lw X k n pc (a0 :: a1 :: a2 :: a3 :: a4 :: a5 :: a6 :: a7 :: a8 :: a9 :: a10 :: a11 :: a12 :: some (.int x) :: r) st σ := by
  obtain ⟨p, l', e, R, s, m, args, below, meth, c, nL, H0, A, E, Q⟩ := X
  obtain ⟨hx, hb, hml, hown, hTB, hK, hD, hA, hR, hlocks, rfl, hh0, hNs⟩ := hC
  subst hv
  intro H locs arr hn hP hS hl T hT XX
  obtain ⟨arr1, e1, hl1⟩ := lv_store1 (v := .int (x + Int32.ofInt z)) hl (show 13 < nL by rw [← hn]; simp only [List.length_cons]; omega) rfl
  have hg := g_loc hl 13 rfl
  obtain ⟨t, a, b⟩ := kk H locs arr1 hn hP hS (g_fil1 hl1 (fun j hj w hw => g1_spec hp w (by obtain rfl : j = 12 := (by omega); exact Option.some.inj hw))) T hT XX
  refine ⟨t, ?_, b⟩
  jvm_step XX.here [XX.here.top, ↓top_set XX.here.top, hx, hb, hd, hg, e1]
  exact a
theorem g_icmp_eq {Lw : gL} {l : Launch} {X : gC} {cc : ByteArray} {own : String} {dd ca sa k n pc : Nat} {ls : List (Option Value)} {st : List Value} {σ : Mem} {x y : Int32} {off : Int} (tgt : Nat) (hC : gOk Lw l X cc own dd ca sa) (hd : decode cc pc = .ok (.if_icmp .eq off, 3)) (ht : (pc : Int) + off = (tgt : Int)) (kt : x = y → G Lw X k n tgt ls st σ) (kf : ¬ (x = y) → G Lw X k n (pc + 3) ls st σ) : G Lw X k n pc ls (.int y :: .int x :: st) σ := by
  obtain ⟨p, l', e, R, s, m, args, below, meth, c, nL, H0, A, E, Q⟩ := X
  obtain ⟨hx, hb, hml, hown, hTB, hK, hD, hA, hR, hlocks, rfl, hh0, hNs⟩ := hC
  exact fun H locs arr hn hP hS hl => lv_icmp_eq hx hb hd ht (fun h => kt h H locs arr hn hP hS hl) (fun h => kf h H locs arr hn hP hS hl)
theorem g_if_eq {Lw : gL} {l : Launch} {X : gC} {cc : ByteArray} {own : String} {dd ca sa k n pc : Nat} {ls : List (Option Value)} {st : List Value} {σ : Mem} {x : Int32} {off : Int} (tgt : Nat) (hC : gOk Lw l X cc own dd ca sa) (hd : decode cc pc = .ok (.ifCond .eq off, 3)) (ht : (pc : Int) + off = (tgt : Int)) (kt : x = 0 → G Lw X k n tgt ls st σ) (kf : ¬ (x = 0) → G Lw X k n (pc + 3) ls st σ) : G Lw X k n pc ls (.int x :: st) σ := by
  obtain ⟨p, l', e, R, s, m, args, below, meth, c, nL, H0, A, E, Q⟩ := X
  obtain ⟨hx, hb, hml, hown, hTB, hK, hD, hA, hR, hlocks, rfl, hh0, hNs⟩ := hC
  exact fun H locs arr hn hP hS hl => lv_if_eq hx hb hd ht (fun h => kt h H locs arr hn hP hS hl) (fun h => kf h H locs arr hn hP hS hl)
theorem g_icmp_ne {Lw : gL} {l : Launch} {X : gC} {cc : ByteArray} {own : String} {dd ca sa k n pc : Nat} {ls : List (Option Value)} {st : List Value} {σ : Mem} {x y : Int32} {off : Int} (tgt : Nat) (hC : gOk Lw l X cc own dd ca sa) (hd : decode cc pc = .ok (.if_icmp .ne off, 3)) (ht : (pc : Int) + off = (tgt : Int)) (kt : x ≠ y → G Lw X k n tgt ls st σ) (kf : x = y → G Lw X k n (pc + 3) ls st σ) : G Lw X k n pc ls (.int y :: .int x :: st) σ := by
  obtain ⟨p, l', e, R, s, m, args, below, meth, c, nL, H0, A, E, Q⟩ := X
  obtain ⟨hx, hb, hml, hown, hTB, hK, hD, hA, hR, hlocks, rfl, hh0, hNs⟩ := hC
  exact fun H locs arr hn hP hS hl => lv_icmp_ne hx hb hd ht (fun h => kt h H locs arr hn hP hS hl) (fun h => kf h H locs arr hn hP hS hl)
theorem g_if_ne {Lw : gL} {l : Launch} {X : gC} {cc : ByteArray} {own : String} {dd ca sa k n pc : Nat} {ls : List (Option Value)} {st : List Value} {σ : Mem} {x : Int32} {off : Int} (tgt : Nat) (hC : gOk Lw l X cc own dd ca sa) (hd : decode cc pc = .ok (.ifCond .ne off, 3)) (ht : (pc : Int) + off = (tgt : Int)) (kt : x ≠ 0 → G Lw X k n tgt ls st σ) (kf : x = 0 → G Lw X k n (pc + 3) ls st σ) : G Lw X k n pc ls (.int x :: st) σ := by
  obtain ⟨p, l', e, R, s, m, args, below, meth, c, nL, H0, A, E, Q⟩ := X
  obtain ⟨hx, hb, hml, hown, hTB, hK, hD, hA, hR, hlocks, rfl, hh0, hNs⟩ := hC
  exact fun H locs arr hn hP hS hl => lv_if_ne hx hb hd ht (fun h => kt h H locs arr hn hP hS hl) (fun h => kf h H locs arr hn hP hS hl)
theorem g_icmp_lt {Lw : gL} {l : Launch} {X : gC} {cc : ByteArray} {own : String} {dd ca sa k n pc : Nat} {ls : List (Option Value)} {st : List Value} {σ : Mem} {x y : Int32} {off : Int} (tgt : Nat) (hC : gOk Lw l X cc own dd ca sa) (hd : decode cc pc = .ok (.if_icmp .lt off, 3)) (ht : (pc : Int) + off = (tgt : Int)) (kt : x < y → G Lw X k n tgt ls st σ) (kf : ¬ (x < y) → G Lw X k n (pc + 3) ls st σ) : G Lw X k n pc ls (.int y :: .int x :: st) σ := by
  obtain ⟨p, l', e, R, s, m, args, below, meth, c, nL, H0, A, E, Q⟩ := X
  obtain ⟨hx, hb, hml, hown, hTB, hK, hD, hA, hR, hlocks, rfl, hh0, hNs⟩ := hC
  exact fun H locs arr hn hP hS hl => lv_icmp_lt hx hb hd ht (fun h => kt h H locs arr hn hP hS hl) (fun h => kf h H locs arr hn hP hS hl)
theorem g_if_lt {Lw : gL} {l : Launch} {X : gC} {cc : ByteArray} {own : String} {dd ca sa k n pc : Nat} {ls : List (Option Value)} {st : List Value} {σ : Mem} {x : Int32} {off : Int} (tgt : Nat) (hC : gOk Lw l X cc own dd ca sa) (hd : decode cc pc = .ok (.ifCond .lt off, 3)) (ht : (pc : Int) + off = (tgt : Int)) (kt : x < 0 → G Lw X k n tgt ls st σ) (kf : ¬ (x < 0) → G Lw X k n (pc + 3) ls st σ) : G Lw X k n pc ls (.int x :: st) σ := by
  obtain ⟨p, l', e, R, s, m, args, below, meth, c, nL, H0, A, E, Q⟩ := X
  obtain ⟨hx, hb, hml, hown, hTB, hK, hD, hA, hR, hlocks, rfl, hh0, hNs⟩ := hC
  exact fun H locs arr hn hP hS hl => lv_if_lt hx hb hd ht (fun h => kt h H locs arr hn hP hS hl) (fun h => kf h H locs arr hn hP hS hl)
theorem g_icmp_ge {Lw : gL} {l : Launch} {X : gC} {cc : ByteArray} {own : String} {dd ca sa k n pc : Nat} {ls : List (Option Value)} {st : List Value} {σ : Mem} {x y : Int32} {off : Int} (tgt : Nat) (hC : gOk Lw l X cc own dd ca sa) (hd : decode cc pc = .ok (.if_icmp .ge off, 3)) (ht : (pc : Int) + off = (tgt : Int)) (kt : y ≤ x → G Lw X k n tgt ls st σ) (kf : ¬ (y ≤ x) → G Lw X k n (pc + 3) ls st σ) : G Lw X k n pc ls (.int y :: .int x :: st) σ := by
  obtain ⟨p, l', e, R, s, m, args, below, meth, c, nL, H0, A, E, Q⟩ := X
  obtain ⟨hx, hb, hml, hown, hTB, hK, hD, hA, hR, hlocks, rfl, hh0, hNs⟩ := hC
  exact fun H locs arr hn hP hS hl => lv_icmp_ge hx hb hd ht (fun h => kt h H locs arr hn hP hS hl) (fun h => kf h H locs arr hn hP hS hl)
theorem g_if_ge {Lw : gL} {l : Launch} {X : gC} {cc : ByteArray} {own : String} {dd ca sa k n pc : Nat} {ls : List (Option Value)} {st : List Value} {σ : Mem} {x : Int32} {off : Int} (tgt : Nat) (hC : gOk Lw l X cc own dd ca sa) (hd : decode cc pc = .ok (.ifCond .ge off, 3)) (ht : (pc : Int) + off = (tgt : Int)) (kt : 0 ≤ x → G Lw X k n tgt ls st σ) (kf : ¬ (0 ≤ x) → G Lw X k n (pc + 3) ls st σ) : G Lw X k n pc ls (.int x :: st) σ := by
  obtain ⟨p, l', e, R, s, m, args, below, meth, c, nL, H0, A, E, Q⟩ := X
  obtain ⟨hx, hb, hml, hown, hTB, hK, hD, hA, hR, hlocks, rfl, hh0, hNs⟩ := hC
  exact fun H locs arr hn hP hS hl => lv_if_ge hx hb hd ht (fun h => kt h H locs arr hn hP hS hl) (fun h => kf h H locs arr hn hP hS hl)
theorem g_icmp_gt {Lw : gL} {l : Launch} {X : gC} {cc : ByteArray} {own : String} {dd ca sa k n pc : Nat} {ls : List (Option Value)} {st : List Value} {σ : Mem} {x y : Int32} {off : Int} (tgt : Nat) (hC : gOk Lw l X cc own dd ca sa) (hd : decode cc pc = .ok (.if_icmp .gt off, 3)) (ht : (pc : Int) + off = (tgt : Int)) (kt : y < x → G Lw X k n tgt ls st σ) (kf : ¬ (y < x) → G Lw X k n (pc + 3) ls st σ) : G Lw X k n pc ls (.int y :: .int x :: st) σ := by
  obtain ⟨p, l', e, R, s, m, args, below, meth, c, nL, H0, A, E, Q⟩ := X
  obtain ⟨hx, hb, hml, hown, hTB, hK, hD, hA, hR, hlocks, rfl, hh0, hNs⟩ := hC
  exact fun H locs arr hn hP hS hl => lv_icmp_gt hx hb hd ht (fun h => kt h H locs arr hn hP hS hl) (fun h => kf h H locs arr hn hP hS hl)
theorem g_if_gt {Lw : gL} {l : Launch} {X : gC} {cc : ByteArray} {own : String} {dd ca sa k n pc : Nat} {ls : List (Option Value)} {st : List Value} {σ : Mem} {x : Int32} {off : Int} (tgt : Nat) (hC : gOk Lw l X cc own dd ca sa) (hd : decode cc pc = .ok (.ifCond .gt off, 3)) (ht : (pc : Int) + off = (tgt : Int)) (kt : 0 < x → G Lw X k n tgt ls st σ) (kf : ¬ (0 < x) → G Lw X k n (pc + 3) ls st σ) : G Lw X k n pc ls (.int x :: st) σ := by
  obtain ⟨p, l', e, R, s, m, args, below, meth, c, nL, H0, A, E, Q⟩ := X
  obtain ⟨hx, hb, hml, hown, hTB, hK, hD, hA, hR, hlocks, rfl, hh0, hNs⟩ := hC
  exact fun H locs arr hn hP hS hl => lv_if_gt hx hb hd ht (fun h => kt h H locs arr hn hP hS hl) (fun h => kf h H locs arr hn hP hS hl)
theorem g_icmp_le {Lw : gL} {l : Launch} {X : gC} {cc : ByteArray} {own : String} {dd ca sa k n pc : Nat} {ls : List (Option Value)} {st : List Value} {σ : Mem} {x y : Int32} {off : Int} (tgt : Nat) (hC : gOk Lw l X cc own dd ca sa) (hd : decode cc pc = .ok (.if_icmp .le off, 3)) (ht : (pc : Int) + off = (tgt : Int)) (kt : x ≤ y → G Lw X k n tgt ls st σ) (kf : ¬ (x ≤ y) → G Lw X k n (pc + 3) ls st σ) : G Lw X k n pc ls (.int y :: .int x :: st) σ := by
  obtain ⟨p, l', e, R, s, m, args, below, meth, c, nL, H0, A, E, Q⟩ := X
  obtain ⟨hx, hb, hml, hown, hTB, hK, hD, hA, hR, hlocks, rfl, hh0, hNs⟩ := hC
  exact fun H locs arr hn hP hS hl => lv_icmp_le hx hb hd ht (fun h => kt h H locs arr hn hP hS hl) (fun h => kf h H locs arr hn hP hS hl)
theorem g_if_le {Lw : gL} {l : Launch} {X : gC} {cc : ByteArray} {own : String} {dd ca sa k n pc : Nat} {ls : List (Option Value)} {st : List Value} {σ : Mem} {x : Int32} {off : Int} (tgt : Nat) (hC : gOk Lw l X cc own dd ca sa) (hd : decode cc pc = .ok (.ifCond .le off, 3)) (ht : (pc : Int) + off = (tgt : Int)) (kt : x ≤ 0 → G Lw X k n tgt ls st σ) (kf : ¬ (x ≤ 0) → G Lw X k n (pc + 3) ls st σ) : G Lw X k n pc ls (.int x :: st) σ := by
  obtain ⟨p, l', e, R, s, m, args, below, meth, c, nL, H0, A, E, Q⟩ := X
  obtain ⟨hx, hb, hml, hown, hTB, hK, hD, hA, hR, hlocks, rfl, hh0, hNs⟩ := hC
  exact fun H locs arr hn hP hS hl => lv_if_le hx hb hd ht (fun h => kt h H locs arr hn hP hS hl) (fun h => kf h H locs arr hn hP hS hl)
theorem g_goto {Lw : gL} {l : Launch} {X : gC} {cc : ByteArray} {own : String} {dd ca sa k n pc : Nat} {ls : List (Option Value)} {st : List Value} {σ : Mem} {off : Int} (tgt : Nat) (hC : gOk Lw l X cc own dd ca sa) (hd : decode cc pc = .ok (.goto off, 3)) (ht : (pc : Int) + off = (tgt : Int)) (kk : G Lw X k n tgt ls st σ) : G Lw X k n pc ls st σ := by
  obtain ⟨p, l', e, R, s, m, args, below, meth, c, nL, H0, A, E, Q⟩ := X
  obtain ⟨hx, hb, hml, hown, hTB, hK, hD, hA, hR, hlocks, rfl, hh0, hNs⟩ := hC
  exact fun H locs arr hn hP hS hl => lv_goto hx hb hd ht (kk H locs arr hn hP hS hl)
theorem g_tin {Lw : gL} {l : Launch} {X : gC} {cc : ByteArray} {own : String} {dd ca sa k n pc : Nat} {ls : List (Option Value)} {st : List Value} {σ : Mem} {x : Int32} {dflt lo hi off : Int} {offs : Array Int} {len : Nat} (tgt : Nat) (hC : gOk Lw l X cc own dd ca sa) (hd : decode cc pc = .ok (.tableswitch dflt lo hi offs, len)) (h1 : ¬ x.toInt < lo) (h2 : ¬ hi < x.toInt) (ho : offs[(x.toInt - lo).toNat]? = some off) (ht : (pc : Int) + off = (tgt : Int)) (kk : G Lw X k n tgt ls st σ) : G Lw X k n pc ls (.int x :: st) σ := by
  obtain ⟨p, l', e, R, s, m, args, below, meth, c, nL, H0, A, E, Q⟩ := X
  obtain ⟨hx, hb, hml, hown, hTB, hK, hD, hA, hR, hlocks, rfl, hh0, hNs⟩ := hC
  exact fun H locs arr hn hP hS hl => lv_tableIn hx hb hd h1 h2 ho ht (kk H locs arr hn hP hS hl)
theorem g_tout {Lw : gL} {l : Launch} {X : gC} {cc : ByteArray} {own : String} {dd ca sa k n pc : Nat} {ls : List (Option Value)} {st : List Value} {σ : Mem} {x : Int32} {dflt lo hi : Int} {offs : Array Int} {len : Nat} (tgt : Nat) (hC : gOk Lw l X cc own dd ca sa) (hd : decode cc pc = .ok (.tableswitch dflt lo hi offs, len)) (h : x.toInt < lo ∨ hi < x.toInt) (ht : (pc : Int) + dflt = (tgt : Int)) (kk : G Lw X k n tgt ls st σ) : G Lw X k n pc ls (.int x :: st) σ := by
  obtain ⟨p, l', e, R, s, m, args, below, meth, c, nL, H0, A, E, Q⟩ := X
  obtain ⟨hx, hb, hml, hown, hTB, hK, hD, hA, hR, hlocks, rfl, hh0, hNs⟩ := hC
  exact fun H locs arr hn hP hS hl => lv_tableOut hx hb hd h ht (kk H locs arr hn hP hS hl)
theorem g_look {Lw : gL} {l : Launch} {X : gC} {cc : ByteArray} {own : String} {dd ca sa k n pc : Nat} {ls : List (Option Value)} {st : List Value} {σ : Mem} {x : Int32} {dflt off : Int} {ps : Array (Int × Int)} {len : Nat} (tgt : Nat) (hC : gOk Lw l X cc own dd ca sa) (hd : decode cc pc = .ok (.lookupswitch dflt ps, len)) (hp : (ps.toList.zip (ps.toList.drop 1)).all (fun (a, next) => a.1 < next.1) = true) (ho : Op.lookupswitch.offset ps.toList dflt x.toInt = off) (ht : (pc : Int) + off = (tgt : Int)) (kk : G Lw X k n tgt ls st σ) : G Lw X k n pc ls (.int x :: st) σ := by
  obtain ⟨p, l', e, R, s, m, args, below, meth, c, nL, H0, A, E, Q⟩ := X
  obtain ⟨hx, hb, hml, hown, hTB, hK, hD, hA, hR, hlocks, rfl, hh0, hNs⟩ := hC
  exact fun H locs arr hn hP hS hl => lv_lookup hx hb hd hp ho ht (kk H locs arr hn hP hS hl)
theorem g_ldc2 {Lw : gL} {l : Launch} {X : gC} {cc : ByteArray} {own : String} {dd ca sa k n pc : Nat} {ls : List (Option Value)} {st : List Value} {σ : Mem} {index : Nat} {v : Int64} (hC : gOk Lw l X cc own dd ca sa) (hc : Cond.constantLong own index v ∈ TB) (hd : decode cc pc = .ok (.ldc2_w index, 3)) (kk : G Lw X k n (pc + 3) ls (.long v :: st) σ) : G Lw X k n pc ls st σ := by
  obtain ⟨p, l', e, R, s, m, args, below, meth, c, nL, H0, A, E, Q⟩ := X
  obtain ⟨hx, hb, hml, hown, hTB, hK, hD, hA, hR, hlocks, rfl, hh0, hNs⟩ := hC
  exact fun H locs arr hn hP hS hl => lv_ldc2 hx hb hown (hTB _ hc) hd (kk H locs arr hn hP hS hl)
theorem g_forget {Lw : gL} {X : gC} {k n pc : Nat} {ls ls1 : List (Option Value)} {st : List Value} {σ : Mem} (h : ls1.length = ls.length) (h1 : ∀ (j : Nat) (v : Value), ls1[j]? = some (some v) → ls[j]? = some (some v)) (kk : G Lw X k n pc ls1 st σ) : G Lw X k n pc ls st σ := by
  obtain ⟨p, l', e, R, s, m, args, below, meth, c, nL, H0, A, E, Q⟩ := X
  exact fun H locs arr hn hP hS hl => kk H locs arr (h.trans hn) hP hS ⟨hl.1, hl.2.1, fun q hq => by
    obtain ⟨j, e1, e2⟩ := (gl_mem _ _ _).mp hq
    exact hl.2.2 q ((gl_mem _ _ _).mpr ⟨j, e1, h1 j _ e2⟩)⟩
def gfg : List Bool → List (Option Value) → List (Option Value)
  | [], ls => ls
  | _, [] => []
  | true :: b, o :: r => o :: gfg b r
  | false :: b, _ :: r => none :: gfg b r
theorem gfg_len : ∀ (b : List Bool) (ls : List (Option Value)), (gfg b ls).length = ls.length := by
  intro b
  induction b with
  | nil => intro ls; cases ls <;> rfl
  | cons t b ih =>
    intro ls
    cases ls with
    | nil => cases t <;> rfl
    | cons o r => cases t <;> simp [gfg, ih r]
theorem gfg_at : ∀ (b : List Bool) (ls : List (Option Value)) (j : Nat) (v : Value), (gfg b ls)[j]? = some (some v) → ls[j]? = some (some v) := by
  intro b
  induction b with
  | nil => intro ls j v h; cases ls <;> exact h
  | cons t b ih =>
    intro ls j v h
    cases ls with
    | nil => cases t <;> exact h
    | cons o r =>
      cases t with
      | true =>
        cases j with
        | zero => exact h
        | succ j => exact ih r j v (by simpa [gfg] using h)
      | false =>
        cases j with
        | zero => simp [gfg] at h
        | succ j => exact ih r j v (by simpa [gfg] using h)
/-- only the locals with true are kept -/
theorem g_keep {Lw : gL} {X : gC} {k n pc : Nat} {ls : List (Option Value)} {st : List Value} {σ : Mem} (b : List Bool) (kk : G Lw X k n pc (gfg b ls) st σ) : G Lw X k n pc ls st σ := g_forget (gfg_len b ls) (gfg_at b ls) kk

theorem g_get {Lw : gL} {l : Launch} {X : gC} {cc : ByteArray} {own : String} {dd ca sa k n pc : Nat} {ls : List (Option Value)} {st : List Value} {σ : Mem} {C : String} {T : u_T} {N ci i index : Nat} {fs : List Value} {v : Value} (hC : gOk Lw l X cc own dd ca sa) (hin : ∀ w ∈ u_ws C T N, w ∈ TB) (hc : vwCl[ci]? = some (C, T, N)) (hi : i < Lw.1) (he : Lw.2 (gEv X) (σ i) i = .inr (ci, fs)) (j : Nat) (hj : j < N) (hlk : Cond.fieldLink own index (T j).1 (T j).2.1 (T j).2.2.1 ∈ TB) (hv : fs[j]? = some v) (hd : decode cc pc = .ok (.getfield index, 3)) (kk : G Lw X k n (pc + 3) ls (v :: st) σ) : G Lw X k n pc ls (.ref (gA X i) :: st) σ := by
  obtain ⟨p, l', e, R, s, m, args, below, meth, c, nL, H0, A, E, Q⟩ := X
  obtain ⟨hx, hb, hml, hown, hTB, hK, hD, hA, hR, hlocks, rfl, hh0, hNs⟩ := hC
  exact fun H locs arr hn hP hS hl => va_get (D := E.1) (ci := ci) (v := v) (C := C) (T := T) (N := N) hx hb hTB hin hown hK hP i (fs := fs) (by rw [gW_at _ _ _ hi]; exact congrArg (fun z => some (E.2.1 i, z)) he) hc j hj (hTB _ hlk) (fun _ h9 => h9) hv hd (kk H locs arr hn hP hS hl)
theorem g_put {Lw : gL} {l : Launch} {X : gC} {cc : ByteArray} {own : String} {dd ca sa k n pc : Nat} {ls : List (Option Value)} {st : List Value} {σ : Mem} {C : String} {T : u_T} {N ci i index : Nat} {fs : List Value} {v : Value} {ty : FieldType} {x : Int32} (ty0 : Nat → FieldType) (hC : gOk Lw l X cc own dd ca sa) (hin : ∀ w ∈ u_ws C T N, w ∈ TB) (hty : ∀ k, k < N → parseFieldDescriptor (T k).2.2.1 = some (ty0 k)) (hnm : ∀ a, a < N → ∀ b, b < N → a ≠ b → (T a).2.1 ≠ (T b).2.1) (hc : vwCl[ci]? = some (C, T, N)) (hi : i < Lw.1) (he : Lw.2 (gEv X) (σ i) i = .inr (ci, fs)) (j : Nat) (hj : j < N) (hlk : Cond.fieldLink own index (T j).1 (T j).2.1 (T j).2.2.1 ∈ TB) (hfin : (T j).2.2.2 = false) (hpd : parseFieldDescriptor (T j).2.2.1 = some ty) (hna : narrow ty v = v) (hfit : fits ty v = true) (hl0 : j < fs.length) (he1 : Lw.2 (gEv X) (upd (σ i) j x) i = .inr (ci, fs.set j v)) (hd : decode cc pc = .ok (.putfield index, 3)) (kk : G Lw X k n (pc + 3) ls st (upd2 σ i j x)) : G Lw X k n pc ls (v :: .ref (gA X i) :: st) σ := by
  obtain ⟨p, l', e, R, s, m, args, below, meth, c, nL, H0, A, E, Q⟩ := X
  obtain ⟨hx, hb, hml, hown, hTB, hK, hD, hA, hR, hlocks, rfl, hh0, hNs⟩ := hC
  have he2 : Lw.2 E (upd (σ i) j x) i = .inr (ci, fs.set j v) := he1
  exact fun H locs arr hn hP hS hl => va_put (D := E.1) (ci := ci) (v := v) (ty := ty) (C := C) (T := T) (N := N) hx hb hTB hin ty0 hty hnm hown hK hP (hD σ) hS i (fs := fs) (by rw [gW_at _ _ _ hi]; exact congrArg (fun z => some (E.2.1 i, z)) he) hc j hj (hTB _ hlk) (fun _ h9 => h9) hfin hpd hna hfit hl0 hd (fun H1 locs1 hP1 _ hS1 => kk H1 locs1 arr hn (by rw [← gW_set hi he2]; exact hP1) hS1 hl)
theorem g_iald {Lw : gL} {l : Launch} {X : gC} {cc : ByteArray} {own : String} {dd ca sa k n pc : Nat} {ls : List (Option Value)} {st : List Value} {σ : Mem} {i N j : Nat} {f : Nat → Int32} {x : Int32} (hC : gOk Lw l X cc own dd ca sa) (hi : i < Lw.1) (he : Lw.2 (gEv X) (σ i) i = .inl ((gEv X).2.2 0, N, .inl f)) (hx0 : x = nI j) (hj : j < N) (hN : N < 2 ^ 31) (hd : decode cc pc = .ok (.iaload, 1)) (kk : G Lw X k n (pc + 1) ls (.int (f j) :: st) σ) : G Lw X k n pc ls (.int x :: .ref (gA X i) :: st) σ := by
  obtain ⟨p, l', e, R, s, m, args, below, meth, c, nL, H0, A, E, Q⟩ := X
  obtain ⟨hx, hb, hml, hown, hTB, hK, hD, hA, hR, hlocks, rfl, hh0, hNs⟩ := hC
  subst hx0
  have hcl : (nI j).toNatClampNeg = j := nI_clamp (by omega)
  exact fun H locs arr hn hP hS hl => va_iald hx hb hK hP i 0 (n := N) (f := f) (by rw [gW_at _ _ _ hi]; exact congrArg (fun z => some (E.2.1 i, z)) he) rfl (vp_in_nI hj hN) hd (by rw [hcl]; exact kk H locs arr hn hP hS hl)
theorem g_zald {Lw : gL} {l : Launch} {X : gC} {cc : ByteArray} {own : String} {dd ca sa k n pc : Nat} {ls : List (Option Value)} {st : List Value} {σ : Mem} {i N j : Nat} {f : Nat → Int32} {x : Int32} (hC : gOk Lw l X cc own dd ca sa) (hi : i < Lw.1) (he : Lw.2 (gEv X) (σ i) i = .inl ((gEv X).2.2 1, N, .inl f)) (hx0 : x = nI j) (hj : j < N) (hN : N < 2 ^ 31) (hd : decode cc pc = .ok (.baload, 1)) (kk : G Lw X k n (pc + 1) ls (.int (f j) :: st) σ) : G Lw X k n pc ls (.int x :: .ref (gA X i) :: st) σ := by
  obtain ⟨p, l', e, R, s, m, args, below, meth, c, nL, H0, A, E, Q⟩ := X
  obtain ⟨hx, hb, hml, hown, hTB, hK, hD, hA, hR, hlocks, rfl, hh0, hNs⟩ := hC
  subst hx0
  have hcl : (nI j).toNatClampNeg = j := nI_clamp (by omega)
  exact fun H locs arr hn hP hS hl => va_zald hx hb hK hP i 1 (n := N) (f := f) (by rw [gW_at _ _ _ hi]; exact congrArg (fun z => some (E.2.1 i, z)) he) rfl (vp_in_nI hj hN) hd (by rw [hcl]; exact kk H locs arr hn hP hS hl)
theorem g_iast {Lw : gL} {l : Launch} {X : gC} {cc : ByteArray} {own : String} {dd ca sa k n pc : Nat} {ls : List (Option Value)} {st : List Value} {σ : Mem} {i N j : Nat} {f : Nat → Int32} {x y : Int32} (hC : gOk Lw l X cc own dd ca sa) (hi : i < Lw.1) (he : Lw.2 (gEv X) (σ i) i = .inl ((gEv X).2.2 0, N, .inl f)) (hx0 : x = nI j) (hj : j < N) (hN : N < 2 ^ 31) (he1 : Lw.2 (gEv X) (upd (σ i) j y) i = .inl ((gEv X).2.2 0, N, .inl (upd f j y))) (hd : decode cc pc = .ok (.iastore, 1)) (kk : G Lw X k n (pc + 1) ls st (upd2 σ i j y)) : G Lw X k n pc ls (.int y :: .int x :: .ref (gA X i) :: st) σ := by
  obtain ⟨p, l', e, R, s, m, args, below, meth, c, nL, H0, A, E, Q⟩ := X
  obtain ⟨hx, hb, hml, hown, hTB, hK, hD, hA, hR, hlocks, rfl, hh0, hNs⟩ := hC
  subst hx0
  have hcl : (nI j).toNatClampNeg = j := nI_clamp (by omega)
  refine fun H locs arr hn hP hS hl => va_iast hx hb hK hP (hD σ) hS i 0 (n := N) (f := f) (by rw [gW_at _ _ _ hi]; exact congrArg (fun z => some (E.2.1 i, z)) he) rfl (vp_in_nI hj hN) hd (fun H1 locs1 hP1 _ hS1 => kk H1 locs1 arr hn ?_ hS1 hl)
  have he2 : Lw.2 E (upd (σ i) j y) i = .inl (E.2.2 0, N, .inl (upd f j y)) := he1
  rw [← gW_set hi he2]
  rw [hcl] at hP1
  exact hP1
theorem g_zast {Lw : gL} {l : Launch} {X : gC} {cc : ByteArray} {own : String} {dd ca sa k n pc : Nat} {ls : List (Option Value)} {st : List Value} {σ : Mem} {i N j : Nat} {f : Nat → Int32} {x y : Int32} (hC : gOk Lw l X cc own dd ca sa) (hi : i < Lw.1) (he : Lw.2 (gEv X) (σ i) i = .inl ((gEv X).2.2 1, N, .inl f)) (hx0 : x = nI j) (hj : j < N) (hN : N < 2 ^ 31) (he1 : Lw.2 (gEv X) (upd (σ i) j (vp_nar .boolean y)) i = .inl ((gEv X).2.2 1, N, .inl (upd f j (vp_nar .boolean y)))) (hd : decode cc pc = .ok (.bastore, 1)) (kk : G Lw X k n (pc + 1) ls st (upd2 σ i j (vp_nar .boolean y))) : G Lw X k n pc ls (.int y :: .int x :: .ref (gA X i) :: st) σ := by
  obtain ⟨p, l', e, R, s, m, args, below, meth, c, nL, H0, A, E, Q⟩ := X
  obtain ⟨hx, hb, hml, hown, hTB, hK, hD, hA, hR, hlocks, rfl, hh0, hNs⟩ := hC
  subst hx0
  have hcl : (nI j).toNatClampNeg = j := nI_clamp (by omega)
  refine fun H locs arr hn hP hS hl => va_zast hx hb hK hP (hD σ) hS i 1 (n := N) (f := f) (by rw [gW_at _ _ _ hi]; exact congrArg (fun z => some (E.2.1 i, z)) he) rfl (vp_in_nI hj hN) hd (fun H1 locs1 hP1 _ hS1 => kk H1 locs1 arr hn ?_ hS1 hl)
  have he2 : Lw.2 E (upd (σ i) j (vp_nar .boolean y)) i = .inl (E.2.2 1, N, .inl (upd f j (vp_nar .boolean y))) := he1
  rw [← gW_set hi he2]
  rw [hcl] at hP1
  exact hP1
theorem g_aald {Lw : gL} {l : Launch} {X : gC} {cc : ByteArray} {own : String} {dd ca sa k n pc : Nat} {ls : List (Option Value)} {st : List Value} {σ : Mem} {i N j t0 a : Nat} {f : Nat → Option Nat} {x : Int32} {ct : String} (hC : gOk Lw l X cc own dd ca sa) (hi : i < Lw.1) (he : Lw.2 (gEv X) (σ i) i = .inl ((gEv X).2.2 t0, N, .inr (.inr (.inr (.inr f))))) (ht : ∀ cy, (gT cy)[t0]? = some (cy t0, .object ct)) (hx0 : x = nI j) (hj : j < N) (hN : N < 2 ^ 31) (hf : f j = some a) (hd : decode cc pc = .ok (.aaload, 1)) (kk : G Lw X k n (pc + 1) ls (.ref a :: st) σ) : G Lw X k n pc ls (.int x :: .ref (gA X i) :: st) σ := by
  obtain ⟨p, l', e, R, s, m, args, below, meth, c, nL, H0, A, E, Q⟩ := X
  obtain ⟨hx, hb, hml, hown, hTB, hK, hD, hA, hR, hlocks, rfl, hh0, hNs⟩ := hC
  subst hx0
  have hcl : (nI j).toNatClampNeg = j := nI_clamp (by omega)
  exact fun H locs arr hn hP hS hl => va_aldq hx hb hK hP i t0 (n := N) (f := f) (by rw [gW_at _ _ _ hi]; exact congrArg (fun z => some (E.2.1 i, z)) he) (ht _) (vp_in_nI hj hN) hd (by rw [hcl, hf]; exact kk H locs arr hn hP hS hl)
theorem g_alen {Lw : gL} {l : Launch} {X : gC} {cc : ByteArray} {own : String} {dd ca sa k n pc : Nat} {ls : List (Option Value)} {st : List Value} {σ : Mem} {i t0 N : Nat} {f : (Nat → Int32) ⊕ (Nat → Int64) ⊕ (Nat → UInt32) ⊕ (Nat → UInt64) ⊕ (Nat → Option Nat)} {ty : FieldType} (hC : gOk Lw l X cc own dd ca sa) (hi : i < Lw.1) (he : Lw.2 (gEv X) (σ i) i = .inl ((gEv X).2.2 t0, N, f)) (ht : ∀ cy, (gT cy)[t0]? = some (cy t0, ty)) (hd : decode cc pc = .ok (.arraylength, 1)) (kk : G Lw X k n (pc + 1) ls (.int (nI N) :: st) σ) : G Lw X k n pc ls (.ref (gA X i) :: st) σ := by
  obtain ⟨p, l', e, R, s, m, args, below, meth, c, nL, H0, A, E, Q⟩ := X
  obtain ⟨hx, hb, hml, hown, hTB, hK, hD, hA, hR, hlocks, rfl, hh0, hNs⟩ := hC
  exact fun H locs arr hn hP hS hl => va_alen hx hb hK hP i t0 (x := (N, f)) (by rw [gW_at _ _ _ hi]; exact congrArg (fun z => some (E.2.1 i, z)) he) (ht _) (v := nI N) rfl hd (kk H locs arr hn hP hS hl)
end
section
/-! contracts over a layout: methods that return, and methods that may throw -/
theorem gi_TB {w : Cond} (h : w ∈ TB) : w ∈ TB ∧ ((w.onTables && w.keeps) = true ∨ ∃ ty, w = .arrayClass ty) := ⟨h, good_of_word (List.mem_filter.mp h).2⟩
theorem gi_cons {w : Cond} {ws : List Cond} (h : w ∈ TB) (h2 : GoodIn TB ws) : GoodIn TB (w :: ws) := fun v hv => (List.mem_cons.mp hv).elim (fun e => by rw [e]; exact gi_TB h) (h2 v)
theorem gi_self : GoodIn TB TB := fun _ h => gi_TB h
def gPre (Lw : gL) (av : (Nat → Nat) → List Value) (E : gE) (σ : Mem) (sz : Nat) : Array Value → State → Prop :=
  va_Pc (av E.2.1) (fun U => U.heap.size = sz ∧ va_P E.1 vwCl (gW Lw E σ) U.heap ∧ va_K E.1 vwCl (gT E.2.2) U ∧ va_D (fun _ => True) (gW Lw E σ) ∧ gN U)
def gB (Lw : gL) (E : gE) : Mem → State → Prop := fun σ' t => va_P E.1 vwCl (gW Lw E σ') t.heap
theorem gPre_blind {Lw : gL} {av : (Nat → Nat) → List Value} {E : gE} {σ : Mem} {sz : Nat} : FrameBlind (gPre Lw av E σ sz) := by
  intro a U g mk q
  obtain ⟨q0, q1, qP, qK, qD, qN⟩ := q
  exact ⟨q0, q1, qP, va_K.moved (u := U) (U := U.calling g mk a) (Vm.Alike.refl U.vm) qK, qD, gN.same (u := U) (U := U.calling g mk a) rfl qN⟩

def gMI (Lw : gL) (l : Launch) (y : MethodName) (cd : Cond) (d mc ms : Nat) (av : (Nat → Nat) → List Value) (P : Mem → Prop) (Q : Mem → Int32 → Mem → Prop) : Prop :=
  ∀ (E : gE) (σ : Mem) (sz : Nat), P σ → Met l y (cd :: TB) (gR d mc ms) (gPre Lw av E σ sz) (va_Qi (Q σ) (gB Lw E) (va_A (gW Lw E σ) sz)) mc ms (va_A (gW Lw E σ) sz)
theorem gMI_of {Lw : gL} {l : Launch} {y : MethodName} {cc : ByteArray} {maxL d mc ms : Nat} {av : (Nat → Nat) → List Value} {P : Mem → Prop} {Q : Mem → Int32 → Mem → Prop} (hy : plainName y.cls = true) (hlen : ∀ A, (lg_sl (av A)).length ≤ maxL)
    (body : ∀ (X : gC) (σ : Mem), gOk Lw l X cc y.cls d mc ms → P σ → (∀ (k n pc : Nat) (ls : List (Option Value)) (r : Int32) (σ1 : Mem), decode cc pc = .ok (.ireturn, 1) → k ≤ mc → n ≤ ms → Q σ r σ1 → G Lw X k n pc ls [.int r] σ1) → G Lw X 0 0 0 (gent maxL (av (gA X))) [] σ) : gMI Lw l y (.code y cc maxL (some .int)) d mc ms av P Q := by
  intro E σ sz hP
  refine Met.ofW (cc := cc) (maxL := maxL) (ret := (some .int)) hy rfl ?_
  intro p e s m args below meth c s₁ B hml hv
  obtain ⟨rfl, hsz, hP0, hK, hD0, hNs⟩ := hv
  have hx := B.exec
  have hb := B.bytes
  have hr := B.returns
  have hts := atoms_spec (ws := Cond.code y cc maxL (some .int) :: TB) B.pre
  have hown : s.vm.findClass y.cls = some m.cls := findClass_of_methodNamed B.named
  have hlocks := B.notSynchronized
  subst hsz
  have hl0 : lv_has ((lg_sl (av E.2.1) ++ List.replicate (maxL - (lg_sl (av E.2.1)).length) Slot.unset).toArray) maxL (gl 0 (gent maxL (av E.2.1))) := by
    have h1 := lv_entry (av E.2.1) (n := maxL) (hlen E.2.1)
    exact ⟨h1.1, h1.2.1, fun q hq => h1.2.2 q (gent_mem _ _ _ q hq)⟩
  rw [lg_entry_eq]
  have hD1 : va_D (va_A (gW Lw E σ) s.heap.size) (gW Lw E σ) := hD0.self (sz := s.heap.size)
  refine body (p, l, e, gR d mc ms, s, m, (av E.2.1).toArray, below, meth, c, maxL, s.heap, va_A (gW Lw E σ) s.heap.size, E, MQ below (va_Qi (Q σ) (gB Lw E) (va_A (gW Lw E σ) s.heap.size)) (av E.2.1).toArray s mc ms (va_A (gW Lw E σ) s.heap.size)) σ
    ⟨hx, hb, hml, hown, fun w hw => hts w (List.mem_cons_of_mem _ hw), hK, fun σ' => gW_fix hD1 σ', fun q h => Or.inr h, rfl, hlocks, rfl, rfl, hNs⟩ hP ?_ s.heap [] _ (gent_len _ _ (hlen E.2.1)) hP0 va_S.rf hl0
  intro k n pc ls r σ1 hd hk hn1 hQ H locs arr hn hP1 hS1 hl1
  exact W.widen hk hn1 (W.iret (v := r) hx hb hr (fun t ht hW => ⟨⟨r, σ1, rfl, hQ, by show va_P _ _ _ t.heap; rw [ht]; exact hP1⟩, hS1.F ht⟩) hS1.2.2 hd hlocks)
theorem g_cVI {Lw : gL} {l : Launch} {X : gC} {cc : ByteArray} {own : String} {dd ca sa k n pc : Nat} {ls : List (Option Value)} {st : List Value} {σ : Mem} {b : Nat} {ci q0 : Nat} {fs : List Value} {C : String} {T : u_T} {N : Nat} {y : MethodName} {idx : Nat} {bytes : ByteArray} {maxL d mc ms : Nat} (na : Nat) {av : (Nat → Nat) → List Value} {P : Mem → Prop} {Q : Mem → Int32 → Mem → Prop} {As rest : List Value} (hC : gOk Lw l X cc own dd ca sa) (hM : gMI Lw l y (.code y bytes maxL (some .int)) d mc ms av P Q) (hw1 : Cond.methodLink own idx y ∈ TB) (hw2 : Cond.instanceMethod y ∈ TB ∧ Cond.selects C y y ∈ TB ∧ Cond.initialized C ∈ TB ∧ Cond.code y bytes maxL (some .int) ∈ TB) (hy : y.cls = C ∧ y.cls ≠ "java/lang/invoke/MethodHandle" ∧ y.cls ≠ "java/lang/invoke/VarHandle" ∧ (parseMethodDescriptor y.desc).map (fun d => d.parameters.length) = some na) (hR9 : d + 1 ≤ dd ∧ maxL ≤ 21) (hf : k + mc ≤ ca ∧ n + ms ≤ sa) (ha : av (gA X) = .ref b :: As) (hna : As.length = na) (hc : vwCl[ci]? = some (C, T, N)) (hq0 : (gW Lw (gEv X) σ)[q0]? = some (b, .inr (ci, fs))) (hrest : (rest.map fun v => v.category).sum ≤ 8) (hst : st = As.reverse ++ .ref b :: rest) (hd : decode cc pc = .ok (.invokevirtual idx, 3)) (hP : P σ) (kk : ∀ (r : Int32) (σ1 : Mem), Q σ r σ1 → G Lw X (k + mc) (n + ms) (pc + 3) ls (.int r :: rest) σ1) : G Lw X k n pc ls st σ := by
  obtain ⟨p, l', e, R, s, m, args, below, meth, c, nL, H0, A, E, Q⟩ := X
  obtain ⟨hx, hb, hml, hown, hTB, hK, hD, hA, hR, hlocks, rfl, hh0, hNs⟩ := hC
  subst hR
  have hRR : (gR d mc ms).frames + 1 ≤ (gR dd ca sa).frames ∧ 8 + (maxL + 11) + (gR d mc ms).locals ≤ (gR dd ca sa).locals := by
    refine ⟨hR9.1, ?_⟩
    show 8 + (maxL + 11) + 40 * d ≤ 40 * dd
    omega
  intro H locs arr hn hP0 hS hl
  have hAA : ∀ q, va_A (gW Lw E σ) H.size q → A q := fun q h => h.elim (fun ⟨i, e1, h1⟩ => (hD σ).2 i (q, e1) h1) (fun h1 => hA q (Nat.le_trans hS.1 h1))
  exact va_calli (va_runV (As := As) (rest := rest) (b := b) (Ts := TB) (own := own) (C := C) ⟨hx, hb, hml, hown, hTB⟩ (hM E σ H.size hP) (cwV (ret := (some .int)) (bytes := bytes) (maxL := maxL) na hTB (gi_cons hw1 (gi_cons hw2.1 (gi_cons hw2.2.1 (gi_cons hw2.2.2.1 (gi_cons hw2.2.2.2 gi_self))))) rfl rfl rfl hy hRR) ⟨gPre_blind, va_recv hK hP0 hc hq0, fun U hU hW => ⟨by rw [← ha]; rfl, by rw [hU], by rw [hU]; exact hP0, va_K.moved hW.alike hK, (hD σ).weaken (fun _ _ _ _ => trivial), gN.warm hW hNs⟩⟩ rfl hna hl.1 hst (lv_room hrest) hd hf) hS (fun q _ h => hAA q h) hAA (fun r u t H1 locs1 ht _ hq hB _ _ hS1 => kk r u hq H1 locs1 arr hn (by rw [← ht]; exact hB) hS1 hl)
theorem g_cSI {Lw : gL} {l : Launch} {X : gC} {cc : ByteArray} {own : String} {dd ca sa k n pc : Nat} {ls : List (Option Value)} {st : List Value} {σ : Mem} {y : MethodName} {idx : Nat} {bytes : ByteArray} {maxL d mc ms : Nat} (na : Nat) {av : (Nat → Nat) → List Value} {P : Mem → Prop} {Q : Mem → Int32 → Mem → Prop} {As rest : List Value} (hC : gOk Lw l X cc own dd ca sa) (hM : gMI Lw l y (.code y bytes maxL (some .int)) d mc ms av P Q) (hw1 : Cond.methodLink own idx y ∈ TB) (hw2 : Cond.static y ∈ TB ∧ Cond.initialized y.cls ∈ TB ∧ Cond.code y bytes maxL (some .int) ∈ TB) (hy : y.cls ≠ "java/lang/invoke/MethodHandle" ∧ y.cls ≠ "java/lang/invoke/VarHandle" ∧ (parseMethodDescriptor y.desc).map (fun d => d.parameters.length) = some na) (hR9 : d + 1 ≤ dd ∧ maxL ≤ 21) (hf : k + mc ≤ ca ∧ n + ms ≤ sa) (ha : av (gA X) = As) (hna : As.length = na) (hrest : (rest.map fun v => v.category).sum ≤ 8) (hst : st = As.reverse ++ rest) (hd : decode cc pc = .ok (.invokestatic idx, 3)) (hP : P σ) (kk : ∀ (r : Int32) (σ1 : Mem), Q σ r σ1 → G Lw X (k + mc) (n + ms) (pc + 3) ls (.int r :: rest) σ1) : G Lw X k n pc ls st σ := by
  obtain ⟨p, l', e, R, s, m, args, below, meth, c, nL, H0, A, E, Q⟩ := X
  obtain ⟨hx, hb, hml, hown, hTB, hK, hD, hA, hR, hlocks, rfl, hh0, hNs⟩ := hC
  subst hR
  have hRR : (gR d mc ms).frames + 1 ≤ (gR dd ca sa).frames ∧ 8 + (maxL + 11) + (gR d mc ms).locals ≤ (gR dd ca sa).locals := by
    refine ⟨hR9.1, ?_⟩
    show 8 + (maxL + 11) + 40 * d ≤ 40 * dd
    omega
  intro H locs arr hn hP0 hS hl
  have hAA : ∀ q, va_A (gW Lw E σ) H.size q → A q := fun q h => h.elim (fun ⟨i, e1, h1⟩ => (hD σ).2 i (q, e1) h1) (fun h1 => hA q (Nat.le_trans hS.1 h1))
  exact va_calli (va_runS (As := As) (rest := rest) (Ts := TB) (own := own) ⟨hx, hb, hml, hown, hTB⟩ (hM E σ H.size hP) (va_cwS (ret := (some .int)) (bytes := bytes) (maxL := maxL) na hTB (gi_cons hw1 (gi_cons hw2.1 (gi_cons hw2.2.1 (gi_cons hw2.2.2 gi_self)))) rfl rfl rfl hy hRR) ⟨gPre_blind, fun U hU hW => ⟨by rw [← ha]; rfl, by rw [hU], by rw [hU]; exact hP0, va_K.moved hW.alike hK, (hD σ).weaken (fun _ _ _ _ => trivial), gN.warm hW hNs⟩⟩ rfl hna hl.1 hst (lv_room hrest) hd hf) hS (fun q _ h => hAA q h) hAA (fun r u t H1 locs1 ht _ hq hB _ _ hS1 => kk r u hq H1 locs1 arr hn (by rw [← ht]; exact hB) hS1 hl)
def gMZ (Lw : gL) (l : Launch) (y : MethodName) (cd : Cond) (d mc ms : Nat) (av : (Nat → Nat) → List Value) (P : Mem → Prop) (Q : Mem → Int32 → Mem → Prop) : Prop :=
  ∀ (E : gE) (σ : Mem) (sz : Nat), P σ → Met l y (cd :: TB) (gR d mc ms) (gPre Lw av E σ sz) (va_Qi (Q σ) (gB Lw E) (va_A (gW Lw E σ) sz)) mc ms (va_A (gW Lw E σ) sz)
theorem gMZ_of {Lw : gL} {l : Launch} {y : MethodName} {cc : ByteArray} {maxL d mc ms : Nat} {av : (Nat → Nat) → List Value} {P : Mem → Prop} {Q : Mem → Int32 → Mem → Prop} (hy : plainName y.cls = true) (hlen : ∀ A, (lg_sl (av A)).length ≤ maxL)
    (body : ∀ (X : gC) (σ : Mem), gOk Lw l X cc y.cls d mc ms → P σ → (∀ (k n pc : Nat) (ls : List (Option Value)) (r : Int32) (σ1 : Mem), decode cc pc = .ok (.ireturn, 1) → k ≤ mc → n ≤ ms → (r = 0 ∨ r = 1) → Q σ r σ1 → G Lw X k n pc ls [.int r] σ1) → G Lw X 0 0 0 (gent maxL (av (gA X))) [] σ) : gMZ Lw l y (.code y cc maxL (some .boolean)) d mc ms av P Q := by
  intro E σ sz hP
  refine Met.ofW (cc := cc) (maxL := maxL) (ret := (some .boolean)) hy rfl ?_
  intro p e s m args below meth c s₁ B hml hv
  obtain ⟨rfl, hsz, hP0, hK, hD0, hNs⟩ := hv
  have hx := B.exec
  have hb := B.bytes
  have hr := B.returns
  have hts := atoms_spec (ws := Cond.code y cc maxL (some .boolean) :: TB) B.pre
  have hown : s.vm.findClass y.cls = some m.cls := findClass_of_methodNamed B.named
  have hlocks := B.notSynchronized
  subst hsz
  have hl0 : lv_has ((lg_sl (av E.2.1) ++ List.replicate (maxL - (lg_sl (av E.2.1)).length) Slot.unset).toArray) maxL (gl 0 (gent maxL (av E.2.1))) := by
    have h1 := lv_entry (av E.2.1) (n := maxL) (hlen E.2.1)
    exact ⟨h1.1, h1.2.1, fun q hq => h1.2.2 q (gent_mem _ _ _ q hq)⟩
  rw [lg_entry_eq]
  have hD1 : va_D (va_A (gW Lw E σ) s.heap.size) (gW Lw E σ) := hD0.self (sz := s.heap.size)
  refine body (p, l, e, gR d mc ms, s, m, (av E.2.1).toArray, below, meth, c, maxL, s.heap, va_A (gW Lw E σ) s.heap.size, E, MQ below (va_Qi (Q σ) (gB Lw E) (va_A (gW Lw E σ) s.heap.size)) (av E.2.1).toArray s mc ms (va_A (gW Lw E σ) s.heap.size)) σ
    ⟨hx, hb, hml, hown, fun w hw => hts w (List.mem_cons_of_mem _ hw), hK, fun σ' => gW_fix hD1 σ', fun q h => Or.inr h, rfl, hlocks, rfl, rfl, hNs⟩ hP ?_ s.heap [] _ (gent_len _ _ (hlen E.2.1)) hP0 va_S.rf hl0
  intro k n pc ls r σ1 hd hk hn1 hr1 hQ H locs arr hn hP1 hS1 hl1
  exact W.widen hk hn1 (W.zret (v := r) hx hb hr (by rcases hr1 with rfl | rfl <;> rfl) (fun t ht hW => ⟨⟨r, σ1, rfl, hQ, by show va_P _ _ _ t.heap; rw [ht]; exact hP1⟩, hS1.F ht⟩) hS1.2.2 hd hlocks)
theorem g_cVZ {Lw : gL} {l : Launch} {X : gC} {cc : ByteArray} {own : String} {dd ca sa k n pc : Nat} {ls : List (Option Value)} {st : List Value} {σ : Mem} {b : Nat} {ci q0 : Nat} {fs : List Value} {C : String} {T : u_T} {N : Nat} {y : MethodName} {idx : Nat} {bytes : ByteArray} {maxL d mc ms : Nat} (na : Nat) {av : (Nat → Nat) → List Value} {P : Mem → Prop} {Q : Mem → Int32 → Mem → Prop} {As rest : List Value} (hC : gOk Lw l X cc own dd ca sa) (hM : gMZ Lw l y (.code y bytes maxL (some .boolean)) d mc ms av P Q) (hw1 : Cond.methodLink own idx y ∈ TB) (hw2 : Cond.instanceMethod y ∈ TB ∧ Cond.selects C y y ∈ TB ∧ Cond.initialized C ∈ TB ∧ Cond.code y bytes maxL (some .boolean) ∈ TB) (hy : y.cls = C ∧ y.cls ≠ "java/lang/invoke/MethodHandle" ∧ y.cls ≠ "java/lang/invoke/VarHandle" ∧ (parseMethodDescriptor y.desc).map (fun d => d.parameters.length) = some na) (hR9 : d + 1 ≤ dd ∧ maxL ≤ 21) (hf : k + mc ≤ ca ∧ n + ms ≤ sa) (ha : av (gA X) = .ref b :: As) (hna : As.length = na) (hc : vwCl[ci]? = some (C, T, N)) (hq0 : (gW Lw (gEv X) σ)[q0]? = some (b, .inr (ci, fs))) (hrest : (rest.map fun v => v.category).sum ≤ 8) (hst : st = As.reverse ++ .ref b :: rest) (hd : decode cc pc = .ok (.invokevirtual idx, 3)) (hP : P σ) (kk : ∀ (r : Int32) (σ1 : Mem), Q σ r σ1 → G Lw X (k + mc) (n + ms) (pc + 3) ls (.int r :: rest) σ1) : G Lw X k n pc ls st σ := by
  obtain ⟨p, l', e, R, s, m, args, below, meth, c, nL, H0, A, E, Q⟩ := X
  obtain ⟨hx, hb, hml, hown, hTB, hK, hD, hA, hR, hlocks, rfl, hh0, hNs⟩ := hC
  subst hR
  have hRR : (gR d mc ms).frames + 1 ≤ (gR dd ca sa).frames ∧ 8 + (maxL + 11) + (gR d mc ms).locals ≤ (gR dd ca sa).locals := by
    refine ⟨hR9.1, ?_⟩
    show 8 + (maxL + 11) + 40 * d ≤ 40 * dd
    omega
  intro H locs arr hn hP0 hS hl
  have hAA : ∀ q, va_A (gW Lw E σ) H.size q → A q := fun q h => h.elim (fun ⟨i, e1, h1⟩ => (hD σ).2 i (q, e1) h1) (fun h1 => hA q (Nat.le_trans hS.1 h1))
  exact va_calli (va_runV (As := As) (rest := rest) (b := b) (Ts := TB) (own := own) (C := C) ⟨hx, hb, hml, hown, hTB⟩ (hM E σ H.size hP) (cwV (ret := (some .boolean)) (bytes := bytes) (maxL := maxL) na hTB (gi_cons hw1 (gi_cons hw2.1 (gi_cons hw2.2.1 (gi_cons hw2.2.2.1 (gi_cons hw2.2.2.2 gi_self))))) rfl rfl rfl hy hRR) ⟨gPre_blind, va_recv hK hP0 hc hq0, fun U hU hW => ⟨by rw [← ha]; rfl, by rw [hU], by rw [hU]; exact hP0, va_K.moved hW.alike hK, (hD σ).weaken (fun _ _ _ _ => trivial), gN.warm hW hNs⟩⟩ rfl hna hl.1 hst (lv_room hrest) hd hf) hS (fun q _ h => hAA q h) hAA (fun r u t H1 locs1 ht _ hq hB _ _ hS1 => kk r u hq H1 locs1 arr hn (by rw [← ht]; exact hB) hS1 hl)
theorem g_cSZ {Lw : gL} {l : Launch} {X : gC} {cc : ByteArray} {own : String} {dd ca sa k n pc : Nat} {ls : List (Option Value)} {st : List Value} {σ : Mem} {y : MethodName} {idx : Nat} {bytes : ByteArray} {maxL d mc ms : Nat} (na : Nat) {av : (Nat → Nat) → List Value} {P : Mem → Prop} {Q : Mem → Int32 → Mem → Prop} {As rest : List Value} (hC : gOk Lw l X cc own dd ca sa) (hM : gMZ Lw l y (.code y bytes maxL (some .boolean)) d mc ms av P Q) (hw1 : Cond.methodLink own idx y ∈ TB) (hw2 : Cond.static y ∈ TB ∧ Cond.initialized y.cls ∈ TB ∧ Cond.code y bytes maxL (some .boolean) ∈ TB) (hy : y.cls ≠ "java/lang/invoke/MethodHandle" ∧ y.cls ≠ "java/lang/invoke/VarHandle" ∧ (parseMethodDescriptor y.desc).map (fun d => d.parameters.length) = some na) (hR9 : d + 1 ≤ dd ∧ maxL ≤ 21) (hf : k + mc ≤ ca ∧ n + ms ≤ sa) (ha : av (gA X) = As) (hna : As.length = na) (hrest : (rest.map fun v => v.category).sum ≤ 8) (hst : st = As.reverse ++ rest) (hd : decode cc pc = .ok (.invokestatic idx, 3)) (hP : P σ) (kk : ∀ (r : Int32) (σ1 : Mem), Q σ r σ1 → G Lw X (k + mc) (n + ms) (pc + 3) ls (.int r :: rest) σ1) : G Lw X k n pc ls st σ := by
  obtain ⟨p, l', e, R, s, m, args, below, meth, c, nL, H0, A, E, Q⟩ := X
  obtain ⟨hx, hb, hml, hown, hTB, hK, hD, hA, hR, hlocks, rfl, hh0, hNs⟩ := hC
  subst hR
  have hRR : (gR d mc ms).frames + 1 ≤ (gR dd ca sa).frames ∧ 8 + (maxL + 11) + (gR d mc ms).locals ≤ (gR dd ca sa).locals := by
    refine ⟨hR9.1, ?_⟩
    show 8 + (maxL + 11) + 40 * d ≤ 40 * dd
    omega
  intro H locs arr hn hP0 hS hl
  have hAA : ∀ q, va_A (gW Lw E σ) H.size q → A q := fun q h => h.elim (fun ⟨i, e1, h1⟩ => (hD σ).2 i (q, e1) h1) (fun h1 => hA q (Nat.le_trans hS.1 h1))
  exact va_calli (va_runS (As := As) (rest := rest) (Ts := TB) (own := own) ⟨hx, hb, hml, hown, hTB⟩ (hM E σ H.size hP) (va_cwS (ret := (some .boolean)) (bytes := bytes) (maxL := maxL) na hTB (gi_cons hw1 (gi_cons hw2.1 (gi_cons hw2.2.1 (gi_cons hw2.2.2 gi_self)))) rfl rfl rfl hy hRR) ⟨gPre_blind, fun U hU hW => ⟨by rw [← ha]; rfl, by rw [hU], by rw [hU]; exact hP0, va_K.moved hW.alike hK, (hD σ).weaken (fun _ _ _ _ => trivial), gN.warm hW hNs⟩⟩ rfl hna hl.1 hst (lv_room hrest) hd hf) hS (fun q _ h => hAA q h) hAA (fun r u t H1 locs1 ht _ hq hB _ _ hS1 => kk r u hq H1 locs1 arr hn (by rw [← ht]; exact hB) hS1 hl)
def gML (Lw : gL) (l : Launch) (y : MethodName) (cd : Cond) (d mc ms : Nat) (av : (Nat → Nat) → List Value) (P : Mem → Prop) (Q : Mem → Int64 → Mem → Prop) : Prop :=
  ∀ (E : gE) (σ : Mem) (sz : Nat), P σ → Met l y (cd :: TB) (gR d mc ms) (gPre Lw av E σ sz) (va_Ql (Q σ) (gB Lw E) (va_A (gW Lw E σ) sz)) mc ms (va_A (gW Lw E σ) sz)
theorem gML_of {Lw : gL} {l : Launch} {y : MethodName} {cc : ByteArray} {maxL d mc ms : Nat} {av : (Nat → Nat) → List Value} {P : Mem → Prop} {Q : Mem → Int64 → Mem → Prop} (hy : plainName y.cls = true) (hlen : ∀ A, (lg_sl (av A)).length ≤ maxL)
    (body : ∀ (X : gC) (σ : Mem), gOk Lw l X cc y.cls d mc ms → P σ → (∀ (k n pc : Nat) (ls : List (Option Value)) (r : Int64) (σ1 : Mem), decode cc pc = .ok (.lreturn, 1) → k ≤ mc → n ≤ ms → Q σ r σ1 → G Lw X k n pc ls [.long r] σ1) → G Lw X 0 0 0 (gent maxL (av (gA X))) [] σ) : gML Lw l y (.code y cc maxL (some .long)) d mc ms av P Q := by
  intro E σ sz hP
  refine Met.ofW (cc := cc) (maxL := maxL) (ret := (some .long)) hy rfl ?_
  intro p e s m args below meth c s₁ B hml hv
  obtain ⟨rfl, hsz, hP0, hK, hD0, hNs⟩ := hv
  have hx := B.exec
  have hb := B.bytes
  have hr := B.returns
  have hts := atoms_spec (ws := Cond.code y cc maxL (some .long) :: TB) B.pre
  have hown : s.vm.findClass y.cls = some m.cls := findClass_of_methodNamed B.named
  have hlocks := B.notSynchronized
  subst hsz
  have hl0 : lv_has ((lg_sl (av E.2.1) ++ List.replicate (maxL - (lg_sl (av E.2.1)).length) Slot.unset).toArray) maxL (gl 0 (gent maxL (av E.2.1))) := by
    have h1 := lv_entry (av E.2.1) (n := maxL) (hlen E.2.1)
    exact ⟨h1.1, h1.2.1, fun q hq => h1.2.2 q (gent_mem _ _ _ q hq)⟩
  rw [lg_entry_eq]
  have hD1 : va_D (va_A (gW Lw E σ) s.heap.size) (gW Lw E σ) := hD0.self (sz := s.heap.size)
  refine body (p, l, e, gR d mc ms, s, m, (av E.2.1).toArray, below, meth, c, maxL, s.heap, va_A (gW Lw E σ) s.heap.size, E, MQ below (va_Ql (Q σ) (gB Lw E) (va_A (gW Lw E σ) s.heap.size)) (av E.2.1).toArray s mc ms (va_A (gW Lw E σ) s.heap.size)) σ
    ⟨hx, hb, hml, hown, fun w hw => hts w (List.mem_cons_of_mem _ hw), hK, fun σ' => gW_fix hD1 σ', fun q h => Or.inr h, rfl, hlocks, rfl, rfl, hNs⟩ hP ?_ s.heap [] _ (gent_len _ _ (hlen E.2.1)) hP0 va_S.rf hl0
  intro k n pc ls r σ1 hd hk hn1 hQ H locs arr hn hP1 hS1 hl1
  exact W.widen hk hn1 (W.lret (v := r) hx hb hr (fun t ht hW => ⟨⟨r, σ1, rfl, hQ, by show va_P _ _ _ t.heap; rw [ht]; exact hP1⟩, hS1.F ht⟩) hS1.2.2 hd hlocks)
theorem g_cVL {Lw : gL} {l : Launch} {X : gC} {cc : ByteArray} {own : String} {dd ca sa k n pc : Nat} {ls : List (Option Value)} {st : List Value} {σ : Mem} {b : Nat} {ci q0 : Nat} {fs : List Value} {C : String} {T : u_T} {N : Nat} {y : MethodName} {idx : Nat} {bytes : ByteArray} {maxL d mc ms : Nat} (na : Nat) {av : (Nat → Nat) → List Value} {P : Mem → Prop} {Q : Mem → Int64 → Mem → Prop} {As rest : List Value} (hC : gOk Lw l X cc own dd ca sa) (hM : gML Lw l y (.code y bytes maxL (some .long)) d mc ms av P Q) (hw1 : Cond.methodLink own idx y ∈ TB) (hw2 : Cond.instanceMethod y ∈ TB ∧ Cond.selects C y y ∈ TB ∧ Cond.initialized C ∈ TB ∧ Cond.code y bytes maxL (some .long) ∈ TB) (hy : y.cls = C ∧ y.cls ≠ "java/lang/invoke/MethodHandle" ∧ y.cls ≠ "java/lang/invoke/VarHandle" ∧ (parseMethodDescriptor y.desc).map (fun d => d.parameters.length) = some na) (hR9 : d + 1 ≤ dd ∧ maxL ≤ 21) (hf : k + mc ≤ ca ∧ n + ms ≤ sa) (ha : av (gA X) = .ref b :: As) (hna : As.length = na) (hc : vwCl[ci]? = some (C, T, N)) (hq0 : (gW Lw (gEv X) σ)[q0]? = some (b, .inr (ci, fs))) (hrest : (rest.map fun v => v.category).sum ≤ 8) (hst : st = As.reverse ++ .ref b :: rest) (hd : decode cc pc = .ok (.invokevirtual idx, 3)) (hP : P σ) (kk : ∀ (r : Int64) (σ1 : Mem), Q σ r σ1 → G Lw X (k + mc) (n + ms) (pc + 3) ls (.long r :: rest) σ1) : G Lw X k n pc ls st σ := by
  obtain ⟨p, l', e, R, s, m, args, below, meth, c, nL, H0, A, E, Q⟩ := X
  obtain ⟨hx, hb, hml, hown, hTB, hK, hD, hA, hR, hlocks, rfl, hh0, hNs⟩ := hC
  subst hR
  have hRR : (gR d mc ms).frames + 1 ≤ (gR dd ca sa).frames ∧ 8 + (maxL + 11) + (gR d mc ms).locals ≤ (gR dd ca sa).locals := by
    refine ⟨hR9.1, ?_⟩
    show 8 + (maxL + 11) + 40 * d ≤ 40 * dd
    omega
  intro H locs arr hn hP0 hS hl
  have hAA : ∀ q, va_A (gW Lw E σ) H.size q → A q := fun q h => h.elim (fun ⟨i, e1, h1⟩ => (hD σ).2 i (q, e1) h1) (fun h1 => hA q (Nat.le_trans hS.1 h1))
  exact va_calll (va_runV (As := As) (rest := rest) (b := b) (Ts := TB) (own := own) (C := C) ⟨hx, hb, hml, hown, hTB⟩ (hM E σ H.size hP) (cwV (ret := (some .long)) (bytes := bytes) (maxL := maxL) na hTB (gi_cons hw1 (gi_cons hw2.1 (gi_cons hw2.2.1 (gi_cons hw2.2.2.1 (gi_cons hw2.2.2.2 gi_self))))) rfl rfl rfl hy hRR) ⟨gPre_blind, va_recv hK hP0 hc hq0, fun U hU hW => ⟨by rw [← ha]; rfl, by rw [hU], by rw [hU]; exact hP0, va_K.moved hW.alike hK, (hD σ).weaken (fun _ _ _ _ => trivial), gN.warm hW hNs⟩⟩ rfl hna hl.1 hst (lv_room hrest) hd hf) hS (fun q _ h => hAA q h) hAA (fun r u t H1 locs1 ht _ hq hB _ _ hS1 => kk r u hq H1 locs1 arr hn (by rw [← ht]; exact hB) hS1 hl)
theorem g_cSL {Lw : gL} {l : Launch} {X : gC} {cc : ByteArray} {own : String} {dd ca sa k n pc : Nat} {ls : List (Option Value)} {st : List Value} {σ : Mem} {y : MethodName} {idx : Nat} {bytes : ByteArray} {maxL d mc ms : Nat} (na : Nat) {av : (Nat → Nat) → List Value} {P : Mem → Prop} {Q : Mem → Int64 → Mem → Prop} {As rest : List Value} (hC : gOk Lw l X cc own dd ca sa) (hM : gML Lw l y (.code y bytes maxL (some .long)) d mc ms av P Q) (hw1 : Cond.methodLink own idx y ∈ TB) (hw2 : Cond.static y ∈ TB ∧ Cond.initialized y.cls ∈ TB ∧ Cond.code y bytes maxL (some .long) ∈ TB) (hy : y.cls ≠ "java/lang/invoke/MethodHandle" ∧ y.cls ≠ "java/lang/invoke/VarHandle" ∧ (parseMethodDescriptor y.desc).map (fun d => d.parameters.length) = some na) (hR9 : d + 1 ≤ dd ∧ maxL ≤ 21) (hf : k + mc ≤ ca ∧ n + ms ≤ sa) (ha : av (gA X) = As) (hna : As.length = na) (hrest : (rest.map fun v => v.category).sum ≤ 8) (hst : st = As.reverse ++ rest) (hd : decode cc pc = .ok (.invokestatic idx, 3)) (hP : P σ) (kk : ∀ (r : Int64) (σ1 : Mem), Q σ r σ1 → G Lw X (k + mc) (n + ms) (pc + 3) ls (.long r :: rest) σ1) : G Lw X k n pc ls st σ := by
  obtain ⟨p, l', e, R, s, m, args, below, meth, c, nL, H0, A, E, Q⟩ := X
  obtain ⟨hx, hb, hml, hown, hTB, hK, hD, hA, hR, hlocks, rfl, hh0, hNs⟩ := hC
  subst hR
  have hRR : (gR d mc ms).frames + 1 ≤ (gR dd ca sa).frames ∧ 8 + (maxL + 11) + (gR d mc ms).locals ≤ (gR dd ca sa).locals := by
    refine ⟨hR9.1, ?_⟩
    show 8 + (maxL + 11) + 40 * d ≤ 40 * dd
    omega
  intro H locs arr hn hP0 hS hl
  have hAA : ∀ q, va_A (gW Lw E σ) H.size q → A q := fun q h => h.elim (fun ⟨i, e1, h1⟩ => (hD σ).2 i (q, e1) h1) (fun h1 => hA q (Nat.le_trans hS.1 h1))
  exact va_calll (va_runS (As := As) (rest := rest) (Ts := TB) (own := own) ⟨hx, hb, hml, hown, hTB⟩ (hM E σ H.size hP) (va_cwS (ret := (some .long)) (bytes := bytes) (maxL := maxL) na hTB (gi_cons hw1 (gi_cons hw2.1 (gi_cons hw2.2.1 (gi_cons hw2.2.2 gi_self)))) rfl rfl rfl hy hRR) ⟨gPre_blind, fun U hU hW => ⟨by rw [← ha]; rfl, by rw [hU], by rw [hU]; exact hP0, va_K.moved hW.alike hK, (hD σ).weaken (fun _ _ _ _ => trivial), gN.warm hW hNs⟩⟩ rfl hna hl.1 hst (lv_room hrest) hd hf) hS (fun q _ h => hAA q h) hAA (fun r u t H1 locs1 ht _ hq hB _ _ hS1 => kk r u hq H1 locs1 arr hn (by rw [← ht]; exact hB) hS1 hl)
def gMD (Lw : gL) (l : Launch) (y : MethodName) (cd : Cond) (d mc ms : Nat) (av : (Nat → Nat) → List Value) (P : Mem → Prop) (Q : Mem → UInt64 → Mem → Prop) : Prop :=
  ∀ (E : gE) (σ : Mem) (sz : Nat), P σ → Met l y (cd :: TB) (gR d mc ms) (gPre Lw av E σ sz) (va_Qd (Q σ) (gB Lw E) (va_A (gW Lw E σ) sz)) mc ms (va_A (gW Lw E σ) sz)
theorem gMD_of {Lw : gL} {l : Launch} {y : MethodName} {cc : ByteArray} {maxL d mc ms : Nat} {av : (Nat → Nat) → List Value} {P : Mem → Prop} {Q : Mem → UInt64 → Mem → Prop} (hy : plainName y.cls = true) (hlen : ∀ A, (lg_sl (av A)).length ≤ maxL)
    (body : ∀ (X : gC) (σ : Mem), gOk Lw l X cc y.cls d mc ms → P σ → (∀ (k n pc : Nat) (ls : List (Option Value)) (r : UInt64) (σ1 : Mem), decode cc pc = .ok (.dreturn, 1) → k ≤ mc → n ≤ ms → Q σ r σ1 → G Lw X k n pc ls [.double r] σ1) → G Lw X 0 0 0 (gent maxL (av (gA X))) [] σ) : gMD Lw l y (.code y cc maxL (some .double)) d mc ms av P Q := by
  intro E σ sz hP
  refine Met.ofW (cc := cc) (maxL := maxL) (ret := (some .double)) hy rfl ?_
  intro p e s m args below meth c s₁ B hml hv
  obtain ⟨rfl, hsz, hP0, hK, hD0, hNs⟩ := hv
  have hx := B.exec
  have hb := B.bytes
  have hr := B.returns
  have hts := atoms_spec (ws := Cond.code y cc maxL (some .double) :: TB) B.pre
  have hown : s.vm.findClass y.cls = some m.cls := findClass_of_methodNamed B.named
  have hlocks := B.notSynchronized
  subst hsz
  have hl0 : lv_has ((lg_sl (av E.2.1) ++ List.replicate (maxL - (lg_sl (av E.2.1)).length) Slot.unset).toArray) maxL (gl 0 (gent maxL (av E.2.1))) := by
    have h1 := lv_entry (av E.2.1) (n := maxL) (hlen E.2.1)
    exact ⟨h1.1, h1.2.1, fun q hq => h1.2.2 q (gent_mem _ _ _ q hq)⟩
  rw [lg_entry_eq]
  have hD1 : va_D (va_A (gW Lw E σ) s.heap.size) (gW Lw E σ) := hD0.self (sz := s.heap.size)
  refine body (p, l, e, gR d mc ms, s, m, (av E.2.1).toArray, below, meth, c, maxL, s.heap, va_A (gW Lw E σ) s.heap.size, E, MQ below (va_Qd (Q σ) (gB Lw E) (va_A (gW Lw E σ) s.heap.size)) (av E.2.1).toArray s mc ms (va_A (gW Lw E σ) s.heap.size)) σ
    ⟨hx, hb, hml, hown, fun w hw => hts w (List.mem_cons_of_mem _ hw), hK, fun σ' => gW_fix hD1 σ', fun q h => Or.inr h, rfl, hlocks, rfl, rfl, hNs⟩ hP ?_ s.heap [] _ (gent_len _ _ (hlen E.2.1)) hP0 va_S.rf hl0
  intro k n pc ls r σ1 hd hk hn1 hQ H locs arr hn hP1 hS1 hl1
  exact W.widen hk hn1 (W.dret (v := r) hx hb hr (fun t ht hW => ⟨⟨r, σ1, rfl, hQ, by show va_P _ _ _ t.heap; rw [ht]; exact hP1⟩, hS1.F ht⟩) hS1.2.2 hd hlocks)
theorem g_cVD {Lw : gL} {l : Launch} {X : gC} {cc : ByteArray} {own : String} {dd ca sa k n pc : Nat} {ls : List (Option Value)} {st : List Value} {σ : Mem} {b : Nat} {ci q0 : Nat} {fs : List Value} {C : String} {T : u_T} {N : Nat} {y : MethodName} {idx : Nat} {bytes : ByteArray} {maxL d mc ms : Nat} (na : Nat) {av : (Nat → Nat) → List Value} {P : Mem → Prop} {Q : Mem → UInt64 → Mem → Prop} {As rest : List Value} (hC : gOk Lw l X cc own dd ca sa) (hM : gMD Lw l y (.code y bytes maxL (some .double)) d mc ms av P Q) (hw1 : Cond.methodLink own idx y ∈ TB) (hw2 : Cond.instanceMethod y ∈ TB ∧ Cond.selects C y y ∈ TB ∧ Cond.initialized C ∈ TB ∧ Cond.code y bytes maxL (some .double) ∈ TB) (hy : y.cls = C ∧ y.cls ≠ "java/lang/invoke/MethodHandle" ∧ y.cls ≠ "java/lang/invoke/VarHandle" ∧ (parseMethodDescriptor y.desc).map (fun d => d.parameters.length) = some na) (hR9 : d + 1 ≤ dd ∧ maxL ≤ 21) (hf : k + mc ≤ ca ∧ n + ms ≤ sa) (ha : av (gA X) = .ref b :: As) (hna : As.length = na) (hc : vwCl[ci]? = some (C, T, N)) (hq0 : (gW Lw (gEv X) σ)[q0]? = some (b, .inr (ci, fs))) (hrest : (rest.map fun v => v.category).sum ≤ 8) (hst : st = As.reverse ++ .ref b :: rest) (hd : decode cc pc = .ok (.invokevirtual idx, 3)) (hP : P σ) (kk : ∀ (r : UInt64) (σ1 : Mem), Q σ r σ1 → G Lw X (k + mc) (n + ms) (pc + 3) ls (.double r :: rest) σ1) : G Lw X k n pc ls st σ := by
  obtain ⟨p, l', e, R, s, m, args, below, meth, c, nL, H0, A, E, Q⟩ := X
  obtain ⟨hx, hb, hml, hown, hTB, hK, hD, hA, hR, hlocks, rfl, hh0, hNs⟩ := hC
  subst hR
  have hRR : (gR d mc ms).frames + 1 ≤ (gR dd ca sa).frames ∧ 8 + (maxL + 11) + (gR d mc ms).locals ≤ (gR dd ca sa).locals := by
    refine ⟨hR9.1, ?_⟩
    show 8 + (maxL + 11) + 40 * d ≤ 40 * dd
    omega
  intro H locs arr hn hP0 hS hl
  have hAA : ∀ q, va_A (gW Lw E σ) H.size q → A q := fun q h => h.elim (fun ⟨i, e1, h1⟩ => (hD σ).2 i (q, e1) h1) (fun h1 => hA q (Nat.le_trans hS.1 h1))
  exact va_calld (va_runV (As := As) (rest := rest) (b := b) (Ts := TB) (own := own) (C := C) ⟨hx, hb, hml, hown, hTB⟩ (hM E σ H.size hP) (cwV (ret := (some .double)) (bytes := bytes) (maxL := maxL) na hTB (gi_cons hw1 (gi_cons hw2.1 (gi_cons hw2.2.1 (gi_cons hw2.2.2.1 (gi_cons hw2.2.2.2 gi_self))))) rfl rfl rfl hy hRR) ⟨gPre_blind, va_recv hK hP0 hc hq0, fun U hU hW => ⟨by rw [← ha]; rfl, by rw [hU], by rw [hU]; exact hP0, va_K.moved hW.alike hK, (hD σ).weaken (fun _ _ _ _ => trivial), gN.warm hW hNs⟩⟩ rfl hna hl.1 hst (lv_room hrest) hd hf) hS (fun q _ h => hAA q h) hAA (fun r u t H1 locs1 ht _ hq hB _ _ hS1 => kk r u hq H1 locs1 arr hn (by rw [← ht]; exact hB) hS1 hl)
theorem g_cSD {Lw : gL} {l : Launch} {X : gC} {cc : ByteArray} {own : String} {dd ca sa k n pc : Nat} {ls : List (Option Value)} {st : List Value} {σ : Mem} {y : MethodName} {idx : Nat} {bytes : ByteArray} {maxL d mc ms : Nat} (na : Nat) {av : (Nat → Nat) → List Value} {P : Mem → Prop} {Q : Mem → UInt64 → Mem → Prop} {As rest : List Value} (hC : gOk Lw l X cc own dd ca sa) (hM : gMD Lw l y (.code y bytes maxL (some .double)) d mc ms av P Q) (hw1 : Cond.methodLink own idx y ∈ TB) (hw2 : Cond.static y ∈ TB ∧ Cond.initialized y.cls ∈ TB ∧ Cond.code y bytes maxL (some .double) ∈ TB) (hy : y.cls ≠ "java/lang/invoke/MethodHandle" ∧ y.cls ≠ "java/lang/invoke/VarHandle" ∧ (parseMethodDescriptor y.desc).map (fun d => d.parameters.length) = some na) (hR9 : d + 1 ≤ dd ∧ maxL ≤ 21) (hf : k + mc ≤ ca ∧ n + ms ≤ sa) (ha : av (gA X) = As) (hna : As.length = na) (hrest : (rest.map fun v => v.category).sum ≤ 8) (hst : st = As.reverse ++ rest) (hd : decode cc pc = .ok (.invokestatic idx, 3)) (hP : P σ) (kk : ∀ (r : UInt64) (σ1 : Mem), Q σ r σ1 → G Lw X (k + mc) (n + ms) (pc + 3) ls (.double r :: rest) σ1) : G Lw X k n pc ls st σ := by
  obtain ⟨p, l', e, R, s, m, args, below, meth, c, nL, H0, A, E, Q⟩ := X
  obtain ⟨hx, hb, hml, hown, hTB, hK, hD, hA, hR, hlocks, rfl, hh0, hNs⟩ := hC
  subst hR
  have hRR : (gR d mc ms).frames + 1 ≤ (gR dd ca sa).frames ∧ 8 + (maxL + 11) + (gR d mc ms).locals ≤ (gR dd ca sa).locals := by
    refine ⟨hR9.1, ?_⟩
    show 8 + (maxL + 11) + 40 * d ≤ 40 * dd
    omega
  intro H locs arr hn hP0 hS hl
  have hAA : ∀ q, va_A (gW Lw E σ) H.size q → A q := fun q h => h.elim (fun ⟨i, e1, h1⟩ => (hD σ).2 i (q, e1) h1) (fun h1 => hA q (Nat.le_trans hS.1 h1))
  exact va_calld (va_runS (As := As) (rest := rest) (Ts := TB) (own := own) ⟨hx, hb, hml, hown, hTB⟩ (hM E σ H.size hP) (va_cwS (ret := (some .double)) (bytes := bytes) (maxL := maxL) na hTB (gi_cons hw1 (gi_cons hw2.1 (gi_cons hw2.2.1 (gi_cons hw2.2.2 gi_self)))) rfl rfl rfl hy hRR) ⟨gPre_blind, fun U hU hW => ⟨by rw [← ha]; rfl, by rw [hU], by rw [hU]; exact hP0, va_K.moved hW.alike hK, (hD σ).weaken (fun _ _ _ _ => trivial), gN.warm hW hNs⟩⟩ rfl hna hl.1 hst (lv_room hrest) hd hf) hS (fun q _ h => hAA q h) hAA (fun r u t H1 locs1 ht _ hq hB _ _ hS1 => kk r u hq H1 locs1 arr hn (by rw [← ht]; exact hB) hS1 hl)
def gMV (Lw : gL) (l : Launch) (y : MethodName) (cd : Cond) (d mc ms : Nat) (av : (Nat → Nat) → List Value) (P : Mem → Prop) (Q : Mem → Mem → Prop) : Prop :=
  ∀ (E : gE) (σ : Mem) (sz : Nat), P σ → Met l y (cd :: TB) (gR d mc ms) (gPre Lw av E σ sz) (va_Qv (Q σ) (gB Lw E) (va_A (gW Lw E σ) sz)) mc ms (va_A (gW Lw E σ) sz)
theorem gMV_of {Lw : gL} {l : Launch} {y : MethodName} {cc : ByteArray} {maxL d mc ms : Nat} {av : (Nat → Nat) → List Value} {P : Mem → Prop} {Q : Mem → Mem → Prop} (hy : plainName y.cls = true) (hlen : ∀ A, (lg_sl (av A)).length ≤ maxL)
    (body : ∀ (X : gC) (σ : Mem), gOk Lw l X cc y.cls d mc ms → P σ → (∀ (k n pc : Nat) (ls : List (Option Value)) (σ1 : Mem), decode cc pc = .ok (.return_, 1) → k ≤ mc → n ≤ ms → Q σ σ1 → G Lw X k n pc ls [] σ1) → G Lw X 0 0 0 (gent maxL (av (gA X))) [] σ) : gMV Lw l y (.code y cc maxL none) d mc ms av P Q := by
  intro E σ sz hP
  refine Met.ofW (cc := cc) (maxL := maxL) (ret := none) hy rfl ?_
  intro p e s m args below meth c s₁ B hml hv
  obtain ⟨rfl, hsz, hP0, hK, hD0, hNs⟩ := hv
  have hx := B.exec
  have hb := B.bytes
  have hr := B.returns
  have hts := atoms_spec (ws := Cond.code y cc maxL none :: TB) B.pre
  have hown : s.vm.findClass y.cls = some m.cls := findClass_of_methodNamed B.named
  have hlocks := B.notSynchronized
  subst hsz
  have hl0 : lv_has ((lg_sl (av E.2.1) ++ List.replicate (maxL - (lg_sl (av E.2.1)).length) Slot.unset).toArray) maxL (gl 0 (gent maxL (av E.2.1))) := by
    have h1 := lv_entry (av E.2.1) (n := maxL) (hlen E.2.1)
    exact ⟨h1.1, h1.2.1, fun q hq => h1.2.2 q (gent_mem _ _ _ q hq)⟩
  rw [lg_entry_eq]
  have hD1 : va_D (va_A (gW Lw E σ) s.heap.size) (gW Lw E σ) := hD0.self (sz := s.heap.size)
  refine body (p, l, e, gR d mc ms, s, m, (av E.2.1).toArray, below, meth, c, maxL, s.heap, va_A (gW Lw E σ) s.heap.size, E, MQ below (va_Qv (Q σ) (gB Lw E) (va_A (gW Lw E σ) s.heap.size)) (av E.2.1).toArray s mc ms (va_A (gW Lw E σ) s.heap.size)) σ
    ⟨hx, hb, hml, hown, fun w hw => hts w (List.mem_cons_of_mem _ hw), hK, fun σ' => gW_fix hD1 σ', fun q h => Or.inr h, rfl, hlocks, rfl, rfl, hNs⟩ hP ?_ s.heap [] _ (gent_len _ _ (hlen E.2.1)) hP0 va_S.rf hl0
  intro k n pc ls σ1 hd hk hn1 hQ H locs arr hn hP1 hS1 hl1
  exact W.widen hk hn1 (W.vret hx hb hr (fun t ht hW => ⟨⟨σ1, rfl, hQ, by show va_P _ _ _ t.heap; rw [ht]; exact hP1⟩, hS1.F ht⟩) hS1.2.2 hd hlocks)
theorem g_cVV {Lw : gL} {l : Launch} {X : gC} {cc : ByteArray} {own : String} {dd ca sa k n pc : Nat} {ls : List (Option Value)} {st : List Value} {σ : Mem} {b : Nat} {ci q0 : Nat} {fs : List Value} {C : String} {T : u_T} {N : Nat} {y : MethodName} {idx : Nat} {bytes : ByteArray} {maxL d mc ms : Nat} (na : Nat) {av : (Nat → Nat) → List Value} {P : Mem → Prop} {Q : Mem → Mem → Prop} {As rest : List Value} (hC : gOk Lw l X cc own dd ca sa) (hM : gMV Lw l y (.code y bytes maxL none) d mc ms av P Q) (hw1 : Cond.methodLink own idx y ∈ TB) (hw2 : Cond.instanceMethod y ∈ TB ∧ Cond.selects C y y ∈ TB ∧ Cond.initialized C ∈ TB ∧ Cond.code y bytes maxL none ∈ TB) (hy : y.cls = C ∧ y.cls ≠ "java/lang/invoke/MethodHandle" ∧ y.cls ≠ "java/lang/invoke/VarHandle" ∧ (parseMethodDescriptor y.desc).map (fun d => d.parameters.length) = some na) (hR9 : d + 1 ≤ dd ∧ maxL ≤ 21) (hf : k + mc ≤ ca ∧ n + ms ≤ sa) (ha : av (gA X) = .ref b :: As) (hna : As.length = na) (hc : vwCl[ci]? = some (C, T, N)) (hq0 : (gW Lw (gEv X) σ)[q0]? = some (b, .inr (ci, fs))) (hrest : (rest.map fun v => v.category).sum ≤ 8) (hst : st = As.reverse ++ .ref b :: rest) (hd : decode cc pc = .ok (.invokevirtual idx, 3)) (hP : P σ) (kk : ∀ (σ1 : Mem), Q σ σ1 → G Lw X (k + mc) (n + ms) (pc + 3) ls rest σ1) : G Lw X k n pc ls st σ := by
  obtain ⟨p, l', e, R, s, m, args, below, meth, c, nL, H0, A, E, Q⟩ := X
  obtain ⟨hx, hb, hml, hown, hTB, hK, hD, hA, hR, hlocks, rfl, hh0, hNs⟩ := hC
  subst hR
  have hRR : (gR d mc ms).frames + 1 ≤ (gR dd ca sa).frames ∧ 8 + (maxL + 11) + (gR d mc ms).locals ≤ (gR dd ca sa).locals := by
    refine ⟨hR9.1, ?_⟩
    show 8 + (maxL + 11) + 40 * d ≤ 40 * dd
    omega
  intro H locs arr hn hP0 hS hl
  have hAA : ∀ q, va_A (gW Lw E σ) H.size q → A q := fun q h => h.elim (fun ⟨i, e1, h1⟩ => (hD σ).2 i (q, e1) h1) (fun h1 => hA q (Nat.le_trans hS.1 h1))
  exact va_callv (va_runV (As := As) (rest := rest) (b := b) (Ts := TB) (own := own) (C := C) ⟨hx, hb, hml, hown, hTB⟩ (hM E σ H.size hP) (cwV (ret := none) (bytes := bytes) (maxL := maxL) na hTB (gi_cons hw1 (gi_cons hw2.1 (gi_cons hw2.2.1 (gi_cons hw2.2.2.1 (gi_cons hw2.2.2.2 gi_self))))) rfl rfl rfl hy hRR) ⟨gPre_blind, va_recv hK hP0 hc hq0, fun U hU hW => ⟨by rw [← ha]; rfl, by rw [hU], by rw [hU]; exact hP0, va_K.moved hW.alike hK, (hD σ).weaken (fun _ _ _ _ => trivial), gN.warm hW hNs⟩⟩ rfl hna hl.1 hst (lv_room hrest) hd hf) hS (fun q _ h => hAA q h) hAA (fun u t H1 locs1 ht _ hq hB _ _ hS1 => kk u hq H1 locs1 arr hn (by rw [← ht]; exact hB) hS1 hl)
theorem g_cSV {Lw : gL} {l : Launch} {X : gC} {cc : ByteArray} {own : String} {dd ca sa k n pc : Nat} {ls : List (Option Value)} {st : List Value} {σ : Mem} {y : MethodName} {idx : Nat} {bytes : ByteArray} {maxL d mc ms : Nat} (na : Nat) {av : (Nat → Nat) → List Value} {P : Mem → Prop} {Q : Mem → Mem → Prop} {As rest : List Value} (hC : gOk Lw l X cc own dd ca sa) (hM : gMV Lw l y (.code y bytes maxL none) d mc ms av P Q) (hw1 : Cond.methodLink own idx y ∈ TB) (hw2 : Cond.static y ∈ TB ∧ Cond.initialized y.cls ∈ TB ∧ Cond.code y bytes maxL none ∈ TB) (hy : y.cls ≠ "java/lang/invoke/MethodHandle" ∧ y.cls ≠ "java/lang/invoke/VarHandle" ∧ (parseMethodDescriptor y.desc).map (fun d => d.parameters.length) = some na) (hR9 : d + 1 ≤ dd ∧ maxL ≤ 21) (hf : k + mc ≤ ca ∧ n + ms ≤ sa) (ha : av (gA X) = As) (hna : As.length = na) (hrest : (rest.map fun v => v.category).sum ≤ 8) (hst : st = As.reverse ++ rest) (hd : decode cc pc = .ok (.invokestatic idx, 3)) (hP : P σ) (kk : ∀ (σ1 : Mem), Q σ σ1 → G Lw X (k + mc) (n + ms) (pc + 3) ls rest σ1) : G Lw X k n pc ls st σ := by
  obtain ⟨p, l', e, R, s, m, args, below, meth, c, nL, H0, A, E, Q⟩ := X
  obtain ⟨hx, hb, hml, hown, hTB, hK, hD, hA, hR, hlocks, rfl, hh0, hNs⟩ := hC
  subst hR
  have hRR : (gR d mc ms).frames + 1 ≤ (gR dd ca sa).frames ∧ 8 + (maxL + 11) + (gR d mc ms).locals ≤ (gR dd ca sa).locals := by
    refine ⟨hR9.1, ?_⟩
    show 8 + (maxL + 11) + 40 * d ≤ 40 * dd
    omega
  intro H locs arr hn hP0 hS hl
  have hAA : ∀ q, va_A (gW Lw E σ) H.size q → A q := fun q h => h.elim (fun ⟨i, e1, h1⟩ => (hD σ).2 i (q, e1) h1) (fun h1 => hA q (Nat.le_trans hS.1 h1))
  exact va_callv (va_runS (As := As) (rest := rest) (Ts := TB) (own := own) ⟨hx, hb, hml, hown, hTB⟩ (hM E σ H.size hP) (va_cwS (ret := none) (bytes := bytes) (maxL := maxL) na hTB (gi_cons hw1 (gi_cons hw2.1 (gi_cons hw2.2.1 (gi_cons hw2.2.2 gi_self)))) rfl rfl rfl hy hRR) ⟨gPre_blind, fun U hU hW => ⟨by rw [← ha]; rfl, by rw [hU], by rw [hU]; exact hP0, va_K.moved hW.alike hK, (hD σ).weaken (fun _ _ _ _ => trivial), gN.warm hW hNs⟩⟩ rfl hna hl.1 hst (lv_room hrest) hd hf) hS (fun q _ h => hAA q h) hAA (fun u t H1 locs1 ht _ hq hB _ _ hS1 => kk u hq H1 locs1 arr hn (by rw [← ht]; exact hB) hS1 hl)
theorem wd_mabs : Cond.static Lib.Math.abs.name ∈ TB ∧ Cond.initialized "java/lang/Math" ∈ TB ∧ Cond.code Lib.Math.abs.name Lib.Math.abs.code 1 (some .int) ∈ TB := ⟨tw_2_173, tw_1_14, tw_2_174⟩
theorem g_mabs {Lw : gL} {l : Launch} {X : gC} {cc : ByteArray} {own : String} {dd ca sa k n pc : Nat} {ls : List (Option Value)} {st : List Value} {σ : Mem} {x : Int32} {idx : Nat} (hC : gOk Lw l X cc own dd ca sa) (hdd : 1 ≤ dd) (hlk : Cond.methodLink own idx Lib.Math.abs.name ∈ TB) (hrest : (st.map fun v => v.category).sum ≤ 8) (hf : k ≤ ca ∧ n ≤ sa) (hd : decode cc pc = .ok (.invokestatic idx, 3)) (kk : G Lw X k n (pc + 3) ls (.int (if 0 ≤ x then x else 0 - x) :: st) σ) : G Lw X k n pc ls (.int x :: st) σ := by
  obtain ⟨p, l', e, R, s, m, args, below, meth, c, nL, H0, A, E, Q⟩ := X
  obtain ⟨hx, hb, hml, hown, hTB, hK, hD, hA, hR, hlocks, rfl, hh0, hNs⟩ := hC
  subst hR
  exact fun H locs arr hn hP0 hS hl => va_mabs hx hb (hml.trans hl.1.symm) hown (hTB _ hlk) (hTB _ wd_mabs.1) (hTB _ wd_mabs.2.1) (hTB _ wd_mabs.2.2) hdd (by show _ ≤ 40 * dd; omega) hf.1 hf.2 hd (kk H locs arr hn hP0 hS hl)
theorem wd_mmax : Cond.static Lib.Math.max.name ∈ TB ∧ Cond.initialized "java/lang/Math" ∈ TB ∧ Cond.code Lib.Math.max.name Lib.Math.max.code 2 (some .int) ∈ TB := ⟨tw_2_176, tw_1_14, tw_2_177⟩
theorem g_mmax {Lw : gL} {l : Launch} {X : gC} {cc : ByteArray} {own : String} {dd ca sa k n pc : Nat} {ls : List (Option Value)} {st : List Value} {σ : Mem} {x y : Int32} {idx : Nat} (hC : gOk Lw l X cc own dd ca sa) (hdd : 1 ≤ dd) (hlk : Cond.methodLink own idx Lib.Math.max.name ∈ TB) (hrest : (st.map fun v => v.category).sum ≤ 8) (hf : k ≤ ca ∧ n ≤ sa) (hd : decode cc pc = .ok (.invokestatic idx, 3)) (kk : G Lw X k n (pc + 3) ls (.int (if x < y then y else x) :: st) σ) : G Lw X k n pc ls (.int y :: .int x :: st) σ := by
  obtain ⟨p, l', e, R, s, m, args, below, meth, c, nL, H0, A, E, Q⟩ := X
  obtain ⟨hx, hb, hml, hown, hTB, hK, hD, hA, hR, hlocks, rfl, hh0, hNs⟩ := hC
  subst hR
  exact fun H locs arr hn hP0 hS hl => va_mmax hx hb (hml.trans hl.1.symm) hown (hTB _ hlk) (hTB _ wd_mmax.1) (hTB _ wd_mmax.2.1) (hTB _ wd_mmax.2.2) hdd (by show _ ≤ 40 * dd; omega) hf.1 hf.2 hd (kk H locs arr hn hP0 hS hl)
theorem wd_mmin : Cond.static Lib.Math.min.name ∈ TB ∧ Cond.initialized "java/lang/Math" ∈ TB ∧ Cond.code Lib.Math.min.name Lib.Math.min.code 2 (some .int) ∈ TB := ⟨tw_2_192, tw_1_14, tw_2_193⟩
theorem g_mmin {Lw : gL} {l : Launch} {X : gC} {cc : ByteArray} {own : String} {dd ca sa k n pc : Nat} {ls : List (Option Value)} {st : List Value} {σ : Mem} {x y : Int32} {idx : Nat} (hC : gOk Lw l X cc own dd ca sa) (hdd : 1 ≤ dd) (hlk : Cond.methodLink own idx Lib.Math.min.name ∈ TB) (hrest : (st.map fun v => v.category).sum ≤ 8) (hf : k ≤ ca ∧ n ≤ sa) (hd : decode cc pc = .ok (.invokestatic idx, 3)) (kk : G Lw X k n (pc + 3) ls (.int (if y < x then y else x) :: st) σ) : G Lw X k n pc ls (.int y :: .int x :: st) σ := by
  obtain ⟨p, l', e, R, s, m, args, below, meth, c, nL, H0, A, E, Q⟩ := X
  obtain ⟨hx, hb, hml, hown, hTB, hK, hD, hA, hR, hlocks, rfl, hh0, hNs⟩ := hC
  subst hR
  exact fun H locs arr hn hP0 hS hl => va_mmin hx hb (hml.trans hl.1.symm) hown (hTB _ hlk) (hTB _ wd_mmin.1) (hTB _ wd_mmin.2.1) (hTB _ wd_mmin.2.2) hdd (by show _ ≤ 40 * dd; omega) hf.1 hf.2 hd (kk H locs arr hn hP0 hS hl)
end
section
/-! the class's world: 195 cells, numbered in the order in which they are made -/
def iFlaw (f : Nat) : Nat := 5 + 4 * f
def iStone (s : Nat) : Nat := 46 + 18 * s
def iPl (s k : Nat) : Nat := 48 + 18 * s + k
def xk (i : Nat) : Nat := if i < 5 then i else if i < 45 then 5 + (i - 5) % 4 else if i = 45 then 9 else if i < 190 then (if (i - 46) % 18 = 0 then 10 else if (i - 46) % 18 = 1 then 11 else 12) else if i = 191 then 12 else i - 177
def xE (E : gE) (ρ : Nat → Int32) (i : Nat) : va_E := match xk i with
  | 0 => .inr (5, [.ref (E.2.1 1), .ref (E.2.1 45), .ref (E.2.1 190), .int (ρ 3), .int (ρ 4), .int (ρ 5)])
  | 1 => .inr (2, [.int (ρ 0), .int (ρ 1), .int (ρ 2), .ref (E.2.1 2), .ref (E.2.1 3), .ref (E.2.1 4), .int (ρ 6)])
  | 2 => .inl (E.2.2 0, 1000, .inl ρ)
  | 3 => .inl (E.2.2 1, 1000, .inl ρ)
  | 4 => .inl (E.2.2 2, 10, .inr (.inr (.inr (.inr (fun j => some (E.2.1 (iFlaw j)))))))
  | 5 => .inr (0, [.int (ρ 0), .ref (E.2.1 (i + 1)), .int (ρ 2), .ref (E.2.1 (i + 2)), .ref (E.2.1 (i + 3))])
  | 6 => .inl (E.2.2 0, 63, .inl ρ)
  | 7 => .inl (E.2.2 0, 8, .inl ρ)
  | 8 => .inl (E.2.2 0, 8, .inl ρ)
  | 9 => .inl (E.2.2 4, 8, .inr (.inr (.inr (.inr (fun j => some (E.2.1 (iStone j)))))))
  | 10 => .inr (3, [.int (ρ 0), .ref (E.2.1 (i + 1)), .int (ρ 2), .int (ρ 3), .int (ρ 4)])
  | 11 => .inl (E.2.2 3, 16, .inr (.inr (.inr (.inr (fun j => some (E.2.1 (i + 1 + j)))))))
  | 12 => .inr (1, [.int (ρ 0), .int (ρ 1), .int (ρ 2), .int (ρ 3), .int (ρ 4), .int (ρ 5), .int (ρ 6)])
  | 13 => .inr (4, [.ref (E.2.1 1), .ref (E.2.1 (iStone (ρ 1).toNatClampNeg)), .ref (E.2.1 191), .ref (E.2.1 192), .ref (E.2.1 193), .ref (E.2.1 194)])
  | 15 => .inl (E.2.2 0, 1000, .inl ρ)
  | 16 => .inl (E.2.2 0, 163, .inl ρ)
  | _ => .inl (E.2.2 0, 16, .inl ρ)
def wX : gL := (195, xE)
theorem iFlaw_lt {f : Nat} (h : f < 10) : iFlaw f < wX.1 := by show 5 + 4 * f < 195; omega
theorem iFlaw1_lt {f : Nat} (h : f < 10) : iFlaw f + 1 < wX.1 := by show 5 + 4 * f + 1 < 195; omega
theorem iFlaw2_lt {f : Nat} (h : f < 10) : iFlaw f + 2 < wX.1 := by show 5 + 4 * f + 2 < 195; omega
theorem iFlaw3_lt {f : Nat} (h : f < 10) : iFlaw f + 3 < wX.1 := by show 5 + 4 * f + 3 < 195; omega
theorem iStone_lt {s : Nat} (h : s < 8) : iStone s < wX.1 := by show 46 + 18 * s < 195; omega
theorem iStone1_lt {s : Nat} (h : s < 8) : iStone s + 1 < wX.1 := by show 46 + 18 * s + 1 < 195; omega
theorem isP_lt {i : Nat} (h : xk i = 12) : i < wX.1 := by
  show i < 195
  rcases Nat.lt_or_ge i 195 with q | q
  · exact q
  · unfold xk at h
    rw [if_neg (by omega), if_neg (by omega), if_neg (by omega), if_neg (by omega), if_neg (by omega)] at h
    omega
theorem xk_flaw : ∀ f, f < 10 → xk (iFlaw f) = 5 := by decide +kernel
theorem xk_flaw1 : ∀ f, f < 10 → xk (iFlaw f + 1) = 6 := by decide +kernel
theorem xk_flaw2 : ∀ f, f < 10 → xk (iFlaw f + 2) = 7 := by decide +kernel
theorem xk_flaw3 : ∀ f, f < 10 → xk (iFlaw f + 3) = 8 := by decide +kernel
theorem xk_stone : ∀ s, s < 8 → xk (iStone s) = 10 := by decide +kernel
theorem xk_stone1 : ∀ s, s < 8 → xk (iStone s + 1) = 11 := by decide +kernel
theorem xk_pl : ∀ s, s < 8 → ∀ k, k < 16 → xk (iPl s k) = 12 := by decide +kernel
theorem xk_tried : xk 191 = 12 := by decide +kernel

theorem xe_GemCut (E : gE) (ρ : Nat → Int32) : wX.2 E ρ 0 = .inr (5, [.ref (E.2.1 1), .ref (E.2.1 45), .ref (E.2.1 190), .int (ρ 3), .int (ρ 4), .int (ρ 5)]) := rfl
theorem xe_Rough (E : gE) (ρ : Nat → Int32) : wX.2 E ρ 1 = .inr (2, [.int (ρ 0), .int (ρ 1), .int (ρ 2), .ref (E.2.1 2), .ref (E.2.1 3), .ref (E.2.1 4), .int (ρ 6)]) := rfl
theorem xe_owner (E : gE) (ρ : Nat → Int32) : wX.2 E ρ 2 = .inl (E.2.2 0, 1000, .inl ρ) := rfl
theorem xe_bare (E : gE) (ρ : Nat → Int32) : wX.2 E ρ 3 = .inl (E.2.2 1, 1000, .inl ρ) := rfl
theorem xe_flawsA (E : gE) (ρ : Nat → Int32) : wX.2 E ρ 4 = .inl (E.2.2 2, 10, .inr (.inr (.inr (.inr (fun j => some (E.2.1 (iFlaw j))))))) := rfl
theorem xe_stonesA (E : gE) (ρ : Nat → Int32) : wX.2 E ρ 45 = .inl (E.2.2 4, 8, .inr (.inr (.inr (.inr (fun j => some (E.2.1 (iStone j))))))) := rfl
theorem xe_Trial (E : gE) (ρ : Nat → Int32) : wX.2 E ρ 190 = .inr (4, [.ref (E.2.1 1), .ref (E.2.1 (iStone (ρ 1).toNatClampNeg)), .ref (E.2.1 191), .ref (E.2.1 192), .ref (E.2.1 193), .ref (E.2.1 194)]) := rfl
theorem xe_heights (E : gE) (ρ : Nat → Int32) : wX.2 E ρ 192 = .inl (E.2.2 0, 1000, .inl ρ) := rfl
theorem xe_upTo (E : gE) (ρ : Nat → Int32) : wX.2 E ρ 193 = .inl (E.2.2 0, 163, .inl ρ) := rfl
theorem xe_floors (E : gE) (ρ : Nat → Int32) : wX.2 E ρ 194 = .inl (E.2.2 0, 16, .inl ρ) := rfl
theorem xe_Flaw (E : gE) (ρ : Nat → Int32) {f : Nat} (h : f < 10) : wX.2 E ρ (iFlaw f) = .inr (0, [.int (ρ 0), .ref (E.2.1 (iFlaw f + 1)), .int (ρ 2), .ref (E.2.1 (iFlaw f + 2)), .ref (E.2.1 (iFlaw f + 3))]) := by
  show xE E ρ (iFlaw f) = _
  unfold xE
  rw [xk_flaw f h]
  rfl
theorem xe_FC (E : gE) (ρ : Nat → Int32) {f : Nat} (h : f < 10) : wX.2 E ρ (iFlaw f + 1) = .inl (E.2.2 0, 63, .inl ρ) := by
  show xE E ρ (iFlaw f + 1) = _
  unfold xE
  rw [xk_flaw1 f h]
  rfl
theorem xe_FI (E : gE) (ρ : Nat → Int32) {f : Nat} (h : f < 10) : wX.2 E ρ (iFlaw f + 2) = .inl (E.2.2 0, 8, .inl ρ) := by
  show xE E ρ (iFlaw f + 2) = _
  unfold xE
  rw [xk_flaw2 f h]
  rfl
theorem xe_FB (E : gE) (ρ : Nat → Int32) {f : Nat} (h : f < 10) : wX.2 E ρ (iFlaw f + 3) = .inl (E.2.2 0, 8, .inl ρ) := by
  show xE E ρ (iFlaw f + 3) = _
  unfold xE
  rw [xk_flaw3 f h]
  rfl
theorem xe_Stone (E : gE) (ρ : Nat → Int32) {s : Nat} (h : s < 8) : wX.2 E ρ (iStone s) = .inr (3, [.int (ρ 0), .ref (E.2.1 (iStone s + 1)), .int (ρ 2), .int (ρ 3), .int (ρ 4)]) := by
  show xE E ρ (iStone s) = _
  unfold xE
  rw [xk_stone s h]
  rfl
theorem xe_Pls (E : gE) (ρ : Nat → Int32) {s : Nat} (h : s < 8) : wX.2 E ρ (iStone s + 1) = .inl (E.2.2 3, 16, .inr (.inr (.inr (.inr (fun j => some (E.2.1 (iStone s + 1 + 1 + j))))))) := by
  show xE E ρ (iStone s + 1) = _
  unfold xE
  rw [xk_stone1 s h]
  rfl
theorem xe_Plane (E : gE) (ρ : Nat → Int32) {i : Nat} (h : xk i = 12) : wX.2 E ρ (i) = .inr (1, [.int (ρ 0), .int (ρ 1), .int (ρ 2), .int (ρ 3), .int (ρ 4), .int (ρ 5), .int (ρ 6)]) := by
  show xE E ρ (i) = _
  unfold xE
  rw [h]
  rfl
theorem xg_GemCut_rough {l : Launch} {X : gC} {cc : ByteArray} {own : String} {dd ca sa k n pc : Nat} {ls : List (Option Value)} {st : List Value} {σ : Mem} {idx : Nat}  (hC : gOk wX l X cc own dd ca sa)  (hlk : Cond.fieldLink own idx "GemCut" "rough" "LGemCut$Rough;" ∈ TB) (hd : decode cc pc = .ok (.getfield idx, 3)) (kk : G wX X k n (pc + 3) ls (.ref (gA X (1)) :: st) σ) : G wX X k n pc ls (.ref (gA X (0)) :: st) σ := g_get hC iw_X5 rfl (by decide) (xe_GemCut _ _) 0 (by decide) hlk rfl hd kk
theorem xg_GemCut_stones {l : Launch} {X : gC} {cc : ByteArray} {own : String} {dd ca sa k n pc : Nat} {ls : List (Option Value)} {st : List Value} {σ : Mem} {idx : Nat}  (hC : gOk wX l X cc own dd ca sa)  (hlk : Cond.fieldLink own idx "GemCut" "stones" "[LGemCut$Stone;" ∈ TB) (hd : decode cc pc = .ok (.getfield idx, 3)) (kk : G wX X k n (pc + 3) ls (.ref (gA X (45)) :: st) σ) : G wX X k n pc ls (.ref (gA X (0)) :: st) σ := g_get hC iw_X5 rfl (by decide) (xe_GemCut _ _) 1 (by decide) hlk rfl hd kk
theorem xg_GemCut_trial {l : Launch} {X : gC} {cc : ByteArray} {own : String} {dd ca sa k n pc : Nat} {ls : List (Option Value)} {st : List Value} {σ : Mem} {idx : Nat}  (hC : gOk wX l X cc own dd ca sa)  (hlk : Cond.fieldLink own idx "GemCut" "trial" "LGemCut$Trial;" ∈ TB) (hd : decode cc pc = .ok (.getfield idx, 3)) (kk : G wX X k n (pc + 3) ls (.ref (gA X (190)) :: st) σ) : G wX X k n pc ls (.ref (gA X (0)) :: st) σ := g_get hC iw_X5 rfl (by decide) (xe_GemCut _ _) 2 (by decide) hlk rfl hd kk
theorem xg_GemCut_stoneCount {l : Launch} {X : gC} {cc : ByteArray} {own : String} {dd ca sa k n pc : Nat} {ls : List (Option Value)} {st : List Value} {σ : Mem} {idx : Nat}  (hC : gOk wX l X cc own dd ca sa)  (hlk : Cond.fieldLink own idx "GemCut" "stoneCount" "I" ∈ TB) (hd : decode cc pc = .ok (.getfield idx, 3)) (kk : G wX X k n (pc + 3) ls (.int (σ (0) 3) :: st) σ) : G wX X k n pc ls (.ref (gA X (0)) :: st) σ := g_get hC iw_X5 rfl (by decide) (xe_GemCut _ _) 3 (by decide) hlk rfl hd kk
theorem xp_GemCut_stoneCount {l : Launch} {X : gC} {cc : ByteArray} {own : String} {dd ca sa k n pc : Nat} {ls : List (Option Value)} {st : List Value} {σ : Mem} {idx : Nat} {x : Int32}  (hC : gOk wX l X cc own dd ca sa)  (hlk : Cond.fieldLink own idx "GemCut" "stoneCount" "I" ∈ TB) (hd : decode cc pc = .ok (.putfield idx, 3)) (kk : G wX X k n (pc + 3) ls st (upd2 σ (0) 3 x)) : G wX X k n pc ls (.int x :: .ref (gA X (0)) :: st) σ := g_put (ty := .int) tyX5 hC iw_X5 tyX5_ok nmX5 rfl (by decide) (xe_GemCut _ _) 3 (by decide) hlk rfl (by decide +kernel) rfl rfl (Nat.le_of_ble_eq_true rfl) (by rw [xe_GemCut _ _]; rfl) hd kk
theorem xg_GemCut_turns {l : Launch} {X : gC} {cc : ByteArray} {own : String} {dd ca sa k n pc : Nat} {ls : List (Option Value)} {st : List Value} {σ : Mem} {idx : Nat}  (hC : gOk wX l X cc own dd ca sa)  (hlk : Cond.fieldLink own idx "GemCut" "turns" "I" ∈ TB) (hd : decode cc pc = .ok (.getfield idx, 3)) (kk : G wX X k n (pc + 3) ls (.int (σ (0) 4) :: st) σ) : G wX X k n pc ls (.ref (gA X (0)) :: st) σ := g_get hC iw_X5 rfl (by decide) (xe_GemCut _ _) 4 (by decide) hlk rfl hd kk
theorem xp_GemCut_turns {l : Launch} {X : gC} {cc : ByteArray} {own : String} {dd ca sa k n pc : Nat} {ls : List (Option Value)} {st : List Value} {σ : Mem} {idx : Nat} {x : Int32}  (hC : gOk wX l X cc own dd ca sa)  (hlk : Cond.fieldLink own idx "GemCut" "turns" "I" ∈ TB) (hd : decode cc pc = .ok (.putfield idx, 3)) (kk : G wX X k n (pc + 3) ls st (upd2 σ (0) 4 x)) : G wX X k n pc ls (.int x :: .ref (gA X (0)) :: st) σ := g_put (ty := .int) tyX5 hC iw_X5 tyX5_ok nmX5 rfl (by decide) (xe_GemCut _ _) 4 (by decide) hlk rfl (by decide +kernel) rfl rfl (Nat.le_of_ble_eq_true rfl) (by rw [xe_GemCut _ _]; rfl) hd kk
theorem xg_GemCut_spent {l : Launch} {X : gC} {cc : ByteArray} {own : String} {dd ca sa k n pc : Nat} {ls : List (Option Value)} {st : List Value} {σ : Mem} {idx : Nat}  (hC : gOk wX l X cc own dd ca sa)  (hlk : Cond.fieldLink own idx "GemCut" "spent" "I" ∈ TB) (hd : decode cc pc = .ok (.getfield idx, 3)) (kk : G wX X k n (pc + 3) ls (.int (σ (0) 5) :: st) σ) : G wX X k n pc ls (.ref (gA X (0)) :: st) σ := g_get hC iw_X5 rfl (by decide) (xe_GemCut _ _) 5 (by decide) hlk rfl hd kk
theorem xp_GemCut_spent {l : Launch} {X : gC} {cc : ByteArray} {own : String} {dd ca sa k n pc : Nat} {ls : List (Option Value)} {st : List Value} {σ : Mem} {idx : Nat} {x : Int32}  (hC : gOk wX l X cc own dd ca sa)  (hlk : Cond.fieldLink own idx "GemCut" "spent" "I" ∈ TB) (hd : decode cc pc = .ok (.putfield idx, 3)) (kk : G wX X k n (pc + 3) ls st (upd2 σ (0) 5 x)) : G wX X k n pc ls (.int x :: .ref (gA X (0)) :: st) σ := g_put (ty := .int) tyX5 hC iw_X5 tyX5_ok nmX5 rfl (by decide) (xe_GemCut _ _) 5 (by decide) hlk rfl (by decide +kernel) rfl rfl (Nat.le_of_ble_eq_true rfl) (by rw [xe_GemCut _ _]; rfl) hd kk
theorem xg_Rough_columns {l : Launch} {X : gC} {cc : ByteArray} {own : String} {dd ca sa k n pc : Nat} {ls : List (Option Value)} {st : List Value} {σ : Mem} {idx : Nat}  (hC : gOk wX l X cc own dd ca sa)  (hlk : Cond.fieldLink own idx "GemCut$Rough" "columns" "I" ∈ TB) (hd : decode cc pc = .ok (.getfield idx, 3)) (kk : G wX X k n (pc + 3) ls (.int (σ (1) 0) :: st) σ) : G wX X k n pc ls (.ref (gA X (1)) :: st) σ := g_get hC iw_X2 rfl (by decide) (xe_Rough _ _) 0 (by decide) hlk rfl hd kk
theorem xp_Rough_columns {l : Launch} {X : gC} {cc : ByteArray} {own : String} {dd ca sa k n pc : Nat} {ls : List (Option Value)} {st : List Value} {σ : Mem} {idx : Nat} {x : Int32}  (hC : gOk wX l X cc own dd ca sa)  (hlk : Cond.fieldLink own idx "GemCut$Rough" "columns" "I" ∈ TB) (hd : decode cc pc = .ok (.putfield idx, 3)) (kk : G wX X k n (pc + 3) ls st (upd2 σ (1) 0 x)) : G wX X k n pc ls (.int x :: .ref (gA X (1)) :: st) σ := g_put (ty := .int) tyX2 hC iw_X2 tyX2_ok nmX2 rfl (by decide) (xe_Rough _ _) 0 (by decide) hlk rfl (by decide +kernel) rfl rfl (Nat.le_of_ble_eq_true rfl) (by rw [xe_Rough _ _]; rfl) hd kk
theorem xg_Rough_rows {l : Launch} {X : gC} {cc : ByteArray} {own : String} {dd ca sa k n pc : Nat} {ls : List (Option Value)} {st : List Value} {σ : Mem} {idx : Nat}  (hC : gOk wX l X cc own dd ca sa)  (hlk : Cond.fieldLink own idx "GemCut$Rough" "rows" "I" ∈ TB) (hd : decode cc pc = .ok (.getfield idx, 3)) (kk : G wX X k n (pc + 3) ls (.int (σ (1) 1) :: st) σ) : G wX X k n pc ls (.ref (gA X (1)) :: st) σ := g_get hC iw_X2 rfl (by decide) (xe_Rough _ _) 1 (by decide) hlk rfl hd kk
theorem xp_Rough_rows {l : Launch} {X : gC} {cc : ByteArray} {own : String} {dd ca sa k n pc : Nat} {ls : List (Option Value)} {st : List Value} {σ : Mem} {idx : Nat} {x : Int32}  (hC : gOk wX l X cc own dd ca sa)  (hlk : Cond.fieldLink own idx "GemCut$Rough" "rows" "I" ∈ TB) (hd : decode cc pc = .ok (.putfield idx, 3)) (kk : G wX X k n (pc + 3) ls st (upd2 σ (1) 1 x)) : G wX X k n pc ls (.int x :: .ref (gA X (1)) :: st) σ := g_put (ty := .int) tyX2 hC iw_X2 tyX2_ok nmX2 rfl (by decide) (xe_Rough _ _) 1 (by decide) hlk rfl (by decide +kernel) rfl rfl (Nat.le_of_ble_eq_true rfl) (by rw [xe_Rough _ _]; rfl) hd kk
theorem xg_Rough_layers {l : Launch} {X : gC} {cc : ByteArray} {own : String} {dd ca sa k n pc : Nat} {ls : List (Option Value)} {st : List Value} {σ : Mem} {idx : Nat}  (hC : gOk wX l X cc own dd ca sa)  (hlk : Cond.fieldLink own idx "GemCut$Rough" "layers" "I" ∈ TB) (hd : decode cc pc = .ok (.getfield idx, 3)) (kk : G wX X k n (pc + 3) ls (.int (σ (1) 2) :: st) σ) : G wX X k n pc ls (.ref (gA X (1)) :: st) σ := g_get hC iw_X2 rfl (by decide) (xe_Rough _ _) 2 (by decide) hlk rfl hd kk
theorem xp_Rough_layers {l : Launch} {X : gC} {cc : ByteArray} {own : String} {dd ca sa k n pc : Nat} {ls : List (Option Value)} {st : List Value} {σ : Mem} {idx : Nat} {x : Int32}  (hC : gOk wX l X cc own dd ca sa)  (hlk : Cond.fieldLink own idx "GemCut$Rough" "layers" "I" ∈ TB) (hd : decode cc pc = .ok (.putfield idx, 3)) (kk : G wX X k n (pc + 3) ls st (upd2 σ (1) 2 x)) : G wX X k n pc ls (.int x :: .ref (gA X (1)) :: st) σ := g_put (ty := .int) tyX2 hC iw_X2 tyX2_ok nmX2 rfl (by decide) (xe_Rough _ _) 2 (by decide) hlk rfl (by decide +kernel) rfl rfl (Nat.le_of_ble_eq_true rfl) (by rw [xe_Rough _ _]; rfl) hd kk
theorem xg_Rough_owner {l : Launch} {X : gC} {cc : ByteArray} {own : String} {dd ca sa k n pc : Nat} {ls : List (Option Value)} {st : List Value} {σ : Mem} {idx : Nat}  (hC : gOk wX l X cc own dd ca sa)  (hlk : Cond.fieldLink own idx "GemCut$Rough" "owner" "[I" ∈ TB) (hd : decode cc pc = .ok (.getfield idx, 3)) (kk : G wX X k n (pc + 3) ls (.ref (gA X (2)) :: st) σ) : G wX X k n pc ls (.ref (gA X (1)) :: st) σ := g_get hC iw_X2 rfl (by decide) (xe_Rough _ _) 3 (by decide) hlk rfl hd kk
theorem xg_Rough_bare {l : Launch} {X : gC} {cc : ByteArray} {own : String} {dd ca sa k n pc : Nat} {ls : List (Option Value)} {st : List Value} {σ : Mem} {idx : Nat}  (hC : gOk wX l X cc own dd ca sa)  (hlk : Cond.fieldLink own idx "GemCut$Rough" "bare" "[Z" ∈ TB) (hd : decode cc pc = .ok (.getfield idx, 3)) (kk : G wX X k n (pc + 3) ls (.ref (gA X (3)) :: st) σ) : G wX X k n pc ls (.ref (gA X (1)) :: st) σ := g_get hC iw_X2 rfl (by decide) (xe_Rough _ _) 4 (by decide) hlk rfl hd kk
theorem xg_Rough_flaws {l : Launch} {X : gC} {cc : ByteArray} {own : String} {dd ca sa k n pc : Nat} {ls : List (Option Value)} {st : List Value} {σ : Mem} {idx : Nat}  (hC : gOk wX l X cc own dd ca sa)  (hlk : Cond.fieldLink own idx "GemCut$Rough" "flaws" "[LGemCut$Flaw;" ∈ TB) (hd : decode cc pc = .ok (.getfield idx, 3)) (kk : G wX X k n (pc + 3) ls (.ref (gA X (4)) :: st) σ) : G wX X k n pc ls (.ref (gA X (1)) :: st) σ := g_get hC iw_X2 rfl (by decide) (xe_Rough _ _) 5 (by decide) hlk rfl hd kk
theorem xg_Rough_flawCount {l : Launch} {X : gC} {cc : ByteArray} {own : String} {dd ca sa k n pc : Nat} {ls : List (Option Value)} {st : List Value} {σ : Mem} {idx : Nat}  (hC : gOk wX l X cc own dd ca sa)  (hlk : Cond.fieldLink own idx "GemCut$Rough" "flawCount" "I" ∈ TB) (hd : decode cc pc = .ok (.getfield idx, 3)) (kk : G wX X k n (pc + 3) ls (.int (σ (1) 6) :: st) σ) : G wX X k n pc ls (.ref (gA X (1)) :: st) σ := g_get hC iw_X2 rfl (by decide) (xe_Rough _ _) 6 (by decide) hlk rfl hd kk
theorem xp_Rough_flawCount {l : Launch} {X : gC} {cc : ByteArray} {own : String} {dd ca sa k n pc : Nat} {ls : List (Option Value)} {st : List Value} {σ : Mem} {idx : Nat} {x : Int32}  (hC : gOk wX l X cc own dd ca sa)  (hlk : Cond.fieldLink own idx "GemCut$Rough" "flawCount" "I" ∈ TB) (hd : decode cc pc = .ok (.putfield idx, 3)) (kk : G wX X k n (pc + 3) ls st (upd2 σ (1) 6 x)) : G wX X k n pc ls (.int x :: .ref (gA X (1)) :: st) σ := g_put (ty := .int) tyX2 hC iw_X2 tyX2_ok nmX2 rfl (by decide) (xe_Rough _ _) 6 (by decide) hlk rfl (by decide +kernel) rfl rfl (Nat.le_of_ble_eq_true rfl) (by rw [xe_Rough _ _]; rfl) hd kk
theorem xg_Flaw_severity {l : Launch} {X : gC} {cc : ByteArray} {own : String} {dd ca sa k n pc : Nat} {ls : List (Option Value)} {st : List Value} {σ : Mem} {idx : Nat} {f : Nat} (hC : gOk wX l X cc own dd ca sa) (hf : f < 10) (hlk : Cond.fieldLink own idx "GemCut$Flaw" "severity" "I" ∈ TB) (hd : decode cc pc = .ok (.getfield idx, 3)) (kk : G wX X k n (pc + 3) ls (.int (σ (iFlaw f) 0) :: st) σ) : G wX X k n pc ls (.ref (gA X (iFlaw f)) :: st) σ := g_get hC iw_X0 rfl (iFlaw_lt hf) (xe_Flaw _ _ hf) 0 (by decide) hlk rfl hd kk
theorem xp_Flaw_severity {l : Launch} {X : gC} {cc : ByteArray} {own : String} {dd ca sa k n pc : Nat} {ls : List (Option Value)} {st : List Value} {σ : Mem} {idx : Nat} {x : Int32} {f : Nat} (hC : gOk wX l X cc own dd ca sa) (hf : f < 10) (hlk : Cond.fieldLink own idx "GemCut$Flaw" "severity" "I" ∈ TB) (hd : decode cc pc = .ok (.putfield idx, 3)) (kk : G wX X k n (pc + 3) ls st (upd2 σ (iFlaw f) 0 x)) : G wX X k n pc ls (.int x :: .ref (gA X (iFlaw f)) :: st) σ := g_put (ty := .int) tyX0 hC iw_X0 tyX0_ok nmX0 rfl (iFlaw_lt hf) (xe_Flaw _ _ hf) 0 (by decide) hlk rfl (by decide +kernel) rfl rfl (Nat.le_of_ble_eq_true rfl) (by rw [xe_Flaw _ _ hf]; rfl) hd kk
theorem xg_Flaw_cells {l : Launch} {X : gC} {cc : ByteArray} {own : String} {dd ca sa k n pc : Nat} {ls : List (Option Value)} {st : List Value} {σ : Mem} {idx : Nat} {f : Nat} (hC : gOk wX l X cc own dd ca sa) (hf : f < 10) (hlk : Cond.fieldLink own idx "GemCut$Flaw" "cells" "[I" ∈ TB) (hd : decode cc pc = .ok (.getfield idx, 3)) (kk : G wX X k n (pc + 3) ls (.ref (gA X (iFlaw f + 1)) :: st) σ) : G wX X k n pc ls (.ref (gA X (iFlaw f)) :: st) σ := g_get hC iw_X0 rfl (iFlaw_lt hf) (xe_Flaw _ _ hf) 1 (by decide) hlk rfl hd kk
theorem xg_Flaw_cellCount {l : Launch} {X : gC} {cc : ByteArray} {own : String} {dd ca sa k n pc : Nat} {ls : List (Option Value)} {st : List Value} {σ : Mem} {idx : Nat} {f : Nat} (hC : gOk wX l X cc own dd ca sa) (hf : f < 10) (hlk : Cond.fieldLink own idx "GemCut$Flaw" "cellCount" "I" ∈ TB) (hd : decode cc pc = .ok (.getfield idx, 3)) (kk : G wX X k n (pc + 3) ls (.int (σ (iFlaw f) 2) :: st) σ) : G wX X k n pc ls (.ref (gA X (iFlaw f)) :: st) σ := g_get hC iw_X0 rfl (iFlaw_lt hf) (xe_Flaw _ _ hf) 2 (by decide) hlk rfl hd kk
theorem xp_Flaw_cellCount {l : Launch} {X : gC} {cc : ByteArray} {own : String} {dd ca sa k n pc : Nat} {ls : List (Option Value)} {st : List Value} {σ : Mem} {idx : Nat} {x : Int32} {f : Nat} (hC : gOk wX l X cc own dd ca sa) (hf : f < 10) (hlk : Cond.fieldLink own idx "GemCut$Flaw" "cellCount" "I" ∈ TB) (hd : decode cc pc = .ok (.putfield idx, 3)) (kk : G wX X k n (pc + 3) ls st (upd2 σ (iFlaw f) 2 x)) : G wX X k n pc ls (.int x :: .ref (gA X (iFlaw f)) :: st) σ := g_put (ty := .int) tyX0 hC iw_X0 tyX0_ok nmX0 rfl (iFlaw_lt hf) (xe_Flaw _ _ hf) 2 (by decide) hlk rfl (by decide +kernel) rfl rfl (Nat.le_of_ble_eq_true rfl) (by rw [xe_Flaw _ _ hf]; rfl) hd kk
theorem xg_Flaw_cellsIn {l : Launch} {X : gC} {cc : ByteArray} {own : String} {dd ca sa k n pc : Nat} {ls : List (Option Value)} {st : List Value} {σ : Mem} {idx : Nat} {f : Nat} (hC : gOk wX l X cc own dd ca sa) (hf : f < 10) (hlk : Cond.fieldLink own idx "GemCut$Flaw" "cellsIn" "[I" ∈ TB) (hd : decode cc pc = .ok (.getfield idx, 3)) (kk : G wX X k n (pc + 3) ls (.ref (gA X (iFlaw f + 2)) :: st) σ) : G wX X k n pc ls (.ref (gA X (iFlaw f)) :: st) σ := g_get hC iw_X0 rfl (iFlaw_lt hf) (xe_Flaw _ _ hf) 3 (by decide) hlk rfl hd kk
theorem xg_Flaw_bareIn {l : Launch} {X : gC} {cc : ByteArray} {own : String} {dd ca sa k n pc : Nat} {ls : List (Option Value)} {st : List Value} {σ : Mem} {idx : Nat} {f : Nat} (hC : gOk wX l X cc own dd ca sa) (hf : f < 10) (hlk : Cond.fieldLink own idx "GemCut$Flaw" "bareIn" "[I" ∈ TB) (hd : decode cc pc = .ok (.getfield idx, 3)) (kk : G wX X k n (pc + 3) ls (.ref (gA X (iFlaw f + 3)) :: st) σ) : G wX X k n pc ls (.ref (gA X (iFlaw f)) :: st) σ := g_get hC iw_X0 rfl (iFlaw_lt hf) (xe_Flaw _ _ hf) 4 (by decide) hlk rfl hd kk
theorem xg_Stone_number {l : Launch} {X : gC} {cc : ByteArray} {own : String} {dd ca sa k n pc : Nat} {ls : List (Option Value)} {st : List Value} {σ : Mem} {idx : Nat} {s : Nat} (hC : gOk wX l X cc own dd ca sa) (hs : s < 8) (hlk : Cond.fieldLink own idx "GemCut$Stone" "number" "I" ∈ TB) (hd : decode cc pc = .ok (.getfield idx, 3)) (kk : G wX X k n (pc + 3) ls (.int (σ (iStone s) 0) :: st) σ) : G wX X k n pc ls (.ref (gA X (iStone s)) :: st) σ := g_get hC iw_X3 rfl (iStone_lt hs) (xe_Stone _ _ hs) 0 (by decide) hlk rfl hd kk
theorem xg_Stone_planes {l : Launch} {X : gC} {cc : ByteArray} {own : String} {dd ca sa k n pc : Nat} {ls : List (Option Value)} {st : List Value} {σ : Mem} {idx : Nat} {s : Nat} (hC : gOk wX l X cc own dd ca sa) (hs : s < 8) (hlk : Cond.fieldLink own idx "GemCut$Stone" "planes" "[LGemCut$Plane;" ∈ TB) (hd : decode cc pc = .ok (.getfield idx, 3)) (kk : G wX X k n (pc + 3) ls (.ref (gA X (iStone s + 1)) :: st) σ) : G wX X k n pc ls (.ref (gA X (iStone s)) :: st) σ := g_get hC iw_X3 rfl (iStone_lt hs) (xe_Stone _ _ hs) 1 (by decide) hlk rfl hd kk
theorem xg_Stone_planeCount {l : Launch} {X : gC} {cc : ByteArray} {own : String} {dd ca sa k n pc : Nat} {ls : List (Option Value)} {st : List Value} {σ : Mem} {idx : Nat} {s : Nat} (hC : gOk wX l X cc own dd ca sa) (hs : s < 8) (hlk : Cond.fieldLink own idx "GemCut$Stone" "planeCount" "I" ∈ TB) (hd : decode cc pc = .ok (.getfield idx, 3)) (kk : G wX X k n (pc + 3) ls (.int (σ (iStone s) 2) :: st) σ) : G wX X k n pc ls (.ref (gA X (iStone s)) :: st) σ := g_get hC iw_X3 rfl (iStone_lt hs) (xe_Stone _ _ hs) 2 (by decide) hlk rfl hd kk
theorem xp_Stone_planeCount {l : Launch} {X : gC} {cc : ByteArray} {own : String} {dd ca sa k n pc : Nat} {ls : List (Option Value)} {st : List Value} {σ : Mem} {idx : Nat} {x : Int32} {s : Nat} (hC : gOk wX l X cc own dd ca sa) (hs : s < 8) (hlk : Cond.fieldLink own idx "GemCut$Stone" "planeCount" "I" ∈ TB) (hd : decode cc pc = .ok (.putfield idx, 3)) (kk : G wX X k n (pc + 3) ls st (upd2 σ (iStone s) 2 x)) : G wX X k n pc ls (.int x :: .ref (gA X (iStone s)) :: st) σ := g_put (ty := .int) tyX3 hC iw_X3 tyX3_ok nmX3 rfl (iStone_lt hs) (xe_Stone _ _ hs) 2 (by decide) hlk rfl (by decide +kernel) rfl rfl (Nat.le_of_ble_eq_true rfl) (by rw [xe_Stone _ _ hs]; rfl) hd kk
theorem xg_Stone_weight {l : Launch} {X : gC} {cc : ByteArray} {own : String} {dd ca sa k n pc : Nat} {ls : List (Option Value)} {st : List Value} {σ : Mem} {idx : Nat} {s : Nat} (hC : gOk wX l X cc own dd ca sa) (hs : s < 8) (hlk : Cond.fieldLink own idx "GemCut$Stone" "weight" "I" ∈ TB) (hd : decode cc pc = .ok (.getfield idx, 3)) (kk : G wX X k n (pc + 3) ls (.int (σ (iStone s) 3) :: st) σ) : G wX X k n pc ls (.ref (gA X (iStone s)) :: st) σ := g_get hC iw_X3 rfl (iStone_lt hs) (xe_Stone _ _ hs) 3 (by decide) hlk rfl hd kk
theorem xp_Stone_weight {l : Launch} {X : gC} {cc : ByteArray} {own : String} {dd ca sa k n pc : Nat} {ls : List (Option Value)} {st : List Value} {σ : Mem} {idx : Nat} {x : Int32} {s : Nat} (hC : gOk wX l X cc own dd ca sa) (hs : s < 8) (hlk : Cond.fieldLink own idx "GemCut$Stone" "weight" "I" ∈ TB) (hd : decode cc pc = .ok (.putfield idx, 3)) (kk : G wX X k n (pc + 3) ls st (upd2 σ (iStone s) 3 x)) : G wX X k n pc ls (.int x :: .ref (gA X (iStone s)) :: st) σ := g_put (ty := .int) tyX3 hC iw_X3 tyX3_ok nmX3 rfl (iStone_lt hs) (xe_Stone _ _ hs) 3 (by decide) hlk rfl (by decide +kernel) rfl rfl (Nat.le_of_ble_eq_true rfl) (by rw [xe_Stone _ _ hs]; rfl) hd kk
theorem xg_Stone_bareCells {l : Launch} {X : gC} {cc : ByteArray} {own : String} {dd ca sa k n pc : Nat} {ls : List (Option Value)} {st : List Value} {σ : Mem} {idx : Nat} {s : Nat} (hC : gOk wX l X cc own dd ca sa) (hs : s < 8) (hlk : Cond.fieldLink own idx "GemCut$Stone" "bareCells" "I" ∈ TB) (hd : decode cc pc = .ok (.getfield idx, 3)) (kk : G wX X k n (pc + 3) ls (.int (σ (iStone s) 4) :: st) σ) : G wX X k n pc ls (.ref (gA X (iStone s)) :: st) σ := g_get hC iw_X3 rfl (iStone_lt hs) (xe_Stone _ _ hs) 4 (by decide) hlk rfl hd kk
theorem xp_Stone_bareCells {l : Launch} {X : gC} {cc : ByteArray} {own : String} {dd ca sa k n pc : Nat} {ls : List (Option Value)} {st : List Value} {σ : Mem} {idx : Nat} {x : Int32} {s : Nat} (hC : gOk wX l X cc own dd ca sa) (hs : s < 8) (hlk : Cond.fieldLink own idx "GemCut$Stone" "bareCells" "I" ∈ TB) (hd : decode cc pc = .ok (.putfield idx, 3)) (kk : G wX X k n (pc + 3) ls st (upd2 σ (iStone s) 4 x)) : G wX X k n pc ls (.int x :: .ref (gA X (iStone s)) :: st) σ := g_put (ty := .int) tyX3 hC iw_X3 tyX3_ok nmX3 rfl (iStone_lt hs) (xe_Stone _ _ hs) 4 (by decide) hlk rfl (by decide +kernel) rfl rfl (Nat.le_of_ble_eq_true rfl) (by rw [xe_Stone _ _ hs]; rfl) hd kk
theorem xg_Plane_p {l : Launch} {X : gC} {cc : ByteArray} {own : String} {dd ca sa k n pc : Nat} {ls : List (Option Value)} {st : List Value} {σ : Mem} {idx : Nat} {i : Nat} (hC : gOk wX l X cc own dd ca sa) (hi : xk i = 12) (hlk : Cond.fieldLink own idx "GemCut$Plane" "p" "I" ∈ TB) (hd : decode cc pc = .ok (.getfield idx, 3)) (kk : G wX X k n (pc + 3) ls (.int (σ (i) 0) :: st) σ) : G wX X k n pc ls (.ref (gA X (i)) :: st) σ := g_get hC iw_X1 rfl (isP_lt hi) (xe_Plane _ _ hi) 0 (by decide) hlk rfl hd kk
theorem xp_Plane_p {l : Launch} {X : gC} {cc : ByteArray} {own : String} {dd ca sa k n pc : Nat} {ls : List (Option Value)} {st : List Value} {σ : Mem} {idx : Nat} {x : Int32} {i : Nat} (hC : gOk wX l X cc own dd ca sa) (hi : xk i = 12) (hlk : Cond.fieldLink own idx "GemCut$Plane" "p" "I" ∈ TB) (hd : decode cc pc = .ok (.putfield idx, 3)) (kk : G wX X k n (pc + 3) ls st (upd2 σ (i) 0 x)) : G wX X k n pc ls (.int x :: .ref (gA X (i)) :: st) σ := g_put (ty := .int) tyX1 hC iw_X1 tyX1_ok nmX1 rfl (isP_lt hi) (xe_Plane _ _ hi) 0 (by decide) hlk rfl (by decide +kernel) rfl rfl (Nat.le_of_ble_eq_true rfl) (by rw [xe_Plane _ _ hi]; rfl) hd kk
theorem xg_Plane_q {l : Launch} {X : gC} {cc : ByteArray} {own : String} {dd ca sa k n pc : Nat} {ls : List (Option Value)} {st : List Value} {σ : Mem} {idx : Nat} {i : Nat} (hC : gOk wX l X cc own dd ca sa) (hi : xk i = 12) (hlk : Cond.fieldLink own idx "GemCut$Plane" "q" "I" ∈ TB) (hd : decode cc pc = .ok (.getfield idx, 3)) (kk : G wX X k n (pc + 3) ls (.int (σ (i) 1) :: st) σ) : G wX X k n pc ls (.ref (gA X (i)) :: st) σ := g_get hC iw_X1 rfl (isP_lt hi) (xe_Plane _ _ hi) 1 (by decide) hlk rfl hd kk
theorem xp_Plane_q {l : Launch} {X : gC} {cc : ByteArray} {own : String} {dd ca sa k n pc : Nat} {ls : List (Option Value)} {st : List Value} {σ : Mem} {idx : Nat} {x : Int32} {i : Nat} (hC : gOk wX l X cc own dd ca sa) (hi : xk i = 12) (hlk : Cond.fieldLink own idx "GemCut$Plane" "q" "I" ∈ TB) (hd : decode cc pc = .ok (.putfield idx, 3)) (kk : G wX X k n (pc + 3) ls st (upd2 σ (i) 1 x)) : G wX X k n pc ls (.int x :: .ref (gA X (i)) :: st) σ := g_put (ty := .int) tyX1 hC iw_X1 tyX1_ok nmX1 rfl (isP_lt hi) (xe_Plane _ _ hi) 1 (by decide) hlk rfl (by decide +kernel) rfl rfl (Nat.le_of_ble_eq_true rfl) (by rw [xe_Plane _ _ hi]; rfl) hd kk
theorem xg_Plane_r {l : Launch} {X : gC} {cc : ByteArray} {own : String} {dd ca sa k n pc : Nat} {ls : List (Option Value)} {st : List Value} {σ : Mem} {idx : Nat} {i : Nat} (hC : gOk wX l X cc own dd ca sa) (hi : xk i = 12) (hlk : Cond.fieldLink own idx "GemCut$Plane" "r" "I" ∈ TB) (hd : decode cc pc = .ok (.getfield idx, 3)) (kk : G wX X k n (pc + 3) ls (.int (σ (i) 2) :: st) σ) : G wX X k n pc ls (.ref (gA X (i)) :: st) σ := g_get hC iw_X1 rfl (isP_lt hi) (xe_Plane _ _ hi) 2 (by decide) hlk rfl hd kk
theorem xp_Plane_r {l : Launch} {X : gC} {cc : ByteArray} {own : String} {dd ca sa k n pc : Nat} {ls : List (Option Value)} {st : List Value} {σ : Mem} {idx : Nat} {x : Int32} {i : Nat} (hC : gOk wX l X cc own dd ca sa) (hi : xk i = 12) (hlk : Cond.fieldLink own idx "GemCut$Plane" "r" "I" ∈ TB) (hd : decode cc pc = .ok (.putfield idx, 3)) (kk : G wX X k n (pc + 3) ls st (upd2 σ (i) 2 x)) : G wX X k n pc ls (.int x :: .ref (gA X (i)) :: st) σ := g_put (ty := .int) tyX1 hC iw_X1 tyX1_ok nmX1 rfl (isP_lt hi) (xe_Plane _ _ hi) 2 (by decide) hlk rfl (by decide +kernel) rfl rfl (Nat.le_of_ble_eq_true rfl) (by rw [xe_Plane _ _ hi]; rfl) hd kk
theorem xg_Plane_d {l : Launch} {X : gC} {cc : ByteArray} {own : String} {dd ca sa k n pc : Nat} {ls : List (Option Value)} {st : List Value} {σ : Mem} {idx : Nat} {i : Nat} (hC : gOk wX l X cc own dd ca sa) (hi : xk i = 12) (hlk : Cond.fieldLink own idx "GemCut$Plane" "d" "I" ∈ TB) (hd : decode cc pc = .ok (.getfield idx, 3)) (kk : G wX X k n (pc + 3) ls (.int (σ (i) 3) :: st) σ) : G wX X k n pc ls (.ref (gA X (i)) :: st) σ := g_get hC iw_X1 rfl (isP_lt hi) (xe_Plane _ _ hi) 3 (by decide) hlk rfl hd kk
theorem xp_Plane_d {l : Launch} {X : gC} {cc : ByteArray} {own : String} {dd ca sa k n pc : Nat} {ls : List (Option Value)} {st : List Value} {σ : Mem} {idx : Nat} {x : Int32} {i : Nat} (hC : gOk wX l X cc own dd ca sa) (hi : xk i = 12) (hlk : Cond.fieldLink own idx "GemCut$Plane" "d" "I" ∈ TB) (hd : decode cc pc = .ok (.putfield idx, 3)) (kk : G wX X k n (pc + 3) ls st (upd2 σ (i) 3 x)) : G wX X k n pc ls (.int x :: .ref (gA X (i)) :: st) σ := g_put (ty := .int) tyX1 hC iw_X1 tyX1_ok nmX1 rfl (isP_lt hi) (xe_Plane _ _ hi) 3 (by decide) hlk rfl (by decide +kernel) rfl rfl (Nat.le_of_ble_eq_true rfl) (by rw [xe_Plane _ _ hi]; rfl) hd kk
theorem xg_Plane_reach {l : Launch} {X : gC} {cc : ByteArray} {own : String} {dd ca sa k n pc : Nat} {ls : List (Option Value)} {st : List Value} {σ : Mem} {idx : Nat} {i : Nat} (hC : gOk wX l X cc own dd ca sa) (hi : xk i = 12) (hlk : Cond.fieldLink own idx "GemCut$Plane" "reach" "I" ∈ TB) (hd : decode cc pc = .ok (.getfield idx, 3)) (kk : G wX X k n (pc + 3) ls (.int (σ (i) 4) :: st) σ) : G wX X k n pc ls (.ref (gA X (i)) :: st) σ := g_get hC iw_X1 rfl (isP_lt hi) (xe_Plane _ _ hi) 4 (by decide) hlk rfl hd kk
theorem xp_Plane_reach {l : Launch} {X : gC} {cc : ByteArray} {own : String} {dd ca sa k n pc : Nat} {ls : List (Option Value)} {st : List Value} {σ : Mem} {idx : Nat} {x : Int32} {i : Nat} (hC : gOk wX l X cc own dd ca sa) (hi : xk i = 12) (hlk : Cond.fieldLink own idx "GemCut$Plane" "reach" "I" ∈ TB) (hd : decode cc pc = .ok (.putfield idx, 3)) (kk : G wX X k n (pc + 3) ls st (upd2 σ (i) 4 x)) : G wX X k n pc ls (.int x :: .ref (gA X (i)) :: st) σ := g_put (ty := .int) tyX1 hC iw_X1 tyX1_ok nmX1 rfl (isP_lt hi) (xe_Plane _ _ hi) 4 (by decide) hlk rfl (by decide +kernel) rfl rfl (Nat.le_of_ble_eq_true rfl) (by rw [xe_Plane _ _ hi]; rfl) hd kk
theorem xg_Plane_polished {l : Launch} {X : gC} {cc : ByteArray} {own : String} {dd ca sa k n pc : Nat} {ls : List (Option Value)} {st : List Value} {σ : Mem} {idx : Nat} {i : Nat} (hC : gOk wX l X cc own dd ca sa) (hi : xk i = 12) (hlk : Cond.fieldLink own idx "GemCut$Plane" "polished" "Z" ∈ TB) (hd : decode cc pc = .ok (.getfield idx, 3)) (kk : G wX X k n (pc + 3) ls (.int (σ (i) 5) :: st) σ) : G wX X k n pc ls (.ref (gA X (i)) :: st) σ := g_get hC iw_X1 rfl (isP_lt hi) (xe_Plane _ _ hi) 5 (by decide) hlk rfl hd kk
theorem xp_Plane_polished {l : Launch} {X : gC} {cc : ByteArray} {own : String} {dd ca sa k n pc : Nat} {ls : List (Option Value)} {st : List Value} {σ : Mem} {idx : Nat} {x : Int32} {i : Nat} (hC : gOk wX l X cc own dd ca sa) (hi : xk i = 12) (hz : x = 0 ∨ x = 1) (hlk : Cond.fieldLink own idx "GemCut$Plane" "polished" "Z" ∈ TB) (hd : decode cc pc = .ok (.putfield idx, 3)) (kk : G wX X k n (pc + 3) ls st (upd2 σ (i) 5 x)) : G wX X k n pc ls (.int x :: .ref (gA X (i)) :: st) σ := g_put (ty := .boolean) tyX1 hC iw_X1 tyX1_ok nmX1 rfl (isP_lt hi) (xe_Plane _ _ hi) 5 (by decide) hlk rfl (by decide +kernel) (by rcases hz with rfl | rfl <;> rfl) (by rcases hz with rfl | rfl <;> rfl) (Nat.le_of_ble_eq_true rfl) (by rw [xe_Plane _ _ hi]; rfl) hd kk
theorem xg_Plane_touching {l : Launch} {X : gC} {cc : ByteArray} {own : String} {dd ca sa k n pc : Nat} {ls : List (Option Value)} {st : List Value} {σ : Mem} {idx : Nat} {i : Nat} (hC : gOk wX l X cc own dd ca sa) (hi : xk i = 12) (hlk : Cond.fieldLink own idx "GemCut$Plane" "touching" "I" ∈ TB) (hd : decode cc pc = .ok (.getfield idx, 3)) (kk : G wX X k n (pc + 3) ls (.int (σ (i) 6) :: st) σ) : G wX X k n pc ls (.ref (gA X (i)) :: st) σ := g_get hC iw_X1 rfl (isP_lt hi) (xe_Plane _ _ hi) 6 (by decide) hlk rfl hd kk
theorem xp_Plane_touching {l : Launch} {X : gC} {cc : ByteArray} {own : String} {dd ca sa k n pc : Nat} {ls : List (Option Value)} {st : List Value} {σ : Mem} {idx : Nat} {x : Int32} {i : Nat} (hC : gOk wX l X cc own dd ca sa) (hi : xk i = 12) (hlk : Cond.fieldLink own idx "GemCut$Plane" "touching" "I" ∈ TB) (hd : decode cc pc = .ok (.putfield idx, 3)) (kk : G wX X k n (pc + 3) ls st (upd2 σ (i) 6 x)) : G wX X k n pc ls (.int x :: .ref (gA X (i)) :: st) σ := g_put (ty := .int) tyX1 hC iw_X1 tyX1_ok nmX1 rfl (isP_lt hi) (xe_Plane _ _ hi) 6 (by decide) hlk rfl (by decide +kernel) rfl rfl (Nat.le_of_ble_eq_true rfl) (by rw [xe_Plane _ _ hi]; rfl) hd kk
theorem xg_Trial_rough {l : Launch} {X : gC} {cc : ByteArray} {own : String} {dd ca sa k n pc : Nat} {ls : List (Option Value)} {st : List Value} {σ : Mem} {idx : Nat}  (hC : gOk wX l X cc own dd ca sa)  (hlk : Cond.fieldLink own idx "GemCut$Trial" "rough" "LGemCut$Rough;" ∈ TB) (hd : decode cc pc = .ok (.getfield idx, 3)) (kk : G wX X k n (pc + 3) ls (.ref (gA X (1)) :: st) σ) : G wX X k n pc ls (.ref (gA X (190)) :: st) σ := g_get hC iw_X4 rfl (by decide) (xe_Trial _ _) 0 (by decide) hlk rfl hd kk
theorem xg_Trial_piece {l : Launch} {X : gC} {cc : ByteArray} {own : String} {dd ca sa k n pc : Nat} {ls : List (Option Value)} {st : List Value} {σ : Mem} {idx : Nat}  (hC : gOk wX l X cc own dd ca sa)  (hlk : Cond.fieldLink own idx "GemCut$Trial" "piece" "LGemCut$Stone;" ∈ TB) (hd : decode cc pc = .ok (.getfield idx, 3)) (kk : G wX X k n (pc + 3) ls (.ref (gA X (iStone (σ 190 1).toNatClampNeg)) :: st) σ) : G wX X k n pc ls (.ref (gA X (190)) :: st) σ := g_get hC iw_X4 rfl (by decide) (xe_Trial _ _) 1 (by decide) hlk rfl hd kk
theorem xg_Trial_tried {l : Launch} {X : gC} {cc : ByteArray} {own : String} {dd ca sa k n pc : Nat} {ls : List (Option Value)} {st : List Value} {σ : Mem} {idx : Nat}  (hC : gOk wX l X cc own dd ca sa)  (hlk : Cond.fieldLink own idx "GemCut$Trial" "tried" "LGemCut$Plane;" ∈ TB) (hd : decode cc pc = .ok (.getfield idx, 3)) (kk : G wX X k n (pc + 3) ls (.ref (gA X (191)) :: st) σ) : G wX X k n pc ls (.ref (gA X (190)) :: st) σ := g_get hC iw_X4 rfl (by decide) (xe_Trial _ _) 2 (by decide) hlk rfl hd kk
theorem xg_Trial_heights {l : Launch} {X : gC} {cc : ByteArray} {own : String} {dd ca sa k n pc : Nat} {ls : List (Option Value)} {st : List Value} {σ : Mem} {idx : Nat}  (hC : gOk wX l X cc own dd ca sa)  (hlk : Cond.fieldLink own idx "GemCut$Trial" "heights" "[I" ∈ TB) (hd : decode cc pc = .ok (.getfield idx, 3)) (kk : G wX X k n (pc + 3) ls (.ref (gA X (192)) :: st) σ) : G wX X k n pc ls (.ref (gA X (190)) :: st) σ := g_get hC iw_X4 rfl (by decide) (xe_Trial _ _) 3 (by decide) hlk rfl hd kk
theorem xg_Trial_upTo {l : Launch} {X : gC} {cc : ByteArray} {own : String} {dd ca sa k n pc : Nat} {ls : List (Option Value)} {st : List Value} {σ : Mem} {idx : Nat}  (hC : gOk wX l X cc own dd ca sa)  (hlk : Cond.fieldLink own idx "GemCut$Trial" "upTo" "[I" ∈ TB) (hd : decode cc pc = .ok (.getfield idx, 3)) (kk : G wX X k n (pc + 3) ls (.ref (gA X (193)) :: st) σ) : G wX X k n pc ls (.ref (gA X (190)) :: st) σ := g_get hC iw_X4 rfl (by decide) (xe_Trial _ _) 4 (by decide) hlk rfl hd kk
theorem xg_Trial_floors {l : Launch} {X : gC} {cc : ByteArray} {own : String} {dd ca sa k n pc : Nat} {ls : List (Option Value)} {st : List Value} {σ : Mem} {idx : Nat}  (hC : gOk wX l X cc own dd ca sa)  (hlk : Cond.fieldLink own idx "GemCut$Trial" "floors" "[I" ∈ TB) (hd : decode cc pc = .ok (.getfield idx, 3)) (kk : G wX X k n (pc + 3) ls (.ref (gA X (194)) :: st) σ) : G wX X k n pc ls (.ref (gA X (190)) :: st) σ := g_get hC iw_X4 rfl (by decide) (xe_Trial _ _) 5 (by decide) hlk rfl hd kk
theorem xl_owner {l : Launch} {X : gC} {cc : ByteArray} {own : String} {dd ca sa k n pc : Nat} {ls : List (Option Value)} {st : List Value} {σ : Mem} {x : Int32} (j : Nat)  (hC : gOk wX l X cc own dd ca sa)  (hx0 : x = nI j) (hj : j < 1000) (hd : decode cc pc = .ok (.iaload, 1)) (kk : G wX X k n (pc + 1) ls (.int (σ (2) j) :: st) σ) : G wX X k n pc ls (.int x :: .ref (gA X (2)) :: st) σ := g_iald hC (by decide) (xe_owner _ _) hx0 hj (by decide) hd kk
theorem xs_owner {l : Launch} {X : gC} {cc : ByteArray} {own : String} {dd ca sa k n pc : Nat} {ls : List (Option Value)} {st : List Value} {σ : Mem} {x y : Int32} (j : Nat)  (hC : gOk wX l X cc own dd ca sa)  (hx0 : x = nI j) (hj : j < 1000) (hd : decode cc pc = .ok (.iastore, 1)) (kk : G wX X k n (pc + 1) ls st (upd2 σ (2) j y)) : G wX X k n pc ls (.int y :: .int x :: .ref (gA X (2)) :: st) σ := g_iast hC (by decide) (xe_owner _ _) hx0 hj (by decide) (xe_owner _ _) hd kk
theorem xl_bare {l : Launch} {X : gC} {cc : ByteArray} {own : String} {dd ca sa k n pc : Nat} {ls : List (Option Value)} {st : List Value} {σ : Mem} {x : Int32} (j : Nat)  (hC : gOk wX l X cc own dd ca sa)  (hx0 : x = nI j) (hj : j < 1000) (hd : decode cc pc = .ok (.baload, 1)) (kk : G wX X k n (pc + 1) ls (.int (σ (3) j) :: st) σ) : G wX X k n pc ls (.int x :: .ref (gA X (3)) :: st) σ := g_zald hC (by decide) (xe_bare _ _) hx0 hj (by decide) hd kk
theorem xs_bare {l : Launch} {X : gC} {cc : ByteArray} {own : String} {dd ca sa k n pc : Nat} {ls : List (Option Value)} {st : List Value} {σ : Mem} {x y : Int32} (j : Nat)  (hC : gOk wX l X cc own dd ca sa)  (hx0 : x = nI j) (hj : j < 1000) (hz : y = 0 ∨ y = 1) (hd : decode cc pc = .ok (.bastore, 1)) (kk : G wX X k n (pc + 1) ls st (upd2 σ (3) j y)) : G wX X k n pc ls (.int y :: .int x :: .ref (gA X (3)) :: st) σ := g_zast hC (by decide) (xe_bare _ _) hx0 hj (by decide) (xe_bare _ _) hd (by rw [show vp_nar .boolean y = y by rcases hz with rfl | rfl <;> rfl]; exact kk)
theorem xl_heights {l : Launch} {X : gC} {cc : ByteArray} {own : String} {dd ca sa k n pc : Nat} {ls : List (Option Value)} {st : List Value} {σ : Mem} {x : Int32} (j : Nat)  (hC : gOk wX l X cc own dd ca sa)  (hx0 : x = nI j) (hj : j < 1000) (hd : decode cc pc = .ok (.iaload, 1)) (kk : G wX X k n (pc + 1) ls (.int (σ (192) j) :: st) σ) : G wX X k n pc ls (.int x :: .ref (gA X (192)) :: st) σ := g_iald hC (by decide) (xe_heights _ _) hx0 hj (by decide) hd kk
theorem xs_heights {l : Launch} {X : gC} {cc : ByteArray} {own : String} {dd ca sa k n pc : Nat} {ls : List (Option Value)} {st : List Value} {σ : Mem} {x y : Int32} (j : Nat)  (hC : gOk wX l X cc own dd ca sa)  (hx0 : x = nI j) (hj : j < 1000) (hd : decode cc pc = .ok (.iastore, 1)) (kk : G wX X k n (pc + 1) ls st (upd2 σ (192) j y)) : G wX X k n pc ls (.int y :: .int x :: .ref (gA X (192)) :: st) σ := g_iast hC (by decide) (xe_heights _ _) hx0 hj (by decide) (xe_heights _ _) hd kk
theorem xl_upTo {l : Launch} {X : gC} {cc : ByteArray} {own : String} {dd ca sa k n pc : Nat} {ls : List (Option Value)} {st : List Value} {σ : Mem} {x : Int32} (j : Nat)  (hC : gOk wX l X cc own dd ca sa)  (hx0 : x = nI j) (hj : j < 163) (hd : decode cc pc = .ok (.iaload, 1)) (kk : G wX X k n (pc + 1) ls (.int (σ (193) j) :: st) σ) : G wX X k n pc ls (.int x :: .ref (gA X (193)) :: st) σ := g_iald hC (by decide) (xe_upTo _ _) hx0 hj (by decide) hd kk
theorem xs_upTo {l : Launch} {X : gC} {cc : ByteArray} {own : String} {dd ca sa k n pc : Nat} {ls : List (Option Value)} {st : List Value} {σ : Mem} {x y : Int32} (j : Nat)  (hC : gOk wX l X cc own dd ca sa)  (hx0 : x = nI j) (hj : j < 163) (hd : decode cc pc = .ok (.iastore, 1)) (kk : G wX X k n (pc + 1) ls st (upd2 σ (193) j y)) : G wX X k n pc ls (.int y :: .int x :: .ref (gA X (193)) :: st) σ := g_iast hC (by decide) (xe_upTo _ _) hx0 hj (by decide) (xe_upTo _ _) hd kk
theorem xn_upTo {l : Launch} {X : gC} {cc : ByteArray} {own : String} {dd ca sa k n pc : Nat} {ls : List (Option Value)} {st : List Value} {σ : Mem}  (hC : gOk wX l X cc own dd ca sa)  (hd : decode cc pc = .ok (.arraylength, 1)) (kk : G wX X k n (pc + 1) ls (.int (nI 163) :: st) σ) : G wX X k n pc ls (.ref (gA X (193)) :: st) σ := g_alen (t0 := 0) hC (by decide) (xe_upTo _ _) (fun _ => rfl) hd kk
theorem xl_floors {l : Launch} {X : gC} {cc : ByteArray} {own : String} {dd ca sa k n pc : Nat} {ls : List (Option Value)} {st : List Value} {σ : Mem} {x : Int32} (j : Nat)  (hC : gOk wX l X cc own dd ca sa)  (hx0 : x = nI j) (hj : j < 16) (hd : decode cc pc = .ok (.iaload, 1)) (kk : G wX X k n (pc + 1) ls (.int (σ (194) j) :: st) σ) : G wX X k n pc ls (.int x :: .ref (gA X (194)) :: st) σ := g_iald hC (by decide) (xe_floors _ _) hx0 hj (by decide) hd kk
theorem xs_floors {l : Launch} {X : gC} {cc : ByteArray} {own : String} {dd ca sa k n pc : Nat} {ls : List (Option Value)} {st : List Value} {σ : Mem} {x y : Int32} (j : Nat)  (hC : gOk wX l X cc own dd ca sa)  (hx0 : x = nI j) (hj : j < 16) (hd : decode cc pc = .ok (.iastore, 1)) (kk : G wX X k n (pc + 1) ls st (upd2 σ (194) j y)) : G wX X k n pc ls (.int y :: .int x :: .ref (gA X (194)) :: st) σ := g_iast hC (by decide) (xe_floors _ _) hx0 hj (by decide) (xe_floors _ _) hd kk
theorem xl_FC {l : Launch} {X : gC} {cc : ByteArray} {own : String} {dd ca sa k n pc : Nat} {ls : List (Option Value)} {st : List Value} {σ : Mem} {x : Int32} (j : Nat) {f : Nat} (hC : gOk wX l X cc own dd ca sa) (hf : f < 10) (hx0 : x = nI j) (hj : j < 63) (hd : decode cc pc = .ok (.iaload, 1)) (kk : G wX X k n (pc + 1) ls (.int (σ (iFlaw f + 1) j) :: st) σ) : G wX X k n pc ls (.int x :: .ref (gA X (iFlaw f + 1)) :: st) σ := g_iald hC (iFlaw1_lt hf) (xe_FC _ _ hf) hx0 hj (by decide) hd kk
theorem xs_FC {l : Launch} {X : gC} {cc : ByteArray} {own : String} {dd ca sa k n pc : Nat} {ls : List (Option Value)} {st : List Value} {σ : Mem} {x y : Int32} (j : Nat) {f : Nat} (hC : gOk wX l X cc own dd ca sa) (hf : f < 10) (hx0 : x = nI j) (hj : j < 63) (hd : decode cc pc = .ok (.iastore, 1)) (kk : G wX X k n (pc + 1) ls st (upd2 σ (iFlaw f + 1) j y)) : G wX X k n pc ls (.int y :: .int x :: .ref (gA X (iFlaw f + 1)) :: st) σ := g_iast hC (iFlaw1_lt hf) (xe_FC _ _ hf) hx0 hj (by decide) (xe_FC _ _ hf) hd kk
theorem xl_FI {l : Launch} {X : gC} {cc : ByteArray} {own : String} {dd ca sa k n pc : Nat} {ls : List (Option Value)} {st : List Value} {σ : Mem} {x : Int32} (j : Nat) {f : Nat} (hC : gOk wX l X cc own dd ca sa) (hf : f < 10) (hx0 : x = nI j) (hj : j < 8) (hd : decode cc pc = .ok (.iaload, 1)) (kk : G wX X k n (pc + 1) ls (.int (σ (iFlaw f + 2) j) :: st) σ) : G wX X k n pc ls (.int x :: .ref (gA X (iFlaw f + 2)) :: st) σ := g_iald hC (iFlaw2_lt hf) (xe_FI _ _ hf) hx0 hj (by decide) hd kk
theorem xs_FI {l : Launch} {X : gC} {cc : ByteArray} {own : String} {dd ca sa k n pc : Nat} {ls : List (Option Value)} {st : List Value} {σ : Mem} {x y : Int32} (j : Nat) {f : Nat} (hC : gOk wX l X cc own dd ca sa) (hf : f < 10) (hx0 : x = nI j) (hj : j < 8) (hd : decode cc pc = .ok (.iastore, 1)) (kk : G wX X k n (pc + 1) ls st (upd2 σ (iFlaw f + 2) j y)) : G wX X k n pc ls (.int y :: .int x :: .ref (gA X (iFlaw f + 2)) :: st) σ := g_iast hC (iFlaw2_lt hf) (xe_FI _ _ hf) hx0 hj (by decide) (xe_FI _ _ hf) hd kk
theorem xl_FB {l : Launch} {X : gC} {cc : ByteArray} {own : String} {dd ca sa k n pc : Nat} {ls : List (Option Value)} {st : List Value} {σ : Mem} {x : Int32} (j : Nat) {f : Nat} (hC : gOk wX l X cc own dd ca sa) (hf : f < 10) (hx0 : x = nI j) (hj : j < 8) (hd : decode cc pc = .ok (.iaload, 1)) (kk : G wX X k n (pc + 1) ls (.int (σ (iFlaw f + 3) j) :: st) σ) : G wX X k n pc ls (.int x :: .ref (gA X (iFlaw f + 3)) :: st) σ := g_iald hC (iFlaw3_lt hf) (xe_FB _ _ hf) hx0 hj (by decide) hd kk
theorem xs_FB {l : Launch} {X : gC} {cc : ByteArray} {own : String} {dd ca sa k n pc : Nat} {ls : List (Option Value)} {st : List Value} {σ : Mem} {x y : Int32} (j : Nat) {f : Nat} (hC : gOk wX l X cc own dd ca sa) (hf : f < 10) (hx0 : x = nI j) (hj : j < 8) (hd : decode cc pc = .ok (.iastore, 1)) (kk : G wX X k n (pc + 1) ls st (upd2 σ (iFlaw f + 3) j y)) : G wX X k n pc ls (.int y :: .int x :: .ref (gA X (iFlaw f + 3)) :: st) σ := g_iast hC (iFlaw3_lt hf) (xe_FB _ _ hf) hx0 hj (by decide) (xe_FB _ _ hf) hd kk
theorem xl_flawsA {l : Launch} {X : gC} {cc : ByteArray} {own : String} {dd ca sa k n pc : Nat} {ls : List (Option Value)} {st : List Value} {σ : Mem} {x : Int32} (j : Nat)  (hC : gOk wX l X cc own dd ca sa)  (hx0 : x = nI j) (hj : j < 10) (hd : decode cc pc = .ok (.aaload, 1)) (kk : G wX X k n (pc + 1) ls (.ref (gA X (iFlaw j)) :: st) σ) : G wX X k n pc ls (.int x :: .ref (gA X (4)) :: st) σ := g_aald (t0 := 2) (ct := "GemCut$Flaw") hC (by decide) (xe_flawsA _ _) (fun _ => rfl) hx0 hj (by decide) (rfl) hd kk
theorem xl_stonesA {l : Launch} {X : gC} {cc : ByteArray} {own : String} {dd ca sa k n pc : Nat} {ls : List (Option Value)} {st : List Value} {σ : Mem} {x : Int32} (j : Nat)  (hC : gOk wX l X cc own dd ca sa)  (hx0 : x = nI j) (hj : j < 8) (hd : decode cc pc = .ok (.aaload, 1)) (kk : G wX X k n (pc + 1) ls (.ref (gA X (iStone j)) :: st) σ) : G wX X k n pc ls (.int x :: .ref (gA X (45)) :: st) σ := g_aald (t0 := 4) (ct := "GemCut$Stone") hC (by decide) (xe_stonesA _ _) (fun _ => rfl) hx0 hj (by decide) (rfl) hd kk
theorem xl_Pls {l : Launch} {X : gC} {cc : ByteArray} {own : String} {dd ca sa k n pc : Nat} {ls : List (Option Value)} {st : List Value} {σ : Mem} {x : Int32} (j : Nat) {s : Nat} (hC : gOk wX l X cc own dd ca sa) (hs : s < 8) (hx0 : x = nI j) (hj : j < 16) (hd : decode cc pc = .ok (.aaload, 1)) (kk : G wX X k n (pc + 1) ls (.ref (gA X (iPl s j)) :: st) σ) : G wX X k n pc ls (.int x :: .ref (gA X (iStone s + 1)) :: st) σ := g_aald (t0 := 3) (ct := "GemCut$Plane") hC (iStone1_lt hs) (xe_Pls _ _ hs) (fun _ => rfl) hx0 hj (by decide) (congrArg (fun z => some (gA X z)) (show iStone s + 1 + 1 + j = iPl s j by unfold iStone iPl; omega)) hd kk
theorem xp_Trial_piece {l : Launch} {X : gC} {cc : ByteArray} {own : String} {dd ca sa k n pc : Nat} {ls : List (Option Value)} {st : List Value} {σ : Mem} {idx : Nat} {s : Nat} (hC : gOk wX l X cc own dd ca sa) (hs : s < 8) (hlk : Cond.fieldLink own idx "GemCut$Trial" "piece" "LGemCut$Stone;" ∈ TB) (hd : decode cc pc = .ok (.putfield idx, 3)) (kk : G wX X k n (pc + 3) ls st (upd2 σ 190 1 (nI s))) : G wX X k n pc ls (.ref (gA X (iStone s)) :: .ref (gA X 190) :: st) σ := g_put (ty := .object "GemCut$Stone") tyX4 hC iw_X4 tyX4_ok nmX4 rfl (by decide) (xe_Trial _ _) 1 (by decide) hlk rfl (by decide +kernel) rfl rfl (Nat.le_of_ble_eq_true rfl) (by rw [xe_Trial]; show _ = Sum.inr (4, [_, _, _, _, _, _]); rw [show (upd (σ 190) 1 (nI s) 1).toNatClampNeg = s from nI_clamp (by omega)]; rfl) hd kk
end
section
/-! the reference's pure words (of whole), [9, 10, 11, 12, 13] -/
/-! what the reference answers, in pure words -/
def b2i (b : Bool) : Int32 := if b then 1 else 0
theorem b2i_eq0 {b : Bool} : b2i b = 0 ↔ b = false := by cases b <;> simp [b2i]
theorem b2i_ne0 {b : Bool} : ¬ b2i b = 0 ↔ b = true := by cases b <;> simp [b2i]
theorem b2i_01 (b : Bool) : b2i b = 0 ∨ b2i b = 1 := by cases b <;> simp [b2i]
def cnt (P : Nat → Bool) : Nat → Nat
  | 0 => 0
  | n + 1 => cnt P n + (if P n then 1 else 0)
theorem cnt_t {P : Nat → Bool} {n : Nat} (h : P n = true) : cnt P (n + 1) = cnt P n + 1 := by simp [cnt, h]
theorem cnt_f {P : Nat → Bool} {n : Nat} (h : P n = false) : cnt P (n + 1) = cnt P n := by simp [cnt, h]
theorem cnt_le (P : Nat → Bool) : ∀ n, cnt P n ≤ n := by
  intro n
  induction n with
  | zero => simp [cnt]
  | succ n ih => simp only [cnt]; split <;> omega
theorem cnt_congr {P Q : Nat → Bool} : ∀ n, (∀ k, k < n → P k = Q k) → cnt P n = cnt Q n := by
  intro n
  induction n with
  | zero => intro _; rfl
  | succ n ih => intro h; simp only [cnt, ih (fun k hk => h k (by omega)), h n (by omega)]
theorem cnt_pos {P : Nat → Bool} : ∀ n, 0 < cnt P n ↔ ∃ k, k < n ∧ P k = true := by
  intro n
  induction n with
  | zero => simp [cnt]
  | succ n ih =>
    simp only [cnt]
    by_cases h : P n = true
    · simp only [h, if_true]
      exact ⟨fun _ => ⟨n, by omega, h⟩, fun _ => by omega⟩
    · rw [if_neg h, Nat.add_zero, ih]
      constructor
      · rintro ⟨k, h1, h2⟩; exact ⟨k, by omega, h2⟩
      · rintro ⟨k, h1, h2⟩
        rcases Nat.lt_or_ge k n with q | q
        · exact ⟨k, q, h2⟩
        · exact absurd (by rwa [show k = n by omega] at h2) h
def jabs (x : Int32) : Int32 := if 0 ≤ x then x else 0 - x
def jmax (x y : Int32) : Int32 := if x < y then y else x
def sIn (v lo hi : Int32) : Bool := decide (lo ≤ v) && decide (v ≤ hi)
def sCell (τ : Mem) (x y z : Int32) : Bool := sIn x 0 (τ 0 1 - 1) && sIn y 0 (τ 0 2 - 1) && sIn z 0 (τ 0 3 - 1)
def sAt (x y z : Int32) : Int32 := x + 10 * (y + 10 * z)
def sOf (τ : Mem) (x y z s : Int32) : Bool := sCell τ x y z && τ 1 (sAt x y z).toNatClampNeg == s
def sStone (τ : Mem) (s : Int32) : Bool := sIn s 0 (τ 0 7 - 1)
def sPlane (τ : Mem) (s k : Int32) : Bool := sStone τ s && sIn k 0 (τ 4 s.toNatClampNeg - 1)
def sPl (τ : Mem) (s k w : Nat) : Int32 := τ 3 (5 * (17 * s + k) + w)
def sFl (τ : Mem) (f w : Nat) : Int32 := τ 2 (5 * f + w)
def kx (k : Nat) : Int32 := nI (k % 10)
def ky (k : Nat) : Int32 := nI (k / 10 % 10)
def kz (k : Nat) : Int32 := nI (k / 100)
def sHgt (k : Nat) (p q r : Int32) : Int32 := p * kx k + q * ky k + r * kz k
theorem k_rem : ∀ k, k < 1000 → nI k - nI k / 10 * 10 = kx k := by decide +kernel
theorem k_divrem : ∀ k, k < 1000 → nI k / 10 - nI k / 10 / 10 * 10 = ky k := by decide +kernel
theorem k_divdiv : ∀ k, k < 1000 → nI k / 10 / 10 = kz k := by decide +kernel
def sSurf (τ : Mem) (k : Nat) : Bool := !(sOf τ (kx k - 1) (ky k) (kz k) (τ 1 k) && sOf τ (kx k + 1) (ky k) (kz k) (τ 1 k) && sOf τ (kx k) (ky k - 1) (kz k) (τ 1 k) && sOf τ (kx k) (ky k + 1) (kz k) (τ 1 k) && sOf τ (kx k) (ky k) (kz k - 1) (τ 1 k) && sOf τ (kx k) (ky k) (kz k + 1) (τ 1 k))
def sFlawed (τ : Mem) (f k : Nat) : Bool := decide (jabs (kx k - sFl τ f 0) + jabs (ky k - sFl τ f 1) + jabs (kz k - sFl τ f 2) ≤ sFl τ f 3)
def sWt (τ : Mem) (s : Int32) : Nat := cnt (fun k => τ 1 k == s) 1000
/-- the sizes that the rows hold, and bounds by which no index leaves its row -/
def MI (τ : Mem) : Prop := (∃ c, 1 ≤ c ∧ c ≤ 10 ∧ τ 0 1 = nI c) ∧ (∃ c, 1 ≤ c ∧ c ≤ 10 ∧ τ 0 2 = nI c) ∧ (∃ c, 1 ≤ c ∧ c ≤ 10 ∧ τ 0 3 = nI c) ∧ (∃ f, f ≤ 10 ∧ τ 0 5 = nI f) ∧ (∃ s, 1 ≤ s ∧ s ≤ 8 ∧ τ 0 7 = nI s) ∧ ∀ s, s < 8 → ∃ m, m ≤ 17 ∧ τ 4 s = nI m
theorem nI_inj {a b : Nat} (ha : a < 2 ^ 31) (hb : b < 2 ^ 31) (h : nI a = nI b) : a = b := (nI_eq ha hb).mp h
theorem nI_sub1 (a : Nat) (h : 1 ≤ a) : nI a - 1 = nI (a - 1) := by
  obtain ⟨b, rfl⟩ : ∃ b, a = b + 1 := ⟨a - 1, by omega⟩
  rw [Nat.add_sub_cancel]
  exact nI_pred b
/-- what a range test says -/
theorem sIn_nI {v : Int32} {n : Nat} (hn : 1 ≤ n) (hn2 : n < 2 ^ 31) : sIn v 0 (nI n - 1) = true ↔ ∃ j, j < n ∧ v = nI j := by
  unfold sIn
  rw [Bool.and_eq_true, decide_eq_true_iff, decide_eq_true_iff, nI_sub1 n hn]
  constructor
  · rintro ⟨h1, h2⟩
    obtain ⟨j, hj, rfl⟩ := nI_of (x := v) (by rw [Int32.lt_iff_toInt_lt]; rw [Int32.le_iff_toInt_le] at h1; exact Int.not_lt.mpr h1)
    exact ⟨j, by have := (nI_leI hj (by omega)).mp h2; omega, rfl⟩
  · rintro ⟨j, hj, rfl⟩
    exact ⟨nI_pos' (by omega), nI_le (by omega) (by omega)⟩
theorem nI_mul' (a b : Nat) : nI a * nI b = nI (a * b) := by unfold nI; exact (Int32.ofNat_mul a b).symm
theorem sAt_nI (x y z : Nat) : sAt (nI x) (nI y) (nI z) = nI (x + 10 * (y + 10 * z)) := by
  unfold sAt
  rw [show (10 : Int32) = nI 10 by decide, nI_mul', nI_add, nI_mul', nI_add]
theorem sCell_nI {τ : Mem} {x y z : Int32} (hM : MI τ) (h : sCell τ x y z = true) : ∃ a b c : Nat, a < 10 ∧ b < 10 ∧ c < 10 ∧ x = nI a ∧ y = nI b ∧ z = nI c := by
  obtain ⟨⟨c1, a1, a2, a3⟩, ⟨c2, b1, b2, b3⟩, ⟨c3, d1, d2, d3⟩, -⟩ := hM
  simp only [sCell, Bool.and_eq_true, a3, b3, d3] at h
  obtain ⟨⟨h1, h2⟩, h3⟩ := h
  obtain ⟨j1, e1, f1⟩ := (sIn_nI a1 (by omega)).mp h1
  obtain ⟨j2, e2, f2⟩ := (sIn_nI b1 (by omega)).mp h2
  obtain ⟨j3, e3, f3⟩ := (sIn_nI d1 (by omega)).mp h3
  exact ⟨j1, j2, j3, by omega, by omega, by omega, f1, f2, f3⟩
theorem sStone_nI {τ : Mem} {s : Int32} (hM : MI τ) (h : sStone τ s = true) : ∃ j, j < 8 ∧ s = nI j := by
  obtain ⟨-, -, -, -, ⟨c, a1, a2, a3⟩, -⟩ := hM
  simp only [sStone, a3] at h
  obtain ⟨j, e1, f1⟩ := (sIn_nI a1 (by omega)).mp h
  exact ⟨j, by omega, f1⟩
def sumI (g : Nat → Int32) : Nat → Int32
  | 0 => 0
  | n + 1 => sumI g n + g n
def sumN (g : Nat → Nat) : Nat → Nat
  | 0 => 0
  | n + 1 => sumN g n + g n
def allB (P : Nat → Bool) : Nat → Bool
  | 0 => true
  | n + 1 => allB P n && P n
theorem lit_le {N k : Nat} {c : Int32} (hc : c = nI N) (h : N ≤ k) (hk : k < 2 ^ 31) : c ≤ nI k := by rw [hc]; exact nI_le h hk
theorem lit_nle {N k : Nat} {c : Int32} (hc : c = nI N) (h : k < N) (hk : N < 2 ^ 31) : ¬ c ≤ nI k := by rw [hc]; exact nI_ge h hk
theorem lit_lt {N k : Nat} {c : Int32} (hc : c = nI N) (h : N < k) (hk : k < 2 ^ 31) : c < nI k := by rw [hc]; exact nI_lt h hk
theorem lit_nlt {N k : Nat} {c : Int32} (hc : c = nI N) (h : k ≤ N) (hk : N < 2 ^ 31) : ¬ c < nI k := by rw [hc]; exact nI_nlt h hk
/-- one step of a counting loop -/
theorem cnt_s1 {P : Nat → Bool} {n : Nat} (h : P n = true) : nI (cnt P n) + 1 = nI (cnt P (n + 1)) := by rw [cnt_t h, nI_succ]
theorem cnt_s0 {P : Nat → Bool} {n : Nat} (h : P n = false) : nI (cnt P n) + 0 = nI (cnt P (n + 1)) := by rw [cnt_f h, Int32.add_zero]
def pWt (τ : Mem) (s : Int32) (k : Nat) : Bool := τ 1 k == s
def pFc (τ : Mem) (f : Nat) (s : Int32) (op : Bool) (k : Nat) : Bool := τ 1 k == s && sFlawed τ f k && (!op || sSurf τ k)
def sFc (τ : Mem) (f : Nat) (s : Int32) (op : Bool) : Nat := cnt (pFc τ f s op) 1000
def sFt (τ : Mem) (f : Nat) (s w : Int32) : Int32 := if w < 2 then nI (sFc τ f s (decide (w = 1))) else if nI (sFc τ f s false) = 0 then -1 else if 0 < nI (sFc τ f s true) then 1 else 0
def pTurn (τ : Mem) (s p q r d : Int32) (k : Nat) : Bool := τ 1 k == s && decide (d < sHgt k p q r)
def sTurn (τ : Mem) (s p q r d : Int32) : Nat := cnt (pTurn τ s p q r d) 1000
/-- the cells up to n that a turn takes have become t -/
def gTurn (τ : Mem) (s p q r d t : Int32) (n : Nat) : Mem := fun i k => if i = 1 ∧ k < n ∧ pTurn τ s p q r d k = true then t else τ i k
def gBack (τ : Mem) (s : Int32) (n : Nat) : Mem := fun i k => if i = 1 ∧ k < n ∧ τ 1 k = -2 then s else τ i k
def sMost (τ : Mem) (s k : Nat) : Int32 := jmax (jabs (sPl τ s k 0)) (jmax (jabs (sPl τ s k 1)) (jabs (sPl τ s k 2)))
def pTouch (τ : Mem) (s k c : Nat) : Bool := τ 1 c == nI s && decide (sPl τ s k 3 < sHgt c (sPl τ s k 0) (sPl τ s k 1) (sPl τ s k 2) + sMost τ s k)
def sTouch (τ : Mem) (s k : Nat) : Nat := cnt (pTouch τ s k) 1000
def sFacet (τ : Mem) (s k : Nat) : Bool := decide (0 < nI (sTouch τ s k))
def nP (τ : Mem) (s : Nat) : Nat := (τ 4 s).toNatClampNeg
def nF (τ : Mem) : Nat := (τ 0 5).toNatClampNeg
def nS (τ : Mem) : Nat := (τ 0 7).toNatClampNeg
def pFacets (τ : Mem) (s : Nat) (po : Bool) (k : Nat) : Bool := sFacet τ s k && (!po || sPl τ s k 4 == 1)
def sFacets (τ : Mem) (s : Nat) (po : Bool) : Nat := cnt (pFacets τ s po) (nP τ s)
def sOpp (τ : Mem) (s a b : Nat) : Nat → Bool := allB (fun w => sPl τ s a w == 0 - sPl τ s b w)
def pPair (τ : Mem) (s a b : Nat) : Bool := sOpp τ s a b 3 && sFacet τ s a && sFacet τ s b
def sPairs (τ : Mem) (s : Nat) : Nat := sumN (fun a => cnt (pPair τ s a) a) (nP τ s)
def pFin (τ : Mem) (s : Int32) (how : Int32) (f : Nat) : Bool := sFt τ f s 2 == how
def sFin (τ : Mem) (s how : Int32) : Nat := cnt (pFin τ s how) (nF τ)
def sPts (τ : Mem) (s : Int32) : Nat → Int32 := sumI (fun f => if sFt τ f s 2 = 1 then 6 * sFl τ f 4 else if sFt τ f s 2 = 0 then 2 * sFl τ f 4 else 0)
def sWorth (τ : Mem) (s : Nat) : Int32 := if nI (sWt τ (nI s)) = 0 then 0 else
  (nI (sWt τ (nI s)) * nI (sWt τ (nI s)) / 10 + 10 * nI (sWt τ (nI s))) * jmax 10 (100 - sPts τ (nI s) (nF τ)) / 100 + 25 * nI (sFacets τ s true) + 40 * nI (sPairs τ s)
def sProd (τ : Mem) (s a b : Nat) : Int32 := sumI (fun w => sPl τ s a w * sPl τ s b w) 3
def sPt (τ : Mem) (s k w : Nat) : Int32 := if w < 4 then sPl τ s k w else if w = 4 then nI (sTouch τ s k) else sPl τ s k 4
theorem MI_P {τ : Mem} (h : MI τ) {s : Nat} (hs : s < 8) : τ 4 s = nI (nP τ s) ∧ nP τ s ≤ 17 := by
  obtain ⟨m, h1, h2⟩ := h.2.2.2.2.2 s hs
  have : nP τ s = m := by unfold nP; rw [h2]; exact nI_clamp (by omega)
  rw [this]; exact ⟨h2, h1⟩
theorem MI_F {τ : Mem} (h : MI τ) : τ 0 5 = nI (nF τ) ∧ nF τ ≤ 10 := by
  obtain ⟨m, h1, h2⟩ := h.2.2.2.1
  have : nF τ = m := by unfold nF; rw [h2]; exact nI_clamp (by omega)
  rw [this]; exact ⟨h2, h1⟩
theorem MI_S {τ : Mem} (h : MI τ) : τ 0 7 = nI (nS τ) ∧ 1 ≤ nS τ ∧ nS τ ≤ 8 := by
  obtain ⟨m, h1, h3, h2⟩ := h.2.2.2.2.1
  have : nS τ = m := by unfold nS; rw [h2]; exact nI_clamp (by omega)
  rw [this]; exact ⟨h2, h1, h3⟩

theorem gTurn_at {τ : Mem} {s p q r d t : Int32} {n : Nat} : gTurn τ s p q r d t n 1 n = τ 1 n := by simp [gTurn]
theorem gTurn_s1 {τ : Mem} {s p q r d t : Int32} {n : Nat} (h : pTurn τ s p q r d n = true) : upd2 (gTurn τ s p q r d t n) 1 n t = gTurn τ s p q r d t (n + 1) := by
  funext i k
  unfold upd2 gTurn
  by_cases hi : i = 1
  · subst hi
    by_cases hk : k = n
    · subst hk; simp [h]
    · simp only [hk, if_true, if_false, true_and]
      by_cases h2 : k < n
      · simp [h2, show k < n + 1 by omega]
      · simp [h2, show ¬ k < n + 1 by omega]
  · simp [hi]
theorem gTurn_s0 {τ : Mem} {s p q r d t : Int32} {n : Nat} (h : pTurn τ s p q r d n = false) : gTurn τ s p q r d t n = gTurn τ s p q r d t (n + 1) := by
  funext i k
  unfold gTurn
  by_cases hk : k = n
  · subst hk; simp [h]
  · by_cases h2 : k < n
    · simp [h2, show k < n + 1 by omega]
    · simp [h2, show ¬ k < n + 1 by omega]
theorem gTurn_0 {τ : Mem} {s p q r d t : Int32} : gTurn τ s p q r d t 0 = τ := by
  funext i k; simp [gTurn]
theorem gBack_at {τ : Mem} {s : Int32} {n : Nat} : gBack τ s n 1 n = τ 1 n := by simp [gBack]
theorem gBack_s1 {τ : Mem} {s : Int32} {n : Nat} (h : τ 1 n = -2) : upd2 (gBack τ s n) 1 n s = gBack τ s (n + 1) := by
  funext i k
  unfold upd2 gBack
  by_cases hi : i = 1
  · subst hi
    by_cases hk : k = n
    · subst hk; simp [h]
    · simp only [hk, if_true, if_false, true_and]
      by_cases h2 : k < n
      · simp [h2, show k < n + 1 by omega]
      · simp [h2, show ¬ k < n + 1 by omega]
  · simp [hi]
theorem gBack_s0 {τ : Mem} {s : Int32} {n : Nat} (h : ¬ τ 1 n = -2) : gBack τ s n = gBack τ s (n + 1) := by
  funext i k
  unfold gBack
  by_cases hk : k = n
  · subst hk
    by_cases hi : i = 1
    · simp [h, hi]
    · simp [hi]
  · by_cases h2 : k < n
    · simp [h2, show k < n + 1 by omega]
    · simp [h2, show ¬ k < n + 1 by omega]
theorem gBack_0 {τ : Mem} {s : Int32} : gBack τ s 0 = τ := by
  funext i k; simp [gBack]
/-- the answer of stone, by what is asked -/
def pSf (τ : Mem) (s : Int32) (k : Nat) : Bool := τ 1 k == s && sSurf τ k
def sSt (τ : Mem) (s w : Nat) : Int32 :=
  if w = 0 then nI (sWt τ (nI s)) else if w = 1 then τ 4 s else if w = 2 then nI (sFacets τ s false) else if w = 3 then nI (sFacets τ s true)
  else if w = 4 then nI (sPairs τ s) else if w = 5 then nI (sFin τ (nI s) 1) else if w = 6 then nI (sFin τ (nI s) 0) else if w = 7 then sWorth τ s else nI (cnt (pSf τ (nI s)) 1000)
def sCtv (τ : Mem) (w : Nat) (s : Nat) : Int32 := if w = 1 then nI (sWt τ (nI s)) else if w = 6 then sWorth τ s else b2i (decide (0 < nI (sWt τ (nI s))))
def sCt (τ : Mem) (w : Nat) : Int32 :=
  if w = 0 then τ 0 1 * τ 0 2 * τ 0 3 else if w = 2 then τ 0 7 else if w = 4 then τ 0 5 else if w = 5 then τ 0 10 else if w = 7 then τ 0 11
  else sumI (sCtv τ w) (nS τ)
def sTilt (p q r d : Int32) : Bool := sIn p (-3) 3 && sIn q (-3) 3 && sIn r (-3) 3 && (!(p == 0) || !(q == 0) || !(r == 0)) && sIn d (-100) 100
def gSpend (τ : Mem) (v : Int32) : Mem := upd2 (upd2 τ 0 10 (τ 0 10 - v)) 0 11 (τ 0 11 + v)
/-- what 'end' has found among the first cells: the best height, and whether there was none yet -/
def sEndS (τ : Mem) (s : Int32) (C : Nat → Bool) (p q r : Int32) (g : Bool) : Nat → Int32 × Bool
  | 0 => (0, true)
  | k + 1 => if (τ 1 k == s && C k) = true then (if ((sEndS τ s C p q r g k).2 || (decide ((sEndS τ s C p q r g k).1 < sHgt k p q r) == g)) = true then (sHgt k p q r, false) else ((sEndS τ s C p q r g k).1, false)) else sEndS τ s C p q r g k
def sEC (τ : Mem) (f : Option Nat) (k : Nat) : Bool := match f with
  | none => true
  | some f => sFlawed τ f k
def sEnd (τ : Mem) (s : Int32) (f : Option Nat) (p q r : Int32) (g : Bool) : Int32 := (sEndS τ s (sEC τ f) p q r g 1000).1
def oI (f : Option Nat) : Int32 := match f with
  | none => -1
  | some f => nI f
theorem MI_th {τ : Mem} (h : MI τ) (v : Int32) : MI (upd2 τ 0 0 v) := by
  refine ⟨?_, ?_, ?_, ?_, ?_, ?_⟩
  · rw [upd2_nj (by decide)]; exact h.1
  · rw [upd2_nj (by decide)]; exact h.2.1
  · rw [upd2_nj (by decide)]; exact h.2.2.1
  · rw [upd2_nj (by decide)]; exact h.2.2.2.1
  · rw [upd2_nj (by decide)]; exact h.2.2.2.2.1
  · intro s hs; rw [upd2_ni (by decide)]; exact h.2.2.2.2.2 s hs
theorem sPlane_nI {τ : Mem} {s k : Int32} (hM : MI τ) (h : sPlane τ s k = true) : ∃ a b, a < 8 ∧ a < nS τ ∧ b < nP τ a ∧ b < 17 ∧ s = nI a ∧ k = nI b ∧ s.toNatClampNeg = a ∧ k.toNatClampNeg = b := by
  simp only [sPlane, Bool.and_eq_true] at h
  obtain ⟨j, hj, rfl⟩ := sStone_nI hM h.1
  have hc : (nI j).toNatClampNeg = j := nI_clamp (by omega)
  obtain ⟨e1, e2⟩ := MI_P hM hj
  rw [hc, e1] at h
  have h1 := h.1
  rw [sStone, (MI_S hM).1] at h1
  obtain ⟨j2, e5, e6⟩ := (sIn_nI (MI_S hM).2.1 (by have := (MI_S hM).2.2; omega)).mp h1
  have : j = j2 := nI_inj (by omega) (by have := (MI_S hM).2.2; omega) e6
  subst this
  rcases Nat.lt_or_ge (nP τ j) 1 with q | q
  · exfalso
    have h3 : nP τ j = 0 := by omega
    have h4 := h.2
    rw [h3] at h4
    simp only [sIn, Bool.and_eq_true, decide_eq_true_iff] at h4
    have h5 := Int32.le_trans h4.1 h4.2
    exact absurd h5 (by decide)
  · obtain ⟨m, hm, rfl⟩ := (sIn_nI q (by omega)).mp h.2
    exact ⟨j, m, hj, e5, hm, by omega, rfl, rfl, hc, nI_clamp (by omega)⟩
theorem sStone_at {τ : Mem} {s : Int32} (hM : MI τ) (h : sStone τ s = true) : ∃ a, a < 8 ∧ a < nS τ ∧ s = nI a ∧ s.toNatClampNeg = a := by
  rw [sStone, (MI_S hM).1] at h
  obtain ⟨j, e5, rfl⟩ := (sIn_nI (MI_S hM).2.1 (by have := (MI_S hM).2.2; omega)).mp h
  exact ⟨j, by have := (MI_S hM).2.2; omega, e5, rfl, nI_clamp (by have := (MI_S hM).2.2; omega)⟩
theorem sIn_at {v hi : Int32} {n : Nat} (hh : hi = nI n) (hn : n < 1000) (h : sIn v 0 hi = true) : ∃ a, a ≤ n ∧ v = nI a ∧ v.toNatClampNeg = a := by
  have h1 : sIn v 0 (nI (n + 1) - 1) = true := by rw [nI_pred, ← hh]; exact h
  obtain ⟨j, e5, rfl⟩ := (sIn_nI (by omega) (by omega)).mp h1
  exact ⟨j, by omega, rfl, nI_clamp (by omega)⟩
theorem sFlaw_at {τ : Mem} {f : Int32} (hM : MI τ) (h : sIn f 0 (τ 0 5 - 1) = true) : ∃ a, a < 10 ∧ a < nF τ ∧ f = nI a ∧ f.toNatClampNeg = a := by
  obtain ⟨e1, e2⟩ := MI_F hM
  rw [e1] at h
  rcases Nat.lt_or_ge (nF τ) 1 with q | q
  · exfalso
    rw [show nF τ = 0 by omega] at h
    simp only [sIn, Bool.and_eq_true, decide_eq_true_iff] at h
    exact absurd (Int32.le_trans h.1 h.2) (by decide)
  · obtain ⟨m, hm, rfl⟩ := (sIn_nI q (by omega)).mp h
    exact ⟨m, by omega, hm, rfl, nI_clamp (by omega)⟩
theorem oI_ne {f : Nat} (h : f < 10) : ¬ oI (some f) = -1 := by
  have : ∀ f, f < 10 → ¬ nI f = -1 := by decide +kernel
  exact this f h
/-! a row of five made on the way: the reference's world with one cell more -/
theorem gW_congr {Lw : gL} {E : gE} {σ σ' : Mem} (h : ∀ i, i < Lw.1 → σ i = σ' i) : gW Lw E σ = gW Lw E σ' := by
  apply List.ext_getElem?
  intro q
  by_cases hq : q < Lw.1
  · rw [gW_at _ _ _ hq, gW_at _ _ _ hq, h q hq]
  · rw [List.getElem?_eq_none (by rw [gW_len]; omega), List.getElem?_eq_none (by rw [gW_len]; omega)]
/-- only the cells of the world count -/
theorem g_mem {Lw : gL} {X : gC} {k n pc : Nat} {ls : List (Option Value)} {st : List Value} {σ : Mem} (σ' : Mem) (h : ∀ i, i < Lw.1 → σ i = σ' i) (kk : G Lw X k n pc ls st σ') : G Lw X k n pc ls st σ := by
  obtain ⟨p, l', e, R, s, m, args, below, meth, c, nL, H0, A, E, Q⟩ := X
  exact fun H locs arr hn hP hS hl => kk H locs arr hn (by rw [← gW_congr h]; exact hP) hS hl
end
section
/-! the reference's pure words (of whole), [14, 15] -/
abbrev tn (x : Int32) : Nat := x.toNatClampNeg
abbrev mTh (τ : Mem) : Mem := upd2 τ 0 0 0
abbrev mFail (τ : Mem) (v : Int32) : Int32 × Mem := (0, upd2 (mTh τ) 0 0 v)
def gRow5 (a b c d e : Int32) (j : Nat) : Int32 := if j = 0 then a else if j = 1 then b else if j = 2 then c else if j = 3 then d else e
/-- a plane put behind those of a stone -/
def gPut (τ : Mem) (s : Nat) (p q r d : Int32) : Mem := fun i j => if i = 3 then (if 5 * (17 * s + nP τ s) ≤ j ∧ j < 5 * (17 * s + nP τ s) + 5 then gRow5 p q r d 0 (j - 5 * (17 * s + nP τ s)) else τ 3 j) else if i = 4 ∧ j = s then τ 4 s + 1 else τ i j
def mCell (τ : Mem) (x y z : Int32) : Int32 × Mem := if sCell (mTh τ) x y z = true then ((mTh τ) 1 (tn (sAt x y z)), mTh τ) else mFail τ 1
def mFlawIn (τ : Mem) (f s w : Int32) : Int32 × Mem := if sIn f 0 ((mTh τ) 0 5 - 1) = true ∧ sStone (mTh τ) s = true ∧ sIn w 0 2 = true then (sFt (mTh τ) (tn f) s w, mTh τ) else mFail τ 1
def mStone (τ : Mem) (s w : Int32) : Int32 × Mem := if sStone (mTh τ) s = true ∧ sIn w 0 8 = true then (sSt (mTh τ) (tn s) (tn w), mTh τ) else mFail τ 1
def mPlane (τ : Mem) (s k w : Int32) : Int32 × Mem := if sPlane (mTh τ) s k = true ∧ sIn w 0 5 = true then (sPt (mTh τ) (tn s) (tn k) (tn w), mTh τ) else mFail τ 1
def mCount (τ : Mem) (w : Int32) : Int32 × Mem := if sIn w 0 7 = true then (sCt (mTh τ) (tn w), mTh τ) else mFail τ 1
def sAng (τ : Mem) (s a b : Nat) : Int32 := if sProd τ s a b < 0 then 0 - 100 * sProd τ s a b * sProd τ s a b / (sProd τ s a a * sProd τ s b b) else 100 * sProd τ s a b * sProd τ s a b / (sProd τ s a a * sProd τ s b b)
def mAngle (τ : Mem) (s a b : Int32) : Int32 × Mem := if sPlane (mTh τ) s a = true ∧ sPlane (mTh τ) s b = true then (sAng (mTh τ) (tn s) (tn a) (tn b), mTh τ) else mFail τ 1
def mDress (τ : Mem) : Int32 × Mem := ((mTh τ) 0 10, upd2 (mTh τ) 0 10 400)
def mPolish (τ : Mem) (s k : Int32) : Int32 × Mem := if sPlane (mTh τ) s k = true then
    (if nI (sTouch (mTh τ) (tn s) (tn k)) = 0 ∨ sPl (mTh τ) (tn s) (tn k) 4 = 1 ∨ (mTh τ) 0 10 < nI (sTouch (mTh τ) (tn s) (tn k)) + 5 then mFail τ 2
     else (nI (sTouch (mTh τ) (tn s) (tn k)) + 5, gSpend (upd2 (mTh τ) 3 (5 * (17 * tn s + tn k) + 4) 1) (nI (sTouch (mTh τ) (tn s) (tn k)) + 5)))
  else mFail τ 1
/-- no two of the planes that are kept have squares whose product is 0 -/
def MZ (τ : Mem) : Prop := ∀ s a b, s < nS τ → a < nP τ s → b < nP τ s → ¬ sProd τ s a a * sProd τ s b b = 0
/-- no cell bears a mark -/
def NM (τ : Mem) : Prop := ∀ k, k < 1000 → ¬ τ 1 k = -2
theorem MZ_th {τ : Mem} (h : MZ τ) : MZ (mTh τ) := by
  have hs : nS (mTh τ) = nS τ := by unfold nS mTh; rw [upd2_nj (by decide)]
  have hp : ∀ s, nP (mTh τ) s = nP τ s := fun s => by unfold nP mTh; rw [upd2_ni (by decide)]
  have hq : ∀ s a b, sProd (mTh τ) s a b = sProd τ s a b := fun s a b => by unfold sProd sPl mTh; simp only [upd2_ni (show (3 : Nat) ≠ 0 by decide)]
  intro s a b h1 h2 h3
  rw [hs] at h1
  rw [hp] at h2 h3
  rw [hq, hq]
  exact h s a b h1 h2 h3
theorem NM_th {τ : Mem} (h : NM τ) : NM (mTh τ) := fun k hk => by rw [show (mTh τ) 1 k = τ 1 k by simp only [mTh]; rw [upd2_ni (by decide)]]; exact h k hk
theorem back_turn {τ : Mem} (h : NM τ) (s p q r d : Int32) : gBack (gTurn τ s p q r d (-2) 1000) s 1000 = τ := by
  funext i k
  unfold gBack
  by_cases hi : i = 1
  · subst hi
    by_cases hk : k < 1000
    · by_cases ht : pTurn τ s p q r d k = true
      · have h1 : gTurn τ s p q r d (-2) 1000 1 k = -2 := by simp [gTurn, hk, ht]
        rw [if_pos ⟨rfl, hk, h1⟩]
        simp [pTurn] at ht
        exact ht.1.symm
      · have h1 : gTurn τ s p q r d (-2) 1000 1 k = τ 1 k := by simp [gTurn, ht]
        rw [if_neg (by rw [h1]; exact fun hh => h k hk hh.2.2), h1]
    · rw [if_neg (fun hh => hk hh.2.1)]
      simp [gTurn, hk]
  · rw [if_neg (fun hh => hi hh.1)]
    simp [gTurn, hi]
def mSaw (τ : Mem) (s p q r d : Int32) : Int32 × Mem :=
  if sStone (mTh τ) s = true then
    (if sTilt p q r d = true then
      (if (mTh τ) 0 7 = 8 ∨ nI (sTurn (mTh τ) s p q r d) = 0 ∨ nI (sTurn (mTh τ) s p q r d) = nI (sWt (mTh τ) s) then mFail τ 3
       else ((mTh τ) 0 7, upd2 (upd2 (gTurn (mTh τ) s p q r d ((mTh τ) 0 7) 1000) 4 (nS (mTh τ)) 0) 0 7 ((mTh τ) 0 7 + 1)))
     else mFail τ 2)
  else mFail τ 1
def mCut (τ : Mem) (s p q r d : Int32) : Int32 × Mem :=
  if sStone (mTh τ) s = true then
    (if sTilt p q r d = true then
      (if (mTh τ) 4 (tn s) = 16 ∨ (mTh τ) 0 10 < 3 * nI (sTurn (mTh τ) s p q r d) then mFail τ 3
       else (nI (sTurn (mTh τ) s p q r d), gSpend (gPut (gTurn (mTh τ) s p q r d (-1) 1000) (tn s) p q r d) (3 * nI (sTurn (mTh τ) s p q r d))))
     else mFail τ 2)
  else mFail τ 1
theorem nP_turn (τ : Mem) (s p q r d t : Int32) (n k : Nat) : nP (gTurn τ s p q r d t n) k = nP τ k := by simp [nP, gTurn]
theorem MI_turn {τ : Mem} (h : MI τ) (s p q r d t : Int32) (n : Nat) : MI (gTurn τ s p q r d t n) := by
  have h0 : ∀ i, i ≠ 1 → gTurn τ s p q r d t n i = τ i := fun i hi => by funext k; simp [gTurn, hi]
  refine ⟨?_, ?_, ?_, ?_, ?_, ?_⟩
  · rw [h0 0 (by decide)]; exact h.1
  · rw [h0 0 (by decide)]; exact h.2.1
  · rw [h0 0 (by decide)]; exact h.2.2.1
  · rw [h0 0 (by decide)]; exact h.2.2.2.1
  · rw [h0 0 (by decide)]; exact h.2.2.2.2.1
  · rw [h0 4 (by decide)]; exact h.2.2.2.2.2
theorem pidx {s n : Nat} {x : Int32} (h : x = nI n) : 5 * (17 * nI s + x) = nI (5 * (17 * s + n)) := by
  rw [h, show (17 : Int32) = nI 17 by decide, show (5 : Int32) = nI 5 by decide, nI_mul', nI_add, nI_mul']
/-- another rough -/
def gCells (τ : Mem) (n : Nat) : Mem := fun i k => if i = 1 ∧ k < n then (if sCell τ (kx k) (ky k) (kz k) = true then 0 else -1) else τ i k
def gBegin (τ : Mem) (c r l : Int32) : Mem :=
  upd2 (upd2 (upd2 (upd2 (upd2 (gCells (upd2 (upd2 (upd2 τ 0 1 c) 0 2 r) 0 3 l) 1000) 0 5 0) 0 7 1) 4 0 0) 0 10 400) 0 11 0
theorem gCells_0 {τ : Mem} : gCells τ 0 = τ := by funext i k; simp [gCells]
theorem gCells_c (τ : Mem) (n : Nat) (x y z : Int32) : sCell (gCells τ n) x y z = sCell τ x y z := by simp [sCell, gCells]
theorem gCells_s {τ : Mem} {n : Nat} {v : Int32} (h : v = if sCell τ (kx n) (ky n) (kz n) = true then 0 else -1) : upd2 (gCells τ n) 1 n v = gCells τ (n + 1) := by
  subst h
  funext i k
  unfold upd2 gCells
  by_cases hi : i = 1
  · subst hi
    by_cases hk : k = n
    · subst hk; simp
    · simp only [hk, if_true, if_false, true_and]
      by_cases h2 : k < n
      · simp [h2, show k < n + 1 by omega]
      · simp [h2, show ¬ k < n + 1 by omega]
  · simp [hi]
def mTake (τ : Mem) (c r l : Int32) : Int32 × Mem := if sIn c 1 10 = true ∧ sIn r 1 10 = true ∧ sIn l 1 10 = true then (c * r * l, gBegin (mTh τ) c r l) else mFail τ 1
/-- a flaw told: its five numbers behind the others -/
def gFlaw (τ : Mem) (x y z ra se : Int32) : Mem := fun i j => if i = 2 then (if 5 * nF τ ≤ j ∧ j < 5 * nF τ + 5 then gRow5 x y z ra se (j - 5 * nF τ) else τ 2 j) else if i = 0 ∧ j = 5 then τ 0 5 + 1 else τ i j
def mFlaw (τ : Mem) (x y z ra se : Int32) : Int32 × Mem :=
  if sCell (mTh τ) x y z = true then
    (if sIn ra 0 3 = true ∧ sIn se 1 9 = true then (if (mTh τ) 0 5 = 10 then mFail τ 3 else ((mTh τ) 0 5, gFlaw (mTh τ) x y z ra se)) else mFail τ 2)
  else mFail τ 1
theorem fidx {n : Nat} {x : Int32} (h : x = nI n) : 5 * x = nI (5 * n) := by rw [h, show (5 : Int32) = nI 5 by decide, nI_mul']
/-- what is looked at: a cut by marks, the plane put behind, and all taken back -/
def gMark (τ : Mem) (s : Nat) (p q r d : Int32) : Mem := gPut (gTurn τ (nI s) p q r d (-2) 1000) s p q r d
def sLook (τ : Mem) (s : Nat) (p q r d : Int32) (w : Nat) : Int32 :=
  if w = 0 then nI (sTurn τ (nI s) p q r d) else if w = 1 then sWorth (gMark τ s p q r d) s else if w = 2 then nI (sFin (gMark τ s p q r d) (nI s) 1) else nI (sPairs (gMark τ s p q r d) s)
/-- behind it: only the place behind the stone's planes has changed -/
def gLook (τ : Mem) (s : Nat) (p q r d : Int32) : Mem := fun i j => if i = 3 ∧ 5 * (17 * s + nP τ s) ≤ j ∧ j < 5 * (17 * s + nP τ s) + 5 then gRow5 p q r d 0 (j - 5 * (17 * s + nP τ s)) else τ i j
theorem MI_mark {τ : Mem} (h : MI τ) {s : Nat} (hs : s < 8) (hp : nP τ s ≤ 16) (p q r d : Int32) : MI (gMark τ s p q r d) := by
  have h1 := MI_turn h (nI s) p q r d (-2) 1000
  have h0 : ∀ j, gMark τ s p q r d 0 j = τ 0 j := fun j => by simp [gMark, gPut, gTurn]
  refine ⟨?_, ?_, ?_, ?_, ?_, ?_⟩
  · rw [h0]; exact h.1
  · rw [h0]; exact h.2.1
  · rw [h0]; exact h.2.2.1
  · rw [h0]; exact h.2.2.2.1
  · rw [h0]; exact h.2.2.2.2.1
  · intro a ha
    by_cases e : a = s
    · subst e
      refine ⟨nP τ a + 1, by omega, ?_⟩
      have := (MI_P h ha).1
      rw [nI_succ, ← this]
      simp [gMark, gPut, gTurn]
    · obtain ⟨m, hm, he⟩ := h.2.2.2.2.2 a ha
      exact ⟨m, hm, by simp [gMark, gPut, gTurn, e, he]⟩
theorem look_back {τ : Mem} (hM : MI τ) (hN : NM τ) {s : Nat} (hs : s < 8) (p q r d : Int32) : gBack (upd2 (gMark τ s p q r d) 4 s (gMark τ s p q r d 4 s - 1)) (nI s) 1000 = gLook τ s p q r d := by
  funext i k
  have hb := congrFun (congrFun (back_turn hN (nI s) p q r d) i) k
  by_cases hi : i = 1
  · subst hi
    simp only [gBack, upd2, gMark, gPut, gLook] at hb ⊢
    simpa using hb
  · by_cases h3 : i = 3
    · subst h3
      simp [gBack, upd2, gMark, gPut, gLook, nP_turn, gTurn]
    · by_cases h4 : i = 4
      · subst h4
        by_cases hk : k = s
        · subst hk
          have h1 : τ 4 k + 1 - 1 = τ 4 k := by rw [(MI_P hM hs).1, nI_1, nI_pred]
          simp [gBack, upd2, gMark, gPut, gLook, gTurn, h1]
        · simp [gBack, upd2, gMark, gPut, gLook, gTurn, hk]
      · simp [gBack, upd2, gMark, gPut, gLook, gTurn, hi, h3, h4]
def mWould (τ : Mem) (s p q r d w : Int32) : Int32 × Mem :=
  if sStone (mTh τ) s = true ∧ sIn w 0 3 = true then (if sTilt p q r d = true then (sLook (mTh τ) (tn s) p q r d (tn w), gLook (mTh τ) (tn s) p q r d) else mFail τ 2) else mFail τ 1
/-- every stone keeps 16 planes at most -/
def M16 (τ : Mem) : Prop := ∀ s, s < 8 → nP τ s ≤ 16
theorem M16_th {τ : Mem} (h : M16 τ) : M16 (mTh τ) := fun s hs => by
  have : nP (mTh τ) s = nP τ s := by unfold nP mTh; rw [upd2_ni (by decide)]
  rw [this]; exact h s hs
end
section
/-! the reference's pure words (of whole), [16] -/
/-! whole numbers as ints -/
abbrev iI (z : Int) : Int32 := Int32.ofInt z
theorem iI_toInt {z : Int} (h1 : -2147483648 ≤ z) (h2 : z < 2147483648) : (iI z).toInt = z := Int32.toInt_ofInt_of_le (by simpa using h1) (by simpa using h2)
theorem nI_iI (n : Nat) : nI n = iI n := Int32.ofInt_eq_ofNat.symm
theorem iI_add (a b : Int) : iI a + iI b = iI (a + b) := (Int32.ofInt_add a b).symm
theorem iI_mul (a b : Int) : iI a * iI b = iI (a * b) := (Int32.ofInt_mul a b).symm
theorem iI_sub (a b : Int) : iI a - iI b = iI (a - b) := (Int32.ofInt_sub a b).symm
theorem iI_of (x : Int32) : x = iI x.toInt := (Int32.ofInt_toInt x).symm
theorem iI_le {a b : Int} (ha : -2147483648 ≤ a ∧ a < 2147483648) (hb : -2147483648 ≤ b ∧ b < 2147483648) : iI a ≤ iI b ↔ a ≤ b := by rw [Int32.le_iff_toInt_le, iI_toInt ha.1 ha.2, iI_toInt hb.1 hb.2]
theorem iI_lt {a b : Int} (ha : -2147483648 ≤ a ∧ a < 2147483648) (hb : -2147483648 ≤ b ∧ b < 2147483648) : iI a < iI b ↔ a < b := by rw [Int32.lt_iff_toInt_lt, iI_toInt ha.1 ha.2, iI_toInt hb.1 hb.2]
theorem iI_eq {a b : Int} (ha : -2147483648 ≤ a ∧ a < 2147483648) (hb : -2147483648 ≤ b ∧ b < 2147483648) : iI a = iI b ↔ a = b := by rw [← Int32.toInt_inj, iI_toInt ha.1 ha.2, iI_toInt hb.1 hb.2]
theorem sIn_int {v : Int32} {a b : Int} (ha : -2147483648 ≤ a ∧ a < 2147483648) (hb : -2147483648 ≤ b ∧ b < 2147483648) : sIn v (iI a) (iI b) = true ↔ a ≤ v.toInt ∧ v.toInt ≤ b := by
  unfold sIn
  rw [Bool.and_eq_true, decide_eq_true_iff, decide_eq_true_iff, Int32.le_iff_toInt_le, Int32.le_iff_toInt_le, iI_toInt ha.1 ha.2, iI_toInt hb.1 hb.2]
/-- heights as whole numbers -/
def zHgt (k : Nat) (p q r : Int) : Int := p * (k % 10 : Nat) + q * (k / 10 % 10 : Nat) + r * (k / 100 : Nat)
theorem sHgt_iI (k : Nat) (p q r : Int) : sHgt k (iI p) (iI q) (iI r) = iI (zHgt k p q r) := by
  unfold sHgt zHgt kx ky kz
  rw [nI_iI, nI_iI, nI_iI, iI_mul, iI_mul, iI_mul, iI_add, iI_add]
theorem mul_rng {p : Int} {a : Nat} (hp : -3 ≤ p ∧ p ≤ 3) (ha : a ≤ 9) : -27 ≤ p * a ∧ p * a ≤ 27 := by
  have h1 : p = -3 ∨ p = -2 ∨ p = -1 ∨ p = 0 ∨ p = 1 ∨ p = 2 ∨ p = 3 := by omega
  rcases h1 with rfl | rfl | rfl | rfl | rfl | rfl | rfl <;> omega
theorem zHgt_rng {k : Nat} (hk : k < 1000) {p q r : Int} (hp : -3 ≤ p ∧ p ≤ 3) (hq : -3 ≤ q ∧ q ≤ 3) (hr : -3 ≤ r ∧ r ≤ 3) : -81 ≤ zHgt k p q r ∧ zHgt k p q r ≤ 81 := by
  have h1 := mul_rng (a := k % 10) hp (by omega)
  have h2 := mul_rng (a := k / 10 % 10) hq (by omega)
  have h3 := mul_rng (a := k / 100) hr (by omega)
  unfold zHgt
  omega
theorem sTilt_int {p q r d : Int32} (h : sTilt p q r d = true) : (-3 ≤ p.toInt ∧ p.toInt ≤ 3) ∧ (-3 ≤ q.toInt ∧ q.toInt ≤ 3) ∧ (-3 ≤ r.toInt ∧ r.toInt ≤ 3) ∧ (-100 ≤ d.toInt ∧ d.toInt ≤ 100) ∧ ¬ (p = 0 ∧ q = 0 ∧ r = 0) := by
  unfold sTilt at h
  simp only [Bool.and_eq_true, Bool.or_eq_true, Bool.not_eq_true', beq_eq_false_iff_ne, ne_eq] at h
  obtain ⟨⟨⟨⟨h1, h2⟩, h3⟩, h4⟩, h5⟩ := h
  have e3 : (-3 : Int32) = iI (-3) := by decide
  have e3' : (3 : Int32) = iI 3 := by decide
  have e1 : (-100 : Int32) = iI (-100) := by decide
  have e1' : (100 : Int32) = iI 100 := by decide
  rw [e3, e3'] at h1 h2 h3
  rw [e1, e1'] at h5
  refine ⟨(sIn_int (by omega) (by omega)).mp h1, (sIn_int (by omega) (by omega)).mp h2, (sIn_int (by omega) (by omega)).mp h3, (sIn_int (by omega) (by omega)).mp h5, ?_⟩
  rintro ⟨a, b, c⟩
  rcases h4 with (h4 | h4) | h4
  · exact h4 a
  · exact h4 b
  · exact h4 c
theorem sHgt_z {k : Nat} {p q r : Int32} : sHgt k p q r = iI (zHgt k p.toInt q.toInt r.toInt) := by
  rw [← sHgt_iI, ← iI_of, ← iI_of, ← iI_of]
/-- what 'end' finds -/
theorem sEndS_spec (τ : Mem) (s : Int32) (C : Nat → Bool) (p q r : Int32) (g : Bool) : ∀ n,
    ((sEndS τ s C p q r g n).2 = true ∧ (sEndS τ s C p q r g n).1 = 0 ∧ ∀ k, k < n → ¬ (τ 1 k == s && C k) = true) ∨
    ((sEndS τ s C p q r g n).2 = false ∧ (∃ k, k < n ∧ (τ 1 k == s && C k) = true ∧ (sEndS τ s C p q r g n).1 = sHgt k p q r) ∧
      ∀ k, k < n → (τ 1 k == s && C k) = true → if g = true then sHgt k p q r ≤ (sEndS τ s C p q r g n).1 else (sEndS τ s C p q r g n).1 ≤ sHgt k p q r) := by
  intro n
  induction n with
  | zero => left; exact ⟨rfl, rfl, fun k h => absurd h (by omega)⟩
  | succ n ih =>
    rw [sEndS]
    by_cases hc : (τ 1 n == s && C n) = true
    · rw [if_pos hc]
      right
      rcases ih with ⟨h1, h2, h3⟩ | ⟨h1, ⟨k0, hk0, hk1, hk2⟩, h3⟩
      · rw [if_pos (by rw [h1]; rfl)]
        refine ⟨rfl, ⟨n, by omega, hc, rfl⟩, fun k hk hkc => ?_⟩
        rcases Nat.lt_or_ge k n with hlt | hge
        · exact absurd hkc (h3 k hlt)
        · obtain rfl : k = n := by omega
          cases g <;> simp
      · by_cases hd : ((sEndS τ s C p q r g n).2 || (decide ((sEndS τ s C p q r g n).1 < sHgt n p q r) == g)) = true
        · rw [if_pos hd]
          refine ⟨rfl, ⟨n, by omega, hc, rfl⟩, fun k hk hkc => ?_⟩
          rcases Nat.lt_or_ge k n with hlt | hge
          · have h4 := h3 k hlt hkc
            rw [h1, Bool.false_or] at hd
            cases g
            · simp only [beq_iff_eq, decide_eq_false_iff_not] at hd
              simp only [Bool.false_eq_true, if_false] at h4 ⊢
              exact Int32.le_trans (Int32.not_lt.mp hd) h4
            · simp only [beq_iff_eq, decide_eq_true_eq] at hd
              simp only [if_true] at h4 ⊢
              exact Int32.le_trans h4 (Int32.le_of_lt hd)
          · obtain rfl : k = n := by omega
            cases g <;> simp
        · rw [if_neg hd]
          refine ⟨rfl, ⟨k0, by omega, hk1, hk2⟩, fun k hk hkc => ?_⟩
          rcases Nat.lt_or_ge k n with hlt | hge
          · exact h3 k hlt hkc
          · obtain rfl : k = n := by omega
            rw [h1, Bool.false_or] at hd
            cases g
            · simp only [beq_iff_eq, decide_eq_false_iff_not, Decidable.not_not] at hd
              simp only [Bool.false_eq_true, if_false]
              exact Int32.le_of_lt hd
            · simp only [beq_iff_eq, decide_eq_true_eq] at hd
              simp only [if_true]
              exact Int32.not_lt.mp hd
    · rw [if_neg hc]
      rcases ih with ⟨h1, h2, h3⟩ | ⟨h1, ⟨k0, hk0, hk1, hk2⟩, h3⟩
      · left
        refine ⟨h1, h2, fun k hk => ?_⟩
        rcases Nat.lt_or_ge k n with hlt | hge
        · exact h3 k hlt
        · obtain rfl : k = n := by omega
          exact hc
      · right
        refine ⟨h1, ⟨k0, by omega, hk1, hk2⟩, fun k hk hkc => ?_⟩
        rcases Nat.lt_or_ge k n with hlt | hge
        · exact h3 k hlt hkc
        · obtain rfl : k = n := by omega
          exact absurd hkc hc
/-- the ends of a stone of which something is left -/
theorem sEnd_rng {τ : Mem} {s : Int32} {p q r : Int32} (hw : ¬ nI (sWt τ s) = 0) (hp : -3 ≤ p.toInt ∧ p.toInt ≤ 3) (hq : -3 ≤ q.toInt ∧ q.toInt ≤ 3) (hr : -3 ≤ r.toInt ∧ r.toInt ≤ 3) :
    -81 ≤ (sEnd τ s none p q r false).toInt ∧ (sEnd τ s none p q r true).toInt ≤ 81 ∧ (sEnd τ s none p q r false).toInt ≤ (sEnd τ s none p q r true).toInt := by
  have hpos : 0 < sWt τ s := by
    rcases Nat.eq_zero_or_pos (sWt τ s) with h | h
    · exact absurd (by rw [h]; exact nI_0) hw
    · exact h
  obtain ⟨k1, hk1, hk2⟩ := (cnt_pos 1000).mp hpos
  have hk3 : (τ 1 k1 == s && sEC τ none k1) = true := by simpa [sEC, pWt] using hk2
  rcases sEndS_spec τ s (sEC τ none) p q r false 1000 with ⟨-, -, h⟩ | ⟨-, ⟨a, ha1, ha2, ha3⟩, ha4⟩
  · exact absurd hk3 (h k1 hk1)
  · rcases sEndS_spec τ s (sEC τ none) p q r true 1000 with ⟨-, -, h⟩ | ⟨-, ⟨b, hb1, hb2, hb3⟩, hb4⟩
    · exact absurd hk3 (h k1 hk1)
    · have e1 : sEnd τ s none p q r false = iI (zHgt a p.toInt q.toInt r.toInt) := by unfold sEnd; rw [ha3, sHgt_z]
      have e2 : sEnd τ s none p q r true = iI (zHgt b p.toInt q.toInt r.toInt) := by unfold sEnd; rw [hb3, sHgt_z]
      have ra := zHgt_rng ha1 hp hq hr
      have rb := zHgt_rng hb1 hp hq hr
      have h5 := ha4 b hb1 hb2
      simp only [Bool.false_eq_true, if_false] at h5
      rw [ha3, sHgt_z, sHgt_z, iI_le (by omega) (by omega)] at h5
      rw [e1, e2, iI_toInt (by omega) (by omega), iI_toInt (by omega) (by omega)]
      omega
/-- two memories that differ behind the kept planes alone -/
def Qe (τ τ' : Mem) : Prop := (∀ i, i < 3 → τ' i = τ i) ∧ τ' 4 = τ 4 ∧ ∀ s k w, s < 8 → k < nP τ s → w < 5 → sPl τ' s k w = sPl τ s k w
theorem Qe.rf (τ : Mem) : Qe τ τ := ⟨fun _ _ => rfl, rfl, fun _ _ _ _ _ _ => rfl⟩
theorem Qe_nP {τ τ' : Mem} (h : Qe τ τ') (s : Nat) : nP τ' s = nP τ s := congrArg (fun f => (f s).toNatClampNeg) h.2.1
theorem Qe_tr {a b c : Mem} (h1 : Qe a b) (h2 : Qe b c) : Qe a c :=
  ⟨fun i hi => (h2.1 i hi).trans (h1.1 i hi), h2.2.1.trans h1.2.1, fun s k w hs hk hw => (h2.2.2 s k w hs (by rw [Qe_nP h1]; exact hk) hw).trans (h1.2.2 s k w hs hk hw)⟩
section QE
variable {τ τ' : Mem}
theorem Qe_nF (h : Qe τ τ') : nF τ' = nF τ := congrArg (fun f => (f 5).toNatClampNeg) (h.1 0 (by decide))
theorem Qe_nS (h : Qe τ τ') : nS τ' = nS τ := congrArg (fun f => (f 7).toNatClampNeg) (h.1 0 (by decide))
theorem Qe_0 (h : Qe τ τ') : τ' 0 = τ 0 := h.1 0 (by decide)
theorem Qe_1 (h : Qe τ τ') : τ' 1 = τ 1 := h.1 1 (by decide)
theorem Qe_2 (h : Qe τ τ') : τ' 2 = τ 2 := h.1 2 (by decide)
theorem Qe_Cell (h : Qe τ τ') : sCell τ' = sCell τ := by funext x y z; simp only [sCell, Qe_0 h]
theorem Qe_Of (h : Qe τ τ') : sOf τ' = sOf τ := by funext x y z s; simp only [sOf, Qe_1 h, Qe_Cell h]
theorem Qe_Surf (h : Qe τ τ') : sSurf τ' = sSurf τ := by funext k; simp only [sSurf, Qe_1 h, Qe_Of h]
theorem Qe_Flawed (h : Qe τ τ') : sFlawed τ' = sFlawed τ := by funext f k; simp only [sFlawed, sFl, Qe_2 h]; rfl
theorem Qe_Wt (h : Qe τ τ') : sWt τ' = sWt τ := by funext s; simp only [sWt, Qe_1 h]
theorem Qe_pFc (h : Qe τ τ') : pFc τ' = pFc τ := by funext f s op k; simp only [pFc, Qe_1 h, Qe_Surf h, Qe_Flawed h]
theorem Qe_Fc (h : Qe τ τ') : sFc τ' = sFc τ := by funext f s op; simp only [sFc, Qe_pFc h]
theorem Qe_Ft (h : Qe τ τ') : sFt τ' = sFt τ := by funext f s w; simp only [sFt, Qe_Fc h]
theorem Qe_pTurn (h : Qe τ τ') : pTurn τ' = pTurn τ := by funext s p q r d k; simp only [pTurn, Qe_1 h]
theorem Qe_Turn (h : Qe τ τ') : sTurn τ' = sTurn τ := by funext s p q r d; simp only [sTurn, Qe_pTurn h]
theorem Qe_Fin (h : Qe τ τ') : sFin τ' = sFin τ := by
  funext s how
  have : pFin τ' = pFin τ := by funext a b f; simp only [pFin, Qe_Ft h]
  simp only [sFin, this, Qe_nF h]
theorem Qe_Pts (h : Qe τ τ') : sPts τ' = sPts τ := by
  funext s
  have h2 : sFl τ' = sFl τ := by funext f w; simp only [sFl, Qe_2 h]
  simp only [sPts, Qe_Ft h, h2]
theorem Qe_Touch (h : Qe τ τ') {s k : Nat} (hs : s < 8) (hk : k < nP τ s) : sTouch τ' s k = sTouch τ s k := by
  have e : pTouch τ' s k = pTouch τ s k := by
    funext c
    simp only [pTouch, sMost, Qe_1 h, h.2.2 s k 0 hs hk (by decide), h.2.2 s k 1 hs hk (by decide), h.2.2 s k 2 hs hk (by decide), h.2.2 s k 3 hs hk (by decide)]
    rfl
  simp only [sTouch, e]
theorem Qe_Facet (h : Qe τ τ') {s k : Nat} (hs : s < 8) (hk : k < nP τ s) : sFacet τ' s k = sFacet τ s k := by simp only [sFacet, Qe_Touch h hs hk]
theorem Qe_Facets (h : Qe τ τ') {s : Nat} (hs : s < 8) (po : Bool) : sFacets τ' s po = sFacets τ s po := by
  unfold sFacets
  rw [Qe_nP h]
  exact cnt_congr _ (fun k hk => by simp only [pFacets, Qe_Facet h hs hk, h.2.2 s k 4 hs hk (by decide)])
theorem sumN_congr {f g : Nat → Nat} : ∀ n, (∀ k, k < n → f k = g k) → sumN f n = sumN g n := by
  intro n
  induction n with
  | zero => intro _; rfl
  | succ n ih => intro h; simp only [sumN, ih (fun k hk => h k (by omega)), h n (by omega)]
theorem sumI_congr {f g : Nat → Int32} : ∀ n, (∀ k, k < n → f k = g k) → sumI f n = sumI g n := by
  intro n
  induction n with
  | zero => intro _; rfl
  | succ n ih => intro h; simp only [sumI, ih (fun k hk => h k (by omega)), h n (by omega)]
theorem Qe_Opp (h : Qe τ τ') {s a b : Nat} (hs : s < 8) (ha : a < nP τ s) (hb : b < nP τ s) : sOpp τ' s a b 3 = sOpp τ s a b 3 := by
  simp only [sOpp, allB, h.2.2 s a 0 hs ha (by decide), h.2.2 s a 1 hs ha (by decide), h.2.2 s a 2 hs ha (by decide), h.2.2 s b 0 hs hb (by decide), h.2.2 s b 1 hs hb (by decide), h.2.2 s b 2 hs hb (by decide)]
theorem Qe_Pairs (h : Qe τ τ') {s : Nat} (hs : s < 8) : sPairs τ' s = sPairs τ s := by
  unfold sPairs
  rw [Qe_nP h]
  exact sumN_congr _ (fun a ha => cnt_congr _ (fun b hb => by simp only [pPair, Qe_Opp h hs ha (show b < nP τ s by omega), Qe_Facet h hs ha, Qe_Facet h hs (show b < nP τ s by omega)]))
theorem Qe_Worth (h : Qe τ τ') {s : Nat} (hs : s < 8) : sWorth τ' s = sWorth τ s := by
  simp only [sWorth, Qe_Wt h, Qe_Pts h, Qe_nF h, Qe_Facets h hs, Qe_Pairs h hs]
theorem Qe_Prod (h : Qe τ τ') {s a b : Nat} (hs : s < 8) (ha : a < nP τ s) (hb : b < nP τ s) : sProd τ' s a b = sProd τ s a b := by
  unfold sProd
  exact sumI_congr _ (fun w hw => by rw [h.2.2 s a w hs ha (by omega), h.2.2 s b w hs hb (by omega)])
theorem Qe_MI (h : Qe τ τ') (hM : MI τ) : MI τ' := by
  unfold MI at hM ⊢
  rw [Qe_0 h, h.2.1]
  exact hM
theorem Qe_NM (h : Qe τ τ') (hN : NM τ) : NM τ' := fun k hk => by rw [Qe_1 h]; exact hN k hk
theorem Qe_M16 (h : Qe τ τ') (h6 : M16 τ) : M16 τ' := fun s hs => by rw [Qe_nP h]; exact h6 s hs
theorem Qe_EndS (h : Qe τ τ') (s : Int32) (C : Nat → Bool) (p q r : Int32) (g : Bool) : sEndS τ' s C p q r g = sEndS τ s C p q r g := by
  funext n
  induction n with
  | zero => rfl
  | succ n ih => rw [sEndS, sEndS, ih, Qe_1 h]
theorem Qe_End (h : Qe τ τ') (s : Int32) (o : Option Nat) (p q r : Int32) (g : Bool) : sEnd τ' s o p q r g = sEnd τ s o p q r g := by
  have e : sEC τ' o = sEC τ o := by funext k; cases o <;> simp only [sEC, Qe_Flawed h]
  unfold sEnd
  rw [e, Qe_EndS h]
theorem Qe_turn (h : Qe τ τ') (s p q r d t : Int32) (n : Nat) : Qe (gTurn τ s p q r d t n) (gTurn τ' s p q r d t n) := by
  refine ⟨fun i hi => ?_, ?_, fun s2 k w hs hk hw => ?_⟩
  · funext k
    simp only [gTurn, Qe_pTurn h, h.1 i hi]
  · funext k
    simp [gTurn, h.2.1]
  · have := h.2.2 s2 k w hs (by rw [nP_turn] at hk; exact hk) hw
    simpa [sPl, gTurn] using this
theorem slot_in {s2 k w s n : Nat} (hk : k < 17) (hn : n < 17) (hw : w < 5) : (5 * (17 * s + n) ≤ 5 * (17 * s2 + k) + w ∧ 5 * (17 * s2 + k) + w < 5 * (17 * s + n) + 5) ↔ (s2 = s ∧ k = n) := by
  constructor
  · rintro ⟨h1, h2⟩
    have : 17 * s + n = 17 * s2 + k := by omega
    omega
  · rintro ⟨rfl, rfl⟩
    omega
theorem nP_put (τ : Mem) (s : Nat) (p q r d : Int32) (s2 : Nat) : nP (gPut τ s p q r d) s2 = if s2 = s then (τ 4 s + 1).toNatClampNeg else nP τ s2 := by
  unfold nP gPut
  by_cases h : s2 = s
  · subst h; simp
  · simp [h]
theorem nP_put' {τ : Mem} {s : Nat} (h : τ 4 s = nI (nP τ s)) (hp : nP τ s ≤ 16) (p q r d : Int32) : nP (gPut τ s p q r d) s = nP τ s + 1 := by
  rw [nP_put, if_pos rfl, h, nI_1]
  exact nI_clamp (by omega)
theorem sPl_put {τ : Mem} {s : Nat} (hp : nP τ s ≤ 16) (p q r d : Int32) {s2 k w : Nat} (hk : k < 17) (hw : w < 5) : sPl (gPut τ s p q r d) s2 k w = if s2 = s ∧ k = nP τ s then gRow5 p q r d 0 w else sPl τ s2 k w := by
  unfold sPl gPut
  rw [if_pos rfl]
  by_cases h : s2 = s ∧ k = nP τ s
  · rw [if_pos h, if_pos ((slot_in hk (by omega) hw).mpr h)]
    obtain ⟨rfl, rfl⟩ := h
    congr 1
    omega
  · rw [if_neg h, if_neg (fun hh => h ((slot_in hk (by omega) hw).mp hh))]
theorem Qe_put (h : Qe τ τ') {s : Nat} (hm : τ 4 s = nI (nP τ s)) (h6 : M16 τ) (hs : s < 8) (p q r d : Int32) : Qe (gPut τ s p q r d) (gPut τ' s p q r d) := by
  have hp := h6 s hs
  refine ⟨fun i hi => ?_, ?_, fun s2 k w hs2 hk hw => ?_⟩
  · funext j
    simp [gPut, show ¬ i = 3 by omega, show ¬ i = 4 by omega, h.1 i hi]
  · funext j
    simp [gPut, h.2.1]
  · by_cases e : s2 = s
    · subst e
      rw [nP_put' hm hp] at hk
      rw [sPl_put (by rw [Qe_nP h]; exact hp) p q r d (by omega) hw, sPl_put hp p q r d (by omega) hw, Qe_nP h]
      by_cases e2 : k = nP τ s2
      · rw [if_pos ⟨rfl, e2⟩, if_pos ⟨rfl, e2⟩]
      · rw [if_neg (fun hh => e2 hh.2), if_neg (fun hh => e2 hh.2)]
        exact h.2.2 s2 k w hs2 (by omega) hw
    · rw [nP_put, if_neg e] at hk
      have h7 := h6 s2 hs2
      rw [sPl_put (by rw [Qe_nP h]; exact hp) p q r d (by omega) hw, sPl_put hp p q r d (by omega) hw, if_neg (fun hh => e hh.1), if_neg (fun hh => e hh.1)]
      exact h.2.2 s2 k w hs2 hk hw
theorem Qe_mark (h : Qe τ τ') (hM : MI τ) (h6 : M16 τ) {s : Nat} (hs : s < 8) (p q r d : Int32) : Qe (gMark τ s p q r d) (gMark τ' s p q r d) := by
  refine Qe_put (Qe_turn h _ _ _ _ _ _ _) ?_ (fun a ha => by rw [nP_turn]; exact h6 a ha) hs p q r d
  have := (MI_P (MI_turn hM (nI s) p q r d (-2) 1000) hs).1
  exact this
theorem nP_mark {τ : Mem} (hM : MI τ) (h6 : M16 τ) {s : Nat} (hs : s < 8) (p q r d : Int32) : nP (gMark τ s p q r d) s = nP τ s + 1 := by
  unfold gMark
  rw [nP_put' ((MI_P (MI_turn hM (nI s) p q r d (-2) 1000) hs).1) (by rw [nP_turn]; exact h6 s hs), nP_turn]
theorem Qe_Look (h : Qe τ τ') (hM : MI τ) (h6 : M16 τ) {s : Nat} (hs : s < 8) (p q r d : Int32) (w : Nat) : sLook τ' s p q r d w = sLook τ s p q r d w := by
  have hm := Qe_mark h hM h6 hs p q r d
  simp only [sLook, Qe_Turn h, Qe_Worth hm hs, Qe_Fin hm, Qe_Pairs hm hs]
theorem Qe_look {τ : Mem} (h6 : M16 τ) {s : Nat} (hs : s < 8) (p q r d : Int32) : Qe τ (gLook τ s p q r d) := by
  have hp := h6 s hs
  refine ⟨fun i hi => ?_, ?_, fun s2 k w hs2 hk hw => ?_⟩
  · funext j; simp [gLook, show ¬ i = 3 by omega]
  · funext j; simp [gLook]
  · have h7 := h6 s2 hs2
    unfold sPl gLook
    rw [if_neg]
    rintro ⟨-, h1⟩
    obtain ⟨rfl, h2⟩ := (slot_in (by omega) (by omega) hw).mp h1
    omega
end QE
/-- the best depth, among the first ones from the lowest on; the worth that it leaves -/
def sDepS (τ : Mem) (s : Nat) (p q r lo : Int32) : Nat → Int32 × Int32
  | 0 => (lo, -1)
  | i + 1 => if sLook τ s p q r (lo + nI i) 1 < (sDepS τ s p q r lo i).2 then sDepS τ s p q r lo i else (lo + nI i, sLook τ s p q r (lo + nI i) 1)
def sLo (τ : Mem) (s : Nat) (p q r : Int32) : Int32 := sEnd τ (nI s) none p q r false
def sHi (τ : Mem) (s : Nat) (p q r : Int32) : Int32 := sEnd τ (nI s) none p q r true
def sDep (τ : Mem) (s : Nat) (p q r : Int32) : Int32 := (sDepS τ s p q r (sLo τ s p q r) ((sHi τ s p q r).toInt - (sLo τ s p q r).toInt + 1).toNat).1
def mDepth (τ : Mem) (s p q r : Int32) : Int32 × Mem :=
  if sStone (mTh τ) s = true then (if sTilt p q r 0 = true then (if nI (sWt (mTh τ) s) = 0 then mFail τ 3 else (sDep (mTh τ) (tn s) p q r, mTh τ)) else mFail τ 2) else mFail τ 1
theorem add_rng {x : Int32} {i : Nat} (h1 : -81 ≤ x.toInt) (h2 : x.toInt ≤ 81) (h3 : i ≤ 1000) : (x + nI i).toInt = x.toInt + i := by
  conv => lhs; rw [iI_of x, nI_iI, iI_add]
  exact iI_toInt (by omega) (by omega)
end
section
/-! the reference's pure words (of whole), [17, 18] -/
def rP (k : Nat) : Int32 := nI k / 9 - 1
def rQ (k : Nat) : Int32 := nI k / 3 - nI k / 3 / 3 * 3 - 1
def rR (k : Nat) : Int32 := nI k - nI k / 3 * 3 - 1
def sRidD (τ : Mem) (f s k : Nat) : Int32 := sEnd τ (nI s) (some f) (rP k) (rQ k) (rR k) false - 1
def sRidL (τ : Mem) (f s k : Nat) : Int32 := sLook τ s (rP k) (rQ k) (rR k) (sRidD τ f s k) 0
/-- the plane with the least loss among the first ones: its number, its depth, the loss -/
def sRidS (τ : Mem) (f s : Nat) : Nat → Int32 × Int32 × Int32
  | 0 => (-1, 0, 1001)
  | k + 1 => if k = 13 then sRidS τ f s k else if sRidL τ f s k < (sRidS τ f s k).2.2 then (nI k, sRidD τ f s k, sRidL τ f s k) else sRidS τ f s k
def mRid (τ : Mem) (f s w : Int32) : Int32 × Mem :=
  if sIn f 0 ((mTh τ) 0 5 - 1) = true ∧ sStone (mTh τ) s = true ∧ sIn w 0 2 = true then
    (if nI (sFc (mTh τ) (tn f) s false) = 0 then (if w = 1 then -1000 else -1, mTh τ)
     else (if w = 0 then (sRidS (mTh τ) (tn f) (tn s) 27).1 else if w = 1 then (sRidS (mTh τ) (tn f) (tn s) 27).2.1 else (sRidS (mTh τ) (tn f) (tn s) 27).2.2, mTh τ))
  else mFail τ 1
theorem r_ne : ∀ k, k < 27 → ¬ k = 13 → ¬ nI k = 13 := by decide +kernel
/-! the checksum -/
def dg (d : Int64) (x : Int32) : Int64 := d * 31 + x.toInt64
def foldF (F : Nat → Int64 → Int64) : Nat → Int64 → Int64
  | 0, d => d
  | n + 1, d => F n (foldF F n d)
def nC (τ : Mem) : Nat := (τ 0 1).toNatClampNeg
def nR (τ : Mem) : Nat := (τ 0 2).toNatClampNeg
def nL (τ : Mem) : Nat := (τ 0 3).toNatClampNeg
theorem MI_C {τ : Mem} (h : MI τ) : (τ 0 1 = nI (nC τ) ∧ 1 ≤ nC τ ∧ nC τ ≤ 10) ∧ (τ 0 2 = nI (nR τ) ∧ 1 ≤ nR τ ∧ nR τ ≤ 10) ∧ (τ 0 3 = nI (nL τ) ∧ 1 ≤ nL τ ∧ nL τ ≤ 10) := by
  obtain ⟨⟨a, a1, a2, a3⟩, ⟨b, b1, b2, b3⟩, ⟨c, c1, c2, c3⟩, -⟩ := h
  have e1 : nC τ = a := by unfold nC; rw [a3]; exact nI_clamp (by omega)
  have e2 : nR τ = b := by unfold nR; rw [b3]; exact nI_clamp (by omega)
  have e3 : nL τ = c := by unfold nL; rw [c3]; exact nI_clamp (by omega)
  rw [e1, e2, e3]
  exact ⟨⟨a3, a1, a2⟩, ⟨b3, b1, b2⟩, ⟨c3, c1, c2⟩⟩
def mF1 (τ : Mem) (w : Nat) (d : Int64) : Int64 := dg d (sCt τ w)
def mFx (τ : Mem) (y z x : Nat) (d : Int64) : Int64 := dg d (τ 1 (x + 10 * (y + 10 * z)))
def mFy (τ : Mem) (z y : Nat) (d : Int64) : Int64 := foldF (mFx τ y z) (nC τ) d
def mFz (τ : Mem) (z : Nat) (d : Int64) : Int64 := foldF (mFy τ z) (nR τ) d
def mFw (τ : Mem) (s w : Nat) (d : Int64) : Int64 := dg d (sSt τ s w)
def mFp (τ : Mem) (s k w : Nat) (d : Int64) : Int64 := dg d (sPt τ s k w)
def mFk (τ : Mem) (s k : Nat) (d : Int64) : Int64 := foldF (mFp τ s k) 6 d
def mFs (τ : Mem) (s : Nat) (d : Int64) : Int64 := foldF (mFk τ s) (nP τ s) (foldF (mFw τ s) 9 d)
def mFv (τ : Mem) (f s w : Nat) (d : Int64) : Int64 := dg d (sFt τ f (nI s) (nI w))
def mFt (τ : Mem) (f s : Nat) (d : Int64) : Int64 := foldF (mFv τ f s) 3 d
def mFf (τ : Mem) (f : Nat) (d : Int64) : Int64 := foldF (mFt τ f) (nS τ) d
def mD1 (τ : Mem) : Int64 := foldF (mF1 τ) 8 577
def mD2 (τ : Mem) : Int64 := foldF (mFz τ) (nL τ) (mD1 τ)
def mD3 (τ : Mem) : Int64 := foldF (mFs τ) (nS τ) (mD2 τ)
def mDig (τ : Mem) : Int64 := foldF (mFf τ) (nF τ) (mD3 τ)
/-- a place that javac uses again holds nothing that is wanted -/
theorem foldF_s {F : Nat → Int64 → Int64} {n : Nat} {d : Int64} : F n (foldF F n d) = foldF F (n + 1) d := rfl
theorem foldF_0 {F : Nat → Int64 → Int64} {d : Int64} : foldF F 0 d = d := rfl
section FS
variable {τ : Mem} {d : Int64} {s k w f x y z : Nat}
theorem mF1_s : foldF (mF1 τ) (w + 1) d = foldF (mF1 τ) w d * 31 + (sCt τ w).toInt64 := by rw [← foldF_s, mF1]; rfl
theorem mFx_s : foldF (mFx τ y z) (x + 1) d = foldF (mFx τ y z) x d * 31 + (τ 1 (x + 10 * (y + 10 * z))).toInt64 := by rw [← foldF_s, mFx]; rfl
theorem mFy_s : foldF (mFy τ z) (y + 1) d = foldF (mFx τ y z) (nC τ) (foldF (mFy τ z) y d) := by rw [← foldF_s, mFy]
theorem mFz_s : foldF (mFz τ) (z + 1) d = foldF (mFy τ z) (nR τ) (foldF (mFz τ) z d) := by rw [← foldF_s, mFz]
theorem mFw_s : foldF (mFw τ s) (w + 1) d = foldF (mFw τ s) w d * 31 + (sSt τ s w).toInt64 := by rw [← foldF_s, mFw]; rfl
theorem mFp_s : foldF (mFp τ s k) (w + 1) d = foldF (mFp τ s k) w d * 31 + (sPt τ s k w).toInt64 := by rw [← foldF_s, mFp]; rfl
theorem mFk_s : foldF (mFk τ s) (k + 1) d = foldF (mFp τ s k) 6 (foldF (mFk τ s) k d) := by rw [← foldF_s, mFk]
theorem mFs_s : foldF (mFs τ) (s + 1) d = foldF (mFk τ s) (nP τ s) (foldF (mFw τ s) 9 (foldF (mFs τ) s d)) := by rw [← foldF_s, mFs]
theorem mFv_s : foldF (mFv τ f s) (w + 1) d = foldF (mFv τ f s) w d * 31 + (sFt τ f (nI s) (nI w)).toInt64 := by rw [← foldF_s, mFv]; rfl
theorem mFt_s : foldF (mFt τ f) (s + 1) d = foldF (mFv τ f s) 3 (foldF (mFt τ f) s d) := by rw [← foldF_s, mFt]
theorem mFf_s : foldF (mFf τ) (f + 1) d = foldF (mFt τ f) (nS τ) (foldF (mFf τ) f d) := by rw [← foldF_s, mFf]
end FS

theorem g_widen {Lw : gL} {X : gC} {k n k1 n1 pc : Nat} {ls : List (Option Value)} {st : List Value} {σ : Mem} (h1 : k ≤ k1) (h2 : n ≤ n1) (kk : G Lw X k1 n1 pc ls st σ) : G Lw X k n pc ls st σ := by
  obtain ⟨p, l', e, R, s, m, args, below, meth, c, nL, H0, A, E, Q⟩ := X
  exact fun H locs arr hn hP hS hl => W.widen h1 h2 (kk H locs arr hn hP hS hl)
/-! a quotient of two whole numbers is a number -/
theorem fp_asm (s : Bool) (e t : Nat) (h : (e ≤ 2046 ∧ t < 2 ^ 52) ∨ (e = 2047 ∧ t = 0)) : vf_n64 (UInt64.ofNat (FP.Core.assemble FP.Core.b64 s e t)) := by
  unfold vf_n64
  rw [UInt64.le_iff_toNat_le, UInt64.toNat_and, UInt64.toNat_ofNat']
  rw [show (9223372036854775807 : UInt64).toNat = 2 ^ 63 - 1 from rfl, Nat.and_two_pow_sub_one_eq_mod]
  rw [show (9218868437227405312 : UInt64).toNat = 9218868437227405312 from rfl]
  rw [show FP.Core.assemble FP.Core.b64 s e t = (s.toNat * 2048 + e) * 4503599627370496 + t from rfl]
  have hs : s.toNat = 0 ∨ s.toNat = 1 := by cases s <;> simp
  rcases hs with hs | hs <;> rw [hs] <;> omega
theorem fp_settle (s : Bool) (c : Nat) (q : Int) : vf_n64 (UInt64.ofNat (FP.Core.encode FP.Core.b64 (FP.Core.settle FP.Core.b64 s c q))) := by
  have hb : ∀ c q, c < 2 ^ 53 → vf_n64 (UInt64.ofNat (FP.Core.encode FP.Core.b64 (FP.Core.bound FP.Core.b64 s c q))) := by
    intro c q hc
    unfold FP.Core.bound
    by_cases hq : q ≤ FP.Core.b64.qmax
    · rw [if_pos hq]
      have hq2 : q ≤ 971 := hq
      show vf_n64 (UInt64.ofNat (if c < FP.Core.b64.tails then _ else _))
      by_cases hc2 : c < FP.Core.b64.tails
      · rw [if_pos hc2]
        have hc3 : c < 4503599627370496 := hc2
        exact fp_asm s 0 c (Or.inl ⟨by omega, by omega⟩)
      · rw [if_neg hc2]
        have hc3 : ¬ c < 4503599627370496 := hc2
        refine fp_asm s _ _ (Or.inl ⟨?_, ?_⟩)
        · have : (q - FP.Core.b64.qmin) = q + 1074 := by rw [show FP.Core.b64.qmin = -1074 from rfl]; omega
          rw [this]
          omega
        · rw [show FP.Core.b64.tails = 4503599627370496 from rfl]
          omega
    · rw [if_neg hq]
      exact fp_asm s _ 0 (Or.inr ⟨rfl, rfl⟩)
  unfold FP.Core.settle
  by_cases hc : c < 2 ^ FP.Core.b64.p
  · rw [if_pos hc]
    exact hb c q hc
  · rw [if_neg hc]
    exact hb _ _ (by rw [show FP.Core.b64.tails = 4503599627370496 from rfl]; omega)
def fpFin (d : FP.Core.Datum) (z : Bool) : Bool := match d with
  | .fin _ c _ => z || decide (c ≠ 0)
  | _ => false
theorem fp_div {x y : UInt64} (hx : fpFin (FP.Core.decode FP.Core.b64 x.toNat) true = true) (hy : fpFin (FP.Core.decode FP.Core.b64 y.toNat) false = true) : vf_n64 (FP.ddiv x y) := by
  show vf_n64 (UInt64.ofNat (FP.Core.encode FP.Core.b64 (FP.Core.quotient FP.Core.b64 (FP.Core.decode FP.Core.b64 x.toNat) (FP.Core.decode FP.Core.b64 y.toNat))))
  generalize FP.Core.decode FP.Core.b64 x.toNat = dx at hx ⊢
  generalize FP.Core.decode FP.Core.b64 y.toNat = dy at hy ⊢
  cases dx with
  | nan => cases hx
  | inf s => cases hx
  | fin s c q =>
    cases dy with
    | nan => cases hy
    | inf s => cases hy
    | fin t d r =>
      have hd : d ≠ 0 := by simpa [fpFin] using hy
      show vf_n64 (UInt64.ofNat (FP.Core.encode FP.Core.b64 (if d = 0 then _ else FP.Core.roundRatio FP.Core.b64 (s != t) c d (q - r))))
      rw [if_neg hd]
      unfold FP.Core.roundRatio
      by_cases hc : c = 0
      · rw [if_pos hc]
        exact fp_asm _ 0 0 (Or.inl ⟨by omega, by omega⟩)
      · rw [if_neg hc]
        exact fp_settle _ _ _
theorem fp_num' : ∀ a, a < 9 → ∀ b, b < 1000 → fpFin (FP.Core.decode FP.Core.b64 (FP.i2d (nI (1000 * a + b))).toNat) true = true := by decide +kernel
theorem fp_num (n : Nat) (h : n < 8001) : fpFin (FP.Core.decode FP.Core.b64 (FP.i2d (nI n)).toNat) true = true := by
  have := fp_num' (n / 1000) (by omega) (n % 1000) (by omega)
  rwa [show 1000 * (n / 1000) + n % 1000 = n by omega] at this
theorem fp_den : ∀ n, n < 1001 → n ≠ 0 → fpFin (FP.Core.decode FP.Core.b64 (FP.i2d (nI n)).toNat) false = true := by decide +kernel
theorem sumI_nI (g : Nat → Nat) : ∀ n, sumI (fun s => nI (g s)) n = nI (sumN g n) := by
  intro n
  induction n with
  | zero => rfl
  | succ n ih => simp only [sumI, sumN, ih, nI_add]
theorem sumN_le (g : Nat → Nat) (B : Nat) (h : ∀ k, g k ≤ B) : ∀ n, sumN g n ≤ B * n := by
  intro n
  induction n with
  | zero => simp [sumN]
  | succ n ih =>
    have := h n
    simp only [sumN]
    rw [Nat.mul_succ]
    omega
theorem sCt_1 (τ : Mem) : sCt τ 1 = nI (sumN (fun s => sWt τ (nI s)) (nS τ)) := by
  rw [← sumI_nI]
  rfl
theorem sCt_0 {τ : Mem} (hM : MI τ) : sCt τ 0 = nI (nC τ * nR τ * nL τ) := by
  obtain ⟨⟨hC1, hC2, hC3⟩, ⟨hR1, hR2, hR3⟩, ⟨hL1, hL2, hL3⟩⟩ := MI_C hM
  show τ 0 1 * τ 0 2 * τ 0 3 = _
  rw [hC1, hR1, hL1, nI_mul', nI_mul']
theorem vol_rng {a b c : Nat} (ha : 1 ≤ a ∧ a ≤ 10) (hb : 1 ≤ b ∧ b ≤ 10) (hc : 1 ≤ c ∧ c ≤ 10) : 1 ≤ a * b * c ∧ a * b * c ≤ 1000 := by
  have h1 : 1 ≤ a * b := Nat.mul_pos ha.1 hb.1
  have h2 : a * b ≤ 10 * 10 := Nat.mul_le_mul ha.2 hb.2
  exact ⟨Nat.mul_pos h1 hc.1, Nat.mul_le_mul h2 hc.2⟩
theorem kept_num {τ : Mem} (hM : MI τ) : vf_n64 (FP.ddiv (FP.i2d (sCt τ 1)) (FP.i2d (sCt τ 0))) := by
  obtain ⟨⟨hC1, hC2, hC3⟩, ⟨hR1, hR2, hR3⟩, ⟨hL1, hL2, hL3⟩⟩ := MI_C hM
  obtain ⟨-, hS2, hS3⟩ := MI_S hM
  rw [sCt_1, sCt_0 hM]
  have h1 := sumN_le (fun s => sWt τ (nI s)) 1000 (fun k => cnt_le _ 1000) (nS τ)
  have h2 := vol_rng ⟨hC2, hC3⟩ ⟨hR2, hR3⟩ ⟨hL2, hL3⟩
  exact fp_div (fp_num _ (by omega)) (fp_den _ (by omega) (by omega))
end
