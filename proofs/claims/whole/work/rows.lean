section
-- ===== PART A: goes FIRST, ahead of the names: the tables' words, and 'selects' of the private methods out of them =====
/-- a private method of a class that the tables say can be made, by its rows of tables_1 -/
def lw_okq (q : MethodName × Nat) : Prop := (q.1.cls ≠ "java/lang/invoke/MethodHandle" ∧ q.1.cls ≠ "java/lang/invoke/VarHandle") ∧ Cond.instantiable q.1.cls q.2 ∈ tables_1 ∧ Cond.privateMethod q.1 ∈ tables_1 ∧ Cond.instanceMethod q.1 ∈ tables_1
theorem lw_p0 : lw_okq (⟨"GemCut", "beginRough", "(III)V"⟩, 6) := ⟨⟨by decide +kernel, by decide +kernel⟩, List.mem_of_getElem? (i := 17) (by decide +kernel), List.mem_of_getElem? (i := 192) (by decide +kernel), List.mem_of_getElem? (i := 193) (by decide +kernel)⟩
theorem lw_p1 : lw_okq (⟨"GemCut", "survey", "()V"⟩, 6) := ⟨⟨by decide +kernel, by decide +kernel⟩, List.mem_of_getElem? (i := 17) (by decide +kernel), List.mem_of_getElem? (i := 208) (by decide +kernel), List.mem_of_getElem? (i := 209) (by decide +kernel)⟩
theorem lw_p2 : lw_okq (⟨"GemCut", "surveyCell", "(IIII)V"⟩, 6) := ⟨⟨by decide +kernel, by decide +kernel⟩, List.mem_of_getElem? (i := 17) (by decide +kernel), List.mem_of_getElem? (i := 216) (by decide +kernel), List.mem_of_getElem? (i := 217) (by decide +kernel)⟩
theorem lw_p3 : lw_okq (⟨"GemCut", "cellsOfStones", "()I"⟩, 6) := ⟨⟨by decide +kernel, by decide +kernel⟩, List.mem_of_getElem? (i := 17) (by decide +kernel), List.mem_of_getElem? (i := 280) (by decide +kernel), List.mem_of_getElem? (i := 281) (by decide +kernel)⟩
theorem lw_p4 : lw_okq (⟨"GemCut", "tellCount", "(I)I"⟩, 6) := ⟨⟨by decide +kernel, by decide +kernel⟩, List.mem_of_getElem? (i := 17) (by decide +kernel), List.mem_of_getElem? (i := 290) (by decide +kernel), List.mem_of_getElem? (i := 291) (by decide +kernel)⟩
theorem lw_p5 : lw_okq (⟨"GemCut", "stonesLeft", "()I"⟩, 6) := ⟨⟨by decide +kernel, by decide +kernel⟩, List.mem_of_getElem? (i := 17) (by decide +kernel), List.mem_of_getElem? (i := 294) (by decide +kernel), List.mem_of_getElem? (i := 295) (by decide +kernel)⟩
theorem lw_p6 : lw_okq (⟨"GemCut", "worthOfStones", "()I"⟩, 6) := ⟨⟨by decide +kernel, by decide +kernel⟩, List.mem_of_getElem? (i := 17) (by decide +kernel), List.mem_of_getElem? (i := 298) (by decide +kernel), List.mem_of_getElem? (i := 299) (by decide +kernel)⟩
theorem lw_p7 : lw_okq (⟨"GemCut", "worthOf", "(LGemCut$Stone;)I"⟩, 6) := ⟨⟨by decide +kernel, by decide +kernel⟩, List.mem_of_getElem? (i := 17) (by decide +kernel), List.mem_of_getElem? (i := 302) (by decide +kernel), List.mem_of_getElem? (i := 303) (by decide +kernel)⟩
theorem lw_p8 : lw_okq (⟨"GemCut", "addStone", "(JLGemCut$Stone;)J"⟩, 6) := ⟨⟨by decide +kernel, by decide +kernel⟩, List.mem_of_getElem? (i := 17) (by decide +kernel), List.mem_of_getElem? (i := 336) (by decide +kernel), List.mem_of_getElem? (i := 337) (by decide +kernel)⟩
theorem lw_p9 : lw_okq (⟨"GemCut", "tellOfStone", "(LGemCut$Stone;I)I"⟩, 6) := ⟨⟨by decide +kernel, by decide +kernel⟩, List.mem_of_getElem? (i := 17) (by decide +kernel), List.mem_of_getElem? (i := 340) (by decide +kernel), List.mem_of_getElem? (i := 341) (by decide +kernel)⟩
theorem lw_p10 : lw_okq (⟨"GemCut", "flawsOfState", "(II)I"⟩, 6) := ⟨⟨by decide +kernel, by decide +kernel⟩, List.mem_of_getElem? (i := 17) (by decide +kernel), List.mem_of_getElem? (i := 344) (by decide +kernel), List.mem_of_getElem? (i := 345) (by decide +kernel)⟩
theorem lw_p11 : lw_okq (⟨"GemCut", "tellOfFlaw", "(III)I"⟩, 6) := ⟨⟨by decide +kernel, by decide +kernel⟩, List.mem_of_getElem? (i := 17) (by decide +kernel), List.mem_of_getElem? (i := 352) (by decide +kernel), List.mem_of_getElem? (i := 353) (by decide +kernel)⟩
theorem lw_p12 : lw_okq (⟨"java/lang/Throwable", "fillInStackTrace", "(I)Ljava/lang/Throwable;"⟩, 6) := ⟨⟨by decide +kernel, by decide +kernel⟩, List.mem_of_getElem? (i := 405) (by decide +kernel), List.mem_of_getElem? (i := 403) (by decide +kernel), List.mem_of_getElem? (i := 404) (by decide +kernel)⟩
theorem lw_p13 : lw_okq (⟨"GemCut", "wantCell", "(III)V"⟩, 6) := ⟨⟨by decide +kernel, by decide +kernel⟩, List.mem_of_getElem? (i := 17) (by decide +kernel), List.mem_of_getElem? (i := 444) (by decide +kernel), List.mem_of_getElem? (i := 445) (by decide +kernel)⟩
theorem lw_p14 : lw_okq (⟨"GemCut", "wantFlaw", "(I)V"⟩, 6) := ⟨⟨by decide +kernel, by decide +kernel⟩, List.mem_of_getElem? (i := 17) (by decide +kernel), List.mem_of_getElem? (i := 513) (by decide +kernel), List.mem_of_getElem? (i := 514) (by decide +kernel)⟩
theorem lw_p15 : lw_okq (⟨"GemCut", "wantStone", "(I)V"⟩, 6) := ⟨⟨by decide +kernel, by decide +kernel⟩, List.mem_of_getElem? (i := 17) (by decide +kernel), List.mem_of_getElem? (i := 518) (by decide +kernel), List.mem_of_getElem? (i := 519) (by decide +kernel)⟩
def lw_privs_1 : List (MethodName × Nat) := [(⟨"GemCut", "beginRough", "(III)V"⟩, 6), (⟨"GemCut", "survey", "()V"⟩, 6), (⟨"GemCut", "surveyCell", "(IIII)V"⟩, 6), (⟨"GemCut", "cellsOfStones", "()I"⟩, 6), (⟨"GemCut", "tellCount", "(I)I"⟩, 6), (⟨"GemCut", "stonesLeft", "()I"⟩, 6), (⟨"GemCut", "worthOfStones", "()I"⟩, 6), (⟨"GemCut", "worthOf", "(LGemCut$Stone;)I"⟩, 6), (⟨"GemCut", "addStone", "(JLGemCut$Stone;)J"⟩, 6), (⟨"GemCut", "tellOfStone", "(LGemCut$Stone;I)I"⟩, 6), (⟨"GemCut", "flawsOfState", "(II)I"⟩, 6), (⟨"GemCut", "tellOfFlaw", "(III)I"⟩, 6), (⟨"java/lang/Throwable", "fillInStackTrace", "(I)Ljava/lang/Throwable;"⟩, 6), (⟨"GemCut", "wantCell", "(III)V"⟩, 6), (⟨"GemCut", "wantFlaw", "(I)V"⟩, 6), (⟨"GemCut", "wantStone", "(I)V"⟩, 6)]
theorem lw_r1 : ∀ q ∈ lw_privs_1, lw_okq q := List.forall_mem_cons.mpr ⟨lw_p0, List.forall_mem_cons.mpr ⟨lw_p1, List.forall_mem_cons.mpr ⟨lw_p2, List.forall_mem_cons.mpr ⟨lw_p3, List.forall_mem_cons.mpr ⟨lw_p4, List.forall_mem_cons.mpr ⟨lw_p5, List.forall_mem_cons.mpr ⟨lw_p6, List.forall_mem_cons.mpr ⟨lw_p7, List.forall_mem_cons.mpr ⟨lw_p8, List.forall_mem_cons.mpr ⟨lw_p9, List.forall_mem_cons.mpr ⟨lw_p10, List.forall_mem_cons.mpr ⟨lw_p11, List.forall_mem_cons.mpr ⟨lw_p12, List.forall_mem_cons.mpr ⟨lw_p13, List.forall_mem_cons.mpr ⟨lw_p14, List.forall_mem_cons.mpr ⟨lw_p15, fun _ h => absurd h List.not_mem_nil⟩⟩⟩⟩⟩⟩⟩⟩⟩⟩⟩⟩⟩⟩⟩⟩
theorem lw_p16 : lw_okq (⟨"GemCut$Trial", "levelCell", "(II)V"⟩, 6) := ⟨⟨by decide +kernel, by decide +kernel⟩, List.mem_of_getElem? (i := 165) (by decide +kernel), List.mem_of_getElem? (i := 556) (by decide +kernel), List.mem_of_getElem? (i := 557) (by decide +kernel)⟩
theorem lw_p17 : lw_okq (⟨"GemCut", "spend", "(I)V"⟩, 6) := ⟨⟨by decide +kernel, by decide +kernel⟩, List.mem_of_getElem? (i := 17) (by decide +kernel), List.mem_of_getElem? (i := 590) (by decide +kernel), List.mem_of_getElem? (i := 591) (by decide +kernel)⟩
theorem lw_p18 : lw_okq (⟨"GemCut", "wantPlane", "(II)V"⟩, 6) := ⟨⟨by decide +kernel, by decide +kernel⟩, List.mem_of_getElem? (i := 17) (by decide +kernel), List.mem_of_getElem? (i := 601) (by decide +kernel), List.mem_of_getElem? (i := 602) (by decide +kernel)⟩
theorem lw_p19 : lw_okq (⟨"GemCut$Trial", "lowerFloors", "(IIII)V"⟩, 6) := ⟨⟨by decide +kernel, by decide +kernel⟩, List.mem_of_getElem? (i := 165) (by decide +kernel), List.mem_of_getElem? (i := 656) (by decide +kernel), List.mem_of_getElem? (i := 657) (by decide +kernel)⟩
theorem lw_p20 : lw_okq (⟨"GemCut$Trial", "laterOpposites", "(II)I"⟩, 6) := ⟨⟨by decide +kernel, by decide +kernel⟩, List.mem_of_getElem? (i := 165) (by decide +kernel), List.mem_of_getElem? (i := 683) (by decide +kernel), List.mem_of_getElem? (i := 684) (by decide +kernel)⟩
theorem lw_p21 : lw_okq (⟨"GemCut$Trial", "isWithin", "(I)Z"⟩, 6) := ⟨⟨by decide +kernel, by decide +kernel⟩, List.mem_of_getElem? (i := 165) (by decide +kernel), List.mem_of_getElem? (i := 705) (by decide +kernel), List.mem_of_getElem? (i := 706) (by decide +kernel)⟩
theorem lw_p22 : lw_okq (⟨"GemCut$Trial", "lowestOf", "(LGemCut$Flaw;)I"⟩, 6) := ⟨⟨by decide +kernel, by decide +kernel⟩, List.mem_of_getElem? (i := 165) (by decide +kernel), List.mem_of_getElem? (i := 721) (by decide +kernel), List.mem_of_getElem? (i := 722) (by decide +kernel)⟩
theorem lw_p23 : lw_okq (⟨"GemCutModel", "begin", "(III)V"⟩, 12) := ⟨⟨by decide +kernel, by decide +kernel⟩, List.mem_of_getElem? (i := 726) (by decide +kernel), List.mem_of_getElem? (i := 732) (by decide +kernel), List.mem_of_getElem? (i := 733) (by decide +kernel)⟩
theorem lw_p24 : lw_okq (⟨"GemCutModel", "isCell", "(III)Z"⟩, 12) := ⟨⟨by decide +kernel, by decide +kernel⟩, List.mem_of_getElem? (i := 726) (by decide +kernel), List.mem_of_getElem? (i := 736) (by decide +kernel), List.mem_of_getElem? (i := 737) (by decide +kernel)⟩
theorem lw_p25 : lw_okq (⟨"GemCutModel", "fail", "(I)I"⟩, 12) := ⟨⟨by decide +kernel, by decide +kernel⟩, List.mem_of_getElem? (i := 726) (by decide +kernel), List.mem_of_getElem? (i := 788) (by decide +kernel), List.mem_of_getElem? (i := 789) (by decide +kernel)⟩
theorem lw_p26 : lw_okq (⟨"GemCutModel", "isStone", "(I)Z"⟩, 12) := ⟨⟨by decide +kernel, by decide +kernel⟩, List.mem_of_getElem? (i := 726) (by decide +kernel), List.mem_of_getElem? (i := 810) (by decide +kernel), List.mem_of_getElem? (i := 811) (by decide +kernel)⟩
theorem lw_p27 : lw_okq (⟨"GemCutModel", "flawTold", "(III)I"⟩, 12) := ⟨⟨by decide +kernel, by decide +kernel⟩, List.mem_of_getElem? (i := 726) (by decide +kernel), List.mem_of_getElem? (i := 814) (by decide +kernel), List.mem_of_getElem? (i := 815) (by decide +kernel)⟩
theorem lw_p28 : lw_okq (⟨"GemCutModel", "flawCells", "(IIZ)I"⟩, 12) := ⟨⟨by decide +kernel, by decide +kernel⟩, List.mem_of_getElem? (i := 726) (by decide +kernel), List.mem_of_getElem? (i := 818) (by decide +kernel), List.mem_of_getElem? (i := 819) (by decide +kernel)⟩
theorem lw_p29 : lw_okq (⟨"GemCutModel", "isFlawed", "(II)Z"⟩, 12) := ⟨⟨by decide +kernel, by decide +kernel⟩, List.mem_of_getElem? (i := 726) (by decide +kernel), List.mem_of_getElem? (i := 822) (by decide +kernel), List.mem_of_getElem? (i := 823) (by decide +kernel)⟩
theorem lw_p30 : lw_okq (⟨"GemCutModel", "fl", "(II)I"⟩, 12) := ⟨⟨by decide +kernel, by decide +kernel⟩, List.mem_of_getElem? (i := 726) (by decide +kernel), List.mem_of_getElem? (i := 826) (by decide +kernel), List.mem_of_getElem? (i := 827) (by decide +kernel)⟩
theorem lw_p31 : lw_okq (⟨"GemCutModel", "isSurface", "(I)Z"⟩, 12) := ⟨⟨by decide +kernel, by decide +kernel⟩, List.mem_of_getElem? (i := 726) (by decide +kernel), List.mem_of_getElem? (i := 831) (by decide +kernel), List.mem_of_getElem? (i := 832) (by decide +kernel)⟩
def lw_privs_2 : List (MethodName × Nat) := [(⟨"GemCut$Trial", "levelCell", "(II)V"⟩, 6), (⟨"GemCut", "spend", "(I)V"⟩, 6), (⟨"GemCut", "wantPlane", "(II)V"⟩, 6), (⟨"GemCut$Trial", "lowerFloors", "(IIII)V"⟩, 6), (⟨"GemCut$Trial", "laterOpposites", "(II)I"⟩, 6), (⟨"GemCut$Trial", "isWithin", "(I)Z"⟩, 6), (⟨"GemCut$Trial", "lowestOf", "(LGemCut$Flaw;)I"⟩, 6), (⟨"GemCutModel", "begin", "(III)V"⟩, 12), (⟨"GemCutModel", "isCell", "(III)Z"⟩, 12), (⟨"GemCutModel", "fail", "(I)I"⟩, 12), (⟨"GemCutModel", "isStone", "(I)Z"⟩, 12), (⟨"GemCutModel", "flawTold", "(III)I"⟩, 12), (⟨"GemCutModel", "flawCells", "(IIZ)I"⟩, 12), (⟨"GemCutModel", "isFlawed", "(II)Z"⟩, 12), (⟨"GemCutModel", "fl", "(II)I"⟩, 12), (⟨"GemCutModel", "isSurface", "(I)Z"⟩, 12)]
theorem lw_r2 : ∀ q ∈ lw_privs_2, lw_okq q := List.forall_mem_cons.mpr ⟨lw_p16, List.forall_mem_cons.mpr ⟨lw_p17, List.forall_mem_cons.mpr ⟨lw_p18, List.forall_mem_cons.mpr ⟨lw_p19, List.forall_mem_cons.mpr ⟨lw_p20, List.forall_mem_cons.mpr ⟨lw_p21, List.forall_mem_cons.mpr ⟨lw_p22, List.forall_mem_cons.mpr ⟨lw_p23, List.forall_mem_cons.mpr ⟨lw_p24, List.forall_mem_cons.mpr ⟨lw_p25, List.forall_mem_cons.mpr ⟨lw_p26, List.forall_mem_cons.mpr ⟨lw_p27, List.forall_mem_cons.mpr ⟨lw_p28, List.forall_mem_cons.mpr ⟨lw_p29, List.forall_mem_cons.mpr ⟨lw_p30, List.forall_mem_cons.mpr ⟨lw_p31, fun _ h => absurd h List.not_mem_nil⟩⟩⟩⟩⟩⟩⟩⟩⟩⟩⟩⟩⟩⟩⟩⟩
theorem lw_p32 : lw_okq (⟨"GemCutModel", "isOf", "(IIII)Z"⟩, 12) := ⟨⟨by decide +kernel, by decide +kernel⟩, List.mem_of_getElem? (i := 726) (by decide +kernel), List.mem_of_getElem? (i := 835) (by decide +kernel), List.mem_of_getElem? (i := 836) (by decide +kernel)⟩
theorem lw_p33 : lw_okq (⟨"GemCutModel", "weight", "(I)I"⟩, 12) := ⟨⟨by decide +kernel, by decide +kernel⟩, List.mem_of_getElem? (i := 726) (by decide +kernel), List.mem_of_getElem? (i := 846) (by decide +kernel), List.mem_of_getElem? (i := 847) (by decide +kernel)⟩
theorem lw_p34 : lw_okq (⟨"GemCutModel", "turn", "(IIIIII)I"⟩, 12) := ⟨⟨by decide +kernel, by decide +kernel⟩, List.mem_of_getElem? (i := 726) (by decide +kernel), List.mem_of_getElem? (i := 850) (by decide +kernel), List.mem_of_getElem? (i := 851) (by decide +kernel)⟩
theorem lw_p35 : lw_okq (⟨"GemCutModel", "back", "(I)V"⟩, 12) := ⟨⟨by decide +kernel, by decide +kernel⟩, List.mem_of_getElem? (i := 726) (by decide +kernel), List.mem_of_getElem? (i := 857) (by decide +kernel), List.mem_of_getElem? (i := 858) (by decide +kernel)⟩
theorem lw_p36 : lw_okq (⟨"GemCutModel", "put", "(IIIII)V"⟩, 12) := ⟨⟨by decide +kernel, by decide +kernel⟩, List.mem_of_getElem? (i := 726) (by decide +kernel), List.mem_of_getElem? (i := 865) (by decide +kernel), List.mem_of_getElem? (i := 866) (by decide +kernel)⟩
theorem lw_p37 : lw_okq (⟨"GemCutModel", "spend", "(I)V"⟩, 12) := ⟨⟨by decide +kernel, by decide +kernel⟩, List.mem_of_getElem? (i := 726) (by decide +kernel), List.mem_of_getElem? (i := 869) (by decide +kernel), List.mem_of_getElem? (i := 870) (by decide +kernel)⟩
theorem lw_p38 : lw_okq (⟨"GemCutModel", "isPlane", "(II)Z"⟩, 12) := ⟨⟨by decide +kernel, by decide +kernel⟩, List.mem_of_getElem? (i := 726) (by decide +kernel), List.mem_of_getElem? (i := 877) (by decide +kernel), List.mem_of_getElem? (i := 878) (by decide +kernel)⟩
theorem lw_p39 : lw_okq (⟨"GemCutModel", "touch", "(II)I"⟩, 12) := ⟨⟨by decide +kernel, by decide +kernel⟩, List.mem_of_getElem? (i := 726) (by decide +kernel), List.mem_of_getElem? (i := 881) (by decide +kernel), List.mem_of_getElem? (i := 882) (by decide +kernel)⟩
theorem lw_p40 : lw_okq (⟨"GemCutModel", "pl", "(III)I"⟩, 12) := ⟨⟨by decide +kernel, by decide +kernel⟩, List.mem_of_getElem? (i := 726) (by decide +kernel), List.mem_of_getElem? (i := 885) (by decide +kernel), List.mem_of_getElem? (i := 886) (by decide +kernel)⟩
theorem lw_p41 : lw_okq (⟨"GemCutModel", "stoneTold", "(II)I"⟩, 12) := ⟨⟨by decide +kernel, by decide +kernel⟩, List.mem_of_getElem? (i := 726) (by decide +kernel), List.mem_of_getElem? (i := 898) (by decide +kernel), List.mem_of_getElem? (i := 899) (by decide +kernel)⟩
theorem lw_p42 : lw_okq (⟨"GemCutModel", "facets", "(IZ)I"⟩, 12) := ⟨⟨by decide +kernel, by decide +kernel⟩, List.mem_of_getElem? (i := 726) (by decide +kernel), List.mem_of_getElem? (i := 902) (by decide +kernel), List.mem_of_getElem? (i := 903) (by decide +kernel)⟩
theorem lw_p43 : lw_okq (⟨"GemCutModel", "isFacet", "(II)Z"⟩, 12) := ⟨⟨by decide +kernel, by decide +kernel⟩, List.mem_of_getElem? (i := 726) (by decide +kernel), List.mem_of_getElem? (i := 906) (by decide +kernel), List.mem_of_getElem? (i := 907) (by decide +kernel)⟩
theorem lw_p44 : lw_okq (⟨"GemCutModel", "pairs", "(I)I"⟩, 12) := ⟨⟨by decide +kernel, by decide +kernel⟩, List.mem_of_getElem? (i := 726) (by decide +kernel), List.mem_of_getElem? (i := 910) (by decide +kernel), List.mem_of_getElem? (i := 911) (by decide +kernel)⟩
theorem lw_p45 : lw_okq (⟨"GemCutModel", "flawsIn", "(II)I"⟩, 12) := ⟨⟨by decide +kernel, by decide +kernel⟩, List.mem_of_getElem? (i := 726) (by decide +kernel), List.mem_of_getElem? (i := 914) (by decide +kernel), List.mem_of_getElem? (i := 915) (by decide +kernel)⟩
theorem lw_p46 : lw_okq (⟨"GemCutModel", "worth", "(I)I"⟩, 12) := ⟨⟨by decide +kernel, by decide +kernel⟩, List.mem_of_getElem? (i := 726) (by decide +kernel), List.mem_of_getElem? (i := 918) (by decide +kernel), List.mem_of_getElem? (i := 919) (by decide +kernel)⟩
theorem lw_p47 : lw_okq (⟨"GemCutModel", "planeTold", "(III)I"⟩, 12) := ⟨⟨by decide +kernel, by decide +kernel⟩, List.mem_of_getElem? (i := 726) (by decide +kernel), List.mem_of_getElem? (i := 926) (by decide +kernel), List.mem_of_getElem? (i := 927) (by decide +kernel)⟩
def lw_privs_3 : List (MethodName × Nat) := [(⟨"GemCutModel", "isOf", "(IIII)Z"⟩, 12), (⟨"GemCutModel", "weight", "(I)I"⟩, 12), (⟨"GemCutModel", "turn", "(IIIIII)I"⟩, 12), (⟨"GemCutModel", "back", "(I)V"⟩, 12), (⟨"GemCutModel", "put", "(IIIII)V"⟩, 12), (⟨"GemCutModel", "spend", "(I)V"⟩, 12), (⟨"GemCutModel", "isPlane", "(II)Z"⟩, 12), (⟨"GemCutModel", "touch", "(II)I"⟩, 12), (⟨"GemCutModel", "pl", "(III)I"⟩, 12), (⟨"GemCutModel", "stoneTold", "(II)I"⟩, 12), (⟨"GemCutModel", "facets", "(IZ)I"⟩, 12), (⟨"GemCutModel", "isFacet", "(II)Z"⟩, 12), (⟨"GemCutModel", "pairs", "(I)I"⟩, 12), (⟨"GemCutModel", "flawsIn", "(II)I"⟩, 12), (⟨"GemCutModel", "worth", "(I)I"⟩, 12), (⟨"GemCutModel", "planeTold", "(III)I"⟩, 12)]
theorem lw_r3 : ∀ q ∈ lw_privs_3, lw_okq q := List.forall_mem_cons.mpr ⟨lw_p32, List.forall_mem_cons.mpr ⟨lw_p33, List.forall_mem_cons.mpr ⟨lw_p34, List.forall_mem_cons.mpr ⟨lw_p35, List.forall_mem_cons.mpr ⟨lw_p36, List.forall_mem_cons.mpr ⟨lw_p37, List.forall_mem_cons.mpr ⟨lw_p38, List.forall_mem_cons.mpr ⟨lw_p39, List.forall_mem_cons.mpr ⟨lw_p40, List.forall_mem_cons.mpr ⟨lw_p41, List.forall_mem_cons.mpr ⟨lw_p42, List.forall_mem_cons.mpr ⟨lw_p43, List.forall_mem_cons.mpr ⟨lw_p44, List.forall_mem_cons.mpr ⟨lw_p45, List.forall_mem_cons.mpr ⟨lw_p46, List.forall_mem_cons.mpr ⟨lw_p47, fun _ h => absurd h List.not_mem_nil⟩⟩⟩⟩⟩⟩⟩⟩⟩⟩⟩⟩⟩⟩⟩⟩
theorem lw_p48 : lw_okq (⟨"GemCutModel", "product", "(III)I"⟩, 12) := ⟨⟨by decide +kernel, by decide +kernel⟩, List.mem_of_getElem? (i := 726) (by decide +kernel), List.mem_of_getElem? (i := 934) (by decide +kernel), List.mem_of_getElem? (i := 935) (by decide +kernel)⟩
theorem lw_p49 : lw_okq (⟨"GemCutModel", "counted", "(I)I"⟩, 12) := ⟨⟨by decide +kernel, by decide +kernel⟩, List.mem_of_getElem? (i := 726) (by decide +kernel), List.mem_of_getElem? (i := 942) (by decide +kernel), List.mem_of_getElem? (i := 943) (by decide +kernel)⟩
theorem lw_p50 : lw_okq (⟨"GemCutModel", "look", "(IIIIII)I"⟩, 12) := ⟨⟨by decide +kernel, by decide +kernel⟩, List.mem_of_getElem? (i := 726) (by decide +kernel), List.mem_of_getElem? (i := 950) (by decide +kernel), List.mem_of_getElem? (i := 951) (by decide +kernel)⟩
theorem lw_p51 : lw_okq (⟨"GemCutModel", "end", "(IIIIIZ)I"⟩, 12) := ⟨⟨by decide +kernel, by decide +kernel⟩, List.mem_of_getElem? (i := 726) (by decide +kernel), List.mem_of_getElem? (i := 958) (by decide +kernel), List.mem_of_getElem? (i := 959) (by decide +kernel)⟩
def lw_privs_4 : List (MethodName × Nat) := [(⟨"GemCutModel", "product", "(III)I"⟩, 12), (⟨"GemCutModel", "counted", "(I)I"⟩, 12), (⟨"GemCutModel", "look", "(IIIIII)I"⟩, 12), (⟨"GemCutModel", "end", "(IIIIIZ)I"⟩, 12)]
theorem lw_r4 : ∀ q ∈ lw_privs_4, lw_okq q := List.forall_mem_cons.mpr ⟨lw_p48, List.forall_mem_cons.mpr ⟨lw_p49, List.forall_mem_cons.mpr ⟨lw_p50, List.forall_mem_cons.mpr ⟨lw_p51, fun _ h => absurd h List.not_mem_nil⟩⟩⟩⟩
def lw_privs : List (MethodName × Nat) := lw_privs_1 ++ (lw_privs_2 ++ (lw_privs_3 ++ (lw_privs_4)))
def lw_tbl : List Cond := k2_sels lw_privs ++ tables_1
theorem lw_privs_ok : ∀ q ∈ lw_privs, lw_okq q := by
  show ∀ q ∈ lw_privs_1 ++ (lw_privs_2 ++ (lw_privs_3 ++ (lw_privs_4))), lw_okq q
  exact List.forall_mem_append.mpr ⟨lw_r1, List.forall_mem_append.mpr ⟨lw_r2, List.forall_mem_append.mpr ⟨lw_r3, lw_r4⟩⟩⟩
/-- the streams that the claim lets the run draw from -/
abbrev lw_cs : List Choice := [Jvm.Choice.named "NaN.bits"]
theorem lw_bits : nanBits ∈ lw_cs := by first | decide | exact List.mem_cons_self | simp [lw_cs, nanBits]
-- ===== end of PART A; then your names; then what follows =====
end
section
/-! ===== BEGIN words of one list among another's, by their places ===== -/
theorem goodIn_r {big : List Cond} (ws : List Cond) (ps : List Nat) (hp : ws = ps.filterMap (fun i => big[i]?)) (h : ws.all goodWord = true) : GoodIn big ws := by
  intro w hw
  have h1 := List.all_eq_true.mp h w hw
  rw [hp] at hw
  obtain ⟨i, -, hi⟩ := List.mem_filterMap.mp hw
  have hm : w ∈ big := by first | exact List.mem_of_getElem? hi | exact List.getElem?_mem hi
  exact ⟨hm, good_of_word h1⟩
theorem goodIn_app {big a b : List Cond} (ha : GoodIn big a) (hb : GoodIn big b) : GoodIn big (a ++ b) := fun w h => (List.mem_append.mp h).elim (ha w) (hb w)
theorem goodIn_ca {big a b : List Cond} {c : Cond} (ha : GoodIn big (c :: a)) (hb : GoodIn big b) : GoodIn big (c :: (a ++ b)) := fun w h => (List.mem_cons.mp h).elim (fun e => ha w (List.mem_cons.mpr (Or.inl e))) (fun h => (List.mem_append.mp h).elim (fun h => ha w (List.mem_cons.mpr (Or.inr h))) (hb w))
theorem goodIn_sub {big ws : List Cond} (hm : ∀ w ∈ ws, w ∈ big) (h : ws.all goodWord = true) : GoodIn big ws := fun w hw => ⟨hm w hw, good_of_word (List.all_eq_true.mp h w hw)⟩
/-! ===== END ===== -/

/-! ===== BEGIN exceptions that leave a method, and their catching by the caller (launches without stack traces) ===== -/
section VXA
/-! The laws vx_back, vx_callV, vx_callS, vx_callSW, vx_throw0, vx_throwS follow proofs of the library, with one case more: JvmDerived/Free/Laws.lean (Back.of_free), Shelf42/LK1.lean (callV, callS), Shelf/KitTraced.lean (throwNew0V, throwNewS). -/
/-- where a method has thrown q: the class by its name, the cell, what was written, the world -/
def vx_T (XC : String → State → State → Prop) (st : State) (q : Addr) (t : State) (mc ms : Nat) (free : Addr → Prop) : Prop :=
  ∃ (E : String) (ce : Cell) (L : List Loc), XC E st t ∧ t.heap[q]? = some ce ∧ ce.vm = .none ∧ st.vm.findClass E = some ce.cls ∧ st.WarmedH t.vm ∧ st.sameButNew ({ t with vm := st.vm } : State) L mc ms ∧ ∀ z ∈ L, free z.base
def vx_Q (Qc : Array Value → State → Outcome → State → Prop) (XC : String → State → State → Prop) (mc ms : Nat) (free : Addr → Prop) : Array Value → State → Outcome → State → Prop := fun a st o t =>
  (Qc a st o t ∧ ∃ L, FrameEnd st o t L mc ms ∧ ∀ q ∈ L, free q.base) ∨ ∃ q, o = .threw q ∧ vx_T XC st q t mc ms free
/-- a callee that returns or throws -/
def vx_Met (l : Launch) (y : MethodName) (ws : List Cond) (rm : Room) (Pc : Array Value → State → Prop) (Qc : Array Value → State → Outcome → State → Prop) (XC : String → State → State → Prop) (mc ms : Nat) (free : Addr → Prop) : Prop :=
  MetFree l y (headSpec ws rm) Pc (fun _ _ _ _ _ => True) (vx_Q Qc XC mc ms free)
def vx_Post (XC : String → State → State → Prop) (mc ms : Nat) (free : Addr → Prop) : Pt → Array Value → Addr → Pt → Prop := fun A a q B =>
  ∃ (g : JFrame) (mk : MethodId) (t : State) (L : List Loc) (E : String) (ce : Cell), B.U.heap = t.heap ∧ B.U.vm = t.vm ∧ XC E (A.U.calling g mk a) t ∧ t.heap[q]? = some ce ∧ ce.vm = .none ∧ A.U.vm.findClass E = some ce.cls ∧ B.locs = A.locs ++ L ∧ (∀ z ∈ L, free z.base) ∧ B.cells = A.cells + mc ∧ B.slots = A.slots + ms
def vx_Back (l : Launch) (R : Room) (p : Program) (e : Env) (below : List Frame) (s : State) (sargs : Array Value) (y : MethodName) (len W9 : Nat)
    (Pre : Pt → Array Value → Prop) (Post : Pt → Array Value → Option Value → Pt → Prop) (PostX : Pt → Array Value → Addr → Pt → Prop) : Prop :=
  ∀ (m : MethodId) (meth : Method) (c : Code) (A : Pt) (g : JFrame) (ig : Instr) (mk : MethodId) (a : Array Value),
    Stand p l e R s m sargs below meth c A.U A.locs A.cells A.slots → g.method = m → g.locals.size = c.maxLocals → decode c.code g.pc = .ok (ig, len) →
    2 * g.monitorRoom + (g.stack.map fun v => v.category).sum ≤ W9 → A.U.methodNamed? y = some mk → Pre A a →
    (∃ (v : Option Value) (B : Pt), Stand p l e R s m sargs below meth c B.U B.locs B.cells B.slots ∧ Post A a v B ∧
      Steps p.tables e below (doInvoke e (A.U.setTop g) [] mk a).1 (B.U.setTop { g with pc := g.pc + len, stack := v.toList ++ g.stack })) ∨
    (∃ (q : Addr) (B : Pt), Stand p l e R s m sargs below meth c B.U B.locs B.cells B.slots ∧ PostX A a q B ∧
      Steps p.tables e below (doInvoke e (A.U.setTop g) [] mk a).1 ((B.U.setTop g).pushFrame (.throwing q)))
section Payer
variable {l : Launch} {R : Room} {p : Program} {e : Env} {below : List Frame} {s : State} {sargs : Array Value} {y : MethodName} {len W9 : Nat}
theorem vx_back {ws : List Cond} {rm : Room} {Pc : Array Value → State → Prop} {Qc : Array Value → State → Outcome → State → Prop} {XC : String → State → State → Prop} {mc ms : Nat} {free : Addr → Prop} {bytes : ByteArray} {maxL : Nat} {ret : Option FieldType}
    (hM : vx_Met l y ws rm Pc Qc XC mc ms free) (hblind : FrameBlind Pc) (hrc : rm.cells = mc) (hrs : rm.slots = ms)
    (hframes : rm.frames + 1 ≤ R.frames) (hlocals : W9 + (maxL + 11) + rm.locals ≤ R.locals)
    (hws : ∀ w ∈ ws, ∀ a' U, s.WarmedH U.vm → w.before a' U = true) (hcode : Cond.code y bytes maxL ret ∈ ws) (hinit : ∀ a' U, s.WarmedH U.vm → (Cond.initialized y.cls).before a' U = true) :
    vx_Back l R p e below s sargs y len W9 (PreOf R mc ms Pc) (PostOf Qc mc ms free) (vx_Post XC mc ms free) := by
  intro m meth c A g ig mk a X hg hsize hdg hW hn hp
  have h1 : (headSpec ws rm).pre.before a A.U = true := atoms_intro fun w hw => hws w hw _ _ X.warmed
  have h2 : (Cond.code y bytes maxL ret).before a A.U = true := hws _ hcode _ _ X.warmed
  have h3 : (Cond.initialized y.cls).before a A.U = true := hinit _ _ X.warmed
  have h4 : A.cells + (headSpec ws rm).room.cells ≤ R.cells := by rw [show (headSpec ws rm).room.cells = mc from hrc]; exact hp.1
  have h5 : A.slots + (headSpec ws rm).room.slots ≤ R.slots := by rw [show (headSpec ws rm).room.slots = ms from hrs]; exact hp.2.1
  have hPc : Pc a (A.U.calling g mk a) := hblind _ _ _ _ hp.2.2
  obtain ⟨U, Ls, c0, s0⟩ := A
  dsimp only [Pt.U, Pt.locs, Pt.cells, Pt.slots] at h1 h2 h3 h4 h5 X hn hPc ⊢
  obtain ⟨methY, cY, hmY, hcY, -, hlY, -, -, -, -⟩ := Cond.code_spec hn h2
  obtain ⟨kY, hkY, -⟩ := className_of_methodNamed hn
  have hinitY : kY.init = .initialized := Cond.initialized_spec (findClass_of_methodNamed hn) hkY h3
  have h : At U g.method c below := by rw [hg]; exact X.here
  have hlocals9 : W9 + (maxL + 11) + (headSpec ws rm).room.locals ≤ R.locals := hlocals
  have happ : (headSpec ws rm).appliesLoose y e.platform (U.calling g mk a) = true :=
    Spec.appliesLoose_calling (g := g) h hdg hn hkY hinitY
      (X.room_calling (g := g) (R' := (headSpec ws rm).room) hsize hmY hcY hframes (by rw [hlY]; omega) h4 h5) h1
  obtain ⟨mid, hmid⟩ := h.above
  have hfr : (U.setTop g).frames = (.java g :: mid) ++ below := by rw [State.frames_setTop' g h.top, hmid]; rfl
  obtain ⟨o, s₂, hsteps, -, hend, hq⟩ := Steps.callFree hM p X.admits X.cas X.clock (acts := []) hfr happ hPc trivial
  have hq' : vx_Q Qc XC mc ms free a (U.calling g mk a) o s₂ := hq
  rw [State.frames_setTop' g h.top] at hend
  obtain ⟨g₀, hg0⟩ := Option.isSome_iff_exists.mp h.top
  obtain ⟨r, hr⟩ := State.topJava?_eq_some.mp hg0
  have hr' : (({ U with heap := s₂.heap, slotsUsed := s₂.slotsUsed } : State).setVm s₂.vm).frames = .java g₀ :: r := hr
  rcases hq' with ⟨hqc, L, hfe, hL⟩ | ⟨q, rfl, E, ce, L, hx, hce, hcv, hcl, hW₂, hsm, hL⟩
  · obtain ⟨⟨v, rfl⟩, hW₂, e2, q2, q3, q4, q5, q6⟩ := id hfe
    have e3 : s₂ = ({ (U.calling g mk a).setFrames s₂.frames with heap := s₂.heap, slotsUsed := s₂.slotsUsed } : State).setVm s₂.vm := by
      have : s₂ = ({ s₂ with vm := (U.calling g mk a).vm } : State).setVm s₂.vm := rfl
      rw [e2] at this
      exact this
    obtain ⟨c₂, i₂, len₂, hc₂, hd₂, hf₂⟩ := hend
    have hW' : U.WarmedH s₂.vm := hW₂
    have hcc : c₂ = c := by
      have h1 : s₂.code? g.method = U.code? g.method := by
        rw [State.code?_eq, State.code?_eq, hW'.alike.method?]
      exact Option.some.inj (hc₂.symm.trans (h1.trans h.code))
    subst hcc
    have hlen : len₂ = len := by rw [hdg] at hd₂; cases hd₂; rfl
    subst hlen
    have hs₂ : s₂ = (({ U with heap := s₂.heap, slotsUsed := s₂.slotsUsed } : State).setVm s₂.vm).setTop { g with pc := g.pc + len₂, stack := v.toList ++ g.stack } := by
      refine e3.trans ?_
      rw [hf₂, State.calling_eq h.top, State.setFrames_setFrames, State.setTop_of_frames _ hr', hr]
      rfl
    have hsame : U.sameButNew ({ U with heap := s₂.heap, slotsUsed := s₂.slotsUsed } : State) L mc ms := by
      refine ⟨?_, q2, q3, q4, q5, q6⟩
      obtain ⟨t, ht, -⟩ := State.frames_cons hr
      show ({ U with heap := s₂.heap, slotsUsed := s₂.slotsUsed } : State) = { U.setFrames U.frames with heap := s₂.heap, slotsUsed := s₂.slotsUsed }
      rw [State.setFrames_self ht]
    subst hg
    refine Or.inl ⟨v, ⟨(({ U with heap := s₂.heap, slotsUsed := s₂.slotsUsed } : State).setVm s₂.vm), Ls ++ L, c0 + mc, s0 + ms⟩,
      ⟨X.admits, X.cas, X.clock, X.frames, X.room, X.hears, X.method, X.code, (X.here.setHeapUsed s₂.heap s₂.slotsUsed).setVm hW'.alike, X.tail, State.WarmedH.trans X.warmed hW', X.limits, X.bytes, X.same.trans (hsame.setVm s.vm)⟩,
      ⟨g, mk, s₂, L, rfl, rfl, hqc, rfl, hL, rfl, rfl⟩, ?_⟩
    show Steps p.tables e below _ ((({ U with heap := s₂.heap, slotsUsed := s₂.slotsUsed } : State).setVm s₂.vm).setTop { g with pc := g.pc + len₂, stack := v.toList ++ g.stack })
    rw [← hs₂]
    exact hsteps
  · obtain ⟨e2, q2, q3, q4, q5, q6⟩ := id hsm
    have e3 : s₂ = ({ (U.calling g mk a).setFrames s₂.frames with heap := s₂.heap, slotsUsed := s₂.slotsUsed } : State).setVm s₂.vm := by
      have : s₂ = ({ s₂ with vm := (U.calling g mk a).vm } : State).setVm s₂.vm := rfl
      rw [e2] at this
      exact this
    have hf₂ : s₂.frames = .throwing q :: .java g :: U.frames.tail := hend
    have hW' : U.WarmedH s₂.vm := hW₂
    have hs₂ : s₂ = ((({ U with heap := s₂.heap, slotsUsed := s₂.slotsUsed } : State).setVm s₂.vm).setTop g).pushFrame (.throwing q) := by
      refine e3.trans ?_
      rw [hf₂, State.calling_eq h.top, State.setFrames_setFrames, State.pushFrame, State.frames_setTop _ hr', State.setTop_of_frames _ hr', State.setFrames_setFrames, hr]
      rfl
    have hsame : U.sameButNew ({ U with heap := s₂.heap, slotsUsed := s₂.slotsUsed } : State) L mc ms := by
      refine ⟨?_, q2, q3, q4, q5, q6⟩
      obtain ⟨t, ht, -⟩ := State.frames_cons hr
      show ({ U with heap := s₂.heap, slotsUsed := s₂.slotsUsed } : State) = { U.setFrames U.frames with heap := s₂.heap, slotsUsed := s₂.slotsUsed }
      rw [State.setFrames_self ht]
    subst hg
    refine Or.inr ⟨q, ⟨(({ U with heap := s₂.heap, slotsUsed := s₂.slotsUsed } : State).setVm s₂.vm), Ls ++ L, c0 + mc, s0 + ms⟩,
      ⟨X.admits, X.cas, X.clock, X.frames, X.room, X.hears, X.method, X.code, (X.here.setHeapUsed s₂.heap s₂.slotsUsed).setVm hW'.alike, X.tail, State.WarmedH.trans X.warmed hW', X.limits, X.bytes, X.same.trans (hsame.setVm s.vm)⟩,
      ⟨g, mk, s₂, L, E, ce, rfl, rfl, hx, hce, hcv, hcl, rfl, hL, rfl, rfl⟩, ?_⟩
    show Steps p.tables e below _ (((({ U with heap := s₂.heap, slotsUsed := s₂.slotsUsed } : State).setVm s₂.vm).setTop g).pushFrame (.throwing q))
    rw [← hs₂]
    exact hsteps
end Payer
section Calls
variable {p : Program} {l : Launch} {e : Env} {R : Room} {s : State} {m : MethodId} {args : Array Value} {below : List Frame} {meth : Method} {c : Code} {T : State} {locs : List Loc} {cells slots : Nat}
theorem vx_callV (X : Stand p l e R s m args below meth c T locs cells slots) (hexec : p.tables.exec = Jvm.exec) {own C : String} {index : Nat} {y : MethodName} {bytes : ByteArray} {maxL : Nat} {ret : Option FieldType}
    (hown : s.vm.findClass own = some m.cls) (hlink : (Cond.methodLink own index y).before args s = true) (hinst : (Cond.instanceMethod y).before args s = true) (hsel : (Cond.selects C y y).before args s = true)
    (hcode : (Cond.code y bytes maxL ret).before args s = true) (hy : y.cls ≠ "java/lang/invoke/MethodHandle" ∧ y.cls ≠ "java/lang/invoke/VarHandle")
    {W9 : Nat} {Pre : Pt → Array Value → Prop} {Post : Pt → Array Value → Option Value → Pt → Prop} {PostX : Pt → Array Value → Addr → Pt → Prop} (hK : vx_Back l R p e below s args y 3 W9 Pre Post PostX)
    {b : Addr} {cellB : Cell} (hcell : T.heap[b]? = some cellB) (hobj : cellB.vm.isStatics = false) (hcls : s.vm.findClass C = some cellB.cls)
    {g : JFrame} (hg : g.method = m) (hsize : g.locals.size = c.maxLocals) {argsL rest : List Value} (hlen : ∀ sig, parseMethodDescriptor y.desc = some sig → argsL.length = sig.parameters.length)
    (hstack : g.stack = argsL.reverse ++ .ref b :: rest) (hW : 2 * g.monitorRoom + (rest.map fun v => v.category).sum ≤ W9) (hdg : decode c.code g.pc = .ok (.invokevirtual index, 3))
    (hpre : ∀ vm₁, s.WarmedH vm₁ → Pre ⟨T.setVm vm₁, locs, cells, slots⟩ (Value.ref b :: argsL).toArray) :
    (∃ (v : Option Value) (vm₁ : Vm) (B : Pt), s.WarmedH vm₁ ∧ Stand p l e R s m args below meth c B.U B.locs B.cells B.slots ∧ Post ⟨T.setVm vm₁, locs, cells, slots⟩ (Value.ref b :: argsL).toArray v B ∧
      ∀ target, Steps p.tables e below (B.U.setTop { g with pc := g.pc + 3, stack := v.toList ++ rest }) target → Steps p.tables e below (T.setTop g) target) ∨
    (∃ (q : Addr) (vm₁ : Vm) (B : Pt), s.WarmedH vm₁ ∧ Stand p l e R s m args below meth c B.U B.locs B.cells B.slots ∧ PostX ⟨T.setVm vm₁, locs, cells, slots⟩ (Value.ref b :: argsL).toArray q B ∧
      Steps p.tables e below (T.setTop g) ((B.U.setTop { g with stack := rest }).pushFrame (.throwing q))) := by
  obtain ⟨mk, methM, hnamed, hmethM, hstM, habM⟩ := Cond.instanceMethod_spec hinst
  obtain ⟨methM', cM, hmethM', -, -, -, -, -, -, hsigM⟩ := Cond.code_spec hnamed hcode
  cases hmethM.symm.trans hmethM'
  obtain ⟨c2, r2, m2, q1, q2, q3, q4, kP, hkP, hkPi⟩ := Cond.selects_spec hsel
  cases hcls.symm.trans q1
  cases (State.methodFound?_of_named hnamed hy).symm.trans q2
  cases hnamed.symm.trans q3
  have hselP : selectMethod e.platform s.vm cellB.cls mk = .method mk := by rw [Launch.admits_selectMethod X.admits]; exact q4
  obtain ⟨vm₁, X₁, hstep₁⟩ := X.invokevirtual hexec hown hlink hnamed hmethM hstM hkP hkPi hy (a := b) (cell := cellB) hcell
    (fun z h => by rw [h] at hobj; cases hobj) hselP hmethM habM hkP hkPi (g := g) hg (argsL := argsL) (rest := rest) (hlen _ hsigM) hstack hdg
  rcases hK m meth c ⟨T.setVm vm₁, locs, cells, slots⟩ { g with stack := rest } (.invokevirtual index) mk (Value.ref b :: argsL).toArray X₁ hg hsize hdg hW (X₁.named hnamed) (hpre vm₁ X₁.warmed) with ⟨v, B, X', hpost, hsteps⟩ | ⟨q, B, X', hpost, hsteps⟩
  · exact Or.inl ⟨v, vm₁, B, X₁.warmed, X', hpost, fun target h => hstep₁ _ fun acts => by rw [doInvoke_state]; exact hsteps.trans h⟩
  · exact Or.inr ⟨q, vm₁, B, X₁.warmed, X', hpost, hstep₁ _ fun acts => by rw [doInvoke_state]; exact hsteps⟩
theorem vx_callS (X : Stand p l e R s m args below meth c T locs cells slots) (hexec : p.tables.exec = Jvm.exec) {own : String} {index : Nat} {y : MethodName} {bytes : ByteArray} {maxL : Nat} {ret : Option FieldType}
    (hown : s.vm.findClass own = some m.cls) (hlink : (Cond.methodLink own index y).before args s = true) (hstat : (Cond.static y).before args s = true) (hinit : (Cond.initialized y.cls).before args s = true)
    (hcode : (Cond.code y bytes maxL ret).before args s = true) (hy : y.cls ≠ "java/lang/invoke/MethodHandle" ∧ y.cls ≠ "java/lang/invoke/VarHandle")
    {W9 : Nat} {Pre : Pt → Array Value → Prop} {Post : Pt → Array Value → Option Value → Pt → Prop} {PostX : Pt → Array Value → Addr → Pt → Prop} (hK : vx_Back l R p e below s args y 3 W9 Pre Post PostX)
    {g : JFrame} (hg : g.method = m) (hsize : g.locals.size = c.maxLocals) {argsL rest : List Value} (hlen : ∀ sig, parseMethodDescriptor y.desc = some sig → argsL.length = sig.parameters.length)
    (hstack : g.stack = argsL.reverse ++ rest) (hW : 2 * g.monitorRoom + (rest.map fun v => v.category).sum ≤ W9) (hdg : decode c.code g.pc = .ok (.invokestatic index, 3))
    (hpre : ∀ vm₁, s.WarmedH vm₁ → Pre ⟨T.setVm vm₁, locs, cells, slots⟩ argsL.toArray) :
    (∃ (v : Option Value) (vm₁ : Vm) (B : Pt), s.WarmedH vm₁ ∧ Stand p l e R s m args below meth c B.U B.locs B.cells B.slots ∧ Post ⟨T.setVm vm₁, locs, cells, slots⟩ argsL.toArray v B ∧
      ∀ target, Steps p.tables e below (B.U.setTop { g with pc := g.pc + 3, stack := v.toList ++ rest }) target → Steps p.tables e below (T.setTop g) target) ∨
    (∃ (q : Addr) (vm₁ : Vm) (B : Pt), s.WarmedH vm₁ ∧ Stand p l e R s m args below meth c B.U B.locs B.cells B.slots ∧ PostX ⟨T.setVm vm₁, locs, cells, slots⟩ argsL.toArray q B ∧
      Steps p.tables e below (T.setTop g) ((B.U.setTop { g with stack := rest }).pushFrame (.throwing q))) := by
  obtain ⟨mk, hnamed⟩ := Cond.code_named hcode
  obtain ⟨methM, cM, hmethM, -, -, -, -, -, -, hsigM⟩ := Cond.code_spec hnamed hcode
  have hstatic : methM.isStatic = true := Cond.static_spec hnamed hmethM hstat
  obtain ⟨kP, hkP, -⟩ := className_of_methodNamed hnamed
  have hinitP : kP.init = .initialized := Cond.initialized_spec (findClass_of_methodNamed hnamed) hkP hinit
  obtain ⟨vm₁, X₁, hstep₁⟩ := X.invokestatic hexec hown hlink hnamed hmethM hstatic hkP hinitP hy (g := g) hg (argsL := argsL) (rest := rest) (hlen _ hsigM) hstack hdg
  rcases hK m meth c ⟨T.setVm vm₁, locs, cells, slots⟩ { g with stack := rest } (.invokestatic index) mk argsL.toArray X₁ hg hsize hdg hW (X₁.named hnamed) (hpre vm₁ X₁.warmed) with ⟨v, B, X', hpost, hsteps⟩ | ⟨q, B, X', hpost, hsteps⟩
  · exact Or.inl ⟨v, vm₁, B, X₁.warmed, X', hpost, fun target h => hstep₁ _ fun acts => by rw [doInvoke_state]; exact hsteps.trans h⟩
  · exact Or.inr ⟨q, vm₁, B, X₁.warmed, X', hpost, hstep₁ _ fun acts => by rw [doInvoke_state]; exact hsteps⟩
end Calls
theorem vx_cls {s : State} {T : State} {vm₁ : Vm} {E : String} {k : ClassId} (hW : s.WarmedH vm₁) (h : (T.setVm vm₁).vm.findClass E = some k) : s.vm.findClass E = some k := by
  have h1 : vm₁.findClass E = some k := h
  rw [hW.alike.findClass] at h1
  exact h1
/-- the method's frame g, with q thrown over it -/
def vx_W (p : Program) (l : Launch) (e : Env) (R : Room) (s : State) (m : MethodId) (args : Array Value) (below : List Frame) (meth : Method) (c : Code) (H : Heap) (locs : List Loc) (cells slots : Nat) (Q : State → Prop) (g : JFrame) (q : Addr) : Prop :=
  ∀ T : State, T.heap = H → Stand p l e R s m args below meth c T locs cells slots → ∃ t, Steps p.tables e below ((T.setTop g).pushFrame (.throwing q)) t ∧ Q t
def vx_Run (p : Program) (l : Launch) (e : Env) (R : Room) (s : State) (m : MethodId) (args : Array Value) (below : List Frame) (meth : Method) (c : Code) (H : Heap) (locs : List Loc) (cells slots mc ms : Nat) (g : JFrame) (rest : List Value) (Qa : State → Outcome → State → Prop) (XC : String → State → State → Prop) (free : Addr → Prop) : Prop :=
  ∀ T : State, T.heap = H → Stand p l e R s m args below meth c T locs cells slots →
    (∃ (v : Option Value) (st₀ t T' : State) (L : List Loc), st₀.heap = H ∧ Stand p l e R s m args below meth c T' (locs ++ L) (cells + mc) (slots + ms) ∧ (∀ q ∈ L, free q.base) ∧ T'.heap = t.heap ∧ T'.vm = t.vm ∧ Qa st₀ (.returned v) t ∧
      Goes p e below T g T' { g with pc := g.pc + 3, stack := v.toList ++ rest }) ∨
    (∃ (q : Addr) (st₀ t T' : State) (L : List Loc) (E : String) (ce : Cell), st₀.heap = H ∧ Stand p l e R s m args below meth c T' (locs ++ L) (cells + mc) (slots + ms) ∧ (∀ z ∈ L, free z.base) ∧ T'.heap = t.heap ∧ T'.vm = t.vm ∧ XC E st₀ t ∧ t.heap[q]? = some ce ∧ ce.vm = .none ∧ s.vm.findClass E = some ce.cls ∧
      Steps p.tables e below (T.setTop g) ((T'.setTop { g with stack := rest }).pushFrame (.throwing q)))
def vx_X {S : Type} (px : S → Prop) (B : String → S → State → Prop) (A : Nat → Prop) : String → State → State → Prop := fun E st t => ∃ u : S, px u ∧ B E u t ∧ va_F A st t
section Runs
variable {p : Program} {l : Launch} {e : Env} {R : Room} {s : State} {m : MethodId} {args : Array Value} {below : List Frame} {meth : Method} {c : Code} {H : Heap} {locs : List Loc} {cells slots : Nat}
variable {y : MethodName} {bytes cc : ByteArray} {maxL nL mc ms n index : Nat} {ret : Option FieldType} {ws : List Cond} {rm : Room} {Pc : Array Value → State → Prop} {Qc : Array Value → State → Outcome → State → Prop} {XC : String → State → State → Prop} {free : Addr → Prop} {Ts : List Cond} {own C : String} {b : Addr} {As rest : List Value} {g : JFrame}
theorem vx_callBack (cb : CallB R s args own index y bytes maxL ret ws rm mc ms n) (hM : vx_Met l y ws rm Pc Qc XC mc ms free) (hbl : FrameBlind Pc) : vx_Back l R p e below s args y 3 8 (PreOf R mc ms Pc) (PostOf Qc mc ms free) (vx_Post XC mc ms free) := by
  obtain ⟨hrc, hrs, hfr, hlo, hws, hcw, -, hini, -⟩ := cb
  exact vx_back (bytes := bytes) (maxL := maxL) (ret := ret) hM hbl hrc hrs hfr hlo hws hcw (fun a' U hW => word_at hW (Or.inl (by first | rfl | simp [Cond.onTables, Cond.keeps, Cond.steady])) hini)
theorem vx_runV (S : CallFix p m c cc nL s args Ts own) (hM : vx_Met l y ws rm Pc Qc XC mc ms free) (cw : CallW R s args own C index y bytes maxL ret ws rm mc ms n) (hp : PreV s H C b Pc As)
    (hg : g.method = m) (hn : As.length = n) (hsize : g.locals.size = nL) (hstack : g.stack = As.reverse ++ .ref b :: rest) (hW : 2 * g.monitorRoom + (rest.map fun v => v.category).sum ≤ 8) (hdg : decode cc g.pc = .ok (.invokevirtual index, 3)) (hf : cells + mc ≤ R.cells ∧ slots + ms ≤ R.slots) :
    vx_Run p l e R s m args below meth c H locs cells slots mc ms g rest (Qc (Value.ref b :: As).toArray) XC free := by
  have hK : vx_Back l R p e below s args y 3 8 (PreOf R mc ms Pc) (PostOf Qc mc ms free) (vx_Post XC mc ms free) := vx_callBack cw.1 hM hp.1
  obtain ⟨⟨-, -, -, -, -, -, hcode, -, hy, hlen, hl⟩, hin, hse⟩ := cw
  obtain ⟨hx, hb, hml, ho, -⟩ := S
  obtain ⟨-, ⟨cellB, hcB, hoB, hclB⟩, hPc⟩ := hp
  intro T hT X
  rcases vx_callV X hx (C := C) (bytes := bytes) (maxL := maxL) (ret := ret) ho hl hin hse hcode hy hK (by rw [hT]; exact hcB) hoB hclB hg (hsize.trans hml.symm) (argsL := As) (rest := rest) (fun sig h => hn.trans (hlen sig h)) hstack hW (by rw [hb]; exact hdg)
    (fun vm₁ hW₁ => ⟨hf.1, hf.2, hPc (T.setVm vm₁) hT hW₁⟩) with ⟨v, vm₁, ⟨U', l2, c2, s2⟩, hW₁, X', ⟨g', mk, t, L, e1, e2, hq, h1, hL, h2, h3⟩, st⟩ | ⟨q, vm₁, ⟨U', l2, c2, s2⟩, hW₁, X', ⟨g', mk, t, L, E, ce, e1, e2, hq, hce, hcv, hcl, h1, hL, h2, h3⟩, st⟩
  · dsimp only [Pt.U, Pt.locs, Pt.cells, Pt.slots] at X' e1 e2 h1 h2 h3 st
    subst h1; subst h2; subst h3
    exact Or.inl ⟨v, (T.setVm vm₁).calling g' mk (Value.ref b :: As).toArray, t, U', L, hT, X', hL, e1, e2, hq, st⟩
  · dsimp only [Pt.U, Pt.locs, Pt.cells, Pt.slots] at X' e1 e2 h1 h2 h3 st hcl
    subst h1; subst h2; subst h3
    exact Or.inr ⟨q, (T.setVm vm₁).calling g' mk (Value.ref b :: As).toArray, t, U', L, E, ce, hT, X', hL, e1, e2, hq, hce, hcv, vx_cls hW₁ hcl, st⟩
theorem vx_runS (S : CallFix p m c cc nL s args Ts own) (hM : vx_Met l y ws rm Pc Qc XC mc ms free) (cw : CallB R s args own index y bytes maxL ret ws rm mc ms n ∧ (Cond.static y).before args s = true) (hp : PreS s H Pc As)
    (hg : g.method = m) (hn : As.length = n) (hsize : g.locals.size = nL) (hstack : g.stack = As.reverse ++ rest) (hW : 2 * g.monitorRoom + (rest.map fun v => v.category).sum ≤ 8) (hdg : decode cc g.pc = .ok (.invokestatic index, 3)) (hf : cells + mc ≤ R.cells ∧ slots + ms ≤ R.slots) :
    vx_Run p l e R s m args below meth c H locs cells slots mc ms g rest (Qc As.toArray) XC free := by
  have hK : vx_Back l R p e below s args y 3 8 (PreOf R mc ms Pc) (PostOf Qc mc ms free) (vx_Post XC mc ms free) := vx_callBack cw.1 hM hp.1
  obtain ⟨⟨-, -, -, -, -, -, hcode, hini, hy, hlen, hl⟩, hstt⟩ := cw
  obtain ⟨hx, hb, hml, ho, -⟩ := S
  intro T hT X
  rcases vx_callS X hx (bytes := bytes) (maxL := maxL) (ret := ret) ho hl hstt hini hcode hy hK hg (hsize.trans hml.symm) (argsL := As) (rest := rest) (fun sig h => hn.trans (hlen sig h)) hstack hW (by rw [hb]; exact hdg)
    (fun vm₁ hW₁ => ⟨hf.1, hf.2, hp.2 (T.setVm vm₁) hT hW₁⟩) with ⟨v, vm₁, ⟨U', l2, c2, s2⟩, hW₁, X', ⟨g', mk, t, L, e1, e2, hq, h1, hL, h2, h3⟩, st⟩ | ⟨q, vm₁, ⟨U', l2, c2, s2⟩, hW₁, X', ⟨g', mk, t, L, E, ce, e1, e2, hq, hce, hcv, hcl, h1, hL, h2, h3⟩, st⟩
  · dsimp only [Pt.U, Pt.locs, Pt.cells, Pt.slots] at X' e1 e2 h1 h2 h3 st
    subst h1; subst h2; subst h3
    exact Or.inl ⟨v, (T.setVm vm₁).calling g' mk As.toArray, t, U', L, hT, X', hL, e1, e2, hq, st⟩
  · dsimp only [Pt.U, Pt.locs, Pt.cells, Pt.slots] at X' e1 e2 h1 h2 h3 st hcl
    subst h1; subst h2; subst h3
    exact Or.inr ⟨q, (T.setVm vm₁).calling g' mk As.toArray, t, U', L, E, ce, hT, X', hL, e1, e2, hq, hce, hcv, vx_cls hW₁ hcl, st⟩
end Runs
section Rows
variable {p : Program} {l : Launch} {e : Env} {R : Room} {s : State} {m : MethodId} {args : Array Value} {below : List Frame} {meth : Method} {c : Code} {H : Heap} {locs : List Loc} {cells slots : Nat} {Q : State → Prop}
variable {mc ms : Nat} {free : Addr → Prop} {A0 A1 : Nat → Prop} {H0 : Heap} {a : Array Value} {pc : Nat} {ls : Array Slot} {st0 rest : List Value}
theorem vx_keep {st₀ t T' : State} {L : List Loc} (h0 : st₀.heap = H) (e1 : T'.heap = t.heap) (hS : va_S A0 H0 H locs) (hA : ∀ q, q < H.size → A1 q → A0 q) (hf : ∀ q, free q → A0 q) (hL : ∀ q ∈ L, free q.base) (hF : va_F A1 st₀ t) :
    H.size ≤ T'.heap.size ∧ (∀ q : Nat, q < H.size → ¬ A1 q → T'.heap[q]? = H[q]?) ∧ va_S A0 H0 T'.heap (locs ++ L) := by
  obtain ⟨hz, hk⟩ := hF
  rw [h0] at hz hk
  exact ⟨by rw [e1]; exact hz, fun q h1 h2 => by rw [e1]; exact hk q h1 h2,
    ⟨Nat.le_trans hS.1 (by rw [e1]; exact hz), fun q h1 h2 => by rw [e1, hk q (Nat.lt_of_lt_of_le h1 hS.1) (fun z => h2 (hA q (Nat.lt_of_lt_of_le h1 hS.1) z))]; exact hS.2.1 q h1 h2, fun q hq => by
      rcases List.mem_append.mp hq with h | h
      · exact hS.2.2 q h
      · exact hf _ (hL q h)⟩⟩
theorem vx_calli {S SX : Type} {post : Int32 → S → Prop} {px : SX → Prop} {B : S → State → Prop} {BX : String → SX → State → Prop} {AX : Nat → Prop} (hr : vx_Run p l e R s m args below meth c H locs cells slots mc ms (F0 m pc ls st0) rest (va_Qi post B A1 a) (vx_X px BX AX) free) (hS : va_S A0 H0 H locs) (hA : ∀ q, q < H.size → A1 q → A0 q) (hf : ∀ q, free q → A0 q) (hAX : ∀ q, q < H.size → AX q → A0 q)
    (kx : ∀ (E : String) (ce : Cell) (q9 : Addr) (u : SX) (t : State) (H1 : Heap) (locs1 : List Loc), t.heap = H1 → s.vm.Alike t.vm → px u → BX E u t → H.size ≤ H1.size → (∀ q : Nat, q < H.size → ¬ AX q → H1[q]? = H[q]?) → va_S A0 H0 H1 locs1 → H1[q9]? = some ce → ce.vm = .none → s.vm.findClass E = some ce.cls → vx_W p l e R s m args below meth c H1 locs1 (cells + mc) (slots + ms) Q (F0 m pc ls rest) q9)
    (kk : ∀ (r : Int32) (u : S) (t : State) (H1 : Heap) (locs1 : List Loc), t.heap = H1 → s.vm.Alike t.vm → post r u → B u t → H.size ≤ H1.size → (∀ q : Nat, q < H.size → ¬ A1 q → H1[q]? = H[q]?) → va_S A0 H0 H1 locs1 → W p l e R s m args below meth c H1 locs1 (cells + mc) (slots + ms) Q (F0 m (pc + 3) ls (.int r :: rest))) : W p l e R s m args below meth c H locs cells slots Q (F0 m pc ls st0) := by
  intro T hT X
  rcases hr T hT X with ⟨v, st₀, t, T', L, h0, X', hL, e1, e2, ⟨⟨r, u, hv, hp, hb⟩, hF⟩, st⟩ | ⟨q, st₀, t, T', L, E, ce, h0, X', hL, e1, e2, ⟨u, hp, hb, hF⟩, hce, hcv, hcl, st⟩
  · cases hv
    obtain ⟨k1, k2, k3⟩ := vx_keep h0 e1 hS hA hf hL hF
    obtain ⟨t2, a1, b1⟩ := kk r u t T'.heap (locs ++ L) e1.symm (by rw [← e2]; exact X'.warmed.alike) hp hb k1 k2 k3 T' rfl X'
    exact ⟨t2, st t2 a1, b1⟩
  · obtain ⟨k1, k2, k3⟩ := vx_keep h0 e1 hS hAX hf hL hF
    obtain ⟨t2, a1, b1⟩ := kx E ce q u t T'.heap (locs ++ L) e1.symm (by rw [← e2]; exact X'.warmed.alike) hp hb k1 k2 k3 (by rw [e1]; exact hce) hcv hcl T' rfl X'
    exact ⟨t2, st.trans a1, b1⟩
theorem vx_calll {S SX : Type} {post : Int64 → S → Prop} {px : SX → Prop} {B : S → State → Prop} {BX : String → SX → State → Prop} {AX : Nat → Prop} (hr : vx_Run p l e R s m args below meth c H locs cells slots mc ms (F0 m pc ls st0) rest (va_Ql post B A1 a) (vx_X px BX AX) free) (hS : va_S A0 H0 H locs) (hA : ∀ q, q < H.size → A1 q → A0 q) (hf : ∀ q, free q → A0 q) (hAX : ∀ q, q < H.size → AX q → A0 q)
    (kx : ∀ (E : String) (ce : Cell) (q9 : Addr) (u : SX) (t : State) (H1 : Heap) (locs1 : List Loc), t.heap = H1 → s.vm.Alike t.vm → px u → BX E u t → H.size ≤ H1.size → (∀ q : Nat, q < H.size → ¬ AX q → H1[q]? = H[q]?) → va_S A0 H0 H1 locs1 → H1[q9]? = some ce → ce.vm = .none → s.vm.findClass E = some ce.cls → vx_W p l e R s m args below meth c H1 locs1 (cells + mc) (slots + ms) Q (F0 m pc ls rest) q9)
    (kk : ∀ (r : Int64) (u : S) (t : State) (H1 : Heap) (locs1 : List Loc), t.heap = H1 → s.vm.Alike t.vm → post r u → B u t → H.size ≤ H1.size → (∀ q : Nat, q < H.size → ¬ A1 q → H1[q]? = H[q]?) → va_S A0 H0 H1 locs1 → W p l e R s m args below meth c H1 locs1 (cells + mc) (slots + ms) Q (F0 m (pc + 3) ls (.long r :: rest))) : W p l e R s m args below meth c H locs cells slots Q (F0 m pc ls st0) := by
  intro T hT X
  rcases hr T hT X with ⟨v, st₀, t, T', L, h0, X', hL, e1, e2, ⟨⟨r, u, hv, hp, hb⟩, hF⟩, st⟩ | ⟨q, st₀, t, T', L, E, ce, h0, X', hL, e1, e2, ⟨u, hp, hb, hF⟩, hce, hcv, hcl, st⟩
  · cases hv
    obtain ⟨k1, k2, k3⟩ := vx_keep h0 e1 hS hA hf hL hF
    obtain ⟨t2, a1, b1⟩ := kk r u t T'.heap (locs ++ L) e1.symm (by rw [← e2]; exact X'.warmed.alike) hp hb k1 k2 k3 T' rfl X'
    exact ⟨t2, st t2 a1, b1⟩
  · obtain ⟨k1, k2, k3⟩ := vx_keep h0 e1 hS hAX hf hL hF
    obtain ⟨t2, a1, b1⟩ := kx E ce q u t T'.heap (locs ++ L) e1.symm (by rw [← e2]; exact X'.warmed.alike) hp hb k1 k2 k3 (by rw [e1]; exact hce) hcv hcl T' rfl X'
    exact ⟨t2, st.trans a1, b1⟩
theorem vx_callf {S SX : Type} {post : UInt32 → S → Prop} {px : SX → Prop} {B : S → State → Prop} {BX : String → SX → State → Prop} {AX : Nat → Prop} (hr : vx_Run p l e R s m args below meth c H locs cells slots mc ms (F0 m pc ls st0) rest (va_Qf post B A1 a) (vx_X px BX AX) free) (hS : va_S A0 H0 H locs) (hA : ∀ q, q < H.size → A1 q → A0 q) (hf : ∀ q, free q → A0 q) (hAX : ∀ q, q < H.size → AX q → A0 q)
    (kx : ∀ (E : String) (ce : Cell) (q9 : Addr) (u : SX) (t : State) (H1 : Heap) (locs1 : List Loc), t.heap = H1 → s.vm.Alike t.vm → px u → BX E u t → H.size ≤ H1.size → (∀ q : Nat, q < H.size → ¬ AX q → H1[q]? = H[q]?) → va_S A0 H0 H1 locs1 → H1[q9]? = some ce → ce.vm = .none → s.vm.findClass E = some ce.cls → vx_W p l e R s m args below meth c H1 locs1 (cells + mc) (slots + ms) Q (F0 m pc ls rest) q9)
    (kk : ∀ (r : UInt32) (u : S) (t : State) (H1 : Heap) (locs1 : List Loc), t.heap = H1 → s.vm.Alike t.vm → post r u → B u t → H.size ≤ H1.size → (∀ q : Nat, q < H.size → ¬ A1 q → H1[q]? = H[q]?) → va_S A0 H0 H1 locs1 → W p l e R s m args below meth c H1 locs1 (cells + mc) (slots + ms) Q (F0 m (pc + 3) ls (.float r :: rest))) : W p l e R s m args below meth c H locs cells slots Q (F0 m pc ls st0) := by
  intro T hT X
  rcases hr T hT X with ⟨v, st₀, t, T', L, h0, X', hL, e1, e2, ⟨⟨r, u, hv, hp, hb⟩, hF⟩, st⟩ | ⟨q, st₀, t, T', L, E, ce, h0, X', hL, e1, e2, ⟨u, hp, hb, hF⟩, hce, hcv, hcl, st⟩
  · cases hv
    obtain ⟨k1, k2, k3⟩ := vx_keep h0 e1 hS hA hf hL hF
    obtain ⟨t2, a1, b1⟩ := kk r u t T'.heap (locs ++ L) e1.symm (by rw [← e2]; exact X'.warmed.alike) hp hb k1 k2 k3 T' rfl X'
    exact ⟨t2, st t2 a1, b1⟩
  · obtain ⟨k1, k2, k3⟩ := vx_keep h0 e1 hS hAX hf hL hF
    obtain ⟨t2, a1, b1⟩ := kx E ce q u t T'.heap (locs ++ L) e1.symm (by rw [← e2]; exact X'.warmed.alike) hp hb k1 k2 k3 (by rw [e1]; exact hce) hcv hcl T' rfl X'
    exact ⟨t2, st.trans a1, b1⟩
theorem vx_calld {S SX : Type} {post : UInt64 → S → Prop} {px : SX → Prop} {B : S → State → Prop} {BX : String → SX → State → Prop} {AX : Nat → Prop} (hr : vx_Run p l e R s m args below meth c H locs cells slots mc ms (F0 m pc ls st0) rest (va_Qd post B A1 a) (vx_X px BX AX) free) (hS : va_S A0 H0 H locs) (hA : ∀ q, q < H.size → A1 q → A0 q) (hf : ∀ q, free q → A0 q) (hAX : ∀ q, q < H.size → AX q → A0 q)
    (kx : ∀ (E : String) (ce : Cell) (q9 : Addr) (u : SX) (t : State) (H1 : Heap) (locs1 : List Loc), t.heap = H1 → s.vm.Alike t.vm → px u → BX E u t → H.size ≤ H1.size → (∀ q : Nat, q < H.size → ¬ AX q → H1[q]? = H[q]?) → va_S A0 H0 H1 locs1 → H1[q9]? = some ce → ce.vm = .none → s.vm.findClass E = some ce.cls → vx_W p l e R s m args below meth c H1 locs1 (cells + mc) (slots + ms) Q (F0 m pc ls rest) q9)
    (kk : ∀ (r : UInt64) (u : S) (t : State) (H1 : Heap) (locs1 : List Loc), t.heap = H1 → s.vm.Alike t.vm → post r u → B u t → H.size ≤ H1.size → (∀ q : Nat, q < H.size → ¬ A1 q → H1[q]? = H[q]?) → va_S A0 H0 H1 locs1 → W p l e R s m args below meth c H1 locs1 (cells + mc) (slots + ms) Q (F0 m (pc + 3) ls (.double r :: rest))) : W p l e R s m args below meth c H locs cells slots Q (F0 m pc ls st0) := by
  intro T hT X
  rcases hr T hT X with ⟨v, st₀, t, T', L, h0, X', hL, e1, e2, ⟨⟨r, u, hv, hp, hb⟩, hF⟩, st⟩ | ⟨q, st₀, t, T', L, E, ce, h0, X', hL, e1, e2, ⟨u, hp, hb, hF⟩, hce, hcv, hcl, st⟩
  · cases hv
    obtain ⟨k1, k2, k3⟩ := vx_keep h0 e1 hS hA hf hL hF
    obtain ⟨t2, a1, b1⟩ := kk r u t T'.heap (locs ++ L) e1.symm (by rw [← e2]; exact X'.warmed.alike) hp hb k1 k2 k3 T' rfl X'
    exact ⟨t2, st t2 a1, b1⟩
  · obtain ⟨k1, k2, k3⟩ := vx_keep h0 e1 hS hAX hf hL hF
    obtain ⟨t2, a1, b1⟩ := kx E ce q u t T'.heap (locs ++ L) e1.symm (by rw [← e2]; exact X'.warmed.alike) hp hb k1 k2 k3 (by rw [e1]; exact hce) hcv hcl T' rfl X'
    exact ⟨t2, st.trans a1, b1⟩
theorem vx_callv {S SX : Type} {post : S → Prop} {px : SX → Prop} {B : S → State → Prop} {BX : String → SX → State → Prop} {AX : Nat → Prop} (hr : vx_Run p l e R s m args below meth c H locs cells slots mc ms (F0 m pc ls st0) rest (va_Qv post B A1 a) (vx_X px BX AX) free) (hS : va_S A0 H0 H locs) (hA : ∀ q, q < H.size → A1 q → A0 q) (hf : ∀ q, free q → A0 q) (hAX : ∀ q, q < H.size → AX q → A0 q)
    (kx : ∀ (E : String) (ce : Cell) (q9 : Addr) (u : SX) (t : State) (H1 : Heap) (locs1 : List Loc), t.heap = H1 → s.vm.Alike t.vm → px u → BX E u t → H.size ≤ H1.size → (∀ q : Nat, q < H.size → ¬ AX q → H1[q]? = H[q]?) → va_S A0 H0 H1 locs1 → H1[q9]? = some ce → ce.vm = .none → s.vm.findClass E = some ce.cls → vx_W p l e R s m args below meth c H1 locs1 (cells + mc) (slots + ms) Q (F0 m pc ls rest) q9)
    (kk : ∀ (u : S) (t : State) (H1 : Heap) (locs1 : List Loc), t.heap = H1 → s.vm.Alike t.vm → post u → B u t → H.size ≤ H1.size → (∀ q : Nat, q < H.size → ¬ A1 q → H1[q]? = H[q]?) → va_S A0 H0 H1 locs1 → W p l e R s m args below meth c H1 locs1 (cells + mc) (slots + ms) Q (F0 m (pc + 3) ls (rest))) : W p l e R s m args below meth c H locs cells slots Q (F0 m pc ls st0) := by
  intro T hT X
  rcases hr T hT X with ⟨v, st₀, t, T', L, h0, X', hL, e1, e2, ⟨⟨u, hv, hp, hb⟩, hF⟩, st⟩ | ⟨q, st₀, t, T', L, E, ce, h0, X', hL, e1, e2, ⟨u, hp, hb, hF⟩, hce, hcv, hcl, st⟩
  · cases hv
    obtain ⟨k1, k2, k3⟩ := vx_keep h0 e1 hS hA hf hL hF
    obtain ⟨t2, a1, b1⟩ := kk u t T'.heap (locs ++ L) e1.symm (by rw [← e2]; exact X'.warmed.alike) hp hb k1 k2 k3 T' rfl X'
    exact ⟨t2, st t2 a1, b1⟩
  · obtain ⟨k1, k2, k3⟩ := vx_keep h0 e1 hS hAX hf hL hF
    obtain ⟨t2, a1, b1⟩ := kx E ce q u t T'.heap (locs ++ L) e1.symm (by rw [← e2]; exact X'.warmed.alike) hp hb k1 k2 k3 (by rw [e1]; exact hce) hcv hcl T' rfl X'
    exact ⟨t2, st.trans a1, b1⟩
/-- caught by the row x of this method's table; the rows ahead don't take it -/
theorem vx_catch {own name : String} {E : String} {ce : Cell} {q : Addr} (hown : s.vm.findClass own = some m.cls) (pre : List ExceptionTableEntry) (x : ExceptionTableEntry) (suf : List ExceptionTableEntry) (hsplit : c.exceptionTable.toList = pre ++ x :: suf)
    (hpass : ∀ z ∈ pre, covers z pc = false ∨ (z.catchType ≠ 0 ∧ ∃ nm : String, (Cond.classLink own z.catchType nm).before args s = true ∧ va_Nc E nm s)) (hx : covers x pc = true) (h0 : x.catchType ≠ 0)
    (hlink : (Cond.classLink own x.catchType name).before args s = true) (hcast : (Cond.castable E name).before args s = true) (hcell : H[q]? = some ce) (hv : ce.vm = .none) (hcl : s.vm.findClass E = some ce.cls)
    (kk : W p l e R s m args below meth c H locs cells slots Q (F0 m x.handlerPc ls [.ref q])) : vx_W p l e R s m args below meth c H locs cells slots Q (F0 m pc ls rest) q := by
  intro T hT X
  have hpl : e.platform.magicAccessors = ({} : Platform).magicAccessors := by rw [X.admits.platform]
  obtain ⟨c3, c4, hc3, hc4, hasg⟩ := Cond.castable_spec hcast
  cases Option.some.inj (hc3.symm.trans hcl)
  obtain ⟨c5, hc5, hcl5⟩ := Cond.classLink_spec hown hlink e.platform hpl
  cases Option.some.inj (hc4.symm.trans hc5)
  obtain ⟨vm', X', st⟩ := X.thenCaughtThrough q (g := F0 m pc ls rest) rfl (Steps.refl _) (by rw [hT]; exact hcell) (by rw [hv]; rfl) (by obtain ⟨k9, h9, -⟩ := Vm.findClass_spec hcl; exact ⟨k9, h9⟩) pre x suf hsplit
    (fun z hz => by
      rcases hpass z hz with h | ⟨hz0, nm, hl1, hn1⟩
      · exact Or.inl h
      · obtain ⟨c6, hc6, hcl6⟩ := Cond.classLink_spec hown hl1 e.platform hpl
        obtain ⟨a8, b8, h1, h2, h3⟩ := hn1
        cases Option.some.inj (h1.symm.trans hcl)
        cases Option.some.inj (h2.symm.trans hc6)
        exact Or.inr ⟨hz0, _, hcl6, h3⟩) hx (Or.inr ⟨h0, c4, hcl5, hasg⟩)
  obtain ⟨t, a1, b1⟩ := kk (T.setVm vm') hT X'
  exact ⟨t, st.trans a1, b1⟩
end Rows
section Ends
variable {p : Program} {l : Launch} {e : Env} {R : Room} {s : State} {m : MethodId} {args : Array Value} {below : List Frame} {meth : Method} {c : Code} {H : Heap} {locs : List Loc} {cells slots : Nat} {Q : State → Prop}
variable {mc ms : Nat} {free : Addr → Prop} {A0 A1 : Nat → Prop} {H0 : Heap} {a : Array Value} {ls : Array Slot} {st0 rest : List Value}
variable {Qc : Array Value → State → Outcome → State → Prop} {XC : String → State → State → Prop}
/-- what a body that may throw owes at its end -/
def vx_MQ (below : List Frame) (Qc : Array Value → State → Outcome → State → Prop) (XC : String → State → State → Prop) (a : Array Value) (s : State) (mc ms : Nat) (free : Addr → Prop) : State → Prop := fun t =>
  ∃ o, t.status = .running ∧ Ended t below o ∧ vx_Q Qc XC mc ms free a s o t
theorem vx_ret {g : JFrame} {mc ms : Nat} (k : W p l e R s m args below meth c H locs cells slots (MQ below Qc args s mc ms free) g) : W p l e R s m args below meth c H locs cells slots (vx_MQ below Qc XC args s mc ms free) g := by
  intro T hT X
  obtain ⟨t, a1, o, b1, b2, b3, b4⟩ := k T hT X
  exact ⟨t, a1, o, b1, b2, Or.inl ⟨b3, b4⟩⟩
/-- not caught here: it goes on to the caller -/
theorem vx_widen {g : JFrame} {q : Addr} {k n : Nat} (h1 : cells ≤ k) (h2 : slots ≤ n) (kk : vx_W p l e R s m args below meth c H locs k n Q g q) : vx_W p l e R s m args below meth c H locs cells slots Q g q := fun T hT X => kk T hT (stand_widen X h1 h2)
theorem vx_out {pc : Nat} {E : String} {ce : Cell} {q : Addr} {mc ms : Nat} (hout : ∀ x ∈ c.exceptionTable.toList, covers x pc = false) (hlocks : meth.locks = false) (hcell : H[q]? = some ce) (hv : ce.vm = .none) (hcl : s.vm.findClass E = some ce.cls)
    (hx : ∀ t : State, t.heap = H → s.vm.Alike t.vm → XC E s t) (hf : ∀ z ∈ locs, free z.base) (hc : cells ≤ mc) (hs : slots ≤ ms) :
    vx_W p l e R s m args below meth c H locs cells slots (vx_MQ below Qc XC args s mc ms free) (F0 m pc ls rest) q := by
  intro T hT X
  obtain ⟨st1, hrun, hend, hW, hsm⟩ := X.leaveThrown q (g := F0 m pc ls rest) rfl rfl rfl hout hlocks
  have hcell9 : (T.setFrames (.throwing q :: below)).heap[q]? = some ce := by
    show T.heap[q]? = some ce
    rw [hT]; exact hcell
  exact ⟨_, st1, .threw q, hrun, hend, Or.inr ⟨q, rfl, E, ce, locs, hx _ hT hW.alike, hcell9, hv, hcl, hW, hsm.mono hc hs, hf⟩⟩
theorem vx_frame {U : State} {k n : Nat} (h : s.sameButNew ({ U with vm := s.vm } : State) locs k n) : s.heap.size ≤ U.heap.size ∧ ∀ q : Nat, q < s.heap.size → (∀ z ∈ locs, z.base ≠ q) → U.heap[q]? = s.heap[q]? := by
  obtain ⟨-, h2, -, -, -, h6⟩ := h
  refine ⟨h2, fun q hq hz => ?_⟩
  obtain ⟨c9, e1, e2, e3, e4⟩ := h6 q _ (Array.getElem?_eq_getElem hq)
  have hs : c9.slots = (s.heap[q]).slots := Array.ext_getElem? fun i => e4 i fun hm => hz _ hm rfl
  have h9 : c9 = s.heap[q] := by
    rw [hs] at e2
    exact e2
  have e5 : U.heap[q]? = some c9 := e1
  rw [e5, h9, Array.getElem?_eq_getElem hq]
/-- the words of a throw but the four that speak of the heap -/
def vx_no (w : Cond) : Bool := decide (w ≠ .isRef (.static Bundle.tN "UNASSIGNED_STACK" Bundle.steD)) && decide (w ≠ .isRef (.static Bundle.tN "SUPPRESSED_SENTINEL" Bundle.listD)) && decide (w ≠ .laysStatic Bundle.tN "UNASSIGNED_STACK" Bundle.steD) && decide (w ≠ .laysStatic Bundle.tN "SUPPRESSED_SENTINEL" Bundle.listD)
def vx_at0 (own : String) (ic : Nat) (X : String) (names : List String) : List Cond := (Bundle.ownAtoms0 own ic X names).filter vx_no
def vx_atS (own : String) (ic : Nat) (X : String) (names : List String) : List Cond := (Bundle.ownAtoms own ic X names).filter vx_no
/-- a word that the tables alone decide, or a good one -/
def vx_ot (w : Cond) : Bool := w.onTables || goodWord w
theorem vx_ot_at {args a' : Array Value} {s U : State} {w : Cond} (hW : s.WarmedH U.vm) (hvm : s.vm = U.vm) (hg : vx_ot w = true) (h : w.before args s = true) : w.before a' U = true := by
  simp only [vx_ot, Bool.or_eq_true] at hg
  rcases hg with hg | hg
  · exact va_tabs hg hvm h
  · exact word_at hW (good_of_word hg) h
/-- a list's words: the good ones out of the method's own list, the others by premises of their own -/
theorem vx_hat {args : Array Value} {s : State} {L B : List Cond} (h1 : ∀ w ∈ L.filter goodWord, w.before args s = true) (h2 : ∀ w ∈ L.filter (fun w => !goodWord w), w ∈ B) (h3 : ∀ w ∈ B, w.before args s = true) : ∀ w ∈ L, w.before args s = true := by
  intro w hw
  by_cases g : goodWord w = true
  · exact h1 w (List.mem_filter.mpr ⟨hw, g⟩)
  · refine h3 w (h2 w (List.mem_filter.mpr ⟨hw, ?_⟩))
    show (!goodWord w) = true
    cases hgw : goodWord w
    · rfl
    · exact absurd hgw g
theorem vx_c {args : Array Value} {s : State} {w : Cond} {B : List Cond} (h : w.before args s = true) (t : ∀ w ∈ B, w.before args s = true) : ∀ w' ∈ w :: B, w'.before args s = true := fun w' h' => (List.mem_cons.mp h').elim (fun e => by rw [e]; exact h) (t w')
theorem vx_n {args : Array Value} {s : State} : ∀ w ∈ ([] : List Cond), w.before args s = true := fun _ h => nomatch h
theorem vx_own {args : Array Value} {s : State} {L : List Cond} (h1 : ∀ w ∈ L.filter vx_no, w.before args s = true)
    (hU : (Cond.isRef (.static Bundle.tN "UNASSIGNED_STACK" Bundle.steD)).before args s = true) (hN : (Cond.isRef (.static Bundle.tN "SUPPRESSED_SENTINEL" Bundle.listD)).before args s = true)
    (lU : (Cond.laysStatic Bundle.tN "UNASSIGNED_STACK" Bundle.steD).before args s = true) (lN : (Cond.laysStatic Bundle.tN "SUPPRESSED_SENTINEL" Bundle.listD).before args s = true) : ∀ w ∈ L, w.before args s = true := by
  intro w hw
  by_cases e1 : w = .isRef (.static Bundle.tN "UNASSIGNED_STACK" Bundle.steD)
  · rw [e1]; exact hU
  · by_cases e2 : w = .isRef (.static Bundle.tN "SUPPRESSED_SENTINEL" Bundle.listD)
    · rw [e2]; exact hN
    · by_cases e3 : w = .laysStatic Bundle.tN "UNASSIGNED_STACK" Bundle.steD
      · rw [e3]; exact lU
      · by_cases e4 : w = .laysStatic Bundle.tN "SUPPRESSED_SENTINEL" Bundle.listD
        · rw [e4]; exact lN
        · exact h1 w (List.mem_filter.mpr ⟨hw, by unfold vx_no; rw [decide_eq_true e1, decide_eq_true e2, decide_eq_true e3, decide_eq_true e4]; rfl⟩)
/-- where a static field lies, its class's statics cell in H -/
def vx_L (C n d : String) (A : Nat → Prop) (U : State) (H : Heap) : Prop := ∃ (c : ClassId) (k : Class) (i : Nat) (f : Field) (a : Nat) (cell : Cell), U.vm.findClass C = some c ∧ U.fieldFound? C n d = some (c, k, i, f) ∧ f.isStatic = true ∧ k.statics = some a ∧ H[a]? = some cell ∧ cell.vm.isStatics = true ∧ cell.cls = c ∧ f.slot < cell.slots.size ∧ k.staticTypes[f.slot]? = some f.type ∧ ¬ A a
theorem vx_L.moved {C n d : String} {A : Nat → Prop} {u U : State} {H : Heap} (hvm : u.vm.Alike U.vm) (h : vx_L C n d A u H) : vx_L C n d A U H := by
  obtain ⟨c, k, i, f, a, cell, h1, h2, h3, h4, h5, h6, h7, h8, h9, h10⟩ := h
  obtain ⟨k', hi', he⟩ := State.fieldFound?_setVm hvm h2
  exact ⟨c, k', i, f, a, cell, by rw [hvm.findClass]; exact h1, hi', h3, by rw [he]; exact h4, h5, h6, h7, h8, by rw [he]; exact h9, h10⟩
theorem vx_L.kept {C n d : String} {A : Nat → Prop} {U : State} {H H1 : Heap} (h : vx_L C n d A U H) (hq : ∀ a : Nat, a < H.size → ¬ A a → H1[a]? = H[a]?) : vx_L C n d A U H1 := by
  obtain ⟨c, k, i, f, a, cell, h1, h2, h3, h4, h5, h6, h7, h8, h9, h10⟩ := h
  exact ⟨c, k, i, f, a, cell, h1, h2, h3, h4, by rw [hq a (Array.getElem?_eq_some_iff.mp h5).1 h10]; exact h5, h6, h7, h8, h9, h10⟩
theorem vx_L.narrow {C n d : String} {A B : Nat → Prop} {U : State} {H : Heap} (h : vx_L C n d A U H) (hAB : ∀ q, B q → A q) : vx_L C n d B U H := by
  obtain ⟨c, k, i, f, a, cell, h1, h2, h3, h4, h5, h6, h7, h8, h9, h10⟩ := h
  exact ⟨c, k, i, f, a, cell, h1, h2, h3, h4, h5, h6, h7, h8, h9, fun z => h10 (hAB _ z)⟩
theorem vx_L.word {C n d : String} {A : Nat → Prop} {s : State} {args : Array Value} (h : vx_L C n d A s s.heap) : (Cond.laysStatic C n d).before args s = true := by
  obtain ⟨c, k, i, f, a, cell, h1, h2, h3, h4, h5, h6, h7, h8, h9, -⟩ := h
  show (Cond.laysStatic C n d).holds args s none s [] = true
  exact Cond.laysStatic_of h1 h2 h3 h4 h5 h6 h7 h8 h9
/-- .. and what it holds: null or some reference -/
def vx_Zq (C n d : String) (A : Nat → Prop) (U : State) (H : Heap) : Prop := va_Zq C n d A U H ∧ vx_L C n d A U H
theorem vx_Zq.moved {C n d : String} {A : Nat → Prop} {u U : State} {H : Heap} (hvm : u.vm.Alike U.vm) (h : vx_Zq C n d A u H) : vx_Zq C n d A U H := ⟨va_Zq.moved hvm h.1, vx_L.moved hvm h.2⟩
theorem vx_Zq.kept {C n d : String} {A : Nat → Prop} {U : State} {H H1 : Heap} (h : vx_Zq C n d A U H) (hq : ∀ a : Nat, a < H.size → ¬ A a → H1[a]? = H[a]?) : vx_Zq C n d A U H1 := ⟨va_Zq.kept h.1 hq, vx_L.kept h.2 hq⟩
theorem vx_Zq.narrow {C n d : String} {A B : Nat → Prop} {U : State} {H : Heap} (h : vx_Zq C n d A U H) (hAB : ∀ q, B q → A q) : vx_Zq C n d B U H := ⟨va_Zq.narrow h.1 hAB, vx_L.narrow h.2 hAB⟩
theorem vx_Zqof {args : Array Value} {s : State} {C n d : String} {A : Nat → Prop} (hl : (Cond.laysStatic C n d).before args s = true) (hini : (Cond.initialized C).before args s = true) (h : (Cond.isRef (.static C n d)).before args s = true) (hA : ∀ a : Nat, a < s.heap.size → ¬ A a) : vx_Zq C n d A s s.heap := by
  refine ⟨va_Zqof hl hini h hA, ?_⟩
  obtain ⟨c, k, i, f, a, cell, h1, h2, h3, h4, h5, h6, h7, h8, h9⟩ := Cond.laysStatic_spec hl
  exact ⟨c, k, i, f, a, cell, h1, h2, h3, h4, h5, h6, h7, h8, h9, hA a (Array.getElem?_eq_some_iff.mp h5).1⟩
theorem vx_isRef {C n d : String} {v : Value} {A : Nat → Prop} {s : State} {args : Array Value} (h : va_Z C n d v A s s.heap) (hv : v.isRef = true) : (Cond.isRef (.static C n d)).before args s = true := by
  obtain ⟨cf, kf, fi, f, a, cell, h1, h2, h3, h4, h5, h6, h7, -⟩ := h
  have he : (Term.static C n d).eval args s none [] s = some v := by
    simp [Term.eval, State.fieldNamed?, h1, h2, h4, h5, h6, h7]
  simp only [Cond.before, Cond.holds, Cond.value, he]
  cases v <;> simp_all [Value.isRef]
theorem vx_isRefq {C n d : String} {A : Nat → Prop} {s : State} {args : Array Value} (h : va_Zq C n d A s s.heap) : (Cond.isRef (.static C n d)).before args s = true := by
  rcases h with h | ⟨t, h⟩
  · exact vx_isRef h rfl
  · exact vx_isRef h rfl
/-- the same frame, seen from here: as if the method were called anew in this heap -/
theorem vx_rebase {T : State} (X : Stand p l e R s m args below meth c T locs cells slots) {R' : Room} (hf : R'.frames ≤ R.frames) (hl : R'.locals ≤ R.locals) (hc : cells + R'.cells ≤ R.cells) (hs : slots + R'.slots ≤ R.slots) :
    Stand p l e R' ((T.setVm s.vm).setFrames (.invoking m args :: below)) m args below meth c T [] 0 0 := by
  have htop : (T.setVm s.vm).topJava?.isSome := X.here.top
  have hF : ((T.setVm s.vm).setFrames (.invoking m args :: below)).frames = .invoking m args :: below := State.frames_setFrames _ (State.cur_lt_of_top htop)
  obtain ⟨g₀, hg0⟩ := Option.isSome_iff_exists.mp htop
  obtain ⟨r, hr⟩ := State.topJava?_eq_some.mp hg0
  have hl9 : e.platform.stackLimits (T.setVm s.vm).me = e.platform.stackLimits s.me := X.limits
  have hb9 : (T.setVm s.vm).me.stackBytes = s.me.stackBytes := X.bytes
  refine ⟨X.admits, X.cas, X.clock, hF, ?_, X.hears, X.method, X.code, X.here, X.tail, X.warmed, ?_, ?_, ?_⟩
  · have h := X.room
    have hU : ((T.setVm s.vm).setFrames (.invoking m args :: below)).localsInUse = s.localsInUse := by
      rw [State.localsInUse_invoking hF (meth := meth) (c := c) X.method X.code, State.localsInUse_invoking X.frames X.method X.code]
    simp only [State.hasRoom, Bool.and_eq_true, decide_eq_true_eq] at h ⊢
    obtain ⟨⟨⟨⟨h1, h2, h3, h4, h5, h6⟩, h7⟩, h8⟩, h9⟩ := h
    rw [X.frames, List.length_cons] at h2 h3
    have q1 := X.heapSize
    have q2 := X.used
    simp only [hF, hU, List.length_cons, State.stackLimits_setFrames, State.stackBytes_setFrames, hl9, hb9]
    refine ⟨⟨⟨⟨by omega, by omega, by omega, by omega, by omega, h6⟩, ?_⟩, ?_⟩, X.book⟩
    · show T.heap.size + R'.cells ≤ e.platform.maxCells
      omega
    · show T.slotsUsed + R'.slots ≤ e.platform.maxSlots
      omega
  · rw [State.stackLimits_setFrames]; rfl
  · rw [State.stackBytes_setFrames]; rfl
  · refine ⟨?_, Nat.le_refl _, Nat.le_refl _, ?_, ?_, fun a c9 h9 => ⟨c9, h9, rfl, rfl, fun _ _ => rfl⟩⟩
    · obtain ⟨t, ht, -⟩ := State.frames_cons hr
      show T.setVm s.vm = { ((T.setVm s.vm).setFrames (.invoking m args :: below)).setFrames (T.setVm s.vm).frames with heap := T.heap, slotsUsed := T.slotsUsed }
      rw [State.setFrames_setFrames, State.setFrames_self ht]
      rfl
    · show T.slotsUsed = T.slotsUsed + ((T.heap.toList.drop T.heap.size).map (·.slots.size)).sum
      rw [List.drop_eq_nil_of_le (Nat.le_of_eq Array.length_toList)]
      rfl
    · show ((T.heap.toList.drop T.heap.size).map (·.slots.size)).sum ≤ 0
      rw [List.drop_eq_nil_of_le (Nat.le_of_eq Array.length_toList)]
      exact Nat.le_refl _
/-- 'throw new E()': new; dup; invokespecial; athrow -/
theorem vx_throw0 {cc : ByteArray} {pc : Nat} (hexec : p.tables.exec = Jvm.exec) (hb : c.code = cc) (hl : l.stackTraces = false) {own cls : String} {names : List String} {ik ic mc ms : Nat} {A : Nat → Prop}
    (hown : s.vm.findClass own = some m.cls) (hcls : Bundle.fit cls = true) (hnames : ∀ n ∈ names, Bundle.fit n = true)
    (hk : (Cond.classLink own ik cls).before args s = true) (hini : (Cond.initialized cls).before args s = true) (hat : ∀ w ∈ vx_at0 own ic cls names, w.before args s = true)
    (hgood : ∀ w ∈ Cond.classLink own ik cls :: Cond.initialized cls :: vx_at0 own ic cls names, vx_ot w = true)
    (hU : vx_Zq Bundle.tN "UNASSIGNED_STACK" Bundle.steD A s s.heap) (hN : vx_Zq Bundle.tN "SUPPRESSED_SENTINEL" Bundle.listD A s s.heap) (hS : va_S A s.heap H locs) (hsize : ls.size = c.maxLocals)
    (d0 : decode cc pc = .ok (.new ik, 3)) (d3 : decode cc (pc + 3) = .ok (.dup, 1)) (d4 : decode cc (pc + 4) = .ok (.invokespecial ic, 3)) (d7 : decode cc (pc + 7) = .ok (.athrow, 1))
    (hout : ∀ x ∈ c.exceptionTable.toList, covers x (pc + 7) = false)
    (hRframes : names.length + 3 < R.frames) (hRlocals : (rest.map fun v => v.category).sum + (13 * (names.length + 1) + 42) ≤ R.locals) (hRcells : cells + 1 ≤ R.cells) (hRslots : slots + 6 ≤ R.slots) (hlocks : meth.locks = false)
    (hx : ∀ t : State, s.vm.Alike t.vm → H.size ≤ t.heap.size → (∀ q : Nat, q < H.size → t.heap[q]? = H[q]?) → XC cls s t)
    (hf : ∀ z ∈ locs, free z.base) (hc : cells + 1 ≤ mc) (hs : slots + 6 ≤ ms) :
    W p l e R s m args below meth c H locs cells slots (vx_MQ below Qc XC args s mc ms free) (F0 m pc ls rest) := by
  intro T hT X
  have htr : e.platform.stackTraces = false := (show e.platform.stackTraces = l.stackTraces by rw [X.admits.platform]).trans hl
  have Y := vx_rebase X (R' := { frames := R.frames, locals := R.locals, cells := 1, slots := 6 }) (Nat.le_refl _) (Nat.le_refl _) hRcells hRslots
  obtain ⟨s', hA⟩ : ∃ z, z = (T.setVm s.vm).setFrames (.invoking m args :: below) := ⟨_, rfl⟩
  rw [← hA] at Y
  have hvm : s'.vm = s.vm := by rw [hA]; rfl
  have hhp : s'.heap = H := by rw [hA]; exact hT
  have hW0 : s.WarmedH s'.vm := by rw [hvm]; exact State.WarmedH.refl s
  have hat' : ∀ w ∈ vx_at0 own ic cls names, w.before args s' = true := fun w hw => vx_ot_at hW0 hvm.symm (hgood w (List.mem_cons_of_mem _ (List.mem_cons_of_mem _ hw))) (hat w hw)
  have hk' : (Cond.classLink own ik cls).before args s' = true := vx_ot_at hW0 hvm.symm (hgood _ List.mem_cons_self) hk
  have hini' : (Cond.initialized cls).before args s' = true := vx_ot_at hW0 hvm.symm (hgood _ (List.mem_cons_of_mem _ List.mem_cons_self)) hini
  have hU' : vx_Zq Bundle.tN "UNASSIGNED_STACK" Bundle.steD A s' s'.heap := by rw [hhp]; exact vx_Zq.moved hW0.alike (hU.kept hS.2.1)
  have hN' : vx_Zq Bundle.tN "SUPPRESSED_SENTINEL" Bundle.listD A s' s'.heap := by rw [hhp]; exact vx_Zq.moved hW0.alike (hN.kept hS.2.1)
  have h : ∀ w ∈ Bundle.ownAtoms0 own ic cls names, w.before args s' = true := vx_own hat' (vx_isRefq hU'.1) (vx_isRefq hN'.1) hU'.2.word hN'.2.word
  have hown' : s'.vm.findClass own = some m.cls := by rw [hvm]; exact hown
  have hins : (Cond.instantiable cls 6).before args s' = true := h _ (by simp [Bundle.ownAtoms0])
  obtain ⟨vm₁, cX, kX, hfX, hkX, -, -, X₁, st1⟩ := Y.newCold hexec (own := own) (C := cls) (index := ik) (n := 6) hown' hk' hins hini'
    (g := F0 m pc ls rest) rfl (by rw [hb]; exact d0) (Nat.le_refl _) (Nat.le_refl _)
  generalize hT1 : (T.setVm vm₁).pushCell { cls := cX, slots := kX.instanceTypes.map defaultValue, vm := .none } = T1 at X₁ st1
  have hcat : (Value.ref T.heap.size).category = 1 := rfl
  have hcellA : T1.heap[T.heap.size]? = some (freshCell cX kX) := by rw [← hT1]; exact State.heap_pushCell_size _ _
  have d3' : decode c.code (pc + 3) = .ok (.dup, 1) := by rw [hb]; exact d3
  obtain ⟨U, hsteps, hrun, hend, hW, hsame, ce, hce, hO⟩ := X₁.ctorThrow0 hexec htr (own := own) (cls := cls) (names := names) (ic := ic) hown' hcls hnames h (fun x hx => nomatch hx) hfX hkX hcellA (by rw [hhp, hT]; exact Nat.le_refl _)
    (g := { method := m, pc := pc + 4, locals := ls, stack := .ref T.heap.size :: .ref T.heap.size :: rest, locked := none }) rfl hsize rfl rfl (rest := rest) rfl
    (by rw [hb]; exact d4) (by rw [hb]; exact d7) hout hRframes (by simp only [List.map_cons, List.sum_cons, hcat]; omega) hlocks
  obtain ⟨f1, f2⟩ := vx_frame hsame
  rw [hhp] at f1 f2
  have hWs : s.WarmedH U.vm := State.WarmedH.trans hW0 hW
  have hcl : s.vm.findClass cls = some ce.cls := by
    have h9 := hO.cls
    rw [hvm] at h9
    exact h9
  have hall : s.sameButNew ({ U with vm := s.vm } : State) locs mc ms := by
    subst hA
    obtain ⟨e1, e2⟩ := hsame
    rw [State.setFrames_setFrames] at e1
    have h2 : (T.setVm s.vm).sameButNew ({ U with vm := s.vm } : State) [] (0 + 1) (0 + 6) := ⟨e1, e2⟩
    have h3 := X.same.trans h2
    rw [List.append_nil] at h3
    exact h3.mono hc hs
  refine ⟨U, ?_, .threw T.heap.size, hrun, hend, Or.inr ⟨T.heap.size, rfl, cls, ce, locs, hx U hWs.alike f1 (fun q hq => f2 q hq (fun z hz => nomatch hz)), hce, hO.vm, hcl, hWs, hall, hf⟩⟩
  refine st1 _ ?_
  show Steps p.tables e below (T1.setTop { method := m, pc := pc + 3, locals := ls, stack := .ref T.heap.size :: rest, locked := none }) _
  jvm_step X₁.here [X₁.here.top, hexec, d3', Value.category]
  exact hsteps
/-- 'throw new E("text")': new; dup; ldc; invokespecial; athrow -/
theorem vx_throwS {cc : ByteArray} {pc : Nat} (hexec : p.tables.exec = Jvm.exec) (hb : c.code = cc) (hl : l.stackTraces = false) {own cls text : String} {names : List String} {ik is ic mc ms sa : Nat} {A : Nat → Prop}
    (hown : s.vm.findClass own = some m.cls) (hcls : Bundle.fit cls = true) (hnames : ∀ n ∈ names, Bundle.fit n = true)
    (hk : (Cond.classLink own ik cls).before args s = true) (hini : (Cond.initialized cls).before args s = true) (hstr : vk_R own is text sa s) (hat : ∀ w ∈ vx_atS own ic cls names, w.before args s = true)
    (hgood : ∀ w ∈ Cond.classLink own ik cls :: Cond.initialized cls :: vx_atS own ic cls names, vx_ot w = true)
    (hU : vx_Zq Bundle.tN "UNASSIGNED_STACK" Bundle.steD A s s.heap) (hN : vx_Zq Bundle.tN "SUPPRESSED_SENTINEL" Bundle.listD A s s.heap) (hS : va_S A s.heap H locs) (hsize : ls.size = c.maxLocals)
    (d0 : decode cc pc = .ok (.new ik, 3)) (d3 : decode cc (pc + 3) = .ok (.dup, 1)) (d4 : decode cc (pc + 4) = .ok (.ldc is, 2)) (d6 : decode cc (pc + 6) = .ok (.invokespecial ic, 3)) (d9 : decode cc (pc + 9) = .ok (.athrow, 1))
    (hout : ∀ x ∈ c.exceptionTable.toList, covers x (pc + 9) = false)
    (hRframes : names.length + 3 < R.frames) (hRlocals : (rest.map fun v => v.category).sum + (13 * (names.length + 1) + 43) ≤ R.locals) (hRcells : cells + 1 ≤ R.cells) (hRslots : slots + 6 ≤ R.slots) (hlocks : meth.locks = false)
    (hx : ∀ t : State, s.vm.Alike t.vm → H.size ≤ t.heap.size → (∀ q : Nat, q < H.size → t.heap[q]? = H[q]?) → XC cls s t)
    (hf : ∀ z ∈ locs, free z.base) (hc : cells + 1 ≤ mc) (hs : slots + 6 ≤ ms) :
    W p l e R s m args below meth c H locs cells slots (vx_MQ below Qc XC args s mc ms free) (F0 m pc ls rest) := by
  intro T hT X
  have htr : e.platform.stackTraces = false := (show e.platform.stackTraces = l.stackTraces by rw [X.admits.platform]).trans hl
  have Y := vx_rebase X (R' := { frames := R.frames, locals := R.locals, cells := 1, slots := 6 }) (Nat.le_refl _) (Nat.le_refl _) hRcells hRslots
  obtain ⟨s', hA⟩ : ∃ z, z = (T.setVm s.vm).setFrames (.invoking m args :: below) := ⟨_, rfl⟩
  rw [← hA] at Y
  have hvm : s'.vm = s.vm := by rw [hA]; rfl
  have hhp : s'.heap = H := by rw [hA]; exact hT
  have hW0 : s.WarmedH s'.vm := by rw [hvm]; exact State.WarmedH.refl s
  have hat' : ∀ w ∈ vx_atS own ic cls names, w.before args s' = true := fun w hw => vx_ot_at hW0 hvm.symm (hgood w (List.mem_cons_of_mem _ (List.mem_cons_of_mem _ hw))) (hat w hw)
  have hk' : (Cond.classLink own ik cls).before args s' = true := vx_ot_at hW0 hvm.symm (hgood _ List.mem_cons_self) hk
  have hini' : (Cond.initialized cls).before args s' = true := vx_ot_at hW0 hvm.symm (hgood _ (List.mem_cons_of_mem _ List.mem_cons_self)) hini
  have hU' : vx_Zq Bundle.tN "UNASSIGNED_STACK" Bundle.steD A s' s'.heap := by rw [hhp]; exact vx_Zq.moved hW0.alike (hU.kept hS.2.1)
  have hN' : vx_Zq Bundle.tN "SUPPRESSED_SENTINEL" Bundle.listD A s' s'.heap := by rw [hhp]; exact vx_Zq.moved hW0.alike (hN.kept hS.2.1)
  have h : ∀ w ∈ Bundle.ownAtoms own ic cls names, w.before args s' = true := vx_own hat' (vx_isRefq hU'.1) (vx_isRefq hN'.1) hU'.2.word hN'.2.word
  have hown' : s'.vm.findClass own = some m.cls := by rw [hvm]; exact hown
  have hins : (Cond.instantiable cls 6).before args s' = true := h _ (by simp [Bundle.ownAtoms])
  obtain ⟨vm₁, cX, kX, hfX, hkX, -, -, X₁, st1⟩ := Y.newCold hexec (own := own) (C := cls) (index := ik) (n := 6) hown' hk' hins hini'
    (g := F0 m pc ls rest) rfl (by rw [hb]; exact d0) (Nat.le_refl _) (Nat.le_refl _)
  generalize hT1 : (T.setVm vm₁).pushCell { cls := cX, slots := kX.instanceTypes.map defaultValue, vm := .none } = T1 at X₁ st1
  have hcat : (Value.ref T.heap.size).category = 1 := rfl
  have hcellA : T1.heap[T.heap.size]? = some (freshCell cX kX) := by rw [← hT1]; exact State.heap_pushCell_size _ _
  have d3' : decode c.code (pc + 3) = .ok (.dup, 1) := by rw [hb]; exact d3
  have d4' : decode c.code (pc + 4) = .ok (.ldc is, 2) := by rw [hb]; exact d4
  have hstr' : vk_R own is text sa s' := vk_R.warm hW0 hstr
  obtain ⟨U, hsteps, hrun, hend, hW, hsame, ce, hce, hO⟩ := X₁.ctorThrowS hexec htr (own := own) (cls := cls) (names := names) (ic := ic) hown' hcls hnames h (fun x hx => nomatch hx) hfX hkX hcellA (by rw [hhp, hT]; exact Nat.le_refl _) (msg := .ref sa) rfl
    (g := { method := m, pc := pc + 6, locals := ls, stack := .ref sa :: .ref T.heap.size :: .ref T.heap.size :: rest, locked := none }) rfl hsize rfl rfl (rest := rest) rfl
    (by rw [hb]; exact d6) (by rw [hb]; exact d9) hout hRframes (by simp only [List.map_cons, List.sum_cons, hcat]; omega) hlocks
  obtain ⟨f1, f2⟩ := vx_frame hsame
  rw [hhp] at f1 f2
  have hWs : s.WarmedH U.vm := State.WarmedH.trans hW0 hW
  have hcl : s.vm.findClass cls = some ce.cls := by
    have h9 := hO.cls
    rw [hvm] at h9
    exact h9
  have hall : s.sameButNew ({ U with vm := s.vm } : State) locs mc ms := by
    subst hA
    obtain ⟨e1, e2⟩ := hsame
    rw [State.setFrames_setFrames] at e1
    have h2 : (T.setVm s.vm).sameButNew ({ U with vm := s.vm } : State) [] (0 + 1) (0 + 6) := ⟨e1, e2⟩
    have h3 := X.same.trans h2
    rw [List.append_nil] at h3
    exact h3.mono hc hs
  refine ⟨U, ?_, .threw T.heap.size, hrun, hend, Or.inr ⟨T.heap.size, rfl, cls, ce, locs, hx U hWs.alike f1 (fun q hq => f2 q hq (fun z hz => nomatch hz)), hce, hO.vm, hcl, hWs, hall, hf⟩⟩
  refine st1 _ ?_
  show Steps p.tables e below (T1.setTop { method := m, pc := pc + 3, locals := ls, stack := .ref T.heap.size :: rest, locked := none }) _
  jvm_step X₁.here [X₁.here.top, hexec, d3', Value.category]
  exact X₁.ldcString hexec (own := own) (text := text) (index := is) (a := sa) hown' hstr'.1 hstr'.2
    (g := { method := m, pc := pc + 4, locals := ls, stack := .ref T.heap.size :: .ref T.heap.size :: rest, locked := none }) rfl d4' _ hsteps
/-- 'throw new E("text")', the text by a wide index -/
theorem vx_throwSW {cc : ByteArray} {pc : Nat} (hexec : p.tables.exec = Jvm.exec) (hb : c.code = cc) (hl : l.stackTraces = false) {own cls text : String} {names : List String} {ik is ic mc ms sa : Nat} {A : Nat → Prop}
    (hown : s.vm.findClass own = some m.cls) (hcls : Bundle.fit cls = true) (hnames : ∀ n ∈ names, Bundle.fit n = true)
    (hk : (Cond.classLink own ik cls).before args s = true) (hini : (Cond.initialized cls).before args s = true) (hstr : vk_R own is text sa s) (hat : ∀ w ∈ vx_atS own ic cls names, w.before args s = true)
    (hgood : ∀ w ∈ Cond.classLink own ik cls :: Cond.initialized cls :: vx_atS own ic cls names, vx_ot w = true)
    (hU : vx_Zq Bundle.tN "UNASSIGNED_STACK" Bundle.steD A s s.heap) (hN : vx_Zq Bundle.tN "SUPPRESSED_SENTINEL" Bundle.listD A s s.heap) (hS : va_S A s.heap H locs) (hsize : ls.size = c.maxLocals)
    (d0 : decode cc pc = .ok (.new ik, 3)) (d3 : decode cc (pc + 3) = .ok (.dup, 1)) (d4 : decode cc (pc + 4) = .ok (.ldc_w is, 3)) (d7 : decode cc (pc + 7) = .ok (.invokespecial ic, 3)) (d10 : decode cc (pc + 10) = .ok (.athrow, 1))
    (hout : ∀ x ∈ c.exceptionTable.toList, covers x (pc + 10) = false)
    (hRframes : names.length + 3 < R.frames) (hRlocals : (rest.map fun v => v.category).sum + (13 * (names.length + 1) + 43) ≤ R.locals) (hRcells : cells + 1 ≤ R.cells) (hRslots : slots + 6 ≤ R.slots) (hlocks : meth.locks = false)
    (hx : ∀ t : State, s.vm.Alike t.vm → H.size ≤ t.heap.size → (∀ q : Nat, q < H.size → t.heap[q]? = H[q]?) → XC cls s t)
    (hf : ∀ z ∈ locs, free z.base) (hc : cells + 1 ≤ mc) (hs : slots + 6 ≤ ms) :
    W p l e R s m args below meth c H locs cells slots (vx_MQ below Qc XC args s mc ms free) (F0 m pc ls rest) := by
  intro T hT X
  have htr : e.platform.stackTraces = false := (show e.platform.stackTraces = l.stackTraces by rw [X.admits.platform]).trans hl
  have Y := vx_rebase X (R' := { frames := R.frames, locals := R.locals, cells := 1, slots := 6 }) (Nat.le_refl _) (Nat.le_refl _) hRcells hRslots
  obtain ⟨s', hA⟩ : ∃ z, z = (T.setVm s.vm).setFrames (.invoking m args :: below) := ⟨_, rfl⟩
  rw [← hA] at Y
  have hvm : s'.vm = s.vm := by rw [hA]; rfl
  have hhp : s'.heap = H := by rw [hA]; exact hT
  have hW0 : s.WarmedH s'.vm := by rw [hvm]; exact State.WarmedH.refl s
  have hat' : ∀ w ∈ vx_atS own ic cls names, w.before args s' = true := fun w hw => vx_ot_at hW0 hvm.symm (hgood w (List.mem_cons_of_mem _ (List.mem_cons_of_mem _ hw))) (hat w hw)
  have hk' : (Cond.classLink own ik cls).before args s' = true := vx_ot_at hW0 hvm.symm (hgood _ List.mem_cons_self) hk
  have hini' : (Cond.initialized cls).before args s' = true := vx_ot_at hW0 hvm.symm (hgood _ (List.mem_cons_of_mem _ List.mem_cons_self)) hini
  have hU' : vx_Zq Bundle.tN "UNASSIGNED_STACK" Bundle.steD A s' s'.heap := by rw [hhp]; exact vx_Zq.moved hW0.alike (hU.kept hS.2.1)
  have hN' : vx_Zq Bundle.tN "SUPPRESSED_SENTINEL" Bundle.listD A s' s'.heap := by rw [hhp]; exact vx_Zq.moved hW0.alike (hN.kept hS.2.1)
  have h : ∀ w ∈ Bundle.ownAtoms own ic cls names, w.before args s' = true := vx_own hat' (vx_isRefq hU'.1) (vx_isRefq hN'.1) hU'.2.word hN'.2.word
  have hown' : s'.vm.findClass own = some m.cls := by rw [hvm]; exact hown
  have hins : (Cond.instantiable cls 6).before args s' = true := h _ (by simp [Bundle.ownAtoms])
  obtain ⟨vm₁, cX, kX, hfX, hkX, -, -, X₁, st1⟩ := Y.newCold hexec (own := own) (C := cls) (index := ik) (n := 6) hown' hk' hins hini'
    (g := F0 m pc ls rest) rfl (by rw [hb]; exact d0) (Nat.le_refl _) (Nat.le_refl _)
  generalize hT1 : (T.setVm vm₁).pushCell { cls := cX, slots := kX.instanceTypes.map defaultValue, vm := .none } = T1 at X₁ st1
  have hcat : (Value.ref T.heap.size).category = 1 := rfl
  have hcellA : T1.heap[T.heap.size]? = some (freshCell cX kX) := by rw [← hT1]; exact State.heap_pushCell_size _ _
  have d3' : decode c.code (pc + 3) = .ok (.dup, 1) := by rw [hb]; exact d3
  have d4' : decode c.code (pc + 4) = .ok (.ldc_w is, 3) := by rw [hb]; exact d4
  have hstr' : vk_R own is text sa s' := vk_R.warm hW0 hstr
  obtain ⟨U, hsteps, hrun, hend, hW, hsame, ce, hce, hO⟩ := X₁.ctorThrowS hexec htr (own := own) (cls := cls) (names := names) (ic := ic) hown' hcls hnames h (fun x hx => nomatch hx) hfX hkX hcellA (by rw [hhp, hT]; exact Nat.le_refl _) (msg := .ref sa) rfl
    (g := { method := m, pc := pc + 7, locals := ls, stack := .ref sa :: .ref T.heap.size :: .ref T.heap.size :: rest, locked := none }) rfl hsize rfl rfl (rest := rest) rfl
    (by rw [hb]; exact d7) (by rw [hb]; exact d10) hout hRframes (by simp only [List.map_cons, List.sum_cons, hcat]; omega) hlocks
  obtain ⟨f1, f2⟩ := vx_frame hsame
  rw [hhp] at f1 f2
  have hWs : s.WarmedH U.vm := State.WarmedH.trans hW0 hW
  have hcl : s.vm.findClass cls = some ce.cls := by
    have h9 := hO.cls
    rw [hvm] at h9
    exact h9
  have hall : s.sameButNew ({ U with vm := s.vm } : State) locs mc ms := by
    subst hA
    obtain ⟨e1, e2⟩ := hsame
    rw [State.setFrames_setFrames] at e1
    have h2 : (T.setVm s.vm).sameButNew ({ U with vm := s.vm } : State) [] (0 + 1) (0 + 6) := ⟨e1, e2⟩
    have h3 := X.same.trans h2
    rw [List.append_nil] at h3
    exact h3.mono hc hs
  refine ⟨U, ?_, .threw T.heap.size, hrun, hend, Or.inr ⟨T.heap.size, rfl, cls, ce, locs, hx U hWs.alike f1 (fun q hq => f2 q hq (fun z hz => nomatch hz)), hce, hO.vm, hcl, hWs, hall, hf⟩⟩
  refine st1 _ ?_
  show Steps p.tables e below (T1.setTop { method := m, pc := pc + 3, locals := ls, stack := .ref T.heap.size :: rest, locked := none }) _
  jvm_step X₁.here [X₁.here.top, hexec, d3', Value.category]
  exact X₁.ldcStringW hexec (own := own) (text := text) (index := is) (a := sa) hown' hstr'.1 hstr'.2
    (g := { method := m, pc := pc + 4, locals := ls, stack := .ref T.heap.size :: .ref T.heap.size :: rest, locked := none }) rfl d4' _ hsteps
end Ends
section Bodies
variable {l : Launch}
theorem vx_ofW {y : MethodName} {ws ws' : List Cond} {rm : Room} {Pc : Array Value → State → Prop} {Qc : Array Value → State → Outcome → State → Prop} {XC : String → State → State → Prop} {mc ms : Nat} {free : Addr → Prop} {cc : ByteArray} {maxL : Nat} {ret : Option FieldType}
    (hy : plainName y.cls = true) (hw : ws = Cond.code y cc maxL ret :: ws')
    (body : ∀ p e s m args below meth c s₁, BodyLoose p l y (headSpec ws rm) cc maxL ret e s m args below meth c s₁ → c.maxLocals = maxL → (∀ x ∈ c.exceptionTable.toList, False) → Pc args s →
      W p l e (headSpec ws rm).room s m args below meth c s.heap [] 0 0 (vx_MQ below Qc XC args s mc ms free) (entryFrame m args maxL)) : vx_Met l y ws rm Pc Qc XC mc ms free := by
  refine MetFree.of_bodyS (code := cc) (maxLocals := maxL) (ret := ret) hy ?_ ?_
  · intro args s m h hn
    obtain ⟨meth, c, h1, h2, h3, h4, h5, h6, -, -⟩ := Cond.code_spec hn (atoms_spec (ws := ws) h _ (by rw [hw]; exact List.mem_cons_self))
    exact ⟨meth, c, h1, h2, h3, h4, h5, h6⟩
  · intro p e s m args below meth c s₁ B hml hP _
    have hh0 : s₁.heap = s.heap := by rw [B.state]; rfl
    have ht : ∀ x ∈ c.exceptionTable.toList, False := by
      obtain ⟨meth9, c9, h1, h2, -, -, -, -, h7, -⟩ := Cond.code_spec B.named (atoms_spec (ws := ws) B.pre _ (by rw [hw]; exact List.mem_cons_self))
      cases Option.some.inj (h1.symm.trans B.method)
      cases Option.some.inj (h2.symm.trans (Stand.of_body B).code)
      intro x hx
      rw [Array.isEmpty_iff.mp h7] at hx
      cases hx
    obtain ⟨t, a1, o, b1, b2, b3⟩ := body p e s m args below meth c s₁ B hml ht hP s₁ hh0 (Stand.of_body B)
    exact ⟨t, o, a1, b1, b2, b3⟩
/-- the table of a body with handlers -/
theorem vx_table {p : Program} {x y : MethodName} {S : Spec} {cc bytes : ByteArray} {maxL maxL' : Nat} {ret ret' : Option FieldType} {e : Env} {s s₁ : State} {m : MethodId} {args : Array Value} {below : List Frame} {meth : Method} {c : Code} {hh : List (Nat × Nat × Nat × Nat)}
    (B : BodyLoose p l y S cc maxL ret e s m args below meth c s₁) (h : (Cond.codeWith y bytes maxL' ret' hh).before args s = true) : c.exceptionTable.toList = tableOf hh := by
  obtain ⟨m9, meth9, c9, hn9, h1, h2, -, -, h6, -⟩ := Cond.codeWith_spec h
  cases Option.some.inj (hn9.symm.trans B.named)
  cases Option.some.inj (h1.symm.trans B.method)
  cases Option.some.inj (h2.symm.trans (Stand.of_body B).code)
  rw [← h6, table_eq]
end Bodies
end VXA
/-! ===== END ===== -/
/-! ===== BEGIN a static call of a method with an exception table ===== -/
section VXS
variable {p : Program} {l : Launch} {e : Env} {R : Room} {s : State} {m : MethodId} {args : Array Value} {below : List Frame} {meth : Method} {c : Code} {T : State} {H : Heap} {locs : List Loc} {cells slots : Nat}
abbrev vx_CSW (R : Room) (s : State) (args : Array Value) (own : String) (index : Nat) (y : MethodName) (bytes : ByteArray) (maxL : Nat) (ret : Option FieldType) (hh : List (Nat × Nat × Nat × Nat)) (ws : List Cond) (rm : Room) (mc ms n : Nat) : Prop :=
  (rm.cells = mc ∧ rm.slots = ms ∧ rm.frames + 1 ≤ R.frames ∧ 8 + (maxL + 11) + rm.locals ≤ R.locals ∧ (∀ w ∈ ws, ∀ (a' : Array Value) (U : State), s.WarmedH U.vm → w.before a' U = true) ∧ Cond.codeWith y bytes maxL ret hh ∈ ws) ∧
  (Cond.codeWith y bytes maxL ret hh).before args s = true ∧ (Cond.initialized y.cls).before args s = true ∧ (y.cls ≠ "java/lang/invoke/MethodHandle" ∧ y.cls ≠ "java/lang/invoke/VarHandle") ∧
  (∀ sig, parseMethodDescriptor y.desc = some sig → n = sig.parameters.length) ∧ (Cond.methodLink own index y).before args s = true ∧ (Cond.static y).before args s = true
theorem vx_cwSW {own : String} {index maxL mc ms : Nat} {y : MethodName} {bytes : ByteArray} {ret : Option FieldType} {hh : List (Nat × Nat × Nat × Nat)} {Ts ws ws' : List Cond} {rm : Room} (n : Nat) (ht : ∀ w ∈ Ts, w.before args s = true) (hT : GoodIn Ts (va_wsS own index y ws)) (hw : ws = Cond.codeWith y bytes maxL ret hh :: ws') (hrc : rm.cells = mc) (hrs : rm.slots = ms)
    (hd : y.cls ≠ "java/lang/invoke/MethodHandle" ∧ y.cls ≠ "java/lang/invoke/VarHandle" ∧ (parseMethodDescriptor y.desc).map (fun d => d.parameters.length) = some n) (hR : rm.frames + 1 ≤ R.frames ∧ 8 + (maxL + 11) + rm.locals ≤ R.locals) :
    vx_CSW R s args own index y bytes maxL ret hh ws rm mc ms n := by
  have ok : ∀ w ∈ va_wsS own index y ws, w.before args s = true := fun w h => ht w (hT w h).1
  have hG : GoodIn Ts ws := fun w h => hT w (by unfold va_wsS; exact List.mem_append_right _ h)
  have hc : Cond.codeWith y bytes maxL ret hh ∈ ws := by rw [hw]; exact List.mem_cons_self
  refine ⟨⟨hrc, hrs, hR.1, hR.2, pay_in ht hG, hc⟩, ht _ (hG _ hc).1, ok _ (by simp [va_wsS]), ⟨hd.1, hd.2.1⟩, fun sig h => ?_, ok _ (by simp [va_wsS]), ok _ (by simp [va_wsS])⟩
  have h2 := hd.2.2
  rw [h] at h2
  exact (Option.some.inj h2).symm
theorem vx_callSW (X : Stand p l e R s m args below meth c T locs cells slots) (hexec : p.tables.exec = Jvm.exec) {own : String} {index : Nat} {y : MethodName} {bytes : ByteArray} {maxL : Nat} {ret : Option FieldType} {hh : List (Nat × Nat × Nat × Nat)}
    (hown : s.vm.findClass own = some m.cls) (hlink : (Cond.methodLink own index y).before args s = true) (hstat : (Cond.static y).before args s = true) (hinit : (Cond.initialized y.cls).before args s = true)
    (hcode : (Cond.codeWith y bytes maxL ret hh).before args s = true) (hy : y.cls ≠ "java/lang/invoke/MethodHandle" ∧ y.cls ≠ "java/lang/invoke/VarHandle")
    {W9 : Nat} {Pre : Pt → Array Value → Prop} {Post : Pt → Array Value → Option Value → Pt → Prop} (hK : Back l R p e below s args y 3 W9 Pre Post)
    {g : JFrame} (hg : g.method = m) (hsize : g.locals.size = c.maxLocals) {argsL rest : List Value} (hlen : ∀ sig, parseMethodDescriptor y.desc = some sig → argsL.length = sig.parameters.length)
    (hstack : g.stack = argsL.reverse ++ rest) (hW : 2 * g.monitorRoom + (rest.map fun v => v.category).sum ≤ W9) (hdg : decode c.code g.pc = .ok (.invokestatic index, 3))
    (hpre : ∀ vm₁, s.WarmedH vm₁ → Pre ⟨T.setVm vm₁, locs, cells, slots⟩ argsL.toArray) :
    ∃ (v : Option Value) (vm₁ : Vm) (B : Pt), s.WarmedH vm₁ ∧ Stand p l e R s m args below meth c B.U B.locs B.cells B.slots ∧ Post ⟨T.setVm vm₁, locs, cells, slots⟩ argsL.toArray v B ∧
      ∀ target, Steps p.tables e below (B.U.setTop { g with pc := g.pc + 3, stack := v.toList ++ rest }) target → Steps p.tables e below (T.setTop g) target := by
  obtain ⟨mk, methM, cM, hnamed, hmethM, -, -, -, -, -, -, hsigM⟩ := Cond.codeWith_spec hcode
  have hstatic : methM.isStatic = true := Cond.static_spec hnamed hmethM hstat
  obtain ⟨kP, hkP, -⟩ := className_of_methodNamed hnamed
  have hinitP : kP.init = .initialized := Cond.initialized_spec (findClass_of_methodNamed hnamed) hkP hinit
  obtain ⟨vm₁, X₁, hstep₁⟩ := X.invokestatic hexec hown hlink hnamed hmethM hstatic hkP hinitP hy (g := g) hg (argsL := argsL) (rest := rest) (hlen _ hsigM) hstack hdg
  obtain ⟨v, B, X', hpost, hsteps⟩ := hK m meth c ⟨T.setVm vm₁, locs, cells, slots⟩ { g with stack := rest } (.invokestatic index) mk argsL.toArray X₁ hg hsize hdg hW (X₁.named hnamed) (hpre vm₁ X₁.warmed)
  exact ⟨v, vm₁, B, X₁.warmed, X', hpost, fun target h => hstep₁ _ fun acts => by rw [doInvoke_state]; exact hsteps.trans h⟩
theorem vx_runSW {y : MethodName} {bytes cc : ByteArray} {maxL nL mc ms n index : Nat} {ret : Option FieldType} {hh : List (Nat × Nat × Nat × Nat)} {ws : List Cond} {rm : Room} {Pc : Array Value → State → Prop} {Qc : Array Value → State → Outcome → State → Prop} {free : Addr → Prop} {Ts : List Cond} {own : String} {As rest : List Value} {g : JFrame}
    (S : CallFix p m c cc nL s args Ts own) (hM : Met l y ws rm Pc Qc mc ms free) (cw : vx_CSW R s args own index y bytes maxL ret hh ws rm mc ms n) (hp : PreS s H Pc As)
    (hg : g.method = m) (hn : As.length = n) (hsize : g.locals.size = nL) (hstack : g.stack = As.reverse ++ rest) (hW : 2 * g.monitorRoom + (rest.map fun v => v.category).sum ≤ 8) (hdg : decode cc g.pc = .ok (.invokestatic index, 3)) (hf : cells + mc ≤ R.cells ∧ slots + ms ≤ R.slots) :
    va_Run p l e R s m args below meth c H locs cells slots mc ms g rest (Qc As.toArray) (free) := by
  obtain ⟨⟨hrc, hrs, hfr, hlo, hws, hcw⟩, hcode, hini, hy, hlen, hl, hstt⟩ := cw
  have hK : Back l R p e below s args y 3 8 (PreOf R mc ms Pc) (PostOf Qc mc ms free) := va_backW (hh := hh) (bytes := bytes) (maxL := maxL) (ret := ret) hM hp.1 hrc hrs hfr hlo hws hcw (fun a' U hW => word_at hW (Or.inl (by first | rfl | simp [Cond.onTables, Cond.keeps, Cond.steady])) hini)
  obtain ⟨hx, hb, hml, ho, -⟩ := S
  intro T hT X
  obtain ⟨v, vm₁, ⟨U', l2, c2, s2⟩, hW₁, X', ⟨g', mk, t, L, e1, e2, hq, h1, hL, h2, h3⟩, st⟩ := vx_callSW X hx (hh := hh) (bytes := bytes) (maxL := maxL) (ret := ret) ho hl hstt hini hcode hy hK hg (hsize.trans hml.symm) (argsL := As) (rest := rest) (fun sig h => hn.trans (hlen sig h)) hstack hW (by rw [hb]; exact hdg)
    (fun vm₁ hW₁ => ⟨hf.1, hf.2, hp.2 (T.setVm vm₁) hT hW₁⟩)
  dsimp only [Pt.U, Pt.locs, Pt.cells, Pt.slots] at X' e1 e2 h1 h2 h3 st
  subst h1; subst h2; subst h3
  exact ⟨v, (T.setVm vm₁).calling g' mk As.toArray, t, U', L, hT, X', hL, e1, e2, hq, st⟩
/-- not caught here, past rows that name other classes: it goes on to the caller -/
theorem vx_outP {p : Program} {l : Launch} {e : Env} {R : Room} {s : State} {m : MethodId} {args : Array Value} {below : List Frame} {meth : Method} {c : Code} {H : Heap} {locs : List Loc} {cells slots : Nat} {free : Addr → Prop} {ls : Array Slot} {rest : List Value} {Qc : Array Value → State → Outcome → State → Prop} {XC : String → State → State → Prop}
    {pc : Nat} {own E : String} {ce : Cell} {q : Addr} {mc ms : Nat} (hown : s.vm.findClass own = some m.cls) (hlocks : meth.locks = false)
    (hpass : ∀ z ∈ c.exceptionTable.toList, covers z pc = false ∨ (z.catchType ≠ 0 ∧ ∃ nm : String, (Cond.classLink own z.catchType nm).before args s = true ∧ va_Nc E nm s)) (hcell : H[q]? = some ce) (hv : ce.vm = .none) (hcl : s.vm.findClass E = some ce.cls)
    (hx : ∀ t : State, t.heap = H → s.vm.Alike t.vm → XC E s t) (hf : ∀ z ∈ locs, free z.base) (hc : cells ≤ mc) (hs : slots ≤ ms) :
    vx_W p l e R s m args below meth c H locs cells slots (vx_MQ below Qc XC args s mc ms free) (F0 m pc ls rest) q := by
  intro T hT X
  have hpl : e.platform.magicAccessors = ({} : Platform).magicAccessors := by rw [X.admits.platform]
  obtain ⟨vm', hW', X', st⟩ := X.outThrough hlocks q (g := F0 m pc ls rest) rfl rfl rfl (cell := ce) (by rw [hT]; exact hcell) (by rw [hv]; rfl)
    (by obtain ⟨k9, h9, -⟩ := Vm.findClass_spec hcl; exact ⟨k9, h9⟩) (fun z hz => by
      rcases hpass z hz with h | ⟨hz0, nm, hl1, hn1⟩
      · exact Or.inl h
      · obtain ⟨c6, hc6, hcl6⟩ := Cond.classLink_spec hown hl1 e.platform hpl
        obtain ⟨a8, b8, h1, h2, h3⟩ := hn1
        cases Option.some.inj (h1.symm.trans hcl)
        cases Option.some.inj (h2.symm.trans hc6)
        exact Or.inr ⟨hz0, _, hcl6, h3⟩)
  obtain ⟨g₀, hfr⟩ := X'.frames_eq
  have hcell9 : ((T.setVm vm').setFrames (.throwing q :: below)).heap[q]? = some ce := by
    show T.heap[q]? = some ce
    rw [hT]; exact hcell
  have hend : Ended ((T.setVm vm').setFrames (.throwing q :: below)) below (.threw q) := State.frames_setFrames _ (State.cur_lt_of_frames hfr)
  refine ⟨(T.setVm vm').setFrames (.throwing q :: below), ?_, .threw q, X'.here.running, hend, Or.inr ⟨q, rfl, E, ce, locs, hx _ hT (X'.ends _).1.alike, hcell9, hv, hcl, (X'.ends _).1, (X'.ends _).2.mono hc hs, hf⟩⟩
  rw [X.pushThrowing_eq]
  exact st
/-- a thing of a world lies in the heap -/
theorem vx_lt {D : va_G} {cl : List vw_C} {ws : va_W} {H1 : Heap} (h : va_P D cl ws H1) {k : Nat} {q : Nat × va_E} (hk : ws[k]? = some q) : q.1 < H1.size := (h k q hk).lt
end VXS
/-! ===== END ===== -/
/-! ===== BEGIN methods with a table of their own: called by a name, returning or throwing ===== -/
section VXH
/-! vx_backW, vx_callVX, vx_callSX, vx_callVW, vx_runVW, vx_runVX, vx_runSX, vx_ofWH follow the same proofs as their sisters above (Free/Laws.lean, Shelf42/LK1.lean); vx_outP calls Shelf42/NT130.lean (outThrough). -/
section
variable {l : Launch} {R : Room} {p : Program} {e : Env} {below : List Frame} {s : State} {sargs : Array Value} {y : MethodName} {len W9 : Nat}
theorem vx_backW {ws : List Cond} {rm : Room} {Pc : Array Value → State → Prop} {Qc : Array Value → State → Outcome → State → Prop} {XC : String → State → State → Prop} {mc ms : Nat} {free : Addr → Prop} {bytes : ByteArray} {maxL : Nat} {ret : Option FieldType} {hh : List (Nat × Nat × Nat × Nat)}
    (hM : vx_Met l y ws rm Pc Qc XC mc ms free) (hblind : FrameBlind Pc) (hrc : rm.cells = mc) (hrs : rm.slots = ms)
    (hframes : rm.frames + 1 ≤ R.frames) (hlocals : W9 + (maxL + 11) + rm.locals ≤ R.locals)
    (hws : ∀ w ∈ ws, ∀ a' U, s.WarmedH U.vm → w.before a' U = true) (hcode : Cond.codeWith y bytes maxL ret hh ∈ ws) (hinit : ∀ a' U, s.WarmedH U.vm → (Cond.initialized y.cls).before a' U = true) :
    vx_Back l R p e below s sargs y len W9 (PreOf R mc ms Pc) (PostOf Qc mc ms free) (vx_Post XC mc ms free) := by
  intro m meth c A g ig mk a X hg hsize hdg hW hn hp
  have h1 : (headSpec ws rm).pre.before a A.U = true := atoms_intro fun w hw => hws w hw _ _ X.warmed
  have h2 : (Cond.codeWith y bytes maxL ret hh).before a A.U = true := hws _ hcode _ _ X.warmed
  have h3 : (Cond.initialized y.cls).before a A.U = true := hinit _ _ X.warmed
  have h4 : A.cells + (headSpec ws rm).room.cells ≤ R.cells := by rw [show (headSpec ws rm).room.cells = mc from hrc]; exact hp.1
  have h5 : A.slots + (headSpec ws rm).room.slots ≤ R.slots := by rw [show (headSpec ws rm).room.slots = ms from hrs]; exact hp.2.1
  have hPc : Pc a (A.U.calling g mk a) := hblind _ _ _ _ hp.2.2
  obtain ⟨U, Ls, c0, s0⟩ := A
  dsimp only [Pt.U, Pt.locs, Pt.cells, Pt.slots] at h1 h2 h3 h4 h5 X hn hPc ⊢
  obtain ⟨m9, methY, cY, hn9, hmY, hcY, -, hlY, -⟩ := Cond.codeWith_spec h2
  cases Option.some.inj (hn9.symm.trans hn)
  obtain ⟨kY, hkY, -⟩ := className_of_methodNamed hn
  have hinitY : kY.init = .initialized := Cond.initialized_spec (findClass_of_methodNamed hn) hkY h3
  have h : At U g.method c below := by rw [hg]; exact X.here
  have hlocals9 : W9 + (maxL + 11) + (headSpec ws rm).room.locals ≤ R.locals := hlocals
  have happ : (headSpec ws rm).appliesLoose y e.platform (U.calling g mk a) = true :=
    Spec.appliesLoose_calling (g := g) h hdg hn hkY hinitY
      (X.room_calling (g := g) (R' := (headSpec ws rm).room) hsize hmY hcY hframes (by rw [hlY]; omega) h4 h5) h1
  obtain ⟨mid, hmid⟩ := h.above
  have hfr : (U.setTop g).frames = (.java g :: mid) ++ below := by rw [State.frames_setTop' g h.top, hmid]; rfl
  obtain ⟨o, s₂, hsteps, -, hend, hq⟩ := Steps.callFree hM p X.admits X.cas X.clock (acts := []) hfr happ hPc trivial
  have hq' : vx_Q Qc XC mc ms free a (U.calling g mk a) o s₂ := hq
  rw [State.frames_setTop' g h.top] at hend
  obtain ⟨g₀, hg0⟩ := Option.isSome_iff_exists.mp h.top
  obtain ⟨r, hr⟩ := State.topJava?_eq_some.mp hg0
  have hr' : (({ U with heap := s₂.heap, slotsUsed := s₂.slotsUsed } : State).setVm s₂.vm).frames = .java g₀ :: r := hr
  rcases hq' with ⟨hqc, L, hfe, hL⟩ | ⟨q, rfl, E, ce, L, hx, hce, hcv, hcl, hW₂, hsm, hL⟩
  · obtain ⟨⟨v, rfl⟩, hW₂, e2, q2, q3, q4, q5, q6⟩ := id hfe
    have e3 : s₂ = ({ (U.calling g mk a).setFrames s₂.frames with heap := s₂.heap, slotsUsed := s₂.slotsUsed } : State).setVm s₂.vm := by
      have : s₂ = ({ s₂ with vm := (U.calling g mk a).vm } : State).setVm s₂.vm := rfl
      rw [e2] at this
      exact this
    obtain ⟨c₂, i₂, len₂, hc₂, hd₂, hf₂⟩ := hend
    have hW' : U.WarmedH s₂.vm := hW₂
    have hcc : c₂ = c := by
      have h1 : s₂.code? g.method = U.code? g.method := by
        rw [State.code?_eq, State.code?_eq, hW'.alike.method?]
      exact Option.some.inj (hc₂.symm.trans (h1.trans h.code))
    subst hcc
    have hlen : len₂ = len := by rw [hdg] at hd₂; cases hd₂; rfl
    subst hlen
    have hs₂ : s₂ = (({ U with heap := s₂.heap, slotsUsed := s₂.slotsUsed } : State).setVm s₂.vm).setTop { g with pc := g.pc + len₂, stack := v.toList ++ g.stack } := by
      refine e3.trans ?_
      rw [hf₂, State.calling_eq h.top, State.setFrames_setFrames, State.setTop_of_frames _ hr', hr]
      rfl
    have hsame : U.sameButNew ({ U with heap := s₂.heap, slotsUsed := s₂.slotsUsed } : State) L mc ms := by
      refine ⟨?_, q2, q3, q4, q5, q6⟩
      obtain ⟨t, ht, -⟩ := State.frames_cons hr
      show ({ U with heap := s₂.heap, slotsUsed := s₂.slotsUsed } : State) = { U.setFrames U.frames with heap := s₂.heap, slotsUsed := s₂.slotsUsed }
      rw [State.setFrames_self ht]
    subst hg
    refine Or.inl ⟨v, ⟨(({ U with heap := s₂.heap, slotsUsed := s₂.slotsUsed } : State).setVm s₂.vm), Ls ++ L, c0 + mc, s0 + ms⟩,
      ⟨X.admits, X.cas, X.clock, X.frames, X.room, X.hears, X.method, X.code, (X.here.setHeapUsed s₂.heap s₂.slotsUsed).setVm hW'.alike, X.tail, State.WarmedH.trans X.warmed hW', X.limits, X.bytes, X.same.trans (hsame.setVm s.vm)⟩,
      ⟨g, mk, s₂, L, rfl, rfl, hqc, rfl, hL, rfl, rfl⟩, ?_⟩
    show Steps p.tables e below _ ((({ U with heap := s₂.heap, slotsUsed := s₂.slotsUsed } : State).setVm s₂.vm).setTop { g with pc := g.pc + len₂, stack := v.toList ++ g.stack })
    rw [← hs₂]
    exact hsteps
  · obtain ⟨e2, q2, q3, q4, q5, q6⟩ := id hsm
    have e3 : s₂ = ({ (U.calling g mk a).setFrames s₂.frames with heap := s₂.heap, slotsUsed := s₂.slotsUsed } : State).setVm s₂.vm := by
      have : s₂ = ({ s₂ with vm := (U.calling g mk a).vm } : State).setVm s₂.vm := rfl
      rw [e2] at this
      exact this
    have hf₂ : s₂.frames = .throwing q :: .java g :: U.frames.tail := hend
    have hW' : U.WarmedH s₂.vm := hW₂
    have hs₂ : s₂ = ((({ U with heap := s₂.heap, slotsUsed := s₂.slotsUsed } : State).setVm s₂.vm).setTop g).pushFrame (.throwing q) := by
      refine e3.trans ?_
      rw [hf₂, State.calling_eq h.top, State.setFrames_setFrames, State.pushFrame, State.frames_setTop _ hr', State.setTop_of_frames _ hr', State.setFrames_setFrames, hr]
      rfl
    have hsame : U.sameButNew ({ U with heap := s₂.heap, slotsUsed := s₂.slotsUsed } : State) L mc ms := by
      refine ⟨?_, q2, q3, q4, q5, q6⟩
      obtain ⟨t, ht, -⟩ := State.frames_cons hr
      show ({ U with heap := s₂.heap, slotsUsed := s₂.slotsUsed } : State) = { U.setFrames U.frames with heap := s₂.heap, slotsUsed := s₂.slotsUsed }
      rw [State.setFrames_self ht]
    subst hg
    refine Or.inr ⟨q, ⟨(({ U with heap := s₂.heap, slotsUsed := s₂.slotsUsed } : State).setVm s₂.vm), Ls ++ L, c0 + mc, s0 + ms⟩,
      ⟨X.admits, X.cas, X.clock, X.frames, X.room, X.hears, X.method, X.code, (X.here.setHeapUsed s₂.heap s₂.slotsUsed).setVm hW'.alike, X.tail, State.WarmedH.trans X.warmed hW', X.limits, X.bytes, X.same.trans (hsame.setVm s.vm)⟩,
      ⟨g, mk, s₂, L, E, ce, rfl, rfl, hx, hce, hcv, hcl, rfl, hL, rfl, rfl⟩, ?_⟩
    show Steps p.tables e below _ (((({ U with heap := s₂.heap, slotsUsed := s₂.slotsUsed } : State).setVm s₂.vm).setTop g).pushFrame (.throwing q))
    rw [← hs₂]
    exact hsteps
end
variable {p : Program} {l : Launch} {e : Env} {R : Room} {s : State} {m : MethodId} {args : Array Value} {below : List Frame} {meth : Method} {c : Code} {T : State} {H : Heap} {locs : List Loc} {cells slots : Nat}
theorem vx_callVX (X : Stand p l e R s m args below meth c T locs cells slots) (hexec : p.tables.exec = Jvm.exec) {own C : String} {index : Nat} {y : MethodName} {bytes : ByteArray} {maxL : Nat} {ret : Option FieldType} {hh : List (Nat × Nat × Nat × Nat)}
    (hown : s.vm.findClass own = some m.cls) (hlink : (Cond.methodLink own index y).before args s = true) (hinst : (Cond.instanceMethod y).before args s = true) (hsel : (Cond.selects C y y).before args s = true)
    (hcode : (Cond.codeWith y bytes maxL ret hh).before args s = true) (hy : y.cls ≠ "java/lang/invoke/MethodHandle" ∧ y.cls ≠ "java/lang/invoke/VarHandle")
    {W9 : Nat} {Pre : Pt → Array Value → Prop} {Post : Pt → Array Value → Option Value → Pt → Prop} {PostX : Pt → Array Value → Addr → Pt → Prop} (hK : vx_Back l R p e below s args y 3 W9 Pre Post PostX)
    {b : Addr} {cellB : Cell} (hcell : T.heap[b]? = some cellB) (hobj : cellB.vm.isStatics = false) (hcls : s.vm.findClass C = some cellB.cls)
    {g : JFrame} (hg : g.method = m) (hsize : g.locals.size = c.maxLocals) {argsL rest : List Value} (hlen : ∀ sig, parseMethodDescriptor y.desc = some sig → argsL.length = sig.parameters.length)
    (hstack : g.stack = argsL.reverse ++ .ref b :: rest) (hW : 2 * g.monitorRoom + (rest.map fun v => v.category).sum ≤ W9) (hdg : decode c.code g.pc = .ok (.invokevirtual index, 3))
    (hpre : ∀ vm₁, s.WarmedH vm₁ → Pre ⟨T.setVm vm₁, locs, cells, slots⟩ (Value.ref b :: argsL).toArray) :
    (∃ (v : Option Value) (vm₁ : Vm) (B : Pt), s.WarmedH vm₁ ∧ Stand p l e R s m args below meth c B.U B.locs B.cells B.slots ∧ Post ⟨T.setVm vm₁, locs, cells, slots⟩ (Value.ref b :: argsL).toArray v B ∧
      ∀ target, Steps p.tables e below (B.U.setTop { g with pc := g.pc + 3, stack := v.toList ++ rest }) target → Steps p.tables e below (T.setTop g) target) ∨
    (∃ (q : Addr) (vm₁ : Vm) (B : Pt), s.WarmedH vm₁ ∧ Stand p l e R s m args below meth c B.U B.locs B.cells B.slots ∧ PostX ⟨T.setVm vm₁, locs, cells, slots⟩ (Value.ref b :: argsL).toArray q B ∧
      Steps p.tables e below (T.setTop g) ((B.U.setTop { g with stack := rest }).pushFrame (.throwing q))) := by
  obtain ⟨mk, methM, hnamed, hmethM, hstM, habM⟩ := Cond.instanceMethod_spec hinst
  obtain ⟨m8, methM', cM, hn8, hmethM', -, -, -, -, -, -, hsigM⟩ := Cond.codeWith_spec hcode
  cases Option.some.inj (hn8.symm.trans hnamed)
  cases hmethM.symm.trans hmethM'
  obtain ⟨c2, r2, m2, q1, q2, q3, q4, kP, hkP, hkPi⟩ := Cond.selects_spec hsel
  cases hcls.symm.trans q1
  cases (State.methodFound?_of_named hnamed hy).symm.trans q2
  cases hnamed.symm.trans q3
  have hselP : selectMethod e.platform s.vm cellB.cls mk = .method mk := by rw [Launch.admits_selectMethod X.admits]; exact q4
  obtain ⟨vm₁, X₁, hstep₁⟩ := X.invokevirtual hexec hown hlink hnamed hmethM hstM hkP hkPi hy (a := b) (cell := cellB) hcell
    (fun z h => by rw [h] at hobj; cases hobj) hselP hmethM habM hkP hkPi (g := g) hg (argsL := argsL) (rest := rest) (hlen _ hsigM) hstack hdg
  rcases hK m meth c ⟨T.setVm vm₁, locs, cells, slots⟩ { g with stack := rest } (.invokevirtual index) mk (Value.ref b :: argsL).toArray X₁ hg hsize hdg hW (X₁.named hnamed) (hpre vm₁ X₁.warmed) with ⟨v, B, X', hpost, hsteps⟩ | ⟨q, B, X', hpost, hsteps⟩
  · exact Or.inl ⟨v, vm₁, B, X₁.warmed, X', hpost, fun target h => hstep₁ _ fun acts => by rw [doInvoke_state]; exact hsteps.trans h⟩
  · exact Or.inr ⟨q, vm₁, B, X₁.warmed, X', hpost, hstep₁ _ fun acts => by rw [doInvoke_state]; exact hsteps⟩
theorem vx_callSX (X : Stand p l e R s m args below meth c T locs cells slots) (hexec : p.tables.exec = Jvm.exec) {own : String} {index : Nat} {y : MethodName} {bytes : ByteArray} {maxL : Nat} {ret : Option FieldType} {hh : List (Nat × Nat × Nat × Nat)}
    (hown : s.vm.findClass own = some m.cls) (hlink : (Cond.methodLink own index y).before args s = true) (hstat : (Cond.static y).before args s = true) (hinit : (Cond.initialized y.cls).before args s = true)
    (hcode : (Cond.codeWith y bytes maxL ret hh).before args s = true) (hy : y.cls ≠ "java/lang/invoke/MethodHandle" ∧ y.cls ≠ "java/lang/invoke/VarHandle")
    {W9 : Nat} {Pre : Pt → Array Value → Prop} {Post : Pt → Array Value → Option Value → Pt → Prop} {PostX : Pt → Array Value → Addr → Pt → Prop} (hK : vx_Back l R p e below s args y 3 W9 Pre Post PostX)
    {g : JFrame} (hg : g.method = m) (hsize : g.locals.size = c.maxLocals) {argsL rest : List Value} (hlen : ∀ sig, parseMethodDescriptor y.desc = some sig → argsL.length = sig.parameters.length)
    (hstack : g.stack = argsL.reverse ++ rest) (hW : 2 * g.monitorRoom + (rest.map fun v => v.category).sum ≤ W9) (hdg : decode c.code g.pc = .ok (.invokestatic index, 3))
    (hpre : ∀ vm₁, s.WarmedH vm₁ → Pre ⟨T.setVm vm₁, locs, cells, slots⟩ argsL.toArray) :
    (∃ (v : Option Value) (vm₁ : Vm) (B : Pt), s.WarmedH vm₁ ∧ Stand p l e R s m args below meth c B.U B.locs B.cells B.slots ∧ Post ⟨T.setVm vm₁, locs, cells, slots⟩ argsL.toArray v B ∧
      ∀ target, Steps p.tables e below (B.U.setTop { g with pc := g.pc + 3, stack := v.toList ++ rest }) target → Steps p.tables e below (T.setTop g) target) ∨
    (∃ (q : Addr) (vm₁ : Vm) (B : Pt), s.WarmedH vm₁ ∧ Stand p l e R s m args below meth c B.U B.locs B.cells B.slots ∧ PostX ⟨T.setVm vm₁, locs, cells, slots⟩ argsL.toArray q B ∧
      Steps p.tables e below (T.setTop g) ((B.U.setTop { g with stack := rest }).pushFrame (.throwing q))) := by
  obtain ⟨mk, methM, cM, hnamed, hmethM, -, -, -, -, -, -, hsigM⟩ := Cond.codeWith_spec hcode
  have hstatic : methM.isStatic = true := Cond.static_spec hnamed hmethM hstat
  obtain ⟨kP, hkP, -⟩ := className_of_methodNamed hnamed
  have hinitP : kP.init = .initialized := Cond.initialized_spec (findClass_of_methodNamed hnamed) hkP hinit
  obtain ⟨vm₁, X₁, hstep₁⟩ := X.invokestatic hexec hown hlink hnamed hmethM hstatic hkP hinitP hy (g := g) hg (argsL := argsL) (rest := rest) (hlen _ hsigM) hstack hdg
  rcases hK m meth c ⟨T.setVm vm₁, locs, cells, slots⟩ { g with stack := rest } (.invokestatic index) mk argsL.toArray X₁ hg hsize hdg hW (X₁.named hnamed) (hpre vm₁ X₁.warmed) with ⟨v, B, X', hpost, hsteps⟩ | ⟨q, B, X', hpost, hsteps⟩
  · exact Or.inl ⟨v, vm₁, B, X₁.warmed, X', hpost, fun target h => hstep₁ _ fun acts => by rw [doInvoke_state]; exact hsteps.trans h⟩
  · exact Or.inr ⟨q, vm₁, B, X₁.warmed, X', hpost, hstep₁ _ fun acts => by rw [doInvoke_state]; exact hsteps⟩
theorem vx_callVW (X : Stand p l e R s m args below meth c T locs cells slots) (hexec : p.tables.exec = Jvm.exec) {own C : String} {index : Nat} {y : MethodName} {bytes : ByteArray} {maxL : Nat} {ret : Option FieldType} {hh : List (Nat × Nat × Nat × Nat)}
    (hown : s.vm.findClass own = some m.cls) (hlink : (Cond.methodLink own index y).before args s = true) (hinst : (Cond.instanceMethod y).before args s = true) (hsel : (Cond.selects C y y).before args s = true)
    (hcode : (Cond.codeWith y bytes maxL ret hh).before args s = true) (hy : y.cls ≠ "java/lang/invoke/MethodHandle" ∧ y.cls ≠ "java/lang/invoke/VarHandle")
    {W9 : Nat} {Pre : Pt → Array Value → Prop} {Post : Pt → Array Value → Option Value → Pt → Prop} (hK : Back l R p e below s args y 3 W9 Pre Post)
    {b : Addr} {cellB : Cell} (hcell : T.heap[b]? = some cellB) (hobj : cellB.vm.isStatics = false) (hcls : s.vm.findClass C = some cellB.cls)
    {g : JFrame} (hg : g.method = m) (hsize : g.locals.size = c.maxLocals) {argsL rest : List Value} (hlen : ∀ sig, parseMethodDescriptor y.desc = some sig → argsL.length = sig.parameters.length)
    (hstack : g.stack = argsL.reverse ++ .ref b :: rest) (hW : 2 * g.monitorRoom + (rest.map fun v => v.category).sum ≤ W9) (hdg : decode c.code g.pc = .ok (.invokevirtual index, 3))
    (hpre : ∀ vm₁, s.WarmedH vm₁ → Pre ⟨T.setVm vm₁, locs, cells, slots⟩ (Value.ref b :: argsL).toArray) :
    ∃ (v : Option Value) (vm₁ : Vm) (B : Pt), s.WarmedH vm₁ ∧ Stand p l e R s m args below meth c B.U B.locs B.cells B.slots ∧ Post ⟨T.setVm vm₁, locs, cells, slots⟩ (Value.ref b :: argsL).toArray v B ∧
      ∀ target, Steps p.tables e below (B.U.setTop { g with pc := g.pc + 3, stack := v.toList ++ rest }) target → Steps p.tables e below (T.setTop g) target := by
  obtain ⟨mk, methM, hnamed, hmethM, hstM, habM⟩ := Cond.instanceMethod_spec hinst
  obtain ⟨m8, methM', cM, hn8, hmethM', -, -, -, -, -, -, hsigM⟩ := Cond.codeWith_spec hcode
  cases Option.some.inj (hn8.symm.trans hnamed)
  cases hmethM.symm.trans hmethM'
  obtain ⟨c2, r2, m2, q1, q2, q3, q4, kP, hkP, hkPi⟩ := Cond.selects_spec hsel
  cases hcls.symm.trans q1
  cases (State.methodFound?_of_named hnamed hy).symm.trans q2
  cases hnamed.symm.trans q3
  have hselP : selectMethod e.platform s.vm cellB.cls mk = .method mk := by rw [Launch.admits_selectMethod X.admits]; exact q4
  obtain ⟨vm₁, X₁, hstep₁⟩ := X.invokevirtual hexec hown hlink hnamed hmethM hstM hkP hkPi hy (a := b) (cell := cellB) hcell
    (fun z h => by rw [h] at hobj; cases hobj) hselP hmethM habM hkP hkPi (g := g) hg (argsL := argsL) (rest := rest) (hlen _ hsigM) hstack hdg
  obtain ⟨v, B, X', hpost, hsteps⟩ := hK m meth c ⟨T.setVm vm₁, locs, cells, slots⟩ { g with stack := rest } (.invokevirtual index) mk (Value.ref b :: argsL).toArray X₁ hg hsize hdg hW (X₁.named hnamed) (hpre vm₁ X₁.warmed)
  exact ⟨v, vm₁, B, X₁.warmed, X', hpost, fun target h => hstep₁ _ fun acts => by rw [doInvoke_state]; exact hsteps.trans h⟩
abbrev vx_CVW (R : Room) (s : State) (args : Array Value) (own C : String) (index : Nat) (y : MethodName) (bytes : ByteArray) (maxL : Nat) (ret : Option FieldType) (hh : List (Nat × Nat × Nat × Nat)) (ws : List Cond) (rm : Room) (mc ms n : Nat) : Prop :=
  (rm.cells = mc ∧ rm.slots = ms ∧ rm.frames + 1 ≤ R.frames ∧ 8 + (maxL + 11) + rm.locals ≤ R.locals ∧ (∀ w ∈ ws, ∀ (a' : Array Value) (U : State), s.WarmedH U.vm → w.before a' U = true) ∧ Cond.codeWith y bytes maxL ret hh ∈ ws) ∧
  (Cond.codeWith y bytes maxL ret hh).before args s = true ∧ (Cond.initialized y.cls).before args s = true ∧ (y.cls ≠ "java/lang/invoke/MethodHandle" ∧ y.cls ≠ "java/lang/invoke/VarHandle") ∧
  (∀ sig, parseMethodDescriptor y.desc = some sig → n = sig.parameters.length) ∧ (Cond.methodLink own index y).before args s = true ∧ (Cond.instanceMethod y).before args s = true ∧ (Cond.selects C y y).before args s = true
theorem vx_cwVW {own C : String} {index maxL mc ms : Nat} {y : MethodName} {bytes : ByteArray} {ret : Option FieldType} {hh : List (Nat × Nat × Nat × Nat)} {Ts ws ws' : List Cond} {rm : Room} (n : Nat) (ht : ∀ w ∈ Ts, w.before args s = true) (hT : GoodIn Ts (wsV own index C y ws)) (hw : ws = Cond.codeWith y bytes maxL ret hh :: ws') (hrc : rm.cells = mc) (hrs : rm.slots = ms)
    (hd : y.cls = C ∧ y.cls ≠ "java/lang/invoke/MethodHandle" ∧ y.cls ≠ "java/lang/invoke/VarHandle" ∧ (parseMethodDescriptor y.desc).map (fun d => d.parameters.length) = some n) (hR : rm.frames + 1 ≤ R.frames ∧ 8 + (maxL + 11) + rm.locals ≤ R.locals) :
    vx_CVW R s args own C index y bytes maxL ret hh ws rm mc ms n := by
  obtain ⟨hC, hd⟩ := hd
  subst hC
  have ok : ∀ w ∈ wsV own index y.cls y ws, w.before args s = true := fun w h => ht w (hT w h).1
  have hG : GoodIn Ts ws := fun w h => hT w (by unfold wsV; exact List.mem_append_right _ h)
  have hc : Cond.codeWith y bytes maxL ret hh ∈ ws := by rw [hw]; exact List.mem_cons_self
  refine ⟨⟨hrc, hrs, hR.1, hR.2, pay_in ht hG, hc⟩, ht _ (hG _ hc).1, ok _ (by simp [wsV]), ⟨hd.1, hd.2.1⟩, fun sig h => ?_, ok _ (by simp [wsV]), ok _ (by simp [wsV]), ok _ (by simp [wsV])⟩
  have h2 := hd.2.2
  rw [h] at h2
  exact (Option.some.inj h2).symm
theorem vx_runVW {y : MethodName} {bytes cc : ByteArray} {maxL nL mc ms n index : Nat} {ret : Option FieldType} {hh : List (Nat × Nat × Nat × Nat)} {ws : List Cond} {rm : Room} {Pc : Array Value → State → Prop} {Qc : Array Value → State → Outcome → State → Prop} {free : Addr → Prop} {Ts : List Cond} {own C : String} {b : Addr} {As rest : List Value} {g : JFrame}
    (S : CallFix p m c cc nL s args Ts own) (hM : Met l y ws rm Pc Qc mc ms free) (cw : vx_CVW R s args own C index y bytes maxL ret hh ws rm mc ms n) (hp : PreV s H C b Pc As)
    (hg : g.method = m) (hn : As.length = n) (hsize : g.locals.size = nL) (hstack : g.stack = As.reverse ++ .ref b :: rest) (hW : 2 * g.monitorRoom + (rest.map fun v => v.category).sum ≤ 8) (hdg : decode cc g.pc = .ok (.invokevirtual index, 3)) (hf : cells + mc ≤ R.cells ∧ slots + ms ≤ R.slots) :
    va_Run p l e R s m args below meth c H locs cells slots mc ms g rest (Qc (Value.ref b :: As).toArray) free := by
  obtain ⟨⟨hrc, hrs, hfr, hlo, hws, hcw⟩, hcode, hini, hy, hlen, hl, hin, hse⟩ := cw
  have hK : Back l R p e below s args y 3 8 (PreOf R mc ms Pc) (PostOf Qc mc ms free) := va_backW (hh := hh) (bytes := bytes) (maxL := maxL) (ret := ret) hM hp.1 hrc hrs hfr hlo hws hcw (fun a' U hW => word_at hW (Or.inl (by first | rfl | simp [Cond.onTables, Cond.keeps, Cond.steady])) hini)
  obtain ⟨hx, hb, hml, ho, -⟩ := S
  obtain ⟨-, ⟨cellB, hcB, hoB, hclB⟩, hPc⟩ := hp
  intro T hT X
  obtain ⟨v, vm₁, ⟨U', l2, c2, s2⟩, hW₁, X', ⟨g', mk, t, L, e1, e2, hq, h1, hL, h2, h3⟩, st⟩ := vx_callVW X hx (C := C) (hh := hh) (bytes := bytes) (maxL := maxL) (ret := ret) ho hl hin hse hcode hy hK (by rw [hT]; exact hcB) hoB hclB hg (hsize.trans hml.symm) (argsL := As) (rest := rest) (fun sig h => hn.trans (hlen sig h)) hstack hW (by rw [hb]; exact hdg)
    (fun vm₁ hW₁ => ⟨hf.1, hf.2, hPc (T.setVm vm₁) hT hW₁⟩)
  dsimp only [Pt.U, Pt.locs, Pt.cells, Pt.slots] at X' e1 e2 h1 h2 h3 st
  subst h1; subst h2; subst h3
  exact ⟨v, (T.setVm vm₁).calling g' mk (Value.ref b :: As).toArray, t, U', L, hT, X', hL, e1, e2, hq, st⟩
section
variable {y : MethodName} {bytes cc : ByteArray} {maxL nL mc ms n index : Nat} {ret : Option FieldType} {ws : List Cond} {rm : Room} {Pc : Array Value → State → Prop} {Qc : Array Value → State → Outcome → State → Prop} {XC : String → State → State → Prop} {free : Addr → Prop} {Ts : List Cond} {own C : String} {b : Addr} {As rest : List Value} {g : JFrame}
theorem vx_runVX {hh : List (Nat × Nat × Nat × Nat)} (S : CallFix p m c cc nL s args Ts own) (hM : vx_Met l y ws rm Pc Qc XC mc ms free) (cw : vx_CVW R s args own C index y bytes maxL ret hh ws rm mc ms n) (hp : PreV s H C b Pc As)
    (hg : g.method = m) (hn : As.length = n) (hsize : g.locals.size = nL) (hstack : g.stack = As.reverse ++ .ref b :: rest) (hW : 2 * g.monitorRoom + (rest.map fun v => v.category).sum ≤ 8) (hdg : decode cc g.pc = .ok (.invokevirtual index, 3)) (hf : cells + mc ≤ R.cells ∧ slots + ms ≤ R.slots) :
    vx_Run p l e R s m args below meth c H locs cells slots mc ms g rest (Qc (Value.ref b :: As).toArray) XC free := by
  obtain ⟨⟨hrc, hrs, hfr, hlo, hws, hcw⟩, hcode, hini, hy, hlen, hl, hin, hse⟩ := cw
  have hK : vx_Back l R p e below s args y 3 8 (PreOf R mc ms Pc) (PostOf Qc mc ms free) (vx_Post XC mc ms free) := vx_backW (hh := hh) (bytes := bytes) (maxL := maxL) (ret := ret) hM hp.1 hrc hrs hfr hlo hws hcw (fun a' U hW => word_at hW (Or.inl (by first | rfl | simp [Cond.onTables, Cond.keeps, Cond.steady])) hini)
  obtain ⟨hx, hb, hml, ho, -⟩ := S
  obtain ⟨-, ⟨cellB, hcB, hoB, hclB⟩, hPc⟩ := hp
  intro T hT X
  rcases vx_callVX X hx (C := C) (hh := hh) (bytes := bytes) (maxL := maxL) (ret := ret) ho hl hin hse hcode hy hK (by rw [hT]; exact hcB) hoB hclB hg (hsize.trans hml.symm) (argsL := As) (rest := rest) (fun sig h => hn.trans (hlen sig h)) hstack hW (by rw [hb]; exact hdg)
    (fun vm₁ hW₁ => ⟨hf.1, hf.2, hPc (T.setVm vm₁) hT hW₁⟩) with ⟨v, vm₁, ⟨U', l2, c2, s2⟩, hW₁, X', ⟨g', mk, t, L, e1, e2, hq, h1, hL, h2, h3⟩, st⟩ | ⟨q, vm₁, ⟨U', l2, c2, s2⟩, hW₁, X', ⟨g', mk, t, L, E, ce, e1, e2, hq, hce, hcv, hcl, h1, hL, h2, h3⟩, st⟩
  · dsimp only [Pt.U, Pt.locs, Pt.cells, Pt.slots] at X' e1 e2 h1 h2 h3 st
    subst h1; subst h2; subst h3
    exact Or.inl ⟨v, (T.setVm vm₁).calling g' mk (Value.ref b :: As).toArray, t, U', L, hT, X', hL, e1, e2, hq, st⟩
  · dsimp only [Pt.U, Pt.locs, Pt.cells, Pt.slots] at X' e1 e2 h1 h2 h3 st hcl
    subst h1; subst h2; subst h3
    exact Or.inr ⟨q, (T.setVm vm₁).calling g' mk (Value.ref b :: As).toArray, t, U', L, E, ce, hT, X', hL, e1, e2, hq, hce, hcv, vx_cls hW₁ hcl, st⟩
theorem vx_runSX {hh : List (Nat × Nat × Nat × Nat)} (S : CallFix p m c cc nL s args Ts own) (hM : vx_Met l y ws rm Pc Qc XC mc ms free) (cw : vx_CSW R s args own index y bytes maxL ret hh ws rm mc ms n) (hp : PreS s H Pc As)
    (hg : g.method = m) (hn : As.length = n) (hsize : g.locals.size = nL) (hstack : g.stack = As.reverse ++ rest) (hW : 2 * g.monitorRoom + (rest.map fun v => v.category).sum ≤ 8) (hdg : decode cc g.pc = .ok (.invokestatic index, 3)) (hf : cells + mc ≤ R.cells ∧ slots + ms ≤ R.slots) :
    vx_Run p l e R s m args below meth c H locs cells slots mc ms g rest (Qc As.toArray) XC free := by
  obtain ⟨⟨hrc, hrs, hfr, hlo, hws, hcw⟩, hcode, hini, hy, hlen, hl, hstt⟩ := cw
  have hK : vx_Back l R p e below s args y 3 8 (PreOf R mc ms Pc) (PostOf Qc mc ms free) (vx_Post XC mc ms free) := vx_backW (hh := hh) (bytes := bytes) (maxL := maxL) (ret := ret) hM hp.1 hrc hrs hfr hlo hws hcw (fun a' U hW => word_at hW (Or.inl (by first | rfl | simp [Cond.onTables, Cond.keeps, Cond.steady])) hini)
  obtain ⟨hx, hb, hml, ho, -⟩ := S
  intro T hT X
  rcases vx_callSX X hx (hh := hh) (bytes := bytes) (maxL := maxL) (ret := ret) ho hl hstt hini hcode hy hK hg (hsize.trans hml.symm) (argsL := As) (rest := rest) (fun sig h => hn.trans (hlen sig h)) hstack hW (by rw [hb]; exact hdg)
    (fun vm₁ hW₁ => ⟨hf.1, hf.2, hp.2 (T.setVm vm₁) hT hW₁⟩) with ⟨v, vm₁, ⟨U', l2, c2, s2⟩, hW₁, X', ⟨g', mk, t, L, e1, e2, hq, h1, hL, h2, h3⟩, st⟩ | ⟨q, vm₁, ⟨U', l2, c2, s2⟩, hW₁, X', ⟨g', mk, t, L, E, ce, e1, e2, hq, hce, hcv, hcl, h1, hL, h2, h3⟩, st⟩
  · dsimp only [Pt.U, Pt.locs, Pt.cells, Pt.slots] at X' e1 e2 h1 h2 h3 st
    subst h1; subst h2; subst h3
    exact Or.inl ⟨v, (T.setVm vm₁).calling g' mk As.toArray, t, U', L, hT, X', hL, e1, e2, hq, st⟩
  · dsimp only [Pt.U, Pt.locs, Pt.cells, Pt.slots] at X' e1 e2 h1 h2 h3 st hcl
    subst h1; subst h2; subst h3
    exact Or.inr ⟨q, (T.setVm vm₁).calling g' mk As.toArray, t, U', L, E, ce, hT, X', hL, e1, e2, hq, hce, hcv, vx_cls hW₁ hcl, st⟩
end
end VXH
theorem vx_ofWH {l : Launch} {y : MethodName} {ws ws' : List Cond} {rm : Room} {Pc : Array Value → State → Prop} {Qc : Array Value → State → Outcome → State → Prop} {XC : String → State → State → Prop} {mc ms : Nat} {free : Addr → Prop} {cc : ByteArray} {maxL : Nat} {ret : Option FieldType} {hh : List (Nat × Nat × Nat × Nat)}
    (hy : plainName y.cls = true) (hw : ws = Cond.codeWith y cc maxL ret hh :: ws')
    (body : ∀ p e s m args below meth c s₁, BodyLoose p l y (headSpec ws rm) cc maxL ret e s m args below meth c s₁ → c.maxLocals = maxL → Pc args s →
      W p l e (headSpec ws rm).room s m args below meth c s.heap [] 0 0 (vx_MQ below Qc XC args s mc ms free) (entryFrame m args maxL)) : vx_Met l y ws rm Pc Qc XC mc ms free := by
  refine MetFree.of_bodyS (code := cc) (maxLocals := maxL) (ret := ret) hy ?_ ?_
  · intro args s m h hn
    obtain ⟨m9, meth, c, hn9, h1, h2, h3, h4, -, h5, h6, -⟩ := Cond.codeWith_spec (atoms_spec (ws := ws) h _ (by rw [hw]; exact List.mem_cons_self))
    cases hn.symm.trans hn9
    exact ⟨meth, c, h1, h2, h3, h4, h5, h6⟩
  · intro p e s m args below meth c s₁ B hml hP _
    have hh0 : s₁.heap = s.heap := by rw [B.state]; rfl
    obtain ⟨t, a1, o, b1, b2, b3⟩ := body p e s m args below meth c s₁ B hml hP s₁ hh0 (Stand.of_body B)
    exact ⟨t, o, a1, b1, b2, b3⟩
/-! ===== END ===== -/
end
section
def RX0 : String := "GemCut$Flaw"
def TX0 : u_T := fun k => match k with
  | 0 => ("GemCut$Flaw", "severity", "I", false)
  | 1 => ("GemCut$Flaw", "cells", "[I", true)
  | 2 => ("GemCut$Flaw", "cellCount", "I", false)
  | 3 => ("GemCut$Flaw", "cellsIn", "[I", true)
  | _ => ("GemCut$Flaw", "bareIn", "[I", true)
def tyX0 : Nat → FieldType := fun k => match k with
  | 0 => .int
  | 1 => .array .int
  | 2 => .int
  | 3 => .array .int
  | _ => .array .int
abbrev wsX00 : List Cond := u_ws RX0 TX0 5
theorem nmX0 : ∀ a, a < 5 → ∀ b, b < 5 → a ≠ b → (TX0 a).2.1 ≠ (TX0 b).2.1 := by decide +kernel
theorem tyX0_ok : ∀ k, k < 5 → parseFieldDescriptor (TX0 k).2.2.1 = some (tyX0 k) := by decide +kernel
abbrev cX0_init : ByteArray := prog_2_method_1_code
def yX0_init : MethodName := ⟨RX0, "<init>", "()V"⟩
abbrev cX0_begin : ByteArray := prog_2_method_2_code
def yX0_begin : MethodName := ⟨RX0, "begin", "(I)V"⟩
abbrev cX0_addCell : ByteArray := prog_2_method_3_code
def yX0_addCell : MethodName := ⟨RX0, "addCell", "(I)V"⟩
abbrev cX0_survey : ByteArray := prog_2_method_4_code
def yX0_survey : MethodName := ⟨RX0, "survey", "(LGemCut$Rough;)V"⟩
abbrev cX0_stateIn : ByteArray := prog_2_method_5_code
def yX0_stateIn : MethodName := ⟨RX0, "stateIn", "(I)I"⟩
abbrev cX0_pointsIf : ByteArray := prog_2_method_6_code
def yX0_pointsIf : MethodName := ⟨RX0, "pointsIf", "(I)I"⟩
def RX1 : String := "GemCut$Plane"
def TX1 : u_T := fun k => match k with
  | 0 => ("GemCut$Plane", "p", "I", false)
  | 1 => ("GemCut$Plane", "q", "I", false)
  | 2 => ("GemCut$Plane", "r", "I", false)
  | 3 => ("GemCut$Plane", "d", "I", false)
  | 4 => ("GemCut$Plane", "reach", "I", false)
  | 5 => ("GemCut$Plane", "polished", "Z", false)
  | _ => ("GemCut$Plane", "touching", "I", false)
def tyX1 : Nat → FieldType := fun k => match k with
  | 0 => .int
  | 1 => .int
  | 2 => .int
  | 3 => .int
  | 4 => .int
  | 5 => .boolean
  | _ => .int
abbrev wsX10 : List Cond := u_ws RX1 TX1 7
theorem nmX1 : ∀ a, a < 7 → ∀ b, b < 7 → a ≠ b → (TX1 a).2.1 ≠ (TX1 b).2.1 := by decide +kernel
theorem tyX1_ok : ∀ k, k < 7 → parseFieldDescriptor (TX1 k).2.2.1 = some (tyX1 k) := by decide +kernel
abbrev cX1_init : ByteArray := prog_3_method_1_code
def yX1_init : MethodName := ⟨RX1, "<init>", "()V"⟩
abbrev cX1_set : ByteArray := prog_3_method_2_code
def yX1_set : MethodName := ⟨RX1, "set", "(IIII)V"⟩
abbrev cX1_heightOf : ByteArray := prog_3_method_3_code
def yX1_heightOf : MethodName := ⟨RX1, "heightOf", "(III)I"⟩
abbrev cX1_touches : ByteArray := prog_3_method_4_code
def yX1_touches : MethodName := ⟨RX1, "touches", "(III)Z"⟩
abbrev cX1_isFacet : ByteArray := prog_3_method_5_code
def yX1_isFacet : MethodName := ⟨RX1, "isFacet", "()Z"⟩
abbrev cX1_productWith : ByteArray := prog_3_method_6_code
def yX1_productWith : MethodName := ⟨RX1, "productWith", "(LGemCut$Plane;)I"⟩
abbrev cX1_angleTo : ByteArray := prog_3_method_7_code
def yX1_angleTo : MethodName := ⟨RX1, "angleTo", "(LGemCut$Plane;)I"⟩
abbrev cX1_isOpposite : ByteArray := prog_3_method_8_code
def yX1_isOpposite : MethodName := ⟨RX1, "isOpposite", "(LGemCut$Plane;)Z"⟩
abbrev cX1_tell : ByteArray := prog_3_method_9_code
def yX1_tell : MethodName := ⟨RX1, "tell", "(I)I"⟩
def RX2 : String := "GemCut$Rough"
def TX2 : u_T := fun k => match k with
  | 0 => ("GemCut$Rough", "columns", "I", false)
  | 1 => ("GemCut$Rough", "rows", "I", false)
  | 2 => ("GemCut$Rough", "layers", "I", false)
  | 3 => ("GemCut$Rough", "owner", "[I", true)
  | 4 => ("GemCut$Rough", "bare", "[Z", true)
  | 5 => ("GemCut$Rough", "flaws", "[LGemCut$Flaw;", true)
  | _ => ("GemCut$Rough", "flawCount", "I", false)
def tyX2 : Nat → FieldType := fun k => match k with
  | 0 => .int
  | 1 => .int
  | 2 => .int
  | 3 => .array .int
  | 4 => .array .boolean
  | 5 => .array (.object "GemCut$Flaw")
  | _ => .int
abbrev wsX20 : List Cond := u_ws RX2 TX2 7
theorem nmX2 : ∀ a, a < 7 → ∀ b, b < 7 → a ≠ b → (TX2 a).2.1 ≠ (TX2 b).2.1 := by decide +kernel
theorem tyX2_ok : ∀ k, k < 7 → parseFieldDescriptor (TX2 k).2.2.1 = some (tyX2 k) := by decide +kernel
abbrev cX2_init : ByteArray := prog_4_method_1_code
def yX2_init : MethodName := ⟨RX2, "<init>", "()V"⟩
abbrev cX2_begin : ByteArray := prog_4_method_2_code
def yX2_begin : MethodName := ⟨RX2, "begin", "(III)V"⟩
abbrev cX2_size : ByteArray := prog_4_method_3_code
def yX2_size : MethodName := ⟨RX2, "size", "()I"⟩
abbrev cX2_holds : ByteArray := prog_4_method_4_code
def yX2_holds : MethodName := ⟨RX2, "holds", "(III)Z"⟩
abbrev cX2_indexOf : ByteArray := prog_4_method_5_code
def yX2_indexOf : MethodName := ⟨RX2, "indexOf", "(III)I"⟩
abbrev cX2_ownerAt : ByteArray := prog_4_method_6_code
def yX2_ownerAt : MethodName := ⟨RX2, "ownerAt", "(III)I"⟩
abbrev cX2_isBare : ByteArray := prog_4_method_7_code
def yX2_isBare : MethodName := ⟨RX2, "isBare", "(IIII)Z"⟩
abbrev cX2_addFlaw : ByteArray := prog_4_method_8_code
def yX2_addFlaw : MethodName := ⟨RX2, "addFlaw", "(IIIII)V"⟩
def RX3 : String := "GemCut$Stone"
def TX3 : u_T := fun k => match k with
  | 0 => ("GemCut$Stone", "number", "I", true)
  | 1 => ("GemCut$Stone", "planes", "[LGemCut$Plane;", true)
  | 2 => ("GemCut$Stone", "planeCount", "I", false)
  | 3 => ("GemCut$Stone", "weight", "I", false)
  | _ => ("GemCut$Stone", "bareCells", "I", false)
def tyX3 : Nat → FieldType := fun k => match k with
  | 0 => .int
  | 1 => .array (.object "GemCut$Plane")
  | 2 => .int
  | 3 => .int
  | _ => .int
abbrev wsX30 : List Cond := u_ws RX3 TX3 5
theorem nmX3 : ∀ a, a < 5 → ∀ b, b < 5 → a ≠ b → (TX3 a).2.1 ≠ (TX3 b).2.1 := by decide +kernel
theorem tyX3_ok : ∀ k, k < 5 → parseFieldDescriptor (TX3 k).2.2.1 = some (tyX3 k) := by decide +kernel
abbrev cX3_init : ByteArray := prog_5_method_1_code
def yX3_init : MethodName := ⟨RX3, "<init>", "(I)V"⟩
abbrev cX3_dropPlanes : ByteArray := prog_5_method_2_code
def yX3_dropPlanes : MethodName := ⟨RX3, "dropPlanes", "()V"⟩
abbrev cX3_forgetCells : ByteArray := prog_5_method_3_code
def yX3_forgetCells : MethodName := ⟨RX3, "forgetCells", "()V"⟩
abbrev cX3_countCell : ByteArray := prog_5_method_4_code
def yX3_countCell : MethodName := ⟨RX3, "countCell", "(IIIZ)V"⟩
abbrev cX3_keep : ByteArray := prog_5_method_5_code
def yX3_keep : MethodName := ⟨RX3, "keep", "(IIII)V"⟩
abbrev cX3_facets : ByteArray := prog_5_method_6_code
def yX3_facets : MethodName := ⟨RX3, "facets", "(Z)I"⟩
abbrev cX3_oppositePairs : ByteArray := prog_5_method_7_code
def yX3_oppositePairs : MethodName := ⟨RX3, "oppositePairs", "()I"⟩
def RX4 : String := "GemCut$Trial"
def TX4 : u_T := fun k => match k with
  | 0 => ("GemCut$Trial", "rough", "LGemCut$Rough;", true)
  | 1 => ("GemCut$Trial", "piece", "LGemCut$Stone;", false)
  | 2 => ("GemCut$Trial", "tried", "LGemCut$Plane;", true)
  | 3 => ("GemCut$Trial", "heights", "[I", true)
  | 4 => ("GemCut$Trial", "upTo", "[I", true)
  | _ => ("GemCut$Trial", "floors", "[I", true)
def tyX4 : Nat → FieldType := fun k => match k with
  | 0 => .object "GemCut$Rough"
  | 1 => .object "GemCut$Stone"
  | 2 => .object "GemCut$Plane"
  | 3 => .array .int
  | 4 => .array .int
  | _ => .array .int
abbrev wsX40 : List Cond := u_ws RX4 TX4 6
theorem nmX4 : ∀ a, a < 6 → ∀ b, b < 6 → a ≠ b → (TX4 a).2.1 ≠ (TX4 b).2.1 := by decide +kernel
theorem tyX4_ok : ∀ k, k < 6 → parseFieldDescriptor (TX4 k).2.2.1 = some (tyX4 k) := by decide +kernel
abbrev cX4_init : ByteArray := prog_6_method_1_code
def yX4_init : MethodName := ⟨RX4, "<init>", "(LGemCut$Rough;LGemCut$Stone;)V"⟩
abbrev cX4_level : ByteArray := prog_6_method_2_code
def yX4_level : MethodName := ⟨RX4, "level", "(LGemCut$Stone;III)V"⟩
abbrev cX4_levelCell : ByteArray := prog_6_method_3_code
def yX4_levelCell : MethodName := ⟨RX4, "levelCell", "(II)V"⟩
abbrev cX4_aim : ByteArray := prog_6_method_4_code
def yX4_aim : MethodName := ⟨RX4, "aim", "(LGemCut$Stone;III)V"⟩
abbrev cX4_lowerFloors : ByteArray := prog_6_method_5_code
def yX4_lowerFloors : MethodName := ⟨RX4, "lowerFloors", "(IIII)V"⟩
abbrev cX4_weightAt : ByteArray := prog_6_method_6_code
def yX4_weightAt : MethodName := ⟨RX4, "weightAt", "(I)I"⟩
abbrev cX4_lossAt : ByteArray := prog_6_method_7_code
def yX4_lossAt : MethodName := ⟨RX4, "lossAt", "(I)I"⟩
abbrev cX4_giveAbove : ByteArray := prog_6_method_8_code
def yX4_giveAbove : MethodName := ⟨RX4, "giveAbove", "(II)V"⟩
abbrev cX4_wouldBeFacet : ByteArray := prog_6_method_9_code
def yX4_wouldBeFacet : MethodName := ⟨RX4, "wouldBeFacet", "(I)Z"⟩
abbrev cX4_pairsAt : ByteArray := prog_6_method_10_code
def yX4_pairsAt : MethodName := ⟨RX4, "pairsAt", "(I)I"⟩
abbrev cX4_laterOpposites : ByteArray := prog_6_method_11_code
def yX4_laterOpposites : MethodName := ⟨RX4, "laterOpposites", "(II)I"⟩
abbrev cX4_polishedAt : ByteArray := prog_6_method_12_code
def yX4_polishedAt : MethodName := ⟨RX4, "polishedAt", "(I)I"⟩
abbrev cX4_stateAt : ByteArray := prog_6_method_13_code
def yX4_stateAt : MethodName := ⟨RX4, "stateAt", "(LGemCut$Flaw;I)I"⟩
abbrev cX4_openFlawsAt : ByteArray := prog_6_method_14_code
def yX4_openFlawsAt : MethodName := ⟨RX4, "openFlawsAt", "(I)I"⟩
abbrev cX4_worthAt : ByteArray := prog_6_method_15_code
def yX4_worthAt : MethodName := ⟨RX4, "worthAt", "(I)I"⟩
abbrev cX4_isWithin : ByteArray := prog_6_method_16_code
def yX4_isWithin : MethodName := ⟨RX4, "isWithin", "(I)Z"⟩
abbrev cX4_bestDepth : ByteArray := prog_6_method_17_code
def yX4_bestDepth : MethodName := ⟨RX4, "bestDepth", "()I"⟩
abbrev cX4_leastLoss : ByteArray := prog_6_method_18_code
def yX4_leastLoss : MethodName := ⟨RX4, "leastLoss", "(LGemCut$Stone;LGemCut$Flaw;I)I"⟩
abbrev cX4_lowestOf : ByteArray := prog_6_method_19_code
def yX4_lowestOf : MethodName := ⟨RX4, "lowestOf", "(LGemCut$Flaw;)I"⟩
def RX5 : String := "GemCut"
def TX5 : u_T := fun k => match k with
  | 0 => ("GemCut", "rough", "LGemCut$Rough;", true)
  | 1 => ("GemCut", "stones", "[LGemCut$Stone;", true)
  | 2 => ("GemCut", "trial", "LGemCut$Trial;", true)
  | 3 => ("GemCut", "stoneCount", "I", false)
  | 4 => ("GemCut", "turns", "I", false)
  | _ => ("GemCut", "spent", "I", false)
def tyX5 : Nat → FieldType := fun k => match k with
  | 0 => .object "GemCut$Rough"
  | 1 => .array (.object "GemCut$Stone")
  | 2 => .object "GemCut$Trial"
  | 3 => .int
  | 4 => .int
  | _ => .int
abbrev wsX50 : List Cond := u_ws RX5 TX5 6
theorem nmX5 : ∀ a, a < 6 → ∀ b, b < 6 → a ≠ b → (TX5 a).2.1 ≠ (TX5 b).2.1 := by decide +kernel
theorem tyX5_ok : ∀ k, k < 6 → parseFieldDescriptor (TX5 k).2.2.1 = some (tyX5 k) := by decide +kernel
abbrev cX5_init : ByteArray := prog_1_method_1_code
def yX5_init : MethodName := ⟨RX5, "<init>", "()V"⟩
abbrev cX5_take : ByteArray := prog_1_method_2_code
def yX5_take : MethodName := ⟨RX5, "take", "(III)I"⟩
abbrev cX5_flaw : ByteArray := prog_1_method_3_code
def yX5_flaw : MethodName := ⟨RX5, "flaw", "(IIIII)I"⟩
abbrev cX5_cell : ByteArray := prog_1_method_4_code
def yX5_cell : MethodName := ⟨RX5, "cell", "(III)I"⟩
abbrev cX5_flawIn : ByteArray := prog_1_method_5_code
def yX5_flawIn : MethodName := ⟨RX5, "flawIn", "(III)I"⟩
abbrev cX5_saw : ByteArray := prog_1_method_6_code
def yX5_saw : MethodName := ⟨RX5, "saw", "(IIIII)I"⟩
abbrev cX5_cut : ByteArray := prog_1_method_7_code
def yX5_cut : MethodName := ⟨RX5, "cut", "(IIIII)I"⟩
abbrev cX5_polish : ByteArray := prog_1_method_8_code
def yX5_polish : MethodName := ⟨RX5, "polish", "(II)I"⟩
abbrev cX5_dress : ByteArray := prog_1_method_9_code
def yX5_dress : MethodName := ⟨RX5, "dress", "()I"⟩
abbrev cX5_stone : ByteArray := prog_1_method_10_code
def yX5_stone : MethodName := ⟨RX5, "stone", "(II)I"⟩
abbrev cX5_plane : ByteArray := prog_1_method_11_code
def yX5_plane : MethodName := ⟨RX5, "plane", "(III)I"⟩
abbrev cX5_angle : ByteArray := prog_1_method_12_code
def yX5_angle : MethodName := ⟨RX5, "angle", "(III)I"⟩
abbrev cX5_count : ByteArray := prog_1_method_13_code
def yX5_count : MethodName := ⟨RX5, "count", "(I)I"⟩
abbrev cX5_would : ByteArray := prog_1_method_14_code
def yX5_would : MethodName := ⟨RX5, "would", "(IIIIII)I"⟩
abbrev cX5_depth : ByteArray := prog_1_method_15_code
def yX5_depth : MethodName := ⟨RX5, "depth", "(IIII)I"⟩
abbrev cX5_rid : ByteArray := prog_1_method_16_code
def yX5_rid : MethodName := ⟨RX5, "rid", "(III)I"⟩
abbrev cX5_kept : ByteArray := prog_1_method_17_code
def yX5_kept : MethodName := ⟨RX5, "kept", "()D"⟩
abbrev cX5_digest : ByteArray := prog_1_method_18_code
def yX5_digest : MethodName := ⟨RX5, "digest", "()J"⟩
abbrev cX5_isSide : ByteArray := prog_1_method_19_code
def yX5_isSide : MethodName := ⟨RX5, "isSide", "(I)Z"⟩
abbrev cX5_wantCell : ByteArray := prog_1_method_20_code
def yX5_wantCell : MethodName := ⟨RX5, "wantCell", "(III)V"⟩
abbrev cX5_wantFlaw : ByteArray := prog_1_method_21_code
def yX5_wantFlaw : MethodName := ⟨RX5, "wantFlaw", "(I)V"⟩
abbrev cX5_wantStone : ByteArray := prog_1_method_22_code
def yX5_wantStone : MethodName := ⟨RX5, "wantStone", "(I)V"⟩
abbrev cX5_wantPlane : ByteArray := prog_1_method_23_code
def yX5_wantPlane : MethodName := ⟨RX5, "wantPlane", "(II)V"⟩
abbrev cX5_wantWhat : ByteArray := prog_1_method_24_code
def yX5_wantWhat : MethodName := ⟨RX5, "wantWhat", "(II)V"⟩
abbrev cX5_wantSlope : ByteArray := prog_1_method_25_code
def yX5_wantSlope : MethodName := ⟨RX5, "wantSlope", "(III)V"⟩
abbrev cX5_isSteepness : ByteArray := prog_1_method_26_code
def yX5_isSteepness : MethodName := ⟨RX5, "isSteepness", "(I)Z"⟩
abbrev cX5_wantDepth : ByteArray := prog_1_method_27_code
def yX5_wantDepth : MethodName := ⟨RX5, "wantDepth", "(I)V"⟩
abbrev cX5_beginRough : ByteArray := prog_1_method_28_code
def yX5_beginRough : MethodName := ⟨RX5, "beginRough", "(III)V"⟩
abbrev cX5_spend : ByteArray := prog_1_method_29_code
def yX5_spend : MethodName := ⟨RX5, "spend", "(I)V"⟩
abbrev cX5_survey : ByteArray := prog_1_method_30_code
def yX5_survey : MethodName := ⟨RX5, "survey", "()V"⟩
abbrev cX5_surveyCell : ByteArray := prog_1_method_31_code
def yX5_surveyCell : MethodName := ⟨RX5, "surveyCell", "(IIII)V"⟩
abbrev cX5_tellOfFlaw : ByteArray := prog_1_method_32_code
def yX5_tellOfFlaw : MethodName := ⟨RX5, "tellOfFlaw", "(III)I"⟩
abbrev cX5_tellOfStone : ByteArray := prog_1_method_33_code
def yX5_tellOfStone : MethodName := ⟨RX5, "tellOfStone", "(LGemCut$Stone;I)I"⟩
abbrev cX5_tellCount : ByteArray := prog_1_method_34_code
def yX5_tellCount : MethodName := ⟨RX5, "tellCount", "(I)I"⟩
abbrev cX5_flawsOfState : ByteArray := prog_1_method_35_code
def yX5_flawsOfState : MethodName := ⟨RX5, "flawsOfState", "(II)I"⟩
abbrev cX5_worthOf : ByteArray := prog_1_method_36_code
def yX5_worthOf : MethodName := ⟨RX5, "worthOf", "(LGemCut$Stone;)I"⟩
abbrev cX5_worthBy : ByteArray := prog_1_method_37_code
def yX5_worthBy : MethodName := ⟨RX5, "worthBy", "(IIII)I"⟩
abbrev cX5_cellsOfStones : ByteArray := prog_1_method_38_code
def yX5_cellsOfStones : MethodName := ⟨RX5, "cellsOfStones", "()I"⟩
abbrev cX5_stonesLeft : ByteArray := prog_1_method_39_code
def yX5_stonesLeft : MethodName := ⟨RX5, "stonesLeft", "()I"⟩
abbrev cX5_worthOfStones : ByteArray := prog_1_method_40_code
def yX5_worthOfStones : MethodName := ⟨RX5, "worthOfStones", "()I"⟩
abbrev cX5_addStone : ByteArray := prog_1_method_41_code
def yX5_addStone : MethodName := ⟨RX5, "addStone", "(JLGemCut$Stone;)J"⟩
def RX6 : String := "GemCutModel"
def TX6 : u_T := fun k => match k with
  | 0 => ("GemCutModel", "thrown", "I", false)
  | 1 => ("GemCutModel", "columns", "I", false)
  | 2 => ("GemCutModel", "rows", "I", false)
  | 3 => ("GemCutModel", "layers", "I", false)
  | 4 => ("GemCutModel", "cells", "[I", true)
  | 5 => ("GemCutModel", "flaws", "I", false)
  | 6 => ("GemCutModel", "flawTable", "[I", true)
  | 7 => ("GemCutModel", "stones", "I", false)
  | 8 => ("GemCutModel", "planeTable", "[I", true)
  | 9 => ("GemCutModel", "many", "[I", true)
  | 10 => ("GemCutModel", "wheel", "I", false)
  | _ => ("GemCutModel", "spent", "I", false)
def tyX6 : Nat → FieldType := fun k => match k with
  | 0 => .int
  | 1 => .int
  | 2 => .int
  | 3 => .int
  | 4 => .array .int
  | 5 => .int
  | 6 => .array .int
  | 7 => .int
  | 8 => .array .int
  | 9 => .array .int
  | 10 => .int
  | _ => .int
abbrev wsX60 : List Cond := u_ws RX6 TX6 12
theorem nmX6 : ∀ a, a < 12 → ∀ b, b < 12 → a ≠ b → (TX6 a).2.1 ≠ (TX6 b).2.1 := by decide +kernel
theorem tyX6_ok : ∀ k, k < 12 → parseFieldDescriptor (TX6 k).2.2.1 = some (tyX6 k) := by decide +kernel
abbrev cX6_init : ByteArray := prog_8_method_1_code
def yX6_init : MethodName := ⟨RX6, "<init>", "()V"⟩
abbrev cX6_thrown : ByteArray := prog_8_method_2_code
def yX6_thrown : MethodName := ⟨RX6, "thrown", "()I"⟩
abbrev cX6_fail : ByteArray := prog_8_method_3_code
def yX6_fail : MethodName := ⟨RX6, "fail", "(I)I"⟩
abbrev cX6_isIn : ByteArray := prog_8_method_4_code
def yX6_isIn : MethodName := ⟨RX6, "isIn", "(III)Z"⟩
abbrev cX6_at : ByteArray := prog_8_method_5_code
def yX6_at : MethodName := ⟨RX6, "at", "(III)I"⟩
abbrev cX6_isCell : ByteArray := prog_8_method_6_code
def yX6_isCell : MethodName := ⟨RX6, "isCell", "(III)Z"⟩
abbrev cX6_isStone : ByteArray := prog_8_method_7_code
def yX6_isStone : MethodName := ⟨RX6, "isStone", "(I)Z"⟩
abbrev cX6_isPlane : ByteArray := prog_8_method_8_code
def yX6_isPlane : MethodName := ⟨RX6, "isPlane", "(II)Z"⟩
abbrev cX6_pl : ByteArray := prog_8_method_9_code
def yX6_pl : MethodName := ⟨RX6, "pl", "(III)I"⟩
abbrev cX6_fl : ByteArray := prog_8_method_10_code
def yX6_fl : MethodName := ⟨RX6, "fl", "(II)I"⟩
abbrev cX6_begin : ByteArray := prog_8_method_11_code
def yX6_begin : MethodName := ⟨RX6, "begin", "(III)V"⟩
abbrev cX6_take : ByteArray := prog_8_method_12_code
def yX6_take : MethodName := ⟨RX6, "take", "(III)I"⟩
abbrev cX6_flaw : ByteArray := prog_8_method_13_code
def yX6_flaw : MethodName := ⟨RX6, "flaw", "(IIIII)I"⟩
abbrev cX6_cell : ByteArray := prog_8_method_14_code
def yX6_cell : MethodName := ⟨RX6, "cell", "(III)I"⟩
abbrev cX6_isOf : ByteArray := prog_8_method_15_code
def yX6_isOf : MethodName := ⟨RX6, "isOf", "(IIII)Z"⟩
abbrev cX6_isSurface : ByteArray := prog_8_method_16_code
def yX6_isSurface : MethodName := ⟨RX6, "isSurface", "(I)Z"⟩
abbrev cX6_isFlawed : ByteArray := prog_8_method_17_code
def yX6_isFlawed : MethodName := ⟨RX6, "isFlawed", "(II)Z"⟩
abbrev cX6_flawCells : ByteArray := prog_8_method_18_code
def yX6_flawCells : MethodName := ⟨RX6, "flawCells", "(IIZ)I"⟩
abbrev cX6_flawTold : ByteArray := prog_8_method_19_code
def yX6_flawTold : MethodName := ⟨RX6, "flawTold", "(III)I"⟩
abbrev cX6_flawIn : ByteArray := prog_8_method_20_code
def yX6_flawIn : MethodName := ⟨RX6, "flawIn", "(III)I"⟩
abbrev cX6_height : ByteArray := prog_8_method_21_code
def yX6_height : MethodName := ⟨RX6, "height", "(IIII)I"⟩
abbrev cX6_isTilt : ByteArray := prog_8_method_22_code
def yX6_isTilt : MethodName := ⟨RX6, "isTilt", "(IIII)Z"⟩
abbrev cX6_weight : ByteArray := prog_8_method_23_code
def yX6_weight : MethodName := ⟨RX6, "weight", "(I)I"⟩
abbrev cX6_turn : ByteArray := prog_8_method_24_code
def yX6_turn : MethodName := ⟨RX6, "turn", "(IIIIII)I"⟩
abbrev cX6_back : ByteArray := prog_8_method_25_code
def yX6_back : MethodName := ⟨RX6, "back", "(I)V"⟩
abbrev cX6_saw : ByteArray := prog_8_method_26_code
def yX6_saw : MethodName := ⟨RX6, "saw", "(IIIII)I"⟩
abbrev cX6_put : ByteArray := prog_8_method_27_code
def yX6_put : MethodName := ⟨RX6, "put", "(IIIII)V"⟩
abbrev cX6_spend : ByteArray := prog_8_method_28_code
def yX6_spend : MethodName := ⟨RX6, "spend", "(I)V"⟩
abbrev cX6_cut : ByteArray := prog_8_method_29_code
def yX6_cut : MethodName := ⟨RX6, "cut", "(IIIII)I"⟩
abbrev cX6_touch : ByteArray := prog_8_method_30_code
def yX6_touch : MethodName := ⟨RX6, "touch", "(II)I"⟩
abbrev cX6_polish : ByteArray := prog_8_method_31_code
def yX6_polish : MethodName := ⟨RX6, "polish", "(II)I"⟩
abbrev cX6_dress : ByteArray := prog_8_method_32_code
def yX6_dress : MethodName := ⟨RX6, "dress", "()I"⟩
abbrev cX6_isFacet : ByteArray := prog_8_method_33_code
def yX6_isFacet : MethodName := ⟨RX6, "isFacet", "(II)Z"⟩
abbrev cX6_facets : ByteArray := prog_8_method_34_code
def yX6_facets : MethodName := ⟨RX6, "facets", "(IZ)I"⟩
abbrev cX6_pairs : ByteArray := prog_8_method_35_code
def yX6_pairs : MethodName := ⟨RX6, "pairs", "(I)I"⟩
abbrev cX6_flawsIn : ByteArray := prog_8_method_36_code
def yX6_flawsIn : MethodName := ⟨RX6, "flawsIn", "(II)I"⟩
abbrev cX6_worth : ByteArray := prog_8_method_37_code
def yX6_worth : MethodName := ⟨RX6, "worth", "(I)I"⟩
abbrev cX6_stoneTold : ByteArray := prog_8_method_38_code
def yX6_stoneTold : MethodName := ⟨RX6, "stoneTold", "(II)I"⟩
abbrev cX6_stone : ByteArray := prog_8_method_39_code
def yX6_stone : MethodName := ⟨RX6, "stone", "(II)I"⟩
abbrev cX6_planeTold : ByteArray := prog_8_method_40_code
def yX6_planeTold : MethodName := ⟨RX6, "planeTold", "(III)I"⟩
abbrev cX6_plane : ByteArray := prog_8_method_41_code
def yX6_plane : MethodName := ⟨RX6, "plane", "(III)I"⟩
abbrev cX6_product : ByteArray := prog_8_method_42_code
def yX6_product : MethodName := ⟨RX6, "product", "(III)I"⟩
abbrev cX6_angle : ByteArray := prog_8_method_43_code
def yX6_angle : MethodName := ⟨RX6, "angle", "(III)I"⟩
abbrev cX6_counted : ByteArray := prog_8_method_44_code
def yX6_counted : MethodName := ⟨RX6, "counted", "(I)I"⟩
abbrev cX6_count : ByteArray := prog_8_method_45_code
def yX6_count : MethodName := ⟨RX6, "count", "(I)I"⟩
abbrev cX6_look : ByteArray := prog_8_method_46_code
def yX6_look : MethodName := ⟨RX6, "look", "(IIIIII)I"⟩
abbrev cX6_would : ByteArray := prog_8_method_47_code
def yX6_would : MethodName := ⟨RX6, "would", "(IIIIII)I"⟩
abbrev cX6_end : ByteArray := prog_8_method_48_code
def yX6_end : MethodName := ⟨RX6, "end", "(IIIIIZ)I"⟩
abbrev cX6_depth : ByteArray := prog_8_method_49_code
def yX6_depth : MethodName := ⟨RX6, "depth", "(IIII)I"⟩
abbrev cX6_rid : ByteArray := prog_8_method_50_code
def yX6_rid : MethodName := ⟨RX6, "rid", "(III)I"⟩
abbrev cX6_kept : ByteArray := prog_8_method_51_code
def yX6_kept : MethodName := ⟨RX6, "kept", "()D"⟩
abbrev cX6_digest : ByteArray := prog_8_method_52_code
def yX6_digest : MethodName := ⟨RX6, "digest", "()J"⟩
def RL : String := "GemCutLaw"
abbrev cL_take : ByteArray := method_3_code
def yL_take : MethodName := ⟨RL, "take", "(LGemCut;III[J)I"⟩
abbrev cL_flaw : ByteArray := method_4_code
def yL_flaw : MethodName := ⟨RL, "flaw", "(LGemCut;IIIII[J)I"⟩
abbrev cL_cell : ByteArray := method_5_code
def yL_cell : MethodName := ⟨RL, "cell", "(LGemCut;III[J)I"⟩
abbrev cL_flawIn : ByteArray := method_6_code
def yL_flawIn : MethodName := ⟨RL, "flawIn", "(LGemCut;III[J)I"⟩
abbrev cL_saw : ByteArray := method_7_code
def yL_saw : MethodName := ⟨RL, "saw", "(LGemCut;IIIII[J)I"⟩
abbrev cL_cut : ByteArray := method_8_code
def yL_cut : MethodName := ⟨RL, "cut", "(LGemCut;IIIII[J)I"⟩
abbrev cL_polish : ByteArray := method_9_code
def yL_polish : MethodName := ⟨RL, "polish", "(LGemCut;II[J)I"⟩
abbrev cL_stone : ByteArray := method_10_code
def yL_stone : MethodName := ⟨RL, "stone", "(LGemCut;II[J)I"⟩
abbrev cL_plane : ByteArray := method_11_code
def yL_plane : MethodName := ⟨RL, "plane", "(LGemCut;III[J)I"⟩
abbrev cL_angle : ByteArray := method_12_code
def yL_angle : MethodName := ⟨RL, "angle", "(LGemCut;III[J)I"⟩
abbrev cL_count : ByteArray := method_13_code
def yL_count : MethodName := ⟨RL, "count", "(LGemCut;I[J)I"⟩
abbrev cL_would : ByteArray := method_14_code
def yL_would : MethodName := ⟨RL, "would", "(LGemCut;IIIIII[J)I"⟩
abbrev cL_depth : ByteArray := method_15_code
def yL_depth : MethodName := ⟨RL, "depth", "(LGemCut;IIII[J)I"⟩
abbrev cL_rid : ByteArray := method_16_code
def yL_rid : MethodName := ⟨RL, "rid", "(LGemCut;III[J)I"⟩
abbrev cL_law : ByteArray := code
def yL_law : MethodName := ⟨RL, "law", "([I)Z"⟩
theorem dX0_init_0 : decode cX0_init 0 = .ok (.aload_n 0, 1) := by decide +kernel
theorem dX0_init_1 : decode cX0_init 1 = .ok (.invokespecial 3, 3) := by decide +kernel
theorem dX0_init_4 : decode cX0_init 4 = .ok (.aload_n 0, 1) := by decide +kernel
theorem dX0_init_5 : decode cX0_init 5 = .ok (.bipush 63, 2) := by decide +kernel
theorem dX0_init_7 : decode cX0_init 7 = .ok (.newarray .int, 2) := by decide +kernel
theorem dX0_init_9 : decode cX0_init 9 = .ok (.putfield 9, 3) := by decide +kernel
theorem dX0_init_12 : decode cX0_init 12 = .ok (.aload_n 0, 1) := by decide +kernel
theorem dX0_init_13 : decode cX0_init 13 = .ok (.bipush 8, 2) := by decide +kernel
theorem dX0_init_15 : decode cX0_init 15 = .ok (.newarray .int, 2) := by decide +kernel
theorem dX0_init_17 : decode cX0_init 17 = .ok (.putfield 15, 3) := by decide +kernel
theorem dX0_init_20 : decode cX0_init 20 = .ok (.aload_n 0, 1) := by decide +kernel
theorem dX0_init_21 : decode cX0_init 21 = .ok (.bipush 8, 2) := by decide +kernel
theorem dX0_init_23 : decode cX0_init 23 = .ok (.newarray .int, 2) := by decide +kernel
theorem dX0_init_25 : decode cX0_init 25 = .ok (.putfield 18, 3) := by decide +kernel
theorem dX0_init_28 : decode cX0_init 28 = .ok (.return_, 1) := by decide +kernel
theorem dX0_begin_0 : decode cX0_begin 0 = .ok (.aload_n 0, 1) := by decide +kernel
theorem dX0_begin_1 : decode cX0_begin 1 = .ok (.iload_n 1, 1) := by decide +kernel
theorem dX0_begin_2 : decode cX0_begin 2 = .ok (.putfield 21, 3) := by decide +kernel
theorem dX0_begin_5 : decode cX0_begin 5 = .ok (.aload_n 0, 1) := by decide +kernel
theorem dX0_begin_6 : decode cX0_begin 6 = .ok (.iconst 0, 1) := by decide +kernel
theorem dX0_begin_7 : decode cX0_begin 7 = .ok (.putfield 25, 3) := by decide +kernel
theorem dX0_begin_10 : decode cX0_begin 10 = .ok (.return_, 1) := by decide +kernel
theorem dX0_addCell_0 : decode cX0_addCell 0 = .ok (.aload_n 0, 1) := by decide +kernel
theorem dX0_addCell_1 : decode cX0_addCell 1 = .ok (.getfield 25, 3) := by decide +kernel
theorem dX0_addCell_4 : decode cX0_addCell 4 = .ok (.bipush 63, 2) := by decide +kernel
theorem dX0_addCell_6 : decode cX0_addCell 6 = .ok (.if_icmp .ge 23, 3) := by decide +kernel
theorem dX0_addCell_9 : decode cX0_addCell 9 = .ok (.aload_n 0, 1) := by decide +kernel
theorem dX0_addCell_10 : decode cX0_addCell 10 = .ok (.getfield 9, 3) := by decide +kernel
theorem dX0_addCell_13 : decode cX0_addCell 13 = .ok (.aload_n 0, 1) := by decide +kernel
theorem dX0_addCell_14 : decode cX0_addCell 14 = .ok (.getfield 25, 3) := by decide +kernel
theorem dX0_addCell_17 : decode cX0_addCell 17 = .ok (.iload_n 1, 1) := by decide +kernel
theorem dX0_addCell_18 : decode cX0_addCell 18 = .ok (.iastore, 1) := by decide +kernel
theorem dX0_addCell_19 : decode cX0_addCell 19 = .ok (.aload_n 0, 1) := by decide +kernel
theorem dX0_addCell_20 : decode cX0_addCell 20 = .ok (.dup, 1) := by decide +kernel
theorem dX0_addCell_21 : decode cX0_addCell 21 = .ok (.getfield 25, 3) := by decide +kernel
theorem dX0_addCell_24 : decode cX0_addCell 24 = .ok (.iconst 1, 1) := by decide +kernel
theorem dX0_addCell_25 : decode cX0_addCell 25 = .ok (.iadd, 1) := by decide +kernel
theorem dX0_addCell_26 : decode cX0_addCell 26 = .ok (.putfield 25, 3) := by decide +kernel
theorem dX0_addCell_29 : decode cX0_addCell 29 = .ok (.return_, 1) := by decide +kernel
theorem dX0_survey_0 : decode cX0_survey 0 = .ok (.iconst 0, 1) := by decide +kernel
theorem dX0_survey_1 : decode cX0_survey 1 = .ok (.istore_n 2, 1) := by decide +kernel
theorem dX0_survey_2 : decode cX0_survey 2 = .ok (.iload_n 2, 1) := by decide +kernel
theorem dX0_survey_3 : decode cX0_survey 3 = .ok (.bipush 8, 2) := by decide +kernel
theorem dX0_survey_5 : decode cX0_survey 5 = .ok (.if_icmp .ge 23, 3) := by decide +kernel
theorem dX0_survey_8 : decode cX0_survey 8 = .ok (.aload_n 0, 1) := by decide +kernel
theorem dX0_survey_9 : decode cX0_survey 9 = .ok (.getfield 15, 3) := by decide +kernel
theorem dX0_survey_12 : decode cX0_survey 12 = .ok (.iload_n 2, 1) := by decide +kernel
theorem dX0_survey_13 : decode cX0_survey 13 = .ok (.iconst 0, 1) := by decide +kernel
theorem dX0_survey_14 : decode cX0_survey 14 = .ok (.iastore, 1) := by decide +kernel
theorem dX0_survey_15 : decode cX0_survey 15 = .ok (.aload_n 0, 1) := by decide +kernel
theorem dX0_survey_16 : decode cX0_survey 16 = .ok (.getfield 18, 3) := by decide +kernel
theorem dX0_survey_19 : decode cX0_survey 19 = .ok (.iload_n 2, 1) := by decide +kernel
theorem dX0_survey_20 : decode cX0_survey 20 = .ok (.iconst 0, 1) := by decide +kernel
theorem dX0_survey_21 : decode cX0_survey 21 = .ok (.iastore, 1) := by decide +kernel
theorem dX0_survey_22 : decode cX0_survey 22 = .ok (.iinc 2 1, 3) := by decide +kernel
theorem dX0_survey_25 : decode cX0_survey 25 = .ok (.goto (-23), 3) := by decide +kernel
theorem dX0_survey_28 : decode cX0_survey 28 = .ok (.iconst 0, 1) := by decide +kernel
theorem dX0_survey_29 : decode cX0_survey 29 = .ok (.istore_n 2, 1) := by decide +kernel
theorem dX0_survey_30 : decode cX0_survey 30 = .ok (.iload_n 2, 1) := by decide +kernel
theorem dX0_survey_31 : decode cX0_survey 31 = .ok (.aload_n 0, 1) := by decide +kernel
theorem dX0_survey_32 : decode cX0_survey 32 = .ok (.getfield 25, 3) := by decide +kernel
theorem dX0_survey_35 : decode cX0_survey 35 = .ok (.if_icmp .ge 71, 3) := by decide +kernel
theorem dX0_survey_38 : decode cX0_survey 38 = .ok (.aload_n 0, 1) := by decide +kernel
theorem dX0_survey_39 : decode cX0_survey 39 = .ok (.getfield 9, 3) := by decide +kernel
theorem dX0_survey_42 : decode cX0_survey 42 = .ok (.iload_n 2, 1) := by decide +kernel
theorem dX0_survey_43 : decode cX0_survey 43 = .ok (.iaload, 1) := by decide +kernel
theorem dX0_survey_44 : decode cX0_survey 44 = .ok (.istore_n 3, 1) := by decide +kernel
theorem dX0_survey_45 : decode cX0_survey 45 = .ok (.aload_n 1, 1) := by decide +kernel
theorem dX0_survey_46 : decode cX0_survey 46 = .ok (.getfield 28, 3) := by decide +kernel
theorem dX0_survey_49 : decode cX0_survey 49 = .ok (.iload_n 3, 1) := by decide +kernel
theorem dX0_survey_50 : decode cX0_survey 50 = .ok (.iaload, 1) := by decide +kernel
theorem dX0_survey_51 : decode cX0_survey 51 = .ok (.istore 4, 2) := by decide +kernel
theorem dX0_survey_53 : decode cX0_survey 53 = .ok (.iload 4, 2) := by decide +kernel
theorem dX0_survey_55 : decode cX0_survey 55 = .ok (.ifCond .lt 45, 3) := by decide +kernel
theorem dX0_survey_58 : decode cX0_survey 58 = .ok (.iload 4, 2) := by decide +kernel
theorem dX0_survey_60 : decode cX0_survey 60 = .ok (.bipush 8, 2) := by decide +kernel
theorem dX0_survey_62 : decode cX0_survey 62 = .ok (.if_icmp .ge 38, 3) := by decide +kernel
theorem dX0_survey_65 : decode cX0_survey 65 = .ok (.aload_n 0, 1) := by decide +kernel
theorem dX0_survey_66 : decode cX0_survey 66 = .ok (.getfield 15, 3) := by decide +kernel
theorem dX0_survey_69 : decode cX0_survey 69 = .ok (.iload 4, 2) := by decide +kernel
theorem dX0_survey_71 : decode cX0_survey 71 = .ok (.dup2, 1) := by decide +kernel
theorem dX0_survey_72 : decode cX0_survey 72 = .ok (.iaload, 1) := by decide +kernel
theorem dX0_survey_73 : decode cX0_survey 73 = .ok (.iconst 1, 1) := by decide +kernel
theorem dX0_survey_74 : decode cX0_survey 74 = .ok (.iadd, 1) := by decide +kernel
theorem dX0_survey_75 : decode cX0_survey 75 = .ok (.iastore, 1) := by decide +kernel
theorem dX0_survey_76 : decode cX0_survey 76 = .ok (.aload_n 0, 1) := by decide +kernel
theorem dX0_survey_77 : decode cX0_survey 77 = .ok (.getfield 18, 3) := by decide +kernel
theorem dX0_survey_80 : decode cX0_survey 80 = .ok (.iload 4, 2) := by decide +kernel
theorem dX0_survey_82 : decode cX0_survey 82 = .ok (.dup2, 1) := by decide +kernel
theorem dX0_survey_83 : decode cX0_survey 83 = .ok (.iaload, 1) := by decide +kernel
theorem dX0_survey_84 : decode cX0_survey 84 = .ok (.aload_n 1, 1) := by decide +kernel
theorem dX0_survey_85 : decode cX0_survey 85 = .ok (.getfield 33, 3) := by decide +kernel
theorem dX0_survey_88 : decode cX0_survey 88 = .ok (.iload_n 3, 1) := by decide +kernel
theorem dX0_survey_89 : decode cX0_survey 89 = .ok (.baload, 1) := by decide +kernel
theorem dX0_survey_90 : decode cX0_survey 90 = .ok (.ifCond .eq 7, 3) := by decide +kernel
theorem dX0_survey_93 : decode cX0_survey 93 = .ok (.iconst 1, 1) := by decide +kernel
theorem dX0_survey_94 : decode cX0_survey 94 = .ok (.goto 4, 3) := by decide +kernel
theorem dX0_survey_97 : decode cX0_survey 97 = .ok (.iconst 0, 1) := by decide +kernel
theorem dX0_survey_98 : decode cX0_survey 98 = .ok (.iadd, 1) := by decide +kernel
theorem dX0_survey_99 : decode cX0_survey 99 = .ok (.iastore, 1) := by decide +kernel
theorem dX0_survey_100 : decode cX0_survey 100 = .ok (.iinc 2 1, 3) := by decide +kernel
theorem dX0_survey_103 : decode cX0_survey 103 = .ok (.goto (-73), 3) := by decide +kernel
theorem dX0_survey_106 : decode cX0_survey 106 = .ok (.return_, 1) := by decide +kernel
theorem dX0_stateIn_0 : decode cX0_stateIn 0 = .ok (.aload_n 0, 1) := by decide +kernel
theorem dX0_stateIn_1 : decode cX0_stateIn 1 = .ok (.getfield 15, 3) := by decide +kernel
theorem dX0_stateIn_4 : decode cX0_stateIn 4 = .ok (.iload_n 1, 1) := by decide +kernel
theorem dX0_stateIn_5 : decode cX0_stateIn 5 = .ok (.iaload, 1) := by decide +kernel
theorem dX0_stateIn_6 : decode cX0_stateIn 6 = .ok (.ifCond .ne 5, 3) := by decide +kernel
theorem dX0_stateIn_9 : decode cX0_stateIn 9 = .ok (.iconst (-1), 1) := by decide +kernel
theorem dX0_stateIn_10 : decode cX0_stateIn 10 = .ok (.ireturn, 1) := by decide +kernel
theorem dX0_stateIn_11 : decode cX0_stateIn 11 = .ok (.aload_n 0, 1) := by decide +kernel
theorem dX0_stateIn_12 : decode cX0_stateIn 12 = .ok (.getfield 18, 3) := by decide +kernel
theorem dX0_stateIn_15 : decode cX0_stateIn 15 = .ok (.iload_n 1, 1) := by decide +kernel
theorem dX0_stateIn_16 : decode cX0_stateIn 16 = .ok (.iaload, 1) := by decide +kernel
theorem dX0_stateIn_17 : decode cX0_stateIn 17 = .ok (.ifCond .le 7, 3) := by decide +kernel
theorem dX0_stateIn_20 : decode cX0_stateIn 20 = .ok (.iconst 1, 1) := by decide +kernel
theorem dX0_stateIn_21 : decode cX0_stateIn 21 = .ok (.goto 4, 3) := by decide +kernel
theorem dX0_stateIn_24 : decode cX0_stateIn 24 = .ok (.iconst 0, 1) := by decide +kernel
theorem dX0_stateIn_25 : decode cX0_stateIn 25 = .ok (.ireturn, 1) := by decide +kernel
theorem dX0_pointsIf_0 : decode cX0_pointsIf 0 = .ok (.iload_n 1, 1) := by decide +kernel
theorem dX0_pointsIf_1 : decode cX0_pointsIf 1 = .ok (.lookupswitch 42 #[(0, 35), (1, 27)], 27) := by decide +kernel
theorem dX0_pointsIf_28 : decode cX0_pointsIf 28 = .ok (.bipush 6, 2) := by decide +kernel
theorem dX0_pointsIf_30 : decode cX0_pointsIf 30 = .ok (.aload_n 0, 1) := by decide +kernel
theorem dX0_pointsIf_31 : decode cX0_pointsIf 31 = .ok (.getfield 21, 3) := by decide +kernel
theorem dX0_pointsIf_34 : decode cX0_pointsIf 34 = .ok (.imul, 1) := by decide +kernel
theorem dX0_pointsIf_35 : decode cX0_pointsIf 35 = .ok (.ireturn, 1) := by decide +kernel
theorem dX0_pointsIf_36 : decode cX0_pointsIf 36 = .ok (.iconst 2, 1) := by decide +kernel
theorem dX0_pointsIf_37 : decode cX0_pointsIf 37 = .ok (.aload_n 0, 1) := by decide +kernel
theorem dX0_pointsIf_38 : decode cX0_pointsIf 38 = .ok (.getfield 21, 3) := by decide +kernel
theorem dX0_pointsIf_41 : decode cX0_pointsIf 41 = .ok (.imul, 1) := by decide +kernel
theorem dX0_pointsIf_42 : decode cX0_pointsIf 42 = .ok (.ireturn, 1) := by decide +kernel
theorem dX0_pointsIf_43 : decode cX0_pointsIf 43 = .ok (.iconst 0, 1) := by decide +kernel
theorem dX0_pointsIf_44 : decode cX0_pointsIf 44 = .ok (.ireturn, 1) := by decide +kernel
theorem dX1_init_0 : decode cX1_init 0 = .ok (.aload_n 0, 1) := by decide +kernel
theorem dX1_init_1 : decode cX1_init 1 = .ok (.invokespecial 1, 3) := by decide +kernel
theorem dX1_init_4 : decode cX1_init 4 = .ok (.return_, 1) := by decide +kernel
theorem dX1_set_0 : decode cX1_set 0 = .ok (.aload_n 0, 1) := by decide +kernel
theorem dX1_set_1 : decode cX1_set 1 = .ok (.iload_n 1, 1) := by decide +kernel
theorem dX1_set_2 : decode cX1_set 2 = .ok (.putfield 7, 3) := by decide +kernel
theorem dX1_set_5 : decode cX1_set 5 = .ok (.aload_n 0, 1) := by decide +kernel
theorem dX1_set_6 : decode cX1_set 6 = .ok (.iload_n 2, 1) := by decide +kernel
theorem dX1_set_7 : decode cX1_set 7 = .ok (.putfield 13, 3) := by decide +kernel
theorem dX1_set_10 : decode cX1_set 10 = .ok (.aload_n 0, 1) := by decide +kernel
theorem dX1_set_11 : decode cX1_set 11 = .ok (.iload_n 3, 1) := by decide +kernel
theorem dX1_set_12 : decode cX1_set 12 = .ok (.putfield 16, 3) := by decide +kernel
theorem dX1_set_15 : decode cX1_set 15 = .ok (.aload_n 0, 1) := by decide +kernel
theorem dX1_set_16 : decode cX1_set 16 = .ok (.iload 4, 2) := by decide +kernel
theorem dX1_set_18 : decode cX1_set 18 = .ok (.putfield 19, 3) := by decide +kernel
theorem dX1_set_21 : decode cX1_set 21 = .ok (.aload_n 0, 1) := by decide +kernel
theorem dX1_set_22 : decode cX1_set 22 = .ok (.aload_n 0, 1) := by decide +kernel
theorem dX1_set_23 : decode cX1_set 23 = .ok (.getfield 7, 3) := by decide +kernel
theorem dX1_set_26 : decode cX1_set 26 = .ok (.invokestatic 22, 3) := by decide +kernel
theorem dX1_set_29 : decode cX1_set 29 = .ok (.aload_n 0, 1) := by decide +kernel
theorem dX1_set_30 : decode cX1_set 30 = .ok (.getfield 13, 3) := by decide +kernel
theorem dX1_set_33 : decode cX1_set 33 = .ok (.invokestatic 22, 3) := by decide +kernel
theorem dX1_set_36 : decode cX1_set 36 = .ok (.aload_n 0, 1) := by decide +kernel
theorem dX1_set_37 : decode cX1_set 37 = .ok (.getfield 16, 3) := by decide +kernel
theorem dX1_set_40 : decode cX1_set 40 = .ok (.invokestatic 22, 3) := by decide +kernel
theorem dX1_set_43 : decode cX1_set 43 = .ok (.invokestatic 28, 3) := by decide +kernel
theorem dX1_set_46 : decode cX1_set 46 = .ok (.invokestatic 28, 3) := by decide +kernel
theorem dX1_set_49 : decode cX1_set 49 = .ok (.putfield 32, 3) := by decide +kernel
theorem dX1_set_52 : decode cX1_set 52 = .ok (.aload_n 0, 1) := by decide +kernel
theorem dX1_set_53 : decode cX1_set 53 = .ok (.iconst 0, 1) := by decide +kernel
theorem dX1_set_54 : decode cX1_set 54 = .ok (.putfield 35, 3) := by decide +kernel
theorem dX1_set_57 : decode cX1_set 57 = .ok (.aload_n 0, 1) := by decide +kernel
theorem dX1_set_58 : decode cX1_set 58 = .ok (.iconst 0, 1) := by decide +kernel
theorem dX1_set_59 : decode cX1_set 59 = .ok (.putfield 39, 3) := by decide +kernel
theorem dX1_set_62 : decode cX1_set 62 = .ok (.return_, 1) := by decide +kernel
theorem dX1_heightOf_0 : decode cX1_heightOf 0 = .ok (.aload_n 0, 1) := by decide +kernel
theorem dX1_heightOf_1 : decode cX1_heightOf 1 = .ok (.getfield 7, 3) := by decide +kernel
theorem dX1_heightOf_4 : decode cX1_heightOf 4 = .ok (.iload_n 1, 1) := by decide +kernel
theorem dX1_heightOf_5 : decode cX1_heightOf 5 = .ok (.imul, 1) := by decide +kernel
theorem dX1_heightOf_6 : decode cX1_heightOf 6 = .ok (.aload_n 0, 1) := by decide +kernel
theorem dX1_heightOf_7 : decode cX1_heightOf 7 = .ok (.getfield 13, 3) := by decide +kernel
theorem dX1_heightOf_10 : decode cX1_heightOf 10 = .ok (.iload_n 2, 1) := by decide +kernel
theorem dX1_heightOf_11 : decode cX1_heightOf 11 = .ok (.imul, 1) := by decide +kernel
theorem dX1_heightOf_12 : decode cX1_heightOf 12 = .ok (.iadd, 1) := by decide +kernel
theorem dX1_heightOf_13 : decode cX1_heightOf 13 = .ok (.aload_n 0, 1) := by decide +kernel
theorem dX1_heightOf_14 : decode cX1_heightOf 14 = .ok (.getfield 16, 3) := by decide +kernel
theorem dX1_heightOf_17 : decode cX1_heightOf 17 = .ok (.iload_n 3, 1) := by decide +kernel
theorem dX1_heightOf_18 : decode cX1_heightOf 18 = .ok (.imul, 1) := by decide +kernel
theorem dX1_heightOf_19 : decode cX1_heightOf 19 = .ok (.iadd, 1) := by decide +kernel
theorem dX1_heightOf_20 : decode cX1_heightOf 20 = .ok (.ireturn, 1) := by decide +kernel
theorem dX1_touches_0 : decode cX1_touches 0 = .ok (.aload_n 0, 1) := by decide +kernel
theorem dX1_touches_1 : decode cX1_touches 1 = .ok (.iload_n 1, 1) := by decide +kernel
theorem dX1_touches_2 : decode cX1_touches 2 = .ok (.iload_n 2, 1) := by decide +kernel
theorem dX1_touches_3 : decode cX1_touches 3 = .ok (.iload_n 3, 1) := by decide +kernel
theorem dX1_touches_4 : decode cX1_touches 4 = .ok (.invokevirtual 42, 3) := by decide +kernel
theorem dX1_touches_7 : decode cX1_touches 7 = .ok (.aload_n 0, 1) := by decide +kernel
theorem dX1_touches_8 : decode cX1_touches 8 = .ok (.getfield 32, 3) := by decide +kernel
theorem dX1_touches_11 : decode cX1_touches 11 = .ok (.iadd, 1) := by decide +kernel
theorem dX1_touches_12 : decode cX1_touches 12 = .ok (.aload_n 0, 1) := by decide +kernel
theorem dX1_touches_13 : decode cX1_touches 13 = .ok (.getfield 19, 3) := by decide +kernel
theorem dX1_touches_16 : decode cX1_touches 16 = .ok (.if_icmp .le 7, 3) := by decide +kernel
theorem dX1_touches_19 : decode cX1_touches 19 = .ok (.iconst 1, 1) := by decide +kernel
theorem dX1_touches_20 : decode cX1_touches 20 = .ok (.goto 4, 3) := by decide +kernel
theorem dX1_touches_23 : decode cX1_touches 23 = .ok (.iconst 0, 1) := by decide +kernel
theorem dX1_touches_24 : decode cX1_touches 24 = .ok (.ireturn, 1) := by decide +kernel
theorem dX1_isFacet_0 : decode cX1_isFacet 0 = .ok (.aload_n 0, 1) := by decide +kernel
theorem dX1_isFacet_1 : decode cX1_isFacet 1 = .ok (.getfield 39, 3) := by decide +kernel
theorem dX1_isFacet_4 : decode cX1_isFacet 4 = .ok (.ifCond .le 7, 3) := by decide +kernel
theorem dX1_isFacet_7 : decode cX1_isFacet 7 = .ok (.iconst 1, 1) := by decide +kernel
theorem dX1_isFacet_8 : decode cX1_isFacet 8 = .ok (.goto 4, 3) := by decide +kernel
theorem dX1_isFacet_11 : decode cX1_isFacet 11 = .ok (.iconst 0, 1) := by decide +kernel
theorem dX1_isFacet_12 : decode cX1_isFacet 12 = .ok (.ireturn, 1) := by decide +kernel
theorem dX1_productWith_0 : decode cX1_productWith 0 = .ok (.aload_n 0, 1) := by decide +kernel
theorem dX1_productWith_1 : decode cX1_productWith 1 = .ok (.getfield 7, 3) := by decide +kernel
theorem dX1_productWith_4 : decode cX1_productWith 4 = .ok (.aload_n 1, 1) := by decide +kernel
theorem dX1_productWith_5 : decode cX1_productWith 5 = .ok (.getfield 7, 3) := by decide +kernel
theorem dX1_productWith_8 : decode cX1_productWith 8 = .ok (.imul, 1) := by decide +kernel
theorem dX1_productWith_9 : decode cX1_productWith 9 = .ok (.aload_n 0, 1) := by decide +kernel
theorem dX1_productWith_10 : decode cX1_productWith 10 = .ok (.getfield 13, 3) := by decide +kernel
theorem dX1_productWith_13 : decode cX1_productWith 13 = .ok (.aload_n 1, 1) := by decide +kernel
theorem dX1_productWith_14 : decode cX1_productWith 14 = .ok (.getfield 13, 3) := by decide +kernel
theorem dX1_productWith_17 : decode cX1_productWith 17 = .ok (.imul, 1) := by decide +kernel
theorem dX1_productWith_18 : decode cX1_productWith 18 = .ok (.iadd, 1) := by decide +kernel
theorem dX1_productWith_19 : decode cX1_productWith 19 = .ok (.aload_n 0, 1) := by decide +kernel
theorem dX1_productWith_20 : decode cX1_productWith 20 = .ok (.getfield 16, 3) := by decide +kernel
theorem dX1_productWith_23 : decode cX1_productWith 23 = .ok (.aload_n 1, 1) := by decide +kernel
theorem dX1_productWith_24 : decode cX1_productWith 24 = .ok (.getfield 16, 3) := by decide +kernel
theorem dX1_productWith_27 : decode cX1_productWith 27 = .ok (.imul, 1) := by decide +kernel
theorem dX1_productWith_28 : decode cX1_productWith 28 = .ok (.iadd, 1) := by decide +kernel
theorem dX1_productWith_29 : decode cX1_productWith 29 = .ok (.ireturn, 1) := by decide +kernel
theorem dX1_angleTo_0 : decode cX1_angleTo 0 = .ok (.aload_n 0, 1) := by decide +kernel
theorem dX1_angleTo_1 : decode cX1_angleTo 1 = .ok (.aload_n 1, 1) := by decide +kernel
theorem dX1_angleTo_2 : decode cX1_angleTo 2 = .ok (.invokevirtual 46, 3) := by decide +kernel
theorem dX1_angleTo_5 : decode cX1_angleTo 5 = .ok (.istore_n 2, 1) := by decide +kernel
theorem dX1_angleTo_6 : decode cX1_angleTo 6 = .ok (.aload_n 0, 1) := by decide +kernel
theorem dX1_angleTo_7 : decode cX1_angleTo 7 = .ok (.aload_n 0, 1) := by decide +kernel
theorem dX1_angleTo_8 : decode cX1_angleTo 8 = .ok (.invokevirtual 46, 3) := by decide +kernel
theorem dX1_angleTo_11 : decode cX1_angleTo 11 = .ok (.aload_n 1, 1) := by decide +kernel
theorem dX1_angleTo_12 : decode cX1_angleTo 12 = .ok (.aload_n 1, 1) := by decide +kernel
theorem dX1_angleTo_13 : decode cX1_angleTo 13 = .ok (.invokevirtual 46, 3) := by decide +kernel
theorem dX1_angleTo_16 : decode cX1_angleTo 16 = .ok (.imul, 1) := by decide +kernel
theorem dX1_angleTo_17 : decode cX1_angleTo 17 = .ok (.istore_n 3, 1) := by decide +kernel
theorem dX1_angleTo_18 : decode cX1_angleTo 18 = .ok (.iload_n 3, 1) := by decide +kernel
theorem dX1_angleTo_19 : decode cX1_angleTo 19 = .ok (.ifCond .ne 5, 3) := by decide +kernel
theorem dX1_angleTo_22 : decode cX1_angleTo 22 = .ok (.iconst 0, 1) := by decide +kernel
theorem dX1_angleTo_23 : decode cX1_angleTo 23 = .ok (.ireturn, 1) := by decide +kernel
theorem dX1_angleTo_24 : decode cX1_angleTo 24 = .ok (.bipush 100, 2) := by decide +kernel
theorem dX1_angleTo_26 : decode cX1_angleTo 26 = .ok (.iload_n 2, 1) := by decide +kernel
theorem dX1_angleTo_27 : decode cX1_angleTo 27 = .ok (.imul, 1) := by decide +kernel
theorem dX1_angleTo_28 : decode cX1_angleTo 28 = .ok (.iload_n 2, 1) := by decide +kernel
theorem dX1_angleTo_29 : decode cX1_angleTo 29 = .ok (.imul, 1) := by decide +kernel
theorem dX1_angleTo_30 : decode cX1_angleTo 30 = .ok (.iload_n 3, 1) := by decide +kernel
theorem dX1_angleTo_31 : decode cX1_angleTo 31 = .ok (.idiv, 1) := by decide +kernel
theorem dX1_angleTo_32 : decode cX1_angleTo 32 = .ok (.istore 4, 2) := by decide +kernel
theorem dX1_angleTo_34 : decode cX1_angleTo 34 = .ok (.iload_n 2, 1) := by decide +kernel
theorem dX1_angleTo_35 : decode cX1_angleTo 35 = .ok (.ifCond .ge 9, 3) := by decide +kernel
theorem dX1_angleTo_38 : decode cX1_angleTo 38 = .ok (.iload 4, 2) := by decide +kernel
theorem dX1_angleTo_40 : decode cX1_angleTo 40 = .ok (.ineg, 1) := by decide +kernel
theorem dX1_angleTo_41 : decode cX1_angleTo 41 = .ok (.goto 5, 3) := by decide +kernel
theorem dX1_angleTo_44 : decode cX1_angleTo 44 = .ok (.iload 4, 2) := by decide +kernel
theorem dX1_angleTo_46 : decode cX1_angleTo 46 = .ok (.ireturn, 1) := by decide +kernel
theorem dX1_isOpposite_0 : decode cX1_isOpposite 0 = .ok (.aload_n 0, 1) := by decide +kernel
theorem dX1_isOpposite_1 : decode cX1_isOpposite 1 = .ok (.getfield 7, 3) := by decide +kernel
theorem dX1_isOpposite_4 : decode cX1_isOpposite 4 = .ok (.aload_n 1, 1) := by decide +kernel
theorem dX1_isOpposite_5 : decode cX1_isOpposite 5 = .ok (.getfield 7, 3) := by decide +kernel
theorem dX1_isOpposite_8 : decode cX1_isOpposite 8 = .ok (.ineg, 1) := by decide +kernel
theorem dX1_isOpposite_9 : decode cX1_isOpposite 9 = .ok (.if_icmp .ne 31, 3) := by decide +kernel
theorem dX1_isOpposite_12 : decode cX1_isOpposite 12 = .ok (.aload_n 0, 1) := by decide +kernel
theorem dX1_isOpposite_13 : decode cX1_isOpposite 13 = .ok (.getfield 13, 3) := by decide +kernel
theorem dX1_isOpposite_16 : decode cX1_isOpposite 16 = .ok (.aload_n 1, 1) := by decide +kernel
theorem dX1_isOpposite_17 : decode cX1_isOpposite 17 = .ok (.getfield 13, 3) := by decide +kernel
theorem dX1_isOpposite_20 : decode cX1_isOpposite 20 = .ok (.ineg, 1) := by decide +kernel
theorem dX1_isOpposite_21 : decode cX1_isOpposite 21 = .ok (.if_icmp .ne 19, 3) := by decide +kernel
theorem dX1_isOpposite_24 : decode cX1_isOpposite 24 = .ok (.aload_n 0, 1) := by decide +kernel
theorem dX1_isOpposite_25 : decode cX1_isOpposite 25 = .ok (.getfield 16, 3) := by decide +kernel
theorem dX1_isOpposite_28 : decode cX1_isOpposite 28 = .ok (.aload_n 1, 1) := by decide +kernel
theorem dX1_isOpposite_29 : decode cX1_isOpposite 29 = .ok (.getfield 16, 3) := by decide +kernel
theorem dX1_isOpposite_32 : decode cX1_isOpposite 32 = .ok (.ineg, 1) := by decide +kernel
theorem dX1_isOpposite_33 : decode cX1_isOpposite 33 = .ok (.if_icmp .ne 7, 3) := by decide +kernel
theorem dX1_isOpposite_36 : decode cX1_isOpposite 36 = .ok (.iconst 1, 1) := by decide +kernel
theorem dX1_isOpposite_37 : decode cX1_isOpposite 37 = .ok (.goto 4, 3) := by decide +kernel
theorem dX1_isOpposite_40 : decode cX1_isOpposite 40 = .ok (.iconst 0, 1) := by decide +kernel
theorem dX1_isOpposite_41 : decode cX1_isOpposite 41 = .ok (.ireturn, 1) := by decide +kernel
theorem dX1_tell_0 : decode cX1_tell 0 = .ok (.iload_n 1, 1) := by decide +kernel
theorem dX1_tell_1 : decode cX1_tell 1 = .ok (.tableswitch 60 0 4 #[35, 40, 45, 50, 55], 35) := by decide +kernel
theorem dX1_tell_36 : decode cX1_tell 36 = .ok (.aload_n 0, 1) := by decide +kernel
theorem dX1_tell_37 : decode cX1_tell 37 = .ok (.getfield 7, 3) := by decide +kernel
theorem dX1_tell_40 : decode cX1_tell 40 = .ok (.ireturn, 1) := by decide +kernel
theorem dX1_tell_41 : decode cX1_tell 41 = .ok (.aload_n 0, 1) := by decide +kernel
theorem dX1_tell_42 : decode cX1_tell 42 = .ok (.getfield 13, 3) := by decide +kernel
theorem dX1_tell_45 : decode cX1_tell 45 = .ok (.ireturn, 1) := by decide +kernel
theorem dX1_tell_46 : decode cX1_tell 46 = .ok (.aload_n 0, 1) := by decide +kernel
theorem dX1_tell_47 : decode cX1_tell 47 = .ok (.getfield 16, 3) := by decide +kernel
theorem dX1_tell_50 : decode cX1_tell 50 = .ok (.ireturn, 1) := by decide +kernel
theorem dX1_tell_51 : decode cX1_tell 51 = .ok (.aload_n 0, 1) := by decide +kernel
theorem dX1_tell_52 : decode cX1_tell 52 = .ok (.getfield 19, 3) := by decide +kernel
theorem dX1_tell_55 : decode cX1_tell 55 = .ok (.ireturn, 1) := by decide +kernel
theorem dX1_tell_56 : decode cX1_tell 56 = .ok (.aload_n 0, 1) := by decide +kernel
theorem dX1_tell_57 : decode cX1_tell 57 = .ok (.getfield 39, 3) := by decide +kernel
theorem dX1_tell_60 : decode cX1_tell 60 = .ok (.ireturn, 1) := by decide +kernel
theorem dX1_tell_61 : decode cX1_tell 61 = .ok (.aload_n 0, 1) := by decide +kernel
theorem dX1_tell_62 : decode cX1_tell 62 = .ok (.getfield 35, 3) := by decide +kernel
theorem dX1_tell_65 : decode cX1_tell 65 = .ok (.ifCond .eq 7, 3) := by decide +kernel
theorem dX1_tell_68 : decode cX1_tell 68 = .ok (.iconst 1, 1) := by decide +kernel
theorem dX1_tell_69 : decode cX1_tell 69 = .ok (.goto 4, 3) := by decide +kernel
theorem dX1_tell_72 : decode cX1_tell 72 = .ok (.iconst 0, 1) := by decide +kernel
theorem dX1_tell_73 : decode cX1_tell 73 = .ok (.ireturn, 1) := by decide +kernel
theorem dX2_init_0 : decode cX2_init 0 = .ok (.aload_n 0, 1) := by decide +kernel
theorem dX2_init_1 : decode cX2_init 1 = .ok (.invokespecial 3, 3) := by decide +kernel
theorem dX2_init_4 : decode cX2_init 4 = .ok (.aload_n 0, 1) := by decide +kernel
theorem dX2_init_5 : decode cX2_init 5 = .ok (.sipush 1000, 3) := by decide +kernel
theorem dX2_init_8 : decode cX2_init 8 = .ok (.newarray .int, 2) := by decide +kernel
theorem dX2_init_10 : decode cX2_init 10 = .ok (.putfield 9, 3) := by decide +kernel
theorem dX2_init_13 : decode cX2_init 13 = .ok (.aload_n 0, 1) := by decide +kernel
theorem dX2_init_14 : decode cX2_init 14 = .ok (.sipush 1000, 3) := by decide +kernel
theorem dX2_init_17 : decode cX2_init 17 = .ok (.newarray .boolean, 2) := by decide +kernel
theorem dX2_init_19 : decode cX2_init 19 = .ok (.putfield 15, 3) := by decide +kernel
theorem dX2_init_22 : decode cX2_init 22 = .ok (.aload_n 0, 1) := by decide +kernel
theorem dX2_init_23 : decode cX2_init 23 = .ok (.bipush 10, 2) := by decide +kernel
theorem dX2_init_25 : decode cX2_init 25 = .ok (.anewarray 19, 3) := by decide +kernel
theorem dX2_init_28 : decode cX2_init 28 = .ok (.putfield 21, 3) := by decide +kernel
theorem dX2_init_31 : decode cX2_init 31 = .ok (.iconst 0, 1) := by decide +kernel
theorem dX2_init_32 : decode cX2_init 32 = .ok (.istore_n 1, 1) := by decide +kernel
theorem dX2_init_33 : decode cX2_init 33 = .ok (.iload_n 1, 1) := by decide +kernel
theorem dX2_init_34 : decode cX2_init 34 = .ok (.bipush 10, 2) := by decide +kernel
theorem dX2_init_36 : decode cX2_init 36 = .ok (.if_icmp .ge 22, 3) := by decide +kernel
theorem dX2_init_39 : decode cX2_init 39 = .ok (.aload_n 0, 1) := by decide +kernel
theorem dX2_init_40 : decode cX2_init 40 = .ok (.getfield 21, 3) := by decide +kernel
theorem dX2_init_43 : decode cX2_init 43 = .ok (.iload_n 1, 1) := by decide +kernel
theorem dX2_init_44 : decode cX2_init 44 = .ok (.new 19, 3) := by decide +kernel
theorem dX2_init_47 : decode cX2_init 47 = .ok (.dup, 1) := by decide +kernel
theorem dX2_init_48 : decode cX2_init 48 = .ok (.invokespecial 25, 3) := by decide +kernel
theorem dX2_init_51 : decode cX2_init 51 = .ok (.aastore, 1) := by decide +kernel
theorem dX2_init_52 : decode cX2_init 52 = .ok (.iinc 1 1, 3) := by decide +kernel
theorem dX2_init_55 : decode cX2_init 55 = .ok (.goto (-22), 3) := by decide +kernel
theorem dX2_init_58 : decode cX2_init 58 = .ok (.return_, 1) := by decide +kernel
theorem dX2_begin_0 : decode cX2_begin 0 = .ok (.aload_n 0, 1) := by decide +kernel
theorem dX2_begin_1 : decode cX2_begin 1 = .ok (.iload_n 1, 1) := by decide +kernel
theorem dX2_begin_2 : decode cX2_begin 2 = .ok (.putfield 26, 3) := by decide +kernel
theorem dX2_begin_5 : decode cX2_begin 5 = .ok (.aload_n 0, 1) := by decide +kernel
theorem dX2_begin_6 : decode cX2_begin 6 = .ok (.iload_n 2, 1) := by decide +kernel
theorem dX2_begin_7 : decode cX2_begin 7 = .ok (.putfield 30, 3) := by decide +kernel
theorem dX2_begin_10 : decode cX2_begin 10 = .ok (.aload_n 0, 1) := by decide +kernel
theorem dX2_begin_11 : decode cX2_begin 11 = .ok (.iload_n 3, 1) := by decide +kernel
theorem dX2_begin_12 : decode cX2_begin 12 = .ok (.putfield 33, 3) := by decide +kernel
theorem dX2_begin_15 : decode cX2_begin 15 = .ok (.aload_n 0, 1) := by decide +kernel
theorem dX2_begin_16 : decode cX2_begin 16 = .ok (.iconst 0, 1) := by decide +kernel
theorem dX2_begin_17 : decode cX2_begin 17 = .ok (.putfield 36, 3) := by decide +kernel
theorem dX2_begin_20 : decode cX2_begin 20 = .ok (.aload_n 0, 1) := by decide +kernel
theorem dX2_begin_21 : decode cX2_begin 21 = .ok (.invokevirtual 39, 3) := by decide +kernel
theorem dX2_begin_24 : decode cX2_begin 24 = .ok (.istore 4, 2) := by decide +kernel
theorem dX2_begin_26 : decode cX2_begin 26 = .ok (.iconst 0, 1) := by decide +kernel
theorem dX2_begin_27 : decode cX2_begin 27 = .ok (.istore 5, 2) := by decide +kernel
theorem dX2_begin_29 : decode cX2_begin 29 = .ok (.iload 5, 2) := by decide +kernel
theorem dX2_begin_31 : decode cX2_begin 31 = .ok (.iload 4, 2) := by decide +kernel
theorem dX2_begin_33 : decode cX2_begin 33 = .ok (.if_icmp .ge 17, 3) := by decide +kernel
theorem dX2_begin_36 : decode cX2_begin 36 = .ok (.aload_n 0, 1) := by decide +kernel
theorem dX2_begin_37 : decode cX2_begin 37 = .ok (.getfield 9, 3) := by decide +kernel
theorem dX2_begin_40 : decode cX2_begin 40 = .ok (.iload 5, 2) := by decide +kernel
theorem dX2_begin_42 : decode cX2_begin 42 = .ok (.iconst 0, 1) := by decide +kernel
theorem dX2_begin_43 : decode cX2_begin 43 = .ok (.iastore, 1) := by decide +kernel
theorem dX2_begin_44 : decode cX2_begin 44 = .ok (.iinc 5 1, 3) := by decide +kernel
theorem dX2_begin_47 : decode cX2_begin 47 = .ok (.goto (-18), 3) := by decide +kernel
theorem dX2_begin_50 : decode cX2_begin 50 = .ok (.return_, 1) := by decide +kernel
theorem dX2_size_0 : decode cX2_size 0 = .ok (.aload_n 0, 1) := by decide +kernel
theorem dX2_size_1 : decode cX2_size 1 = .ok (.getfield 26, 3) := by decide +kernel
theorem dX2_size_4 : decode cX2_size 4 = .ok (.aload_n 0, 1) := by decide +kernel
theorem dX2_size_5 : decode cX2_size 5 = .ok (.getfield 30, 3) := by decide +kernel
theorem dX2_size_8 : decode cX2_size 8 = .ok (.imul, 1) := by decide +kernel
theorem dX2_size_9 : decode cX2_size 9 = .ok (.aload_n 0, 1) := by decide +kernel
theorem dX2_size_10 : decode cX2_size 10 = .ok (.getfield 33, 3) := by decide +kernel
theorem dX2_size_13 : decode cX2_size 13 = .ok (.imul, 1) := by decide +kernel
theorem dX2_size_14 : decode cX2_size 14 = .ok (.ireturn, 1) := by decide +kernel
theorem dX2_holds_0 : decode cX2_holds 0 = .ok (.iload_n 1, 1) := by decide +kernel
theorem dX2_holds_1 : decode cX2_holds 1 = .ok (.ifCond .lt 39, 3) := by decide +kernel
theorem dX2_holds_4 : decode cX2_holds 4 = .ok (.iload_n 1, 1) := by decide +kernel
theorem dX2_holds_5 : decode cX2_holds 5 = .ok (.aload_n 0, 1) := by decide +kernel
theorem dX2_holds_6 : decode cX2_holds 6 = .ok (.getfield 26, 3) := by decide +kernel
theorem dX2_holds_9 : decode cX2_holds 9 = .ok (.if_icmp .ge 31, 3) := by decide +kernel
theorem dX2_holds_12 : decode cX2_holds 12 = .ok (.iload_n 2, 1) := by decide +kernel
theorem dX2_holds_13 : decode cX2_holds 13 = .ok (.ifCond .lt 27, 3) := by decide +kernel
theorem dX2_holds_16 : decode cX2_holds 16 = .ok (.iload_n 2, 1) := by decide +kernel
theorem dX2_holds_17 : decode cX2_holds 17 = .ok (.aload_n 0, 1) := by decide +kernel
theorem dX2_holds_18 : decode cX2_holds 18 = .ok (.getfield 30, 3) := by decide +kernel
theorem dX2_holds_21 : decode cX2_holds 21 = .ok (.if_icmp .ge 19, 3) := by decide +kernel
theorem dX2_holds_24 : decode cX2_holds 24 = .ok (.iload_n 3, 1) := by decide +kernel
theorem dX2_holds_25 : decode cX2_holds 25 = .ok (.ifCond .lt 15, 3) := by decide +kernel
theorem dX2_holds_28 : decode cX2_holds 28 = .ok (.iload_n 3, 1) := by decide +kernel
theorem dX2_holds_29 : decode cX2_holds 29 = .ok (.aload_n 0, 1) := by decide +kernel
theorem dX2_holds_30 : decode cX2_holds 30 = .ok (.getfield 33, 3) := by decide +kernel
theorem dX2_holds_33 : decode cX2_holds 33 = .ok (.if_icmp .ge 7, 3) := by decide +kernel
theorem dX2_holds_36 : decode cX2_holds 36 = .ok (.iconst 1, 1) := by decide +kernel
theorem dX2_holds_37 : decode cX2_holds 37 = .ok (.goto 4, 3) := by decide +kernel
theorem dX2_holds_40 : decode cX2_holds 40 = .ok (.iconst 0, 1) := by decide +kernel
theorem dX2_holds_41 : decode cX2_holds 41 = .ok (.ireturn, 1) := by decide +kernel
theorem dX2_indexOf_0 : decode cX2_indexOf 0 = .ok (.iload_n 3, 1) := by decide +kernel
theorem dX2_indexOf_1 : decode cX2_indexOf 1 = .ok (.aload_n 0, 1) := by decide +kernel
theorem dX2_indexOf_2 : decode cX2_indexOf 2 = .ok (.getfield 30, 3) := by decide +kernel
theorem dX2_indexOf_5 : decode cX2_indexOf 5 = .ok (.imul, 1) := by decide +kernel
theorem dX2_indexOf_6 : decode cX2_indexOf 6 = .ok (.iload_n 2, 1) := by decide +kernel
theorem dX2_indexOf_7 : decode cX2_indexOf 7 = .ok (.iadd, 1) := by decide +kernel
theorem dX2_indexOf_8 : decode cX2_indexOf 8 = .ok (.aload_n 0, 1) := by decide +kernel
theorem dX2_indexOf_9 : decode cX2_indexOf 9 = .ok (.getfield 26, 3) := by decide +kernel
theorem dX2_indexOf_12 : decode cX2_indexOf 12 = .ok (.imul, 1) := by decide +kernel
theorem dX2_indexOf_13 : decode cX2_indexOf 13 = .ok (.iload_n 1, 1) := by decide +kernel
theorem dX2_indexOf_14 : decode cX2_indexOf 14 = .ok (.iadd, 1) := by decide +kernel
theorem dX2_indexOf_15 : decode cX2_indexOf 15 = .ok (.ireturn, 1) := by decide +kernel
theorem dX2_ownerAt_0 : decode cX2_ownerAt 0 = .ok (.aload_n 0, 1) := by decide +kernel
theorem dX2_ownerAt_1 : decode cX2_ownerAt 1 = .ok (.iload_n 1, 1) := by decide +kernel
theorem dX2_ownerAt_2 : decode cX2_ownerAt 2 = .ok (.iload_n 2, 1) := by decide +kernel
theorem dX2_ownerAt_3 : decode cX2_ownerAt 3 = .ok (.iload_n 3, 1) := by decide +kernel
theorem dX2_ownerAt_4 : decode cX2_ownerAt 4 = .ok (.invokevirtual 43, 3) := by decide +kernel
theorem dX2_ownerAt_7 : decode cX2_ownerAt 7 = .ok (.ifCond .eq 18, 3) := by decide +kernel
theorem dX2_ownerAt_10 : decode cX2_ownerAt 10 = .ok (.aload_n 0, 1) := by decide +kernel
theorem dX2_ownerAt_11 : decode cX2_ownerAt 11 = .ok (.getfield 9, 3) := by decide +kernel
theorem dX2_ownerAt_14 : decode cX2_ownerAt 14 = .ok (.aload_n 0, 1) := by decide +kernel
theorem dX2_ownerAt_15 : decode cX2_ownerAt 15 = .ok (.iload_n 1, 1) := by decide +kernel
theorem dX2_ownerAt_16 : decode cX2_ownerAt 16 = .ok (.iload_n 2, 1) := by decide +kernel
theorem dX2_ownerAt_17 : decode cX2_ownerAt 17 = .ok (.iload_n 3, 1) := by decide +kernel
theorem dX2_ownerAt_18 : decode cX2_ownerAt 18 = .ok (.invokevirtual 47, 3) := by decide +kernel
theorem dX2_ownerAt_21 : decode cX2_ownerAt 21 = .ok (.iaload, 1) := by decide +kernel
theorem dX2_ownerAt_22 : decode cX2_ownerAt 22 = .ok (.goto 4, 3) := by decide +kernel
theorem dX2_ownerAt_25 : decode cX2_ownerAt 25 = .ok (.iconst (-1), 1) := by decide +kernel
theorem dX2_ownerAt_26 : decode cX2_ownerAt 26 = .ok (.ireturn, 1) := by decide +kernel
theorem dX2_isBare_0 : decode cX2_isBare 0 = .ok (.aload_n 0, 1) := by decide +kernel
theorem dX2_isBare_1 : decode cX2_isBare 1 = .ok (.iload_n 2, 1) := by decide +kernel
theorem dX2_isBare_2 : decode cX2_isBare 2 = .ok (.iconst 1, 1) := by decide +kernel
theorem dX2_isBare_3 : decode cX2_isBare 3 = .ok (.isub, 1) := by decide +kernel
theorem dX2_isBare_4 : decode cX2_isBare 4 = .ok (.iload_n 3, 1) := by decide +kernel
theorem dX2_isBare_5 : decode cX2_isBare 5 = .ok (.iload 4, 2) := by decide +kernel
theorem dX2_isBare_7 : decode cX2_isBare 7 = .ok (.invokevirtual 51, 3) := by decide +kernel
theorem dX2_isBare_10 : decode cX2_isBare 10 = .ok (.iload_n 1, 1) := by decide +kernel
theorem dX2_isBare_11 : decode cX2_isBare 11 = .ok (.if_icmp .ne 73, 3) := by decide +kernel
theorem dX2_isBare_14 : decode cX2_isBare 14 = .ok (.aload_n 0, 1) := by decide +kernel
theorem dX2_isBare_15 : decode cX2_isBare 15 = .ok (.iload_n 2, 1) := by decide +kernel
theorem dX2_isBare_16 : decode cX2_isBare 16 = .ok (.iconst 1, 1) := by decide +kernel
theorem dX2_isBare_17 : decode cX2_isBare 17 = .ok (.iadd, 1) := by decide +kernel
theorem dX2_isBare_18 : decode cX2_isBare 18 = .ok (.iload_n 3, 1) := by decide +kernel
theorem dX2_isBare_19 : decode cX2_isBare 19 = .ok (.iload 4, 2) := by decide +kernel
theorem dX2_isBare_21 : decode cX2_isBare 21 = .ok (.invokevirtual 51, 3) := by decide +kernel
theorem dX2_isBare_24 : decode cX2_isBare 24 = .ok (.iload_n 1, 1) := by decide +kernel
theorem dX2_isBare_25 : decode cX2_isBare 25 = .ok (.if_icmp .ne 59, 3) := by decide +kernel
theorem dX2_isBare_28 : decode cX2_isBare 28 = .ok (.aload_n 0, 1) := by decide +kernel
theorem dX2_isBare_29 : decode cX2_isBare 29 = .ok (.iload_n 2, 1) := by decide +kernel
theorem dX2_isBare_30 : decode cX2_isBare 30 = .ok (.iload_n 3, 1) := by decide +kernel
theorem dX2_isBare_31 : decode cX2_isBare 31 = .ok (.iconst 1, 1) := by decide +kernel
theorem dX2_isBare_32 : decode cX2_isBare 32 = .ok (.isub, 1) := by decide +kernel
theorem dX2_isBare_33 : decode cX2_isBare 33 = .ok (.iload 4, 2) := by decide +kernel
theorem dX2_isBare_35 : decode cX2_isBare 35 = .ok (.invokevirtual 51, 3) := by decide +kernel
theorem dX2_isBare_38 : decode cX2_isBare 38 = .ok (.iload_n 1, 1) := by decide +kernel
theorem dX2_isBare_39 : decode cX2_isBare 39 = .ok (.if_icmp .ne 45, 3) := by decide +kernel
theorem dX2_isBare_42 : decode cX2_isBare 42 = .ok (.aload_n 0, 1) := by decide +kernel
theorem dX2_isBare_43 : decode cX2_isBare 43 = .ok (.iload_n 2, 1) := by decide +kernel
theorem dX2_isBare_44 : decode cX2_isBare 44 = .ok (.iload_n 3, 1) := by decide +kernel
theorem dX2_isBare_45 : decode cX2_isBare 45 = .ok (.iconst 1, 1) := by decide +kernel
theorem dX2_isBare_46 : decode cX2_isBare 46 = .ok (.iadd, 1) := by decide +kernel
theorem dX2_isBare_47 : decode cX2_isBare 47 = .ok (.iload 4, 2) := by decide +kernel
theorem dX2_isBare_49 : decode cX2_isBare 49 = .ok (.invokevirtual 51, 3) := by decide +kernel
theorem dX2_isBare_52 : decode cX2_isBare 52 = .ok (.iload_n 1, 1) := by decide +kernel
theorem dX2_isBare_53 : decode cX2_isBare 53 = .ok (.if_icmp .ne 31, 3) := by decide +kernel
theorem dX2_isBare_56 : decode cX2_isBare 56 = .ok (.aload_n 0, 1) := by decide +kernel
theorem dX2_isBare_57 : decode cX2_isBare 57 = .ok (.iload_n 2, 1) := by decide +kernel
theorem dX2_isBare_58 : decode cX2_isBare 58 = .ok (.iload_n 3, 1) := by decide +kernel
theorem dX2_isBare_59 : decode cX2_isBare 59 = .ok (.iload 4, 2) := by decide +kernel
theorem dX2_isBare_61 : decode cX2_isBare 61 = .ok (.iconst 1, 1) := by decide +kernel
theorem dX2_isBare_62 : decode cX2_isBare 62 = .ok (.isub, 1) := by decide +kernel
theorem dX2_isBare_63 : decode cX2_isBare 63 = .ok (.invokevirtual 51, 3) := by decide +kernel
theorem dX2_isBare_66 : decode cX2_isBare 66 = .ok (.iload_n 1, 1) := by decide +kernel
theorem dX2_isBare_67 : decode cX2_isBare 67 = .ok (.if_icmp .ne 17, 3) := by decide +kernel
theorem dX2_isBare_70 : decode cX2_isBare 70 = .ok (.aload_n 0, 1) := by decide +kernel
theorem dX2_isBare_71 : decode cX2_isBare 71 = .ok (.iload_n 2, 1) := by decide +kernel
theorem dX2_isBare_72 : decode cX2_isBare 72 = .ok (.iload_n 3, 1) := by decide +kernel
theorem dX2_isBare_73 : decode cX2_isBare 73 = .ok (.iload 4, 2) := by decide +kernel
theorem dX2_isBare_75 : decode cX2_isBare 75 = .ok (.iconst 1, 1) := by decide +kernel
theorem dX2_isBare_76 : decode cX2_isBare 76 = .ok (.iadd, 1) := by decide +kernel
theorem dX2_isBare_77 : decode cX2_isBare 77 = .ok (.invokevirtual 51, 3) := by decide +kernel
theorem dX2_isBare_80 : decode cX2_isBare 80 = .ok (.iload_n 1, 1) := by decide +kernel
theorem dX2_isBare_81 : decode cX2_isBare 81 = .ok (.if_icmp .eq 7, 3) := by decide +kernel
theorem dX2_isBare_84 : decode cX2_isBare 84 = .ok (.iconst 1, 1) := by decide +kernel
theorem dX2_isBare_85 : decode cX2_isBare 85 = .ok (.goto 4, 3) := by decide +kernel
theorem dX2_isBare_88 : decode cX2_isBare 88 = .ok (.iconst 0, 1) := by decide +kernel
theorem dX2_isBare_89 : decode cX2_isBare 89 = .ok (.ireturn, 1) := by decide +kernel
theorem dX2_addFlaw_0 : decode cX2_addFlaw 0 = .ok (.aload_n 0, 1) := by decide +kernel
theorem dX2_addFlaw_1 : decode cX2_addFlaw 1 = .ok (.getfield 21, 3) := by decide +kernel
theorem dX2_addFlaw_4 : decode cX2_addFlaw 4 = .ok (.aload_n 0, 1) := by decide +kernel
theorem dX2_addFlaw_5 : decode cX2_addFlaw 5 = .ok (.getfield 36, 3) := by decide +kernel
theorem dX2_addFlaw_8 : decode cX2_addFlaw 8 = .ok (.aaload, 1) := by decide +kernel
theorem dX2_addFlaw_9 : decode cX2_addFlaw 9 = .ok (.astore 6, 2) := by decide +kernel
theorem dX2_addFlaw_11 : decode cX2_addFlaw 11 = .ok (.aload 6, 2) := by decide +kernel
theorem dX2_addFlaw_13 : decode cX2_addFlaw 13 = .ok (.iload 5, 2) := by decide +kernel
theorem dX2_addFlaw_15 : decode cX2_addFlaw 15 = .ok (.invokevirtual 54, 3) := by decide +kernel
theorem dX2_addFlaw_18 : decode cX2_addFlaw 18 = .ok (.iload_n 3, 1) := by decide +kernel
theorem dX2_addFlaw_19 : decode cX2_addFlaw 19 = .ok (.iload 4, 2) := by decide +kernel
theorem dX2_addFlaw_21 : decode cX2_addFlaw 21 = .ok (.isub, 1) := by decide +kernel
theorem dX2_addFlaw_22 : decode cX2_addFlaw 22 = .ok (.istore 7, 2) := by decide +kernel
theorem dX2_addFlaw_24 : decode cX2_addFlaw 24 = .ok (.iload 7, 2) := by decide +kernel
theorem dX2_addFlaw_26 : decode cX2_addFlaw 26 = .ok (.iload_n 3, 1) := by decide +kernel
theorem dX2_addFlaw_27 : decode cX2_addFlaw 27 = .ok (.iload 4, 2) := by decide +kernel
theorem dX2_addFlaw_29 : decode cX2_addFlaw 29 = .ok (.iadd, 1) := by decide +kernel
theorem dX2_addFlaw_30 : decode cX2_addFlaw 30 = .ok (.if_icmp .gt 111, 3) := by decide +kernel
theorem dX2_addFlaw_33 : decode cX2_addFlaw 33 = .ok (.iload_n 2, 1) := by decide +kernel
theorem dX2_addFlaw_34 : decode cX2_addFlaw 34 = .ok (.iload 4, 2) := by decide +kernel
theorem dX2_addFlaw_36 : decode cX2_addFlaw 36 = .ok (.isub, 1) := by decide +kernel
theorem dX2_addFlaw_37 : decode cX2_addFlaw 37 = .ok (.istore 8, 2) := by decide +kernel
theorem dX2_addFlaw_39 : decode cX2_addFlaw 39 = .ok (.iload 8, 2) := by decide +kernel
theorem dX2_addFlaw_41 : decode cX2_addFlaw 41 = .ok (.iload_n 2, 1) := by decide +kernel
theorem dX2_addFlaw_42 : decode cX2_addFlaw 42 = .ok (.iload 4, 2) := by decide +kernel
theorem dX2_addFlaw_44 : decode cX2_addFlaw 44 = .ok (.iadd, 1) := by decide +kernel
theorem dX2_addFlaw_45 : decode cX2_addFlaw 45 = .ok (.if_icmp .gt 90, 3) := by decide +kernel
theorem dX2_addFlaw_48 : decode cX2_addFlaw 48 = .ok (.iload_n 1, 1) := by decide +kernel
theorem dX2_addFlaw_49 : decode cX2_addFlaw 49 = .ok (.iload 4, 2) := by decide +kernel
theorem dX2_addFlaw_51 : decode cX2_addFlaw 51 = .ok (.isub, 1) := by decide +kernel
theorem dX2_addFlaw_52 : decode cX2_addFlaw 52 = .ok (.istore 9, 2) := by decide +kernel
theorem dX2_addFlaw_54 : decode cX2_addFlaw 54 = .ok (.iload 9, 2) := by decide +kernel
theorem dX2_addFlaw_56 : decode cX2_addFlaw 56 = .ok (.iload_n 1, 1) := by decide +kernel
theorem dX2_addFlaw_57 : decode cX2_addFlaw 57 = .ok (.iload 4, 2) := by decide +kernel
theorem dX2_addFlaw_59 : decode cX2_addFlaw 59 = .ok (.iadd, 1) := by decide +kernel
theorem dX2_addFlaw_60 : decode cX2_addFlaw 60 = .ok (.if_icmp .gt 69, 3) := by decide +kernel
theorem dX2_addFlaw_63 : decode cX2_addFlaw 63 = .ok (.iload 9, 2) := by decide +kernel
theorem dX2_addFlaw_65 : decode cX2_addFlaw 65 = .ok (.iload_n 1, 1) := by decide +kernel
theorem dX2_addFlaw_66 : decode cX2_addFlaw 66 = .ok (.isub, 1) := by decide +kernel
theorem dX2_addFlaw_67 : decode cX2_addFlaw 67 = .ok (.invokestatic 58, 3) := by decide +kernel
theorem dX2_addFlaw_70 : decode cX2_addFlaw 70 = .ok (.iload 8, 2) := by decide +kernel
theorem dX2_addFlaw_72 : decode cX2_addFlaw 72 = .ok (.iload_n 2, 1) := by decide +kernel
theorem dX2_addFlaw_73 : decode cX2_addFlaw 73 = .ok (.isub, 1) := by decide +kernel
theorem dX2_addFlaw_74 : decode cX2_addFlaw 74 = .ok (.invokestatic 58, 3) := by decide +kernel
theorem dX2_addFlaw_77 : decode cX2_addFlaw 77 = .ok (.iadd, 1) := by decide +kernel
theorem dX2_addFlaw_78 : decode cX2_addFlaw 78 = .ok (.iload 7, 2) := by decide +kernel
theorem dX2_addFlaw_80 : decode cX2_addFlaw 80 = .ok (.iload_n 3, 1) := by decide +kernel
theorem dX2_addFlaw_81 : decode cX2_addFlaw 81 = .ok (.isub, 1) := by decide +kernel
theorem dX2_addFlaw_82 : decode cX2_addFlaw 82 = .ok (.invokestatic 58, 3) := by decide +kernel
theorem dX2_addFlaw_85 : decode cX2_addFlaw 85 = .ok (.iadd, 1) := by decide +kernel
theorem dX2_addFlaw_86 : decode cX2_addFlaw 86 = .ok (.istore 10, 2) := by decide +kernel
theorem dX2_addFlaw_88 : decode cX2_addFlaw 88 = .ok (.iload 10, 2) := by decide +kernel
theorem dX2_addFlaw_90 : decode cX2_addFlaw 90 = .ok (.iload 4, 2) := by decide +kernel
theorem dX2_addFlaw_92 : decode cX2_addFlaw 92 = .ok (.if_icmp .gt 31, 3) := by decide +kernel
theorem dX2_addFlaw_95 : decode cX2_addFlaw 95 = .ok (.aload_n 0, 1) := by decide +kernel
theorem dX2_addFlaw_96 : decode cX2_addFlaw 96 = .ok (.iload 9, 2) := by decide +kernel
theorem dX2_addFlaw_98 : decode cX2_addFlaw 98 = .ok (.iload 8, 2) := by decide +kernel
theorem dX2_addFlaw_100 : decode cX2_addFlaw 100 = .ok (.iload 7, 2) := by decide +kernel
theorem dX2_addFlaw_102 : decode cX2_addFlaw 102 = .ok (.invokevirtual 43, 3) := by decide +kernel
theorem dX2_addFlaw_105 : decode cX2_addFlaw 105 = .ok (.ifCond .eq 18, 3) := by decide +kernel
theorem dX2_addFlaw_108 : decode cX2_addFlaw 108 = .ok (.aload 6, 2) := by decide +kernel
theorem dX2_addFlaw_110 : decode cX2_addFlaw 110 = .ok (.aload_n 0, 1) := by decide +kernel
theorem dX2_addFlaw_111 : decode cX2_addFlaw 111 = .ok (.iload 9, 2) := by decide +kernel
theorem dX2_addFlaw_113 : decode cX2_addFlaw 113 = .ok (.iload 8, 2) := by decide +kernel
theorem dX2_addFlaw_115 : decode cX2_addFlaw 115 = .ok (.iload 7, 2) := by decide +kernel
theorem dX2_addFlaw_117 : decode cX2_addFlaw 117 = .ok (.invokevirtual 47, 3) := by decide +kernel
theorem dX2_addFlaw_120 : decode cX2_addFlaw 120 = .ok (.invokevirtual 64, 3) := by decide +kernel
theorem dX2_addFlaw_123 : decode cX2_addFlaw 123 = .ok (.iinc 9 1, 3) := by decide +kernel
theorem dX2_addFlaw_126 : decode cX2_addFlaw 126 = .ok (.goto (-72), 3) := by decide +kernel
theorem dX2_addFlaw_129 : decode cX2_addFlaw 129 = .ok (.iinc 8 1, 3) := by decide +kernel
theorem dX2_addFlaw_132 : decode cX2_addFlaw 132 = .ok (.goto (-93), 3) := by decide +kernel
theorem dX2_addFlaw_135 : decode cX2_addFlaw 135 = .ok (.iinc 7 1, 3) := by decide +kernel
theorem dX2_addFlaw_138 : decode cX2_addFlaw 138 = .ok (.goto (-114), 3) := by decide +kernel
theorem dX2_addFlaw_141 : decode cX2_addFlaw 141 = .ok (.aload 6, 2) := by decide +kernel
theorem dX2_addFlaw_143 : decode cX2_addFlaw 143 = .ok (.aload_n 0, 1) := by decide +kernel
theorem dX2_addFlaw_144 : decode cX2_addFlaw 144 = .ok (.invokevirtual 67, 3) := by decide +kernel
theorem dX2_addFlaw_147 : decode cX2_addFlaw 147 = .ok (.aload_n 0, 1) := by decide +kernel
theorem dX2_addFlaw_148 : decode cX2_addFlaw 148 = .ok (.dup, 1) := by decide +kernel
theorem dX2_addFlaw_149 : decode cX2_addFlaw 149 = .ok (.getfield 36, 3) := by decide +kernel
theorem dX2_addFlaw_152 : decode cX2_addFlaw 152 = .ok (.iconst 1, 1) := by decide +kernel
theorem dX2_addFlaw_153 : decode cX2_addFlaw 153 = .ok (.iadd, 1) := by decide +kernel
theorem dX2_addFlaw_154 : decode cX2_addFlaw 154 = .ok (.putfield 36, 3) := by decide +kernel
theorem dX2_addFlaw_157 : decode cX2_addFlaw 157 = .ok (.return_, 1) := by decide +kernel
theorem dX3_init_0 : decode cX3_init 0 = .ok (.aload_n 0, 1) := by decide +kernel
theorem dX3_init_1 : decode cX3_init 1 = .ok (.invokespecial 3, 3) := by decide +kernel
theorem dX3_init_4 : decode cX3_init 4 = .ok (.aload_n 0, 1) := by decide +kernel
theorem dX3_init_5 : decode cX3_init 5 = .ok (.bipush 16, 2) := by decide +kernel
theorem dX3_init_7 : decode cX3_init 7 = .ok (.anewarray 9, 3) := by decide +kernel
theorem dX3_init_10 : decode cX3_init 10 = .ok (.putfield 11, 3) := by decide +kernel
theorem dX3_init_13 : decode cX3_init 13 = .ok (.aload_n 0, 1) := by decide +kernel
theorem dX3_init_14 : decode cX3_init 14 = .ok (.iload_n 1, 1) := by decide +kernel
theorem dX3_init_15 : decode cX3_init 15 = .ok (.putfield 17, 3) := by decide +kernel
theorem dX3_init_18 : decode cX3_init 18 = .ok (.iconst 0, 1) := by decide +kernel
theorem dX3_init_19 : decode cX3_init 19 = .ok (.istore_n 2, 1) := by decide +kernel
theorem dX3_init_20 : decode cX3_init 20 = .ok (.iload_n 2, 1) := by decide +kernel
theorem dX3_init_21 : decode cX3_init 21 = .ok (.bipush 16, 2) := by decide +kernel
theorem dX3_init_23 : decode cX3_init 23 = .ok (.if_icmp .ge 22, 3) := by decide +kernel
theorem dX3_init_26 : decode cX3_init 26 = .ok (.aload_n 0, 1) := by decide +kernel
theorem dX3_init_27 : decode cX3_init 27 = .ok (.getfield 11, 3) := by decide +kernel
theorem dX3_init_30 : decode cX3_init 30 = .ok (.iload_n 2, 1) := by decide +kernel
theorem dX3_init_31 : decode cX3_init 31 = .ok (.new 9, 3) := by decide +kernel
theorem dX3_init_34 : decode cX3_init 34 = .ok (.dup, 1) := by decide +kernel
theorem dX3_init_35 : decode cX3_init 35 = .ok (.invokespecial 21, 3) := by decide +kernel
theorem dX3_init_38 : decode cX3_init 38 = .ok (.aastore, 1) := by decide +kernel
theorem dX3_init_39 : decode cX3_init 39 = .ok (.iinc 2 1, 3) := by decide +kernel
theorem dX3_init_42 : decode cX3_init 42 = .ok (.goto (-22), 3) := by decide +kernel
theorem dX3_init_45 : decode cX3_init 45 = .ok (.return_, 1) := by decide +kernel
theorem dX3_dropPlanes_0 : decode cX3_dropPlanes 0 = .ok (.aload_n 0, 1) := by decide +kernel
theorem dX3_dropPlanes_1 : decode cX3_dropPlanes 1 = .ok (.iconst 0, 1) := by decide +kernel
theorem dX3_dropPlanes_2 : decode cX3_dropPlanes 2 = .ok (.putfield 22, 3) := by decide +kernel
theorem dX3_dropPlanes_5 : decode cX3_dropPlanes 5 = .ok (.return_, 1) := by decide +kernel
theorem dX3_forgetCells_0 : decode cX3_forgetCells 0 = .ok (.aload_n 0, 1) := by decide +kernel
theorem dX3_forgetCells_1 : decode cX3_forgetCells 1 = .ok (.iconst 0, 1) := by decide +kernel
theorem dX3_forgetCells_2 : decode cX3_forgetCells 2 = .ok (.putfield 25, 3) := by decide +kernel
theorem dX3_forgetCells_5 : decode cX3_forgetCells 5 = .ok (.aload_n 0, 1) := by decide +kernel
theorem dX3_forgetCells_6 : decode cX3_forgetCells 6 = .ok (.iconst 0, 1) := by decide +kernel
theorem dX3_forgetCells_7 : decode cX3_forgetCells 7 = .ok (.putfield 28, 3) := by decide +kernel
theorem dX3_forgetCells_10 : decode cX3_forgetCells 10 = .ok (.iconst 0, 1) := by decide +kernel
theorem dX3_forgetCells_11 : decode cX3_forgetCells 11 = .ok (.istore_n 1, 1) := by decide +kernel
theorem dX3_forgetCells_12 : decode cX3_forgetCells 12 = .ok (.iload_n 1, 1) := by decide +kernel
theorem dX3_forgetCells_13 : decode cX3_forgetCells 13 = .ok (.aload_n 0, 1) := by decide +kernel
theorem dX3_forgetCells_14 : decode cX3_forgetCells 14 = .ok (.getfield 22, 3) := by decide +kernel
theorem dX3_forgetCells_17 : decode cX3_forgetCells 17 = .ok (.if_icmp .ge 19, 3) := by decide +kernel
theorem dX3_forgetCells_20 : decode cX3_forgetCells 20 = .ok (.aload_n 0, 1) := by decide +kernel
theorem dX3_forgetCells_21 : decode cX3_forgetCells 21 = .ok (.getfield 11, 3) := by decide +kernel
theorem dX3_forgetCells_24 : decode cX3_forgetCells 24 = .ok (.iload_n 1, 1) := by decide +kernel
theorem dX3_forgetCells_25 : decode cX3_forgetCells 25 = .ok (.aaload, 1) := by decide +kernel
theorem dX3_forgetCells_26 : decode cX3_forgetCells 26 = .ok (.iconst 0, 1) := by decide +kernel
theorem dX3_forgetCells_27 : decode cX3_forgetCells 27 = .ok (.putfield 31, 3) := by decide +kernel
theorem dX3_forgetCells_30 : decode cX3_forgetCells 30 = .ok (.iinc 1 1, 3) := by decide +kernel
theorem dX3_forgetCells_33 : decode cX3_forgetCells 33 = .ok (.goto (-21), 3) := by decide +kernel
theorem dX3_forgetCells_36 : decode cX3_forgetCells 36 = .ok (.return_, 1) := by decide +kernel
theorem dX3_countCell_0 : decode cX3_countCell 0 = .ok (.aload_n 0, 1) := by decide +kernel
theorem dX3_countCell_1 : decode cX3_countCell 1 = .ok (.dup, 1) := by decide +kernel
theorem dX3_countCell_2 : decode cX3_countCell 2 = .ok (.getfield 25, 3) := by decide +kernel
theorem dX3_countCell_5 : decode cX3_countCell 5 = .ok (.iconst 1, 1) := by decide +kernel
theorem dX3_countCell_6 : decode cX3_countCell 6 = .ok (.iadd, 1) := by decide +kernel
theorem dX3_countCell_7 : decode cX3_countCell 7 = .ok (.putfield 25, 3) := by decide +kernel
theorem dX3_countCell_10 : decode cX3_countCell 10 = .ok (.aload_n 0, 1) := by decide +kernel
theorem dX3_countCell_11 : decode cX3_countCell 11 = .ok (.dup, 1) := by decide +kernel
theorem dX3_countCell_12 : decode cX3_countCell 12 = .ok (.getfield 28, 3) := by decide +kernel
theorem dX3_countCell_15 : decode cX3_countCell 15 = .ok (.iload 4, 2) := by decide +kernel
theorem dX3_countCell_17 : decode cX3_countCell 17 = .ok (.ifCond .eq 7, 3) := by decide +kernel
theorem dX3_countCell_20 : decode cX3_countCell 20 = .ok (.iconst 1, 1) := by decide +kernel
theorem dX3_countCell_21 : decode cX3_countCell 21 = .ok (.goto 4, 3) := by decide +kernel
theorem dX3_countCell_24 : decode cX3_countCell 24 = .ok (.iconst 0, 1) := by decide +kernel
theorem dX3_countCell_25 : decode cX3_countCell 25 = .ok (.iadd, 1) := by decide +kernel
theorem dX3_countCell_26 : decode cX3_countCell 26 = .ok (.putfield 28, 3) := by decide +kernel
theorem dX3_countCell_29 : decode cX3_countCell 29 = .ok (.iconst 0, 1) := by decide +kernel
theorem dX3_countCell_30 : decode cX3_countCell 30 = .ok (.istore 5, 2) := by decide +kernel
theorem dX3_countCell_32 : decode cX3_countCell 32 = .ok (.iload 5, 2) := by decide +kernel
theorem dX3_countCell_34 : decode cX3_countCell 34 = .ok (.aload_n 0, 1) := by decide +kernel
theorem dX3_countCell_35 : decode cX3_countCell 35 = .ok (.getfield 22, 3) := by decide +kernel
theorem dX3_countCell_38 : decode cX3_countCell 38 = .ok (.if_icmp .ge 41, 3) := by decide +kernel
theorem dX3_countCell_41 : decode cX3_countCell 41 = .ok (.aload_n 0, 1) := by decide +kernel
theorem dX3_countCell_42 : decode cX3_countCell 42 = .ok (.getfield 11, 3) := by decide +kernel
theorem dX3_countCell_45 : decode cX3_countCell 45 = .ok (.iload 5, 2) := by decide +kernel
theorem dX3_countCell_47 : decode cX3_countCell 47 = .ok (.aaload, 1) := by decide +kernel
theorem dX3_countCell_48 : decode cX3_countCell 48 = .ok (.iload_n 1, 1) := by decide +kernel
theorem dX3_countCell_49 : decode cX3_countCell 49 = .ok (.iload_n 2, 1) := by decide +kernel
theorem dX3_countCell_50 : decode cX3_countCell 50 = .ok (.iload_n 3, 1) := by decide +kernel
theorem dX3_countCell_51 : decode cX3_countCell 51 = .ok (.invokevirtual 34, 3) := by decide +kernel
theorem dX3_countCell_54 : decode cX3_countCell 54 = .ok (.ifCond .eq 19, 3) := by decide +kernel
theorem dX3_countCell_57 : decode cX3_countCell 57 = .ok (.aload_n 0, 1) := by decide +kernel
theorem dX3_countCell_58 : decode cX3_countCell 58 = .ok (.getfield 11, 3) := by decide +kernel
theorem dX3_countCell_61 : decode cX3_countCell 61 = .ok (.iload 5, 2) := by decide +kernel
theorem dX3_countCell_63 : decode cX3_countCell 63 = .ok (.aaload, 1) := by decide +kernel
theorem dX3_countCell_64 : decode cX3_countCell 64 = .ok (.dup, 1) := by decide +kernel
theorem dX3_countCell_65 : decode cX3_countCell 65 = .ok (.getfield 31, 3) := by decide +kernel
theorem dX3_countCell_68 : decode cX3_countCell 68 = .ok (.iconst 1, 1) := by decide +kernel
theorem dX3_countCell_69 : decode cX3_countCell 69 = .ok (.iadd, 1) := by decide +kernel
theorem dX3_countCell_70 : decode cX3_countCell 70 = .ok (.putfield 31, 3) := by decide +kernel
theorem dX3_countCell_73 : decode cX3_countCell 73 = .ok (.iinc 5 1, 3) := by decide +kernel
theorem dX3_countCell_76 : decode cX3_countCell 76 = .ok (.goto (-44), 3) := by decide +kernel
theorem dX3_countCell_79 : decode cX3_countCell 79 = .ok (.return_, 1) := by decide +kernel
theorem dX3_keep_0 : decode cX3_keep 0 = .ok (.aload_n 0, 1) := by decide +kernel
theorem dX3_keep_1 : decode cX3_keep 1 = .ok (.getfield 22, 3) := by decide +kernel
theorem dX3_keep_4 : decode cX3_keep 4 = .ok (.bipush 16, 2) := by decide +kernel
theorem dX3_keep_6 : decode cX3_keep 6 = .ok (.if_icmp .ge 30, 3) := by decide +kernel
theorem dX3_keep_9 : decode cX3_keep 9 = .ok (.aload_n 0, 1) := by decide +kernel
theorem dX3_keep_10 : decode cX3_keep 10 = .ok (.getfield 11, 3) := by decide +kernel
theorem dX3_keep_13 : decode cX3_keep 13 = .ok (.aload_n 0, 1) := by decide +kernel
theorem dX3_keep_14 : decode cX3_keep 14 = .ok (.getfield 22, 3) := by decide +kernel
theorem dX3_keep_17 : decode cX3_keep 17 = .ok (.aaload, 1) := by decide +kernel
theorem dX3_keep_18 : decode cX3_keep 18 = .ok (.iload_n 1, 1) := by decide +kernel
theorem dX3_keep_19 : decode cX3_keep 19 = .ok (.iload_n 2, 1) := by decide +kernel
theorem dX3_keep_20 : decode cX3_keep 20 = .ok (.iload_n 3, 1) := by decide +kernel
theorem dX3_keep_21 : decode cX3_keep 21 = .ok (.iload 4, 2) := by decide +kernel
theorem dX3_keep_23 : decode cX3_keep 23 = .ok (.invokevirtual 38, 3) := by decide +kernel
theorem dX3_keep_26 : decode cX3_keep 26 = .ok (.aload_n 0, 1) := by decide +kernel
theorem dX3_keep_27 : decode cX3_keep 27 = .ok (.dup, 1) := by decide +kernel
theorem dX3_keep_28 : decode cX3_keep 28 = .ok (.getfield 22, 3) := by decide +kernel
theorem dX3_keep_31 : decode cX3_keep 31 = .ok (.iconst 1, 1) := by decide +kernel
theorem dX3_keep_32 : decode cX3_keep 32 = .ok (.iadd, 1) := by decide +kernel
theorem dX3_keep_33 : decode cX3_keep 33 = .ok (.putfield 22, 3) := by decide +kernel
theorem dX3_keep_36 : decode cX3_keep 36 = .ok (.return_, 1) := by decide +kernel
theorem dX3_facets_0 : decode cX3_facets 0 = .ok (.iconst 0, 1) := by decide +kernel
theorem dX3_facets_1 : decode cX3_facets 1 = .ok (.istore_n 2, 1) := by decide +kernel
theorem dX3_facets_2 : decode cX3_facets 2 = .ok (.iconst 0, 1) := by decide +kernel
theorem dX3_facets_3 : decode cX3_facets 3 = .ok (.istore_n 3, 1) := by decide +kernel
theorem dX3_facets_4 : decode cX3_facets 4 = .ok (.iload_n 3, 1) := by decide +kernel
theorem dX3_facets_5 : decode cX3_facets 5 = .ok (.aload_n 0, 1) := by decide +kernel
theorem dX3_facets_6 : decode cX3_facets 6 = .ok (.getfield 22, 3) := by decide +kernel
theorem dX3_facets_9 : decode cX3_facets 9 = .ok (.if_icmp .ge 40, 3) := by decide +kernel
theorem dX3_facets_12 : decode cX3_facets 12 = .ok (.aload_n 0, 1) := by decide +kernel
theorem dX3_facets_13 : decode cX3_facets 13 = .ok (.getfield 11, 3) := by decide +kernel
theorem dX3_facets_16 : decode cX3_facets 16 = .ok (.iload_n 3, 1) := by decide +kernel
theorem dX3_facets_17 : decode cX3_facets 17 = .ok (.aaload, 1) := by decide +kernel
theorem dX3_facets_18 : decode cX3_facets 18 = .ok (.invokevirtual 42, 3) := by decide +kernel
theorem dX3_facets_21 : decode cX3_facets 21 = .ok (.ifCond .eq 22, 3) := by decide +kernel
theorem dX3_facets_24 : decode cX3_facets 24 = .ok (.aload_n 0, 1) := by decide +kernel
theorem dX3_facets_25 : decode cX3_facets 25 = .ok (.getfield 11, 3) := by decide +kernel
theorem dX3_facets_28 : decode cX3_facets 28 = .ok (.iload_n 3, 1) := by decide +kernel
theorem dX3_facets_29 : decode cX3_facets 29 = .ok (.aaload, 1) := by decide +kernel
theorem dX3_facets_30 : decode cX3_facets 30 = .ok (.getfield 46, 3) := by decide +kernel
theorem dX3_facets_33 : decode cX3_facets 33 = .ok (.ifCond .ne 7, 3) := by decide +kernel
theorem dX3_facets_36 : decode cX3_facets 36 = .ok (.iload_n 1, 1) := by decide +kernel
theorem dX3_facets_37 : decode cX3_facets 37 = .ok (.ifCond .ne 6, 3) := by decide +kernel
theorem dX3_facets_40 : decode cX3_facets 40 = .ok (.iinc 2 1, 3) := by decide +kernel
theorem dX3_facets_43 : decode cX3_facets 43 = .ok (.iinc 3 1, 3) := by decide +kernel
theorem dX3_facets_46 : decode cX3_facets 46 = .ok (.goto (-42), 3) := by decide +kernel
theorem dX3_facets_49 : decode cX3_facets 49 = .ok (.iload_n 2, 1) := by decide +kernel
theorem dX3_facets_50 : decode cX3_facets 50 = .ok (.ireturn, 1) := by decide +kernel
theorem dX3_oppositePairs_0 : decode cX3_oppositePairs 0 = .ok (.iconst 0, 1) := by decide +kernel
theorem dX3_oppositePairs_1 : decode cX3_oppositePairs 1 = .ok (.istore_n 1, 1) := by decide +kernel
theorem dX3_oppositePairs_2 : decode cX3_oppositePairs 2 = .ok (.iconst 0, 1) := by decide +kernel
theorem dX3_oppositePairs_3 : decode cX3_oppositePairs 3 = .ok (.istore_n 2, 1) := by decide +kernel
theorem dX3_oppositePairs_4 : decode cX3_oppositePairs 4 = .ok (.iload_n 2, 1) := by decide +kernel
theorem dX3_oppositePairs_5 : decode cX3_oppositePairs 5 = .ok (.aload_n 0, 1) := by decide +kernel
theorem dX3_oppositePairs_6 : decode cX3_oppositePairs 6 = .ok (.getfield 22, 3) := by decide +kernel
theorem dX3_oppositePairs_9 : decode cX3_oppositePairs 9 = .ok (.if_icmp .ge 72, 3) := by decide +kernel
theorem dX3_oppositePairs_12 : decode cX3_oppositePairs 12 = .ok (.iload_n 2, 1) := by decide +kernel
theorem dX3_oppositePairs_13 : decode cX3_oppositePairs 13 = .ok (.iconst 1, 1) := by decide +kernel
theorem dX3_oppositePairs_14 : decode cX3_oppositePairs 14 = .ok (.iadd, 1) := by decide +kernel
theorem dX3_oppositePairs_15 : decode cX3_oppositePairs 15 = .ok (.istore_n 3, 1) := by decide +kernel
theorem dX3_oppositePairs_16 : decode cX3_oppositePairs 16 = .ok (.iload_n 3, 1) := by decide +kernel
theorem dX3_oppositePairs_17 : decode cX3_oppositePairs 17 = .ok (.aload_n 0, 1) := by decide +kernel
theorem dX3_oppositePairs_18 : decode cX3_oppositePairs 18 = .ok (.getfield 22, 3) := by decide +kernel
theorem dX3_oppositePairs_21 : decode cX3_oppositePairs 21 = .ok (.if_icmp .ge 54, 3) := by decide +kernel
theorem dX3_oppositePairs_24 : decode cX3_oppositePairs 24 = .ok (.aload_n 0, 1) := by decide +kernel
theorem dX3_oppositePairs_25 : decode cX3_oppositePairs 25 = .ok (.getfield 11, 3) := by decide +kernel
theorem dX3_oppositePairs_28 : decode cX3_oppositePairs 28 = .ok (.iload_n 2, 1) := by decide +kernel
theorem dX3_oppositePairs_29 : decode cX3_oppositePairs 29 = .ok (.aaload, 1) := by decide +kernel
theorem dX3_oppositePairs_30 : decode cX3_oppositePairs 30 = .ok (.invokevirtual 42, 3) := by decide +kernel
theorem dX3_oppositePairs_33 : decode cX3_oppositePairs 33 = .ok (.ifCond .eq 36, 3) := by decide +kernel
theorem dX3_oppositePairs_36 : decode cX3_oppositePairs 36 = .ok (.aload_n 0, 1) := by decide +kernel
theorem dX3_oppositePairs_37 : decode cX3_oppositePairs 37 = .ok (.getfield 11, 3) := by decide +kernel
theorem dX3_oppositePairs_40 : decode cX3_oppositePairs 40 = .ok (.iload_n 3, 1) := by decide +kernel
theorem dX3_oppositePairs_41 : decode cX3_oppositePairs 41 = .ok (.aaload, 1) := by decide +kernel
theorem dX3_oppositePairs_42 : decode cX3_oppositePairs 42 = .ok (.invokevirtual 42, 3) := by decide +kernel
theorem dX3_oppositePairs_45 : decode cX3_oppositePairs 45 = .ok (.ifCond .eq 24, 3) := by decide +kernel
theorem dX3_oppositePairs_48 : decode cX3_oppositePairs 48 = .ok (.aload_n 0, 1) := by decide +kernel
theorem dX3_oppositePairs_49 : decode cX3_oppositePairs 49 = .ok (.getfield 11, 3) := by decide +kernel
theorem dX3_oppositePairs_52 : decode cX3_oppositePairs 52 = .ok (.iload_n 2, 1) := by decide +kernel
theorem dX3_oppositePairs_53 : decode cX3_oppositePairs 53 = .ok (.aaload, 1) := by decide +kernel
theorem dX3_oppositePairs_54 : decode cX3_oppositePairs 54 = .ok (.aload_n 0, 1) := by decide +kernel
theorem dX3_oppositePairs_55 : decode cX3_oppositePairs 55 = .ok (.getfield 11, 3) := by decide +kernel
theorem dX3_oppositePairs_58 : decode cX3_oppositePairs 58 = .ok (.iload_n 3, 1) := by decide +kernel
theorem dX3_oppositePairs_59 : decode cX3_oppositePairs 59 = .ok (.aaload, 1) := by decide +kernel
theorem dX3_oppositePairs_60 : decode cX3_oppositePairs 60 = .ok (.invokevirtual 50, 3) := by decide +kernel
theorem dX3_oppositePairs_63 : decode cX3_oppositePairs 63 = .ok (.ifCond .eq 6, 3) := by decide +kernel
theorem dX3_oppositePairs_66 : decode cX3_oppositePairs 66 = .ok (.iinc 1 1, 3) := by decide +kernel
theorem dX3_oppositePairs_69 : decode cX3_oppositePairs 69 = .ok (.iinc 3 1, 3) := by decide +kernel
theorem dX3_oppositePairs_72 : decode cX3_oppositePairs 72 = .ok (.goto (-56), 3) := by decide +kernel
theorem dX3_oppositePairs_75 : decode cX3_oppositePairs 75 = .ok (.iinc 2 1, 3) := by decide +kernel
theorem dX3_oppositePairs_78 : decode cX3_oppositePairs 78 = .ok (.goto (-74), 3) := by decide +kernel
theorem dX3_oppositePairs_81 : decode cX3_oppositePairs 81 = .ok (.iload_n 1, 1) := by decide +kernel
theorem dX3_oppositePairs_82 : decode cX3_oppositePairs 82 = .ok (.ireturn, 1) := by decide +kernel
theorem dX4_init_0 : decode cX4_init 0 = .ok (.aload_n 0, 1) := by decide +kernel
theorem dX4_init_1 : decode cX4_init 1 = .ok (.invokespecial 3, 3) := by decide +kernel
theorem dX4_init_4 : decode cX4_init 4 = .ok (.aload_n 0, 1) := by decide +kernel
theorem dX4_init_5 : decode cX4_init 5 = .ok (.new 9, 3) := by decide +kernel
theorem dX4_init_8 : decode cX4_init 8 = .ok (.dup, 1) := by decide +kernel
theorem dX4_init_9 : decode cX4_init 9 = .ok (.invokespecial 11, 3) := by decide +kernel
theorem dX4_init_12 : decode cX4_init 12 = .ok (.putfield 12, 3) := by decide +kernel
theorem dX4_init_15 : decode cX4_init 15 = .ok (.aload_n 0, 1) := by decide +kernel
theorem dX4_init_16 : decode cX4_init 16 = .ok (.sipush 1000, 3) := by decide +kernel
theorem dX4_init_19 : decode cX4_init 19 = .ok (.newarray .int, 2) := by decide +kernel
theorem dX4_init_21 : decode cX4_init 21 = .ok (.putfield 18, 3) := by decide +kernel
theorem dX4_init_24 : decode cX4_init 24 = .ok (.aload_n 0, 1) := by decide +kernel
theorem dX4_init_25 : decode cX4_init 25 = .ok (.sipush 163, 3) := by decide +kernel
theorem dX4_init_28 : decode cX4_init 28 = .ok (.newarray .int, 2) := by decide +kernel
theorem dX4_init_30 : decode cX4_init 30 = .ok (.putfield 22, 3) := by decide +kernel
theorem dX4_init_33 : decode cX4_init 33 = .ok (.aload_n 0, 1) := by decide +kernel
theorem dX4_init_34 : decode cX4_init 34 = .ok (.bipush 16, 2) := by decide +kernel
theorem dX4_init_36 : decode cX4_init 36 = .ok (.newarray .int, 2) := by decide +kernel
theorem dX4_init_38 : decode cX4_init 38 = .ok (.putfield 25, 3) := by decide +kernel
theorem dX4_init_41 : decode cX4_init 41 = .ok (.aload_n 0, 1) := by decide +kernel
theorem dX4_init_42 : decode cX4_init 42 = .ok (.aload_n 1, 1) := by decide +kernel
theorem dX4_init_43 : decode cX4_init 43 = .ok (.putfield 28, 3) := by decide +kernel
theorem dX4_init_46 : decode cX4_init 46 = .ok (.aload_n 0, 1) := by decide +kernel
theorem dX4_init_47 : decode cX4_init 47 = .ok (.aload_n 2, 1) := by decide +kernel
theorem dX4_init_48 : decode cX4_init 48 = .ok (.putfield 32, 3) := by decide +kernel
theorem dX4_init_51 : decode cX4_init 51 = .ok (.return_, 1) := by decide +kernel
theorem dX4_level_0 : decode cX4_level 0 = .ok (.aload_n 0, 1) := by decide +kernel
theorem dX4_level_1 : decode cX4_level 1 = .ok (.aload_n 1, 1) := by decide +kernel
theorem dX4_level_2 : decode cX4_level 2 = .ok (.putfield 32, 3) := by decide +kernel
theorem dX4_level_5 : decode cX4_level 5 = .ok (.aload_n 0, 1) := by decide +kernel
theorem dX4_level_6 : decode cX4_level 6 = .ok (.getfield 12, 3) := by decide +kernel
theorem dX4_level_9 : decode cX4_level 9 = .ok (.iload_n 2, 1) := by decide +kernel
theorem dX4_level_10 : decode cX4_level 10 = .ok (.iload_n 3, 1) := by decide +kernel
theorem dX4_level_11 : decode cX4_level 11 = .ok (.iload 4, 2) := by decide +kernel
theorem dX4_level_13 : decode cX4_level 13 = .ok (.iconst 0, 1) := by decide +kernel
theorem dX4_level_14 : decode cX4_level 14 = .ok (.invokevirtual 36, 3) := by decide +kernel
theorem dX4_level_17 : decode cX4_level 17 = .ok (.iconst 0, 1) := by decide +kernel
theorem dX4_level_18 : decode cX4_level 18 = .ok (.istore 5, 2) := by decide +kernel
theorem dX4_level_20 : decode cX4_level 20 = .ok (.iload 5, 2) := by decide +kernel
theorem dX4_level_22 : decode cX4_level 22 = .ok (.aload_n 0, 1) := by decide +kernel
theorem dX4_level_23 : decode cX4_level 23 = .ok (.getfield 22, 3) := by decide +kernel
theorem dX4_level_26 : decode cX4_level 26 = .ok (.arraylength, 1) := by decide +kernel
theorem dX4_level_27 : decode cX4_level 27 = .ok (.if_icmp .ge 17, 3) := by decide +kernel
theorem dX4_level_30 : decode cX4_level 30 = .ok (.aload_n 0, 1) := by decide +kernel
theorem dX4_level_31 : decode cX4_level 31 = .ok (.getfield 22, 3) := by decide +kernel
theorem dX4_level_34 : decode cX4_level 34 = .ok (.iload 5, 2) := by decide +kernel
theorem dX4_level_36 : decode cX4_level 36 = .ok (.iconst 0, 1) := by decide +kernel
theorem dX4_level_37 : decode cX4_level 37 = .ok (.iastore, 1) := by decide +kernel
theorem dX4_level_38 : decode cX4_level 38 = .ok (.iinc 5 1, 3) := by decide +kernel
theorem dX4_level_41 : decode cX4_level 41 = .ok (.goto (-21), 3) := by decide +kernel
theorem dX4_level_44 : decode cX4_level 44 = .ok (.iconst 0, 1) := by decide +kernel
theorem dX4_level_45 : decode cX4_level 45 = .ok (.istore 5, 2) := by decide +kernel
theorem dX4_level_47 : decode cX4_level 47 = .ok (.iconst 0, 1) := by decide +kernel
theorem dX4_level_48 : decode cX4_level 48 = .ok (.istore 6, 2) := by decide +kernel
theorem dX4_level_50 : decode cX4_level 50 = .ok (.iload 6, 2) := by decide +kernel
theorem dX4_level_52 : decode cX4_level 52 = .ok (.aload_n 0, 1) := by decide +kernel
theorem dX4_level_53 : decode cX4_level 53 = .ok (.getfield 28, 3) := by decide +kernel
theorem dX4_level_56 : decode cX4_level 56 = .ok (.getfield 40, 3) := by decide +kernel
theorem dX4_level_59 : decode cX4_level 59 = .ok (.if_icmp .ge 73, 3) := by decide +kernel
theorem dX4_level_62 : decode cX4_level 62 = .ok (.iconst 0, 1) := by decide +kernel
theorem dX4_level_63 : decode cX4_level 63 = .ok (.istore 7, 2) := by decide +kernel
theorem dX4_level_65 : decode cX4_level 65 = .ok (.iload 7, 2) := by decide +kernel
theorem dX4_level_67 : decode cX4_level 67 = .ok (.aload_n 0, 1) := by decide +kernel
theorem dX4_level_68 : decode cX4_level 68 = .ok (.getfield 28, 3) := by decide +kernel
theorem dX4_level_71 : decode cX4_level 71 = .ok (.getfield 46, 3) := by decide +kernel
theorem dX4_level_74 : decode cX4_level 74 = .ok (.if_icmp .ge 52, 3) := by decide +kernel
theorem dX4_level_77 : decode cX4_level 77 = .ok (.iconst 0, 1) := by decide +kernel
theorem dX4_level_78 : decode cX4_level 78 = .ok (.istore 8, 2) := by decide +kernel
theorem dX4_level_80 : decode cX4_level 80 = .ok (.iload 8, 2) := by decide +kernel
theorem dX4_level_82 : decode cX4_level 82 = .ok (.aload_n 0, 1) := by decide +kernel
theorem dX4_level_83 : decode cX4_level 83 = .ok (.getfield 28, 3) := by decide +kernel
theorem dX4_level_86 : decode cX4_level 86 = .ok (.getfield 49, 3) := by decide +kernel
theorem dX4_level_89 : decode cX4_level 89 = .ok (.if_icmp .ge 31, 3) := by decide +kernel
theorem dX4_level_92 : decode cX4_level 92 = .ok (.aload_n 0, 1) := by decide +kernel
theorem dX4_level_93 : decode cX4_level 93 = .ok (.iload 5, 2) := by decide +kernel
theorem dX4_level_95 : decode cX4_level 95 = .ok (.aload_n 0, 1) := by decide +kernel
theorem dX4_level_96 : decode cX4_level 96 = .ok (.getfield 12, 3) := by decide +kernel
theorem dX4_level_99 : decode cX4_level 99 = .ok (.iload 8, 2) := by decide +kernel
theorem dX4_level_101 : decode cX4_level 101 = .ok (.iload 7, 2) := by decide +kernel
theorem dX4_level_103 : decode cX4_level 103 = .ok (.iload 6, 2) := by decide +kernel
theorem dX4_level_105 : decode cX4_level 105 = .ok (.invokevirtual 52, 3) := by decide +kernel
theorem dX4_level_108 : decode cX4_level 108 = .ok (.invokevirtual 56, 3) := by decide +kernel
theorem dX4_level_111 : decode cX4_level 111 = .ok (.iinc 5 1, 3) := by decide +kernel
theorem dX4_level_114 : decode cX4_level 114 = .ok (.iinc 8 1, 3) := by decide +kernel
theorem dX4_level_117 : decode cX4_level 117 = .ok (.goto (-37), 3) := by decide +kernel
theorem dX4_level_120 : decode cX4_level 120 = .ok (.iinc 7 1, 3) := by decide +kernel
theorem dX4_level_123 : decode cX4_level 123 = .ok (.goto (-58), 3) := by decide +kernel
theorem dX4_level_126 : decode cX4_level 126 = .ok (.iinc 6 1, 3) := by decide +kernel
theorem dX4_level_129 : decode cX4_level 129 = .ok (.goto (-79), 3) := by decide +kernel
theorem dX4_level_132 : decode cX4_level 132 = .ok (.iconst 1, 1) := by decide +kernel
theorem dX4_level_133 : decode cX4_level 133 = .ok (.istore 6, 2) := by decide +kernel
theorem dX4_level_135 : decode cX4_level 135 = .ok (.iload 6, 2) := by decide +kernel
theorem dX4_level_137 : decode cX4_level 137 = .ok (.aload_n 0, 1) := by decide +kernel
theorem dX4_level_138 : decode cX4_level 138 = .ok (.getfield 22, 3) := by decide +kernel
theorem dX4_level_141 : decode cX4_level 141 = .ok (.arraylength, 1) := by decide +kernel
theorem dX4_level_142 : decode cX4_level 142 = .ok (.if_icmp .ge 28, 3) := by decide +kernel
theorem dX4_level_145 : decode cX4_level 145 = .ok (.aload_n 0, 1) := by decide +kernel
theorem dX4_level_146 : decode cX4_level 146 = .ok (.getfield 22, 3) := by decide +kernel
theorem dX4_level_149 : decode cX4_level 149 = .ok (.iload 6, 2) := by decide +kernel
theorem dX4_level_151 : decode cX4_level 151 = .ok (.dup2, 1) := by decide +kernel
theorem dX4_level_152 : decode cX4_level 152 = .ok (.iaload, 1) := by decide +kernel
theorem dX4_level_153 : decode cX4_level 153 = .ok (.aload_n 0, 1) := by decide +kernel
theorem dX4_level_154 : decode cX4_level 154 = .ok (.getfield 22, 3) := by decide +kernel
theorem dX4_level_157 : decode cX4_level 157 = .ok (.iload 6, 2) := by decide +kernel
theorem dX4_level_159 : decode cX4_level 159 = .ok (.iconst 1, 1) := by decide +kernel
theorem dX4_level_160 : decode cX4_level 160 = .ok (.isub, 1) := by decide +kernel
theorem dX4_level_161 : decode cX4_level 161 = .ok (.iaload, 1) := by decide +kernel
theorem dX4_level_162 : decode cX4_level 162 = .ok (.iadd, 1) := by decide +kernel
theorem dX4_level_163 : decode cX4_level 163 = .ok (.iastore, 1) := by decide +kernel
theorem dX4_level_164 : decode cX4_level 164 = .ok (.iinc 6 1, 3) := by decide +kernel
theorem dX4_level_167 : decode cX4_level 167 = .ok (.goto (-32), 3) := by decide +kernel
theorem dX4_level_170 : decode cX4_level 170 = .ok (.return_, 1) := by decide +kernel
theorem dX4_levelCell_0 : decode cX4_levelCell 0 = .ok (.aload_n 0, 1) := by decide +kernel
theorem dX4_levelCell_1 : decode cX4_levelCell 1 = .ok (.getfield 18, 3) := by decide +kernel
theorem dX4_levelCell_4 : decode cX4_levelCell 4 = .ok (.iload_n 1, 1) := by decide +kernel
theorem dX4_levelCell_5 : decode cX4_levelCell 5 = .ok (.iload_n 2, 1) := by decide +kernel
theorem dX4_levelCell_6 : decode cX4_levelCell 6 = .ok (.iastore, 1) := by decide +kernel
theorem dX4_levelCell_7 : decode cX4_levelCell 7 = .ok (.aload_n 0, 1) := by decide +kernel
theorem dX4_levelCell_8 : decode cX4_levelCell 8 = .ok (.getfield 28, 3) := by decide +kernel
theorem dX4_levelCell_11 : decode cX4_levelCell 11 = .ok (.getfield 60, 3) := by decide +kernel
theorem dX4_levelCell_14 : decode cX4_levelCell 14 = .ok (.iload_n 1, 1) := by decide +kernel
theorem dX4_levelCell_15 : decode cX4_levelCell 15 = .ok (.iaload, 1) := by decide +kernel
theorem dX4_levelCell_16 : decode cX4_levelCell 16 = .ok (.aload_n 0, 1) := by decide +kernel
theorem dX4_levelCell_17 : decode cX4_levelCell 17 = .ok (.getfield 32, 3) := by decide +kernel
theorem dX4_levelCell_20 : decode cX4_levelCell 20 = .ok (.getfield 63, 3) := by decide +kernel
theorem dX4_levelCell_23 : decode cX4_levelCell 23 = .ok (.if_icmp .ne 28, 3) := by decide +kernel
theorem dX4_levelCell_26 : decode cX4_levelCell 26 = .ok (.iload_n 2, 1) := by decide +kernel
theorem dX4_levelCell_27 : decode cX4_levelCell 27 = .ok (.bipush (-81), 2) := by decide +kernel
theorem dX4_levelCell_29 : decode cX4_levelCell 29 = .ok (.if_icmp .lt 22, 3) := by decide +kernel
theorem dX4_levelCell_32 : decode cX4_levelCell 32 = .ok (.iload_n 2, 1) := by decide +kernel
theorem dX4_levelCell_33 : decode cX4_levelCell 33 = .ok (.bipush 81, 2) := by decide +kernel
theorem dX4_levelCell_35 : decode cX4_levelCell 35 = .ok (.if_icmp .gt 16, 3) := by decide +kernel
theorem dX4_levelCell_38 : decode cX4_levelCell 38 = .ok (.aload_n 0, 1) := by decide +kernel
theorem dX4_levelCell_39 : decode cX4_levelCell 39 = .ok (.getfield 22, 3) := by decide +kernel
theorem dX4_levelCell_42 : decode cX4_levelCell 42 = .ok (.iload_n 2, 1) := by decide +kernel
theorem dX4_levelCell_43 : decode cX4_levelCell 43 = .ok (.bipush 81, 2) := by decide +kernel
theorem dX4_levelCell_45 : decode cX4_levelCell 45 = .ok (.iadd, 1) := by decide +kernel
theorem dX4_levelCell_46 : decode cX4_levelCell 46 = .ok (.dup2, 1) := by decide +kernel
theorem dX4_levelCell_47 : decode cX4_levelCell 47 = .ok (.iaload, 1) := by decide +kernel
theorem dX4_levelCell_48 : decode cX4_levelCell 48 = .ok (.iconst 1, 1) := by decide +kernel
theorem dX4_levelCell_49 : decode cX4_levelCell 49 = .ok (.iadd, 1) := by decide +kernel
theorem dX4_levelCell_50 : decode cX4_levelCell 50 = .ok (.iastore, 1) := by decide +kernel
theorem dX4_levelCell_51 : decode cX4_levelCell 51 = .ok (.return_, 1) := by decide +kernel
theorem dX4_aim_0 : decode cX4_aim 0 = .ok (.aload_n 0, 1) := by decide +kernel
theorem dX4_aim_1 : decode cX4_aim 1 = .ok (.aload_n 1, 1) := by decide +kernel
theorem dX4_aim_2 : decode cX4_aim 2 = .ok (.iload_n 2, 1) := by decide +kernel
theorem dX4_aim_3 : decode cX4_aim 3 = .ok (.iload_n 3, 1) := by decide +kernel
theorem dX4_aim_4 : decode cX4_aim 4 = .ok (.iload 4, 2) := by decide +kernel
theorem dX4_aim_6 : decode cX4_aim 6 = .ok (.invokevirtual 68, 3) := by decide +kernel
theorem dX4_aim_9 : decode cX4_aim 9 = .ok (.iconst 0, 1) := by decide +kernel
theorem dX4_aim_10 : decode cX4_aim 10 = .ok (.istore 5, 2) := by decide +kernel
theorem dX4_aim_12 : decode cX4_aim 12 = .ok (.iload 5, 2) := by decide +kernel
theorem dX4_aim_14 : decode cX4_aim 14 = .ok (.bipush 16, 2) := by decide +kernel
theorem dX4_aim_16 : decode cX4_aim 16 = .ok (.if_icmp .ge 19, 3) := by decide +kernel
theorem dX4_aim_19 : decode cX4_aim 19 = .ok (.aload_n 0, 1) := by decide +kernel
theorem dX4_aim_20 : decode cX4_aim 20 = .ok (.getfield 25, 3) := by decide +kernel
theorem dX4_aim_23 : decode cX4_aim 23 = .ok (.iload 5, 2) := by decide +kernel
theorem dX4_aim_25 : decode cX4_aim 25 = .ok (.sipush 1000, 3) := by decide +kernel
theorem dX4_aim_28 : decode cX4_aim 28 = .ok (.iastore, 1) := by decide +kernel
theorem dX4_aim_29 : decode cX4_aim 29 = .ok (.iinc 5 1, 3) := by decide +kernel
theorem dX4_aim_32 : decode cX4_aim 32 = .ok (.goto (-20), 3) := by decide +kernel
theorem dX4_aim_35 : decode cX4_aim 35 = .ok (.iconst 0, 1) := by decide +kernel
theorem dX4_aim_36 : decode cX4_aim 36 = .ok (.istore 5, 2) := by decide +kernel
theorem dX4_aim_38 : decode cX4_aim 38 = .ok (.iconst 0, 1) := by decide +kernel
theorem dX4_aim_39 : decode cX4_aim 39 = .ok (.istore 6, 2) := by decide +kernel
theorem dX4_aim_41 : decode cX4_aim 41 = .ok (.iload 6, 2) := by decide +kernel
theorem dX4_aim_43 : decode cX4_aim 43 = .ok (.aload_n 0, 1) := by decide +kernel
theorem dX4_aim_44 : decode cX4_aim 44 = .ok (.getfield 28, 3) := by decide +kernel
theorem dX4_aim_47 : decode cX4_aim 47 = .ok (.getfield 40, 3) := by decide +kernel
theorem dX4_aim_50 : decode cX4_aim 50 = .ok (.if_icmp .ge 91, 3) := by decide +kernel
theorem dX4_aim_53 : decode cX4_aim 53 = .ok (.iconst 0, 1) := by decide +kernel
theorem dX4_aim_54 : decode cX4_aim 54 = .ok (.istore 7, 2) := by decide +kernel
theorem dX4_aim_56 : decode cX4_aim 56 = .ok (.iload 7, 2) := by decide +kernel
theorem dX4_aim_58 : decode cX4_aim 58 = .ok (.aload_n 0, 1) := by decide +kernel
theorem dX4_aim_59 : decode cX4_aim 59 = .ok (.getfield 28, 3) := by decide +kernel
theorem dX4_aim_62 : decode cX4_aim 62 = .ok (.getfield 46, 3) := by decide +kernel
theorem dX4_aim_65 : decode cX4_aim 65 = .ok (.if_icmp .ge 70, 3) := by decide +kernel
theorem dX4_aim_68 : decode cX4_aim 68 = .ok (.iconst 0, 1) := by decide +kernel
theorem dX4_aim_69 : decode cX4_aim 69 = .ok (.istore 8, 2) := by decide +kernel
theorem dX4_aim_71 : decode cX4_aim 71 = .ok (.iload 8, 2) := by decide +kernel
theorem dX4_aim_73 : decode cX4_aim 73 = .ok (.aload_n 0, 1) := by decide +kernel
theorem dX4_aim_74 : decode cX4_aim 74 = .ok (.getfield 28, 3) := by decide +kernel
theorem dX4_aim_77 : decode cX4_aim 77 = .ok (.getfield 49, 3) := by decide +kernel
theorem dX4_aim_80 : decode cX4_aim 80 = .ok (.if_icmp .ge 49, 3) := by decide +kernel
theorem dX4_aim_83 : decode cX4_aim 83 = .ok (.aload_n 0, 1) := by decide +kernel
theorem dX4_aim_84 : decode cX4_aim 84 = .ok (.getfield 28, 3) := by decide +kernel
theorem dX4_aim_87 : decode cX4_aim 87 = .ok (.getfield 60, 3) := by decide +kernel
theorem dX4_aim_90 : decode cX4_aim 90 = .ok (.iload 5, 2) := by decide +kernel
theorem dX4_aim_92 : decode cX4_aim 92 = .ok (.iaload, 1) := by decide +kernel
theorem dX4_aim_93 : decode cX4_aim 93 = .ok (.aload_n 0, 1) := by decide +kernel
theorem dX4_aim_94 : decode cX4_aim 94 = .ok (.getfield 32, 3) := by decide +kernel
theorem dX4_aim_97 : decode cX4_aim 97 = .ok (.getfield 63, 3) := by decide +kernel
theorem dX4_aim_100 : decode cX4_aim 100 = .ok (.if_icmp .ne 20, 3) := by decide +kernel
theorem dX4_aim_103 : decode cX4_aim 103 = .ok (.aload_n 0, 1) := by decide +kernel
theorem dX4_aim_104 : decode cX4_aim 104 = .ok (.aload_n 0, 1) := by decide +kernel
theorem dX4_aim_105 : decode cX4_aim 105 = .ok (.getfield 18, 3) := by decide +kernel
theorem dX4_aim_108 : decode cX4_aim 108 = .ok (.iload 5, 2) := by decide +kernel
theorem dX4_aim_110 : decode cX4_aim 110 = .ok (.iaload, 1) := by decide +kernel
theorem dX4_aim_111 : decode cX4_aim 111 = .ok (.iload 8, 2) := by decide +kernel
theorem dX4_aim_113 : decode cX4_aim 113 = .ok (.iload 7, 2) := by decide +kernel
theorem dX4_aim_115 : decode cX4_aim 115 = .ok (.iload 6, 2) := by decide +kernel
theorem dX4_aim_117 : decode cX4_aim 117 = .ok (.invokevirtual 72, 3) := by decide +kernel
theorem dX4_aim_120 : decode cX4_aim 120 = .ok (.iinc 5 1, 3) := by decide +kernel
theorem dX4_aim_123 : decode cX4_aim 123 = .ok (.iinc 8 1, 3) := by decide +kernel
theorem dX4_aim_126 : decode cX4_aim 126 = .ok (.goto (-55), 3) := by decide +kernel
theorem dX4_aim_129 : decode cX4_aim 129 = .ok (.iinc 7 1, 3) := by decide +kernel
theorem dX4_aim_132 : decode cX4_aim 132 = .ok (.goto (-76), 3) := by decide +kernel
theorem dX4_aim_135 : decode cX4_aim 135 = .ok (.iinc 6 1, 3) := by decide +kernel
theorem dX4_aim_138 : decode cX4_aim 138 = .ok (.goto (-97), 3) := by decide +kernel
theorem dX4_aim_141 : decode cX4_aim 141 = .ok (.return_, 1) := by decide +kernel
theorem dX4_lowerFloors_0 : decode cX4_lowerFloors 0 = .ok (.iconst 0, 1) := by decide +kernel
theorem dX4_lowerFloors_1 : decode cX4_lowerFloors 1 = .ok (.istore 5, 2) := by decide +kernel
theorem dX4_lowerFloors_3 : decode cX4_lowerFloors 3 = .ok (.iload 5, 2) := by decide +kernel
theorem dX4_lowerFloors_5 : decode cX4_lowerFloors 5 = .ok (.aload_n 0, 1) := by decide +kernel
theorem dX4_lowerFloors_6 : decode cX4_lowerFloors 6 = .ok (.getfield 32, 3) := by decide +kernel
theorem dX4_lowerFloors_9 : decode cX4_lowerFloors 9 = .ok (.getfield 75, 3) := by decide +kernel
theorem dX4_lowerFloors_12 : decode cX4_lowerFloors 12 = .ok (.if_icmp .ge 48, 3) := by decide +kernel
theorem dX4_lowerFloors_15 : decode cX4_lowerFloors 15 = .ok (.iload_n 1, 1) := by decide +kernel
theorem dX4_lowerFloors_16 : decode cX4_lowerFloors 16 = .ok (.aload_n 0, 1) := by decide +kernel
theorem dX4_lowerFloors_17 : decode cX4_lowerFloors 17 = .ok (.getfield 25, 3) := by decide +kernel
theorem dX4_lowerFloors_20 : decode cX4_lowerFloors 20 = .ok (.iload 5, 2) := by decide +kernel
theorem dX4_lowerFloors_22 : decode cX4_lowerFloors 22 = .ok (.iaload, 1) := by decide +kernel
theorem dX4_lowerFloors_23 : decode cX4_lowerFloors 23 = .ok (.if_icmp .ge 31, 3) := by decide +kernel
theorem dX4_lowerFloors_26 : decode cX4_lowerFloors 26 = .ok (.aload_n 0, 1) := by decide +kernel
theorem dX4_lowerFloors_27 : decode cX4_lowerFloors 27 = .ok (.getfield 32, 3) := by decide +kernel
theorem dX4_lowerFloors_30 : decode cX4_lowerFloors 30 = .ok (.getfield 78, 3) := by decide +kernel
theorem dX4_lowerFloors_33 : decode cX4_lowerFloors 33 = .ok (.iload 5, 2) := by decide +kernel
theorem dX4_lowerFloors_35 : decode cX4_lowerFloors 35 = .ok (.aaload, 1) := by decide +kernel
theorem dX4_lowerFloors_36 : decode cX4_lowerFloors 36 = .ok (.iload_n 2, 1) := by decide +kernel
theorem dX4_lowerFloors_37 : decode cX4_lowerFloors 37 = .ok (.iload_n 3, 1) := by decide +kernel
theorem dX4_lowerFloors_38 : decode cX4_lowerFloors 38 = .ok (.iload 4, 2) := by decide +kernel
theorem dX4_lowerFloors_40 : decode cX4_lowerFloors 40 = .ok (.invokevirtual 82, 3) := by decide +kernel
theorem dX4_lowerFloors_43 : decode cX4_lowerFloors 43 = .ok (.ifCond .eq 11, 3) := by decide +kernel
theorem dX4_lowerFloors_46 : decode cX4_lowerFloors 46 = .ok (.aload_n 0, 1) := by decide +kernel
theorem dX4_lowerFloors_47 : decode cX4_lowerFloors 47 = .ok (.getfield 25, 3) := by decide +kernel
theorem dX4_lowerFloors_50 : decode cX4_lowerFloors 50 = .ok (.iload 5, 2) := by decide +kernel
theorem dX4_lowerFloors_52 : decode cX4_lowerFloors 52 = .ok (.iload_n 1, 1) := by decide +kernel
theorem dX4_lowerFloors_53 : decode cX4_lowerFloors 53 = .ok (.iastore, 1) := by decide +kernel
theorem dX4_lowerFloors_54 : decode cX4_lowerFloors 54 = .ok (.iinc 5 1, 3) := by decide +kernel
theorem dX4_lowerFloors_57 : decode cX4_lowerFloors 57 = .ok (.goto (-54), 3) := by decide +kernel
theorem dX4_lowerFloors_60 : decode cX4_lowerFloors 60 = .ok (.return_, 1) := by decide +kernel
theorem dX4_weightAt_0 : decode cX4_weightAt 0 = .ok (.iload_n 1, 1) := by decide +kernel
theorem dX4_weightAt_1 : decode cX4_weightAt 1 = .ok (.bipush (-81), 2) := by decide +kernel
theorem dX4_weightAt_3 : decode cX4_weightAt 3 = .ok (.if_icmp .ge 5, 3) := by decide +kernel
theorem dX4_weightAt_6 : decode cX4_weightAt 6 = .ok (.iconst 0, 1) := by decide +kernel
theorem dX4_weightAt_7 : decode cX4_weightAt 7 = .ok (.ireturn, 1) := by decide +kernel
theorem dX4_weightAt_8 : decode cX4_weightAt 8 = .ok (.aload_n 0, 1) := by decide +kernel
theorem dX4_weightAt_9 : decode cX4_weightAt 9 = .ok (.getfield 22, 3) := by decide +kernel
theorem dX4_weightAt_12 : decode cX4_weightAt 12 = .ok (.iload_n 1, 1) := by decide +kernel
theorem dX4_weightAt_13 : decode cX4_weightAt 13 = .ok (.bipush 81, 2) := by decide +kernel
theorem dX4_weightAt_15 : decode cX4_weightAt 15 = .ok (.invokestatic 86, 3) := by decide +kernel
theorem dX4_weightAt_18 : decode cX4_weightAt 18 = .ok (.bipush 81, 2) := by decide +kernel
theorem dX4_weightAt_20 : decode cX4_weightAt 20 = .ok (.iadd, 1) := by decide +kernel
theorem dX4_weightAt_21 : decode cX4_weightAt 21 = .ok (.iaload, 1) := by decide +kernel
theorem dX4_weightAt_22 : decode cX4_weightAt 22 = .ok (.ireturn, 1) := by decide +kernel
theorem dX4_lossAt_0 : decode cX4_lossAt 0 = .ok (.aload_n 0, 1) := by decide +kernel
theorem dX4_lossAt_1 : decode cX4_lossAt 1 = .ok (.getfield 32, 3) := by decide +kernel
theorem dX4_lossAt_4 : decode cX4_lossAt 4 = .ok (.getfield 92, 3) := by decide +kernel
theorem dX4_lossAt_7 : decode cX4_lossAt 7 = .ok (.aload_n 0, 1) := by decide +kernel
theorem dX4_lossAt_8 : decode cX4_lossAt 8 = .ok (.iload_n 1, 1) := by decide +kernel
theorem dX4_lossAt_9 : decode cX4_lossAt 9 = .ok (.invokevirtual 95, 3) := by decide +kernel
theorem dX4_lossAt_12 : decode cX4_lossAt 12 = .ok (.isub, 1) := by decide +kernel
theorem dX4_lossAt_13 : decode cX4_lossAt 13 = .ok (.ireturn, 1) := by decide +kernel
theorem dX4_giveAbove_0 : decode cX4_giveAbove 0 = .ok (.aload_n 0, 1) := by decide +kernel
theorem dX4_giveAbove_1 : decode cX4_giveAbove 1 = .ok (.getfield 28, 3) := by decide +kernel
theorem dX4_giveAbove_4 : decode cX4_giveAbove 4 = .ok (.invokevirtual 99, 3) := by decide +kernel
theorem dX4_giveAbove_7 : decode cX4_giveAbove 7 = .ok (.istore_n 3, 1) := by decide +kernel
theorem dX4_giveAbove_8 : decode cX4_giveAbove 8 = .ok (.iconst 0, 1) := by decide +kernel
theorem dX4_giveAbove_9 : decode cX4_giveAbove 9 = .ok (.istore 4, 2) := by decide +kernel
theorem dX4_giveAbove_11 : decode cX4_giveAbove 11 = .ok (.iload 4, 2) := by decide +kernel
theorem dX4_giveAbove_13 : decode cX4_giveAbove 13 = .ok (.iload_n 3, 1) := by decide +kernel
theorem dX4_giveAbove_14 : decode cX4_giveAbove 14 = .ok (.if_icmp .ge 51, 3) := by decide +kernel
theorem dX4_giveAbove_17 : decode cX4_giveAbove 17 = .ok (.aload_n 0, 1) := by decide +kernel
theorem dX4_giveAbove_18 : decode cX4_giveAbove 18 = .ok (.getfield 28, 3) := by decide +kernel
theorem dX4_giveAbove_21 : decode cX4_giveAbove 21 = .ok (.getfield 60, 3) := by decide +kernel
theorem dX4_giveAbove_24 : decode cX4_giveAbove 24 = .ok (.iload 4, 2) := by decide +kernel
theorem dX4_giveAbove_26 : decode cX4_giveAbove 26 = .ok (.iaload, 1) := by decide +kernel
theorem dX4_giveAbove_27 : decode cX4_giveAbove 27 = .ok (.aload_n 0, 1) := by decide +kernel
theorem dX4_giveAbove_28 : decode cX4_giveAbove 28 = .ok (.getfield 32, 3) := by decide +kernel
theorem dX4_giveAbove_31 : decode cX4_giveAbove 31 = .ok (.getfield 63, 3) := by decide +kernel
theorem dX4_giveAbove_34 : decode cX4_giveAbove 34 = .ok (.if_icmp .ne 25, 3) := by decide +kernel
theorem dX4_giveAbove_37 : decode cX4_giveAbove 37 = .ok (.aload_n 0, 1) := by decide +kernel
theorem dX4_giveAbove_38 : decode cX4_giveAbove 38 = .ok (.getfield 18, 3) := by decide +kernel
theorem dX4_giveAbove_41 : decode cX4_giveAbove 41 = .ok (.iload 4, 2) := by decide +kernel
theorem dX4_giveAbove_43 : decode cX4_giveAbove 43 = .ok (.iaload, 1) := by decide +kernel
theorem dX4_giveAbove_44 : decode cX4_giveAbove 44 = .ok (.iload_n 1, 1) := by decide +kernel
theorem dX4_giveAbove_45 : decode cX4_giveAbove 45 = .ok (.if_icmp .le 14, 3) := by decide +kernel
theorem dX4_giveAbove_48 : decode cX4_giveAbove 48 = .ok (.aload_n 0, 1) := by decide +kernel
theorem dX4_giveAbove_49 : decode cX4_giveAbove 49 = .ok (.getfield 28, 3) := by decide +kernel
theorem dX4_giveAbove_52 : decode cX4_giveAbove 52 = .ok (.getfield 60, 3) := by decide +kernel
theorem dX4_giveAbove_55 : decode cX4_giveAbove 55 = .ok (.iload 4, 2) := by decide +kernel
theorem dX4_giveAbove_57 : decode cX4_giveAbove 57 = .ok (.iload_n 2, 1) := by decide +kernel
theorem dX4_giveAbove_58 : decode cX4_giveAbove 58 = .ok (.iastore, 1) := by decide +kernel
theorem dX4_giveAbove_59 : decode cX4_giveAbove 59 = .ok (.iinc 4 1, 3) := by decide +kernel
theorem dX4_giveAbove_62 : decode cX4_giveAbove 62 = .ok (.goto (-51), 3) := by decide +kernel
theorem dX4_giveAbove_65 : decode cX4_giveAbove 65 = .ok (.return_, 1) := by decide +kernel
theorem dX4_wouldBeFacet_0 : decode cX4_wouldBeFacet 0 = .ok (.aload_n 0, 1) := by decide +kernel
theorem dX4_wouldBeFacet_1 : decode cX4_wouldBeFacet 1 = .ok (.iload_n 1, 1) := by decide +kernel
theorem dX4_wouldBeFacet_2 : decode cX4_wouldBeFacet 2 = .ok (.invokevirtual 95, 3) := by decide +kernel
theorem dX4_wouldBeFacet_5 : decode cX4_wouldBeFacet 5 = .ok (.aload_n 0, 1) := by decide +kernel
theorem dX4_wouldBeFacet_6 : decode cX4_wouldBeFacet 6 = .ok (.iload_n 1, 1) := by decide +kernel
theorem dX4_wouldBeFacet_7 : decode cX4_wouldBeFacet 7 = .ok (.aload_n 0, 1) := by decide +kernel
theorem dX4_wouldBeFacet_8 : decode cX4_wouldBeFacet 8 = .ok (.getfield 12, 3) := by decide +kernel
theorem dX4_wouldBeFacet_11 : decode cX4_wouldBeFacet 11 = .ok (.getfield 103, 3) := by decide +kernel
theorem dX4_wouldBeFacet_14 : decode cX4_wouldBeFacet 14 = .ok (.isub, 1) := by decide +kernel
theorem dX4_wouldBeFacet_15 : decode cX4_wouldBeFacet 15 = .ok (.invokevirtual 95, 3) := by decide +kernel
theorem dX4_wouldBeFacet_18 : decode cX4_wouldBeFacet 18 = .ok (.if_icmp .le 7, 3) := by decide +kernel
theorem dX4_wouldBeFacet_21 : decode cX4_wouldBeFacet 21 = .ok (.iconst 1, 1) := by decide +kernel
theorem dX4_wouldBeFacet_22 : decode cX4_wouldBeFacet 22 = .ok (.goto 4, 3) := by decide +kernel
theorem dX4_wouldBeFacet_25 : decode cX4_wouldBeFacet 25 = .ok (.iconst 0, 1) := by decide +kernel
theorem dX4_wouldBeFacet_26 : decode cX4_wouldBeFacet 26 = .ok (.ireturn, 1) := by decide +kernel
theorem dX4_pairsAt_0 : decode cX4_pairsAt 0 = .ok (.aload_n 0, 1) := by decide +kernel
theorem dX4_pairsAt_1 : decode cX4_pairsAt 1 = .ok (.iload_n 1, 1) := by decide +kernel
theorem dX4_pairsAt_2 : decode cX4_pairsAt 2 = .ok (.invokevirtual 106, 3) := by decide +kernel
theorem dX4_pairsAt_5 : decode cX4_pairsAt 5 = .ok (.istore_n 2, 1) := by decide +kernel
theorem dX4_pairsAt_6 : decode cX4_pairsAt 6 = .ok (.iconst 0, 1) := by decide +kernel
theorem dX4_pairsAt_7 : decode cX4_pairsAt 7 = .ok (.istore_n 3, 1) := by decide +kernel
theorem dX4_pairsAt_8 : decode cX4_pairsAt 8 = .ok (.iconst 0, 1) := by decide +kernel
theorem dX4_pairsAt_9 : decode cX4_pairsAt 9 = .ok (.istore 4, 2) := by decide +kernel
theorem dX4_pairsAt_11 : decode cX4_pairsAt 11 = .ok (.iload 4, 2) := by decide +kernel
theorem dX4_pairsAt_13 : decode cX4_pairsAt 13 = .ok (.aload_n 0, 1) := by decide +kernel
theorem dX4_pairsAt_14 : decode cX4_pairsAt 14 = .ok (.getfield 32, 3) := by decide +kernel
theorem dX4_pairsAt_17 : decode cX4_pairsAt 17 = .ok (.getfield 75, 3) := by decide +kernel
theorem dX4_pairsAt_20 : decode cX4_pairsAt 20 = .ok (.if_icmp .ge 62, 3) := by decide +kernel
theorem dX4_pairsAt_23 : decode cX4_pairsAt 23 = .ok (.aload_n 0, 1) := by decide +kernel
theorem dX4_pairsAt_24 : decode cX4_pairsAt 24 = .ok (.getfield 25, 3) := by decide +kernel
theorem dX4_pairsAt_27 : decode cX4_pairsAt 27 = .ok (.iload 4, 2) := by decide +kernel
theorem dX4_pairsAt_29 : decode cX4_pairsAt 29 = .ok (.iaload, 1) := by decide +kernel
theorem dX4_pairsAt_30 : decode cX4_pairsAt 30 = .ok (.iload_n 1, 1) := by decide +kernel
theorem dX4_pairsAt_31 : decode cX4_pairsAt 31 = .ok (.if_icmp .gt 45, 3) := by decide +kernel
theorem dX4_pairsAt_34 : decode cX4_pairsAt 34 = .ok (.iload_n 3, 1) := by decide +kernel
theorem dX4_pairsAt_35 : decode cX4_pairsAt 35 = .ok (.iload_n 2, 1) := by decide +kernel
theorem dX4_pairsAt_36 : decode cX4_pairsAt 36 = .ok (.ifCond .eq 27, 3) := by decide +kernel
theorem dX4_pairsAt_39 : decode cX4_pairsAt 39 = .ok (.aload_n 0, 1) := by decide +kernel
theorem dX4_pairsAt_40 : decode cX4_pairsAt 40 = .ok (.getfield 32, 3) := by decide +kernel
theorem dX4_pairsAt_43 : decode cX4_pairsAt 43 = .ok (.getfield 78, 3) := by decide +kernel
theorem dX4_pairsAt_46 : decode cX4_pairsAt 46 = .ok (.iload 4, 2) := by decide +kernel
theorem dX4_pairsAt_48 : decode cX4_pairsAt 48 = .ok (.aaload, 1) := by decide +kernel
theorem dX4_pairsAt_49 : decode cX4_pairsAt 49 = .ok (.aload_n 0, 1) := by decide +kernel
theorem dX4_pairsAt_50 : decode cX4_pairsAt 50 = .ok (.getfield 12, 3) := by decide +kernel
theorem dX4_pairsAt_53 : decode cX4_pairsAt 53 = .ok (.invokevirtual 110, 3) := by decide +kernel
theorem dX4_pairsAt_56 : decode cX4_pairsAt 56 = .ok (.ifCond .eq 7, 3) := by decide +kernel
theorem dX4_pairsAt_59 : decode cX4_pairsAt 59 = .ok (.iconst 1, 1) := by decide +kernel
theorem dX4_pairsAt_60 : decode cX4_pairsAt 60 = .ok (.goto 4, 3) := by decide +kernel
theorem dX4_pairsAt_63 : decode cX4_pairsAt 63 = .ok (.iconst 0, 1) := by decide +kernel
theorem dX4_pairsAt_64 : decode cX4_pairsAt 64 = .ok (.iadd, 1) := by decide +kernel
theorem dX4_pairsAt_65 : decode cX4_pairsAt 65 = .ok (.istore_n 3, 1) := by decide +kernel
theorem dX4_pairsAt_66 : decode cX4_pairsAt 66 = .ok (.iload_n 3, 1) := by decide +kernel
theorem dX4_pairsAt_67 : decode cX4_pairsAt 67 = .ok (.aload_n 0, 1) := by decide +kernel
theorem dX4_pairsAt_68 : decode cX4_pairsAt 68 = .ok (.iload 4, 2) := by decide +kernel
theorem dX4_pairsAt_70 : decode cX4_pairsAt 70 = .ok (.iload_n 1, 1) := by decide +kernel
theorem dX4_pairsAt_71 : decode cX4_pairsAt 71 = .ok (.invokevirtual 114, 3) := by decide +kernel
theorem dX4_pairsAt_74 : decode cX4_pairsAt 74 = .ok (.iadd, 1) := by decide +kernel
theorem dX4_pairsAt_75 : decode cX4_pairsAt 75 = .ok (.istore_n 3, 1) := by decide +kernel
theorem dX4_pairsAt_76 : decode cX4_pairsAt 76 = .ok (.iinc 4 1, 3) := by decide +kernel
theorem dX4_pairsAt_79 : decode cX4_pairsAt 79 = .ok (.goto (-68), 3) := by decide +kernel
theorem dX4_pairsAt_82 : decode cX4_pairsAt 82 = .ok (.iload_n 3, 1) := by decide +kernel
theorem dX4_pairsAt_83 : decode cX4_pairsAt 83 = .ok (.ireturn, 1) := by decide +kernel
theorem dX4_laterOpposites_0 : decode cX4_laterOpposites 0 = .ok (.iconst 0, 1) := by decide +kernel
theorem dX4_laterOpposites_1 : decode cX4_laterOpposites 1 = .ok (.istore_n 3, 1) := by decide +kernel
theorem dX4_laterOpposites_2 : decode cX4_laterOpposites 2 = .ok (.iload_n 1, 1) := by decide +kernel
theorem dX4_laterOpposites_3 : decode cX4_laterOpposites 3 = .ok (.iconst 1, 1) := by decide +kernel
theorem dX4_laterOpposites_4 : decode cX4_laterOpposites 4 = .ok (.iadd, 1) := by decide +kernel
theorem dX4_laterOpposites_5 : decode cX4_laterOpposites 5 = .ok (.istore 4, 2) := by decide +kernel
theorem dX4_laterOpposites_7 : decode cX4_laterOpposites 7 = .ok (.iload 4, 2) := by decide +kernel
theorem dX4_laterOpposites_9 : decode cX4_laterOpposites 9 = .ok (.aload_n 0, 1) := by decide +kernel
theorem dX4_laterOpposites_10 : decode cX4_laterOpposites 10 = .ok (.getfield 32, 3) := by decide +kernel
theorem dX4_laterOpposites_13 : decode cX4_laterOpposites 13 = .ok (.getfield 75, 3) := by decide +kernel
theorem dX4_laterOpposites_16 : decode cX4_laterOpposites 16 = .ok (.if_icmp .ge 48, 3) := by decide +kernel
theorem dX4_laterOpposites_19 : decode cX4_laterOpposites 19 = .ok (.aload_n 0, 1) := by decide +kernel
theorem dX4_laterOpposites_20 : decode cX4_laterOpposites 20 = .ok (.getfield 25, 3) := by decide +kernel
theorem dX4_laterOpposites_23 : decode cX4_laterOpposites 23 = .ok (.iload 4, 2) := by decide +kernel
theorem dX4_laterOpposites_25 : decode cX4_laterOpposites 25 = .ok (.iaload, 1) := by decide +kernel
theorem dX4_laterOpposites_26 : decode cX4_laterOpposites 26 = .ok (.iload_n 2, 1) := by decide +kernel
theorem dX4_laterOpposites_27 : decode cX4_laterOpposites 27 = .ok (.if_icmp .gt 31, 3) := by decide +kernel
theorem dX4_laterOpposites_30 : decode cX4_laterOpposites 30 = .ok (.aload_n 0, 1) := by decide +kernel
theorem dX4_laterOpposites_31 : decode cX4_laterOpposites 31 = .ok (.getfield 32, 3) := by decide +kernel
theorem dX4_laterOpposites_34 : decode cX4_laterOpposites 34 = .ok (.getfield 78, 3) := by decide +kernel
theorem dX4_laterOpposites_37 : decode cX4_laterOpposites 37 = .ok (.iload_n 1, 1) := by decide +kernel
theorem dX4_laterOpposites_38 : decode cX4_laterOpposites 38 = .ok (.aaload, 1) := by decide +kernel
theorem dX4_laterOpposites_39 : decode cX4_laterOpposites 39 = .ok (.aload_n 0, 1) := by decide +kernel
theorem dX4_laterOpposites_40 : decode cX4_laterOpposites 40 = .ok (.getfield 32, 3) := by decide +kernel
theorem dX4_laterOpposites_43 : decode cX4_laterOpposites 43 = .ok (.getfield 78, 3) := by decide +kernel
theorem dX4_laterOpposites_46 : decode cX4_laterOpposites 46 = .ok (.iload 4, 2) := by decide +kernel
theorem dX4_laterOpposites_48 : decode cX4_laterOpposites 48 = .ok (.aaload, 1) := by decide +kernel
theorem dX4_laterOpposites_49 : decode cX4_laterOpposites 49 = .ok (.invokevirtual 110, 3) := by decide +kernel
theorem dX4_laterOpposites_52 : decode cX4_laterOpposites 52 = .ok (.ifCond .eq 6, 3) := by decide +kernel
theorem dX4_laterOpposites_55 : decode cX4_laterOpposites 55 = .ok (.iinc 3 1, 3) := by decide +kernel
theorem dX4_laterOpposites_58 : decode cX4_laterOpposites 58 = .ok (.iinc 4 1, 3) := by decide +kernel
theorem dX4_laterOpposites_61 : decode cX4_laterOpposites 61 = .ok (.goto (-54), 3) := by decide +kernel
theorem dX4_laterOpposites_64 : decode cX4_laterOpposites 64 = .ok (.iload_n 3, 1) := by decide +kernel
theorem dX4_laterOpposites_65 : decode cX4_laterOpposites 65 = .ok (.ireturn, 1) := by decide +kernel
theorem dX4_polishedAt_0 : decode cX4_polishedAt 0 = .ok (.iconst 0, 1) := by decide +kernel
theorem dX4_polishedAt_1 : decode cX4_polishedAt 1 = .ok (.istore_n 2, 1) := by decide +kernel
theorem dX4_polishedAt_2 : decode cX4_polishedAt 2 = .ok (.iconst 0, 1) := by decide +kernel
theorem dX4_polishedAt_3 : decode cX4_polishedAt 3 = .ok (.istore_n 3, 1) := by decide +kernel
theorem dX4_polishedAt_4 : decode cX4_polishedAt 4 = .ok (.iload_n 3, 1) := by decide +kernel
theorem dX4_polishedAt_5 : decode cX4_polishedAt 5 = .ok (.aload_n 0, 1) := by decide +kernel
theorem dX4_polishedAt_6 : decode cX4_polishedAt 6 = .ok (.getfield 32, 3) := by decide +kernel
theorem dX4_polishedAt_9 : decode cX4_polishedAt 9 = .ok (.getfield 75, 3) := by decide +kernel
theorem dX4_polishedAt_12 : decode cX4_polishedAt 12 = .ok (.if_icmp .ge 37, 3) := by decide +kernel
theorem dX4_polishedAt_15 : decode cX4_polishedAt 15 = .ok (.aload_n 0, 1) := by decide +kernel
theorem dX4_polishedAt_16 : decode cX4_polishedAt 16 = .ok (.getfield 25, 3) := by decide +kernel
theorem dX4_polishedAt_19 : decode cX4_polishedAt 19 = .ok (.iload_n 3, 1) := by decide +kernel
theorem dX4_polishedAt_20 : decode cX4_polishedAt 20 = .ok (.iaload, 1) := by decide +kernel
theorem dX4_polishedAt_21 : decode cX4_polishedAt 21 = .ok (.iload_n 1, 1) := by decide +kernel
theorem dX4_polishedAt_22 : decode cX4_polishedAt 22 = .ok (.if_icmp .gt 21, 3) := by decide +kernel
theorem dX4_polishedAt_25 : decode cX4_polishedAt 25 = .ok (.aload_n 0, 1) := by decide +kernel
theorem dX4_polishedAt_26 : decode cX4_polishedAt 26 = .ok (.getfield 32, 3) := by decide +kernel
theorem dX4_polishedAt_29 : decode cX4_polishedAt 29 = .ok (.getfield 78, 3) := by decide +kernel
theorem dX4_polishedAt_32 : decode cX4_polishedAt 32 = .ok (.iload_n 3, 1) := by decide +kernel
theorem dX4_polishedAt_33 : decode cX4_polishedAt 33 = .ok (.aaload, 1) := by decide +kernel
theorem dX4_polishedAt_34 : decode cX4_polishedAt 34 = .ok (.getfield 117, 3) := by decide +kernel
theorem dX4_polishedAt_37 : decode cX4_polishedAt 37 = .ok (.ifCond .eq 6, 3) := by decide +kernel
theorem dX4_polishedAt_40 : decode cX4_polishedAt 40 = .ok (.iinc 2 1, 3) := by decide +kernel
theorem dX4_polishedAt_43 : decode cX4_polishedAt 43 = .ok (.iinc 3 1, 3) := by decide +kernel
theorem dX4_polishedAt_46 : decode cX4_polishedAt 46 = .ok (.goto (-42), 3) := by decide +kernel
theorem dX4_polishedAt_49 : decode cX4_polishedAt 49 = .ok (.iload_n 2, 1) := by decide +kernel
theorem dX4_polishedAt_50 : decode cX4_polishedAt 50 = .ok (.ireturn, 1) := by decide +kernel
theorem dX4_stateAt_0 : decode cX4_stateAt 0 = .ok (.iconst (-1), 1) := by decide +kernel
theorem dX4_stateAt_1 : decode cX4_stateAt 1 = .ok (.istore_n 3, 1) := by decide +kernel
theorem dX4_stateAt_2 : decode cX4_stateAt 2 = .ok (.iconst 0, 1) := by decide +kernel
theorem dX4_stateAt_3 : decode cX4_stateAt 3 = .ok (.istore 4, 2) := by decide +kernel
theorem dX4_stateAt_5 : decode cX4_stateAt 5 = .ok (.iload 4, 2) := by decide +kernel
theorem dX4_stateAt_7 : decode cX4_stateAt 7 = .ok (.aload_n 1, 1) := by decide +kernel
theorem dX4_stateAt_8 : decode cX4_stateAt 8 = .ok (.getfield 121, 3) := by decide +kernel
theorem dX4_stateAt_11 : decode cX4_stateAt 11 = .ok (.if_icmp .ge 85, 3) := by decide +kernel
theorem dX4_stateAt_14 : decode cX4_stateAt 14 = .ok (.aload_n 1, 1) := by decide +kernel
theorem dX4_stateAt_15 : decode cX4_stateAt 15 = .ok (.getfield 126, 3) := by decide +kernel
theorem dX4_stateAt_18 : decode cX4_stateAt 18 = .ok (.iload 4, 2) := by decide +kernel
theorem dX4_stateAt_20 : decode cX4_stateAt 20 = .ok (.iaload, 1) := by decide +kernel
theorem dX4_stateAt_21 : decode cX4_stateAt 21 = .ok (.istore 5, 2) := by decide +kernel
theorem dX4_stateAt_23 : decode cX4_stateAt 23 = .ok (.aload_n 0, 1) := by decide +kernel
theorem dX4_stateAt_24 : decode cX4_stateAt 24 = .ok (.getfield 28, 3) := by decide +kernel
theorem dX4_stateAt_27 : decode cX4_stateAt 27 = .ok (.getfield 60, 3) := by decide +kernel
theorem dX4_stateAt_30 : decode cX4_stateAt 30 = .ok (.iload 5, 2) := by decide +kernel
theorem dX4_stateAt_32 : decode cX4_stateAt 32 = .ok (.iaload, 1) := by decide +kernel
theorem dX4_stateAt_33 : decode cX4_stateAt 33 = .ok (.aload_n 0, 1) := by decide +kernel
theorem dX4_stateAt_34 : decode cX4_stateAt 34 = .ok (.getfield 32, 3) := by decide +kernel
theorem dX4_stateAt_37 : decode cX4_stateAt 37 = .ok (.getfield 63, 3) := by decide +kernel
theorem dX4_stateAt_40 : decode cX4_stateAt 40 = .ok (.if_icmp .ne 50, 3) := by decide +kernel
theorem dX4_stateAt_43 : decode cX4_stateAt 43 = .ok (.aload_n 0, 1) := by decide +kernel
theorem dX4_stateAt_44 : decode cX4_stateAt 44 = .ok (.getfield 18, 3) := by decide +kernel
theorem dX4_stateAt_47 : decode cX4_stateAt 47 = .ok (.iload 5, 2) := by decide +kernel
theorem dX4_stateAt_49 : decode cX4_stateAt 49 = .ok (.iaload, 1) := by decide +kernel
theorem dX4_stateAt_50 : decode cX4_stateAt 50 = .ok (.iload_n 2, 1) := by decide +kernel
theorem dX4_stateAt_51 : decode cX4_stateAt 51 = .ok (.if_icmp .gt 39, 3) := by decide +kernel
theorem dX4_stateAt_54 : decode cX4_stateAt 54 = .ok (.aload_n 0, 1) := by decide +kernel
theorem dX4_stateAt_55 : decode cX4_stateAt 55 = .ok (.getfield 28, 3) := by decide +kernel
theorem dX4_stateAt_58 : decode cX4_stateAt 58 = .ok (.getfield 129, 3) := by decide +kernel
theorem dX4_stateAt_61 : decode cX4_stateAt 61 = .ok (.iload 5, 2) := by decide +kernel
theorem dX4_stateAt_63 : decode cX4_stateAt 63 = .ok (.baload, 1) := by decide +kernel
theorem dX4_stateAt_64 : decode cX4_stateAt 64 = .ok (.ifCond .ne 22, 3) := by decide +kernel
theorem dX4_stateAt_67 : decode cX4_stateAt 67 = .ok (.aload_n 0, 1) := by decide +kernel
theorem dX4_stateAt_68 : decode cX4_stateAt 68 = .ok (.getfield 18, 3) := by decide +kernel
theorem dX4_stateAt_71 : decode cX4_stateAt 71 = .ok (.iload 5, 2) := by decide +kernel
theorem dX4_stateAt_73 : decode cX4_stateAt 73 = .ok (.iaload, 1) := by decide +kernel
theorem dX4_stateAt_74 : decode cX4_stateAt 74 = .ok (.aload_n 0, 1) := by decide +kernel
theorem dX4_stateAt_75 : decode cX4_stateAt 75 = .ok (.getfield 12, 3) := by decide +kernel
theorem dX4_stateAt_78 : decode cX4_stateAt 78 = .ok (.getfield 103, 3) := by decide +kernel
theorem dX4_stateAt_81 : decode cX4_stateAt 81 = .ok (.iadd, 1) := by decide +kernel
theorem dX4_stateAt_82 : decode cX4_stateAt 82 = .ok (.iload_n 2, 1) := by decide +kernel
theorem dX4_stateAt_83 : decode cX4_stateAt 83 = .ok (.if_icmp .le 5, 3) := by decide +kernel
theorem dX4_stateAt_86 : decode cX4_stateAt 86 = .ok (.iconst 1, 1) := by decide +kernel
theorem dX4_stateAt_87 : decode cX4_stateAt 87 = .ok (.ireturn, 1) := by decide +kernel
theorem dX4_stateAt_88 : decode cX4_stateAt 88 = .ok (.iconst 0, 1) := by decide +kernel
theorem dX4_stateAt_89 : decode cX4_stateAt 89 = .ok (.istore_n 3, 1) := by decide +kernel
theorem dX4_stateAt_90 : decode cX4_stateAt 90 = .ok (.iinc 4 1, 3) := by decide +kernel
theorem dX4_stateAt_93 : decode cX4_stateAt 93 = .ok (.goto (-88), 3) := by decide +kernel
theorem dX4_stateAt_96 : decode cX4_stateAt 96 = .ok (.iload_n 3, 1) := by decide +kernel
theorem dX4_stateAt_97 : decode cX4_stateAt 97 = .ok (.ireturn, 1) := by decide +kernel
theorem dX4_openFlawsAt_0 : decode cX4_openFlawsAt 0 = .ok (.iconst 0, 1) := by decide +kernel
theorem dX4_openFlawsAt_1 : decode cX4_openFlawsAt 1 = .ok (.istore_n 2, 1) := by decide +kernel
theorem dX4_openFlawsAt_2 : decode cX4_openFlawsAt 2 = .ok (.iconst 0, 1) := by decide +kernel
theorem dX4_openFlawsAt_3 : decode cX4_openFlawsAt 3 = .ok (.istore_n 3, 1) := by decide +kernel
theorem dX4_openFlawsAt_4 : decode cX4_openFlawsAt 4 = .ok (.iload_n 3, 1) := by decide +kernel
theorem dX4_openFlawsAt_5 : decode cX4_openFlawsAt 5 = .ok (.aload_n 0, 1) := by decide +kernel
theorem dX4_openFlawsAt_6 : decode cX4_openFlawsAt 6 = .ok (.getfield 28, 3) := by decide +kernel
theorem dX4_openFlawsAt_9 : decode cX4_openFlawsAt 9 = .ok (.getfield 133, 3) := by decide +kernel
theorem dX4_openFlawsAt_12 : decode cX4_openFlawsAt 12 = .ok (.if_icmp .ge 30, 3) := by decide +kernel
theorem dX4_openFlawsAt_15 : decode cX4_openFlawsAt 15 = .ok (.aload_n 0, 1) := by decide +kernel
theorem dX4_openFlawsAt_16 : decode cX4_openFlawsAt 16 = .ok (.aload_n 0, 1) := by decide +kernel
theorem dX4_openFlawsAt_17 : decode cX4_openFlawsAt 17 = .ok (.getfield 28, 3) := by decide +kernel
theorem dX4_openFlawsAt_20 : decode cX4_openFlawsAt 20 = .ok (.getfield 136, 3) := by decide +kernel
theorem dX4_openFlawsAt_23 : decode cX4_openFlawsAt 23 = .ok (.iload_n 3, 1) := by decide +kernel
theorem dX4_openFlawsAt_24 : decode cX4_openFlawsAt 24 = .ok (.aaload, 1) := by decide +kernel
theorem dX4_openFlawsAt_25 : decode cX4_openFlawsAt 25 = .ok (.iload_n 1, 1) := by decide +kernel
theorem dX4_openFlawsAt_26 : decode cX4_openFlawsAt 26 = .ok (.invokevirtual 140, 3) := by decide +kernel
theorem dX4_openFlawsAt_29 : decode cX4_openFlawsAt 29 = .ok (.iconst 1, 1) := by decide +kernel
theorem dX4_openFlawsAt_30 : decode cX4_openFlawsAt 30 = .ok (.if_icmp .ne 6, 3) := by decide +kernel
theorem dX4_openFlawsAt_33 : decode cX4_openFlawsAt 33 = .ok (.iinc 2 1, 3) := by decide +kernel
theorem dX4_openFlawsAt_36 : decode cX4_openFlawsAt 36 = .ok (.iinc 3 1, 3) := by decide +kernel
theorem dX4_openFlawsAt_39 : decode cX4_openFlawsAt 39 = .ok (.goto (-35), 3) := by decide +kernel
theorem dX4_openFlawsAt_42 : decode cX4_openFlawsAt 42 = .ok (.iload_n 2, 1) := by decide +kernel
theorem dX4_openFlawsAt_43 : decode cX4_openFlawsAt 43 = .ok (.ireturn, 1) := by decide +kernel
theorem dX4_worthAt_0 : decode cX4_worthAt 0 = .ok (.iconst 0, 1) := by decide +kernel
theorem dX4_worthAt_1 : decode cX4_worthAt 1 = .ok (.istore_n 2, 1) := by decide +kernel
theorem dX4_worthAt_2 : decode cX4_worthAt 2 = .ok (.iconst 0, 1) := by decide +kernel
theorem dX4_worthAt_3 : decode cX4_worthAt 3 = .ok (.istore_n 3, 1) := by decide +kernel
theorem dX4_worthAt_4 : decode cX4_worthAt 4 = .ok (.iload_n 3, 1) := by decide +kernel
theorem dX4_worthAt_5 : decode cX4_worthAt 5 = .ok (.aload_n 0, 1) := by decide +kernel
theorem dX4_worthAt_6 : decode cX4_worthAt 6 = .ok (.getfield 28, 3) := by decide +kernel
theorem dX4_worthAt_9 : decode cX4_worthAt 9 = .ok (.getfield 133, 3) := by decide +kernel
theorem dX4_worthAt_12 : decode cX4_worthAt 12 = .ok (.if_icmp .ge 38, 3) := by decide +kernel
theorem dX4_worthAt_15 : decode cX4_worthAt 15 = .ok (.iload_n 2, 1) := by decide +kernel
theorem dX4_worthAt_16 : decode cX4_worthAt 16 = .ok (.aload_n 0, 1) := by decide +kernel
theorem dX4_worthAt_17 : decode cX4_worthAt 17 = .ok (.getfield 28, 3) := by decide +kernel
theorem dX4_worthAt_20 : decode cX4_worthAt 20 = .ok (.getfield 136, 3) := by decide +kernel
theorem dX4_worthAt_23 : decode cX4_worthAt 23 = .ok (.iload_n 3, 1) := by decide +kernel
theorem dX4_worthAt_24 : decode cX4_worthAt 24 = .ok (.aaload, 1) := by decide +kernel
theorem dX4_worthAt_25 : decode cX4_worthAt 25 = .ok (.aload_n 0, 1) := by decide +kernel
theorem dX4_worthAt_26 : decode cX4_worthAt 26 = .ok (.aload_n 0, 1) := by decide +kernel
theorem dX4_worthAt_27 : decode cX4_worthAt 27 = .ok (.getfield 28, 3) := by decide +kernel
theorem dX4_worthAt_30 : decode cX4_worthAt 30 = .ok (.getfield 136, 3) := by decide +kernel
theorem dX4_worthAt_33 : decode cX4_worthAt 33 = .ok (.iload_n 3, 1) := by decide +kernel
theorem dX4_worthAt_34 : decode cX4_worthAt 34 = .ok (.aaload, 1) := by decide +kernel
theorem dX4_worthAt_35 : decode cX4_worthAt 35 = .ok (.iload_n 1, 1) := by decide +kernel
theorem dX4_worthAt_36 : decode cX4_worthAt 36 = .ok (.invokevirtual 140, 3) := by decide +kernel
theorem dX4_worthAt_39 : decode cX4_worthAt 39 = .ok (.invokevirtual 144, 3) := by decide +kernel
theorem dX4_worthAt_42 : decode cX4_worthAt 42 = .ok (.iadd, 1) := by decide +kernel
theorem dX4_worthAt_43 : decode cX4_worthAt 43 = .ok (.istore_n 2, 1) := by decide +kernel
theorem dX4_worthAt_44 : decode cX4_worthAt 44 = .ok (.iinc 3 1, 3) := by decide +kernel
theorem dX4_worthAt_47 : decode cX4_worthAt 47 = .ok (.goto (-43), 3) := by decide +kernel
theorem dX4_worthAt_50 : decode cX4_worthAt 50 = .ok (.aload_n 0, 1) := by decide +kernel
theorem dX4_worthAt_51 : decode cX4_worthAt 51 = .ok (.iload_n 1, 1) := by decide +kernel
theorem dX4_worthAt_52 : decode cX4_worthAt 52 = .ok (.invokevirtual 95, 3) := by decide +kernel
theorem dX4_worthAt_55 : decode cX4_worthAt 55 = .ok (.iload_n 2, 1) := by decide +kernel
theorem dX4_worthAt_56 : decode cX4_worthAt 56 = .ok (.aload_n 0, 1) := by decide +kernel
theorem dX4_worthAt_57 : decode cX4_worthAt 57 = .ok (.iload_n 1, 1) := by decide +kernel
theorem dX4_worthAt_58 : decode cX4_worthAt 58 = .ok (.invokevirtual 147, 3) := by decide +kernel
theorem dX4_worthAt_61 : decode cX4_worthAt 61 = .ok (.aload_n 0, 1) := by decide +kernel
theorem dX4_worthAt_62 : decode cX4_worthAt 62 = .ok (.iload_n 1, 1) := by decide +kernel
theorem dX4_worthAt_63 : decode cX4_worthAt 63 = .ok (.invokevirtual 150, 3) := by decide +kernel
theorem dX4_worthAt_66 : decode cX4_worthAt 66 = .ok (.invokestatic 153, 3) := by decide +kernel
theorem dX4_worthAt_69 : decode cX4_worthAt 69 = .ok (.ireturn, 1) := by decide +kernel
theorem dX4_isWithin_0 : decode cX4_isWithin 0 = .ok (.aload_n 0, 1) := by decide +kernel
theorem dX4_isWithin_1 : decode cX4_isWithin 1 = .ok (.iload_n 1, 1) := by decide +kernel
theorem dX4_isWithin_2 : decode cX4_isWithin 2 = .ok (.invokevirtual 95, 3) := by decide +kernel
theorem dX4_isWithin_5 : decode cX4_isWithin 5 = .ok (.ifCond .le 24, 3) := by decide +kernel
theorem dX4_isWithin_8 : decode cX4_isWithin 8 = .ok (.aload_n 0, 1) := by decide +kernel
theorem dX4_isWithin_9 : decode cX4_isWithin 9 = .ok (.iload_n 1, 1) := by decide +kernel
theorem dX4_isWithin_10 : decode cX4_isWithin 10 = .ok (.iconst 1, 1) := by decide +kernel
theorem dX4_isWithin_11 : decode cX4_isWithin 11 = .ok (.isub, 1) := by decide +kernel
theorem dX4_isWithin_12 : decode cX4_isWithin 12 = .ok (.invokevirtual 95, 3) := by decide +kernel
theorem dX4_isWithin_15 : decode cX4_isWithin 15 = .ok (.aload_n 0, 1) := by decide +kernel
theorem dX4_isWithin_16 : decode cX4_isWithin 16 = .ok (.getfield 32, 3) := by decide +kernel
theorem dX4_isWithin_19 : decode cX4_isWithin 19 = .ok (.getfield 92, 3) := by decide +kernel
theorem dX4_isWithin_22 : decode cX4_isWithin 22 = .ok (.if_icmp .ge 7, 3) := by decide +kernel
theorem dX4_isWithin_25 : decode cX4_isWithin 25 = .ok (.iconst 1, 1) := by decide +kernel
theorem dX4_isWithin_26 : decode cX4_isWithin 26 = .ok (.goto 4, 3) := by decide +kernel
theorem dX4_isWithin_29 : decode cX4_isWithin 29 = .ok (.iconst 0, 1) := by decide +kernel
theorem dX4_isWithin_30 : decode cX4_isWithin 30 = .ok (.ireturn, 1) := by decide +kernel
theorem dX4_bestDepth_0 : decode cX4_bestDepth 0 = .ok (.iconst 0, 1) := by decide +kernel
theorem dX4_bestDepth_1 : decode cX4_bestDepth 1 = .ok (.istore_n 1, 1) := by decide +kernel
theorem dX4_bestDepth_2 : decode cX4_bestDepth 2 = .ok (.iconst 0, 1) := by decide +kernel
theorem dX4_bestDepth_3 : decode cX4_bestDepth 3 = .ok (.istore_n 2, 1) := by decide +kernel
theorem dX4_bestDepth_4 : decode cX4_bestDepth 4 = .ok (.bipush (-81), 2) := by decide +kernel
theorem dX4_bestDepth_6 : decode cX4_bestDepth 6 = .ok (.istore_n 3, 1) := by decide +kernel
theorem dX4_bestDepth_7 : decode cX4_bestDepth 7 = .ok (.iload_n 3, 1) := by decide +kernel
theorem dX4_bestDepth_8 : decode cX4_bestDepth 8 = .ok (.bipush 81, 2) := by decide +kernel
theorem dX4_bestDepth_10 : decode cX4_bestDepth 10 = .ok (.if_icmp .gt 35, 3) := by decide +kernel
theorem dX4_bestDepth_13 : decode cX4_bestDepth 13 = .ok (.aload_n 0, 1) := by decide +kernel
theorem dX4_bestDepth_14 : decode cX4_bestDepth 14 = .ok (.iload_n 3, 1) := by decide +kernel
theorem dX4_bestDepth_15 : decode cX4_bestDepth 15 = .ok (.invokevirtual 157, 3) := by decide +kernel
theorem dX4_bestDepth_18 : decode cX4_bestDepth 18 = .ok (.ifCond .eq 21, 3) := by decide +kernel
theorem dX4_bestDepth_21 : decode cX4_bestDepth 21 = .ok (.aload_n 0, 1) := by decide +kernel
theorem dX4_bestDepth_22 : decode cX4_bestDepth 22 = .ok (.iload_n 3, 1) := by decide +kernel
theorem dX4_bestDepth_23 : decode cX4_bestDepth 23 = .ok (.invokevirtual 160, 3) := by decide +kernel
theorem dX4_bestDepth_26 : decode cX4_bestDepth 26 = .ok (.istore 4, 2) := by decide +kernel
theorem dX4_bestDepth_28 : decode cX4_bestDepth 28 = .ok (.iload 4, 2) := by decide +kernel
theorem dX4_bestDepth_30 : decode cX4_bestDepth 30 = .ok (.iload_n 2, 1) := by decide +kernel
theorem dX4_bestDepth_31 : decode cX4_bestDepth 31 = .ok (.if_icmp .lt 8, 3) := by decide +kernel
theorem dX4_bestDepth_34 : decode cX4_bestDepth 34 = .ok (.iload_n 3, 1) := by decide +kernel
theorem dX4_bestDepth_35 : decode cX4_bestDepth 35 = .ok (.istore_n 1, 1) := by decide +kernel
theorem dX4_bestDepth_36 : decode cX4_bestDepth 36 = .ok (.iload 4, 2) := by decide +kernel
theorem dX4_bestDepth_38 : decode cX4_bestDepth 38 = .ok (.istore_n 2, 1) := by decide +kernel
theorem dX4_bestDepth_39 : decode cX4_bestDepth 39 = .ok (.iinc 3 1, 3) := by decide +kernel
theorem dX4_bestDepth_42 : decode cX4_bestDepth 42 = .ok (.goto (-35), 3) := by decide +kernel
theorem dX4_bestDepth_45 : decode cX4_bestDepth 45 = .ok (.iload_n 1, 1) := by decide +kernel
theorem dX4_bestDepth_46 : decode cX4_bestDepth 46 = .ok (.ireturn, 1) := by decide +kernel
theorem dX4_leastLoss_0 : decode cX4_leastLoss 0 = .ok (.iconst (-1), 1) := by decide +kernel
theorem dX4_leastLoss_1 : decode cX4_leastLoss 1 = .ok (.istore 4, 2) := by decide +kernel
theorem dX4_leastLoss_3 : decode cX4_leastLoss 3 = .ok (.sipush (-1000), 3) := by decide +kernel
theorem dX4_leastLoss_6 : decode cX4_leastLoss 6 = .ok (.istore 5, 2) := by decide +kernel
theorem dX4_leastLoss_8 : decode cX4_leastLoss 8 = .ok (.sipush 1001, 3) := by decide +kernel
theorem dX4_leastLoss_11 : decode cX4_leastLoss 11 = .ok (.istore 6, 2) := by decide +kernel
theorem dX4_leastLoss_13 : decode cX4_leastLoss 13 = .ok (.iconst 0, 1) := by decide +kernel
theorem dX4_leastLoss_14 : decode cX4_leastLoss 14 = .ok (.istore 7, 2) := by decide +kernel
theorem dX4_leastLoss_16 : decode cX4_leastLoss 16 = .ok (.iload 7, 2) := by decide +kernel
theorem dX4_leastLoss_18 : decode cX4_leastLoss 18 = .ok (.bipush 27, 2) := by decide +kernel
theorem dX4_leastLoss_20 : decode cX4_leastLoss 20 = .ok (.if_icmp .ge 98, 3) := by decide +kernel
theorem dX4_leastLoss_23 : decode cX4_leastLoss 23 = .ok (.iload 7, 2) := by decide +kernel
theorem dX4_leastLoss_25 : decode cX4_leastLoss 25 = .ok (.bipush 9, 2) := by decide +kernel
theorem dX4_leastLoss_27 : decode cX4_leastLoss 27 = .ok (.idiv, 1) := by decide +kernel
theorem dX4_leastLoss_28 : decode cX4_leastLoss 28 = .ok (.iconst 1, 1) := by decide +kernel
theorem dX4_leastLoss_29 : decode cX4_leastLoss 29 = .ok (.isub, 1) := by decide +kernel
theorem dX4_leastLoss_30 : decode cX4_leastLoss 30 = .ok (.istore 8, 2) := by decide +kernel
theorem dX4_leastLoss_32 : decode cX4_leastLoss 32 = .ok (.iload 7, 2) := by decide +kernel
theorem dX4_leastLoss_34 : decode cX4_leastLoss 34 = .ok (.iconst 3, 1) := by decide +kernel
theorem dX4_leastLoss_35 : decode cX4_leastLoss 35 = .ok (.idiv, 1) := by decide +kernel
theorem dX4_leastLoss_36 : decode cX4_leastLoss 36 = .ok (.iconst 3, 1) := by decide +kernel
theorem dX4_leastLoss_37 : decode cX4_leastLoss 37 = .ok (.irem, 1) := by decide +kernel
theorem dX4_leastLoss_38 : decode cX4_leastLoss 38 = .ok (.iconst 1, 1) := by decide +kernel
theorem dX4_leastLoss_39 : decode cX4_leastLoss 39 = .ok (.isub, 1) := by decide +kernel
theorem dX4_leastLoss_40 : decode cX4_leastLoss 40 = .ok (.istore 9, 2) := by decide +kernel
theorem dX4_leastLoss_42 : decode cX4_leastLoss 42 = .ok (.iload 7, 2) := by decide +kernel
theorem dX4_leastLoss_44 : decode cX4_leastLoss 44 = .ok (.iconst 3, 1) := by decide +kernel
theorem dX4_leastLoss_45 : decode cX4_leastLoss 45 = .ok (.irem, 1) := by decide +kernel
theorem dX4_leastLoss_46 : decode cX4_leastLoss 46 = .ok (.iconst 1, 1) := by decide +kernel
theorem dX4_leastLoss_47 : decode cX4_leastLoss 47 = .ok (.isub, 1) := by decide +kernel
theorem dX4_leastLoss_48 : decode cX4_leastLoss 48 = .ok (.istore 10, 2) := by decide +kernel
theorem dX4_leastLoss_50 : decode cX4_leastLoss 50 = .ok (.iload 8, 2) := by decide +kernel
theorem dX4_leastLoss_52 : decode cX4_leastLoss 52 = .ok (.ifCond .ne 13, 3) := by decide +kernel
theorem dX4_leastLoss_55 : decode cX4_leastLoss 55 = .ok (.iload 9, 2) := by decide +kernel
theorem dX4_leastLoss_57 : decode cX4_leastLoss 57 = .ok (.ifCond .ne 8, 3) := by decide +kernel
theorem dX4_leastLoss_60 : decode cX4_leastLoss 60 = .ok (.iload 10, 2) := by decide +kernel
theorem dX4_leastLoss_62 : decode cX4_leastLoss 62 = .ok (.ifCond .eq 50, 3) := by decide +kernel
theorem dX4_leastLoss_65 : decode cX4_leastLoss 65 = .ok (.aload_n 0, 1) := by decide +kernel
theorem dX4_leastLoss_66 : decode cX4_leastLoss 66 = .ok (.aload_n 1, 1) := by decide +kernel
theorem dX4_leastLoss_67 : decode cX4_leastLoss 67 = .ok (.iload 8, 2) := by decide +kernel
theorem dX4_leastLoss_69 : decode cX4_leastLoss 69 = .ok (.iload 9, 2) := by decide +kernel
theorem dX4_leastLoss_71 : decode cX4_leastLoss 71 = .ok (.iload 10, 2) := by decide +kernel
theorem dX4_leastLoss_73 : decode cX4_leastLoss 73 = .ok (.invokevirtual 68, 3) := by decide +kernel
theorem dX4_leastLoss_76 : decode cX4_leastLoss 76 = .ok (.aload_n 0, 1) := by decide +kernel
theorem dX4_leastLoss_77 : decode cX4_leastLoss 77 = .ok (.aload_n 2, 1) := by decide +kernel
theorem dX4_leastLoss_78 : decode cX4_leastLoss 78 = .ok (.invokevirtual 163, 3) := by decide +kernel
theorem dX4_leastLoss_81 : decode cX4_leastLoss 81 = .ok (.iconst 1, 1) := by decide +kernel
theorem dX4_leastLoss_82 : decode cX4_leastLoss 82 = .ok (.isub, 1) := by decide +kernel
theorem dX4_leastLoss_83 : decode cX4_leastLoss 83 = .ok (.istore 11, 2) := by decide +kernel
theorem dX4_leastLoss_85 : decode cX4_leastLoss 85 = .ok (.aload_n 0, 1) := by decide +kernel
theorem dX4_leastLoss_86 : decode cX4_leastLoss 86 = .ok (.iload 11, 2) := by decide +kernel
theorem dX4_leastLoss_88 : decode cX4_leastLoss 88 = .ok (.invokevirtual 167, 3) := by decide +kernel
theorem dX4_leastLoss_91 : decode cX4_leastLoss 91 = .ok (.iload 6, 2) := by decide +kernel
theorem dX4_leastLoss_93 : decode cX4_leastLoss 93 = .ok (.if_icmp .ge 19, 3) := by decide +kernel
theorem dX4_leastLoss_96 : decode cX4_leastLoss 96 = .ok (.iload 7, 2) := by decide +kernel
theorem dX4_leastLoss_98 : decode cX4_leastLoss 98 = .ok (.istore 4, 2) := by decide +kernel
theorem dX4_leastLoss_100 : decode cX4_leastLoss 100 = .ok (.iload 11, 2) := by decide +kernel
theorem dX4_leastLoss_102 : decode cX4_leastLoss 102 = .ok (.istore 5, 2) := by decide +kernel
theorem dX4_leastLoss_104 : decode cX4_leastLoss 104 = .ok (.aload_n 0, 1) := by decide +kernel
theorem dX4_leastLoss_105 : decode cX4_leastLoss 105 = .ok (.iload 11, 2) := by decide +kernel
theorem dX4_leastLoss_107 : decode cX4_leastLoss 107 = .ok (.invokevirtual 167, 3) := by decide +kernel
theorem dX4_leastLoss_110 : decode cX4_leastLoss 110 = .ok (.istore 6, 2) := by decide +kernel
theorem dX4_leastLoss_112 : decode cX4_leastLoss 112 = .ok (.iinc 7 1, 3) := by decide +kernel
theorem dX4_leastLoss_115 : decode cX4_leastLoss 115 = .ok (.goto (-99), 3) := by decide +kernel
theorem dX4_leastLoss_118 : decode cX4_leastLoss 118 = .ok (.iload_n 3, 1) := by decide +kernel
theorem dX4_leastLoss_119 : decode cX4_leastLoss 119 = .ok (.lookupswitch 31 #[(0, 25), (1, 28)], 25) := by decide +kernel
theorem dX4_leastLoss_144 : decode cX4_leastLoss 144 = .ok (.iload 4, 2) := by decide +kernel
theorem dX4_leastLoss_146 : decode cX4_leastLoss 146 = .ok (.ireturn, 1) := by decide +kernel
theorem dX4_leastLoss_147 : decode cX4_leastLoss 147 = .ok (.iload 5, 2) := by decide +kernel
theorem dX4_leastLoss_149 : decode cX4_leastLoss 149 = .ok (.ireturn, 1) := by decide +kernel
theorem dX4_leastLoss_150 : decode cX4_leastLoss 150 = .ok (.iload 6, 2) := by decide +kernel
theorem dX4_leastLoss_152 : decode cX4_leastLoss 152 = .ok (.ireturn, 1) := by decide +kernel
theorem dX4_lowestOf_0 : decode cX4_lowestOf 0 = .ok (.bipush 81, 2) := by decide +kernel
theorem dX4_lowestOf_2 : decode cX4_lowestOf 2 = .ok (.istore_n 2, 1) := by decide +kernel
theorem dX4_lowestOf_3 : decode cX4_lowestOf 3 = .ok (.iconst 0, 1) := by decide +kernel
theorem dX4_lowestOf_4 : decode cX4_lowestOf 4 = .ok (.istore_n 3, 1) := by decide +kernel
theorem dX4_lowestOf_5 : decode cX4_lowestOf 5 = .ok (.iload_n 3, 1) := by decide +kernel
theorem dX4_lowestOf_6 : decode cX4_lowestOf 6 = .ok (.aload_n 1, 1) := by decide +kernel
theorem dX4_lowestOf_7 : decode cX4_lowestOf 7 = .ok (.getfield 121, 3) := by decide +kernel
theorem dX4_lowestOf_10 : decode cX4_lowestOf 10 = .ok (.if_icmp .ge 49, 3) := by decide +kernel
theorem dX4_lowestOf_13 : decode cX4_lowestOf 13 = .ok (.aload_n 1, 1) := by decide +kernel
theorem dX4_lowestOf_14 : decode cX4_lowestOf 14 = .ok (.getfield 126, 3) := by decide +kernel
theorem dX4_lowestOf_17 : decode cX4_lowestOf 17 = .ok (.iload_n 3, 1) := by decide +kernel
theorem dX4_lowestOf_18 : decode cX4_lowestOf 18 = .ok (.iaload, 1) := by decide +kernel
theorem dX4_lowestOf_19 : decode cX4_lowestOf 19 = .ok (.istore 4, 2) := by decide +kernel
theorem dX4_lowestOf_21 : decode cX4_lowestOf 21 = .ok (.aload_n 0, 1) := by decide +kernel
theorem dX4_lowestOf_22 : decode cX4_lowestOf 22 = .ok (.getfield 28, 3) := by decide +kernel
theorem dX4_lowestOf_25 : decode cX4_lowestOf 25 = .ok (.getfield 60, 3) := by decide +kernel
theorem dX4_lowestOf_28 : decode cX4_lowestOf 28 = .ok (.iload 4, 2) := by decide +kernel
theorem dX4_lowestOf_30 : decode cX4_lowestOf 30 = .ok (.iaload, 1) := by decide +kernel
theorem dX4_lowestOf_31 : decode cX4_lowestOf 31 = .ok (.aload_n 0, 1) := by decide +kernel
theorem dX4_lowestOf_32 : decode cX4_lowestOf 32 = .ok (.getfield 32, 3) := by decide +kernel
theorem dX4_lowestOf_35 : decode cX4_lowestOf 35 = .ok (.getfield 63, 3) := by decide +kernel
theorem dX4_lowestOf_38 : decode cX4_lowestOf 38 = .ok (.if_icmp .ne 15, 3) := by decide +kernel
theorem dX4_lowestOf_41 : decode cX4_lowestOf 41 = .ok (.iload_n 2, 1) := by decide +kernel
theorem dX4_lowestOf_42 : decode cX4_lowestOf 42 = .ok (.aload_n 0, 1) := by decide +kernel
theorem dX4_lowestOf_43 : decode cX4_lowestOf 43 = .ok (.getfield 18, 3) := by decide +kernel
theorem dX4_lowestOf_46 : decode cX4_lowestOf 46 = .ok (.iload 4, 2) := by decide +kernel
theorem dX4_lowestOf_48 : decode cX4_lowestOf 48 = .ok (.iaload, 1) := by decide +kernel
theorem dX4_lowestOf_49 : decode cX4_lowestOf 49 = .ok (.invokestatic 86, 3) := by decide +kernel
theorem dX4_lowestOf_52 : decode cX4_lowestOf 52 = .ok (.istore_n 2, 1) := by decide +kernel
theorem dX4_lowestOf_53 : decode cX4_lowestOf 53 = .ok (.iinc 3 1, 3) := by decide +kernel
theorem dX4_lowestOf_56 : decode cX4_lowestOf 56 = .ok (.goto (-51), 3) := by decide +kernel
theorem dX4_lowestOf_59 : decode cX4_lowestOf 59 = .ok (.iload_n 2, 1) := by decide +kernel
theorem dX4_lowestOf_60 : decode cX4_lowestOf 60 = .ok (.ireturn, 1) := by decide +kernel
theorem dX5_init_0 : decode cX5_init 0 = .ok (.aload_n 0, 1) := by decide +kernel
theorem dX5_init_1 : decode cX5_init 1 = .ok (.invokespecial 1, 3) := by decide +kernel
theorem dX5_init_4 : decode cX5_init 4 = .ok (.aload_n 0, 1) := by decide +kernel
theorem dX5_init_5 : decode cX5_init 5 = .ok (.new 7, 3) := by decide +kernel
theorem dX5_init_8 : decode cX5_init 8 = .ok (.dup, 1) := by decide +kernel
theorem dX5_init_9 : decode cX5_init 9 = .ok (.invokespecial 9, 3) := by decide +kernel
theorem dX5_init_12 : decode cX5_init 12 = .ok (.putfield 10, 3) := by decide +kernel
theorem dX5_init_15 : decode cX5_init 15 = .ok (.aload_n 0, 1) := by decide +kernel
theorem dX5_init_16 : decode cX5_init 16 = .ok (.bipush 8, 2) := by decide +kernel
theorem dX5_init_18 : decode cX5_init 18 = .ok (.anewarray 16, 3) := by decide +kernel
theorem dX5_init_21 : decode cX5_init 21 = .ok (.putfield 18, 3) := by decide +kernel
theorem dX5_init_24 : decode cX5_init 24 = .ok (.iconst 0, 1) := by decide +kernel
theorem dX5_init_25 : decode cX5_init 25 = .ok (.istore_n 1, 1) := by decide +kernel
theorem dX5_init_26 : decode cX5_init 26 = .ok (.iload_n 1, 1) := by decide +kernel
theorem dX5_init_27 : decode cX5_init 27 = .ok (.bipush 8, 2) := by decide +kernel
theorem dX5_init_29 : decode cX5_init 29 = .ok (.if_icmp .ge 23, 3) := by decide +kernel
theorem dX5_init_32 : decode cX5_init 32 = .ok (.aload_n 0, 1) := by decide +kernel
theorem dX5_init_33 : decode cX5_init 33 = .ok (.getfield 18, 3) := by decide +kernel
theorem dX5_init_36 : decode cX5_init 36 = .ok (.iload_n 1, 1) := by decide +kernel
theorem dX5_init_37 : decode cX5_init 37 = .ok (.new 16, 3) := by decide +kernel
theorem dX5_init_40 : decode cX5_init 40 = .ok (.dup, 1) := by decide +kernel
theorem dX5_init_41 : decode cX5_init 41 = .ok (.iload_n 1, 1) := by decide +kernel
theorem dX5_init_42 : decode cX5_init 42 = .ok (.invokespecial 22, 3) := by decide +kernel
theorem dX5_init_45 : decode cX5_init 45 = .ok (.aastore, 1) := by decide +kernel
theorem dX5_init_46 : decode cX5_init 46 = .ok (.iinc 1 1, 3) := by decide +kernel
theorem dX5_init_49 : decode cX5_init 49 = .ok (.goto (-23), 3) := by decide +kernel
theorem dX5_init_52 : decode cX5_init 52 = .ok (.aload_n 0, 1) := by decide +kernel
theorem dX5_init_53 : decode cX5_init 53 = .ok (.new 25, 3) := by decide +kernel
theorem dX5_init_56 : decode cX5_init 56 = .ok (.dup, 1) := by decide +kernel
theorem dX5_init_57 : decode cX5_init 57 = .ok (.aload_n 0, 1) := by decide +kernel
theorem dX5_init_58 : decode cX5_init 58 = .ok (.getfield 10, 3) := by decide +kernel
theorem dX5_init_61 : decode cX5_init 61 = .ok (.aload_n 0, 1) := by decide +kernel
theorem dX5_init_62 : decode cX5_init 62 = .ok (.getfield 18, 3) := by decide +kernel
theorem dX5_init_65 : decode cX5_init 65 = .ok (.iconst 0, 1) := by decide +kernel
theorem dX5_init_66 : decode cX5_init 66 = .ok (.aaload, 1) := by decide +kernel
theorem dX5_init_67 : decode cX5_init 67 = .ok (.invokespecial 27, 3) := by decide +kernel
theorem dX5_init_70 : decode cX5_init 70 = .ok (.putfield 30, 3) := by decide +kernel
theorem dX5_init_73 : decode cX5_init 73 = .ok (.aload_n 0, 1) := by decide +kernel
theorem dX5_init_74 : decode cX5_init 74 = .ok (.bipush 6, 2) := by decide +kernel
theorem dX5_init_76 : decode cX5_init 76 = .ok (.bipush 6, 2) := by decide +kernel
theorem dX5_init_78 : decode cX5_init 78 = .ok (.bipush 6, 2) := by decide +kernel
theorem dX5_init_80 : decode cX5_init 80 = .ok (.invokevirtual 34, 3) := by decide +kernel
theorem dX5_init_83 : decode cX5_init 83 = .ok (.return_, 1) := by decide +kernel
theorem dX5_take_0 : decode cX5_take 0 = .ok (.iload_n 1, 1) := by decide +kernel
theorem dX5_take_1 : decode cX5_take 1 = .ok (.invokestatic 38, 3) := by decide +kernel
theorem dX5_take_4 : decode cX5_take 4 = .ok (.ifCond .eq 17, 3) := by decide +kernel
theorem dX5_take_7 : decode cX5_take 7 = .ok (.iload_n 2, 1) := by decide +kernel
theorem dX5_take_8 : decode cX5_take 8 = .ok (.invokestatic 38, 3) := by decide +kernel
theorem dX5_take_11 : decode cX5_take 11 = .ok (.ifCond .eq 10, 3) := by decide +kernel
theorem dX5_take_14 : decode cX5_take 14 = .ok (.iload_n 3, 1) := by decide +kernel
theorem dX5_take_15 : decode cX5_take 15 = .ok (.invokestatic 38, 3) := by decide +kernel
theorem dX5_take_18 : decode cX5_take 18 = .ok (.ifCond .ne 13, 3) := by decide +kernel
theorem dX5_take_21 : decode cX5_take 21 = .ok (.new 42, 3) := by decide +kernel
theorem dX5_take_24 : decode cX5_take 24 = .ok (.dup, 1) := by decide +kernel
theorem dX5_take_25 : decode cX5_take 25 = .ok (.ldc 44, 2) := by decide +kernel
theorem dX5_take_27 : decode cX5_take 27 = .ok (.invokespecial 46, 3) := by decide +kernel
theorem dX5_take_30 : decode cX5_take 30 = .ok (.athrow, 1) := by decide +kernel
theorem dX5_take_31 : decode cX5_take 31 = .ok (.aload_n 0, 1) := by decide +kernel
theorem dX5_take_32 : decode cX5_take 32 = .ok (.iload_n 1, 1) := by decide +kernel
theorem dX5_take_33 : decode cX5_take 33 = .ok (.iload_n 2, 1) := by decide +kernel
theorem dX5_take_34 : decode cX5_take 34 = .ok (.iload_n 3, 1) := by decide +kernel
theorem dX5_take_35 : decode cX5_take 35 = .ok (.invokevirtual 34, 3) := by decide +kernel
theorem dX5_take_38 : decode cX5_take 38 = .ok (.aload_n 0, 1) := by decide +kernel
theorem dX5_take_39 : decode cX5_take 39 = .ok (.getfield 10, 3) := by decide +kernel
theorem dX5_take_42 : decode cX5_take 42 = .ok (.invokevirtual 49, 3) := by decide +kernel
theorem dX5_take_45 : decode cX5_take 45 = .ok (.ireturn, 1) := by decide +kernel
theorem dX5_flaw_0 : decode cX5_flaw 0 = .ok (.aload_n 0, 1) := by decide +kernel
theorem dX5_flaw_1 : decode cX5_flaw 1 = .ok (.iload_n 1, 1) := by decide +kernel
theorem dX5_flaw_2 : decode cX5_flaw 2 = .ok (.iload_n 2, 1) := by decide +kernel
theorem dX5_flaw_3 : decode cX5_flaw 3 = .ok (.iload_n 3, 1) := by decide +kernel
theorem dX5_flaw_4 : decode cX5_flaw 4 = .ok (.invokevirtual 53, 3) := by decide +kernel
theorem dX5_flaw_7 : decode cX5_flaw 7 = .ok (.iload 4, 2) := by decide +kernel
theorem dX5_flaw_9 : decode cX5_flaw 9 = .ok (.ifCond .lt 22, 3) := by decide +kernel
theorem dX5_flaw_12 : decode cX5_flaw 12 = .ok (.iload 4, 2) := by decide +kernel
theorem dX5_flaw_14 : decode cX5_flaw 14 = .ok (.iconst 3, 1) := by decide +kernel
theorem dX5_flaw_15 : decode cX5_flaw 15 = .ok (.if_icmp .gt 16, 3) := by decide +kernel
theorem dX5_flaw_18 : decode cX5_flaw 18 = .ok (.iload 5, 2) := by decide +kernel
theorem dX5_flaw_20 : decode cX5_flaw 20 = .ok (.iconst 1, 1) := by decide +kernel
theorem dX5_flaw_21 : decode cX5_flaw 21 = .ok (.if_icmp .lt 10, 3) := by decide +kernel
theorem dX5_flaw_24 : decode cX5_flaw 24 = .ok (.iload 5, 2) := by decide +kernel
theorem dX5_flaw_26 : decode cX5_flaw 26 = .ok (.bipush 9, 2) := by decide +kernel
theorem dX5_flaw_28 : decode cX5_flaw 28 = .ok (.if_icmp .le 13, 3) := by decide +kernel
theorem dX5_flaw_31 : decode cX5_flaw 31 = .ok (.new 42, 3) := by decide +kernel
theorem dX5_flaw_34 : decode cX5_flaw 34 = .ok (.dup, 1) := by decide +kernel
theorem dX5_flaw_35 : decode cX5_flaw 35 = .ok (.ldc 56, 2) := by decide +kernel
theorem dX5_flaw_37 : decode cX5_flaw 37 = .ok (.invokespecial 46, 3) := by decide +kernel
theorem dX5_flaw_40 : decode cX5_flaw 40 = .ok (.athrow, 1) := by decide +kernel
theorem dX5_flaw_41 : decode cX5_flaw 41 = .ok (.aload_n 0, 1) := by decide +kernel
theorem dX5_flaw_42 : decode cX5_flaw 42 = .ok (.getfield 10, 3) := by decide +kernel
theorem dX5_flaw_45 : decode cX5_flaw 45 = .ok (.getfield 58, 3) := by decide +kernel
theorem dX5_flaw_48 : decode cX5_flaw 48 = .ok (.bipush 10, 2) := by decide +kernel
theorem dX5_flaw_50 : decode cX5_flaw 50 = .ok (.if_icmp .lt 13, 3) := by decide +kernel
theorem dX5_flaw_53 : decode cX5_flaw 53 = .ok (.new 62, 3) := by decide +kernel
theorem dX5_flaw_56 : decode cX5_flaw 56 = .ok (.dup, 1) := by decide +kernel
theorem dX5_flaw_57 : decode cX5_flaw 57 = .ok (.ldc 64, 2) := by decide +kernel
theorem dX5_flaw_59 : decode cX5_flaw 59 = .ok (.invokespecial 66, 3) := by decide +kernel
theorem dX5_flaw_62 : decode cX5_flaw 62 = .ok (.athrow, 1) := by decide +kernel
theorem dX5_flaw_63 : decode cX5_flaw 63 = .ok (.aload_n 0, 1) := by decide +kernel
theorem dX5_flaw_64 : decode cX5_flaw 64 = .ok (.getfield 10, 3) := by decide +kernel
theorem dX5_flaw_67 : decode cX5_flaw 67 = .ok (.iload_n 1, 1) := by decide +kernel
theorem dX5_flaw_68 : decode cX5_flaw 68 = .ok (.iload_n 2, 1) := by decide +kernel
theorem dX5_flaw_69 : decode cX5_flaw 69 = .ok (.iload_n 3, 1) := by decide +kernel
theorem dX5_flaw_70 : decode cX5_flaw 70 = .ok (.iload 4, 2) := by decide +kernel
theorem dX5_flaw_72 : decode cX5_flaw 72 = .ok (.iload 5, 2) := by decide +kernel
theorem dX5_flaw_74 : decode cX5_flaw 74 = .ok (.invokevirtual 67, 3) := by decide +kernel
theorem dX5_flaw_77 : decode cX5_flaw 77 = .ok (.aload_n 0, 1) := by decide +kernel
theorem dX5_flaw_78 : decode cX5_flaw 78 = .ok (.getfield 10, 3) := by decide +kernel
theorem dX5_flaw_81 : decode cX5_flaw 81 = .ok (.getfield 58, 3) := by decide +kernel
theorem dX5_flaw_84 : decode cX5_flaw 84 = .ok (.iconst 1, 1) := by decide +kernel
theorem dX5_flaw_85 : decode cX5_flaw 85 = .ok (.isub, 1) := by decide +kernel
theorem dX5_flaw_86 : decode cX5_flaw 86 = .ok (.ireturn, 1) := by decide +kernel
theorem dX5_cell_0 : decode cX5_cell 0 = .ok (.aload_n 0, 1) := by decide +kernel
theorem dX5_cell_1 : decode cX5_cell 1 = .ok (.iload_n 1, 1) := by decide +kernel
theorem dX5_cell_2 : decode cX5_cell 2 = .ok (.iload_n 2, 1) := by decide +kernel
theorem dX5_cell_3 : decode cX5_cell 3 = .ok (.iload_n 3, 1) := by decide +kernel
theorem dX5_cell_4 : decode cX5_cell 4 = .ok (.invokevirtual 53, 3) := by decide +kernel
theorem dX5_cell_7 : decode cX5_cell 7 = .ok (.aload_n 0, 1) := by decide +kernel
theorem dX5_cell_8 : decode cX5_cell 8 = .ok (.getfield 10, 3) := by decide +kernel
theorem dX5_cell_11 : decode cX5_cell 11 = .ok (.iload_n 1, 1) := by decide +kernel
theorem dX5_cell_12 : decode cX5_cell 12 = .ok (.iload_n 2, 1) := by decide +kernel
theorem dX5_cell_13 : decode cX5_cell 13 = .ok (.iload_n 3, 1) := by decide +kernel
theorem dX5_cell_14 : decode cX5_cell 14 = .ok (.invokevirtual 71, 3) := by decide +kernel
theorem dX5_cell_17 : decode cX5_cell 17 = .ok (.ireturn, 1) := by decide +kernel
theorem dX5_flawIn_0 : decode cX5_flawIn 0 = .ok (.aload_n 0, 1) := by decide +kernel
theorem dX5_flawIn_1 : decode cX5_flawIn 1 = .ok (.iload_n 1, 1) := by decide +kernel
theorem dX5_flawIn_2 : decode cX5_flawIn 2 = .ok (.invokevirtual 75, 3) := by decide +kernel
theorem dX5_flawIn_5 : decode cX5_flawIn 5 = .ok (.aload_n 0, 1) := by decide +kernel
theorem dX5_flawIn_6 : decode cX5_flawIn 6 = .ok (.iload_n 2, 1) := by decide +kernel
theorem dX5_flawIn_7 : decode cX5_flawIn 7 = .ok (.invokevirtual 78, 3) := by decide +kernel
theorem dX5_flawIn_10 : decode cX5_flawIn 10 = .ok (.iload_n 3, 1) := by decide +kernel
theorem dX5_flawIn_11 : decode cX5_flawIn 11 = .ok (.iconst 3, 1) := by decide +kernel
theorem dX5_flawIn_12 : decode cX5_flawIn 12 = .ok (.invokestatic 81, 3) := by decide +kernel
theorem dX5_flawIn_15 : decode cX5_flawIn 15 = .ok (.aload_n 0, 1) := by decide +kernel
theorem dX5_flawIn_16 : decode cX5_flawIn 16 = .ok (.iload_n 1, 1) := by decide +kernel
theorem dX5_flawIn_17 : decode cX5_flawIn 17 = .ok (.iload_n 2, 1) := by decide +kernel
theorem dX5_flawIn_18 : decode cX5_flawIn 18 = .ok (.iload_n 3, 1) := by decide +kernel
theorem dX5_flawIn_19 : decode cX5_flawIn 19 = .ok (.invokevirtual 85, 3) := by decide +kernel
theorem dX5_flawIn_22 : decode cX5_flawIn 22 = .ok (.ireturn, 1) := by decide +kernel
theorem dX5_saw_0 : decode cX5_saw 0 = .ok (.aload_n 0, 1) := by decide +kernel
theorem dX5_saw_1 : decode cX5_saw 1 = .ok (.iload_n 1, 1) := by decide +kernel
theorem dX5_saw_2 : decode cX5_saw 2 = .ok (.invokevirtual 78, 3) := by decide +kernel
theorem dX5_saw_5 : decode cX5_saw 5 = .ok (.iload_n 2, 1) := by decide +kernel
theorem dX5_saw_6 : decode cX5_saw 6 = .ok (.iload_n 3, 1) := by decide +kernel
theorem dX5_saw_7 : decode cX5_saw 7 = .ok (.iload 4, 2) := by decide +kernel
theorem dX5_saw_9 : decode cX5_saw 9 = .ok (.invokestatic 88, 3) := by decide +kernel
theorem dX5_saw_12 : decode cX5_saw 12 = .ok (.iload 5, 2) := by decide +kernel
theorem dX5_saw_14 : decode cX5_saw 14 = .ok (.invokestatic 91, 3) := by decide +kernel
theorem dX5_saw_17 : decode cX5_saw 17 = .ok (.aload_n 0, 1) := by decide +kernel
theorem dX5_saw_18 : decode cX5_saw 18 = .ok (.getfield 30, 3) := by decide +kernel
theorem dX5_saw_21 : decode cX5_saw 21 = .ok (.aload_n 0, 1) := by decide +kernel
theorem dX5_saw_22 : decode cX5_saw 22 = .ok (.getfield 18, 3) := by decide +kernel
theorem dX5_saw_25 : decode cX5_saw 25 = .ok (.iload_n 1, 1) := by decide +kernel
theorem dX5_saw_26 : decode cX5_saw 26 = .ok (.aaload, 1) := by decide +kernel
theorem dX5_saw_27 : decode cX5_saw 27 = .ok (.iload_n 2, 1) := by decide +kernel
theorem dX5_saw_28 : decode cX5_saw 28 = .ok (.iload_n 3, 1) := by decide +kernel
theorem dX5_saw_29 : decode cX5_saw 29 = .ok (.iload 4, 2) := by decide +kernel
theorem dX5_saw_31 : decode cX5_saw 31 = .ok (.invokevirtual 94, 3) := by decide +kernel
theorem dX5_saw_34 : decode cX5_saw 34 = .ok (.aload_n 0, 1) := by decide +kernel
theorem dX5_saw_35 : decode cX5_saw 35 = .ok (.getfield 30, 3) := by decide +kernel
theorem dX5_saw_38 : decode cX5_saw 38 = .ok (.iload 5, 2) := by decide +kernel
theorem dX5_saw_40 : decode cX5_saw 40 = .ok (.invokevirtual 98, 3) := by decide +kernel
theorem dX5_saw_43 : decode cX5_saw 43 = .ok (.istore 6, 2) := by decide +kernel
theorem dX5_saw_45 : decode cX5_saw 45 = .ok (.aload_n 0, 1) := by decide +kernel
theorem dX5_saw_46 : decode cX5_saw 46 = .ok (.getfield 102, 3) := by decide +kernel
theorem dX5_saw_49 : decode cX5_saw 49 = .ok (.bipush 8, 2) := by decide +kernel
theorem dX5_saw_51 : decode cX5_saw 51 = .ok (.if_icmp .ge 22, 3) := by decide +kernel
theorem dX5_saw_54 : decode cX5_saw 54 = .ok (.iload 6, 2) := by decide +kernel
theorem dX5_saw_56 : decode cX5_saw 56 = .ok (.ifCond .eq 17, 3) := by decide +kernel
theorem dX5_saw_59 : decode cX5_saw 59 = .ok (.iload 6, 2) := by decide +kernel
theorem dX5_saw_61 : decode cX5_saw 61 = .ok (.aload_n 0, 1) := by decide +kernel
theorem dX5_saw_62 : decode cX5_saw 62 = .ok (.getfield 18, 3) := by decide +kernel
theorem dX5_saw_65 : decode cX5_saw 65 = .ok (.iload_n 1, 1) := by decide +kernel
theorem dX5_saw_66 : decode cX5_saw 66 = .ok (.aaload, 1) := by decide +kernel
theorem dX5_saw_67 : decode cX5_saw 67 = .ok (.getfield 105, 3) := by decide +kernel
theorem dX5_saw_70 : decode cX5_saw 70 = .ok (.if_icmp .ne 13, 3) := by decide +kernel
theorem dX5_saw_73 : decode cX5_saw 73 = .ok (.new 62, 3) := by decide +kernel
theorem dX5_saw_76 : decode cX5_saw 76 = .ok (.dup, 1) := by decide +kernel
theorem dX5_saw_77 : decode cX5_saw 77 = .ok (.ldc 108, 2) := by decide +kernel
theorem dX5_saw_79 : decode cX5_saw 79 = .ok (.invokespecial 66, 3) := by decide +kernel
theorem dX5_saw_82 : decode cX5_saw 82 = .ok (.athrow, 1) := by decide +kernel
theorem dX5_saw_83 : decode cX5_saw 83 = .ok (.aload_n 0, 1) := by decide +kernel
theorem dX5_saw_84 : decode cX5_saw 84 = .ok (.getfield 102, 3) := by decide +kernel
theorem dX5_saw_87 : decode cX5_saw 87 = .ok (.istore 7, 2) := by decide +kernel
theorem dX5_saw_89 : decode cX5_saw 89 = .ok (.aload_n 0, 1) := by decide +kernel
theorem dX5_saw_90 : decode cX5_saw 90 = .ok (.getfield 18, 3) := by decide +kernel
theorem dX5_saw_93 : decode cX5_saw 93 = .ok (.iload 7, 2) := by decide +kernel
theorem dX5_saw_95 : decode cX5_saw 95 = .ok (.aaload, 1) := by decide +kernel
theorem dX5_saw_96 : decode cX5_saw 96 = .ok (.invokevirtual 110, 3) := by decide +kernel
theorem dX5_saw_99 : decode cX5_saw 99 = .ok (.aload_n 0, 1) := by decide +kernel
theorem dX5_saw_100 : decode cX5_saw 100 = .ok (.dup, 1) := by decide +kernel
theorem dX5_saw_101 : decode cX5_saw 101 = .ok (.getfield 102, 3) := by decide +kernel
theorem dX5_saw_104 : decode cX5_saw 104 = .ok (.iconst 1, 1) := by decide +kernel
theorem dX5_saw_105 : decode cX5_saw 105 = .ok (.iadd, 1) := by decide +kernel
theorem dX5_saw_106 : decode cX5_saw 106 = .ok (.putfield 102, 3) := by decide +kernel
theorem dX5_saw_109 : decode cX5_saw 109 = .ok (.aload_n 0, 1) := by decide +kernel
theorem dX5_saw_110 : decode cX5_saw 110 = .ok (.getfield 30, 3) := by decide +kernel
theorem dX5_saw_113 : decode cX5_saw 113 = .ok (.iload 5, 2) := by decide +kernel
theorem dX5_saw_115 : decode cX5_saw 115 = .ok (.iload 7, 2) := by decide +kernel
theorem dX5_saw_117 : decode cX5_saw 117 = .ok (.invokevirtual 113, 3) := by decide +kernel
theorem dX5_saw_120 : decode cX5_saw 120 = .ok (.aload_n 0, 1) := by decide +kernel
theorem dX5_saw_121 : decode cX5_saw 121 = .ok (.invokevirtual 116, 3) := by decide +kernel
theorem dX5_saw_124 : decode cX5_saw 124 = .ok (.iload 7, 2) := by decide +kernel
theorem dX5_saw_126 : decode cX5_saw 126 = .ok (.ireturn, 1) := by decide +kernel
theorem dX5_cut_0 : decode cX5_cut 0 = .ok (.aload_n 0, 1) := by decide +kernel
theorem dX5_cut_1 : decode cX5_cut 1 = .ok (.iload_n 1, 1) := by decide +kernel
theorem dX5_cut_2 : decode cX5_cut 2 = .ok (.invokevirtual 78, 3) := by decide +kernel
theorem dX5_cut_5 : decode cX5_cut 5 = .ok (.iload_n 2, 1) := by decide +kernel
theorem dX5_cut_6 : decode cX5_cut 6 = .ok (.iload_n 3, 1) := by decide +kernel
theorem dX5_cut_7 : decode cX5_cut 7 = .ok (.iload 4, 2) := by decide +kernel
theorem dX5_cut_9 : decode cX5_cut 9 = .ok (.invokestatic 88, 3) := by decide +kernel
theorem dX5_cut_12 : decode cX5_cut 12 = .ok (.iload 5, 2) := by decide +kernel
theorem dX5_cut_14 : decode cX5_cut 14 = .ok (.invokestatic 91, 3) := by decide +kernel
theorem dX5_cut_17 : decode cX5_cut 17 = .ok (.aload_n 0, 1) := by decide +kernel
theorem dX5_cut_18 : decode cX5_cut 18 = .ok (.getfield 18, 3) := by decide +kernel
theorem dX5_cut_21 : decode cX5_cut 21 = .ok (.iload_n 1, 1) := by decide +kernel
theorem dX5_cut_22 : decode cX5_cut 22 = .ok (.aaload, 1) := by decide +kernel
theorem dX5_cut_23 : decode cX5_cut 23 = .ok (.astore 6, 2) := by decide +kernel
theorem dX5_cut_25 : decode cX5_cut 25 = .ok (.aload_n 0, 1) := by decide +kernel
theorem dX5_cut_26 : decode cX5_cut 26 = .ok (.getfield 30, 3) := by decide +kernel
theorem dX5_cut_29 : decode cX5_cut 29 = .ok (.aload 6, 2) := by decide +kernel
theorem dX5_cut_31 : decode cX5_cut 31 = .ok (.iload_n 2, 1) := by decide +kernel
theorem dX5_cut_32 : decode cX5_cut 32 = .ok (.iload_n 3, 1) := by decide +kernel
theorem dX5_cut_33 : decode cX5_cut 33 = .ok (.iload 4, 2) := by decide +kernel
theorem dX5_cut_35 : decode cX5_cut 35 = .ok (.invokevirtual 94, 3) := by decide +kernel
theorem dX5_cut_38 : decode cX5_cut 38 = .ok (.aload_n 0, 1) := by decide +kernel
theorem dX5_cut_39 : decode cX5_cut 39 = .ok (.getfield 30, 3) := by decide +kernel
theorem dX5_cut_42 : decode cX5_cut 42 = .ok (.iload 5, 2) := by decide +kernel
theorem dX5_cut_44 : decode cX5_cut 44 = .ok (.invokevirtual 98, 3) := by decide +kernel
theorem dX5_cut_47 : decode cX5_cut 47 = .ok (.istore 7, 2) := by decide +kernel
theorem dX5_cut_49 : decode cX5_cut 49 = .ok (.iconst 3, 1) := by decide +kernel
theorem dX5_cut_50 : decode cX5_cut 50 = .ok (.iload 7, 2) := by decide +kernel
theorem dX5_cut_52 : decode cX5_cut 52 = .ok (.imul, 1) := by decide +kernel
theorem dX5_cut_53 : decode cX5_cut 53 = .ok (.istore 8, 2) := by decide +kernel
theorem dX5_cut_55 : decode cX5_cut 55 = .ok (.aload 6, 2) := by decide +kernel
theorem dX5_cut_57 : decode cX5_cut 57 = .ok (.getfield 119, 3) := by decide +kernel
theorem dX5_cut_60 : decode cX5_cut 60 = .ok (.bipush 16, 2) := by decide +kernel
theorem dX5_cut_62 : decode cX5_cut 62 = .ok (.if_icmp .ge 12, 3) := by decide +kernel
theorem dX5_cut_65 : decode cX5_cut 65 = .ok (.iload 8, 2) := by decide +kernel
theorem dX5_cut_67 : decode cX5_cut 67 = .ok (.aload_n 0, 1) := by decide +kernel
theorem dX5_cut_68 : decode cX5_cut 68 = .ok (.getfield 122, 3) := by decide +kernel
theorem dX5_cut_71 : decode cX5_cut 71 = .ok (.if_icmp .le 13, 3) := by decide +kernel
theorem dX5_cut_74 : decode cX5_cut 74 = .ok (.new 62, 3) := by decide +kernel
theorem dX5_cut_77 : decode cX5_cut 77 = .ok (.dup, 1) := by decide +kernel
theorem dX5_cut_78 : decode cX5_cut 78 = .ok (.ldc 125, 2) := by decide +kernel
theorem dX5_cut_80 : decode cX5_cut 80 = .ok (.invokespecial 66, 3) := by decide +kernel
theorem dX5_cut_83 : decode cX5_cut 83 = .ok (.athrow, 1) := by decide +kernel
theorem dX5_cut_84 : decode cX5_cut 84 = .ok (.aload 6, 2) := by decide +kernel
theorem dX5_cut_86 : decode cX5_cut 86 = .ok (.iload_n 2, 1) := by decide +kernel
theorem dX5_cut_87 : decode cX5_cut 87 = .ok (.iload_n 3, 1) := by decide +kernel
theorem dX5_cut_88 : decode cX5_cut 88 = .ok (.iload 4, 2) := by decide +kernel
theorem dX5_cut_90 : decode cX5_cut 90 = .ok (.iload 5, 2) := by decide +kernel
theorem dX5_cut_92 : decode cX5_cut 92 = .ok (.invokevirtual 127, 3) := by decide +kernel
theorem dX5_cut_95 : decode cX5_cut 95 = .ok (.aload_n 0, 1) := by decide +kernel
theorem dX5_cut_96 : decode cX5_cut 96 = .ok (.getfield 30, 3) := by decide +kernel
theorem dX5_cut_99 : decode cX5_cut 99 = .ok (.iload 5, 2) := by decide +kernel
theorem dX5_cut_101 : decode cX5_cut 101 = .ok (.iconst (-1), 1) := by decide +kernel
theorem dX5_cut_102 : decode cX5_cut 102 = .ok (.invokevirtual 113, 3) := by decide +kernel
theorem dX5_cut_105 : decode cX5_cut 105 = .ok (.aload_n 0, 1) := by decide +kernel
theorem dX5_cut_106 : decode cX5_cut 106 = .ok (.iload 8, 2) := by decide +kernel
theorem dX5_cut_108 : decode cX5_cut 108 = .ok (.invokevirtual 131, 3) := by decide +kernel
theorem dX5_cut_111 : decode cX5_cut 111 = .ok (.aload_n 0, 1) := by decide +kernel
theorem dX5_cut_112 : decode cX5_cut 112 = .ok (.invokevirtual 116, 3) := by decide +kernel
theorem dX5_cut_115 : decode cX5_cut 115 = .ok (.iload 7, 2) := by decide +kernel
theorem dX5_cut_117 : decode cX5_cut 117 = .ok (.ireturn, 1) := by decide +kernel
theorem dX5_polish_0 : decode cX5_polish 0 = .ok (.aload_n 0, 1) := by decide +kernel
theorem dX5_polish_1 : decode cX5_polish 1 = .ok (.iload_n 1, 1) := by decide +kernel
theorem dX5_polish_2 : decode cX5_polish 2 = .ok (.invokevirtual 78, 3) := by decide +kernel
theorem dX5_polish_5 : decode cX5_polish 5 = .ok (.aload_n 0, 1) := by decide +kernel
theorem dX5_polish_6 : decode cX5_polish 6 = .ok (.iload_n 1, 1) := by decide +kernel
theorem dX5_polish_7 : decode cX5_polish 7 = .ok (.iload_n 2, 1) := by decide +kernel
theorem dX5_polish_8 : decode cX5_polish 8 = .ok (.invokevirtual 134, 3) := by decide +kernel
theorem dX5_polish_11 : decode cX5_polish 11 = .ok (.aload_n 0, 1) := by decide +kernel
theorem dX5_polish_12 : decode cX5_polish 12 = .ok (.getfield 18, 3) := by decide +kernel
theorem dX5_polish_15 : decode cX5_polish 15 = .ok (.iload_n 1, 1) := by decide +kernel
theorem dX5_polish_16 : decode cX5_polish 16 = .ok (.aaload, 1) := by decide +kernel
theorem dX5_polish_17 : decode cX5_polish 17 = .ok (.getfield 137, 3) := by decide +kernel
theorem dX5_polish_20 : decode cX5_polish 20 = .ok (.iload_n 2, 1) := by decide +kernel
theorem dX5_polish_21 : decode cX5_polish 21 = .ok (.aaload, 1) := by decide +kernel
theorem dX5_polish_22 : decode cX5_polish 22 = .ok (.astore_n 3, 1) := by decide +kernel
theorem dX5_polish_23 : decode cX5_polish 23 = .ok (.aload_n 3, 1) := by decide +kernel
theorem dX5_polish_24 : decode cX5_polish 24 = .ok (.getfield 141, 3) := by decide +kernel
theorem dX5_polish_27 : decode cX5_polish 27 = .ok (.iconst 5, 1) := by decide +kernel
theorem dX5_polish_28 : decode cX5_polish 28 = .ok (.iadd, 1) := by decide +kernel
theorem dX5_polish_29 : decode cX5_polish 29 = .ok (.istore 4, 2) := by decide +kernel
theorem dX5_polish_31 : decode cX5_polish 31 = .ok (.aload_n 3, 1) := by decide +kernel
theorem dX5_polish_32 : decode cX5_polish 32 = .ok (.invokevirtual 146, 3) := by decide +kernel
theorem dX5_polish_35 : decode cX5_polish 35 = .ok (.ifCond .eq 19, 3) := by decide +kernel
theorem dX5_polish_38 : decode cX5_polish 38 = .ok (.aload_n 3, 1) := by decide +kernel
theorem dX5_polish_39 : decode cX5_polish 39 = .ok (.getfield 150, 3) := by decide +kernel
theorem dX5_polish_42 : decode cX5_polish 42 = .ok (.ifCond .ne 12, 3) := by decide +kernel
theorem dX5_polish_45 : decode cX5_polish 45 = .ok (.iload 4, 2) := by decide +kernel
theorem dX5_polish_47 : decode cX5_polish 47 = .ok (.aload_n 0, 1) := by decide +kernel
theorem dX5_polish_48 : decode cX5_polish 48 = .ok (.getfield 122, 3) := by decide +kernel
theorem dX5_polish_51 : decode cX5_polish 51 = .ok (.if_icmp .le 13, 3) := by decide +kernel
theorem dX5_polish_54 : decode cX5_polish 54 = .ok (.new 62, 3) := by decide +kernel
theorem dX5_polish_57 : decode cX5_polish 57 = .ok (.dup, 1) := by decide +kernel
theorem dX5_polish_58 : decode cX5_polish 58 = .ok (.ldc 154, 2) := by decide +kernel
theorem dX5_polish_60 : decode cX5_polish 60 = .ok (.invokespecial 66, 3) := by decide +kernel
theorem dX5_polish_63 : decode cX5_polish 63 = .ok (.athrow, 1) := by decide +kernel
theorem dX5_polish_64 : decode cX5_polish 64 = .ok (.aload_n 3, 1) := by decide +kernel
theorem dX5_polish_65 : decode cX5_polish 65 = .ok (.iconst 1, 1) := by decide +kernel
theorem dX5_polish_66 : decode cX5_polish 66 = .ok (.putfield 150, 3) := by decide +kernel
theorem dX5_polish_69 : decode cX5_polish 69 = .ok (.aload_n 0, 1) := by decide +kernel
theorem dX5_polish_70 : decode cX5_polish 70 = .ok (.iload 4, 2) := by decide +kernel
theorem dX5_polish_72 : decode cX5_polish 72 = .ok (.invokevirtual 131, 3) := by decide +kernel
theorem dX5_polish_75 : decode cX5_polish 75 = .ok (.iload 4, 2) := by decide +kernel
theorem dX5_polish_77 : decode cX5_polish 77 = .ok (.ireturn, 1) := by decide +kernel
theorem dX5_dress_0 : decode cX5_dress 0 = .ok (.aload_n 0, 1) := by decide +kernel
theorem dX5_dress_1 : decode cX5_dress 1 = .ok (.getfield 122, 3) := by decide +kernel
theorem dX5_dress_4 : decode cX5_dress 4 = .ok (.istore_n 1, 1) := by decide +kernel
theorem dX5_dress_5 : decode cX5_dress 5 = .ok (.aload_n 0, 1) := by decide +kernel
theorem dX5_dress_6 : decode cX5_dress 6 = .ok (.sipush 400, 3) := by decide +kernel
theorem dX5_dress_9 : decode cX5_dress 9 = .ok (.putfield 122, 3) := by decide +kernel
theorem dX5_dress_12 : decode cX5_dress 12 = .ok (.iload_n 1, 1) := by decide +kernel
theorem dX5_dress_13 : decode cX5_dress 13 = .ok (.ireturn, 1) := by decide +kernel
theorem dX5_stone_0 : decode cX5_stone 0 = .ok (.aload_n 0, 1) := by decide +kernel
theorem dX5_stone_1 : decode cX5_stone 1 = .ok (.iload_n 1, 1) := by decide +kernel
theorem dX5_stone_2 : decode cX5_stone 2 = .ok (.invokevirtual 78, 3) := by decide +kernel
theorem dX5_stone_5 : decode cX5_stone 5 = .ok (.iload_n 2, 1) := by decide +kernel
theorem dX5_stone_6 : decode cX5_stone 6 = .ok (.bipush 9, 2) := by decide +kernel
theorem dX5_stone_8 : decode cX5_stone 8 = .ok (.invokestatic 81, 3) := by decide +kernel
theorem dX5_stone_11 : decode cX5_stone 11 = .ok (.aload_n 0, 1) := by decide +kernel
theorem dX5_stone_12 : decode cX5_stone 12 = .ok (.aload_n 0, 1) := by decide +kernel
theorem dX5_stone_13 : decode cX5_stone 13 = .ok (.getfield 18, 3) := by decide +kernel
theorem dX5_stone_16 : decode cX5_stone 16 = .ok (.iload_n 1, 1) := by decide +kernel
theorem dX5_stone_17 : decode cX5_stone 17 = .ok (.aaload, 1) := by decide +kernel
theorem dX5_stone_18 : decode cX5_stone 18 = .ok (.iload_n 2, 1) := by decide +kernel
theorem dX5_stone_19 : decode cX5_stone 19 = .ok (.invokevirtual 156, 3) := by decide +kernel
theorem dX5_stone_22 : decode cX5_stone 22 = .ok (.ireturn, 1) := by decide +kernel
theorem dX5_plane_0 : decode cX5_plane 0 = .ok (.aload_n 0, 1) := by decide +kernel
theorem dX5_plane_1 : decode cX5_plane 1 = .ok (.iload_n 1, 1) := by decide +kernel
theorem dX5_plane_2 : decode cX5_plane 2 = .ok (.invokevirtual 78, 3) := by decide +kernel
theorem dX5_plane_5 : decode cX5_plane 5 = .ok (.aload_n 0, 1) := by decide +kernel
theorem dX5_plane_6 : decode cX5_plane 6 = .ok (.iload_n 1, 1) := by decide +kernel
theorem dX5_plane_7 : decode cX5_plane 7 = .ok (.iload_n 2, 1) := by decide +kernel
theorem dX5_plane_8 : decode cX5_plane 8 = .ok (.invokevirtual 134, 3) := by decide +kernel
theorem dX5_plane_11 : decode cX5_plane 11 = .ok (.iload_n 3, 1) := by decide +kernel
theorem dX5_plane_12 : decode cX5_plane 12 = .ok (.bipush 6, 2) := by decide +kernel
theorem dX5_plane_14 : decode cX5_plane 14 = .ok (.invokestatic 81, 3) := by decide +kernel
theorem dX5_plane_17 : decode cX5_plane 17 = .ok (.aload_n 0, 1) := by decide +kernel
theorem dX5_plane_18 : decode cX5_plane 18 = .ok (.getfield 18, 3) := by decide +kernel
theorem dX5_plane_21 : decode cX5_plane 21 = .ok (.iload_n 1, 1) := by decide +kernel
theorem dX5_plane_22 : decode cX5_plane 22 = .ok (.aaload, 1) := by decide +kernel
theorem dX5_plane_23 : decode cX5_plane 23 = .ok (.getfield 137, 3) := by decide +kernel
theorem dX5_plane_26 : decode cX5_plane 26 = .ok (.iload_n 2, 1) := by decide +kernel
theorem dX5_plane_27 : decode cX5_plane 27 = .ok (.aaload, 1) := by decide +kernel
theorem dX5_plane_28 : decode cX5_plane 28 = .ok (.iload_n 3, 1) := by decide +kernel
theorem dX5_plane_29 : decode cX5_plane 29 = .ok (.invokevirtual 160, 3) := by decide +kernel
theorem dX5_plane_32 : decode cX5_plane 32 = .ok (.ireturn, 1) := by decide +kernel
theorem dX5_angle_0 : decode cX5_angle 0 = .ok (.aload_n 0, 1) := by decide +kernel
theorem dX5_angle_1 : decode cX5_angle 1 = .ok (.iload_n 1, 1) := by decide +kernel
theorem dX5_angle_2 : decode cX5_angle 2 = .ok (.invokevirtual 78, 3) := by decide +kernel
theorem dX5_angle_5 : decode cX5_angle 5 = .ok (.aload_n 0, 1) := by decide +kernel
theorem dX5_angle_6 : decode cX5_angle 6 = .ok (.iload_n 1, 1) := by decide +kernel
theorem dX5_angle_7 : decode cX5_angle 7 = .ok (.iload_n 2, 1) := by decide +kernel
theorem dX5_angle_8 : decode cX5_angle 8 = .ok (.invokevirtual 134, 3) := by decide +kernel
theorem dX5_angle_11 : decode cX5_angle 11 = .ok (.aload_n 0, 1) := by decide +kernel
theorem dX5_angle_12 : decode cX5_angle 12 = .ok (.iload_n 1, 1) := by decide +kernel
theorem dX5_angle_13 : decode cX5_angle 13 = .ok (.iload_n 3, 1) := by decide +kernel
theorem dX5_angle_14 : decode cX5_angle 14 = .ok (.invokevirtual 134, 3) := by decide +kernel
theorem dX5_angle_17 : decode cX5_angle 17 = .ok (.aload_n 0, 1) := by decide +kernel
theorem dX5_angle_18 : decode cX5_angle 18 = .ok (.getfield 18, 3) := by decide +kernel
theorem dX5_angle_21 : decode cX5_angle 21 = .ok (.iload_n 1, 1) := by decide +kernel
theorem dX5_angle_22 : decode cX5_angle 22 = .ok (.aaload, 1) := by decide +kernel
theorem dX5_angle_23 : decode cX5_angle 23 = .ok (.getfield 137, 3) := by decide +kernel
theorem dX5_angle_26 : decode cX5_angle 26 = .ok (.iload_n 2, 1) := by decide +kernel
theorem dX5_angle_27 : decode cX5_angle 27 = .ok (.aaload, 1) := by decide +kernel
theorem dX5_angle_28 : decode cX5_angle 28 = .ok (.aload_n 0, 1) := by decide +kernel
theorem dX5_angle_29 : decode cX5_angle 29 = .ok (.getfield 18, 3) := by decide +kernel
theorem dX5_angle_32 : decode cX5_angle 32 = .ok (.iload_n 1, 1) := by decide +kernel
theorem dX5_angle_33 : decode cX5_angle 33 = .ok (.aaload, 1) := by decide +kernel
theorem dX5_angle_34 : decode cX5_angle 34 = .ok (.getfield 137, 3) := by decide +kernel
theorem dX5_angle_37 : decode cX5_angle 37 = .ok (.iload_n 3, 1) := by decide +kernel
theorem dX5_angle_38 : decode cX5_angle 38 = .ok (.aaload, 1) := by decide +kernel
theorem dX5_angle_39 : decode cX5_angle 39 = .ok (.invokevirtual 163, 3) := by decide +kernel
theorem dX5_angle_42 : decode cX5_angle 42 = .ok (.ireturn, 1) := by decide +kernel
theorem dX5_count_0 : decode cX5_count 0 = .ok (.iload_n 1, 1) := by decide +kernel
theorem dX5_count_1 : decode cX5_count 1 = .ok (.bipush 8, 2) := by decide +kernel
theorem dX5_count_3 : decode cX5_count 3 = .ok (.invokestatic 81, 3) := by decide +kernel
theorem dX5_count_6 : decode cX5_count 6 = .ok (.aload_n 0, 1) := by decide +kernel
theorem dX5_count_7 : decode cX5_count 7 = .ok (.iload_n 1, 1) := by decide +kernel
theorem dX5_count_8 : decode cX5_count 8 = .ok (.invokevirtual 167, 3) := by decide +kernel
theorem dX5_count_11 : decode cX5_count 11 = .ok (.ireturn, 1) := by decide +kernel
theorem dX5_would_0 : decode cX5_would 0 = .ok (.aload_n 0, 1) := by decide +kernel
theorem dX5_would_1 : decode cX5_would 1 = .ok (.iload_n 1, 1) := by decide +kernel
theorem dX5_would_2 : decode cX5_would 2 = .ok (.invokevirtual 78, 3) := by decide +kernel
theorem dX5_would_5 : decode cX5_would 5 = .ok (.iload 6, 2) := by decide +kernel
theorem dX5_would_7 : decode cX5_would 7 = .ok (.iconst 4, 1) := by decide +kernel
theorem dX5_would_8 : decode cX5_would 8 = .ok (.invokestatic 81, 3) := by decide +kernel
theorem dX5_would_11 : decode cX5_would 11 = .ok (.iload_n 2, 1) := by decide +kernel
theorem dX5_would_12 : decode cX5_would 12 = .ok (.iload_n 3, 1) := by decide +kernel
theorem dX5_would_13 : decode cX5_would 13 = .ok (.iload 4, 2) := by decide +kernel
theorem dX5_would_15 : decode cX5_would 15 = .ok (.invokestatic 88, 3) := by decide +kernel
theorem dX5_would_18 : decode cX5_would 18 = .ok (.iload 5, 2) := by decide +kernel
theorem dX5_would_20 : decode cX5_would 20 = .ok (.invokestatic 91, 3) := by decide +kernel
theorem dX5_would_23 : decode cX5_would 23 = .ok (.aload_n 0, 1) := by decide +kernel
theorem dX5_would_24 : decode cX5_would 24 = .ok (.getfield 30, 3) := by decide +kernel
theorem dX5_would_27 : decode cX5_would 27 = .ok (.aload_n 0, 1) := by decide +kernel
theorem dX5_would_28 : decode cX5_would 28 = .ok (.getfield 18, 3) := by decide +kernel
theorem dX5_would_31 : decode cX5_would 31 = .ok (.iload_n 1, 1) := by decide +kernel
theorem dX5_would_32 : decode cX5_would 32 = .ok (.aaload, 1) := by decide +kernel
theorem dX5_would_33 : decode cX5_would 33 = .ok (.iload_n 2, 1) := by decide +kernel
theorem dX5_would_34 : decode cX5_would 34 = .ok (.iload_n 3, 1) := by decide +kernel
theorem dX5_would_35 : decode cX5_would 35 = .ok (.iload 4, 2) := by decide +kernel
theorem dX5_would_37 : decode cX5_would 37 = .ok (.invokevirtual 170, 3) := by decide +kernel
theorem dX5_would_40 : decode cX5_would 40 = .ok (.iload 6, 2) := by decide +kernel
theorem dX5_would_42 : decode cX5_would 42 = .ok (.tableswitch 56 0 2 #[26, 36, 46], 26) := by decide +kernel
theorem dX5_would_68 : decode cX5_would 68 = .ok (.aload_n 0, 1) := by decide +kernel
theorem dX5_would_69 : decode cX5_would 69 = .ok (.getfield 30, 3) := by decide +kernel
theorem dX5_would_72 : decode cX5_would 72 = .ok (.iload 5, 2) := by decide +kernel
theorem dX5_would_74 : decode cX5_would 74 = .ok (.invokevirtual 98, 3) := by decide +kernel
theorem dX5_would_77 : decode cX5_would 77 = .ok (.ireturn, 1) := by decide +kernel
theorem dX5_would_78 : decode cX5_would 78 = .ok (.aload_n 0, 1) := by decide +kernel
theorem dX5_would_79 : decode cX5_would 79 = .ok (.getfield 30, 3) := by decide +kernel
theorem dX5_would_82 : decode cX5_would 82 = .ok (.iload 5, 2) := by decide +kernel
theorem dX5_would_84 : decode cX5_would 84 = .ok (.invokevirtual 173, 3) := by decide +kernel
theorem dX5_would_87 : decode cX5_would 87 = .ok (.ireturn, 1) := by decide +kernel
theorem dX5_would_88 : decode cX5_would 88 = .ok (.aload_n 0, 1) := by decide +kernel
theorem dX5_would_89 : decode cX5_would 89 = .ok (.getfield 30, 3) := by decide +kernel
theorem dX5_would_92 : decode cX5_would 92 = .ok (.iload 5, 2) := by decide +kernel
theorem dX5_would_94 : decode cX5_would 94 = .ok (.invokevirtual 176, 3) := by decide +kernel
theorem dX5_would_97 : decode cX5_would 97 = .ok (.ireturn, 1) := by decide +kernel
theorem dX5_would_98 : decode cX5_would 98 = .ok (.aload_n 0, 1) := by decide +kernel
theorem dX5_would_99 : decode cX5_would 99 = .ok (.getfield 30, 3) := by decide +kernel
theorem dX5_would_102 : decode cX5_would 102 = .ok (.iload 5, 2) := by decide +kernel
theorem dX5_would_104 : decode cX5_would 104 = .ok (.invokevirtual 179, 3) := by decide +kernel
theorem dX5_would_107 : decode cX5_would 107 = .ok (.ireturn, 1) := by decide +kernel
theorem dX5_depth_0 : decode cX5_depth 0 = .ok (.aload_n 0, 1) := by decide +kernel
theorem dX5_depth_1 : decode cX5_depth 1 = .ok (.iload_n 1, 1) := by decide +kernel
theorem dX5_depth_2 : decode cX5_depth 2 = .ok (.invokevirtual 78, 3) := by decide +kernel
theorem dX5_depth_5 : decode cX5_depth 5 = .ok (.iload_n 2, 1) := by decide +kernel
theorem dX5_depth_6 : decode cX5_depth 6 = .ok (.iload_n 3, 1) := by decide +kernel
theorem dX5_depth_7 : decode cX5_depth 7 = .ok (.iload 4, 2) := by decide +kernel
theorem dX5_depth_9 : decode cX5_depth 9 = .ok (.invokestatic 88, 3) := by decide +kernel
theorem dX5_depth_12 : decode cX5_depth 12 = .ok (.aload_n 0, 1) := by decide +kernel
theorem dX5_depth_13 : decode cX5_depth 13 = .ok (.getfield 18, 3) := by decide +kernel
theorem dX5_depth_16 : decode cX5_depth 16 = .ok (.iload_n 1, 1) := by decide +kernel
theorem dX5_depth_17 : decode cX5_depth 17 = .ok (.aaload, 1) := by decide +kernel
theorem dX5_depth_18 : decode cX5_depth 18 = .ok (.getfield 105, 3) := by decide +kernel
theorem dX5_depth_21 : decode cX5_depth 21 = .ok (.ifCond .ne 13, 3) := by decide +kernel
theorem dX5_depth_24 : decode cX5_depth 24 = .ok (.new 62, 3) := by decide +kernel
theorem dX5_depth_27 : decode cX5_depth 27 = .ok (.dup, 1) := by decide +kernel
theorem dX5_depth_28 : decode cX5_depth 28 = .ok (.ldc 182, 2) := by decide +kernel
theorem dX5_depth_30 : decode cX5_depth 30 = .ok (.invokespecial 66, 3) := by decide +kernel
theorem dX5_depth_33 : decode cX5_depth 33 = .ok (.athrow, 1) := by decide +kernel
theorem dX5_depth_34 : decode cX5_depth 34 = .ok (.aload_n 0, 1) := by decide +kernel
theorem dX5_depth_35 : decode cX5_depth 35 = .ok (.getfield 30, 3) := by decide +kernel
theorem dX5_depth_38 : decode cX5_depth 38 = .ok (.aload_n 0, 1) := by decide +kernel
theorem dX5_depth_39 : decode cX5_depth 39 = .ok (.getfield 18, 3) := by decide +kernel
theorem dX5_depth_42 : decode cX5_depth 42 = .ok (.iload_n 1, 1) := by decide +kernel
theorem dX5_depth_43 : decode cX5_depth 43 = .ok (.aaload, 1) := by decide +kernel
theorem dX5_depth_44 : decode cX5_depth 44 = .ok (.iload_n 2, 1) := by decide +kernel
theorem dX5_depth_45 : decode cX5_depth 45 = .ok (.iload_n 3, 1) := by decide +kernel
theorem dX5_depth_46 : decode cX5_depth 46 = .ok (.iload 4, 2) := by decide +kernel
theorem dX5_depth_48 : decode cX5_depth 48 = .ok (.invokevirtual 170, 3) := by decide +kernel
theorem dX5_depth_51 : decode cX5_depth 51 = .ok (.aload_n 0, 1) := by decide +kernel
theorem dX5_depth_52 : decode cX5_depth 52 = .ok (.getfield 30, 3) := by decide +kernel
theorem dX5_depth_55 : decode cX5_depth 55 = .ok (.invokevirtual 184, 3) := by decide +kernel
theorem dX5_depth_58 : decode cX5_depth 58 = .ok (.ireturn, 1) := by decide +kernel
theorem dX5_rid_0 : decode cX5_rid 0 = .ok (.aload_n 0, 1) := by decide +kernel
theorem dX5_rid_1 : decode cX5_rid 1 = .ok (.iload_n 1, 1) := by decide +kernel
theorem dX5_rid_2 : decode cX5_rid 2 = .ok (.invokevirtual 75, 3) := by decide +kernel
theorem dX5_rid_5 : decode cX5_rid 5 = .ok (.aload_n 0, 1) := by decide +kernel
theorem dX5_rid_6 : decode cX5_rid 6 = .ok (.iload_n 2, 1) := by decide +kernel
theorem dX5_rid_7 : decode cX5_rid 7 = .ok (.invokevirtual 78, 3) := by decide +kernel
theorem dX5_rid_10 : decode cX5_rid 10 = .ok (.iload_n 3, 1) := by decide +kernel
theorem dX5_rid_11 : decode cX5_rid 11 = .ok (.iconst 3, 1) := by decide +kernel
theorem dX5_rid_12 : decode cX5_rid 12 = .ok (.invokestatic 81, 3) := by decide +kernel
theorem dX5_rid_15 : decode cX5_rid 15 = .ok (.aload_n 0, 1) := by decide +kernel
theorem dX5_rid_16 : decode cX5_rid 16 = .ok (.getfield 10, 3) := by decide +kernel
theorem dX5_rid_19 : decode cX5_rid 19 = .ok (.getfield 187, 3) := by decide +kernel
theorem dX5_rid_22 : decode cX5_rid 22 = .ok (.iload_n 1, 1) := by decide +kernel
theorem dX5_rid_23 : decode cX5_rid 23 = .ok (.aaload, 1) := by decide +kernel
theorem dX5_rid_24 : decode cX5_rid 24 = .ok (.astore 4, 2) := by decide +kernel
theorem dX5_rid_26 : decode cX5_rid 26 = .ok (.aload 4, 2) := by decide +kernel
theorem dX5_rid_28 : decode cX5_rid 28 = .ok (.iload_n 2, 1) := by decide +kernel
theorem dX5_rid_29 : decode cX5_rid 29 = .ok (.invokevirtual 191, 3) := by decide +kernel
theorem dX5_rid_32 : decode cX5_rid 32 = .ok (.iconst (-1), 1) := by decide +kernel
theorem dX5_rid_33 : decode cX5_rid 33 = .ok (.if_icmp .ne 16, 3) := by decide +kernel
theorem dX5_rid_36 : decode cX5_rid 36 = .ok (.iload_n 3, 1) := by decide +kernel
theorem dX5_rid_37 : decode cX5_rid 37 = .ok (.iconst 1, 1) := by decide +kernel
theorem dX5_rid_38 : decode cX5_rid 38 = .ok (.if_icmp .ne 9, 3) := by decide +kernel
theorem dX5_rid_41 : decode cX5_rid 41 = .ok (.sipush (-1000), 3) := by decide +kernel
theorem dX5_rid_44 : decode cX5_rid 44 = .ok (.goto 4, 3) := by decide +kernel
theorem dX5_rid_47 : decode cX5_rid 47 = .ok (.iconst (-1), 1) := by decide +kernel
theorem dX5_rid_48 : decode cX5_rid 48 = .ok (.ireturn, 1) := by decide +kernel
theorem dX5_rid_49 : decode cX5_rid 49 = .ok (.aload_n 0, 1) := by decide +kernel
theorem dX5_rid_50 : decode cX5_rid 50 = .ok (.getfield 30, 3) := by decide +kernel
theorem dX5_rid_53 : decode cX5_rid 53 = .ok (.aload_n 0, 1) := by decide +kernel
theorem dX5_rid_54 : decode cX5_rid 54 = .ok (.getfield 18, 3) := by decide +kernel
theorem dX5_rid_57 : decode cX5_rid 57 = .ok (.iload_n 2, 1) := by decide +kernel
theorem dX5_rid_58 : decode cX5_rid 58 = .ok (.aaload, 1) := by decide +kernel
theorem dX5_rid_59 : decode cX5_rid 59 = .ok (.aload 4, 2) := by decide +kernel
theorem dX5_rid_61 : decode cX5_rid 61 = .ok (.iload_n 3, 1) := by decide +kernel
theorem dX5_rid_62 : decode cX5_rid 62 = .ok (.invokevirtual 196, 3) := by decide +kernel
theorem dX5_rid_65 : decode cX5_rid 65 = .ok (.ireturn, 1) := by decide +kernel
theorem dX5_kept_0 : decode cX5_kept 0 = .ok (.aload_n 0, 1) := by decide +kernel
theorem dX5_kept_1 : decode cX5_kept 1 = .ok (.getfield 10, 3) := by decide +kernel
theorem dX5_kept_4 : decode cX5_kept 4 = .ok (.invokevirtual 49, 3) := by decide +kernel
theorem dX5_kept_7 : decode cX5_kept 7 = .ok (.istore_n 1, 1) := by decide +kernel
theorem dX5_kept_8 : decode cX5_kept 8 = .ok (.iload_n 1, 1) := by decide +kernel
theorem dX5_kept_9 : decode cX5_kept 9 = .ok (.ifCond .ne 7, 3) := by decide +kernel
theorem dX5_kept_12 : decode cX5_kept 12 = .ok (.dconst 0, 1) := by decide +kernel
theorem dX5_kept_13 : decode cX5_kept 13 = .ok (.goto 11, 3) := by decide +kernel
theorem dX5_kept_16 : decode cX5_kept 16 = .ok (.aload_n 0, 1) := by decide +kernel
theorem dX5_kept_17 : decode cX5_kept 17 = .ok (.invokevirtual 200, 3) := by decide +kernel
theorem dX5_kept_20 : decode cX5_kept 20 = .ok (.i2d, 1) := by decide +kernel
theorem dX5_kept_21 : decode cX5_kept 21 = .ok (.iload_n 1, 1) := by decide +kernel
theorem dX5_kept_22 : decode cX5_kept 22 = .ok (.i2d, 1) := by decide +kernel
theorem dX5_kept_23 : decode cX5_kept 23 = .ok (.ddiv, 1) := by decide +kernel
theorem dX5_kept_24 : decode cX5_kept 24 = .ok (.dreturn, 1) := by decide +kernel
theorem dX5_digest_0 : decode cX5_digest 0 = .ok (.ldc2_w 203, 3) := by decide +kernel
theorem dX5_digest_3 : decode cX5_digest 3 = .ok (.lstore_n 1, 1) := by decide +kernel
theorem dX5_digest_4 : decode cX5_digest 4 = .ok (.iconst 0, 1) := by decide +kernel
theorem dX5_digest_5 : decode cX5_digest 5 = .ok (.istore_n 3, 1) := by decide +kernel
theorem dX5_digest_6 : decode cX5_digest 6 = .ok (.iload_n 3, 1) := by decide +kernel
theorem dX5_digest_7 : decode cX5_digest 7 = .ok (.bipush 8, 2) := by decide +kernel
theorem dX5_digest_9 : decode cX5_digest 9 = .ok (.if_icmp .ge 22, 3) := by decide +kernel
theorem dX5_digest_12 : decode cX5_digest 12 = .ok (.lload_n 1, 1) := by decide +kernel
theorem dX5_digest_13 : decode cX5_digest 13 = .ok (.ldc2_w 205, 3) := by decide +kernel
theorem dX5_digest_16 : decode cX5_digest 16 = .ok (.lmul, 1) := by decide +kernel
theorem dX5_digest_17 : decode cX5_digest 17 = .ok (.aload_n 0, 1) := by decide +kernel
theorem dX5_digest_18 : decode cX5_digest 18 = .ok (.iload_n 3, 1) := by decide +kernel
theorem dX5_digest_19 : decode cX5_digest 19 = .ok (.invokevirtual 167, 3) := by decide +kernel
theorem dX5_digest_22 : decode cX5_digest 22 = .ok (.i2l, 1) := by decide +kernel
theorem dX5_digest_23 : decode cX5_digest 23 = .ok (.ladd, 1) := by decide +kernel
theorem dX5_digest_24 : decode cX5_digest 24 = .ok (.lstore_n 1, 1) := by decide +kernel
theorem dX5_digest_25 : decode cX5_digest 25 = .ok (.iinc 3 1, 3) := by decide +kernel
theorem dX5_digest_28 : decode cX5_digest 28 = .ok (.goto (-22), 3) := by decide +kernel
theorem dX5_digest_31 : decode cX5_digest 31 = .ok (.aload_n 0, 1) := by decide +kernel
theorem dX5_digest_32 : decode cX5_digest 32 = .ok (.getfield 10, 3) := by decide +kernel
theorem dX5_digest_35 : decode cX5_digest 35 = .ok (.invokevirtual 49, 3) := by decide +kernel
theorem dX5_digest_38 : decode cX5_digest 38 = .ok (.istore_n 3, 1) := by decide +kernel
theorem dX5_digest_39 : decode cX5_digest 39 = .ok (.iconst 0, 1) := by decide +kernel
theorem dX5_digest_40 : decode cX5_digest 40 = .ok (.istore 4, 2) := by decide +kernel
theorem dX5_digest_42 : decode cX5_digest 42 = .ok (.iload 4, 2) := by decide +kernel
theorem dX5_digest_44 : decode cX5_digest 44 = .ok (.iload_n 3, 1) := by decide +kernel
theorem dX5_digest_45 : decode cX5_digest 45 = .ok (.if_icmp .ge 27, 3) := by decide +kernel
theorem dX5_digest_48 : decode cX5_digest 48 = .ok (.lload_n 1, 1) := by decide +kernel
theorem dX5_digest_49 : decode cX5_digest 49 = .ok (.ldc2_w 205, 3) := by decide +kernel
theorem dX5_digest_52 : decode cX5_digest 52 = .ok (.lmul, 1) := by decide +kernel
theorem dX5_digest_53 : decode cX5_digest 53 = .ok (.aload_n 0, 1) := by decide +kernel
theorem dX5_digest_54 : decode cX5_digest 54 = .ok (.getfield 10, 3) := by decide +kernel
theorem dX5_digest_57 : decode cX5_digest 57 = .ok (.getfield 207, 3) := by decide +kernel
theorem dX5_digest_60 : decode cX5_digest 60 = .ok (.iload 4, 2) := by decide +kernel
theorem dX5_digest_62 : decode cX5_digest 62 = .ok (.iaload, 1) := by decide +kernel
theorem dX5_digest_63 : decode cX5_digest 63 = .ok (.i2l, 1) := by decide +kernel
theorem dX5_digest_64 : decode cX5_digest 64 = .ok (.ladd, 1) := by decide +kernel
theorem dX5_digest_65 : decode cX5_digest 65 = .ok (.lstore_n 1, 1) := by decide +kernel
theorem dX5_digest_66 : decode cX5_digest 66 = .ok (.iinc 4 1, 3) := by decide +kernel
theorem dX5_digest_69 : decode cX5_digest 69 = .ok (.goto (-27), 3) := by decide +kernel
theorem dX5_digest_72 : decode cX5_digest 72 = .ok (.iconst 0, 1) := by decide +kernel
theorem dX5_digest_73 : decode cX5_digest 73 = .ok (.istore 4, 2) := by decide +kernel
theorem dX5_digest_75 : decode cX5_digest 75 = .ok (.iload 4, 2) := by decide +kernel
theorem dX5_digest_77 : decode cX5_digest 77 = .ok (.aload_n 0, 1) := by decide +kernel
theorem dX5_digest_78 : decode cX5_digest 78 = .ok (.getfield 102, 3) := by decide +kernel
theorem dX5_digest_81 : decode cX5_digest 81 = .ok (.if_icmp .ge 22, 3) := by decide +kernel
theorem dX5_digest_84 : decode cX5_digest 84 = .ok (.aload_n 0, 1) := by decide +kernel
theorem dX5_digest_85 : decode cX5_digest 85 = .ok (.lload_n 1, 1) := by decide +kernel
theorem dX5_digest_86 : decode cX5_digest 86 = .ok (.aload_n 0, 1) := by decide +kernel
theorem dX5_digest_87 : decode cX5_digest 87 = .ok (.getfield 18, 3) := by decide +kernel
theorem dX5_digest_90 : decode cX5_digest 90 = .ok (.iload 4, 2) := by decide +kernel
theorem dX5_digest_92 : decode cX5_digest 92 = .ok (.aaload, 1) := by decide +kernel
theorem dX5_digest_93 : decode cX5_digest 93 = .ok (.invokevirtual 211, 3) := by decide +kernel
theorem dX5_digest_96 : decode cX5_digest 96 = .ok (.lstore_n 1, 1) := by decide +kernel
theorem dX5_digest_97 : decode cX5_digest 97 = .ok (.iinc 4 1, 3) := by decide +kernel
theorem dX5_digest_100 : decode cX5_digest 100 = .ok (.goto (-25), 3) := by decide +kernel
theorem dX5_digest_103 : decode cX5_digest 103 = .ok (.iconst 0, 1) := by decide +kernel
theorem dX5_digest_104 : decode cX5_digest 104 = .ok (.istore 4, 2) := by decide +kernel
theorem dX5_digest_106 : decode cX5_digest 106 = .ok (.iload 4, 2) := by decide +kernel
theorem dX5_digest_108 : decode cX5_digest 108 = .ok (.aload_n 0, 1) := by decide +kernel
theorem dX5_digest_109 : decode cX5_digest 109 = .ok (.getfield 10, 3) := by decide +kernel
theorem dX5_digest_112 : decode cX5_digest 112 = .ok (.getfield 58, 3) := by decide +kernel
theorem dX5_digest_115 : decode cX5_digest 115 = .ok (.if_icmp .ge 60, 3) := by decide +kernel
theorem dX5_digest_118 : decode cX5_digest 118 = .ok (.iconst 0, 1) := by decide +kernel
theorem dX5_digest_119 : decode cX5_digest 119 = .ok (.istore 5, 2) := by decide +kernel
theorem dX5_digest_121 : decode cX5_digest 121 = .ok (.iload 5, 2) := by decide +kernel
theorem dX5_digest_123 : decode cX5_digest 123 = .ok (.aload_n 0, 1) := by decide +kernel
theorem dX5_digest_124 : decode cX5_digest 124 = .ok (.getfield 102, 3) := by decide +kernel
theorem dX5_digest_127 : decode cX5_digest 127 = .ok (.if_icmp .ge 42, 3) := by decide +kernel
theorem dX5_digest_130 : decode cX5_digest 130 = .ok (.iconst 0, 1) := by decide +kernel
theorem dX5_digest_131 : decode cX5_digest 131 = .ok (.istore 6, 2) := by decide +kernel
theorem dX5_digest_133 : decode cX5_digest 133 = .ok (.iload 6, 2) := by decide +kernel
theorem dX5_digest_135 : decode cX5_digest 135 = .ok (.iconst 3, 1) := by decide +kernel
theorem dX5_digest_136 : decode cX5_digest 136 = .ok (.if_icmp .ge 27, 3) := by decide +kernel
theorem dX5_digest_139 : decode cX5_digest 139 = .ok (.lload_n 1, 1) := by decide +kernel
theorem dX5_digest_140 : decode cX5_digest 140 = .ok (.ldc2_w 205, 3) := by decide +kernel
theorem dX5_digest_143 : decode cX5_digest 143 = .ok (.lmul, 1) := by decide +kernel
theorem dX5_digest_144 : decode cX5_digest 144 = .ok (.aload_n 0, 1) := by decide +kernel
theorem dX5_digest_145 : decode cX5_digest 145 = .ok (.iload 4, 2) := by decide +kernel
theorem dX5_digest_147 : decode cX5_digest 147 = .ok (.iload 5, 2) := by decide +kernel
theorem dX5_digest_149 : decode cX5_digest 149 = .ok (.iload 6, 2) := by decide +kernel
theorem dX5_digest_151 : decode cX5_digest 151 = .ok (.invokevirtual 85, 3) := by decide +kernel
theorem dX5_digest_154 : decode cX5_digest 154 = .ok (.i2l, 1) := by decide +kernel
theorem dX5_digest_155 : decode cX5_digest 155 = .ok (.ladd, 1) := by decide +kernel
theorem dX5_digest_156 : decode cX5_digest 156 = .ok (.lstore_n 1, 1) := by decide +kernel
theorem dX5_digest_157 : decode cX5_digest 157 = .ok (.iinc 6 1, 3) := by decide +kernel
theorem dX5_digest_160 : decode cX5_digest 160 = .ok (.goto (-27), 3) := by decide +kernel
theorem dX5_digest_163 : decode cX5_digest 163 = .ok (.iinc 5 1, 3) := by decide +kernel
theorem dX5_digest_166 : decode cX5_digest 166 = .ok (.goto (-45), 3) := by decide +kernel
theorem dX5_digest_169 : decode cX5_digest 169 = .ok (.iinc 4 1, 3) := by decide +kernel
theorem dX5_digest_172 : decode cX5_digest 172 = .ok (.goto (-66), 3) := by decide +kernel
theorem dX5_digest_175 : decode cX5_digest 175 = .ok (.lload_n 1, 1) := by decide +kernel
theorem dX5_digest_176 : decode cX5_digest 176 = .ok (.lreturn, 1) := by decide +kernel
theorem dX5_isSide_0 : decode cX5_isSide 0 = .ok (.iload_n 0, 1) := by decide +kernel
theorem dX5_isSide_1 : decode cX5_isSide 1 = .ok (.iconst 1, 1) := by decide +kernel
theorem dX5_isSide_2 : decode cX5_isSide 2 = .ok (.if_icmp .lt 13, 3) := by decide +kernel
theorem dX5_isSide_5 : decode cX5_isSide 5 = .ok (.iload_n 0, 1) := by decide +kernel
theorem dX5_isSide_6 : decode cX5_isSide 6 = .ok (.bipush 10, 2) := by decide +kernel
theorem dX5_isSide_8 : decode cX5_isSide 8 = .ok (.if_icmp .gt 7, 3) := by decide +kernel
theorem dX5_isSide_11 : decode cX5_isSide 11 = .ok (.iconst 1, 1) := by decide +kernel
theorem dX5_isSide_12 : decode cX5_isSide 12 = .ok (.goto 4, 3) := by decide +kernel
theorem dX5_isSide_15 : decode cX5_isSide 15 = .ok (.iconst 0, 1) := by decide +kernel
theorem dX5_isSide_16 : decode cX5_isSide 16 = .ok (.ireturn, 1) := by decide +kernel
theorem dX5_wantCell_0 : decode cX5_wantCell 0 = .ok (.aload_n 0, 1) := by decide +kernel
theorem dX5_wantCell_1 : decode cX5_wantCell 1 = .ok (.getfield 10, 3) := by decide +kernel
theorem dX5_wantCell_4 : decode cX5_wantCell 4 = .ok (.iload_n 1, 1) := by decide +kernel
theorem dX5_wantCell_5 : decode cX5_wantCell 5 = .ok (.iload_n 2, 1) := by decide +kernel
theorem dX5_wantCell_6 : decode cX5_wantCell 6 = .ok (.iload_n 3, 1) := by decide +kernel
theorem dX5_wantCell_7 : decode cX5_wantCell 7 = .ok (.invokevirtual 215, 3) := by decide +kernel
theorem dX5_wantCell_10 : decode cX5_wantCell 10 = .ok (.ifCond .ne 13, 3) := by decide +kernel
theorem dX5_wantCell_13 : decode cX5_wantCell 13 = .ok (.new 219, 3) := by decide +kernel
theorem dX5_wantCell_16 : decode cX5_wantCell 16 = .ok (.dup, 1) := by decide +kernel
theorem dX5_wantCell_17 : decode cX5_wantCell 17 = .ok (.ldc 221, 2) := by decide +kernel
theorem dX5_wantCell_19 : decode cX5_wantCell 19 = .ok (.invokespecial 223, 3) := by decide +kernel
theorem dX5_wantCell_22 : decode cX5_wantCell 22 = .ok (.athrow, 1) := by decide +kernel
theorem dX5_wantCell_23 : decode cX5_wantCell 23 = .ok (.return_, 1) := by decide +kernel
theorem dX5_wantFlaw_0 : decode cX5_wantFlaw 0 = .ok (.iload_n 1, 1) := by decide +kernel
theorem dX5_wantFlaw_1 : decode cX5_wantFlaw 1 = .ok (.ifCond .lt 14, 3) := by decide +kernel
theorem dX5_wantFlaw_4 : decode cX5_wantFlaw 4 = .ok (.iload_n 1, 1) := by decide +kernel
theorem dX5_wantFlaw_5 : decode cX5_wantFlaw 5 = .ok (.aload_n 0, 1) := by decide +kernel
theorem dX5_wantFlaw_6 : decode cX5_wantFlaw 6 = .ok (.getfield 10, 3) := by decide +kernel
theorem dX5_wantFlaw_9 : decode cX5_wantFlaw 9 = .ok (.getfield 58, 3) := by decide +kernel
theorem dX5_wantFlaw_12 : decode cX5_wantFlaw 12 = .ok (.if_icmp .lt 13, 3) := by decide +kernel
theorem dX5_wantFlaw_15 : decode cX5_wantFlaw 15 = .ok (.new 219, 3) := by decide +kernel
theorem dX5_wantFlaw_18 : decode cX5_wantFlaw 18 = .ok (.dup, 1) := by decide +kernel
theorem dX5_wantFlaw_19 : decode cX5_wantFlaw 19 = .ok (.ldc 224, 2) := by decide +kernel
theorem dX5_wantFlaw_21 : decode cX5_wantFlaw 21 = .ok (.invokespecial 223, 3) := by decide +kernel
theorem dX5_wantFlaw_24 : decode cX5_wantFlaw 24 = .ok (.athrow, 1) := by decide +kernel
theorem dX5_wantFlaw_25 : decode cX5_wantFlaw 25 = .ok (.return_, 1) := by decide +kernel
theorem dX5_wantStone_0 : decode cX5_wantStone 0 = .ok (.iload_n 1, 1) := by decide +kernel
theorem dX5_wantStone_1 : decode cX5_wantStone 1 = .ok (.ifCond .lt 11, 3) := by decide +kernel
theorem dX5_wantStone_4 : decode cX5_wantStone 4 = .ok (.iload_n 1, 1) := by decide +kernel
theorem dX5_wantStone_5 : decode cX5_wantStone 5 = .ok (.aload_n 0, 1) := by decide +kernel
theorem dX5_wantStone_6 : decode cX5_wantStone 6 = .ok (.getfield 102, 3) := by decide +kernel
theorem dX5_wantStone_9 : decode cX5_wantStone 9 = .ok (.if_icmp .lt 13, 3) := by decide +kernel
theorem dX5_wantStone_12 : decode cX5_wantStone 12 = .ok (.new 219, 3) := by decide +kernel
theorem dX5_wantStone_15 : decode cX5_wantStone 15 = .ok (.dup, 1) := by decide +kernel
theorem dX5_wantStone_16 : decode cX5_wantStone 16 = .ok (.ldc 226, 2) := by decide +kernel
theorem dX5_wantStone_18 : decode cX5_wantStone 18 = .ok (.invokespecial 223, 3) := by decide +kernel
theorem dX5_wantStone_21 : decode cX5_wantStone 21 = .ok (.athrow, 1) := by decide +kernel
theorem dX5_wantStone_22 : decode cX5_wantStone 22 = .ok (.return_, 1) := by decide +kernel
theorem dX5_wantPlane_0 : decode cX5_wantPlane 0 = .ok (.iload_n 2, 1) := by decide +kernel
theorem dX5_wantPlane_1 : decode cX5_wantPlane 1 = .ok (.ifCond .lt 16, 3) := by decide +kernel
theorem dX5_wantPlane_4 : decode cX5_wantPlane 4 = .ok (.iload_n 2, 1) := by decide +kernel
theorem dX5_wantPlane_5 : decode cX5_wantPlane 5 = .ok (.aload_n 0, 1) := by decide +kernel
theorem dX5_wantPlane_6 : decode cX5_wantPlane 6 = .ok (.getfield 18, 3) := by decide +kernel
theorem dX5_wantPlane_9 : decode cX5_wantPlane 9 = .ok (.iload_n 1, 1) := by decide +kernel
theorem dX5_wantPlane_10 : decode cX5_wantPlane 10 = .ok (.aaload, 1) := by decide +kernel
theorem dX5_wantPlane_11 : decode cX5_wantPlane 11 = .ok (.getfield 119, 3) := by decide +kernel
theorem dX5_wantPlane_14 : decode cX5_wantPlane 14 = .ok (.if_icmp .lt 13, 3) := by decide +kernel
theorem dX5_wantPlane_17 : decode cX5_wantPlane 17 = .ok (.new 219, 3) := by decide +kernel
theorem dX5_wantPlane_20 : decode cX5_wantPlane 20 = .ok (.dup, 1) := by decide +kernel
theorem dX5_wantPlane_21 : decode cX5_wantPlane 21 = .ok (.ldc 228, 2) := by decide +kernel
theorem dX5_wantPlane_23 : decode cX5_wantPlane 23 = .ok (.invokespecial 223, 3) := by decide +kernel
theorem dX5_wantPlane_26 : decode cX5_wantPlane 26 = .ok (.athrow, 1) := by decide +kernel
theorem dX5_wantPlane_27 : decode cX5_wantPlane 27 = .ok (.return_, 1) := by decide +kernel
theorem dX5_wantWhat_0 : decode cX5_wantWhat 0 = .ok (.iload_n 0, 1) := by decide +kernel
theorem dX5_wantWhat_1 : decode cX5_wantWhat 1 = .ok (.ifCond .lt 8, 3) := by decide +kernel
theorem dX5_wantWhat_4 : decode cX5_wantWhat 4 = .ok (.iload_n 0, 1) := by decide +kernel
theorem dX5_wantWhat_5 : decode cX5_wantWhat 5 = .ok (.iload_n 1, 1) := by decide +kernel
theorem dX5_wantWhat_6 : decode cX5_wantWhat 6 = .ok (.if_icmp .lt 13, 3) := by decide +kernel
theorem dX5_wantWhat_9 : decode cX5_wantWhat 9 = .ok (.new 219, 3) := by decide +kernel
theorem dX5_wantWhat_12 : decode cX5_wantWhat 12 = .ok (.dup, 1) := by decide +kernel
theorem dX5_wantWhat_13 : decode cX5_wantWhat 13 = .ok (.ldc 230, 2) := by decide +kernel
theorem dX5_wantWhat_15 : decode cX5_wantWhat 15 = .ok (.invokespecial 223, 3) := by decide +kernel
theorem dX5_wantWhat_18 : decode cX5_wantWhat 18 = .ok (.athrow, 1) := by decide +kernel
theorem dX5_wantWhat_19 : decode cX5_wantWhat 19 = .ok (.return_, 1) := by decide +kernel
theorem dX5_wantSlope_0 : decode cX5_wantSlope 0 = .ok (.iload_n 0, 1) := by decide +kernel
theorem dX5_wantSlope_1 : decode cX5_wantSlope 1 = .ok (.invokestatic 232, 3) := by decide +kernel
theorem dX5_wantSlope_4 : decode cX5_wantSlope 4 = .ok (.ifCond .eq 29, 3) := by decide +kernel
theorem dX5_wantSlope_7 : decode cX5_wantSlope 7 = .ok (.iload_n 1, 1) := by decide +kernel
theorem dX5_wantSlope_8 : decode cX5_wantSlope 8 = .ok (.invokestatic 232, 3) := by decide +kernel
theorem dX5_wantSlope_11 : decode cX5_wantSlope 11 = .ok (.ifCond .eq 22, 3) := by decide +kernel
theorem dX5_wantSlope_14 : decode cX5_wantSlope 14 = .ok (.iload_n 2, 1) := by decide +kernel
theorem dX5_wantSlope_15 : decode cX5_wantSlope 15 = .ok (.invokestatic 232, 3) := by decide +kernel
theorem dX5_wantSlope_18 : decode cX5_wantSlope 18 = .ok (.ifCond .eq 15, 3) := by decide +kernel
theorem dX5_wantSlope_21 : decode cX5_wantSlope 21 = .ok (.iload_n 0, 1) := by decide +kernel
theorem dX5_wantSlope_22 : decode cX5_wantSlope 22 = .ok (.ifCond .ne 21, 3) := by decide +kernel
theorem dX5_wantSlope_25 : decode cX5_wantSlope 25 = .ok (.iload_n 1, 1) := by decide +kernel
theorem dX5_wantSlope_26 : decode cX5_wantSlope 26 = .ok (.ifCond .ne 17, 3) := by decide +kernel
theorem dX5_wantSlope_29 : decode cX5_wantSlope 29 = .ok (.iload_n 2, 1) := by decide +kernel
theorem dX5_wantSlope_30 : decode cX5_wantSlope 30 = .ok (.ifCond .ne 13, 3) := by decide +kernel
theorem dX5_wantSlope_33 : decode cX5_wantSlope 33 = .ok (.new 42, 3) := by decide +kernel
theorem dX5_wantSlope_36 : decode cX5_wantSlope 36 = .ok (.dup, 1) := by decide +kernel
theorem dX5_wantSlope_37 : decode cX5_wantSlope 37 = .ok (.ldc 235, 2) := by decide +kernel
theorem dX5_wantSlope_39 : decode cX5_wantSlope 39 = .ok (.invokespecial 46, 3) := by decide +kernel
theorem dX5_wantSlope_42 : decode cX5_wantSlope 42 = .ok (.athrow, 1) := by decide +kernel
theorem dX5_wantSlope_43 : decode cX5_wantSlope 43 = .ok (.return_, 1) := by decide +kernel
theorem dX5_isSteepness_0 : decode cX5_isSteepness 0 = .ok (.iload_n 0, 1) := by decide +kernel
theorem dX5_isSteepness_1 : decode cX5_isSteepness 1 = .ok (.bipush (-3), 2) := by decide +kernel
theorem dX5_isSteepness_3 : decode cX5_isSteepness 3 = .ok (.if_icmp .lt 12, 3) := by decide +kernel
theorem dX5_isSteepness_6 : decode cX5_isSteepness 6 = .ok (.iload_n 0, 1) := by decide +kernel
theorem dX5_isSteepness_7 : decode cX5_isSteepness 7 = .ok (.iconst 3, 1) := by decide +kernel
theorem dX5_isSteepness_8 : decode cX5_isSteepness 8 = .ok (.if_icmp .gt 7, 3) := by decide +kernel
theorem dX5_isSteepness_11 : decode cX5_isSteepness 11 = .ok (.iconst 1, 1) := by decide +kernel
theorem dX5_isSteepness_12 : decode cX5_isSteepness 12 = .ok (.goto 4, 3) := by decide +kernel
theorem dX5_isSteepness_15 : decode cX5_isSteepness 15 = .ok (.iconst 0, 1) := by decide +kernel
theorem dX5_isSteepness_16 : decode cX5_isSteepness 16 = .ok (.ireturn, 1) := by decide +kernel
theorem dX5_wantDepth_0 : decode cX5_wantDepth 0 = .ok (.iload_n 0, 1) := by decide +kernel
theorem dX5_wantDepth_1 : decode cX5_wantDepth 1 = .ok (.bipush (-100), 2) := by decide +kernel
theorem dX5_wantDepth_3 : decode cX5_wantDepth 3 = .ok (.if_icmp .lt 9, 3) := by decide +kernel
theorem dX5_wantDepth_6 : decode cX5_wantDepth 6 = .ok (.iload_n 0, 1) := by decide +kernel
theorem dX5_wantDepth_7 : decode cX5_wantDepth 7 = .ok (.bipush 100, 2) := by decide +kernel
theorem dX5_wantDepth_9 : decode cX5_wantDepth 9 = .ok (.if_icmp .le 13, 3) := by decide +kernel
theorem dX5_wantDepth_12 : decode cX5_wantDepth 12 = .ok (.new 42, 3) := by decide +kernel
theorem dX5_wantDepth_15 : decode cX5_wantDepth 15 = .ok (.dup, 1) := by decide +kernel
theorem dX5_wantDepth_16 : decode cX5_wantDepth 16 = .ok (.ldc 237, 2) := by decide +kernel
theorem dX5_wantDepth_18 : decode cX5_wantDepth 18 = .ok (.invokespecial 46, 3) := by decide +kernel
theorem dX5_wantDepth_21 : decode cX5_wantDepth 21 = .ok (.athrow, 1) := by decide +kernel
theorem dX5_wantDepth_22 : decode cX5_wantDepth 22 = .ok (.return_, 1) := by decide +kernel
theorem dX5_beginRough_0 : decode cX5_beginRough 0 = .ok (.aload_n 0, 1) := by decide +kernel
theorem dX5_beginRough_1 : decode cX5_beginRough 1 = .ok (.getfield 10, 3) := by decide +kernel
theorem dX5_beginRough_4 : decode cX5_beginRough 4 = .ok (.iload_n 1, 1) := by decide +kernel
theorem dX5_beginRough_5 : decode cX5_beginRough 5 = .ok (.iload_n 2, 1) := by decide +kernel
theorem dX5_beginRough_6 : decode cX5_beginRough 6 = .ok (.iload_n 3, 1) := by decide +kernel
theorem dX5_beginRough_7 : decode cX5_beginRough 7 = .ok (.invokevirtual 239, 3) := by decide +kernel
theorem dX5_beginRough_10 : decode cX5_beginRough 10 = .ok (.aload_n 0, 1) := by decide +kernel
theorem dX5_beginRough_11 : decode cX5_beginRough 11 = .ok (.getfield 18, 3) := by decide +kernel
theorem dX5_beginRough_14 : decode cX5_beginRough 14 = .ok (.iconst 0, 1) := by decide +kernel
theorem dX5_beginRough_15 : decode cX5_beginRough 15 = .ok (.aaload, 1) := by decide +kernel
theorem dX5_beginRough_16 : decode cX5_beginRough 16 = .ok (.invokevirtual 110, 3) := by decide +kernel
theorem dX5_beginRough_19 : decode cX5_beginRough 19 = .ok (.aload_n 0, 1) := by decide +kernel
theorem dX5_beginRough_20 : decode cX5_beginRough 20 = .ok (.iconst 1, 1) := by decide +kernel
theorem dX5_beginRough_21 : decode cX5_beginRough 21 = .ok (.putfield 102, 3) := by decide +kernel
theorem dX5_beginRough_24 : decode cX5_beginRough 24 = .ok (.aload_n 0, 1) := by decide +kernel
theorem dX5_beginRough_25 : decode cX5_beginRough 25 = .ok (.sipush 400, 3) := by decide +kernel
theorem dX5_beginRough_28 : decode cX5_beginRough 28 = .ok (.putfield 122, 3) := by decide +kernel
theorem dX5_beginRough_31 : decode cX5_beginRough 31 = .ok (.aload_n 0, 1) := by decide +kernel
theorem dX5_beginRough_32 : decode cX5_beginRough 32 = .ok (.iconst 0, 1) := by decide +kernel
theorem dX5_beginRough_33 : decode cX5_beginRough 33 = .ok (.putfield 242, 3) := by decide +kernel
theorem dX5_beginRough_36 : decode cX5_beginRough 36 = .ok (.aload_n 0, 1) := by decide +kernel
theorem dX5_beginRough_37 : decode cX5_beginRough 37 = .ok (.invokevirtual 116, 3) := by decide +kernel
theorem dX5_beginRough_40 : decode cX5_beginRough 40 = .ok (.return_, 1) := by decide +kernel
theorem dX5_spend_0 : decode cX5_spend 0 = .ok (.aload_n 0, 1) := by decide +kernel
theorem dX5_spend_1 : decode cX5_spend 1 = .ok (.dup, 1) := by decide +kernel
theorem dX5_spend_2 : decode cX5_spend 2 = .ok (.getfield 122, 3) := by decide +kernel
theorem dX5_spend_5 : decode cX5_spend 5 = .ok (.iload_n 1, 1) := by decide +kernel
theorem dX5_spend_6 : decode cX5_spend 6 = .ok (.isub, 1) := by decide +kernel
theorem dX5_spend_7 : decode cX5_spend 7 = .ok (.putfield 122, 3) := by decide +kernel
theorem dX5_spend_10 : decode cX5_spend 10 = .ok (.aload_n 0, 1) := by decide +kernel
theorem dX5_spend_11 : decode cX5_spend 11 = .ok (.dup, 1) := by decide +kernel
theorem dX5_spend_12 : decode cX5_spend 12 = .ok (.getfield 242, 3) := by decide +kernel
theorem dX5_spend_15 : decode cX5_spend 15 = .ok (.iload_n 1, 1) := by decide +kernel
theorem dX5_spend_16 : decode cX5_spend 16 = .ok (.iadd, 1) := by decide +kernel
theorem dX5_spend_17 : decode cX5_spend 17 = .ok (.putfield 242, 3) := by decide +kernel
theorem dX5_spend_20 : decode cX5_spend 20 = .ok (.return_, 1) := by decide +kernel
theorem dX5_survey_0 : decode cX5_survey 0 = .ok (.iconst 0, 1) := by decide +kernel
theorem dX5_survey_1 : decode cX5_survey 1 = .ok (.istore_n 1, 1) := by decide +kernel
theorem dX5_survey_2 : decode cX5_survey 2 = .ok (.iload_n 1, 1) := by decide +kernel
theorem dX5_survey_3 : decode cX5_survey 3 = .ok (.aload_n 0, 1) := by decide +kernel
theorem dX5_survey_4 : decode cX5_survey 4 = .ok (.getfield 102, 3) := by decide +kernel
theorem dX5_survey_7 : decode cX5_survey 7 = .ok (.if_icmp .ge 18, 3) := by decide +kernel
theorem dX5_survey_10 : decode cX5_survey 10 = .ok (.aload_n 0, 1) := by decide +kernel
theorem dX5_survey_11 : decode cX5_survey 11 = .ok (.getfield 18, 3) := by decide +kernel
theorem dX5_survey_14 : decode cX5_survey 14 = .ok (.iload_n 1, 1) := by decide +kernel
theorem dX5_survey_15 : decode cX5_survey 15 = .ok (.aaload, 1) := by decide +kernel
theorem dX5_survey_16 : decode cX5_survey 16 = .ok (.invokevirtual 245, 3) := by decide +kernel
theorem dX5_survey_19 : decode cX5_survey 19 = .ok (.iinc 1 1, 3) := by decide +kernel
theorem dX5_survey_22 : decode cX5_survey 22 = .ok (.goto (-20), 3) := by decide +kernel
theorem dX5_survey_25 : decode cX5_survey 25 = .ok (.iconst 0, 1) := by decide +kernel
theorem dX5_survey_26 : decode cX5_survey 26 = .ok (.istore_n 1, 1) := by decide +kernel
theorem dX5_survey_27 : decode cX5_survey 27 = .ok (.iconst 0, 1) := by decide +kernel
theorem dX5_survey_28 : decode cX5_survey 28 = .ok (.istore_n 2, 1) := by decide +kernel
theorem dX5_survey_29 : decode cX5_survey 29 = .ok (.iload_n 2, 1) := by decide +kernel
theorem dX5_survey_30 : decode cX5_survey 30 = .ok (.aload_n 0, 1) := by decide +kernel
theorem dX5_survey_31 : decode cX5_survey 31 = .ok (.getfield 10, 3) := by decide +kernel
theorem dX5_survey_34 : decode cX5_survey 34 = .ok (.getfield 248, 3) := by decide +kernel
theorem dX5_survey_37 : decode cX5_survey 37 = .ok (.if_icmp .ge 61, 3) := by decide +kernel
theorem dX5_survey_40 : decode cX5_survey 40 = .ok (.iconst 0, 1) := by decide +kernel
theorem dX5_survey_41 : decode cX5_survey 41 = .ok (.istore_n 3, 1) := by decide +kernel
theorem dX5_survey_42 : decode cX5_survey 42 = .ok (.iload_n 3, 1) := by decide +kernel
theorem dX5_survey_43 : decode cX5_survey 43 = .ok (.aload_n 0, 1) := by decide +kernel
theorem dX5_survey_44 : decode cX5_survey 44 = .ok (.getfield 10, 3) := by decide +kernel
theorem dX5_survey_47 : decode cX5_survey 47 = .ok (.getfield 251, 3) := by decide +kernel
theorem dX5_survey_50 : decode cX5_survey 50 = .ok (.if_icmp .ge 42, 3) := by decide +kernel
theorem dX5_survey_53 : decode cX5_survey 53 = .ok (.iconst 0, 1) := by decide +kernel
theorem dX5_survey_54 : decode cX5_survey 54 = .ok (.istore 4, 2) := by decide +kernel
theorem dX5_survey_56 : decode cX5_survey 56 = .ok (.iload 4, 2) := by decide +kernel
theorem dX5_survey_58 : decode cX5_survey 58 = .ok (.aload_n 0, 1) := by decide +kernel
theorem dX5_survey_59 : decode cX5_survey 59 = .ok (.getfield 10, 3) := by decide +kernel
theorem dX5_survey_62 : decode cX5_survey 62 = .ok (.getfield 254, 3) := by decide +kernel
theorem dX5_survey_65 : decode cX5_survey 65 = .ok (.if_icmp .ge 21, 3) := by decide +kernel
theorem dX5_survey_68 : decode cX5_survey 68 = .ok (.aload_n 0, 1) := by decide +kernel
theorem dX5_survey_69 : decode cX5_survey 69 = .ok (.iload_n 1, 1) := by decide +kernel
theorem dX5_survey_70 : decode cX5_survey 70 = .ok (.iload 4, 2) := by decide +kernel
theorem dX5_survey_72 : decode cX5_survey 72 = .ok (.iload_n 3, 1) := by decide +kernel
theorem dX5_survey_73 : decode cX5_survey 73 = .ok (.iload_n 2, 1) := by decide +kernel
theorem dX5_survey_74 : decode cX5_survey 74 = .ok (.invokevirtual 257, 3) := by decide +kernel
theorem dX5_survey_77 : decode cX5_survey 77 = .ok (.iinc 1 1, 3) := by decide +kernel
theorem dX5_survey_80 : decode cX5_survey 80 = .ok (.iinc 4 1, 3) := by decide +kernel
theorem dX5_survey_83 : decode cX5_survey 83 = .ok (.goto (-27), 3) := by decide +kernel
theorem dX5_survey_86 : decode cX5_survey 86 = .ok (.iinc 3 1, 3) := by decide +kernel
theorem dX5_survey_89 : decode cX5_survey 89 = .ok (.goto (-47), 3) := by decide +kernel
theorem dX5_survey_92 : decode cX5_survey 92 = .ok (.iinc 2 1, 3) := by decide +kernel
theorem dX5_survey_95 : decode cX5_survey 95 = .ok (.goto (-66), 3) := by decide +kernel
theorem dX5_survey_98 : decode cX5_survey 98 = .ok (.iconst 0, 1) := by decide +kernel
theorem dX5_survey_99 : decode cX5_survey 99 = .ok (.istore_n 2, 1) := by decide +kernel
theorem dX5_survey_100 : decode cX5_survey 100 = .ok (.iload_n 2, 1) := by decide +kernel
theorem dX5_survey_101 : decode cX5_survey 101 = .ok (.aload_n 0, 1) := by decide +kernel
theorem dX5_survey_102 : decode cX5_survey 102 = .ok (.getfield 10, 3) := by decide +kernel
theorem dX5_survey_105 : decode cX5_survey 105 = .ok (.getfield 58, 3) := by decide +kernel
theorem dX5_survey_108 : decode cX5_survey 108 = .ok (.if_icmp .ge 25, 3) := by decide +kernel
theorem dX5_survey_111 : decode cX5_survey 111 = .ok (.aload_n 0, 1) := by decide +kernel
theorem dX5_survey_112 : decode cX5_survey 112 = .ok (.getfield 10, 3) := by decide +kernel
theorem dX5_survey_115 : decode cX5_survey 115 = .ok (.getfield 187, 3) := by decide +kernel
theorem dX5_survey_118 : decode cX5_survey 118 = .ok (.iload_n 2, 1) := by decide +kernel
theorem dX5_survey_119 : decode cX5_survey 119 = .ok (.aaload, 1) := by decide +kernel
theorem dX5_survey_120 : decode cX5_survey 120 = .ok (.aload_n 0, 1) := by decide +kernel
theorem dX5_survey_121 : decode cX5_survey 121 = .ok (.getfield 10, 3) := by decide +kernel
theorem dX5_survey_124 : decode cX5_survey 124 = .ok (.invokevirtual 260, 3) := by decide +kernel
theorem dX5_survey_127 : decode cX5_survey 127 = .ok (.iinc 2 1, 3) := by decide +kernel
theorem dX5_survey_130 : decode cX5_survey 130 = .ok (.goto (-30), 3) := by decide +kernel
theorem dX5_survey_133 : decode cX5_survey 133 = .ok (.return_, 1) := by decide +kernel
theorem dX5_surveyCell_0 : decode cX5_surveyCell 0 = .ok (.aload_n 0, 1) := by decide +kernel
theorem dX5_surveyCell_1 : decode cX5_surveyCell 1 = .ok (.getfield 10, 3) := by decide +kernel
theorem dX5_surveyCell_4 : decode cX5_surveyCell 4 = .ok (.getfield 207, 3) := by decide +kernel
theorem dX5_surveyCell_7 : decode cX5_surveyCell 7 = .ok (.iload_n 1, 1) := by decide +kernel
theorem dX5_surveyCell_8 : decode cX5_surveyCell 8 = .ok (.iaload, 1) := by decide +kernel
theorem dX5_surveyCell_9 : decode cX5_surveyCell 9 = .ok (.istore 5, 2) := by decide +kernel
theorem dX5_surveyCell_11 : decode cX5_surveyCell 11 = .ok (.iload 5, 2) := by decide +kernel
theorem dX5_surveyCell_13 : decode cX5_surveyCell 13 = .ok (.ifCond .lt 12, 3) := by decide +kernel
theorem dX5_surveyCell_16 : decode cX5_surveyCell 16 = .ok (.iload 5, 2) := by decide +kernel
theorem dX5_surveyCell_18 : decode cX5_surveyCell 18 = .ok (.aload_n 0, 1) := by decide +kernel
theorem dX5_surveyCell_19 : decode cX5_surveyCell 19 = .ok (.getfield 102, 3) := by decide +kernel
theorem dX5_surveyCell_22 : decode cX5_surveyCell 22 = .ok (.if_icmp .lt 4, 3) := by decide +kernel
theorem dX5_surveyCell_25 : decode cX5_surveyCell 25 = .ok (.return_, 1) := by decide +kernel
theorem dX5_surveyCell_26 : decode cX5_surveyCell 26 = .ok (.aload_n 0, 1) := by decide +kernel
theorem dX5_surveyCell_27 : decode cX5_surveyCell 27 = .ok (.getfield 10, 3) := by decide +kernel
theorem dX5_surveyCell_30 : decode cX5_surveyCell 30 = .ok (.iload 5, 2) := by decide +kernel
theorem dX5_surveyCell_32 : decode cX5_surveyCell 32 = .ok (.iload_n 2, 1) := by decide +kernel
theorem dX5_surveyCell_33 : decode cX5_surveyCell 33 = .ok (.iload_n 3, 1) := by decide +kernel
theorem dX5_surveyCell_34 : decode cX5_surveyCell 34 = .ok (.iload 4, 2) := by decide +kernel
theorem dX5_surveyCell_36 : decode cX5_surveyCell 36 = .ok (.invokevirtual 263, 3) := by decide +kernel
theorem dX5_surveyCell_39 : decode cX5_surveyCell 39 = .ok (.istore 6, 2) := by decide +kernel
theorem dX5_surveyCell_41 : decode cX5_surveyCell 41 = .ok (.aload_n 0, 1) := by decide +kernel
theorem dX5_surveyCell_42 : decode cX5_surveyCell 42 = .ok (.getfield 10, 3) := by decide +kernel
theorem dX5_surveyCell_45 : decode cX5_surveyCell 45 = .ok (.getfield 267, 3) := by decide +kernel
theorem dX5_surveyCell_48 : decode cX5_surveyCell 48 = .ok (.iload_n 1, 1) := by decide +kernel
theorem dX5_surveyCell_49 : decode cX5_surveyCell 49 = .ok (.iload 6, 2) := by decide +kernel
theorem dX5_surveyCell_51 : decode cX5_surveyCell 51 = .ok (.bastore, 1) := by decide +kernel
theorem dX5_surveyCell_52 : decode cX5_surveyCell 52 = .ok (.aload_n 0, 1) := by decide +kernel
theorem dX5_surveyCell_53 : decode cX5_surveyCell 53 = .ok (.getfield 18, 3) := by decide +kernel
theorem dX5_surveyCell_56 : decode cX5_surveyCell 56 = .ok (.iload 5, 2) := by decide +kernel
theorem dX5_surveyCell_58 : decode cX5_surveyCell 58 = .ok (.aaload, 1) := by decide +kernel
theorem dX5_surveyCell_59 : decode cX5_surveyCell 59 = .ok (.iload_n 2, 1) := by decide +kernel
theorem dX5_surveyCell_60 : decode cX5_surveyCell 60 = .ok (.iload_n 3, 1) := by decide +kernel
theorem dX5_surveyCell_61 : decode cX5_surveyCell 61 = .ok (.iload 4, 2) := by decide +kernel
theorem dX5_surveyCell_63 : decode cX5_surveyCell 63 = .ok (.iload 6, 2) := by decide +kernel
theorem dX5_surveyCell_65 : decode cX5_surveyCell 65 = .ok (.invokevirtual 271, 3) := by decide +kernel
theorem dX5_surveyCell_68 : decode cX5_surveyCell 68 = .ok (.return_, 1) := by decide +kernel
theorem dX5_tellOfFlaw_0 : decode cX5_tellOfFlaw 0 = .ok (.aload_n 0, 1) := by decide +kernel
theorem dX5_tellOfFlaw_1 : decode cX5_tellOfFlaw 1 = .ok (.getfield 10, 3) := by decide +kernel
theorem dX5_tellOfFlaw_4 : decode cX5_tellOfFlaw 4 = .ok (.getfield 187, 3) := by decide +kernel
theorem dX5_tellOfFlaw_7 : decode cX5_tellOfFlaw 7 = .ok (.iload_n 1, 1) := by decide +kernel
theorem dX5_tellOfFlaw_8 : decode cX5_tellOfFlaw 8 = .ok (.aaload, 1) := by decide +kernel
theorem dX5_tellOfFlaw_9 : decode cX5_tellOfFlaw 9 = .ok (.astore 4, 2) := by decide +kernel
theorem dX5_tellOfFlaw_11 : decode cX5_tellOfFlaw 11 = .ok (.iload_n 3, 1) := by decide +kernel
theorem dX5_tellOfFlaw_12 : decode cX5_tellOfFlaw 12 = .ok (.lookupswitch 44 #[(0, 28), (1, 36)], 28) := by decide +kernel
theorem dX5_tellOfFlaw_40 : decode cX5_tellOfFlaw 40 = .ok (.aload 4, 2) := by decide +kernel
theorem dX5_tellOfFlaw_42 : decode cX5_tellOfFlaw 42 = .ok (.getfield 275, 3) := by decide +kernel
theorem dX5_tellOfFlaw_45 : decode cX5_tellOfFlaw 45 = .ok (.iload_n 2, 1) := by decide +kernel
theorem dX5_tellOfFlaw_46 : decode cX5_tellOfFlaw 46 = .ok (.iaload, 1) := by decide +kernel
theorem dX5_tellOfFlaw_47 : decode cX5_tellOfFlaw 47 = .ok (.ireturn, 1) := by decide +kernel
theorem dX5_tellOfFlaw_48 : decode cX5_tellOfFlaw 48 = .ok (.aload 4, 2) := by decide +kernel
theorem dX5_tellOfFlaw_50 : decode cX5_tellOfFlaw 50 = .ok (.getfield 278, 3) := by decide +kernel
theorem dX5_tellOfFlaw_53 : decode cX5_tellOfFlaw 53 = .ok (.iload_n 2, 1) := by decide +kernel
theorem dX5_tellOfFlaw_54 : decode cX5_tellOfFlaw 54 = .ok (.iaload, 1) := by decide +kernel
theorem dX5_tellOfFlaw_55 : decode cX5_tellOfFlaw 55 = .ok (.ireturn, 1) := by decide +kernel
theorem dX5_tellOfFlaw_56 : decode cX5_tellOfFlaw 56 = .ok (.aload 4, 2) := by decide +kernel
theorem dX5_tellOfFlaw_58 : decode cX5_tellOfFlaw 58 = .ok (.iload_n 2, 1) := by decide +kernel
theorem dX5_tellOfFlaw_59 : decode cX5_tellOfFlaw 59 = .ok (.invokevirtual 191, 3) := by decide +kernel
theorem dX5_tellOfFlaw_62 : decode cX5_tellOfFlaw 62 = .ok (.ireturn, 1) := by decide +kernel
theorem dX5_tellOfStone_0 : decode cX5_tellOfStone 0 = .ok (.iload_n 2, 1) := by decide +kernel
theorem dX5_tellOfStone_1 : decode cX5_tellOfStone 1 = .ok (.tableswitch 100 0 7 #[47, 52, 57, 63, 69, 74, 84, 94], 47) := by decide +kernel
theorem dX5_tellOfStone_48 : decode cX5_tellOfStone 48 = .ok (.aload_n 1, 1) := by decide +kernel
theorem dX5_tellOfStone_49 : decode cX5_tellOfStone 49 = .ok (.getfield 105, 3) := by decide +kernel
theorem dX5_tellOfStone_52 : decode cX5_tellOfStone 52 = .ok (.ireturn, 1) := by decide +kernel
theorem dX5_tellOfStone_53 : decode cX5_tellOfStone 53 = .ok (.aload_n 1, 1) := by decide +kernel
theorem dX5_tellOfStone_54 : decode cX5_tellOfStone 54 = .ok (.getfield 119, 3) := by decide +kernel
theorem dX5_tellOfStone_57 : decode cX5_tellOfStone 57 = .ok (.ireturn, 1) := by decide +kernel
theorem dX5_tellOfStone_58 : decode cX5_tellOfStone 58 = .ok (.aload_n 1, 1) := by decide +kernel
theorem dX5_tellOfStone_59 : decode cX5_tellOfStone 59 = .ok (.iconst 0, 1) := by decide +kernel
theorem dX5_tellOfStone_60 : decode cX5_tellOfStone 60 = .ok (.invokevirtual 281, 3) := by decide +kernel
theorem dX5_tellOfStone_63 : decode cX5_tellOfStone 63 = .ok (.ireturn, 1) := by decide +kernel
theorem dX5_tellOfStone_64 : decode cX5_tellOfStone 64 = .ok (.aload_n 1, 1) := by decide +kernel
theorem dX5_tellOfStone_65 : decode cX5_tellOfStone 65 = .ok (.iconst 1, 1) := by decide +kernel
theorem dX5_tellOfStone_66 : decode cX5_tellOfStone 66 = .ok (.invokevirtual 281, 3) := by decide +kernel
theorem dX5_tellOfStone_69 : decode cX5_tellOfStone 69 = .ok (.ireturn, 1) := by decide +kernel
theorem dX5_tellOfStone_70 : decode cX5_tellOfStone 70 = .ok (.aload_n 1, 1) := by decide +kernel
theorem dX5_tellOfStone_71 : decode cX5_tellOfStone 71 = .ok (.invokevirtual 285, 3) := by decide +kernel
theorem dX5_tellOfStone_74 : decode cX5_tellOfStone 74 = .ok (.ireturn, 1) := by decide +kernel
theorem dX5_tellOfStone_75 : decode cX5_tellOfStone 75 = .ok (.aload_n 0, 1) := by decide +kernel
theorem dX5_tellOfStone_76 : decode cX5_tellOfStone 76 = .ok (.aload_n 1, 1) := by decide +kernel
theorem dX5_tellOfStone_77 : decode cX5_tellOfStone 77 = .ok (.getfield 288, 3) := by decide +kernel
theorem dX5_tellOfStone_80 : decode cX5_tellOfStone 80 = .ok (.iconst 1, 1) := by decide +kernel
theorem dX5_tellOfStone_81 : decode cX5_tellOfStone 81 = .ok (.invokevirtual 291, 3) := by decide +kernel
theorem dX5_tellOfStone_84 : decode cX5_tellOfStone 84 = .ok (.ireturn, 1) := by decide +kernel
theorem dX5_tellOfStone_85 : decode cX5_tellOfStone 85 = .ok (.aload_n 0, 1) := by decide +kernel
theorem dX5_tellOfStone_86 : decode cX5_tellOfStone 86 = .ok (.aload_n 1, 1) := by decide +kernel
theorem dX5_tellOfStone_87 : decode cX5_tellOfStone 87 = .ok (.getfield 288, 3) := by decide +kernel
theorem dX5_tellOfStone_90 : decode cX5_tellOfStone 90 = .ok (.iconst 0, 1) := by decide +kernel
theorem dX5_tellOfStone_91 : decode cX5_tellOfStone 91 = .ok (.invokevirtual 291, 3) := by decide +kernel
theorem dX5_tellOfStone_94 : decode cX5_tellOfStone 94 = .ok (.ireturn, 1) := by decide +kernel
theorem dX5_tellOfStone_95 : decode cX5_tellOfStone 95 = .ok (.aload_n 0, 1) := by decide +kernel
theorem dX5_tellOfStone_96 : decode cX5_tellOfStone 96 = .ok (.aload_n 1, 1) := by decide +kernel
theorem dX5_tellOfStone_97 : decode cX5_tellOfStone 97 = .ok (.invokevirtual 295, 3) := by decide +kernel
theorem dX5_tellOfStone_100 : decode cX5_tellOfStone 100 = .ok (.ireturn, 1) := by decide +kernel
theorem dX5_tellOfStone_101 : decode cX5_tellOfStone 101 = .ok (.aload_n 1, 1) := by decide +kernel
theorem dX5_tellOfStone_102 : decode cX5_tellOfStone 102 = .ok (.getfield 299, 3) := by decide +kernel
theorem dX5_tellOfStone_105 : decode cX5_tellOfStone 105 = .ok (.ireturn, 1) := by decide +kernel
theorem dX5_tellCount_0 : decode cX5_tellCount 0 = .ok (.iload_n 1, 1) := by decide +kernel
theorem dX5_tellCount_1 : decode cX5_tellCount 1 = .ok (.tableswitch 84 0 6 #[43, 51, 56, 61, 66, 74, 79], 43) := by decide +kernel
theorem dX5_tellCount_44 : decode cX5_tellCount 44 = .ok (.aload_n 0, 1) := by decide +kernel
theorem dX5_tellCount_45 : decode cX5_tellCount 45 = .ok (.getfield 10, 3) := by decide +kernel
theorem dX5_tellCount_48 : decode cX5_tellCount 48 = .ok (.invokevirtual 49, 3) := by decide +kernel
theorem dX5_tellCount_51 : decode cX5_tellCount 51 = .ok (.ireturn, 1) := by decide +kernel
theorem dX5_tellCount_52 : decode cX5_tellCount 52 = .ok (.aload_n 0, 1) := by decide +kernel
theorem dX5_tellCount_53 : decode cX5_tellCount 53 = .ok (.invokevirtual 200, 3) := by decide +kernel
theorem dX5_tellCount_56 : decode cX5_tellCount 56 = .ok (.ireturn, 1) := by decide +kernel
theorem dX5_tellCount_57 : decode cX5_tellCount 57 = .ok (.aload_n 0, 1) := by decide +kernel
theorem dX5_tellCount_58 : decode cX5_tellCount 58 = .ok (.getfield 102, 3) := by decide +kernel
theorem dX5_tellCount_61 : decode cX5_tellCount 61 = .ok (.ireturn, 1) := by decide +kernel
theorem dX5_tellCount_62 : decode cX5_tellCount 62 = .ok (.aload_n 0, 1) := by decide +kernel
theorem dX5_tellCount_63 : decode cX5_tellCount 63 = .ok (.invokevirtual 302, 3) := by decide +kernel
theorem dX5_tellCount_66 : decode cX5_tellCount 66 = .ok (.ireturn, 1) := by decide +kernel
theorem dX5_tellCount_67 : decode cX5_tellCount 67 = .ok (.aload_n 0, 1) := by decide +kernel
theorem dX5_tellCount_68 : decode cX5_tellCount 68 = .ok (.getfield 10, 3) := by decide +kernel
theorem dX5_tellCount_71 : decode cX5_tellCount 71 = .ok (.getfield 58, 3) := by decide +kernel
theorem dX5_tellCount_74 : decode cX5_tellCount 74 = .ok (.ireturn, 1) := by decide +kernel
theorem dX5_tellCount_75 : decode cX5_tellCount 75 = .ok (.aload_n 0, 1) := by decide +kernel
theorem dX5_tellCount_76 : decode cX5_tellCount 76 = .ok (.getfield 122, 3) := by decide +kernel
theorem dX5_tellCount_79 : decode cX5_tellCount 79 = .ok (.ireturn, 1) := by decide +kernel
theorem dX5_tellCount_80 : decode cX5_tellCount 80 = .ok (.aload_n 0, 1) := by decide +kernel
theorem dX5_tellCount_81 : decode cX5_tellCount 81 = .ok (.invokevirtual 305, 3) := by decide +kernel
theorem dX5_tellCount_84 : decode cX5_tellCount 84 = .ok (.ireturn, 1) := by decide +kernel
theorem dX5_tellCount_85 : decode cX5_tellCount 85 = .ok (.aload_n 0, 1) := by decide +kernel
theorem dX5_tellCount_86 : decode cX5_tellCount 86 = .ok (.getfield 242, 3) := by decide +kernel
theorem dX5_tellCount_89 : decode cX5_tellCount 89 = .ok (.ireturn, 1) := by decide +kernel
theorem dX5_flawsOfState_0 : decode cX5_flawsOfState 0 = .ok (.iconst 0, 1) := by decide +kernel
theorem dX5_flawsOfState_1 : decode cX5_flawsOfState 1 = .ok (.istore_n 3, 1) := by decide +kernel
theorem dX5_flawsOfState_2 : decode cX5_flawsOfState 2 = .ok (.iconst 0, 1) := by decide +kernel
theorem dX5_flawsOfState_3 : decode cX5_flawsOfState 3 = .ok (.istore 4, 2) := by decide +kernel
theorem dX5_flawsOfState_5 : decode cX5_flawsOfState 5 = .ok (.iload 4, 2) := by decide +kernel
theorem dX5_flawsOfState_7 : decode cX5_flawsOfState 7 = .ok (.aload_n 0, 1) := by decide +kernel
theorem dX5_flawsOfState_8 : decode cX5_flawsOfState 8 = .ok (.getfield 10, 3) := by decide +kernel
theorem dX5_flawsOfState_11 : decode cX5_flawsOfState 11 = .ok (.getfield 58, 3) := by decide +kernel
theorem dX5_flawsOfState_14 : decode cX5_flawsOfState 14 = .ok (.if_icmp .ge 30, 3) := by decide +kernel
theorem dX5_flawsOfState_17 : decode cX5_flawsOfState 17 = .ok (.aload_n 0, 1) := by decide +kernel
theorem dX5_flawsOfState_18 : decode cX5_flawsOfState 18 = .ok (.getfield 10, 3) := by decide +kernel
theorem dX5_flawsOfState_21 : decode cX5_flawsOfState 21 = .ok (.getfield 187, 3) := by decide +kernel
theorem dX5_flawsOfState_24 : decode cX5_flawsOfState 24 = .ok (.iload 4, 2) := by decide +kernel
theorem dX5_flawsOfState_26 : decode cX5_flawsOfState 26 = .ok (.aaload, 1) := by decide +kernel
theorem dX5_flawsOfState_27 : decode cX5_flawsOfState 27 = .ok (.iload_n 1, 1) := by decide +kernel
theorem dX5_flawsOfState_28 : decode cX5_flawsOfState 28 = .ok (.invokevirtual 191, 3) := by decide +kernel
theorem dX5_flawsOfState_31 : decode cX5_flawsOfState 31 = .ok (.iload_n 2, 1) := by decide +kernel
theorem dX5_flawsOfState_32 : decode cX5_flawsOfState 32 = .ok (.if_icmp .ne 6, 3) := by decide +kernel
theorem dX5_flawsOfState_35 : decode cX5_flawsOfState 35 = .ok (.iinc 3 1, 3) := by decide +kernel
theorem dX5_flawsOfState_38 : decode cX5_flawsOfState 38 = .ok (.iinc 4 1, 3) := by decide +kernel
theorem dX5_flawsOfState_41 : decode cX5_flawsOfState 41 = .ok (.goto (-36), 3) := by decide +kernel
theorem dX5_flawsOfState_44 : decode cX5_flawsOfState 44 = .ok (.iload_n 3, 1) := by decide +kernel
theorem dX5_flawsOfState_45 : decode cX5_flawsOfState 45 = .ok (.ireturn, 1) := by decide +kernel
theorem dX5_worthOf_0 : decode cX5_worthOf 0 = .ok (.iconst 0, 1) := by decide +kernel
theorem dX5_worthOf_1 : decode cX5_worthOf 1 = .ok (.istore_n 2, 1) := by decide +kernel
theorem dX5_worthOf_2 : decode cX5_worthOf 2 = .ok (.iconst 0, 1) := by decide +kernel
theorem dX5_worthOf_3 : decode cX5_worthOf 3 = .ok (.istore_n 3, 1) := by decide +kernel
theorem dX5_worthOf_4 : decode cX5_worthOf 4 = .ok (.iload_n 3, 1) := by decide +kernel
theorem dX5_worthOf_5 : decode cX5_worthOf 5 = .ok (.aload_n 0, 1) := by decide +kernel
theorem dX5_worthOf_6 : decode cX5_worthOf 6 = .ok (.getfield 10, 3) := by decide +kernel
theorem dX5_worthOf_9 : decode cX5_worthOf 9 = .ok (.getfield 58, 3) := by decide +kernel
theorem dX5_worthOf_12 : decode cX5_worthOf 12 = .ok (.if_icmp .ge 37, 3) := by decide +kernel
theorem dX5_worthOf_15 : decode cX5_worthOf 15 = .ok (.aload_n 0, 1) := by decide +kernel
theorem dX5_worthOf_16 : decode cX5_worthOf 16 = .ok (.getfield 10, 3) := by decide +kernel
theorem dX5_worthOf_19 : decode cX5_worthOf 19 = .ok (.getfield 187, 3) := by decide +kernel
theorem dX5_worthOf_22 : decode cX5_worthOf 22 = .ok (.iload_n 3, 1) := by decide +kernel
theorem dX5_worthOf_23 : decode cX5_worthOf 23 = .ok (.aaload, 1) := by decide +kernel
theorem dX5_worthOf_24 : decode cX5_worthOf 24 = .ok (.astore 4, 2) := by decide +kernel
theorem dX5_worthOf_26 : decode cX5_worthOf 26 = .ok (.iload_n 2, 1) := by decide +kernel
theorem dX5_worthOf_27 : decode cX5_worthOf 27 = .ok (.aload 4, 2) := by decide +kernel
theorem dX5_worthOf_29 : decode cX5_worthOf 29 = .ok (.aload 4, 2) := by decide +kernel
theorem dX5_worthOf_31 : decode cX5_worthOf 31 = .ok (.aload_n 1, 1) := by decide +kernel
theorem dX5_worthOf_32 : decode cX5_worthOf 32 = .ok (.getfield 288, 3) := by decide +kernel
theorem dX5_worthOf_35 : decode cX5_worthOf 35 = .ok (.invokevirtual 191, 3) := by decide +kernel
theorem dX5_worthOf_38 : decode cX5_worthOf 38 = .ok (.invokevirtual 308, 3) := by decide +kernel
theorem dX5_worthOf_41 : decode cX5_worthOf 41 = .ok (.iadd, 1) := by decide +kernel
theorem dX5_worthOf_42 : decode cX5_worthOf 42 = .ok (.istore_n 2, 1) := by decide +kernel
theorem dX5_worthOf_43 : decode cX5_worthOf 43 = .ok (.iinc 3 1, 3) := by decide +kernel
theorem dX5_worthOf_46 : decode cX5_worthOf 46 = .ok (.goto (-42), 3) := by decide +kernel
theorem dX5_worthOf_49 : decode cX5_worthOf 49 = .ok (.aload_n 1, 1) := by decide +kernel
theorem dX5_worthOf_50 : decode cX5_worthOf 50 = .ok (.getfield 105, 3) := by decide +kernel
theorem dX5_worthOf_53 : decode cX5_worthOf 53 = .ok (.iload_n 2, 1) := by decide +kernel
theorem dX5_worthOf_54 : decode cX5_worthOf 54 = .ok (.aload_n 1, 1) := by decide +kernel
theorem dX5_worthOf_55 : decode cX5_worthOf 55 = .ok (.iconst 1, 1) := by decide +kernel
theorem dX5_worthOf_56 : decode cX5_worthOf 56 = .ok (.invokevirtual 281, 3) := by decide +kernel
theorem dX5_worthOf_59 : decode cX5_worthOf 59 = .ok (.aload_n 1, 1) := by decide +kernel
theorem dX5_worthOf_60 : decode cX5_worthOf 60 = .ok (.invokevirtual 285, 3) := by decide +kernel
theorem dX5_worthOf_63 : decode cX5_worthOf 63 = .ok (.invokestatic 311, 3) := by decide +kernel
theorem dX5_worthOf_66 : decode cX5_worthOf 66 = .ok (.ireturn, 1) := by decide +kernel
theorem dX5_worthBy_0 : decode cX5_worthBy 0 = .ok (.iload_n 0, 1) := by decide +kernel
theorem dX5_worthBy_1 : decode cX5_worthBy 1 = .ok (.ifCond .ne 5, 3) := by decide +kernel
theorem dX5_worthBy_4 : decode cX5_worthBy 4 = .ok (.iconst 0, 1) := by decide +kernel
theorem dX5_worthBy_5 : decode cX5_worthBy 5 = .ok (.ireturn, 1) := by decide +kernel
theorem dX5_worthBy_6 : decode cX5_worthBy 6 = .ok (.bipush 10, 2) := by decide +kernel
theorem dX5_worthBy_8 : decode cX5_worthBy 8 = .ok (.bipush 100, 2) := by decide +kernel
theorem dX5_worthBy_10 : decode cX5_worthBy 10 = .ok (.iload_n 1, 1) := by decide +kernel
theorem dX5_worthBy_11 : decode cX5_worthBy 11 = .ok (.isub, 1) := by decide +kernel
theorem dX5_worthBy_12 : decode cX5_worthBy 12 = .ok (.invokestatic 315, 3) := by decide +kernel
theorem dX5_worthBy_15 : decode cX5_worthBy 15 = .ok (.istore 4, 2) := by decide +kernel
theorem dX5_worthBy_17 : decode cX5_worthBy 17 = .ok (.iload_n 0, 1) := by decide +kernel
theorem dX5_worthBy_18 : decode cX5_worthBy 18 = .ok (.iload_n 0, 1) := by decide +kernel
theorem dX5_worthBy_19 : decode cX5_worthBy 19 = .ok (.imul, 1) := by decide +kernel
theorem dX5_worthBy_20 : decode cX5_worthBy 20 = .ok (.bipush 10, 2) := by decide +kernel
theorem dX5_worthBy_22 : decode cX5_worthBy 22 = .ok (.idiv, 1) := by decide +kernel
theorem dX5_worthBy_23 : decode cX5_worthBy 23 = .ok (.bipush 10, 2) := by decide +kernel
theorem dX5_worthBy_25 : decode cX5_worthBy 25 = .ok (.iload_n 0, 1) := by decide +kernel
theorem dX5_worthBy_26 : decode cX5_worthBy 26 = .ok (.imul, 1) := by decide +kernel
theorem dX5_worthBy_27 : decode cX5_worthBy 27 = .ok (.iadd, 1) := by decide +kernel
theorem dX5_worthBy_28 : decode cX5_worthBy 28 = .ok (.istore 5, 2) := by decide +kernel
theorem dX5_worthBy_30 : decode cX5_worthBy 30 = .ok (.iload 5, 2) := by decide +kernel
theorem dX5_worthBy_32 : decode cX5_worthBy 32 = .ok (.iload 4, 2) := by decide +kernel
theorem dX5_worthBy_34 : decode cX5_worthBy 34 = .ok (.imul, 1) := by decide +kernel
theorem dX5_worthBy_35 : decode cX5_worthBy 35 = .ok (.bipush 100, 2) := by decide +kernel
theorem dX5_worthBy_37 : decode cX5_worthBy 37 = .ok (.idiv, 1) := by decide +kernel
theorem dX5_worthBy_38 : decode cX5_worthBy 38 = .ok (.bipush 25, 2) := by decide +kernel
theorem dX5_worthBy_40 : decode cX5_worthBy 40 = .ok (.iload_n 2, 1) := by decide +kernel
theorem dX5_worthBy_41 : decode cX5_worthBy 41 = .ok (.imul, 1) := by decide +kernel
theorem dX5_worthBy_42 : decode cX5_worthBy 42 = .ok (.iadd, 1) := by decide +kernel
theorem dX5_worthBy_43 : decode cX5_worthBy 43 = .ok (.bipush 40, 2) := by decide +kernel
theorem dX5_worthBy_45 : decode cX5_worthBy 45 = .ok (.iload_n 3, 1) := by decide +kernel
theorem dX5_worthBy_46 : decode cX5_worthBy 46 = .ok (.imul, 1) := by decide +kernel
theorem dX5_worthBy_47 : decode cX5_worthBy 47 = .ok (.iadd, 1) := by decide +kernel
theorem dX5_worthBy_48 : decode cX5_worthBy 48 = .ok (.ireturn, 1) := by decide +kernel
theorem dX5_cellsOfStones_0 : decode cX5_cellsOfStones 0 = .ok (.iconst 0, 1) := by decide +kernel
theorem dX5_cellsOfStones_1 : decode cX5_cellsOfStones 1 = .ok (.istore_n 1, 1) := by decide +kernel
theorem dX5_cellsOfStones_2 : decode cX5_cellsOfStones 2 = .ok (.iconst 0, 1) := by decide +kernel
theorem dX5_cellsOfStones_3 : decode cX5_cellsOfStones 3 = .ok (.istore_n 2, 1) := by decide +kernel
theorem dX5_cellsOfStones_4 : decode cX5_cellsOfStones 4 = .ok (.iload_n 2, 1) := by decide +kernel
theorem dX5_cellsOfStones_5 : decode cX5_cellsOfStones 5 = .ok (.aload_n 0, 1) := by decide +kernel
theorem dX5_cellsOfStones_6 : decode cX5_cellsOfStones 6 = .ok (.getfield 102, 3) := by decide +kernel
theorem dX5_cellsOfStones_9 : decode cX5_cellsOfStones 9 = .ok (.if_icmp .ge 21, 3) := by decide +kernel
theorem dX5_cellsOfStones_12 : decode cX5_cellsOfStones 12 = .ok (.iload_n 1, 1) := by decide +kernel
theorem dX5_cellsOfStones_13 : decode cX5_cellsOfStones 13 = .ok (.aload_n 0, 1) := by decide +kernel
theorem dX5_cellsOfStones_14 : decode cX5_cellsOfStones 14 = .ok (.getfield 18, 3) := by decide +kernel
theorem dX5_cellsOfStones_17 : decode cX5_cellsOfStones 17 = .ok (.iload_n 2, 1) := by decide +kernel
theorem dX5_cellsOfStones_18 : decode cX5_cellsOfStones 18 = .ok (.aaload, 1) := by decide +kernel
theorem dX5_cellsOfStones_19 : decode cX5_cellsOfStones 19 = .ok (.getfield 105, 3) := by decide +kernel
theorem dX5_cellsOfStones_22 : decode cX5_cellsOfStones 22 = .ok (.iadd, 1) := by decide +kernel
theorem dX5_cellsOfStones_23 : decode cX5_cellsOfStones 23 = .ok (.istore_n 1, 1) := by decide +kernel
theorem dX5_cellsOfStones_24 : decode cX5_cellsOfStones 24 = .ok (.iinc 2 1, 3) := by decide +kernel
theorem dX5_cellsOfStones_27 : decode cX5_cellsOfStones 27 = .ok (.goto (-23), 3) := by decide +kernel
theorem dX5_cellsOfStones_30 : decode cX5_cellsOfStones 30 = .ok (.iload_n 1, 1) := by decide +kernel
theorem dX5_cellsOfStones_31 : decode cX5_cellsOfStones 31 = .ok (.ireturn, 1) := by decide +kernel
theorem dX5_stonesLeft_0 : decode cX5_stonesLeft 0 = .ok (.iconst 0, 1) := by decide +kernel
theorem dX5_stonesLeft_1 : decode cX5_stonesLeft 1 = .ok (.istore_n 1, 1) := by decide +kernel
theorem dX5_stonesLeft_2 : decode cX5_stonesLeft 2 = .ok (.iconst 0, 1) := by decide +kernel
theorem dX5_stonesLeft_3 : decode cX5_stonesLeft 3 = .ok (.istore_n 2, 1) := by decide +kernel
theorem dX5_stonesLeft_4 : decode cX5_stonesLeft 4 = .ok (.iload_n 2, 1) := by decide +kernel
theorem dX5_stonesLeft_5 : decode cX5_stonesLeft 5 = .ok (.aload_n 0, 1) := by decide +kernel
theorem dX5_stonesLeft_6 : decode cX5_stonesLeft 6 = .ok (.getfield 102, 3) := by decide +kernel
theorem dX5_stonesLeft_9 : decode cX5_stonesLeft 9 = .ok (.if_icmp .ge 24, 3) := by decide +kernel
theorem dX5_stonesLeft_12 : decode cX5_stonesLeft 12 = .ok (.aload_n 0, 1) := by decide +kernel
theorem dX5_stonesLeft_13 : decode cX5_stonesLeft 13 = .ok (.getfield 18, 3) := by decide +kernel
theorem dX5_stonesLeft_16 : decode cX5_stonesLeft 16 = .ok (.iload_n 2, 1) := by decide +kernel
theorem dX5_stonesLeft_17 : decode cX5_stonesLeft 17 = .ok (.aaload, 1) := by decide +kernel
theorem dX5_stonesLeft_18 : decode cX5_stonesLeft 18 = .ok (.getfield 105, 3) := by decide +kernel
theorem dX5_stonesLeft_21 : decode cX5_stonesLeft 21 = .ok (.ifCond .le 6, 3) := by decide +kernel
theorem dX5_stonesLeft_24 : decode cX5_stonesLeft 24 = .ok (.iinc 1 1, 3) := by decide +kernel
theorem dX5_stonesLeft_27 : decode cX5_stonesLeft 27 = .ok (.iinc 2 1, 3) := by decide +kernel
theorem dX5_stonesLeft_30 : decode cX5_stonesLeft 30 = .ok (.goto (-26), 3) := by decide +kernel
theorem dX5_stonesLeft_33 : decode cX5_stonesLeft 33 = .ok (.iload_n 1, 1) := by decide +kernel
theorem dX5_stonesLeft_34 : decode cX5_stonesLeft 34 = .ok (.ireturn, 1) := by decide +kernel
theorem dX5_worthOfStones_0 : decode cX5_worthOfStones 0 = .ok (.iconst 0, 1) := by decide +kernel
theorem dX5_worthOfStones_1 : decode cX5_worthOfStones 1 = .ok (.istore_n 1, 1) := by decide +kernel
theorem dX5_worthOfStones_2 : decode cX5_worthOfStones 2 = .ok (.iconst 0, 1) := by decide +kernel
theorem dX5_worthOfStones_3 : decode cX5_worthOfStones 3 = .ok (.istore_n 2, 1) := by decide +kernel
theorem dX5_worthOfStones_4 : decode cX5_worthOfStones 4 = .ok (.iload_n 2, 1) := by decide +kernel
theorem dX5_worthOfStones_5 : decode cX5_worthOfStones 5 = .ok (.aload_n 0, 1) := by decide +kernel
theorem dX5_worthOfStones_6 : decode cX5_worthOfStones 6 = .ok (.getfield 102, 3) := by decide +kernel
theorem dX5_worthOfStones_9 : decode cX5_worthOfStones 9 = .ok (.if_icmp .ge 22, 3) := by decide +kernel
theorem dX5_worthOfStones_12 : decode cX5_worthOfStones 12 = .ok (.iload_n 1, 1) := by decide +kernel
theorem dX5_worthOfStones_13 : decode cX5_worthOfStones 13 = .ok (.aload_n 0, 1) := by decide +kernel
theorem dX5_worthOfStones_14 : decode cX5_worthOfStones 14 = .ok (.aload_n 0, 1) := by decide +kernel
theorem dX5_worthOfStones_15 : decode cX5_worthOfStones 15 = .ok (.getfield 18, 3) := by decide +kernel
theorem dX5_worthOfStones_18 : decode cX5_worthOfStones 18 = .ok (.iload_n 2, 1) := by decide +kernel
theorem dX5_worthOfStones_19 : decode cX5_worthOfStones 19 = .ok (.aaload, 1) := by decide +kernel
theorem dX5_worthOfStones_20 : decode cX5_worthOfStones 20 = .ok (.invokevirtual 295, 3) := by decide +kernel
theorem dX5_worthOfStones_23 : decode cX5_worthOfStones 23 = .ok (.iadd, 1) := by decide +kernel
theorem dX5_worthOfStones_24 : decode cX5_worthOfStones 24 = .ok (.istore_n 1, 1) := by decide +kernel
theorem dX5_worthOfStones_25 : decode cX5_worthOfStones 25 = .ok (.iinc 2 1, 3) := by decide +kernel
theorem dX5_worthOfStones_28 : decode cX5_worthOfStones 28 = .ok (.goto (-24), 3) := by decide +kernel
theorem dX5_worthOfStones_31 : decode cX5_worthOfStones 31 = .ok (.iload_n 1, 1) := by decide +kernel
theorem dX5_worthOfStones_32 : decode cX5_worthOfStones 32 = .ok (.ireturn, 1) := by decide +kernel
theorem dX5_addStone_0 : decode cX5_addStone 0 = .ok (.lload_n 1, 1) := by decide +kernel
theorem dX5_addStone_1 : decode cX5_addStone 1 = .ok (.lstore 4, 2) := by decide +kernel
theorem dX5_addStone_3 : decode cX5_addStone 3 = .ok (.iconst 0, 1) := by decide +kernel
theorem dX5_addStone_4 : decode cX5_addStone 4 = .ok (.istore 6, 2) := by decide +kernel
theorem dX5_addStone_6 : decode cX5_addStone 6 = .ok (.iload 6, 2) := by decide +kernel
theorem dX5_addStone_8 : decode cX5_addStone 8 = .ok (.bipush 9, 2) := by decide +kernel
theorem dX5_addStone_10 : decode cX5_addStone 10 = .ok (.if_icmp .ge 26, 3) := by decide +kernel
theorem dX5_addStone_13 : decode cX5_addStone 13 = .ok (.lload 4, 2) := by decide +kernel
theorem dX5_addStone_15 : decode cX5_addStone 15 = .ok (.ldc2_w 205, 3) := by decide +kernel
theorem dX5_addStone_18 : decode cX5_addStone 18 = .ok (.lmul, 1) := by decide +kernel
theorem dX5_addStone_19 : decode cX5_addStone 19 = .ok (.aload_n 0, 1) := by decide +kernel
theorem dX5_addStone_20 : decode cX5_addStone 20 = .ok (.aload_n 3, 1) := by decide +kernel
theorem dX5_addStone_21 : decode cX5_addStone 21 = .ok (.iload 6, 2) := by decide +kernel
theorem dX5_addStone_23 : decode cX5_addStone 23 = .ok (.invokevirtual 156, 3) := by decide +kernel
theorem dX5_addStone_26 : decode cX5_addStone 26 = .ok (.i2l, 1) := by decide +kernel
theorem dX5_addStone_27 : decode cX5_addStone 27 = .ok (.ladd, 1) := by decide +kernel
theorem dX5_addStone_28 : decode cX5_addStone 28 = .ok (.lstore 4, 2) := by decide +kernel
theorem dX5_addStone_30 : decode cX5_addStone 30 = .ok (.iinc 6 1, 3) := by decide +kernel
theorem dX5_addStone_33 : decode cX5_addStone 33 = .ok (.goto (-27), 3) := by decide +kernel
theorem dX5_addStone_36 : decode cX5_addStone 36 = .ok (.iconst 0, 1) := by decide +kernel
theorem dX5_addStone_37 : decode cX5_addStone 37 = .ok (.istore 6, 2) := by decide +kernel
theorem dX5_addStone_39 : decode cX5_addStone 39 = .ok (.iload 6, 2) := by decide +kernel
theorem dX5_addStone_41 : decode cX5_addStone 41 = .ok (.aload_n 3, 1) := by decide +kernel
theorem dX5_addStone_42 : decode cX5_addStone 42 = .ok (.getfield 119, 3) := by decide +kernel
theorem dX5_addStone_45 : decode cX5_addStone 45 = .ok (.if_icmp .ge 47, 3) := by decide +kernel
theorem dX5_addStone_48 : decode cX5_addStone 48 = .ok (.iconst 0, 1) := by decide +kernel
theorem dX5_addStone_49 : decode cX5_addStone 49 = .ok (.istore 7, 2) := by decide +kernel
theorem dX5_addStone_51 : decode cX5_addStone 51 = .ok (.iload 7, 2) := by decide +kernel
theorem dX5_addStone_53 : decode cX5_addStone 53 = .ok (.bipush 6, 2) := by decide +kernel
theorem dX5_addStone_55 : decode cX5_addStone 55 = .ok (.if_icmp .ge 31, 3) := by decide +kernel
theorem dX5_addStone_58 : decode cX5_addStone 58 = .ok (.lload 4, 2) := by decide +kernel
theorem dX5_addStone_60 : decode cX5_addStone 60 = .ok (.ldc2_w 205, 3) := by decide +kernel
theorem dX5_addStone_63 : decode cX5_addStone 63 = .ok (.lmul, 1) := by decide +kernel
theorem dX5_addStone_64 : decode cX5_addStone 64 = .ok (.aload_n 3, 1) := by decide +kernel
theorem dX5_addStone_65 : decode cX5_addStone 65 = .ok (.getfield 137, 3) := by decide +kernel
theorem dX5_addStone_68 : decode cX5_addStone 68 = .ok (.iload 6, 2) := by decide +kernel
theorem dX5_addStone_70 : decode cX5_addStone 70 = .ok (.aaload, 1) := by decide +kernel
theorem dX5_addStone_71 : decode cX5_addStone 71 = .ok (.iload 7, 2) := by decide +kernel
theorem dX5_addStone_73 : decode cX5_addStone 73 = .ok (.invokevirtual 160, 3) := by decide +kernel
theorem dX5_addStone_76 : decode cX5_addStone 76 = .ok (.i2l, 1) := by decide +kernel
theorem dX5_addStone_77 : decode cX5_addStone 77 = .ok (.ladd, 1) := by decide +kernel
theorem dX5_addStone_78 : decode cX5_addStone 78 = .ok (.lstore 4, 2) := by decide +kernel
theorem dX5_addStone_80 : decode cX5_addStone 80 = .ok (.iinc 7 1, 3) := by decide +kernel
theorem dX5_addStone_83 : decode cX5_addStone 83 = .ok (.goto (-32), 3) := by decide +kernel
theorem dX5_addStone_86 : decode cX5_addStone 86 = .ok (.iinc 6 1, 3) := by decide +kernel
theorem dX5_addStone_89 : decode cX5_addStone 89 = .ok (.goto (-50), 3) := by decide +kernel
theorem dX5_addStone_92 : decode cX5_addStone 92 = .ok (.lload 4, 2) := by decide +kernel
theorem dX5_addStone_94 : decode cX5_addStone 94 = .ok (.lreturn, 1) := by decide +kernel
theorem dX6_init_0 : decode cX6_init 0 = .ok (.aload_n 0, 1) := by decide +kernel
theorem dX6_init_1 : decode cX6_init 1 = .ok (.invokespecial 1, 3) := by decide +kernel
theorem dX6_init_4 : decode cX6_init 4 = .ok (.aload_n 0, 1) := by decide +kernel
theorem dX6_init_5 : decode cX6_init 5 = .ok (.sipush 1000, 3) := by decide +kernel
theorem dX6_init_8 : decode cX6_init 8 = .ok (.newarray .int, 2) := by decide +kernel
theorem dX6_init_10 : decode cX6_init 10 = .ok (.putfield 9, 3) := by decide +kernel
theorem dX6_init_13 : decode cX6_init 13 = .ok (.aload_n 0, 1) := by decide +kernel
theorem dX6_init_14 : decode cX6_init 14 = .ok (.bipush 50, 2) := by decide +kernel
theorem dX6_init_16 : decode cX6_init 16 = .ok (.newarray .int, 2) := by decide +kernel
theorem dX6_init_18 : decode cX6_init 18 = .ok (.putfield 13, 3) := by decide +kernel
theorem dX6_init_21 : decode cX6_init 21 = .ok (.aload_n 0, 1) := by decide +kernel
theorem dX6_init_22 : decode cX6_init 22 = .ok (.sipush 680, 3) := by decide +kernel
theorem dX6_init_25 : decode cX6_init 25 = .ok (.newarray .int, 2) := by decide +kernel
theorem dX6_init_27 : decode cX6_init 27 = .ok (.putfield 16, 3) := by decide +kernel
theorem dX6_init_30 : decode cX6_init 30 = .ok (.aload_n 0, 1) := by decide +kernel
theorem dX6_init_31 : decode cX6_init 31 = .ok (.bipush 8, 2) := by decide +kernel
theorem dX6_init_33 : decode cX6_init 33 = .ok (.newarray .int, 2) := by decide +kernel
theorem dX6_init_35 : decode cX6_init 35 = .ok (.putfield 19, 3) := by decide +kernel
theorem dX6_init_38 : decode cX6_init 38 = .ok (.aload_n 0, 1) := by decide +kernel
theorem dX6_init_39 : decode cX6_init 39 = .ok (.bipush 6, 2) := by decide +kernel
theorem dX6_init_41 : decode cX6_init 41 = .ok (.bipush 6, 2) := by decide +kernel
theorem dX6_init_43 : decode cX6_init 43 = .ok (.bipush 6, 2) := by decide +kernel
theorem dX6_init_45 : decode cX6_init 45 = .ok (.invokevirtual 22, 3) := by decide +kernel
theorem dX6_init_48 : decode cX6_init 48 = .ok (.return_, 1) := by decide +kernel
theorem dX6_thrown_0 : decode cX6_thrown 0 = .ok (.aload_n 0, 1) := by decide +kernel
theorem dX6_thrown_1 : decode cX6_thrown 1 = .ok (.getfield 26, 3) := by decide +kernel
theorem dX6_thrown_4 : decode cX6_thrown 4 = .ok (.ireturn, 1) := by decide +kernel
theorem dX6_fail_0 : decode cX6_fail 0 = .ok (.aload_n 0, 1) := by decide +kernel
theorem dX6_fail_1 : decode cX6_fail 1 = .ok (.iload_n 1, 1) := by decide +kernel
theorem dX6_fail_2 : decode cX6_fail 2 = .ok (.putfield 26, 3) := by decide +kernel
theorem dX6_fail_5 : decode cX6_fail 5 = .ok (.iconst 0, 1) := by decide +kernel
theorem dX6_fail_6 : decode cX6_fail 6 = .ok (.ireturn, 1) := by decide +kernel
theorem dX6_isIn_0 : decode cX6_isIn 0 = .ok (.iload_n 0, 1) := by decide +kernel
theorem dX6_isIn_1 : decode cX6_isIn 1 = .ok (.iload_n 1, 1) := by decide +kernel
theorem dX6_isIn_2 : decode cX6_isIn 2 = .ok (.if_icmp .lt 12, 3) := by decide +kernel
theorem dX6_isIn_5 : decode cX6_isIn 5 = .ok (.iload_n 0, 1) := by decide +kernel
theorem dX6_isIn_6 : decode cX6_isIn 6 = .ok (.iload_n 2, 1) := by decide +kernel
theorem dX6_isIn_7 : decode cX6_isIn 7 = .ok (.if_icmp .gt 7, 3) := by decide +kernel
theorem dX6_isIn_10 : decode cX6_isIn 10 = .ok (.iconst 1, 1) := by decide +kernel
theorem dX6_isIn_11 : decode cX6_isIn 11 = .ok (.goto 4, 3) := by decide +kernel
theorem dX6_isIn_14 : decode cX6_isIn 14 = .ok (.iconst 0, 1) := by decide +kernel
theorem dX6_isIn_15 : decode cX6_isIn 15 = .ok (.ireturn, 1) := by decide +kernel
theorem dX6_at_0 : decode cX6_at 0 = .ok (.iload_n 0, 1) := by decide +kernel
theorem dX6_at_1 : decode cX6_at 1 = .ok (.bipush 10, 2) := by decide +kernel
theorem dX6_at_3 : decode cX6_at 3 = .ok (.iload_n 1, 1) := by decide +kernel
theorem dX6_at_4 : decode cX6_at 4 = .ok (.bipush 10, 2) := by decide +kernel
theorem dX6_at_6 : decode cX6_at 6 = .ok (.iload_n 2, 1) := by decide +kernel
theorem dX6_at_7 : decode cX6_at 7 = .ok (.imul, 1) := by decide +kernel
theorem dX6_at_8 : decode cX6_at 8 = .ok (.iadd, 1) := by decide +kernel
theorem dX6_at_9 : decode cX6_at 9 = .ok (.imul, 1) := by decide +kernel
theorem dX6_at_10 : decode cX6_at 10 = .ok (.iadd, 1) := by decide +kernel
theorem dX6_at_11 : decode cX6_at 11 = .ok (.ireturn, 1) := by decide +kernel
theorem dX6_isCell_0 : decode cX6_isCell 0 = .ok (.iload_n 1, 1) := by decide +kernel
theorem dX6_isCell_1 : decode cX6_isCell 1 = .ok (.iconst 0, 1) := by decide +kernel
theorem dX6_isCell_2 : decode cX6_isCell 2 = .ok (.aload_n 0, 1) := by decide +kernel
theorem dX6_isCell_3 : decode cX6_isCell 3 = .ok (.getfield 30, 3) := by decide +kernel
theorem dX6_isCell_6 : decode cX6_isCell 6 = .ok (.iconst 1, 1) := by decide +kernel
theorem dX6_isCell_7 : decode cX6_isCell 7 = .ok (.isub, 1) := by decide +kernel
theorem dX6_isCell_8 : decode cX6_isCell 8 = .ok (.invokestatic 33, 3) := by decide +kernel
theorem dX6_isCell_11 : decode cX6_isCell 11 = .ok (.ifCond .eq 35, 3) := by decide +kernel
theorem dX6_isCell_14 : decode cX6_isCell 14 = .ok (.iload_n 2, 1) := by decide +kernel
theorem dX6_isCell_15 : decode cX6_isCell 15 = .ok (.iconst 0, 1) := by decide +kernel
theorem dX6_isCell_16 : decode cX6_isCell 16 = .ok (.aload_n 0, 1) := by decide +kernel
theorem dX6_isCell_17 : decode cX6_isCell 17 = .ok (.getfield 37, 3) := by decide +kernel
theorem dX6_isCell_20 : decode cX6_isCell 20 = .ok (.iconst 1, 1) := by decide +kernel
theorem dX6_isCell_21 : decode cX6_isCell 21 = .ok (.isub, 1) := by decide +kernel
theorem dX6_isCell_22 : decode cX6_isCell 22 = .ok (.invokestatic 33, 3) := by decide +kernel
theorem dX6_isCell_25 : decode cX6_isCell 25 = .ok (.ifCond .eq 21, 3) := by decide +kernel
theorem dX6_isCell_28 : decode cX6_isCell 28 = .ok (.iload_n 3, 1) := by decide +kernel
theorem dX6_isCell_29 : decode cX6_isCell 29 = .ok (.iconst 0, 1) := by decide +kernel
theorem dX6_isCell_30 : decode cX6_isCell 30 = .ok (.aload_n 0, 1) := by decide +kernel
theorem dX6_isCell_31 : decode cX6_isCell 31 = .ok (.getfield 40, 3) := by decide +kernel
theorem dX6_isCell_34 : decode cX6_isCell 34 = .ok (.iconst 1, 1) := by decide +kernel
theorem dX6_isCell_35 : decode cX6_isCell 35 = .ok (.isub, 1) := by decide +kernel
theorem dX6_isCell_36 : decode cX6_isCell 36 = .ok (.invokestatic 33, 3) := by decide +kernel
theorem dX6_isCell_39 : decode cX6_isCell 39 = .ok (.ifCond .eq 7, 3) := by decide +kernel
theorem dX6_isCell_42 : decode cX6_isCell 42 = .ok (.iconst 1, 1) := by decide +kernel
theorem dX6_isCell_43 : decode cX6_isCell 43 = .ok (.goto 4, 3) := by decide +kernel
theorem dX6_isCell_46 : decode cX6_isCell 46 = .ok (.iconst 0, 1) := by decide +kernel
theorem dX6_isCell_47 : decode cX6_isCell 47 = .ok (.ireturn, 1) := by decide +kernel
theorem dX6_isStone_0 : decode cX6_isStone 0 = .ok (.iload_n 1, 1) := by decide +kernel
theorem dX6_isStone_1 : decode cX6_isStone 1 = .ok (.iconst 0, 1) := by decide +kernel
theorem dX6_isStone_2 : decode cX6_isStone 2 = .ok (.aload_n 0, 1) := by decide +kernel
theorem dX6_isStone_3 : decode cX6_isStone 3 = .ok (.getfield 43, 3) := by decide +kernel
theorem dX6_isStone_6 : decode cX6_isStone 6 = .ok (.iconst 1, 1) := by decide +kernel
theorem dX6_isStone_7 : decode cX6_isStone 7 = .ok (.isub, 1) := by decide +kernel
theorem dX6_isStone_8 : decode cX6_isStone 8 = .ok (.invokestatic 33, 3) := by decide +kernel
theorem dX6_isStone_11 : decode cX6_isStone 11 = .ok (.ireturn, 1) := by decide +kernel
theorem dX6_isPlane_0 : decode cX6_isPlane 0 = .ok (.aload_n 0, 1) := by decide +kernel
theorem dX6_isPlane_1 : decode cX6_isPlane 1 = .ok (.iload_n 1, 1) := by decide +kernel
theorem dX6_isPlane_2 : decode cX6_isPlane 2 = .ok (.invokevirtual 46, 3) := by decide +kernel
theorem dX6_isPlane_5 : decode cX6_isPlane 5 = .ok (.ifCond .eq 23, 3) := by decide +kernel
theorem dX6_isPlane_8 : decode cX6_isPlane 8 = .ok (.iload_n 2, 1) := by decide +kernel
theorem dX6_isPlane_9 : decode cX6_isPlane 9 = .ok (.iconst 0, 1) := by decide +kernel
theorem dX6_isPlane_10 : decode cX6_isPlane 10 = .ok (.aload_n 0, 1) := by decide +kernel
theorem dX6_isPlane_11 : decode cX6_isPlane 11 = .ok (.getfield 19, 3) := by decide +kernel
theorem dX6_isPlane_14 : decode cX6_isPlane 14 = .ok (.iload_n 1, 1) := by decide +kernel
theorem dX6_isPlane_15 : decode cX6_isPlane 15 = .ok (.iaload, 1) := by decide +kernel
theorem dX6_isPlane_16 : decode cX6_isPlane 16 = .ok (.iconst 1, 1) := by decide +kernel
theorem dX6_isPlane_17 : decode cX6_isPlane 17 = .ok (.isub, 1) := by decide +kernel
theorem dX6_isPlane_18 : decode cX6_isPlane 18 = .ok (.invokestatic 33, 3) := by decide +kernel
theorem dX6_isPlane_21 : decode cX6_isPlane 21 = .ok (.ifCond .eq 7, 3) := by decide +kernel
theorem dX6_isPlane_24 : decode cX6_isPlane 24 = .ok (.iconst 1, 1) := by decide +kernel
theorem dX6_isPlane_25 : decode cX6_isPlane 25 = .ok (.goto 4, 3) := by decide +kernel
theorem dX6_isPlane_28 : decode cX6_isPlane 28 = .ok (.iconst 0, 1) := by decide +kernel
theorem dX6_isPlane_29 : decode cX6_isPlane 29 = .ok (.ireturn, 1) := by decide +kernel
theorem dX6_pl_0 : decode cX6_pl 0 = .ok (.aload_n 0, 1) := by decide +kernel
theorem dX6_pl_1 : decode cX6_pl 1 = .ok (.getfield 16, 3) := by decide +kernel
theorem dX6_pl_4 : decode cX6_pl 4 = .ok (.iconst 5, 1) := by decide +kernel
theorem dX6_pl_5 : decode cX6_pl 5 = .ok (.bipush 17, 2) := by decide +kernel
theorem dX6_pl_7 : decode cX6_pl 7 = .ok (.iload_n 1, 1) := by decide +kernel
theorem dX6_pl_8 : decode cX6_pl 8 = .ok (.imul, 1) := by decide +kernel
theorem dX6_pl_9 : decode cX6_pl 9 = .ok (.iload_n 2, 1) := by decide +kernel
theorem dX6_pl_10 : decode cX6_pl 10 = .ok (.iadd, 1) := by decide +kernel
theorem dX6_pl_11 : decode cX6_pl 11 = .ok (.imul, 1) := by decide +kernel
theorem dX6_pl_12 : decode cX6_pl 12 = .ok (.iload_n 3, 1) := by decide +kernel
theorem dX6_pl_13 : decode cX6_pl 13 = .ok (.iadd, 1) := by decide +kernel
theorem dX6_pl_14 : decode cX6_pl 14 = .ok (.iaload, 1) := by decide +kernel
theorem dX6_pl_15 : decode cX6_pl 15 = .ok (.ireturn, 1) := by decide +kernel
theorem dX6_fl_0 : decode cX6_fl 0 = .ok (.aload_n 0, 1) := by decide +kernel
theorem dX6_fl_1 : decode cX6_fl 1 = .ok (.getfield 13, 3) := by decide +kernel
theorem dX6_fl_4 : decode cX6_fl 4 = .ok (.iconst 5, 1) := by decide +kernel
theorem dX6_fl_5 : decode cX6_fl 5 = .ok (.iload_n 1, 1) := by decide +kernel
theorem dX6_fl_6 : decode cX6_fl 6 = .ok (.imul, 1) := by decide +kernel
theorem dX6_fl_7 : decode cX6_fl 7 = .ok (.iload_n 2, 1) := by decide +kernel
theorem dX6_fl_8 : decode cX6_fl 8 = .ok (.iadd, 1) := by decide +kernel
theorem dX6_fl_9 : decode cX6_fl 9 = .ok (.iaload, 1) := by decide +kernel
theorem dX6_fl_10 : decode cX6_fl 10 = .ok (.ireturn, 1) := by decide +kernel
theorem dX6_begin_0 : decode cX6_begin 0 = .ok (.aload_n 0, 1) := by decide +kernel
theorem dX6_begin_1 : decode cX6_begin 1 = .ok (.iload_n 1, 1) := by decide +kernel
theorem dX6_begin_2 : decode cX6_begin 2 = .ok (.putfield 30, 3) := by decide +kernel
theorem dX6_begin_5 : decode cX6_begin 5 = .ok (.aload_n 0, 1) := by decide +kernel
theorem dX6_begin_6 : decode cX6_begin 6 = .ok (.iload_n 2, 1) := by decide +kernel
theorem dX6_begin_7 : decode cX6_begin 7 = .ok (.putfield 37, 3) := by decide +kernel
theorem dX6_begin_10 : decode cX6_begin 10 = .ok (.aload_n 0, 1) := by decide +kernel
theorem dX6_begin_11 : decode cX6_begin 11 = .ok (.iload_n 3, 1) := by decide +kernel
theorem dX6_begin_12 : decode cX6_begin 12 = .ok (.putfield 40, 3) := by decide +kernel
theorem dX6_begin_15 : decode cX6_begin 15 = .ok (.iconst 0, 1) := by decide +kernel
theorem dX6_begin_16 : decode cX6_begin 16 = .ok (.istore 4, 2) := by decide +kernel
theorem dX6_begin_18 : decode cX6_begin 18 = .ok (.iload 4, 2) := by decide +kernel
theorem dX6_begin_20 : decode cX6_begin 20 = .ok (.sipush 1000, 3) := by decide +kernel
theorem dX6_begin_23 : decode cX6_begin 23 = .ok (.if_icmp .ge 49, 3) := by decide +kernel
theorem dX6_begin_26 : decode cX6_begin 26 = .ok (.aload_n 0, 1) := by decide +kernel
theorem dX6_begin_27 : decode cX6_begin 27 = .ok (.getfield 9, 3) := by decide +kernel
theorem dX6_begin_30 : decode cX6_begin 30 = .ok (.iload 4, 2) := by decide +kernel
theorem dX6_begin_32 : decode cX6_begin 32 = .ok (.aload_n 0, 1) := by decide +kernel
theorem dX6_begin_33 : decode cX6_begin 33 = .ok (.iload 4, 2) := by decide +kernel
theorem dX6_begin_35 : decode cX6_begin 35 = .ok (.bipush 10, 2) := by decide +kernel
theorem dX6_begin_37 : decode cX6_begin 37 = .ok (.irem, 1) := by decide +kernel
theorem dX6_begin_38 : decode cX6_begin 38 = .ok (.iload 4, 2) := by decide +kernel
theorem dX6_begin_40 : decode cX6_begin 40 = .ok (.bipush 10, 2) := by decide +kernel
theorem dX6_begin_42 : decode cX6_begin 42 = .ok (.idiv, 1) := by decide +kernel
theorem dX6_begin_43 : decode cX6_begin 43 = .ok (.bipush 10, 2) := by decide +kernel
theorem dX6_begin_45 : decode cX6_begin 45 = .ok (.irem, 1) := by decide +kernel
theorem dX6_begin_46 : decode cX6_begin 46 = .ok (.iload 4, 2) := by decide +kernel
theorem dX6_begin_48 : decode cX6_begin 48 = .ok (.bipush 10, 2) := by decide +kernel
theorem dX6_begin_50 : decode cX6_begin 50 = .ok (.idiv, 1) := by decide +kernel
theorem dX6_begin_51 : decode cX6_begin 51 = .ok (.bipush 10, 2) := by decide +kernel
theorem dX6_begin_53 : decode cX6_begin 53 = .ok (.idiv, 1) := by decide +kernel
theorem dX6_begin_54 : decode cX6_begin 54 = .ok (.invokevirtual 50, 3) := by decide +kernel
theorem dX6_begin_57 : decode cX6_begin 57 = .ok (.ifCond .eq 7, 3) := by decide +kernel
theorem dX6_begin_60 : decode cX6_begin 60 = .ok (.iconst 0, 1) := by decide +kernel
theorem dX6_begin_61 : decode cX6_begin 61 = .ok (.goto 4, 3) := by decide +kernel
theorem dX6_begin_64 : decode cX6_begin 64 = .ok (.iconst (-1), 1) := by decide +kernel
theorem dX6_begin_65 : decode cX6_begin 65 = .ok (.iastore, 1) := by decide +kernel
theorem dX6_begin_66 : decode cX6_begin 66 = .ok (.iinc 4 1, 3) := by decide +kernel
theorem dX6_begin_69 : decode cX6_begin 69 = .ok (.goto (-51), 3) := by decide +kernel
theorem dX6_begin_72 : decode cX6_begin 72 = .ok (.aload_n 0, 1) := by decide +kernel
theorem dX6_begin_73 : decode cX6_begin 73 = .ok (.iconst 0, 1) := by decide +kernel
theorem dX6_begin_74 : decode cX6_begin 74 = .ok (.putfield 53, 3) := by decide +kernel
theorem dX6_begin_77 : decode cX6_begin 77 = .ok (.aload_n 0, 1) := by decide +kernel
theorem dX6_begin_78 : decode cX6_begin 78 = .ok (.iconst 1, 1) := by decide +kernel
theorem dX6_begin_79 : decode cX6_begin 79 = .ok (.putfield 43, 3) := by decide +kernel
theorem dX6_begin_82 : decode cX6_begin 82 = .ok (.aload_n 0, 1) := by decide +kernel
theorem dX6_begin_83 : decode cX6_begin 83 = .ok (.getfield 19, 3) := by decide +kernel
theorem dX6_begin_86 : decode cX6_begin 86 = .ok (.iconst 0, 1) := by decide +kernel
theorem dX6_begin_87 : decode cX6_begin 87 = .ok (.iconst 0, 1) := by decide +kernel
theorem dX6_begin_88 : decode cX6_begin 88 = .ok (.iastore, 1) := by decide +kernel
theorem dX6_begin_89 : decode cX6_begin 89 = .ok (.aload_n 0, 1) := by decide +kernel
theorem dX6_begin_90 : decode cX6_begin 90 = .ok (.sipush 400, 3) := by decide +kernel
theorem dX6_begin_93 : decode cX6_begin 93 = .ok (.putfield 56, 3) := by decide +kernel
theorem dX6_begin_96 : decode cX6_begin 96 = .ok (.aload_n 0, 1) := by decide +kernel
theorem dX6_begin_97 : decode cX6_begin 97 = .ok (.iconst 0, 1) := by decide +kernel
theorem dX6_begin_98 : decode cX6_begin 98 = .ok (.putfield 59, 3) := by decide +kernel
theorem dX6_begin_101 : decode cX6_begin 101 = .ok (.return_, 1) := by decide +kernel
theorem dX6_take_0 : decode cX6_take 0 = .ok (.aload_n 0, 1) := by decide +kernel
theorem dX6_take_1 : decode cX6_take 1 = .ok (.iconst 0, 1) := by decide +kernel
theorem dX6_take_2 : decode cX6_take 2 = .ok (.putfield 26, 3) := by decide +kernel
theorem dX6_take_5 : decode cX6_take 5 = .ok (.iload_n 1, 1) := by decide +kernel
theorem dX6_take_6 : decode cX6_take 6 = .ok (.iconst 1, 1) := by decide +kernel
theorem dX6_take_7 : decode cX6_take 7 = .ok (.bipush 10, 2) := by decide +kernel
theorem dX6_take_9 : decode cX6_take 9 = .ok (.invokestatic 33, 3) := by decide +kernel
theorem dX6_take_12 : decode cX6_take 12 = .ok (.ifCond .eq 23, 3) := by decide +kernel
theorem dX6_take_15 : decode cX6_take 15 = .ok (.iload_n 2, 1) := by decide +kernel
theorem dX6_take_16 : decode cX6_take 16 = .ok (.iconst 1, 1) := by decide +kernel
theorem dX6_take_17 : decode cX6_take 17 = .ok (.bipush 10, 2) := by decide +kernel
theorem dX6_take_19 : decode cX6_take 19 = .ok (.invokestatic 33, 3) := by decide +kernel
theorem dX6_take_22 : decode cX6_take 22 = .ok (.ifCond .eq 13, 3) := by decide +kernel
theorem dX6_take_25 : decode cX6_take 25 = .ok (.iload_n 3, 1) := by decide +kernel
theorem dX6_take_26 : decode cX6_take 26 = .ok (.iconst 1, 1) := by decide +kernel
theorem dX6_take_27 : decode cX6_take 27 = .ok (.bipush 10, 2) := by decide +kernel
theorem dX6_take_29 : decode cX6_take 29 = .ok (.invokestatic 33, 3) := by decide +kernel
theorem dX6_take_32 : decode cX6_take 32 = .ok (.ifCond .ne 9, 3) := by decide +kernel
theorem dX6_take_35 : decode cX6_take 35 = .ok (.aload_n 0, 1) := by decide +kernel
theorem dX6_take_36 : decode cX6_take 36 = .ok (.iconst 1, 1) := by decide +kernel
theorem dX6_take_37 : decode cX6_take 37 = .ok (.invokevirtual 62, 3) := by decide +kernel
theorem dX6_take_40 : decode cX6_take 40 = .ok (.ireturn, 1) := by decide +kernel
theorem dX6_take_41 : decode cX6_take 41 = .ok (.aload_n 0, 1) := by decide +kernel
theorem dX6_take_42 : decode cX6_take 42 = .ok (.iload_n 1, 1) := by decide +kernel
theorem dX6_take_43 : decode cX6_take 43 = .ok (.iload_n 2, 1) := by decide +kernel
theorem dX6_take_44 : decode cX6_take 44 = .ok (.iload_n 3, 1) := by decide +kernel
theorem dX6_take_45 : decode cX6_take 45 = .ok (.invokevirtual 22, 3) := by decide +kernel
theorem dX6_take_48 : decode cX6_take 48 = .ok (.iload_n 1, 1) := by decide +kernel
theorem dX6_take_49 : decode cX6_take 49 = .ok (.iload_n 2, 1) := by decide +kernel
theorem dX6_take_50 : decode cX6_take 50 = .ok (.imul, 1) := by decide +kernel
theorem dX6_take_51 : decode cX6_take 51 = .ok (.iload_n 3, 1) := by decide +kernel
theorem dX6_take_52 : decode cX6_take 52 = .ok (.imul, 1) := by decide +kernel
theorem dX6_take_53 : decode cX6_take 53 = .ok (.ireturn, 1) := by decide +kernel
theorem dX6_flaw_0 : decode cX6_flaw 0 = .ok (.aload_n 0, 1) := by decide +kernel
theorem dX6_flaw_1 : decode cX6_flaw 1 = .ok (.iconst 0, 1) := by decide +kernel
theorem dX6_flaw_2 : decode cX6_flaw 2 = .ok (.putfield 26, 3) := by decide +kernel
theorem dX6_flaw_5 : decode cX6_flaw 5 = .ok (.aload_n 0, 1) := by decide +kernel
theorem dX6_flaw_6 : decode cX6_flaw 6 = .ok (.iload_n 1, 1) := by decide +kernel
theorem dX6_flaw_7 : decode cX6_flaw 7 = .ok (.iload_n 2, 1) := by decide +kernel
theorem dX6_flaw_8 : decode cX6_flaw 8 = .ok (.iload_n 3, 1) := by decide +kernel
theorem dX6_flaw_9 : decode cX6_flaw 9 = .ok (.invokevirtual 50, 3) := by decide +kernel
theorem dX6_flaw_12 : decode cX6_flaw 12 = .ok (.ifCond .ne 9, 3) := by decide +kernel
theorem dX6_flaw_15 : decode cX6_flaw 15 = .ok (.aload_n 0, 1) := by decide +kernel
theorem dX6_flaw_16 : decode cX6_flaw 16 = .ok (.iconst 1, 1) := by decide +kernel
theorem dX6_flaw_17 : decode cX6_flaw 17 = .ok (.invokevirtual 62, 3) := by decide +kernel
theorem dX6_flaw_20 : decode cX6_flaw 20 = .ok (.ireturn, 1) := by decide +kernel
theorem dX6_flaw_21 : decode cX6_flaw 21 = .ok (.iload 4, 2) := by decide +kernel
theorem dX6_flaw_23 : decode cX6_flaw 23 = .ok (.iconst 0, 1) := by decide +kernel
theorem dX6_flaw_24 : decode cX6_flaw 24 = .ok (.iconst 3, 1) := by decide +kernel
theorem dX6_flaw_25 : decode cX6_flaw 25 = .ok (.invokestatic 33, 3) := by decide +kernel
theorem dX6_flaw_28 : decode cX6_flaw 28 = .ok (.ifCond .eq 14, 3) := by decide +kernel
theorem dX6_flaw_31 : decode cX6_flaw 31 = .ok (.iload 5, 2) := by decide +kernel
theorem dX6_flaw_33 : decode cX6_flaw 33 = .ok (.iconst 1, 1) := by decide +kernel
theorem dX6_flaw_34 : decode cX6_flaw 34 = .ok (.bipush 9, 2) := by decide +kernel
theorem dX6_flaw_36 : decode cX6_flaw 36 = .ok (.invokestatic 33, 3) := by decide +kernel
theorem dX6_flaw_39 : decode cX6_flaw 39 = .ok (.ifCond .ne 9, 3) := by decide +kernel
theorem dX6_flaw_42 : decode cX6_flaw 42 = .ok (.aload_n 0, 1) := by decide +kernel
theorem dX6_flaw_43 : decode cX6_flaw 43 = .ok (.iconst 2, 1) := by decide +kernel
theorem dX6_flaw_44 : decode cX6_flaw 44 = .ok (.invokevirtual 62, 3) := by decide +kernel
theorem dX6_flaw_47 : decode cX6_flaw 47 = .ok (.ireturn, 1) := by decide +kernel
theorem dX6_flaw_48 : decode cX6_flaw 48 = .ok (.aload_n 0, 1) := by decide +kernel
theorem dX6_flaw_49 : decode cX6_flaw 49 = .ok (.getfield 53, 3) := by decide +kernel
theorem dX6_flaw_52 : decode cX6_flaw 52 = .ok (.bipush 10, 2) := by decide +kernel
theorem dX6_flaw_54 : decode cX6_flaw 54 = .ok (.if_icmp .ne 9, 3) := by decide +kernel
theorem dX6_flaw_57 : decode cX6_flaw 57 = .ok (.aload_n 0, 1) := by decide +kernel
theorem dX6_flaw_58 : decode cX6_flaw 58 = .ok (.iconst 3, 1) := by decide +kernel
theorem dX6_flaw_59 : decode cX6_flaw 59 = .ok (.invokevirtual 62, 3) := by decide +kernel
theorem dX6_flaw_62 : decode cX6_flaw 62 = .ok (.ireturn, 1) := by decide +kernel
theorem dX6_flaw_63 : decode cX6_flaw 63 = .ok (.iconst 5, 1) := by decide +kernel
theorem dX6_flaw_64 : decode cX6_flaw 64 = .ok (.newarray .int, 2) := by decide +kernel
theorem dX6_flaw_66 : decode cX6_flaw 66 = .ok (.dup, 1) := by decide +kernel
theorem dX6_flaw_67 : decode cX6_flaw 67 = .ok (.iconst 0, 1) := by decide +kernel
theorem dX6_flaw_68 : decode cX6_flaw 68 = .ok (.iload_n 1, 1) := by decide +kernel
theorem dX6_flaw_69 : decode cX6_flaw 69 = .ok (.iastore, 1) := by decide +kernel
theorem dX6_flaw_70 : decode cX6_flaw 70 = .ok (.dup, 1) := by decide +kernel
theorem dX6_flaw_71 : decode cX6_flaw 71 = .ok (.iconst 1, 1) := by decide +kernel
theorem dX6_flaw_72 : decode cX6_flaw 72 = .ok (.iload_n 2, 1) := by decide +kernel
theorem dX6_flaw_73 : decode cX6_flaw 73 = .ok (.iastore, 1) := by decide +kernel
theorem dX6_flaw_74 : decode cX6_flaw 74 = .ok (.dup, 1) := by decide +kernel
theorem dX6_flaw_75 : decode cX6_flaw 75 = .ok (.iconst 2, 1) := by decide +kernel
theorem dX6_flaw_76 : decode cX6_flaw 76 = .ok (.iload_n 3, 1) := by decide +kernel
theorem dX6_flaw_77 : decode cX6_flaw 77 = .ok (.iastore, 1) := by decide +kernel
theorem dX6_flaw_78 : decode cX6_flaw 78 = .ok (.dup, 1) := by decide +kernel
theorem dX6_flaw_79 : decode cX6_flaw 79 = .ok (.iconst 3, 1) := by decide +kernel
theorem dX6_flaw_80 : decode cX6_flaw 80 = .ok (.iload 4, 2) := by decide +kernel
theorem dX6_flaw_82 : decode cX6_flaw 82 = .ok (.iastore, 1) := by decide +kernel
theorem dX6_flaw_83 : decode cX6_flaw 83 = .ok (.dup, 1) := by decide +kernel
theorem dX6_flaw_84 : decode cX6_flaw 84 = .ok (.iconst 4, 1) := by decide +kernel
theorem dX6_flaw_85 : decode cX6_flaw 85 = .ok (.iload 5, 2) := by decide +kernel
theorem dX6_flaw_87 : decode cX6_flaw 87 = .ok (.iastore, 1) := by decide +kernel
theorem dX6_flaw_88 : decode cX6_flaw 88 = .ok (.astore 6, 2) := by decide +kernel
theorem dX6_flaw_90 : decode cX6_flaw 90 = .ok (.aload 6, 2) := by decide +kernel
theorem dX6_flaw_92 : decode cX6_flaw 92 = .ok (.iconst 0, 1) := by decide +kernel
theorem dX6_flaw_93 : decode cX6_flaw 93 = .ok (.aload_n 0, 1) := by decide +kernel
theorem dX6_flaw_94 : decode cX6_flaw 94 = .ok (.getfield 13, 3) := by decide +kernel
theorem dX6_flaw_97 : decode cX6_flaw 97 = .ok (.iconst 5, 1) := by decide +kernel
theorem dX6_flaw_98 : decode cX6_flaw 98 = .ok (.aload_n 0, 1) := by decide +kernel
theorem dX6_flaw_99 : decode cX6_flaw 99 = .ok (.getfield 53, 3) := by decide +kernel
theorem dX6_flaw_102 : decode cX6_flaw 102 = .ok (.imul, 1) := by decide +kernel
theorem dX6_flaw_103 : decode cX6_flaw 103 = .ok (.iconst 5, 1) := by decide +kernel
theorem dX6_flaw_104 : decode cX6_flaw 104 = .ok (.invokestatic 66, 3) := by decide +kernel
theorem dX6_flaw_107 : decode cX6_flaw 107 = .ok (.aload_n 0, 1) := by decide +kernel
theorem dX6_flaw_108 : decode cX6_flaw 108 = .ok (.dup, 1) := by decide +kernel
theorem dX6_flaw_109 : decode cX6_flaw 109 = .ok (.getfield 53, 3) := by decide +kernel
theorem dX6_flaw_112 : decode cX6_flaw 112 = .ok (.iconst 1, 1) := by decide +kernel
theorem dX6_flaw_113 : decode cX6_flaw 113 = .ok (.iadd, 1) := by decide +kernel
theorem dX6_flaw_114 : decode cX6_flaw 114 = .ok (.putfield 53, 3) := by decide +kernel
theorem dX6_flaw_117 : decode cX6_flaw 117 = .ok (.aload_n 0, 1) := by decide +kernel
theorem dX6_flaw_118 : decode cX6_flaw 118 = .ok (.getfield 53, 3) := by decide +kernel
theorem dX6_flaw_121 : decode cX6_flaw 121 = .ok (.iconst 1, 1) := by decide +kernel
theorem dX6_flaw_122 : decode cX6_flaw 122 = .ok (.isub, 1) := by decide +kernel
theorem dX6_flaw_123 : decode cX6_flaw 123 = .ok (.ireturn, 1) := by decide +kernel
theorem dX6_cell_0 : decode cX6_cell 0 = .ok (.aload_n 0, 1) := by decide +kernel
theorem dX6_cell_1 : decode cX6_cell 1 = .ok (.iconst 0, 1) := by decide +kernel
theorem dX6_cell_2 : decode cX6_cell 2 = .ok (.putfield 26, 3) := by decide +kernel
theorem dX6_cell_5 : decode cX6_cell 5 = .ok (.aload_n 0, 1) := by decide +kernel
theorem dX6_cell_6 : decode cX6_cell 6 = .ok (.iload_n 1, 1) := by decide +kernel
theorem dX6_cell_7 : decode cX6_cell 7 = .ok (.iload_n 2, 1) := by decide +kernel
theorem dX6_cell_8 : decode cX6_cell 8 = .ok (.iload_n 3, 1) := by decide +kernel
theorem dX6_cell_9 : decode cX6_cell 9 = .ok (.invokevirtual 50, 3) := by decide +kernel
theorem dX6_cell_12 : decode cX6_cell 12 = .ok (.ifCond .eq 17, 3) := by decide +kernel
theorem dX6_cell_15 : decode cX6_cell 15 = .ok (.aload_n 0, 1) := by decide +kernel
theorem dX6_cell_16 : decode cX6_cell 16 = .ok (.getfield 9, 3) := by decide +kernel
theorem dX6_cell_19 : decode cX6_cell 19 = .ok (.iload_n 1, 1) := by decide +kernel
theorem dX6_cell_20 : decode cX6_cell 20 = .ok (.iload_n 2, 1) := by decide +kernel
theorem dX6_cell_21 : decode cX6_cell 21 = .ok (.iload_n 3, 1) := by decide +kernel
theorem dX6_cell_22 : decode cX6_cell 22 = .ok (.invokestatic 72, 3) := by decide +kernel
theorem dX6_cell_25 : decode cX6_cell 25 = .ok (.iaload, 1) := by decide +kernel
theorem dX6_cell_26 : decode cX6_cell 26 = .ok (.goto 8, 3) := by decide +kernel
theorem dX6_cell_29 : decode cX6_cell 29 = .ok (.aload_n 0, 1) := by decide +kernel
theorem dX6_cell_30 : decode cX6_cell 30 = .ok (.iconst 1, 1) := by decide +kernel
theorem dX6_cell_31 : decode cX6_cell 31 = .ok (.invokevirtual 62, 3) := by decide +kernel
theorem dX6_cell_34 : decode cX6_cell 34 = .ok (.ireturn, 1) := by decide +kernel
theorem dX6_isOf_0 : decode cX6_isOf 0 = .ok (.aload_n 0, 1) := by decide +kernel
theorem dX6_isOf_1 : decode cX6_isOf 1 = .ok (.iload_n 1, 1) := by decide +kernel
theorem dX6_isOf_2 : decode cX6_isOf 2 = .ok (.iload_n 2, 1) := by decide +kernel
theorem dX6_isOf_3 : decode cX6_isOf 3 = .ok (.iload_n 3, 1) := by decide +kernel
theorem dX6_isOf_4 : decode cX6_isOf 4 = .ok (.invokevirtual 50, 3) := by decide +kernel
theorem dX6_isOf_7 : decode cX6_isOf 7 = .ok (.ifCond .eq 23, 3) := by decide +kernel
theorem dX6_isOf_10 : decode cX6_isOf 10 = .ok (.aload_n 0, 1) := by decide +kernel
theorem dX6_isOf_11 : decode cX6_isOf 11 = .ok (.getfield 9, 3) := by decide +kernel
theorem dX6_isOf_14 : decode cX6_isOf 14 = .ok (.iload_n 1, 1) := by decide +kernel
theorem dX6_isOf_15 : decode cX6_isOf 15 = .ok (.iload_n 2, 1) := by decide +kernel
theorem dX6_isOf_16 : decode cX6_isOf 16 = .ok (.iload_n 3, 1) := by decide +kernel
theorem dX6_isOf_17 : decode cX6_isOf 17 = .ok (.invokestatic 72, 3) := by decide +kernel
theorem dX6_isOf_20 : decode cX6_isOf 20 = .ok (.iaload, 1) := by decide +kernel
theorem dX6_isOf_21 : decode cX6_isOf 21 = .ok (.iload 4, 2) := by decide +kernel
theorem dX6_isOf_23 : decode cX6_isOf 23 = .ok (.if_icmp .ne 7, 3) := by decide +kernel
theorem dX6_isOf_26 : decode cX6_isOf 26 = .ok (.iconst 1, 1) := by decide +kernel
theorem dX6_isOf_27 : decode cX6_isOf 27 = .ok (.goto 4, 3) := by decide +kernel
theorem dX6_isOf_30 : decode cX6_isOf 30 = .ok (.iconst 0, 1) := by decide +kernel
theorem dX6_isOf_31 : decode cX6_isOf 31 = .ok (.ireturn, 1) := by decide +kernel
theorem dX6_isSurface_0 : decode cX6_isSurface 0 = .ok (.iload_n 1, 1) := by decide +kernel
theorem dX6_isSurface_1 : decode cX6_isSurface 1 = .ok (.bipush 10, 2) := by decide +kernel
theorem dX6_isSurface_3 : decode cX6_isSurface 3 = .ok (.irem, 1) := by decide +kernel
theorem dX6_isSurface_4 : decode cX6_isSurface 4 = .ok (.istore_n 2, 1) := by decide +kernel
theorem dX6_isSurface_5 : decode cX6_isSurface 5 = .ok (.iload_n 1, 1) := by decide +kernel
theorem dX6_isSurface_6 : decode cX6_isSurface 6 = .ok (.bipush 10, 2) := by decide +kernel
theorem dX6_isSurface_8 : decode cX6_isSurface 8 = .ok (.idiv, 1) := by decide +kernel
theorem dX6_isSurface_9 : decode cX6_isSurface 9 = .ok (.bipush 10, 2) := by decide +kernel
theorem dX6_isSurface_11 : decode cX6_isSurface 11 = .ok (.irem, 1) := by decide +kernel
theorem dX6_isSurface_12 : decode cX6_isSurface 12 = .ok (.istore_n 3, 1) := by decide +kernel
theorem dX6_isSurface_13 : decode cX6_isSurface 13 = .ok (.iload_n 1, 1) := by decide +kernel
theorem dX6_isSurface_14 : decode cX6_isSurface 14 = .ok (.bipush 10, 2) := by decide +kernel
theorem dX6_isSurface_16 : decode cX6_isSurface 16 = .ok (.idiv, 1) := by decide +kernel
theorem dX6_isSurface_17 : decode cX6_isSurface 17 = .ok (.bipush 10, 2) := by decide +kernel
theorem dX6_isSurface_19 : decode cX6_isSurface 19 = .ok (.idiv, 1) := by decide +kernel
theorem dX6_isSurface_20 : decode cX6_isSurface 20 = .ok (.istore 4, 2) := by decide +kernel
theorem dX6_isSurface_22 : decode cX6_isSurface 22 = .ok (.aload_n 0, 1) := by decide +kernel
theorem dX6_isSurface_23 : decode cX6_isSurface 23 = .ok (.getfield 9, 3) := by decide +kernel
theorem dX6_isSurface_26 : decode cX6_isSurface 26 = .ok (.iload_n 1, 1) := by decide +kernel
theorem dX6_isSurface_27 : decode cX6_isSurface 27 = .ok (.iaload, 1) := by decide +kernel
theorem dX6_isSurface_28 : decode cX6_isSurface 28 = .ok (.istore 5, 2) := by decide +kernel
theorem dX6_isSurface_30 : decode cX6_isSurface 30 = .ok (.aload_n 0, 1) := by decide +kernel
theorem dX6_isSurface_31 : decode cX6_isSurface 31 = .ok (.iload_n 2, 1) := by decide +kernel
theorem dX6_isSurface_32 : decode cX6_isSurface 32 = .ok (.iconst 1, 1) := by decide +kernel
theorem dX6_isSurface_33 : decode cX6_isSurface 33 = .ok (.isub, 1) := by decide +kernel
theorem dX6_isSurface_34 : decode cX6_isSurface 34 = .ok (.iload_n 3, 1) := by decide +kernel
theorem dX6_isSurface_35 : decode cX6_isSurface 35 = .ok (.iload 4, 2) := by decide +kernel
theorem dX6_isSurface_37 : decode cX6_isSurface 37 = .ok (.iload 5, 2) := by decide +kernel
theorem dX6_isSurface_39 : decode cX6_isSurface 39 = .ok (.invokevirtual 76, 3) := by decide +kernel
theorem dX6_isSurface_42 : decode cX6_isSurface 42 = .ok (.ifCond .eq 78, 3) := by decide +kernel
theorem dX6_isSurface_45 : decode cX6_isSurface 45 = .ok (.aload_n 0, 1) := by decide +kernel
theorem dX6_isSurface_46 : decode cX6_isSurface 46 = .ok (.iload_n 2, 1) := by decide +kernel
theorem dX6_isSurface_47 : decode cX6_isSurface 47 = .ok (.iconst 1, 1) := by decide +kernel
theorem dX6_isSurface_48 : decode cX6_isSurface 48 = .ok (.iadd, 1) := by decide +kernel
theorem dX6_isSurface_49 : decode cX6_isSurface 49 = .ok (.iload_n 3, 1) := by decide +kernel
theorem dX6_isSurface_50 : decode cX6_isSurface 50 = .ok (.iload 4, 2) := by decide +kernel
theorem dX6_isSurface_52 : decode cX6_isSurface 52 = .ok (.iload 5, 2) := by decide +kernel
theorem dX6_isSurface_54 : decode cX6_isSurface 54 = .ok (.invokevirtual 76, 3) := by decide +kernel
theorem dX6_isSurface_57 : decode cX6_isSurface 57 = .ok (.ifCond .eq 63, 3) := by decide +kernel
theorem dX6_isSurface_60 : decode cX6_isSurface 60 = .ok (.aload_n 0, 1) := by decide +kernel
theorem dX6_isSurface_61 : decode cX6_isSurface 61 = .ok (.iload_n 2, 1) := by decide +kernel
theorem dX6_isSurface_62 : decode cX6_isSurface 62 = .ok (.iload_n 3, 1) := by decide +kernel
theorem dX6_isSurface_63 : decode cX6_isSurface 63 = .ok (.iconst 1, 1) := by decide +kernel
theorem dX6_isSurface_64 : decode cX6_isSurface 64 = .ok (.isub, 1) := by decide +kernel
theorem dX6_isSurface_65 : decode cX6_isSurface 65 = .ok (.iload 4, 2) := by decide +kernel
theorem dX6_isSurface_67 : decode cX6_isSurface 67 = .ok (.iload 5, 2) := by decide +kernel
theorem dX6_isSurface_69 : decode cX6_isSurface 69 = .ok (.invokevirtual 76, 3) := by decide +kernel
theorem dX6_isSurface_72 : decode cX6_isSurface 72 = .ok (.ifCond .eq 48, 3) := by decide +kernel
theorem dX6_isSurface_75 : decode cX6_isSurface 75 = .ok (.aload_n 0, 1) := by decide +kernel
theorem dX6_isSurface_76 : decode cX6_isSurface 76 = .ok (.iload_n 2, 1) := by decide +kernel
theorem dX6_isSurface_77 : decode cX6_isSurface 77 = .ok (.iload_n 3, 1) := by decide +kernel
theorem dX6_isSurface_78 : decode cX6_isSurface 78 = .ok (.iconst 1, 1) := by decide +kernel
theorem dX6_isSurface_79 : decode cX6_isSurface 79 = .ok (.iadd, 1) := by decide +kernel
theorem dX6_isSurface_80 : decode cX6_isSurface 80 = .ok (.iload 4, 2) := by decide +kernel
theorem dX6_isSurface_82 : decode cX6_isSurface 82 = .ok (.iload 5, 2) := by decide +kernel
theorem dX6_isSurface_84 : decode cX6_isSurface 84 = .ok (.invokevirtual 76, 3) := by decide +kernel
theorem dX6_isSurface_87 : decode cX6_isSurface 87 = .ok (.ifCond .eq 33, 3) := by decide +kernel
theorem dX6_isSurface_90 : decode cX6_isSurface 90 = .ok (.aload_n 0, 1) := by decide +kernel
theorem dX6_isSurface_91 : decode cX6_isSurface 91 = .ok (.iload_n 2, 1) := by decide +kernel
theorem dX6_isSurface_92 : decode cX6_isSurface 92 = .ok (.iload_n 3, 1) := by decide +kernel
theorem dX6_isSurface_93 : decode cX6_isSurface 93 = .ok (.iload 4, 2) := by decide +kernel
theorem dX6_isSurface_95 : decode cX6_isSurface 95 = .ok (.iconst 1, 1) := by decide +kernel
theorem dX6_isSurface_96 : decode cX6_isSurface 96 = .ok (.isub, 1) := by decide +kernel
theorem dX6_isSurface_97 : decode cX6_isSurface 97 = .ok (.iload 5, 2) := by decide +kernel
theorem dX6_isSurface_99 : decode cX6_isSurface 99 = .ok (.invokevirtual 76, 3) := by decide +kernel
theorem dX6_isSurface_102 : decode cX6_isSurface 102 = .ok (.ifCond .eq 18, 3) := by decide +kernel
theorem dX6_isSurface_105 : decode cX6_isSurface 105 = .ok (.aload_n 0, 1) := by decide +kernel
theorem dX6_isSurface_106 : decode cX6_isSurface 106 = .ok (.iload_n 2, 1) := by decide +kernel
theorem dX6_isSurface_107 : decode cX6_isSurface 107 = .ok (.iload_n 3, 1) := by decide +kernel
theorem dX6_isSurface_108 : decode cX6_isSurface 108 = .ok (.iload 4, 2) := by decide +kernel
theorem dX6_isSurface_110 : decode cX6_isSurface 110 = .ok (.iconst 1, 1) := by decide +kernel
theorem dX6_isSurface_111 : decode cX6_isSurface 111 = .ok (.iadd, 1) := by decide +kernel
theorem dX6_isSurface_112 : decode cX6_isSurface 112 = .ok (.iload 5, 2) := by decide +kernel
theorem dX6_isSurface_114 : decode cX6_isSurface 114 = .ok (.invokevirtual 76, 3) := by decide +kernel
theorem dX6_isSurface_117 : decode cX6_isSurface 117 = .ok (.ifCond .ne 7, 3) := by decide +kernel
theorem dX6_isSurface_120 : decode cX6_isSurface 120 = .ok (.iconst 1, 1) := by decide +kernel
theorem dX6_isSurface_121 : decode cX6_isSurface 121 = .ok (.goto 4, 3) := by decide +kernel
theorem dX6_isSurface_124 : decode cX6_isSurface 124 = .ok (.iconst 0, 1) := by decide +kernel
theorem dX6_isSurface_125 : decode cX6_isSurface 125 = .ok (.ireturn, 1) := by decide +kernel
theorem dX6_isFlawed_0 : decode cX6_isFlawed 0 = .ok (.iload_n 2, 1) := by decide +kernel
theorem dX6_isFlawed_1 : decode cX6_isFlawed 1 = .ok (.bipush 10, 2) := by decide +kernel
theorem dX6_isFlawed_3 : decode cX6_isFlawed 3 = .ok (.irem, 1) := by decide +kernel
theorem dX6_isFlawed_4 : decode cX6_isFlawed 4 = .ok (.aload_n 0, 1) := by decide +kernel
theorem dX6_isFlawed_5 : decode cX6_isFlawed 5 = .ok (.iload_n 1, 1) := by decide +kernel
theorem dX6_isFlawed_6 : decode cX6_isFlawed 6 = .ok (.iconst 0, 1) := by decide +kernel
theorem dX6_isFlawed_7 : decode cX6_isFlawed 7 = .ok (.invokevirtual 80, 3) := by decide +kernel
theorem dX6_isFlawed_10 : decode cX6_isFlawed 10 = .ok (.isub, 1) := by decide +kernel
theorem dX6_isFlawed_11 : decode cX6_isFlawed 11 = .ok (.invokestatic 84, 3) := by decide +kernel
theorem dX6_isFlawed_14 : decode cX6_isFlawed 14 = .ok (.iload_n 2, 1) := by decide +kernel
theorem dX6_isFlawed_15 : decode cX6_isFlawed 15 = .ok (.bipush 10, 2) := by decide +kernel
theorem dX6_isFlawed_17 : decode cX6_isFlawed 17 = .ok (.idiv, 1) := by decide +kernel
theorem dX6_isFlawed_18 : decode cX6_isFlawed 18 = .ok (.bipush 10, 2) := by decide +kernel
theorem dX6_isFlawed_20 : decode cX6_isFlawed 20 = .ok (.irem, 1) := by decide +kernel
theorem dX6_isFlawed_21 : decode cX6_isFlawed 21 = .ok (.aload_n 0, 1) := by decide +kernel
theorem dX6_isFlawed_22 : decode cX6_isFlawed 22 = .ok (.iload_n 1, 1) := by decide +kernel
theorem dX6_isFlawed_23 : decode cX6_isFlawed 23 = .ok (.iconst 1, 1) := by decide +kernel
theorem dX6_isFlawed_24 : decode cX6_isFlawed 24 = .ok (.invokevirtual 80, 3) := by decide +kernel
theorem dX6_isFlawed_27 : decode cX6_isFlawed 27 = .ok (.isub, 1) := by decide +kernel
theorem dX6_isFlawed_28 : decode cX6_isFlawed 28 = .ok (.invokestatic 84, 3) := by decide +kernel
theorem dX6_isFlawed_31 : decode cX6_isFlawed 31 = .ok (.iadd, 1) := by decide +kernel
theorem dX6_isFlawed_32 : decode cX6_isFlawed 32 = .ok (.iload_n 2, 1) := by decide +kernel
theorem dX6_isFlawed_33 : decode cX6_isFlawed 33 = .ok (.bipush 10, 2) := by decide +kernel
theorem dX6_isFlawed_35 : decode cX6_isFlawed 35 = .ok (.idiv, 1) := by decide +kernel
theorem dX6_isFlawed_36 : decode cX6_isFlawed 36 = .ok (.bipush 10, 2) := by decide +kernel
theorem dX6_isFlawed_38 : decode cX6_isFlawed 38 = .ok (.idiv, 1) := by decide +kernel
theorem dX6_isFlawed_39 : decode cX6_isFlawed 39 = .ok (.aload_n 0, 1) := by decide +kernel
theorem dX6_isFlawed_40 : decode cX6_isFlawed 40 = .ok (.iload_n 1, 1) := by decide +kernel
theorem dX6_isFlawed_41 : decode cX6_isFlawed 41 = .ok (.iconst 2, 1) := by decide +kernel
theorem dX6_isFlawed_42 : decode cX6_isFlawed 42 = .ok (.invokevirtual 80, 3) := by decide +kernel
theorem dX6_isFlawed_45 : decode cX6_isFlawed 45 = .ok (.isub, 1) := by decide +kernel
theorem dX6_isFlawed_46 : decode cX6_isFlawed 46 = .ok (.invokestatic 84, 3) := by decide +kernel
theorem dX6_isFlawed_49 : decode cX6_isFlawed 49 = .ok (.iadd, 1) := by decide +kernel
theorem dX6_isFlawed_50 : decode cX6_isFlawed 50 = .ok (.aload_n 0, 1) := by decide +kernel
theorem dX6_isFlawed_51 : decode cX6_isFlawed 51 = .ok (.iload_n 1, 1) := by decide +kernel
theorem dX6_isFlawed_52 : decode cX6_isFlawed 52 = .ok (.iconst 3, 1) := by decide +kernel
theorem dX6_isFlawed_53 : decode cX6_isFlawed 53 = .ok (.invokevirtual 80, 3) := by decide +kernel
theorem dX6_isFlawed_56 : decode cX6_isFlawed 56 = .ok (.if_icmp .gt 7, 3) := by decide +kernel
theorem dX6_isFlawed_59 : decode cX6_isFlawed 59 = .ok (.iconst 1, 1) := by decide +kernel
theorem dX6_isFlawed_60 : decode cX6_isFlawed 60 = .ok (.goto 4, 3) := by decide +kernel
theorem dX6_isFlawed_63 : decode cX6_isFlawed 63 = .ok (.iconst 0, 1) := by decide +kernel
theorem dX6_isFlawed_64 : decode cX6_isFlawed 64 = .ok (.ireturn, 1) := by decide +kernel
theorem dX6_flawCells_0 : decode cX6_flawCells 0 = .ok (.iconst 0, 1) := by decide +kernel
theorem dX6_flawCells_1 : decode cX6_flawCells 1 = .ok (.istore 4, 2) := by decide +kernel
theorem dX6_flawCells_3 : decode cX6_flawCells 3 = .ok (.iconst 0, 1) := by decide +kernel
theorem dX6_flawCells_4 : decode cX6_flawCells 4 = .ok (.istore 5, 2) := by decide +kernel
theorem dX6_flawCells_6 : decode cX6_flawCells 6 = .ok (.iload 5, 2) := by decide +kernel
theorem dX6_flawCells_8 : decode cX6_flawCells 8 = .ok (.sipush 1000, 3) := by decide +kernel
theorem dX6_flawCells_11 : decode cX6_flawCells 11 = .ok (.if_icmp .ge 53, 3) := by decide +kernel
theorem dX6_flawCells_14 : decode cX6_flawCells 14 = .ok (.iload 4, 2) := by decide +kernel
theorem dX6_flawCells_16 : decode cX6_flawCells 16 = .ok (.aload_n 0, 1) := by decide +kernel
theorem dX6_flawCells_17 : decode cX6_flawCells 17 = .ok (.getfield 9, 3) := by decide +kernel
theorem dX6_flawCells_20 : decode cX6_flawCells 20 = .ok (.iload 5, 2) := by decide +kernel
theorem dX6_flawCells_22 : decode cX6_flawCells 22 = .ok (.iaload, 1) := by decide +kernel
theorem dX6_flawCells_23 : decode cX6_flawCells 23 = .ok (.iload_n 2, 1) := by decide +kernel
theorem dX6_flawCells_24 : decode cX6_flawCells 24 = .ok (.if_icmp .ne 30, 3) := by decide +kernel
theorem dX6_flawCells_27 : decode cX6_flawCells 27 = .ok (.aload_n 0, 1) := by decide +kernel
theorem dX6_flawCells_28 : decode cX6_flawCells 28 = .ok (.iload_n 1, 1) := by decide +kernel
theorem dX6_flawCells_29 : decode cX6_flawCells 29 = .ok (.iload 5, 2) := by decide +kernel
theorem dX6_flawCells_31 : decode cX6_flawCells 31 = .ok (.invokevirtual 89, 3) := by decide +kernel
theorem dX6_flawCells_34 : decode cX6_flawCells 34 = .ok (.ifCond .eq 20, 3) := by decide +kernel
theorem dX6_flawCells_37 : decode cX6_flawCells 37 = .ok (.iload_n 3, 1) := by decide +kernel
theorem dX6_flawCells_38 : decode cX6_flawCells 38 = .ok (.ifCond .eq 12, 3) := by decide +kernel
theorem dX6_flawCells_41 : decode cX6_flawCells 41 = .ok (.aload_n 0, 1) := by decide +kernel
theorem dX6_flawCells_42 : decode cX6_flawCells 42 = .ok (.iload 5, 2) := by decide +kernel
theorem dX6_flawCells_44 : decode cX6_flawCells 44 = .ok (.invokevirtual 93, 3) := by decide +kernel
theorem dX6_flawCells_47 : decode cX6_flawCells 47 = .ok (.ifCond .eq 7, 3) := by decide +kernel
theorem dX6_flawCells_50 : decode cX6_flawCells 50 = .ok (.iconst 1, 1) := by decide +kernel
theorem dX6_flawCells_51 : decode cX6_flawCells 51 = .ok (.goto 4, 3) := by decide +kernel
theorem dX6_flawCells_54 : decode cX6_flawCells 54 = .ok (.iconst 0, 1) := by decide +kernel
theorem dX6_flawCells_55 : decode cX6_flawCells 55 = .ok (.iadd, 1) := by decide +kernel
theorem dX6_flawCells_56 : decode cX6_flawCells 56 = .ok (.istore 4, 2) := by decide +kernel
theorem dX6_flawCells_58 : decode cX6_flawCells 58 = .ok (.iinc 5 1, 3) := by decide +kernel
theorem dX6_flawCells_61 : decode cX6_flawCells 61 = .ok (.goto (-55), 3) := by decide +kernel
theorem dX6_flawCells_64 : decode cX6_flawCells 64 = .ok (.iload 4, 2) := by decide +kernel
theorem dX6_flawCells_66 : decode cX6_flawCells 66 = .ok (.ireturn, 1) := by decide +kernel
theorem dX6_flawTold_0 : decode cX6_flawTold 0 = .ok (.iload_n 3, 1) := by decide +kernel
theorem dX6_flawTold_1 : decode cX6_flawTold 1 = .ok (.iconst 2, 1) := by decide +kernel
theorem dX6_flawTold_2 : decode cX6_flawTold 2 = .ok (.if_icmp .ge 20, 3) := by decide +kernel
theorem dX6_flawTold_5 : decode cX6_flawTold 5 = .ok (.aload_n 0, 1) := by decide +kernel
theorem dX6_flawTold_6 : decode cX6_flawTold 6 = .ok (.iload_n 1, 1) := by decide +kernel
theorem dX6_flawTold_7 : decode cX6_flawTold 7 = .ok (.iload_n 2, 1) := by decide +kernel
theorem dX6_flawTold_8 : decode cX6_flawTold 8 = .ok (.iload_n 3, 1) := by decide +kernel
theorem dX6_flawTold_9 : decode cX6_flawTold 9 = .ok (.iconst 1, 1) := by decide +kernel
theorem dX6_flawTold_10 : decode cX6_flawTold 10 = .ok (.if_icmp .ne 7, 3) := by decide +kernel
theorem dX6_flawTold_13 : decode cX6_flawTold 13 = .ok (.iconst 1, 1) := by decide +kernel
theorem dX6_flawTold_14 : decode cX6_flawTold 14 = .ok (.goto 4, 3) := by decide +kernel
theorem dX6_flawTold_17 : decode cX6_flawTold 17 = .ok (.iconst 0, 1) := by decide +kernel
theorem dX6_flawTold_18 : decode cX6_flawTold 18 = .ok (.invokevirtual 96, 3) := by decide +kernel
theorem dX6_flawTold_21 : decode cX6_flawTold 21 = .ok (.ireturn, 1) := by decide +kernel
theorem dX6_flawTold_22 : decode cX6_flawTold 22 = .ok (.aload_n 0, 1) := by decide +kernel
theorem dX6_flawTold_23 : decode cX6_flawTold 23 = .ok (.iload_n 1, 1) := by decide +kernel
theorem dX6_flawTold_24 : decode cX6_flawTold 24 = .ok (.iload_n 2, 1) := by decide +kernel
theorem dX6_flawTold_25 : decode cX6_flawTold 25 = .ok (.iconst 0, 1) := by decide +kernel
theorem dX6_flawTold_26 : decode cX6_flawTold 26 = .ok (.invokevirtual 96, 3) := by decide +kernel
theorem dX6_flawTold_29 : decode cX6_flawTold 29 = .ok (.ifCond .ne 7, 3) := by decide +kernel
theorem dX6_flawTold_32 : decode cX6_flawTold 32 = .ok (.iconst (-1), 1) := by decide +kernel
theorem dX6_flawTold_33 : decode cX6_flawTold 33 = .ok (.goto 18, 3) := by decide +kernel
theorem dX6_flawTold_36 : decode cX6_flawTold 36 = .ok (.aload_n 0, 1) := by decide +kernel
theorem dX6_flawTold_37 : decode cX6_flawTold 37 = .ok (.iload_n 1, 1) := by decide +kernel
theorem dX6_flawTold_38 : decode cX6_flawTold 38 = .ok (.iload_n 2, 1) := by decide +kernel
theorem dX6_flawTold_39 : decode cX6_flawTold 39 = .ok (.iconst 1, 1) := by decide +kernel
theorem dX6_flawTold_40 : decode cX6_flawTold 40 = .ok (.invokevirtual 96, 3) := by decide +kernel
theorem dX6_flawTold_43 : decode cX6_flawTold 43 = .ok (.ifCond .le 7, 3) := by decide +kernel
theorem dX6_flawTold_46 : decode cX6_flawTold 46 = .ok (.iconst 1, 1) := by decide +kernel
theorem dX6_flawTold_47 : decode cX6_flawTold 47 = .ok (.goto 4, 3) := by decide +kernel
theorem dX6_flawTold_50 : decode cX6_flawTold 50 = .ok (.iconst 0, 1) := by decide +kernel
theorem dX6_flawTold_51 : decode cX6_flawTold 51 = .ok (.ireturn, 1) := by decide +kernel
theorem dX6_flawIn_0 : decode cX6_flawIn 0 = .ok (.aload_n 0, 1) := by decide +kernel
theorem dX6_flawIn_1 : decode cX6_flawIn 1 = .ok (.iconst 0, 1) := by decide +kernel
theorem dX6_flawIn_2 : decode cX6_flawIn 2 = .ok (.putfield 26, 3) := by decide +kernel
theorem dX6_flawIn_5 : decode cX6_flawIn 5 = .ok (.iload_n 1, 1) := by decide +kernel
theorem dX6_flawIn_6 : decode cX6_flawIn 6 = .ok (.iconst 0, 1) := by decide +kernel
theorem dX6_flawIn_7 : decode cX6_flawIn 7 = .ok (.aload_n 0, 1) := by decide +kernel
theorem dX6_flawIn_8 : decode cX6_flawIn 8 = .ok (.getfield 53, 3) := by decide +kernel
theorem dX6_flawIn_11 : decode cX6_flawIn 11 = .ok (.iconst 1, 1) := by decide +kernel
theorem dX6_flawIn_12 : decode cX6_flawIn 12 = .ok (.isub, 1) := by decide +kernel
theorem dX6_flawIn_13 : decode cX6_flawIn 13 = .ok (.invokestatic 33, 3) := by decide +kernel
theorem dX6_flawIn_16 : decode cX6_flawIn 16 = .ok (.ifCond .eq 30, 3) := by decide +kernel
theorem dX6_flawIn_19 : decode cX6_flawIn 19 = .ok (.aload_n 0, 1) := by decide +kernel
theorem dX6_flawIn_20 : decode cX6_flawIn 20 = .ok (.iload_n 2, 1) := by decide +kernel
theorem dX6_flawIn_21 : decode cX6_flawIn 21 = .ok (.invokevirtual 46, 3) := by decide +kernel
theorem dX6_flawIn_24 : decode cX6_flawIn 24 = .ok (.ifCond .eq 22, 3) := by decide +kernel
theorem dX6_flawIn_27 : decode cX6_flawIn 27 = .ok (.iload_n 3, 1) := by decide +kernel
theorem dX6_flawIn_28 : decode cX6_flawIn 28 = .ok (.iconst 0, 1) := by decide +kernel
theorem dX6_flawIn_29 : decode cX6_flawIn 29 = .ok (.iconst 2, 1) := by decide +kernel
theorem dX6_flawIn_30 : decode cX6_flawIn 30 = .ok (.invokestatic 33, 3) := by decide +kernel
theorem dX6_flawIn_33 : decode cX6_flawIn 33 = .ok (.ifCond .eq 13, 3) := by decide +kernel
theorem dX6_flawIn_36 : decode cX6_flawIn 36 = .ok (.aload_n 0, 1) := by decide +kernel
theorem dX6_flawIn_37 : decode cX6_flawIn 37 = .ok (.iload_n 1, 1) := by decide +kernel
theorem dX6_flawIn_38 : decode cX6_flawIn 38 = .ok (.iload_n 2, 1) := by decide +kernel
theorem dX6_flawIn_39 : decode cX6_flawIn 39 = .ok (.iload_n 3, 1) := by decide +kernel
theorem dX6_flawIn_40 : decode cX6_flawIn 40 = .ok (.invokevirtual 100, 3) := by decide +kernel
theorem dX6_flawIn_43 : decode cX6_flawIn 43 = .ok (.goto 8, 3) := by decide +kernel
theorem dX6_flawIn_46 : decode cX6_flawIn 46 = .ok (.aload_n 0, 1) := by decide +kernel
theorem dX6_flawIn_47 : decode cX6_flawIn 47 = .ok (.iconst 1, 1) := by decide +kernel
theorem dX6_flawIn_48 : decode cX6_flawIn 48 = .ok (.invokevirtual 62, 3) := by decide +kernel
theorem dX6_flawIn_51 : decode cX6_flawIn 51 = .ok (.ireturn, 1) := by decide +kernel
theorem dX6_height_0 : decode cX6_height 0 = .ok (.iload_n 1, 1) := by decide +kernel
theorem dX6_height_1 : decode cX6_height 1 = .ok (.iload_n 0, 1) := by decide +kernel
theorem dX6_height_2 : decode cX6_height 2 = .ok (.bipush 10, 2) := by decide +kernel
theorem dX6_height_4 : decode cX6_height 4 = .ok (.irem, 1) := by decide +kernel
theorem dX6_height_5 : decode cX6_height 5 = .ok (.imul, 1) := by decide +kernel
theorem dX6_height_6 : decode cX6_height 6 = .ok (.iload_n 2, 1) := by decide +kernel
theorem dX6_height_7 : decode cX6_height 7 = .ok (.iload_n 0, 1) := by decide +kernel
theorem dX6_height_8 : decode cX6_height 8 = .ok (.bipush 10, 2) := by decide +kernel
theorem dX6_height_10 : decode cX6_height 10 = .ok (.idiv, 1) := by decide +kernel
theorem dX6_height_11 : decode cX6_height 11 = .ok (.bipush 10, 2) := by decide +kernel
theorem dX6_height_13 : decode cX6_height 13 = .ok (.irem, 1) := by decide +kernel
theorem dX6_height_14 : decode cX6_height 14 = .ok (.imul, 1) := by decide +kernel
theorem dX6_height_15 : decode cX6_height 15 = .ok (.iadd, 1) := by decide +kernel
theorem dX6_height_16 : decode cX6_height 16 = .ok (.iload_n 3, 1) := by decide +kernel
theorem dX6_height_17 : decode cX6_height 17 = .ok (.iload_n 0, 1) := by decide +kernel
theorem dX6_height_18 : decode cX6_height 18 = .ok (.bipush 10, 2) := by decide +kernel
theorem dX6_height_20 : decode cX6_height 20 = .ok (.idiv, 1) := by decide +kernel
theorem dX6_height_21 : decode cX6_height 21 = .ok (.bipush 10, 2) := by decide +kernel
theorem dX6_height_23 : decode cX6_height 23 = .ok (.idiv, 1) := by decide +kernel
theorem dX6_height_24 : decode cX6_height 24 = .ok (.imul, 1) := by decide +kernel
theorem dX6_height_25 : decode cX6_height 25 = .ok (.iadd, 1) := by decide +kernel
theorem dX6_height_26 : decode cX6_height 26 = .ok (.ireturn, 1) := by decide +kernel
theorem dX6_isTilt_0 : decode cX6_isTilt 0 = .ok (.iload_n 0, 1) := by decide +kernel
theorem dX6_isTilt_1 : decode cX6_isTilt 1 = .ok (.bipush (-3), 2) := by decide +kernel
theorem dX6_isTilt_3 : decode cX6_isTilt 3 = .ok (.iconst 3, 1) := by decide +kernel
theorem dX6_isTilt_4 : decode cX6_isTilt 4 = .ok (.invokestatic 33, 3) := by decide +kernel
theorem dX6_isTilt_7 : decode cX6_isTilt 7 = .ok (.ifCond .eq 50, 3) := by decide +kernel
theorem dX6_isTilt_10 : decode cX6_isTilt 10 = .ok (.iload_n 1, 1) := by decide +kernel
theorem dX6_isTilt_11 : decode cX6_isTilt 11 = .ok (.bipush (-3), 2) := by decide +kernel
theorem dX6_isTilt_13 : decode cX6_isTilt 13 = .ok (.iconst 3, 1) := by decide +kernel
theorem dX6_isTilt_14 : decode cX6_isTilt 14 = .ok (.invokestatic 33, 3) := by decide +kernel
theorem dX6_isTilt_17 : decode cX6_isTilt 17 = .ok (.ifCond .eq 40, 3) := by decide +kernel
theorem dX6_isTilt_20 : decode cX6_isTilt 20 = .ok (.iload_n 2, 1) := by decide +kernel
theorem dX6_isTilt_21 : decode cX6_isTilt 21 = .ok (.bipush (-3), 2) := by decide +kernel
theorem dX6_isTilt_23 : decode cX6_isTilt 23 = .ok (.iconst 3, 1) := by decide +kernel
theorem dX6_isTilt_24 : decode cX6_isTilt 24 = .ok (.invokestatic 33, 3) := by decide +kernel
theorem dX6_isTilt_27 : decode cX6_isTilt 27 = .ok (.ifCond .eq 30, 3) := by decide +kernel
theorem dX6_isTilt_30 : decode cX6_isTilt 30 = .ok (.iload_n 0, 1) := by decide +kernel
theorem dX6_isTilt_31 : decode cX6_isTilt 31 = .ok (.ifCond .ne 11, 3) := by decide +kernel
theorem dX6_isTilt_34 : decode cX6_isTilt 34 = .ok (.iload_n 1, 1) := by decide +kernel
theorem dX6_isTilt_35 : decode cX6_isTilt 35 = .ok (.ifCond .ne 7, 3) := by decide +kernel
theorem dX6_isTilt_38 : decode cX6_isTilt 38 = .ok (.iload_n 2, 1) := by decide +kernel
theorem dX6_isTilt_39 : decode cX6_isTilt 39 = .ok (.ifCond .eq 18, 3) := by decide +kernel
theorem dX6_isTilt_42 : decode cX6_isTilt 42 = .ok (.iload_n 3, 1) := by decide +kernel
theorem dX6_isTilt_43 : decode cX6_isTilt 43 = .ok (.bipush (-100), 2) := by decide +kernel
theorem dX6_isTilt_45 : decode cX6_isTilt 45 = .ok (.bipush 100, 2) := by decide +kernel
theorem dX6_isTilt_47 : decode cX6_isTilt 47 = .ok (.invokestatic 33, 3) := by decide +kernel
theorem dX6_isTilt_50 : decode cX6_isTilt 50 = .ok (.ifCond .eq 7, 3) := by decide +kernel
theorem dX6_isTilt_53 : decode cX6_isTilt 53 = .ok (.iconst 1, 1) := by decide +kernel
theorem dX6_isTilt_54 : decode cX6_isTilt 54 = .ok (.goto 4, 3) := by decide +kernel
theorem dX6_isTilt_57 : decode cX6_isTilt 57 = .ok (.iconst 0, 1) := by decide +kernel
theorem dX6_isTilt_58 : decode cX6_isTilt 58 = .ok (.ireturn, 1) := by decide +kernel
theorem dX6_weight_0 : decode cX6_weight 0 = .ok (.iconst 0, 1) := by decide +kernel
theorem dX6_weight_1 : decode cX6_weight 1 = .ok (.istore_n 2, 1) := by decide +kernel
theorem dX6_weight_2 : decode cX6_weight 2 = .ok (.iconst 0, 1) := by decide +kernel
theorem dX6_weight_3 : decode cX6_weight 3 = .ok (.istore_n 3, 1) := by decide +kernel
theorem dX6_weight_4 : decode cX6_weight 4 = .ok (.iload_n 3, 1) := by decide +kernel
theorem dX6_weight_5 : decode cX6_weight 5 = .ok (.sipush 1000, 3) := by decide +kernel
theorem dX6_weight_8 : decode cX6_weight 8 = .ok (.if_icmp .ge 27, 3) := by decide +kernel
theorem dX6_weight_11 : decode cX6_weight 11 = .ok (.iload_n 2, 1) := by decide +kernel
theorem dX6_weight_12 : decode cX6_weight 12 = .ok (.aload_n 0, 1) := by decide +kernel
theorem dX6_weight_13 : decode cX6_weight 13 = .ok (.getfield 9, 3) := by decide +kernel
theorem dX6_weight_16 : decode cX6_weight 16 = .ok (.iload_n 3, 1) := by decide +kernel
theorem dX6_weight_17 : decode cX6_weight 17 = .ok (.iaload, 1) := by decide +kernel
theorem dX6_weight_18 : decode cX6_weight 18 = .ok (.iload_n 1, 1) := by decide +kernel
theorem dX6_weight_19 : decode cX6_weight 19 = .ok (.if_icmp .ne 7, 3) := by decide +kernel
theorem dX6_weight_22 : decode cX6_weight 22 = .ok (.iconst 1, 1) := by decide +kernel
theorem dX6_weight_23 : decode cX6_weight 23 = .ok (.goto 4, 3) := by decide +kernel
theorem dX6_weight_26 : decode cX6_weight 26 = .ok (.iconst 0, 1) := by decide +kernel
theorem dX6_weight_27 : decode cX6_weight 27 = .ok (.iadd, 1) := by decide +kernel
theorem dX6_weight_28 : decode cX6_weight 28 = .ok (.istore_n 2, 1) := by decide +kernel
theorem dX6_weight_29 : decode cX6_weight 29 = .ok (.iinc 3 1, 3) := by decide +kernel
theorem dX6_weight_32 : decode cX6_weight 32 = .ok (.goto (-28), 3) := by decide +kernel
theorem dX6_weight_35 : decode cX6_weight 35 = .ok (.iload_n 2, 1) := by decide +kernel
theorem dX6_weight_36 : decode cX6_weight 36 = .ok (.ireturn, 1) := by decide +kernel
theorem dX6_turn_0 : decode cX6_turn 0 = .ok (.iconst 0, 1) := by decide +kernel
theorem dX6_turn_1 : decode cX6_turn 1 = .ok (.istore 7, 2) := by decide +kernel
theorem dX6_turn_3 : decode cX6_turn 3 = .ok (.iconst 0, 1) := by decide +kernel
theorem dX6_turn_4 : decode cX6_turn 4 = .ok (.istore 8, 2) := by decide +kernel
theorem dX6_turn_6 : decode cX6_turn 6 = .ok (.iload 8, 2) := by decide +kernel
theorem dX6_turn_8 : decode cX6_turn 8 = .ok (.sipush 1000, 3) := by decide +kernel
theorem dX6_turn_11 : decode cX6_turn 11 = .ok (.if_icmp .ge 49, 3) := by decide +kernel
theorem dX6_turn_14 : decode cX6_turn 14 = .ok (.aload_n 0, 1) := by decide +kernel
theorem dX6_turn_15 : decode cX6_turn 15 = .ok (.getfield 9, 3) := by decide +kernel
theorem dX6_turn_18 : decode cX6_turn 18 = .ok (.iload 8, 2) := by decide +kernel
theorem dX6_turn_20 : decode cX6_turn 20 = .ok (.iaload, 1) := by decide +kernel
theorem dX6_turn_21 : decode cX6_turn 21 = .ok (.iload_n 1, 1) := by decide +kernel
theorem dX6_turn_22 : decode cX6_turn 22 = .ok (.if_icmp .ne 32, 3) := by decide +kernel
theorem dX6_turn_25 : decode cX6_turn 25 = .ok (.iload 8, 2) := by decide +kernel
theorem dX6_turn_27 : decode cX6_turn 27 = .ok (.iload_n 2, 1) := by decide +kernel
theorem dX6_turn_28 : decode cX6_turn 28 = .ok (.iload_n 3, 1) := by decide +kernel
theorem dX6_turn_29 : decode cX6_turn 29 = .ok (.iload 4, 2) := by decide +kernel
theorem dX6_turn_31 : decode cX6_turn 31 = .ok (.invokestatic 103, 3) := by decide +kernel
theorem dX6_turn_34 : decode cX6_turn 34 = .ok (.iload 5, 2) := by decide +kernel
theorem dX6_turn_36 : decode cX6_turn 36 = .ok (.if_icmp .gt 6, 3) := by decide +kernel
theorem dX6_turn_39 : decode cX6_turn 39 = .ok (.goto 15, 3) := by decide +kernel
theorem dX6_turn_42 : decode cX6_turn 42 = .ok (.aload_n 0, 1) := by decide +kernel
theorem dX6_turn_43 : decode cX6_turn 43 = .ok (.getfield 9, 3) := by decide +kernel
theorem dX6_turn_46 : decode cX6_turn 46 = .ok (.iload 8, 2) := by decide +kernel
theorem dX6_turn_48 : decode cX6_turn 48 = .ok (.iload 6, 2) := by decide +kernel
theorem dX6_turn_50 : decode cX6_turn 50 = .ok (.iastore, 1) := by decide +kernel
theorem dX6_turn_51 : decode cX6_turn 51 = .ok (.iinc 7 1, 3) := by decide +kernel
theorem dX6_turn_54 : decode cX6_turn 54 = .ok (.iinc 8 1, 3) := by decide +kernel
theorem dX6_turn_57 : decode cX6_turn 57 = .ok (.goto (-51), 3) := by decide +kernel
theorem dX6_turn_60 : decode cX6_turn 60 = .ok (.iload 7, 2) := by decide +kernel
theorem dX6_turn_62 : decode cX6_turn 62 = .ok (.ireturn, 1) := by decide +kernel
theorem dX6_back_0 : decode cX6_back 0 = .ok (.iconst 0, 1) := by decide +kernel
theorem dX6_back_1 : decode cX6_back 1 = .ok (.istore_n 2, 1) := by decide +kernel
theorem dX6_back_2 : decode cX6_back 2 = .ok (.iload_n 2, 1) := by decide +kernel
theorem dX6_back_3 : decode cX6_back 3 = .ok (.sipush 1000, 3) := by decide +kernel
theorem dX6_back_6 : decode cX6_back 6 = .ok (.if_icmp .ge 27, 3) := by decide +kernel
theorem dX6_back_9 : decode cX6_back 9 = .ok (.aload_n 0, 1) := by decide +kernel
theorem dX6_back_10 : decode cX6_back 10 = .ok (.getfield 9, 3) := by decide +kernel
theorem dX6_back_13 : decode cX6_back 13 = .ok (.iload_n 2, 1) := by decide +kernel
theorem dX6_back_14 : decode cX6_back 14 = .ok (.iaload, 1) := by decide +kernel
theorem dX6_back_15 : decode cX6_back 15 = .ok (.bipush (-2), 2) := by decide +kernel
theorem dX6_back_17 : decode cX6_back 17 = .ok (.if_icmp .ne 10, 3) := by decide +kernel
theorem dX6_back_20 : decode cX6_back 20 = .ok (.aload_n 0, 1) := by decide +kernel
theorem dX6_back_21 : decode cX6_back 21 = .ok (.getfield 9, 3) := by decide +kernel
theorem dX6_back_24 : decode cX6_back 24 = .ok (.iload_n 2, 1) := by decide +kernel
theorem dX6_back_25 : decode cX6_back 25 = .ok (.iload_n 1, 1) := by decide +kernel
theorem dX6_back_26 : decode cX6_back 26 = .ok (.iastore, 1) := by decide +kernel
theorem dX6_back_27 : decode cX6_back 27 = .ok (.iinc 2 1, 3) := by decide +kernel
theorem dX6_back_30 : decode cX6_back 30 = .ok (.goto (-28), 3) := by decide +kernel
theorem dX6_back_33 : decode cX6_back 33 = .ok (.return_, 1) := by decide +kernel
theorem dX6_saw_0 : decode cX6_saw 0 = .ok (.aload_n 0, 1) := by decide +kernel
theorem dX6_saw_1 : decode cX6_saw 1 = .ok (.iconst 0, 1) := by decide +kernel
theorem dX6_saw_2 : decode cX6_saw 2 = .ok (.putfield 26, 3) := by decide +kernel
theorem dX6_saw_5 : decode cX6_saw 5 = .ok (.aload_n 0, 1) := by decide +kernel
theorem dX6_saw_6 : decode cX6_saw 6 = .ok (.iload_n 1, 1) := by decide +kernel
theorem dX6_saw_7 : decode cX6_saw 7 = .ok (.invokevirtual 46, 3) := by decide +kernel
theorem dX6_saw_10 : decode cX6_saw 10 = .ok (.ifCond .ne 9, 3) := by decide +kernel
theorem dX6_saw_13 : decode cX6_saw 13 = .ok (.aload_n 0, 1) := by decide +kernel
theorem dX6_saw_14 : decode cX6_saw 14 = .ok (.iconst 1, 1) := by decide +kernel
theorem dX6_saw_15 : decode cX6_saw 15 = .ok (.invokevirtual 62, 3) := by decide +kernel
theorem dX6_saw_18 : decode cX6_saw 18 = .ok (.ireturn, 1) := by decide +kernel
theorem dX6_saw_19 : decode cX6_saw 19 = .ok (.iload_n 2, 1) := by decide +kernel
theorem dX6_saw_20 : decode cX6_saw 20 = .ok (.iload_n 3, 1) := by decide +kernel
theorem dX6_saw_21 : decode cX6_saw 21 = .ok (.iload 4, 2) := by decide +kernel
theorem dX6_saw_23 : decode cX6_saw 23 = .ok (.iload 5, 2) := by decide +kernel
theorem dX6_saw_25 : decode cX6_saw 25 = .ok (.invokestatic 107, 3) := by decide +kernel
theorem dX6_saw_28 : decode cX6_saw 28 = .ok (.ifCond .ne 9, 3) := by decide +kernel
theorem dX6_saw_31 : decode cX6_saw 31 = .ok (.aload_n 0, 1) := by decide +kernel
theorem dX6_saw_32 : decode cX6_saw 32 = .ok (.iconst 2, 1) := by decide +kernel
theorem dX6_saw_33 : decode cX6_saw 33 = .ok (.invokevirtual 62, 3) := by decide +kernel
theorem dX6_saw_36 : decode cX6_saw 36 = .ok (.ireturn, 1) := by decide +kernel
theorem dX6_saw_37 : decode cX6_saw 37 = .ok (.aload_n 0, 1) := by decide +kernel
theorem dX6_saw_38 : decode cX6_saw 38 = .ok (.iload_n 1, 1) := by decide +kernel
theorem dX6_saw_39 : decode cX6_saw 39 = .ok (.invokevirtual 110, 3) := by decide +kernel
theorem dX6_saw_42 : decode cX6_saw 42 = .ok (.istore 6, 2) := by decide +kernel
theorem dX6_saw_44 : decode cX6_saw 44 = .ok (.aload_n 0, 1) := by decide +kernel
theorem dX6_saw_45 : decode cX6_saw 45 = .ok (.iload_n 1, 1) := by decide +kernel
theorem dX6_saw_46 : decode cX6_saw 46 = .ok (.iload_n 2, 1) := by decide +kernel
theorem dX6_saw_47 : decode cX6_saw 47 = .ok (.iload_n 3, 1) := by decide +kernel
theorem dX6_saw_48 : decode cX6_saw 48 = .ok (.iload 4, 2) := by decide +kernel
theorem dX6_saw_50 : decode cX6_saw 50 = .ok (.iload 5, 2) := by decide +kernel
theorem dX6_saw_52 : decode cX6_saw 52 = .ok (.bipush (-2), 2) := by decide +kernel
theorem dX6_saw_54 : decode cX6_saw 54 = .ok (.invokevirtual 113, 3) := by decide +kernel
theorem dX6_saw_57 : decode cX6_saw 57 = .ok (.istore 7, 2) := by decide +kernel
theorem dX6_saw_59 : decode cX6_saw 59 = .ok (.aload_n 0, 1) := by decide +kernel
theorem dX6_saw_60 : decode cX6_saw 60 = .ok (.iload_n 1, 1) := by decide +kernel
theorem dX6_saw_61 : decode cX6_saw 61 = .ok (.invokevirtual 117, 3) := by decide +kernel
theorem dX6_saw_64 : decode cX6_saw 64 = .ok (.aload_n 0, 1) := by decide +kernel
theorem dX6_saw_65 : decode cX6_saw 65 = .ok (.getfield 43, 3) := by decide +kernel
theorem dX6_saw_68 : decode cX6_saw 68 = .ok (.bipush 8, 2) := by decide +kernel
theorem dX6_saw_70 : decode cX6_saw 70 = .ok (.if_icmp .eq 15, 3) := by decide +kernel
theorem dX6_saw_73 : decode cX6_saw 73 = .ok (.iload 7, 2) := by decide +kernel
theorem dX6_saw_75 : decode cX6_saw 75 = .ok (.ifCond .eq 10, 3) := by decide +kernel
theorem dX6_saw_78 : decode cX6_saw 78 = .ok (.iload 7, 2) := by decide +kernel
theorem dX6_saw_80 : decode cX6_saw 80 = .ok (.iload 6, 2) := by decide +kernel
theorem dX6_saw_82 : decode cX6_saw 82 = .ok (.if_icmp .ne 9, 3) := by decide +kernel
theorem dX6_saw_85 : decode cX6_saw 85 = .ok (.aload_n 0, 1) := by decide +kernel
theorem dX6_saw_86 : decode cX6_saw 86 = .ok (.iconst 3, 1) := by decide +kernel
theorem dX6_saw_87 : decode cX6_saw 87 = .ok (.invokevirtual 62, 3) := by decide +kernel
theorem dX6_saw_90 : decode cX6_saw 90 = .ok (.ireturn, 1) := by decide +kernel
theorem dX6_saw_91 : decode cX6_saw 91 = .ok (.aload_n 0, 1) := by decide +kernel
theorem dX6_saw_92 : decode cX6_saw 92 = .ok (.iload_n 1, 1) := by decide +kernel
theorem dX6_saw_93 : decode cX6_saw 93 = .ok (.iload_n 2, 1) := by decide +kernel
theorem dX6_saw_94 : decode cX6_saw 94 = .ok (.iload_n 3, 1) := by decide +kernel
theorem dX6_saw_95 : decode cX6_saw 95 = .ok (.iload 4, 2) := by decide +kernel
theorem dX6_saw_97 : decode cX6_saw 97 = .ok (.iload 5, 2) := by decide +kernel
theorem dX6_saw_99 : decode cX6_saw 99 = .ok (.aload_n 0, 1) := by decide +kernel
theorem dX6_saw_100 : decode cX6_saw 100 = .ok (.getfield 43, 3) := by decide +kernel
theorem dX6_saw_103 : decode cX6_saw 103 = .ok (.invokevirtual 113, 3) := by decide +kernel
theorem dX6_saw_106 : decode cX6_saw 106 = .ok (.pop, 1) := by decide +kernel
theorem dX6_saw_107 : decode cX6_saw 107 = .ok (.aload_n 0, 1) := by decide +kernel
theorem dX6_saw_108 : decode cX6_saw 108 = .ok (.getfield 19, 3) := by decide +kernel
theorem dX6_saw_111 : decode cX6_saw 111 = .ok (.aload_n 0, 1) := by decide +kernel
theorem dX6_saw_112 : decode cX6_saw 112 = .ok (.getfield 43, 3) := by decide +kernel
theorem dX6_saw_115 : decode cX6_saw 115 = .ok (.iconst 0, 1) := by decide +kernel
theorem dX6_saw_116 : decode cX6_saw 116 = .ok (.iastore, 1) := by decide +kernel
theorem dX6_saw_117 : decode cX6_saw 117 = .ok (.aload_n 0, 1) := by decide +kernel
theorem dX6_saw_118 : decode cX6_saw 118 = .ok (.dup, 1) := by decide +kernel
theorem dX6_saw_119 : decode cX6_saw 119 = .ok (.getfield 43, 3) := by decide +kernel
theorem dX6_saw_122 : decode cX6_saw 122 = .ok (.iconst 1, 1) := by decide +kernel
theorem dX6_saw_123 : decode cX6_saw 123 = .ok (.iadd, 1) := by decide +kernel
theorem dX6_saw_124 : decode cX6_saw 124 = .ok (.putfield 43, 3) := by decide +kernel
theorem dX6_saw_127 : decode cX6_saw 127 = .ok (.aload_n 0, 1) := by decide +kernel
theorem dX6_saw_128 : decode cX6_saw 128 = .ok (.getfield 43, 3) := by decide +kernel
theorem dX6_saw_131 : decode cX6_saw 131 = .ok (.iconst 1, 1) := by decide +kernel
theorem dX6_saw_132 : decode cX6_saw 132 = .ok (.isub, 1) := by decide +kernel
theorem dX6_saw_133 : decode cX6_saw 133 = .ok (.ireturn, 1) := by decide +kernel
theorem dX6_put_0 : decode cX6_put 0 = .ok (.iconst 5, 1) := by decide +kernel
theorem dX6_put_1 : decode cX6_put 1 = .ok (.newarray .int, 2) := by decide +kernel
theorem dX6_put_3 : decode cX6_put 3 = .ok (.dup, 1) := by decide +kernel
theorem dX6_put_4 : decode cX6_put 4 = .ok (.iconst 0, 1) := by decide +kernel
theorem dX6_put_5 : decode cX6_put 5 = .ok (.iload_n 2, 1) := by decide +kernel
theorem dX6_put_6 : decode cX6_put 6 = .ok (.iastore, 1) := by decide +kernel
theorem dX6_put_7 : decode cX6_put 7 = .ok (.dup, 1) := by decide +kernel
theorem dX6_put_8 : decode cX6_put 8 = .ok (.iconst 1, 1) := by decide +kernel
theorem dX6_put_9 : decode cX6_put 9 = .ok (.iload_n 3, 1) := by decide +kernel
theorem dX6_put_10 : decode cX6_put 10 = .ok (.iastore, 1) := by decide +kernel
theorem dX6_put_11 : decode cX6_put 11 = .ok (.dup, 1) := by decide +kernel
theorem dX6_put_12 : decode cX6_put 12 = .ok (.iconst 2, 1) := by decide +kernel
theorem dX6_put_13 : decode cX6_put 13 = .ok (.iload 4, 2) := by decide +kernel
theorem dX6_put_15 : decode cX6_put 15 = .ok (.iastore, 1) := by decide +kernel
theorem dX6_put_16 : decode cX6_put 16 = .ok (.dup, 1) := by decide +kernel
theorem dX6_put_17 : decode cX6_put 17 = .ok (.iconst 3, 1) := by decide +kernel
theorem dX6_put_18 : decode cX6_put 18 = .ok (.iload 5, 2) := by decide +kernel
theorem dX6_put_20 : decode cX6_put 20 = .ok (.iastore, 1) := by decide +kernel
theorem dX6_put_21 : decode cX6_put 21 = .ok (.dup, 1) := by decide +kernel
theorem dX6_put_22 : decode cX6_put 22 = .ok (.iconst 4, 1) := by decide +kernel
theorem dX6_put_23 : decode cX6_put 23 = .ok (.iconst 0, 1) := by decide +kernel
theorem dX6_put_24 : decode cX6_put 24 = .ok (.iastore, 1) := by decide +kernel
theorem dX6_put_25 : decode cX6_put 25 = .ok (.astore 6, 2) := by decide +kernel
theorem dX6_put_27 : decode cX6_put 27 = .ok (.aload 6, 2) := by decide +kernel
theorem dX6_put_29 : decode cX6_put 29 = .ok (.iconst 0, 1) := by decide +kernel
theorem dX6_put_30 : decode cX6_put 30 = .ok (.aload_n 0, 1) := by decide +kernel
theorem dX6_put_31 : decode cX6_put 31 = .ok (.getfield 16, 3) := by decide +kernel
theorem dX6_put_34 : decode cX6_put 34 = .ok (.iconst 5, 1) := by decide +kernel
theorem dX6_put_35 : decode cX6_put 35 = .ok (.bipush 17, 2) := by decide +kernel
theorem dX6_put_37 : decode cX6_put 37 = .ok (.iload_n 1, 1) := by decide +kernel
theorem dX6_put_38 : decode cX6_put 38 = .ok (.imul, 1) := by decide +kernel
theorem dX6_put_39 : decode cX6_put 39 = .ok (.aload_n 0, 1) := by decide +kernel
theorem dX6_put_40 : decode cX6_put 40 = .ok (.getfield 19, 3) := by decide +kernel
theorem dX6_put_43 : decode cX6_put 43 = .ok (.iload_n 1, 1) := by decide +kernel
theorem dX6_put_44 : decode cX6_put 44 = .ok (.iaload, 1) := by decide +kernel
theorem dX6_put_45 : decode cX6_put 45 = .ok (.iadd, 1) := by decide +kernel
theorem dX6_put_46 : decode cX6_put 46 = .ok (.imul, 1) := by decide +kernel
theorem dX6_put_47 : decode cX6_put 47 = .ok (.iconst 5, 1) := by decide +kernel
theorem dX6_put_48 : decode cX6_put 48 = .ok (.invokestatic 66, 3) := by decide +kernel
theorem dX6_put_51 : decode cX6_put 51 = .ok (.aload_n 0, 1) := by decide +kernel
theorem dX6_put_52 : decode cX6_put 52 = .ok (.getfield 19, 3) := by decide +kernel
theorem dX6_put_55 : decode cX6_put 55 = .ok (.iload_n 1, 1) := by decide +kernel
theorem dX6_put_56 : decode cX6_put 56 = .ok (.dup2, 1) := by decide +kernel
theorem dX6_put_57 : decode cX6_put 57 = .ok (.iaload, 1) := by decide +kernel
theorem dX6_put_58 : decode cX6_put 58 = .ok (.iconst 1, 1) := by decide +kernel
theorem dX6_put_59 : decode cX6_put 59 = .ok (.iadd, 1) := by decide +kernel
theorem dX6_put_60 : decode cX6_put 60 = .ok (.iastore, 1) := by decide +kernel
theorem dX6_put_61 : decode cX6_put 61 = .ok (.return_, 1) := by decide +kernel
theorem dX6_spend_0 : decode cX6_spend 0 = .ok (.aload_n 0, 1) := by decide +kernel
theorem dX6_spend_1 : decode cX6_spend 1 = .ok (.dup, 1) := by decide +kernel
theorem dX6_spend_2 : decode cX6_spend 2 = .ok (.getfield 56, 3) := by decide +kernel
theorem dX6_spend_5 : decode cX6_spend 5 = .ok (.iload_n 1, 1) := by decide +kernel
theorem dX6_spend_6 : decode cX6_spend 6 = .ok (.isub, 1) := by decide +kernel
theorem dX6_spend_7 : decode cX6_spend 7 = .ok (.putfield 56, 3) := by decide +kernel
theorem dX6_spend_10 : decode cX6_spend 10 = .ok (.aload_n 0, 1) := by decide +kernel
theorem dX6_spend_11 : decode cX6_spend 11 = .ok (.dup, 1) := by decide +kernel
theorem dX6_spend_12 : decode cX6_spend 12 = .ok (.getfield 59, 3) := by decide +kernel
theorem dX6_spend_15 : decode cX6_spend 15 = .ok (.iload_n 1, 1) := by decide +kernel
theorem dX6_spend_16 : decode cX6_spend 16 = .ok (.iadd, 1) := by decide +kernel
theorem dX6_spend_17 : decode cX6_spend 17 = .ok (.putfield 59, 3) := by decide +kernel
theorem dX6_spend_20 : decode cX6_spend 20 = .ok (.return_, 1) := by decide +kernel
theorem dX6_cut_0 : decode cX6_cut 0 = .ok (.aload_n 0, 1) := by decide +kernel
theorem dX6_cut_1 : decode cX6_cut 1 = .ok (.iconst 0, 1) := by decide +kernel
theorem dX6_cut_2 : decode cX6_cut 2 = .ok (.putfield 26, 3) := by decide +kernel
theorem dX6_cut_5 : decode cX6_cut 5 = .ok (.aload_n 0, 1) := by decide +kernel
theorem dX6_cut_6 : decode cX6_cut 6 = .ok (.iload_n 1, 1) := by decide +kernel
theorem dX6_cut_7 : decode cX6_cut 7 = .ok (.invokevirtual 46, 3) := by decide +kernel
theorem dX6_cut_10 : decode cX6_cut 10 = .ok (.ifCond .ne 9, 3) := by decide +kernel
theorem dX6_cut_13 : decode cX6_cut 13 = .ok (.aload_n 0, 1) := by decide +kernel
theorem dX6_cut_14 : decode cX6_cut 14 = .ok (.iconst 1, 1) := by decide +kernel
theorem dX6_cut_15 : decode cX6_cut 15 = .ok (.invokevirtual 62, 3) := by decide +kernel
theorem dX6_cut_18 : decode cX6_cut 18 = .ok (.ireturn, 1) := by decide +kernel
theorem dX6_cut_19 : decode cX6_cut 19 = .ok (.iload_n 2, 1) := by decide +kernel
theorem dX6_cut_20 : decode cX6_cut 20 = .ok (.iload_n 3, 1) := by decide +kernel
theorem dX6_cut_21 : decode cX6_cut 21 = .ok (.iload 4, 2) := by decide +kernel
theorem dX6_cut_23 : decode cX6_cut 23 = .ok (.iload 5, 2) := by decide +kernel
theorem dX6_cut_25 : decode cX6_cut 25 = .ok (.invokestatic 107, 3) := by decide +kernel
theorem dX6_cut_28 : decode cX6_cut 28 = .ok (.ifCond .ne 9, 3) := by decide +kernel
theorem dX6_cut_31 : decode cX6_cut 31 = .ok (.aload_n 0, 1) := by decide +kernel
theorem dX6_cut_32 : decode cX6_cut 32 = .ok (.iconst 2, 1) := by decide +kernel
theorem dX6_cut_33 : decode cX6_cut 33 = .ok (.invokevirtual 62, 3) := by decide +kernel
theorem dX6_cut_36 : decode cX6_cut 36 = .ok (.ireturn, 1) := by decide +kernel
theorem dX6_cut_37 : decode cX6_cut 37 = .ok (.aload_n 0, 1) := by decide +kernel
theorem dX6_cut_38 : decode cX6_cut 38 = .ok (.iload_n 1, 1) := by decide +kernel
theorem dX6_cut_39 : decode cX6_cut 39 = .ok (.iload_n 2, 1) := by decide +kernel
theorem dX6_cut_40 : decode cX6_cut 40 = .ok (.iload_n 3, 1) := by decide +kernel
theorem dX6_cut_41 : decode cX6_cut 41 = .ok (.iload 4, 2) := by decide +kernel
theorem dX6_cut_43 : decode cX6_cut 43 = .ok (.iload 5, 2) := by decide +kernel
theorem dX6_cut_45 : decode cX6_cut 45 = .ok (.bipush (-2), 2) := by decide +kernel
theorem dX6_cut_47 : decode cX6_cut 47 = .ok (.invokevirtual 113, 3) := by decide +kernel
theorem dX6_cut_50 : decode cX6_cut 50 = .ok (.istore 6, 2) := by decide +kernel
theorem dX6_cut_52 : decode cX6_cut 52 = .ok (.aload_n 0, 1) := by decide +kernel
theorem dX6_cut_53 : decode cX6_cut 53 = .ok (.iload_n 1, 1) := by decide +kernel
theorem dX6_cut_54 : decode cX6_cut 54 = .ok (.invokevirtual 117, 3) := by decide +kernel
theorem dX6_cut_57 : decode cX6_cut 57 = .ok (.aload_n 0, 1) := by decide +kernel
theorem dX6_cut_58 : decode cX6_cut 58 = .ok (.getfield 19, 3) := by decide +kernel
theorem dX6_cut_61 : decode cX6_cut 61 = .ok (.iload_n 1, 1) := by decide +kernel
theorem dX6_cut_62 : decode cX6_cut 62 = .ok (.iaload, 1) := by decide +kernel
theorem dX6_cut_63 : decode cX6_cut 63 = .ok (.bipush 16, 2) := by decide +kernel
theorem dX6_cut_65 : decode cX6_cut 65 = .ok (.if_icmp .eq 14, 3) := by decide +kernel
theorem dX6_cut_68 : decode cX6_cut 68 = .ok (.iconst 3, 1) := by decide +kernel
theorem dX6_cut_69 : decode cX6_cut 69 = .ok (.iload 6, 2) := by decide +kernel
theorem dX6_cut_71 : decode cX6_cut 71 = .ok (.imul, 1) := by decide +kernel
theorem dX6_cut_72 : decode cX6_cut 72 = .ok (.aload_n 0, 1) := by decide +kernel
theorem dX6_cut_73 : decode cX6_cut 73 = .ok (.getfield 56, 3) := by decide +kernel
theorem dX6_cut_76 : decode cX6_cut 76 = .ok (.if_icmp .le 9, 3) := by decide +kernel
theorem dX6_cut_79 : decode cX6_cut 79 = .ok (.aload_n 0, 1) := by decide +kernel
theorem dX6_cut_80 : decode cX6_cut 80 = .ok (.iconst 3, 1) := by decide +kernel
theorem dX6_cut_81 : decode cX6_cut 81 = .ok (.invokevirtual 62, 3) := by decide +kernel
theorem dX6_cut_84 : decode cX6_cut 84 = .ok (.ireturn, 1) := by decide +kernel
theorem dX6_cut_85 : decode cX6_cut 85 = .ok (.aload_n 0, 1) := by decide +kernel
theorem dX6_cut_86 : decode cX6_cut 86 = .ok (.iload_n 1, 1) := by decide +kernel
theorem dX6_cut_87 : decode cX6_cut 87 = .ok (.iload_n 2, 1) := by decide +kernel
theorem dX6_cut_88 : decode cX6_cut 88 = .ok (.iload_n 3, 1) := by decide +kernel
theorem dX6_cut_89 : decode cX6_cut 89 = .ok (.iload 4, 2) := by decide +kernel
theorem dX6_cut_91 : decode cX6_cut 91 = .ok (.iload 5, 2) := by decide +kernel
theorem dX6_cut_93 : decode cX6_cut 93 = .ok (.iconst (-1), 1) := by decide +kernel
theorem dX6_cut_94 : decode cX6_cut 94 = .ok (.invokevirtual 113, 3) := by decide +kernel
theorem dX6_cut_97 : decode cX6_cut 97 = .ok (.pop, 1) := by decide +kernel
theorem dX6_cut_98 : decode cX6_cut 98 = .ok (.aload_n 0, 1) := by decide +kernel
theorem dX6_cut_99 : decode cX6_cut 99 = .ok (.iload_n 1, 1) := by decide +kernel
theorem dX6_cut_100 : decode cX6_cut 100 = .ok (.iload_n 2, 1) := by decide +kernel
theorem dX6_cut_101 : decode cX6_cut 101 = .ok (.iload_n 3, 1) := by decide +kernel
theorem dX6_cut_102 : decode cX6_cut 102 = .ok (.iload 4, 2) := by decide +kernel
theorem dX6_cut_104 : decode cX6_cut 104 = .ok (.iload 5, 2) := by decide +kernel
theorem dX6_cut_106 : decode cX6_cut 106 = .ok (.invokevirtual 121, 3) := by decide +kernel
theorem dX6_cut_109 : decode cX6_cut 109 = .ok (.aload_n 0, 1) := by decide +kernel
theorem dX6_cut_110 : decode cX6_cut 110 = .ok (.iconst 3, 1) := by decide +kernel
theorem dX6_cut_111 : decode cX6_cut 111 = .ok (.iload 6, 2) := by decide +kernel
theorem dX6_cut_113 : decode cX6_cut 113 = .ok (.imul, 1) := by decide +kernel
theorem dX6_cut_114 : decode cX6_cut 114 = .ok (.invokevirtual 125, 3) := by decide +kernel
theorem dX6_cut_117 : decode cX6_cut 117 = .ok (.iload 6, 2) := by decide +kernel
theorem dX6_cut_119 : decode cX6_cut 119 = .ok (.ireturn, 1) := by decide +kernel
theorem dX6_touch_0 : decode cX6_touch 0 = .ok (.aload_n 0, 1) := by decide +kernel
theorem dX6_touch_1 : decode cX6_touch 1 = .ok (.iload_n 1, 1) := by decide +kernel
theorem dX6_touch_2 : decode cX6_touch 2 = .ok (.iload_n 2, 1) := by decide +kernel
theorem dX6_touch_3 : decode cX6_touch 3 = .ok (.iconst 0, 1) := by decide +kernel
theorem dX6_touch_4 : decode cX6_touch 4 = .ok (.invokevirtual 128, 3) := by decide +kernel
theorem dX6_touch_7 : decode cX6_touch 7 = .ok (.invokestatic 84, 3) := by decide +kernel
theorem dX6_touch_10 : decode cX6_touch 10 = .ok (.aload_n 0, 1) := by decide +kernel
theorem dX6_touch_11 : decode cX6_touch 11 = .ok (.iload_n 1, 1) := by decide +kernel
theorem dX6_touch_12 : decode cX6_touch 12 = .ok (.iload_n 2, 1) := by decide +kernel
theorem dX6_touch_13 : decode cX6_touch 13 = .ok (.iconst 1, 1) := by decide +kernel
theorem dX6_touch_14 : decode cX6_touch 14 = .ok (.invokevirtual 128, 3) := by decide +kernel
theorem dX6_touch_17 : decode cX6_touch 17 = .ok (.invokestatic 84, 3) := by decide +kernel
theorem dX6_touch_20 : decode cX6_touch 20 = .ok (.aload_n 0, 1) := by decide +kernel
theorem dX6_touch_21 : decode cX6_touch 21 = .ok (.iload_n 1, 1) := by decide +kernel
theorem dX6_touch_22 : decode cX6_touch 22 = .ok (.iload_n 2, 1) := by decide +kernel
theorem dX6_touch_23 : decode cX6_touch 23 = .ok (.iconst 2, 1) := by decide +kernel
theorem dX6_touch_24 : decode cX6_touch 24 = .ok (.invokevirtual 128, 3) := by decide +kernel
theorem dX6_touch_27 : decode cX6_touch 27 = .ok (.invokestatic 84, 3) := by decide +kernel
theorem dX6_touch_30 : decode cX6_touch 30 = .ok (.invokestatic 131, 3) := by decide +kernel
theorem dX6_touch_33 : decode cX6_touch 33 = .ok (.invokestatic 131, 3) := by decide +kernel
theorem dX6_touch_36 : decode cX6_touch 36 = .ok (.istore_n 3, 1) := by decide +kernel
theorem dX6_touch_37 : decode cX6_touch 37 = .ok (.iconst 0, 1) := by decide +kernel
theorem dX6_touch_38 : decode cX6_touch 38 = .ok (.istore 4, 2) := by decide +kernel
theorem dX6_touch_40 : decode cX6_touch 40 = .ok (.iconst 0, 1) := by decide +kernel
theorem dX6_touch_41 : decode cX6_touch 41 = .ok (.istore 5, 2) := by decide +kernel
theorem dX6_touch_43 : decode cX6_touch 43 = .ok (.iload 5, 2) := by decide +kernel
theorem dX6_touch_45 : decode cX6_touch 45 = .ok (.sipush 1000, 3) := by decide +kernel
theorem dX6_touch_48 : decode cX6_touch 48 = .ok (.if_icmp .ge 68, 3) := by decide +kernel
theorem dX6_touch_51 : decode cX6_touch 51 = .ok (.iload 4, 2) := by decide +kernel
theorem dX6_touch_53 : decode cX6_touch 53 = .ok (.aload_n 0, 1) := by decide +kernel
theorem dX6_touch_54 : decode cX6_touch 54 = .ok (.getfield 9, 3) := by decide +kernel
theorem dX6_touch_57 : decode cX6_touch 57 = .ok (.iload 5, 2) := by decide +kernel
theorem dX6_touch_59 : decode cX6_touch 59 = .ok (.iaload, 1) := by decide +kernel
theorem dX6_touch_60 : decode cX6_touch 60 = .ok (.iload_n 1, 1) := by decide +kernel
theorem dX6_touch_61 : decode cX6_touch 61 = .ok (.if_icmp .ne 45, 3) := by decide +kernel
theorem dX6_touch_64 : decode cX6_touch 64 = .ok (.iload 5, 2) := by decide +kernel
theorem dX6_touch_66 : decode cX6_touch 66 = .ok (.aload_n 0, 1) := by decide +kernel
theorem dX6_touch_67 : decode cX6_touch 67 = .ok (.iload_n 1, 1) := by decide +kernel
theorem dX6_touch_68 : decode cX6_touch 68 = .ok (.iload_n 2, 1) := by decide +kernel
theorem dX6_touch_69 : decode cX6_touch 69 = .ok (.iconst 0, 1) := by decide +kernel
theorem dX6_touch_70 : decode cX6_touch 70 = .ok (.invokevirtual 128, 3) := by decide +kernel
theorem dX6_touch_73 : decode cX6_touch 73 = .ok (.aload_n 0, 1) := by decide +kernel
theorem dX6_touch_74 : decode cX6_touch 74 = .ok (.iload_n 1, 1) := by decide +kernel
theorem dX6_touch_75 : decode cX6_touch 75 = .ok (.iload_n 2, 1) := by decide +kernel
theorem dX6_touch_76 : decode cX6_touch 76 = .ok (.iconst 1, 1) := by decide +kernel
theorem dX6_touch_77 : decode cX6_touch 77 = .ok (.invokevirtual 128, 3) := by decide +kernel
theorem dX6_touch_80 : decode cX6_touch 80 = .ok (.aload_n 0, 1) := by decide +kernel
theorem dX6_touch_81 : decode cX6_touch 81 = .ok (.iload_n 1, 1) := by decide +kernel
theorem dX6_touch_82 : decode cX6_touch 82 = .ok (.iload_n 2, 1) := by decide +kernel
theorem dX6_touch_83 : decode cX6_touch 83 = .ok (.iconst 2, 1) := by decide +kernel
theorem dX6_touch_84 : decode cX6_touch 84 = .ok (.invokevirtual 128, 3) := by decide +kernel
theorem dX6_touch_87 : decode cX6_touch 87 = .ok (.invokestatic 103, 3) := by decide +kernel
theorem dX6_touch_90 : decode cX6_touch 90 = .ok (.iload_n 3, 1) := by decide +kernel
theorem dX6_touch_91 : decode cX6_touch 91 = .ok (.iadd, 1) := by decide +kernel
theorem dX6_touch_92 : decode cX6_touch 92 = .ok (.aload_n 0, 1) := by decide +kernel
theorem dX6_touch_93 : decode cX6_touch 93 = .ok (.iload_n 1, 1) := by decide +kernel
theorem dX6_touch_94 : decode cX6_touch 94 = .ok (.iload_n 2, 1) := by decide +kernel
theorem dX6_touch_95 : decode cX6_touch 95 = .ok (.iconst 3, 1) := by decide +kernel
theorem dX6_touch_96 : decode cX6_touch 96 = .ok (.invokevirtual 128, 3) := by decide +kernel
theorem dX6_touch_99 : decode cX6_touch 99 = .ok (.if_icmp .le 7, 3) := by decide +kernel
theorem dX6_touch_102 : decode cX6_touch 102 = .ok (.iconst 1, 1) := by decide +kernel
theorem dX6_touch_103 : decode cX6_touch 103 = .ok (.goto 4, 3) := by decide +kernel
theorem dX6_touch_106 : decode cX6_touch 106 = .ok (.iconst 0, 1) := by decide +kernel
theorem dX6_touch_107 : decode cX6_touch 107 = .ok (.iadd, 1) := by decide +kernel
theorem dX6_touch_108 : decode cX6_touch 108 = .ok (.istore 4, 2) := by decide +kernel
theorem dX6_touch_110 : decode cX6_touch 110 = .ok (.iinc 5 1, 3) := by decide +kernel
theorem dX6_touch_113 : decode cX6_touch 113 = .ok (.goto (-70), 3) := by decide +kernel
theorem dX6_touch_116 : decode cX6_touch 116 = .ok (.iload 4, 2) := by decide +kernel
theorem dX6_touch_118 : decode cX6_touch 118 = .ok (.ireturn, 1) := by decide +kernel
theorem dX6_polish_0 : decode cX6_polish 0 = .ok (.aload_n 0, 1) := by decide +kernel
theorem dX6_polish_1 : decode cX6_polish 1 = .ok (.iconst 0, 1) := by decide +kernel
theorem dX6_polish_2 : decode cX6_polish 2 = .ok (.putfield 26, 3) := by decide +kernel
theorem dX6_polish_5 : decode cX6_polish 5 = .ok (.aload_n 0, 1) := by decide +kernel
theorem dX6_polish_6 : decode cX6_polish 6 = .ok (.iload_n 1, 1) := by decide +kernel
theorem dX6_polish_7 : decode cX6_polish 7 = .ok (.iload_n 2, 1) := by decide +kernel
theorem dX6_polish_8 : decode cX6_polish 8 = .ok (.invokevirtual 134, 3) := by decide +kernel
theorem dX6_polish_11 : decode cX6_polish 11 = .ok (.ifCond .ne 9, 3) := by decide +kernel
theorem dX6_polish_14 : decode cX6_polish 14 = .ok (.aload_n 0, 1) := by decide +kernel
theorem dX6_polish_15 : decode cX6_polish 15 = .ok (.iconst 1, 1) := by decide +kernel
theorem dX6_polish_16 : decode cX6_polish 16 = .ok (.invokevirtual 62, 3) := by decide +kernel
theorem dX6_polish_19 : decode cX6_polish 19 = .ok (.ireturn, 1) := by decide +kernel
theorem dX6_polish_20 : decode cX6_polish 20 = .ok (.aload_n 0, 1) := by decide +kernel
theorem dX6_polish_21 : decode cX6_polish 21 = .ok (.iload_n 1, 1) := by decide +kernel
theorem dX6_polish_22 : decode cX6_polish 22 = .ok (.iload_n 2, 1) := by decide +kernel
theorem dX6_polish_23 : decode cX6_polish 23 = .ok (.invokevirtual 137, 3) := by decide +kernel
theorem dX6_polish_26 : decode cX6_polish 26 = .ok (.istore_n 3, 1) := by decide +kernel
theorem dX6_polish_27 : decode cX6_polish 27 = .ok (.iload_n 3, 1) := by decide +kernel
theorem dX6_polish_28 : decode cX6_polish 28 = .ok (.ifCond .eq 24, 3) := by decide +kernel
theorem dX6_polish_31 : decode cX6_polish 31 = .ok (.aload_n 0, 1) := by decide +kernel
theorem dX6_polish_32 : decode cX6_polish 32 = .ok (.iload_n 1, 1) := by decide +kernel
theorem dX6_polish_33 : decode cX6_polish 33 = .ok (.iload_n 2, 1) := by decide +kernel
theorem dX6_polish_34 : decode cX6_polish 34 = .ok (.iconst 4, 1) := by decide +kernel
theorem dX6_polish_35 : decode cX6_polish 35 = .ok (.invokevirtual 128, 3) := by decide +kernel
theorem dX6_polish_38 : decode cX6_polish 38 = .ok (.iconst 1, 1) := by decide +kernel
theorem dX6_polish_39 : decode cX6_polish 39 = .ok (.if_icmp .eq 13, 3) := by decide +kernel
theorem dX6_polish_42 : decode cX6_polish 42 = .ok (.iload_n 3, 1) := by decide +kernel
theorem dX6_polish_43 : decode cX6_polish 43 = .ok (.iconst 5, 1) := by decide +kernel
theorem dX6_polish_44 : decode cX6_polish 44 = .ok (.iadd, 1) := by decide +kernel
theorem dX6_polish_45 : decode cX6_polish 45 = .ok (.aload_n 0, 1) := by decide +kernel
theorem dX6_polish_46 : decode cX6_polish 46 = .ok (.getfield 56, 3) := by decide +kernel
theorem dX6_polish_49 : decode cX6_polish 49 = .ok (.if_icmp .le 9, 3) := by decide +kernel
theorem dX6_polish_52 : decode cX6_polish 52 = .ok (.aload_n 0, 1) := by decide +kernel
theorem dX6_polish_53 : decode cX6_polish 53 = .ok (.iconst 2, 1) := by decide +kernel
theorem dX6_polish_54 : decode cX6_polish 54 = .ok (.invokevirtual 62, 3) := by decide +kernel
theorem dX6_polish_57 : decode cX6_polish 57 = .ok (.ireturn, 1) := by decide +kernel
theorem dX6_polish_58 : decode cX6_polish 58 = .ok (.aload_n 0, 1) := by decide +kernel
theorem dX6_polish_59 : decode cX6_polish 59 = .ok (.getfield 16, 3) := by decide +kernel
theorem dX6_polish_62 : decode cX6_polish 62 = .ok (.iconst 5, 1) := by decide +kernel
theorem dX6_polish_63 : decode cX6_polish 63 = .ok (.bipush 17, 2) := by decide +kernel
theorem dX6_polish_65 : decode cX6_polish 65 = .ok (.iload_n 1, 1) := by decide +kernel
theorem dX6_polish_66 : decode cX6_polish 66 = .ok (.imul, 1) := by decide +kernel
theorem dX6_polish_67 : decode cX6_polish 67 = .ok (.iload_n 2, 1) := by decide +kernel
theorem dX6_polish_68 : decode cX6_polish 68 = .ok (.iadd, 1) := by decide +kernel
theorem dX6_polish_69 : decode cX6_polish 69 = .ok (.imul, 1) := by decide +kernel
theorem dX6_polish_70 : decode cX6_polish 70 = .ok (.iconst 4, 1) := by decide +kernel
theorem dX6_polish_71 : decode cX6_polish 71 = .ok (.iadd, 1) := by decide +kernel
theorem dX6_polish_72 : decode cX6_polish 72 = .ok (.iconst 1, 1) := by decide +kernel
theorem dX6_polish_73 : decode cX6_polish 73 = .ok (.iastore, 1) := by decide +kernel
theorem dX6_polish_74 : decode cX6_polish 74 = .ok (.aload_n 0, 1) := by decide +kernel
theorem dX6_polish_75 : decode cX6_polish 75 = .ok (.iload_n 3, 1) := by decide +kernel
theorem dX6_polish_76 : decode cX6_polish 76 = .ok (.iconst 5, 1) := by decide +kernel
theorem dX6_polish_77 : decode cX6_polish 77 = .ok (.iadd, 1) := by decide +kernel
theorem dX6_polish_78 : decode cX6_polish 78 = .ok (.invokevirtual 125, 3) := by decide +kernel
theorem dX6_polish_81 : decode cX6_polish 81 = .ok (.iload_n 3, 1) := by decide +kernel
theorem dX6_polish_82 : decode cX6_polish 82 = .ok (.iconst 5, 1) := by decide +kernel
theorem dX6_polish_83 : decode cX6_polish 83 = .ok (.iadd, 1) := by decide +kernel
theorem dX6_polish_84 : decode cX6_polish 84 = .ok (.ireturn, 1) := by decide +kernel
theorem dX6_dress_0 : decode cX6_dress 0 = .ok (.aload_n 0, 1) := by decide +kernel
theorem dX6_dress_1 : decode cX6_dress 1 = .ok (.iconst 0, 1) := by decide +kernel
theorem dX6_dress_2 : decode cX6_dress 2 = .ok (.putfield 26, 3) := by decide +kernel
theorem dX6_dress_5 : decode cX6_dress 5 = .ok (.aload_n 0, 1) := by decide +kernel
theorem dX6_dress_6 : decode cX6_dress 6 = .ok (.getfield 56, 3) := by decide +kernel
theorem dX6_dress_9 : decode cX6_dress 9 = .ok (.istore_n 1, 1) := by decide +kernel
theorem dX6_dress_10 : decode cX6_dress 10 = .ok (.aload_n 0, 1) := by decide +kernel
theorem dX6_dress_11 : decode cX6_dress 11 = .ok (.sipush 400, 3) := by decide +kernel
theorem dX6_dress_14 : decode cX6_dress 14 = .ok (.putfield 56, 3) := by decide +kernel
theorem dX6_dress_17 : decode cX6_dress 17 = .ok (.iload_n 1, 1) := by decide +kernel
theorem dX6_dress_18 : decode cX6_dress 18 = .ok (.ireturn, 1) := by decide +kernel
theorem dX6_isFacet_0 : decode cX6_isFacet 0 = .ok (.aload_n 0, 1) := by decide +kernel
theorem dX6_isFacet_1 : decode cX6_isFacet 1 = .ok (.iload_n 1, 1) := by decide +kernel
theorem dX6_isFacet_2 : decode cX6_isFacet 2 = .ok (.iload_n 2, 1) := by decide +kernel
theorem dX6_isFacet_3 : decode cX6_isFacet 3 = .ok (.invokevirtual 137, 3) := by decide +kernel
theorem dX6_isFacet_6 : decode cX6_isFacet 6 = .ok (.ifCond .le 7, 3) := by decide +kernel
theorem dX6_isFacet_9 : decode cX6_isFacet 9 = .ok (.iconst 1, 1) := by decide +kernel
theorem dX6_isFacet_10 : decode cX6_isFacet 10 = .ok (.goto 4, 3) := by decide +kernel
theorem dX6_isFacet_13 : decode cX6_isFacet 13 = .ok (.iconst 0, 1) := by decide +kernel
theorem dX6_isFacet_14 : decode cX6_isFacet 14 = .ok (.ireturn, 1) := by decide +kernel
theorem dX6_facets_0 : decode cX6_facets 0 = .ok (.iconst 0, 1) := by decide +kernel
theorem dX6_facets_1 : decode cX6_facets 1 = .ok (.istore_n 3, 1) := by decide +kernel
theorem dX6_facets_2 : decode cX6_facets 2 = .ok (.iconst 0, 1) := by decide +kernel
theorem dX6_facets_3 : decode cX6_facets 3 = .ok (.istore 4, 2) := by decide +kernel
theorem dX6_facets_5 : decode cX6_facets 5 = .ok (.iload 4, 2) := by decide +kernel
theorem dX6_facets_7 : decode cX6_facets 7 = .ok (.aload_n 0, 1) := by decide +kernel
theorem dX6_facets_8 : decode cX6_facets 8 = .ok (.getfield 19, 3) := by decide +kernel
theorem dX6_facets_11 : decode cX6_facets 11 = .ok (.iload_n 1, 1) := by decide +kernel
theorem dX6_facets_12 : decode cX6_facets 12 = .ok (.iaload, 1) := by decide +kernel
theorem dX6_facets_13 : decode cX6_facets 13 = .ok (.if_icmp .ge 43, 3) := by decide +kernel
theorem dX6_facets_16 : decode cX6_facets 16 = .ok (.iload_n 3, 1) := by decide +kernel
theorem dX6_facets_17 : decode cX6_facets 17 = .ok (.aload_n 0, 1) := by decide +kernel
theorem dX6_facets_18 : decode cX6_facets 18 = .ok (.iload_n 1, 1) := by decide +kernel
theorem dX6_facets_19 : decode cX6_facets 19 = .ok (.iload 4, 2) := by decide +kernel
theorem dX6_facets_21 : decode cX6_facets 21 = .ok (.invokevirtual 140, 3) := by decide +kernel
theorem dX6_facets_24 : decode cX6_facets 24 = .ok (.ifCond .eq 23, 3) := by decide +kernel
theorem dX6_facets_27 : decode cX6_facets 27 = .ok (.iload_n 2, 1) := by decide +kernel
theorem dX6_facets_28 : decode cX6_facets 28 = .ok (.ifCond .eq 15, 3) := by decide +kernel
theorem dX6_facets_31 : decode cX6_facets 31 = .ok (.aload_n 0, 1) := by decide +kernel
theorem dX6_facets_32 : decode cX6_facets 32 = .ok (.iload_n 1, 1) := by decide +kernel
theorem dX6_facets_33 : decode cX6_facets 33 = .ok (.iload 4, 2) := by decide +kernel
theorem dX6_facets_35 : decode cX6_facets 35 = .ok (.iconst 4, 1) := by decide +kernel
theorem dX6_facets_36 : decode cX6_facets 36 = .ok (.invokevirtual 128, 3) := by decide +kernel
theorem dX6_facets_39 : decode cX6_facets 39 = .ok (.iconst 1, 1) := by decide +kernel
theorem dX6_facets_40 : decode cX6_facets 40 = .ok (.if_icmp .ne 7, 3) := by decide +kernel
theorem dX6_facets_43 : decode cX6_facets 43 = .ok (.iconst 1, 1) := by decide +kernel
theorem dX6_facets_44 : decode cX6_facets 44 = .ok (.goto 4, 3) := by decide +kernel
theorem dX6_facets_47 : decode cX6_facets 47 = .ok (.iconst 0, 1) := by decide +kernel
theorem dX6_facets_48 : decode cX6_facets 48 = .ok (.iadd, 1) := by decide +kernel
theorem dX6_facets_49 : decode cX6_facets 49 = .ok (.istore_n 3, 1) := by decide +kernel
theorem dX6_facets_50 : decode cX6_facets 50 = .ok (.iinc 4 1, 3) := by decide +kernel
theorem dX6_facets_53 : decode cX6_facets 53 = .ok (.goto (-48), 3) := by decide +kernel
theorem dX6_facets_56 : decode cX6_facets 56 = .ok (.iload_n 3, 1) := by decide +kernel
theorem dX6_facets_57 : decode cX6_facets 57 = .ok (.ireturn, 1) := by decide +kernel
theorem dX6_pairs_0 : decode cX6_pairs 0 = .ok (.iconst 0, 1) := by decide +kernel
theorem dX6_pairs_1 : decode cX6_pairs 1 = .ok (.istore_n 2, 1) := by decide +kernel
theorem dX6_pairs_2 : decode cX6_pairs 2 = .ok (.iconst 0, 1) := by decide +kernel
theorem dX6_pairs_3 : decode cX6_pairs 3 = .ok (.istore_n 3, 1) := by decide +kernel
theorem dX6_pairs_4 : decode cX6_pairs 4 = .ok (.iload_n 3, 1) := by decide +kernel
theorem dX6_pairs_5 : decode cX6_pairs 5 = .ok (.aload_n 0, 1) := by decide +kernel
theorem dX6_pairs_6 : decode cX6_pairs 6 = .ok (.getfield 19, 3) := by decide +kernel
theorem dX6_pairs_9 : decode cX6_pairs 9 = .ok (.iload_n 1, 1) := by decide +kernel
theorem dX6_pairs_10 : decode cX6_pairs 10 = .ok (.iaload, 1) := by decide +kernel
theorem dX6_pairs_11 : decode cX6_pairs 11 = .ok (.if_icmp .ge 107, 3) := by decide +kernel
theorem dX6_pairs_14 : decode cX6_pairs 14 = .ok (.iconst 0, 1) := by decide +kernel
theorem dX6_pairs_15 : decode cX6_pairs 15 = .ok (.istore 4, 2) := by decide +kernel
theorem dX6_pairs_17 : decode cX6_pairs 17 = .ok (.iload 4, 2) := by decide +kernel
theorem dX6_pairs_19 : decode cX6_pairs 19 = .ok (.iload_n 3, 1) := by decide +kernel
theorem dX6_pairs_20 : decode cX6_pairs 20 = .ok (.if_icmp .ge 92, 3) := by decide +kernel
theorem dX6_pairs_23 : decode cX6_pairs 23 = .ok (.iconst 1, 1) := by decide +kernel
theorem dX6_pairs_24 : decode cX6_pairs 24 = .ok (.istore 5, 2) := by decide +kernel
theorem dX6_pairs_26 : decode cX6_pairs 26 = .ok (.iconst 0, 1) := by decide +kernel
theorem dX6_pairs_27 : decode cX6_pairs 27 = .ok (.istore 6, 2) := by decide +kernel
theorem dX6_pairs_29 : decode cX6_pairs 29 = .ok (.iload 6, 2) := by decide +kernel
theorem dX6_pairs_31 : decode cX6_pairs 31 = .ok (.iconst 2, 1) := by decide +kernel
theorem dX6_pairs_32 : decode cX6_pairs 32 = .ok (.if_icmp .gt 42, 3) := by decide +kernel
theorem dX6_pairs_35 : decode cX6_pairs 35 = .ok (.iload 5, 2) := by decide +kernel
theorem dX6_pairs_37 : decode cX6_pairs 37 = .ok (.ifCond .eq 28, 3) := by decide +kernel
theorem dX6_pairs_40 : decode cX6_pairs 40 = .ok (.aload_n 0, 1) := by decide +kernel
theorem dX6_pairs_41 : decode cX6_pairs 41 = .ok (.iload_n 1, 1) := by decide +kernel
theorem dX6_pairs_42 : decode cX6_pairs 42 = .ok (.iload_n 3, 1) := by decide +kernel
theorem dX6_pairs_43 : decode cX6_pairs 43 = .ok (.iload 6, 2) := by decide +kernel
theorem dX6_pairs_45 : decode cX6_pairs 45 = .ok (.invokevirtual 128, 3) := by decide +kernel
theorem dX6_pairs_48 : decode cX6_pairs 48 = .ok (.aload_n 0, 1) := by decide +kernel
theorem dX6_pairs_49 : decode cX6_pairs 49 = .ok (.iload_n 1, 1) := by decide +kernel
theorem dX6_pairs_50 : decode cX6_pairs 50 = .ok (.iload 4, 2) := by decide +kernel
theorem dX6_pairs_52 : decode cX6_pairs 52 = .ok (.iload 6, 2) := by decide +kernel
theorem dX6_pairs_54 : decode cX6_pairs 54 = .ok (.invokevirtual 128, 3) := by decide +kernel
theorem dX6_pairs_57 : decode cX6_pairs 57 = .ok (.ineg, 1) := by decide +kernel
theorem dX6_pairs_58 : decode cX6_pairs 58 = .ok (.if_icmp .ne 7, 3) := by decide +kernel
theorem dX6_pairs_61 : decode cX6_pairs 61 = .ok (.iconst 1, 1) := by decide +kernel
theorem dX6_pairs_62 : decode cX6_pairs 62 = .ok (.goto 4, 3) := by decide +kernel
theorem dX6_pairs_65 : decode cX6_pairs 65 = .ok (.iconst 0, 1) := by decide +kernel
theorem dX6_pairs_66 : decode cX6_pairs 66 = .ok (.istore 5, 2) := by decide +kernel
theorem dX6_pairs_68 : decode cX6_pairs 68 = .ok (.iinc 6 1, 3) := by decide +kernel
theorem dX6_pairs_71 : decode cX6_pairs 71 = .ok (.goto (-42), 3) := by decide +kernel
theorem dX6_pairs_74 : decode cX6_pairs 74 = .ok (.iload_n 2, 1) := by decide +kernel
theorem dX6_pairs_75 : decode cX6_pairs 75 = .ok (.iload 5, 2) := by decide +kernel
theorem dX6_pairs_77 : decode cX6_pairs 77 = .ok (.ifCond .eq 26, 3) := by decide +kernel
theorem dX6_pairs_80 : decode cX6_pairs 80 = .ok (.aload_n 0, 1) := by decide +kernel
theorem dX6_pairs_81 : decode cX6_pairs 81 = .ok (.iload_n 1, 1) := by decide +kernel
theorem dX6_pairs_82 : decode cX6_pairs 82 = .ok (.iload_n 3, 1) := by decide +kernel
theorem dX6_pairs_83 : decode cX6_pairs 83 = .ok (.invokevirtual 140, 3) := by decide +kernel
theorem dX6_pairs_86 : decode cX6_pairs 86 = .ok (.ifCond .eq 17, 3) := by decide +kernel
theorem dX6_pairs_89 : decode cX6_pairs 89 = .ok (.aload_n 0, 1) := by decide +kernel
theorem dX6_pairs_90 : decode cX6_pairs 90 = .ok (.iload_n 1, 1) := by decide +kernel
theorem dX6_pairs_91 : decode cX6_pairs 91 = .ok (.iload 4, 2) := by decide +kernel
theorem dX6_pairs_93 : decode cX6_pairs 93 = .ok (.invokevirtual 140, 3) := by decide +kernel
theorem dX6_pairs_96 : decode cX6_pairs 96 = .ok (.ifCond .eq 7, 3) := by decide +kernel
theorem dX6_pairs_99 : decode cX6_pairs 99 = .ok (.iconst 1, 1) := by decide +kernel
theorem dX6_pairs_100 : decode cX6_pairs 100 = .ok (.goto 4, 3) := by decide +kernel
theorem dX6_pairs_103 : decode cX6_pairs 103 = .ok (.iconst 0, 1) := by decide +kernel
theorem dX6_pairs_104 : decode cX6_pairs 104 = .ok (.iadd, 1) := by decide +kernel
theorem dX6_pairs_105 : decode cX6_pairs 105 = .ok (.istore_n 2, 1) := by decide +kernel
theorem dX6_pairs_106 : decode cX6_pairs 106 = .ok (.iinc 4 1, 3) := by decide +kernel
theorem dX6_pairs_109 : decode cX6_pairs 109 = .ok (.goto (-92), 3) := by decide +kernel
theorem dX6_pairs_112 : decode cX6_pairs 112 = .ok (.iinc 3 1, 3) := by decide +kernel
theorem dX6_pairs_115 : decode cX6_pairs 115 = .ok (.goto (-111), 3) := by decide +kernel
theorem dX6_pairs_118 : decode cX6_pairs 118 = .ok (.iload_n 2, 1) := by decide +kernel
theorem dX6_pairs_119 : decode cX6_pairs 119 = .ok (.ireturn, 1) := by decide +kernel
theorem dX6_flawsIn_0 : decode cX6_flawsIn 0 = .ok (.iconst 0, 1) := by decide +kernel
theorem dX6_flawsIn_1 : decode cX6_flawsIn 1 = .ok (.istore_n 3, 1) := by decide +kernel
theorem dX6_flawsIn_2 : decode cX6_flawsIn 2 = .ok (.iconst 0, 1) := by decide +kernel
theorem dX6_flawsIn_3 : decode cX6_flawsIn 3 = .ok (.istore 4, 2) := by decide +kernel
theorem dX6_flawsIn_5 : decode cX6_flawsIn 5 = .ok (.iload 4, 2) := by decide +kernel
theorem dX6_flawsIn_7 : decode cX6_flawsIn 7 = .ok (.aload_n 0, 1) := by decide +kernel
theorem dX6_flawsIn_8 : decode cX6_flawsIn 8 = .ok (.getfield 53, 3) := by decide +kernel
theorem dX6_flawsIn_11 : decode cX6_flawsIn 11 = .ok (.if_icmp .ge 29, 3) := by decide +kernel
theorem dX6_flawsIn_14 : decode cX6_flawsIn 14 = .ok (.iload_n 3, 1) := by decide +kernel
theorem dX6_flawsIn_15 : decode cX6_flawsIn 15 = .ok (.aload_n 0, 1) := by decide +kernel
theorem dX6_flawsIn_16 : decode cX6_flawsIn 16 = .ok (.iload 4, 2) := by decide +kernel
theorem dX6_flawsIn_18 : decode cX6_flawsIn 18 = .ok (.iload_n 1, 1) := by decide +kernel
theorem dX6_flawsIn_19 : decode cX6_flawsIn 19 = .ok (.iconst 2, 1) := by decide +kernel
theorem dX6_flawsIn_20 : decode cX6_flawsIn 20 = .ok (.invokevirtual 100, 3) := by decide +kernel
theorem dX6_flawsIn_23 : decode cX6_flawsIn 23 = .ok (.iload_n 2, 1) := by decide +kernel
theorem dX6_flawsIn_24 : decode cX6_flawsIn 24 = .ok (.if_icmp .ne 7, 3) := by decide +kernel
theorem dX6_flawsIn_27 : decode cX6_flawsIn 27 = .ok (.iconst 1, 1) := by decide +kernel
theorem dX6_flawsIn_28 : decode cX6_flawsIn 28 = .ok (.goto 4, 3) := by decide +kernel
theorem dX6_flawsIn_31 : decode cX6_flawsIn 31 = .ok (.iconst 0, 1) := by decide +kernel
theorem dX6_flawsIn_32 : decode cX6_flawsIn 32 = .ok (.iadd, 1) := by decide +kernel
theorem dX6_flawsIn_33 : decode cX6_flawsIn 33 = .ok (.istore_n 3, 1) := by decide +kernel
theorem dX6_flawsIn_34 : decode cX6_flawsIn 34 = .ok (.iinc 4 1, 3) := by decide +kernel
theorem dX6_flawsIn_37 : decode cX6_flawsIn 37 = .ok (.goto (-32), 3) := by decide +kernel
theorem dX6_flawsIn_40 : decode cX6_flawsIn 40 = .ok (.iload_n 3, 1) := by decide +kernel
theorem dX6_flawsIn_41 : decode cX6_flawsIn 41 = .ok (.ireturn, 1) := by decide +kernel
theorem dX6_worth_0 : decode cX6_worth 0 = .ok (.aload_n 0, 1) := by decide +kernel
theorem dX6_worth_1 : decode cX6_worth 1 = .ok (.iload_n 1, 1) := by decide +kernel
theorem dX6_worth_2 : decode cX6_worth 2 = .ok (.invokevirtual 110, 3) := by decide +kernel
theorem dX6_worth_5 : decode cX6_worth 5 = .ok (.istore_n 2, 1) := by decide +kernel
theorem dX6_worth_6 : decode cX6_worth 6 = .ok (.iload_n 2, 1) := by decide +kernel
theorem dX6_worth_7 : decode cX6_worth 7 = .ok (.ifCond .ne 5, 3) := by decide +kernel
theorem dX6_worth_10 : decode cX6_worth 10 = .ok (.iconst 0, 1) := by decide +kernel
theorem dX6_worth_11 : decode cX6_worth 11 = .ok (.ireturn, 1) := by decide +kernel
theorem dX6_worth_12 : decode cX6_worth 12 = .ok (.iconst 0, 1) := by decide +kernel
theorem dX6_worth_13 : decode cX6_worth 13 = .ok (.istore_n 3, 1) := by decide +kernel
theorem dX6_worth_14 : decode cX6_worth 14 = .ok (.iconst 0, 1) := by decide +kernel
theorem dX6_worth_15 : decode cX6_worth 15 = .ok (.istore 4, 2) := by decide +kernel
theorem dX6_worth_17 : decode cX6_worth 17 = .ok (.iload 4, 2) := by decide +kernel
theorem dX6_worth_19 : decode cX6_worth 19 = .ok (.aload_n 0, 1) := by decide +kernel
theorem dX6_worth_20 : decode cX6_worth 20 = .ok (.getfield 53, 3) := by decide +kernel
theorem dX6_worth_23 : decode cX6_worth 23 = .ok (.if_icmp .ge 59, 3) := by decide +kernel
theorem dX6_worth_26 : decode cX6_worth 26 = .ok (.aload_n 0, 1) := by decide +kernel
theorem dX6_worth_27 : decode cX6_worth 27 = .ok (.iload 4, 2) := by decide +kernel
theorem dX6_worth_29 : decode cX6_worth 29 = .ok (.iload_n 1, 1) := by decide +kernel
theorem dX6_worth_30 : decode cX6_worth 30 = .ok (.iconst 2, 1) := by decide +kernel
theorem dX6_worth_31 : decode cX6_worth 31 = .ok (.invokevirtual 100, 3) := by decide +kernel
theorem dX6_worth_34 : decode cX6_worth 34 = .ok (.istore 5, 2) := by decide +kernel
theorem dX6_worth_36 : decode cX6_worth 36 = .ok (.iload_n 3, 1) := by decide +kernel
theorem dX6_worth_37 : decode cX6_worth 37 = .ok (.iload 5, 2) := by decide +kernel
theorem dX6_worth_39 : decode cX6_worth 39 = .ok (.iconst 1, 1) := by decide +kernel
theorem dX6_worth_40 : decode cX6_worth 40 = .ok (.if_icmp .ne 16, 3) := by decide +kernel
theorem dX6_worth_43 : decode cX6_worth 43 = .ok (.bipush 6, 2) := by decide +kernel
theorem dX6_worth_45 : decode cX6_worth 45 = .ok (.aload_n 0, 1) := by decide +kernel
theorem dX6_worth_46 : decode cX6_worth 46 = .ok (.iload 4, 2) := by decide +kernel
theorem dX6_worth_48 : decode cX6_worth 48 = .ok (.iconst 4, 1) := by decide +kernel
theorem dX6_worth_49 : decode cX6_worth 49 = .ok (.invokevirtual 80, 3) := by decide +kernel
theorem dX6_worth_52 : decode cX6_worth 52 = .ok (.imul, 1) := by decide +kernel
theorem dX6_worth_53 : decode cX6_worth 53 = .ok (.goto 21, 3) := by decide +kernel
theorem dX6_worth_56 : decode cX6_worth 56 = .ok (.iload 5, 2) := by decide +kernel
theorem dX6_worth_58 : decode cX6_worth 58 = .ok (.ifCond .ne 15, 3) := by decide +kernel
theorem dX6_worth_61 : decode cX6_worth 61 = .ok (.iconst 2, 1) := by decide +kernel
theorem dX6_worth_62 : decode cX6_worth 62 = .ok (.aload_n 0, 1) := by decide +kernel
theorem dX6_worth_63 : decode cX6_worth 63 = .ok (.iload 4, 2) := by decide +kernel
theorem dX6_worth_65 : decode cX6_worth 65 = .ok (.iconst 4, 1) := by decide +kernel
theorem dX6_worth_66 : decode cX6_worth 66 = .ok (.invokevirtual 80, 3) := by decide +kernel
theorem dX6_worth_69 : decode cX6_worth 69 = .ok (.imul, 1) := by decide +kernel
theorem dX6_worth_70 : decode cX6_worth 70 = .ok (.goto 4, 3) := by decide +kernel
theorem dX6_worth_73 : decode cX6_worth 73 = .ok (.iconst 0, 1) := by decide +kernel
theorem dX6_worth_74 : decode cX6_worth 74 = .ok (.iadd, 1) := by decide +kernel
theorem dX6_worth_75 : decode cX6_worth 75 = .ok (.istore_n 3, 1) := by decide +kernel
theorem dX6_worth_76 : decode cX6_worth 76 = .ok (.iinc 4 1, 3) := by decide +kernel
theorem dX6_worth_79 : decode cX6_worth 79 = .ok (.goto (-62), 3) := by decide +kernel
theorem dX6_worth_82 : decode cX6_worth 82 = .ok (.iload_n 2, 1) := by decide +kernel
theorem dX6_worth_83 : decode cX6_worth 83 = .ok (.iload_n 2, 1) := by decide +kernel
theorem dX6_worth_84 : decode cX6_worth 84 = .ok (.imul, 1) := by decide +kernel
theorem dX6_worth_85 : decode cX6_worth 85 = .ok (.bipush 10, 2) := by decide +kernel
theorem dX6_worth_87 : decode cX6_worth 87 = .ok (.idiv, 1) := by decide +kernel
theorem dX6_worth_88 : decode cX6_worth 88 = .ok (.bipush 10, 2) := by decide +kernel
theorem dX6_worth_90 : decode cX6_worth 90 = .ok (.iload_n 2, 1) := by decide +kernel
theorem dX6_worth_91 : decode cX6_worth 91 = .ok (.imul, 1) := by decide +kernel
theorem dX6_worth_92 : decode cX6_worth 92 = .ok (.iadd, 1) := by decide +kernel
theorem dX6_worth_93 : decode cX6_worth 93 = .ok (.bipush 10, 2) := by decide +kernel
theorem dX6_worth_95 : decode cX6_worth 95 = .ok (.bipush 100, 2) := by decide +kernel
theorem dX6_worth_97 : decode cX6_worth 97 = .ok (.iload_n 3, 1) := by decide +kernel
theorem dX6_worth_98 : decode cX6_worth 98 = .ok (.isub, 1) := by decide +kernel
theorem dX6_worth_99 : decode cX6_worth 99 = .ok (.invokestatic 131, 3) := by decide +kernel
theorem dX6_worth_102 : decode cX6_worth 102 = .ok (.imul, 1) := by decide +kernel
theorem dX6_worth_103 : decode cX6_worth 103 = .ok (.bipush 100, 2) := by decide +kernel
theorem dX6_worth_105 : decode cX6_worth 105 = .ok (.idiv, 1) := by decide +kernel
theorem dX6_worth_106 : decode cX6_worth 106 = .ok (.bipush 25, 2) := by decide +kernel
theorem dX6_worth_108 : decode cX6_worth 108 = .ok (.aload_n 0, 1) := by decide +kernel
theorem dX6_worth_109 : decode cX6_worth 109 = .ok (.iload_n 1, 1) := by decide +kernel
theorem dX6_worth_110 : decode cX6_worth 110 = .ok (.iconst 1, 1) := by decide +kernel
theorem dX6_worth_111 : decode cX6_worth 111 = .ok (.invokevirtual 143, 3) := by decide +kernel
theorem dX6_worth_114 : decode cX6_worth 114 = .ok (.imul, 1) := by decide +kernel
theorem dX6_worth_115 : decode cX6_worth 115 = .ok (.iadd, 1) := by decide +kernel
theorem dX6_worth_116 : decode cX6_worth 116 = .ok (.bipush 40, 2) := by decide +kernel
theorem dX6_worth_118 : decode cX6_worth 118 = .ok (.aload_n 0, 1) := by decide +kernel
theorem dX6_worth_119 : decode cX6_worth 119 = .ok (.iload_n 1, 1) := by decide +kernel
theorem dX6_worth_120 : decode cX6_worth 120 = .ok (.invokevirtual 147, 3) := by decide +kernel
theorem dX6_worth_123 : decode cX6_worth 123 = .ok (.imul, 1) := by decide +kernel
theorem dX6_worth_124 : decode cX6_worth 124 = .ok (.iadd, 1) := by decide +kernel
theorem dX6_worth_125 : decode cX6_worth 125 = .ok (.ireturn, 1) := by decide +kernel
theorem dX6_stoneTold_0 : decode cX6_stoneTold 0 = .ok (.iconst 0, 1) := by decide +kernel
theorem dX6_stoneTold_1 : decode cX6_stoneTold 1 = .ok (.istore_n 3, 1) := by decide +kernel
theorem dX6_stoneTold_2 : decode cX6_stoneTold 2 = .ok (.iload_n 2, 1) := by decide +kernel
theorem dX6_stoneTold_3 : decode cX6_stoneTold 3 = .ok (.tableswitch 100 0 7 #[45, 51, 58, 58, 74, 80, 87, 94], 45) := by decide +kernel
theorem dX6_stoneTold_48 : decode cX6_stoneTold 48 = .ok (.aload_n 0, 1) := by decide +kernel
theorem dX6_stoneTold_49 : decode cX6_stoneTold 49 = .ok (.iload_n 1, 1) := by decide +kernel
theorem dX6_stoneTold_50 : decode cX6_stoneTold 50 = .ok (.invokevirtual 110, 3) := by decide +kernel
theorem dX6_stoneTold_53 : decode cX6_stoneTold 53 = .ok (.ireturn, 1) := by decide +kernel
theorem dX6_stoneTold_54 : decode cX6_stoneTold 54 = .ok (.aload_n 0, 1) := by decide +kernel
theorem dX6_stoneTold_55 : decode cX6_stoneTold 55 = .ok (.getfield 19, 3) := by decide +kernel
theorem dX6_stoneTold_58 : decode cX6_stoneTold 58 = .ok (.iload_n 1, 1) := by decide +kernel
theorem dX6_stoneTold_59 : decode cX6_stoneTold 59 = .ok (.iaload, 1) := by decide +kernel
theorem dX6_stoneTold_60 : decode cX6_stoneTold 60 = .ok (.ireturn, 1) := by decide +kernel
theorem dX6_stoneTold_61 : decode cX6_stoneTold 61 = .ok (.aload_n 0, 1) := by decide +kernel
theorem dX6_stoneTold_62 : decode cX6_stoneTold 62 = .ok (.iload_n 1, 1) := by decide +kernel
theorem dX6_stoneTold_63 : decode cX6_stoneTold 63 = .ok (.iload_n 2, 1) := by decide +kernel
theorem dX6_stoneTold_64 : decode cX6_stoneTold 64 = .ok (.iconst 3, 1) := by decide +kernel
theorem dX6_stoneTold_65 : decode cX6_stoneTold 65 = .ok (.if_icmp .ne 7, 3) := by decide +kernel
theorem dX6_stoneTold_68 : decode cX6_stoneTold 68 = .ok (.iconst 1, 1) := by decide +kernel
theorem dX6_stoneTold_69 : decode cX6_stoneTold 69 = .ok (.goto 4, 3) := by decide +kernel
theorem dX6_stoneTold_72 : decode cX6_stoneTold 72 = .ok (.iconst 0, 1) := by decide +kernel
theorem dX6_stoneTold_73 : decode cX6_stoneTold 73 = .ok (.invokevirtual 143, 3) := by decide +kernel
theorem dX6_stoneTold_76 : decode cX6_stoneTold 76 = .ok (.ireturn, 1) := by decide +kernel
theorem dX6_stoneTold_77 : decode cX6_stoneTold 77 = .ok (.aload_n 0, 1) := by decide +kernel
theorem dX6_stoneTold_78 : decode cX6_stoneTold 78 = .ok (.iload_n 1, 1) := by decide +kernel
theorem dX6_stoneTold_79 : decode cX6_stoneTold 79 = .ok (.invokevirtual 147, 3) := by decide +kernel
theorem dX6_stoneTold_82 : decode cX6_stoneTold 82 = .ok (.ireturn, 1) := by decide +kernel
theorem dX6_stoneTold_83 : decode cX6_stoneTold 83 = .ok (.aload_n 0, 1) := by decide +kernel
theorem dX6_stoneTold_84 : decode cX6_stoneTold 84 = .ok (.iload_n 1, 1) := by decide +kernel
theorem dX6_stoneTold_85 : decode cX6_stoneTold 85 = .ok (.iconst 1, 1) := by decide +kernel
theorem dX6_stoneTold_86 : decode cX6_stoneTold 86 = .ok (.invokevirtual 150, 3) := by decide +kernel
theorem dX6_stoneTold_89 : decode cX6_stoneTold 89 = .ok (.ireturn, 1) := by decide +kernel
theorem dX6_stoneTold_90 : decode cX6_stoneTold 90 = .ok (.aload_n 0, 1) := by decide +kernel
theorem dX6_stoneTold_91 : decode cX6_stoneTold 91 = .ok (.iload_n 1, 1) := by decide +kernel
theorem dX6_stoneTold_92 : decode cX6_stoneTold 92 = .ok (.iconst 0, 1) := by decide +kernel
theorem dX6_stoneTold_93 : decode cX6_stoneTold 93 = .ok (.invokevirtual 150, 3) := by decide +kernel
theorem dX6_stoneTold_96 : decode cX6_stoneTold 96 = .ok (.ireturn, 1) := by decide +kernel
theorem dX6_stoneTold_97 : decode cX6_stoneTold 97 = .ok (.aload_n 0, 1) := by decide +kernel
theorem dX6_stoneTold_98 : decode cX6_stoneTold 98 = .ok (.iload_n 1, 1) := by decide +kernel
theorem dX6_stoneTold_99 : decode cX6_stoneTold 99 = .ok (.invokevirtual 153, 3) := by decide +kernel
theorem dX6_stoneTold_102 : decode cX6_stoneTold 102 = .ok (.ireturn, 1) := by decide +kernel
theorem dX6_stoneTold_103 : decode cX6_stoneTold 103 = .ok (.iconst 0, 1) := by decide +kernel
theorem dX6_stoneTold_104 : decode cX6_stoneTold 104 = .ok (.istore 4, 2) := by decide +kernel
theorem dX6_stoneTold_106 : decode cX6_stoneTold 106 = .ok (.iload 4, 2) := by decide +kernel
theorem dX6_stoneTold_108 : decode cX6_stoneTold 108 = .ok (.sipush 1000, 3) := by decide +kernel
theorem dX6_stoneTold_111 : decode cX6_stoneTold 111 = .ok (.if_icmp .ge 37, 3) := by decide +kernel
theorem dX6_stoneTold_114 : decode cX6_stoneTold 114 = .ok (.iload_n 3, 1) := by decide +kernel
theorem dX6_stoneTold_115 : decode cX6_stoneTold 115 = .ok (.aload_n 0, 1) := by decide +kernel
theorem dX6_stoneTold_116 : decode cX6_stoneTold 116 = .ok (.getfield 9, 3) := by decide +kernel
theorem dX6_stoneTold_119 : decode cX6_stoneTold 119 = .ok (.iload 4, 2) := by decide +kernel
theorem dX6_stoneTold_121 : decode cX6_stoneTold 121 = .ok (.iaload, 1) := by decide +kernel
theorem dX6_stoneTold_122 : decode cX6_stoneTold 122 = .ok (.iload_n 1, 1) := by decide +kernel
theorem dX6_stoneTold_123 : decode cX6_stoneTold 123 = .ok (.if_icmp .ne 16, 3) := by decide +kernel
theorem dX6_stoneTold_126 : decode cX6_stoneTold 126 = .ok (.aload_n 0, 1) := by decide +kernel
theorem dX6_stoneTold_127 : decode cX6_stoneTold 127 = .ok (.iload 4, 2) := by decide +kernel
theorem dX6_stoneTold_129 : decode cX6_stoneTold 129 = .ok (.invokevirtual 93, 3) := by decide +kernel
theorem dX6_stoneTold_132 : decode cX6_stoneTold 132 = .ok (.ifCond .eq 7, 3) := by decide +kernel
theorem dX6_stoneTold_135 : decode cX6_stoneTold 135 = .ok (.iconst 1, 1) := by decide +kernel
theorem dX6_stoneTold_136 : decode cX6_stoneTold 136 = .ok (.goto 4, 3) := by decide +kernel
theorem dX6_stoneTold_139 : decode cX6_stoneTold 139 = .ok (.iconst 0, 1) := by decide +kernel
theorem dX6_stoneTold_140 : decode cX6_stoneTold 140 = .ok (.iadd, 1) := by decide +kernel
theorem dX6_stoneTold_141 : decode cX6_stoneTold 141 = .ok (.istore_n 3, 1) := by decide +kernel
theorem dX6_stoneTold_142 : decode cX6_stoneTold 142 = .ok (.iinc 4 1, 3) := by decide +kernel
theorem dX6_stoneTold_145 : decode cX6_stoneTold 145 = .ok (.goto (-39), 3) := by decide +kernel
theorem dX6_stoneTold_148 : decode cX6_stoneTold 148 = .ok (.iload_n 3, 1) := by decide +kernel
theorem dX6_stoneTold_149 : decode cX6_stoneTold 149 = .ok (.ireturn, 1) := by decide +kernel
theorem dX6_stone_0 : decode cX6_stone 0 = .ok (.aload_n 0, 1) := by decide +kernel
theorem dX6_stone_1 : decode cX6_stone 1 = .ok (.iconst 0, 1) := by decide +kernel
theorem dX6_stone_2 : decode cX6_stone 2 = .ok (.putfield 26, 3) := by decide +kernel
theorem dX6_stone_5 : decode cX6_stone 5 = .ok (.aload_n 0, 1) := by decide +kernel
theorem dX6_stone_6 : decode cX6_stone 6 = .ok (.iload_n 1, 1) := by decide +kernel
theorem dX6_stone_7 : decode cX6_stone 7 = .ok (.invokevirtual 46, 3) := by decide +kernel
theorem dX6_stone_10 : decode cX6_stone 10 = .ok (.ifCond .eq 22, 3) := by decide +kernel
theorem dX6_stone_13 : decode cX6_stone 13 = .ok (.iload_n 2, 1) := by decide +kernel
theorem dX6_stone_14 : decode cX6_stone 14 = .ok (.iconst 0, 1) := by decide +kernel
theorem dX6_stone_15 : decode cX6_stone 15 = .ok (.bipush 8, 2) := by decide +kernel
theorem dX6_stone_17 : decode cX6_stone 17 = .ok (.invokestatic 33, 3) := by decide +kernel
theorem dX6_stone_20 : decode cX6_stone 20 = .ok (.ifCond .eq 12, 3) := by decide +kernel
theorem dX6_stone_23 : decode cX6_stone 23 = .ok (.aload_n 0, 1) := by decide +kernel
theorem dX6_stone_24 : decode cX6_stone 24 = .ok (.iload_n 1, 1) := by decide +kernel
theorem dX6_stone_25 : decode cX6_stone 25 = .ok (.iload_n 2, 1) := by decide +kernel
theorem dX6_stone_26 : decode cX6_stone 26 = .ok (.invokevirtual 156, 3) := by decide +kernel
theorem dX6_stone_29 : decode cX6_stone 29 = .ok (.goto 8, 3) := by decide +kernel
theorem dX6_stone_32 : decode cX6_stone 32 = .ok (.aload_n 0, 1) := by decide +kernel
theorem dX6_stone_33 : decode cX6_stone 33 = .ok (.iconst 1, 1) := by decide +kernel
theorem dX6_stone_34 : decode cX6_stone 34 = .ok (.invokevirtual 62, 3) := by decide +kernel
theorem dX6_stone_37 : decode cX6_stone 37 = .ok (.ireturn, 1) := by decide +kernel
theorem dX6_planeTold_0 : decode cX6_planeTold 0 = .ok (.iload_n 3, 1) := by decide +kernel
theorem dX6_planeTold_1 : decode cX6_planeTold 1 = .ok (.iconst 4, 1) := by decide +kernel
theorem dX6_planeTold_2 : decode cX6_planeTold 2 = .ok (.if_icmp .ge 13, 3) := by decide +kernel
theorem dX6_planeTold_5 : decode cX6_planeTold 5 = .ok (.aload_n 0, 1) := by decide +kernel
theorem dX6_planeTold_6 : decode cX6_planeTold 6 = .ok (.iload_n 1, 1) := by decide +kernel
theorem dX6_planeTold_7 : decode cX6_planeTold 7 = .ok (.iload_n 2, 1) := by decide +kernel
theorem dX6_planeTold_8 : decode cX6_planeTold 8 = .ok (.iload_n 3, 1) := by decide +kernel
theorem dX6_planeTold_9 : decode cX6_planeTold 9 = .ok (.invokevirtual 128, 3) := by decide +kernel
theorem dX6_planeTold_12 : decode cX6_planeTold 12 = .ok (.goto 24, 3) := by decide +kernel
theorem dX6_planeTold_15 : decode cX6_planeTold 15 = .ok (.iload_n 3, 1) := by decide +kernel
theorem dX6_planeTold_16 : decode cX6_planeTold 16 = .ok (.iconst 4, 1) := by decide +kernel
theorem dX6_planeTold_17 : decode cX6_planeTold 17 = .ok (.if_icmp .ne 12, 3) := by decide +kernel
theorem dX6_planeTold_20 : decode cX6_planeTold 20 = .ok (.aload_n 0, 1) := by decide +kernel
theorem dX6_planeTold_21 : decode cX6_planeTold 21 = .ok (.iload_n 1, 1) := by decide +kernel
theorem dX6_planeTold_22 : decode cX6_planeTold 22 = .ok (.iload_n 2, 1) := by decide +kernel
theorem dX6_planeTold_23 : decode cX6_planeTold 23 = .ok (.invokevirtual 137, 3) := by decide +kernel
theorem dX6_planeTold_26 : decode cX6_planeTold 26 = .ok (.goto 10, 3) := by decide +kernel
theorem dX6_planeTold_29 : decode cX6_planeTold 29 = .ok (.aload_n 0, 1) := by decide +kernel
theorem dX6_planeTold_30 : decode cX6_planeTold 30 = .ok (.iload_n 1, 1) := by decide +kernel
theorem dX6_planeTold_31 : decode cX6_planeTold 31 = .ok (.iload_n 2, 1) := by decide +kernel
theorem dX6_planeTold_32 : decode cX6_planeTold 32 = .ok (.iconst 4, 1) := by decide +kernel
theorem dX6_planeTold_33 : decode cX6_planeTold 33 = .ok (.invokevirtual 128, 3) := by decide +kernel
theorem dX6_planeTold_36 : decode cX6_planeTold 36 = .ok (.ireturn, 1) := by decide +kernel
theorem dX6_plane_0 : decode cX6_plane 0 = .ok (.aload_n 0, 1) := by decide +kernel
theorem dX6_plane_1 : decode cX6_plane 1 = .ok (.iconst 0, 1) := by decide +kernel
theorem dX6_plane_2 : decode cX6_plane 2 = .ok (.putfield 26, 3) := by decide +kernel
theorem dX6_plane_5 : decode cX6_plane 5 = .ok (.aload_n 0, 1) := by decide +kernel
theorem dX6_plane_6 : decode cX6_plane 6 = .ok (.iload_n 1, 1) := by decide +kernel
theorem dX6_plane_7 : decode cX6_plane 7 = .ok (.iload_n 2, 1) := by decide +kernel
theorem dX6_plane_8 : decode cX6_plane 8 = .ok (.invokevirtual 134, 3) := by decide +kernel
theorem dX6_plane_11 : decode cX6_plane 11 = .ok (.ifCond .eq 22, 3) := by decide +kernel
theorem dX6_plane_14 : decode cX6_plane 14 = .ok (.iload_n 3, 1) := by decide +kernel
theorem dX6_plane_15 : decode cX6_plane 15 = .ok (.iconst 0, 1) := by decide +kernel
theorem dX6_plane_16 : decode cX6_plane 16 = .ok (.iconst 5, 1) := by decide +kernel
theorem dX6_plane_17 : decode cX6_plane 17 = .ok (.invokestatic 33, 3) := by decide +kernel
theorem dX6_plane_20 : decode cX6_plane 20 = .ok (.ifCond .eq 13, 3) := by decide +kernel
theorem dX6_plane_23 : decode cX6_plane 23 = .ok (.aload_n 0, 1) := by decide +kernel
theorem dX6_plane_24 : decode cX6_plane 24 = .ok (.iload_n 1, 1) := by decide +kernel
theorem dX6_plane_25 : decode cX6_plane 25 = .ok (.iload_n 2, 1) := by decide +kernel
theorem dX6_plane_26 : decode cX6_plane 26 = .ok (.iload_n 3, 1) := by decide +kernel
theorem dX6_plane_27 : decode cX6_plane 27 = .ok (.invokevirtual 159, 3) := by decide +kernel
theorem dX6_plane_30 : decode cX6_plane 30 = .ok (.goto 8, 3) := by decide +kernel
theorem dX6_plane_33 : decode cX6_plane 33 = .ok (.aload_n 0, 1) := by decide +kernel
theorem dX6_plane_34 : decode cX6_plane 34 = .ok (.iconst 1, 1) := by decide +kernel
theorem dX6_plane_35 : decode cX6_plane 35 = .ok (.invokevirtual 62, 3) := by decide +kernel
theorem dX6_plane_38 : decode cX6_plane 38 = .ok (.ireturn, 1) := by decide +kernel
theorem dX6_product_0 : decode cX6_product 0 = .ok (.iconst 0, 1) := by decide +kernel
theorem dX6_product_1 : decode cX6_product 1 = .ok (.istore 4, 2) := by decide +kernel
theorem dX6_product_3 : decode cX6_product 3 = .ok (.iconst 0, 1) := by decide +kernel
theorem dX6_product_4 : decode cX6_product 4 = .ok (.istore 5, 2) := by decide +kernel
theorem dX6_product_6 : decode cX6_product 6 = .ok (.iload 5, 2) := by decide +kernel
theorem dX6_product_8 : decode cX6_product 8 = .ok (.iconst 2, 1) := by decide +kernel
theorem dX6_product_9 : decode cX6_product 9 = .ok (.if_icmp .gt 31, 3) := by decide +kernel
theorem dX6_product_12 : decode cX6_product 12 = .ok (.iload 4, 2) := by decide +kernel
theorem dX6_product_14 : decode cX6_product 14 = .ok (.aload_n 0, 1) := by decide +kernel
theorem dX6_product_15 : decode cX6_product 15 = .ok (.iload_n 1, 1) := by decide +kernel
theorem dX6_product_16 : decode cX6_product 16 = .ok (.iload_n 2, 1) := by decide +kernel
theorem dX6_product_17 : decode cX6_product 17 = .ok (.iload 5, 2) := by decide +kernel
theorem dX6_product_19 : decode cX6_product 19 = .ok (.invokevirtual 128, 3) := by decide +kernel
theorem dX6_product_22 : decode cX6_product 22 = .ok (.aload_n 0, 1) := by decide +kernel
theorem dX6_product_23 : decode cX6_product 23 = .ok (.iload_n 1, 1) := by decide +kernel
theorem dX6_product_24 : decode cX6_product 24 = .ok (.iload_n 3, 1) := by decide +kernel
theorem dX6_product_25 : decode cX6_product 25 = .ok (.iload 5, 2) := by decide +kernel
theorem dX6_product_27 : decode cX6_product 27 = .ok (.invokevirtual 128, 3) := by decide +kernel
theorem dX6_product_30 : decode cX6_product 30 = .ok (.imul, 1) := by decide +kernel
theorem dX6_product_31 : decode cX6_product 31 = .ok (.iadd, 1) := by decide +kernel
theorem dX6_product_32 : decode cX6_product 32 = .ok (.istore 4, 2) := by decide +kernel
theorem dX6_product_34 : decode cX6_product 34 = .ok (.iinc 5 1, 3) := by decide +kernel
theorem dX6_product_37 : decode cX6_product 37 = .ok (.goto (-31), 3) := by decide +kernel
theorem dX6_product_40 : decode cX6_product 40 = .ok (.iload 4, 2) := by decide +kernel
theorem dX6_product_42 : decode cX6_product 42 = .ok (.ireturn, 1) := by decide +kernel
theorem dX6_angle_0 : decode cX6_angle 0 = .ok (.aload_n 0, 1) := by decide +kernel
theorem dX6_angle_1 : decode cX6_angle 1 = .ok (.iconst 0, 1) := by decide +kernel
theorem dX6_angle_2 : decode cX6_angle 2 = .ok (.putfield 26, 3) := by decide +kernel
theorem dX6_angle_5 : decode cX6_angle 5 = .ok (.aload_n 0, 1) := by decide +kernel
theorem dX6_angle_6 : decode cX6_angle 6 = .ok (.iload_n 1, 1) := by decide +kernel
theorem dX6_angle_7 : decode cX6_angle 7 = .ok (.iload_n 2, 1) := by decide +kernel
theorem dX6_angle_8 : decode cX6_angle 8 = .ok (.invokevirtual 134, 3) := by decide +kernel
theorem dX6_angle_11 : decode cX6_angle 11 = .ok (.ifCond .eq 12, 3) := by decide +kernel
theorem dX6_angle_14 : decode cX6_angle 14 = .ok (.aload_n 0, 1) := by decide +kernel
theorem dX6_angle_15 : decode cX6_angle 15 = .ok (.iload_n 1, 1) := by decide +kernel
theorem dX6_angle_16 : decode cX6_angle 16 = .ok (.iload_n 3, 1) := by decide +kernel
theorem dX6_angle_17 : decode cX6_angle 17 = .ok (.invokevirtual 134, 3) := by decide +kernel
theorem dX6_angle_20 : decode cX6_angle 20 = .ok (.ifCond .ne 9, 3) := by decide +kernel
theorem dX6_angle_23 : decode cX6_angle 23 = .ok (.aload_n 0, 1) := by decide +kernel
theorem dX6_angle_24 : decode cX6_angle 24 = .ok (.iconst 1, 1) := by decide +kernel
theorem dX6_angle_25 : decode cX6_angle 25 = .ok (.invokevirtual 62, 3) := by decide +kernel
theorem dX6_angle_28 : decode cX6_angle 28 = .ok (.ireturn, 1) := by decide +kernel
theorem dX6_angle_29 : decode cX6_angle 29 = .ok (.aload_n 0, 1) := by decide +kernel
theorem dX6_angle_30 : decode cX6_angle 30 = .ok (.iload_n 1, 1) := by decide +kernel
theorem dX6_angle_31 : decode cX6_angle 31 = .ok (.iload_n 2, 1) := by decide +kernel
theorem dX6_angle_32 : decode cX6_angle 32 = .ok (.iload_n 3, 1) := by decide +kernel
theorem dX6_angle_33 : decode cX6_angle 33 = .ok (.invokevirtual 162, 3) := by decide +kernel
theorem dX6_angle_36 : decode cX6_angle 36 = .ok (.istore 4, 2) := by decide +kernel
theorem dX6_angle_38 : decode cX6_angle 38 = .ok (.bipush 100, 2) := by decide +kernel
theorem dX6_angle_40 : decode cX6_angle 40 = .ok (.iload 4, 2) := by decide +kernel
theorem dX6_angle_42 : decode cX6_angle 42 = .ok (.imul, 1) := by decide +kernel
theorem dX6_angle_43 : decode cX6_angle 43 = .ok (.iload 4, 2) := by decide +kernel
theorem dX6_angle_45 : decode cX6_angle 45 = .ok (.imul, 1) := by decide +kernel
theorem dX6_angle_46 : decode cX6_angle 46 = .ok (.aload_n 0, 1) := by decide +kernel
theorem dX6_angle_47 : decode cX6_angle 47 = .ok (.iload_n 1, 1) := by decide +kernel
theorem dX6_angle_48 : decode cX6_angle 48 = .ok (.iload_n 2, 1) := by decide +kernel
theorem dX6_angle_49 : decode cX6_angle 49 = .ok (.iload_n 2, 1) := by decide +kernel
theorem dX6_angle_50 : decode cX6_angle 50 = .ok (.invokevirtual 162, 3) := by decide +kernel
theorem dX6_angle_53 : decode cX6_angle 53 = .ok (.aload_n 0, 1) := by decide +kernel
theorem dX6_angle_54 : decode cX6_angle 54 = .ok (.iload_n 1, 1) := by decide +kernel
theorem dX6_angle_55 : decode cX6_angle 55 = .ok (.iload_n 3, 1) := by decide +kernel
theorem dX6_angle_56 : decode cX6_angle 56 = .ok (.iload_n 3, 1) := by decide +kernel
theorem dX6_angle_57 : decode cX6_angle 57 = .ok (.invokevirtual 162, 3) := by decide +kernel
theorem dX6_angle_60 : decode cX6_angle 60 = .ok (.imul, 1) := by decide +kernel
theorem dX6_angle_61 : decode cX6_angle 61 = .ok (.idiv, 1) := by decide +kernel
theorem dX6_angle_62 : decode cX6_angle 62 = .ok (.istore 5, 2) := by decide +kernel
theorem dX6_angle_64 : decode cX6_angle 64 = .ok (.iload 4, 2) := by decide +kernel
theorem dX6_angle_66 : decode cX6_angle 66 = .ok (.ifCond .ge 9, 3) := by decide +kernel
theorem dX6_angle_69 : decode cX6_angle 69 = .ok (.iload 5, 2) := by decide +kernel
theorem dX6_angle_71 : decode cX6_angle 71 = .ok (.ineg, 1) := by decide +kernel
theorem dX6_angle_72 : decode cX6_angle 72 = .ok (.goto 5, 3) := by decide +kernel
theorem dX6_angle_75 : decode cX6_angle 75 = .ok (.iload 5, 2) := by decide +kernel
theorem dX6_angle_77 : decode cX6_angle 77 = .ok (.ireturn, 1) := by decide +kernel
theorem dX6_counted_0 : decode cX6_counted 0 = .ok (.iconst 0, 1) := by decide +kernel
theorem dX6_counted_1 : decode cX6_counted 1 = .ok (.istore_n 2, 1) := by decide +kernel
theorem dX6_counted_2 : decode cX6_counted 2 = .ok (.iload_n 1, 1) := by decide +kernel
theorem dX6_counted_3 : decode cX6_counted 3 = .ok (.tableswitch 80 0 7 #[45, 80, 60, 80, 65, 70, 80, 75], 45) := by decide +kernel
theorem dX6_counted_48 : decode cX6_counted 48 = .ok (.aload_n 0, 1) := by decide +kernel
theorem dX6_counted_49 : decode cX6_counted 49 = .ok (.getfield 30, 3) := by decide +kernel
theorem dX6_counted_52 : decode cX6_counted 52 = .ok (.aload_n 0, 1) := by decide +kernel
theorem dX6_counted_53 : decode cX6_counted 53 = .ok (.getfield 37, 3) := by decide +kernel
theorem dX6_counted_56 : decode cX6_counted 56 = .ok (.imul, 1) := by decide +kernel
theorem dX6_counted_57 : decode cX6_counted 57 = .ok (.aload_n 0, 1) := by decide +kernel
theorem dX6_counted_58 : decode cX6_counted 58 = .ok (.getfield 40, 3) := by decide +kernel
theorem dX6_counted_61 : decode cX6_counted 61 = .ok (.imul, 1) := by decide +kernel
theorem dX6_counted_62 : decode cX6_counted 62 = .ok (.ireturn, 1) := by decide +kernel
theorem dX6_counted_63 : decode cX6_counted 63 = .ok (.aload_n 0, 1) := by decide +kernel
theorem dX6_counted_64 : decode cX6_counted 64 = .ok (.getfield 43, 3) := by decide +kernel
theorem dX6_counted_67 : decode cX6_counted 67 = .ok (.ireturn, 1) := by decide +kernel
theorem dX6_counted_68 : decode cX6_counted 68 = .ok (.aload_n 0, 1) := by decide +kernel
theorem dX6_counted_69 : decode cX6_counted 69 = .ok (.getfield 53, 3) := by decide +kernel
theorem dX6_counted_72 : decode cX6_counted 72 = .ok (.ireturn, 1) := by decide +kernel
theorem dX6_counted_73 : decode cX6_counted 73 = .ok (.aload_n 0, 1) := by decide +kernel
theorem dX6_counted_74 : decode cX6_counted 74 = .ok (.getfield 56, 3) := by decide +kernel
theorem dX6_counted_77 : decode cX6_counted 77 = .ok (.ireturn, 1) := by decide +kernel
theorem dX6_counted_78 : decode cX6_counted 78 = .ok (.aload_n 0, 1) := by decide +kernel
theorem dX6_counted_79 : decode cX6_counted 79 = .ok (.getfield 59, 3) := by decide +kernel
theorem dX6_counted_82 : decode cX6_counted 82 = .ok (.ireturn, 1) := by decide +kernel
theorem dX6_counted_83 : decode cX6_counted 83 = .ok (.iconst 0, 1) := by decide +kernel
theorem dX6_counted_84 : decode cX6_counted 84 = .ok (.istore_n 3, 1) := by decide +kernel
theorem dX6_counted_85 : decode cX6_counted 85 = .ok (.iload_n 3, 1) := by decide +kernel
theorem dX6_counted_86 : decode cX6_counted 86 = .ok (.aload_n 0, 1) := by decide +kernel
theorem dX6_counted_87 : decode cX6_counted 87 = .ok (.getfield 43, 3) := by decide +kernel
theorem dX6_counted_90 : decode cX6_counted 90 = .ok (.if_icmp .ge 52, 3) := by decide +kernel
theorem dX6_counted_93 : decode cX6_counted 93 = .ok (.iload_n 2, 1) := by decide +kernel
theorem dX6_counted_94 : decode cX6_counted 94 = .ok (.iload_n 1, 1) := by decide +kernel
theorem dX6_counted_95 : decode cX6_counted 95 = .ok (.iconst 1, 1) := by decide +kernel
theorem dX6_counted_96 : decode cX6_counted 96 = .ok (.if_icmp .ne 11, 3) := by decide +kernel
theorem dX6_counted_99 : decode cX6_counted 99 = .ok (.aload_n 0, 1) := by decide +kernel
theorem dX6_counted_100 : decode cX6_counted 100 = .ok (.iload_n 3, 1) := by decide +kernel
theorem dX6_counted_101 : decode cX6_counted 101 = .ok (.invokevirtual 110, 3) := by decide +kernel
theorem dX6_counted_104 : decode cX6_counted 104 = .ok (.goto 30, 3) := by decide +kernel
theorem dX6_counted_107 : decode cX6_counted 107 = .ok (.iload_n 1, 1) := by decide +kernel
theorem dX6_counted_108 : decode cX6_counted 108 = .ok (.bipush 6, 2) := by decide +kernel
theorem dX6_counted_110 : decode cX6_counted 110 = .ok (.if_icmp .ne 11, 3) := by decide +kernel
theorem dX6_counted_113 : decode cX6_counted 113 = .ok (.aload_n 0, 1) := by decide +kernel
theorem dX6_counted_114 : decode cX6_counted 114 = .ok (.iload_n 3, 1) := by decide +kernel
theorem dX6_counted_115 : decode cX6_counted 115 = .ok (.invokevirtual 153, 3) := by decide +kernel
theorem dX6_counted_118 : decode cX6_counted 118 = .ok (.goto 16, 3) := by decide +kernel
theorem dX6_counted_121 : decode cX6_counted 121 = .ok (.aload_n 0, 1) := by decide +kernel
theorem dX6_counted_122 : decode cX6_counted 122 = .ok (.iload_n 3, 1) := by decide +kernel
theorem dX6_counted_123 : decode cX6_counted 123 = .ok (.invokevirtual 110, 3) := by decide +kernel
theorem dX6_counted_126 : decode cX6_counted 126 = .ok (.ifCond .le 7, 3) := by decide +kernel
theorem dX6_counted_129 : decode cX6_counted 129 = .ok (.iconst 1, 1) := by decide +kernel
theorem dX6_counted_130 : decode cX6_counted 130 = .ok (.goto 4, 3) := by decide +kernel
theorem dX6_counted_133 : decode cX6_counted 133 = .ok (.iconst 0, 1) := by decide +kernel
theorem dX6_counted_134 : decode cX6_counted 134 = .ok (.iadd, 1) := by decide +kernel
theorem dX6_counted_135 : decode cX6_counted 135 = .ok (.istore_n 2, 1) := by decide +kernel
theorem dX6_counted_136 : decode cX6_counted 136 = .ok (.iinc 3 1, 3) := by decide +kernel
theorem dX6_counted_139 : decode cX6_counted 139 = .ok (.goto (-54), 3) := by decide +kernel
theorem dX6_counted_142 : decode cX6_counted 142 = .ok (.iload_n 2, 1) := by decide +kernel
theorem dX6_counted_143 : decode cX6_counted 143 = .ok (.ireturn, 1) := by decide +kernel
theorem dX6_count_0 : decode cX6_count 0 = .ok (.aload_n 0, 1) := by decide +kernel
theorem dX6_count_1 : decode cX6_count 1 = .ok (.iconst 0, 1) := by decide +kernel
theorem dX6_count_2 : decode cX6_count 2 = .ok (.putfield 26, 3) := by decide +kernel
theorem dX6_count_5 : decode cX6_count 5 = .ok (.iload_n 1, 1) := by decide +kernel
theorem dX6_count_6 : decode cX6_count 6 = .ok (.iconst 0, 1) := by decide +kernel
theorem dX6_count_7 : decode cX6_count 7 = .ok (.bipush 7, 2) := by decide +kernel
theorem dX6_count_9 : decode cX6_count 9 = .ok (.invokestatic 33, 3) := by decide +kernel
theorem dX6_count_12 : decode cX6_count 12 = .ok (.ifCond .eq 11, 3) := by decide +kernel
theorem dX6_count_15 : decode cX6_count 15 = .ok (.aload_n 0, 1) := by decide +kernel
theorem dX6_count_16 : decode cX6_count 16 = .ok (.iload_n 1, 1) := by decide +kernel
theorem dX6_count_17 : decode cX6_count 17 = .ok (.invokevirtual 165, 3) := by decide +kernel
theorem dX6_count_20 : decode cX6_count 20 = .ok (.goto 8, 3) := by decide +kernel
theorem dX6_count_23 : decode cX6_count 23 = .ok (.aload_n 0, 1) := by decide +kernel
theorem dX6_count_24 : decode cX6_count 24 = .ok (.iconst 1, 1) := by decide +kernel
theorem dX6_count_25 : decode cX6_count 25 = .ok (.invokevirtual 62, 3) := by decide +kernel
theorem dX6_count_28 : decode cX6_count 28 = .ok (.ireturn, 1) := by decide +kernel
theorem dX6_look_0 : decode cX6_look 0 = .ok (.aload_n 0, 1) := by decide +kernel
theorem dX6_look_1 : decode cX6_look 1 = .ok (.iload_n 1, 1) := by decide +kernel
theorem dX6_look_2 : decode cX6_look 2 = .ok (.iload_n 2, 1) := by decide +kernel
theorem dX6_look_3 : decode cX6_look 3 = .ok (.iload_n 3, 1) := by decide +kernel
theorem dX6_look_4 : decode cX6_look 4 = .ok (.iload 4, 2) := by decide +kernel
theorem dX6_look_6 : decode cX6_look 6 = .ok (.iload 5, 2) := by decide +kernel
theorem dX6_look_8 : decode cX6_look 8 = .ok (.bipush (-2), 2) := by decide +kernel
theorem dX6_look_10 : decode cX6_look 10 = .ok (.invokevirtual 113, 3) := by decide +kernel
theorem dX6_look_13 : decode cX6_look 13 = .ok (.istore 7, 2) := by decide +kernel
theorem dX6_look_15 : decode cX6_look 15 = .ok (.aload_n 0, 1) := by decide +kernel
theorem dX6_look_16 : decode cX6_look 16 = .ok (.iload_n 1, 1) := by decide +kernel
theorem dX6_look_17 : decode cX6_look 17 = .ok (.iload_n 2, 1) := by decide +kernel
theorem dX6_look_18 : decode cX6_look 18 = .ok (.iload_n 3, 1) := by decide +kernel
theorem dX6_look_19 : decode cX6_look 19 = .ok (.iload 4, 2) := by decide +kernel
theorem dX6_look_21 : decode cX6_look 21 = .ok (.iload 5, 2) := by decide +kernel
theorem dX6_look_23 : decode cX6_look 23 = .ok (.invokevirtual 121, 3) := by decide +kernel
theorem dX6_look_26 : decode cX6_look 26 = .ok (.iload 6, 2) := by decide +kernel
theorem dX6_look_28 : decode cX6_look 28 = .ok (.ifCond .ne 8, 3) := by decide +kernel
theorem dX6_look_31 : decode cX6_look 31 = .ok (.iload 7, 2) := by decide +kernel
theorem dX6_look_33 : decode cX6_look 33 = .ok (.goto 37, 3) := by decide +kernel
theorem dX6_look_36 : decode cX6_look 36 = .ok (.iload 6, 2) := by decide +kernel
theorem dX6_look_38 : decode cX6_look 38 = .ok (.iconst 1, 1) := by decide +kernel
theorem dX6_look_39 : decode cX6_look 39 = .ok (.if_icmp .ne 11, 3) := by decide +kernel
theorem dX6_look_42 : decode cX6_look 42 = .ok (.aload_n 0, 1) := by decide +kernel
theorem dX6_look_43 : decode cX6_look 43 = .ok (.iload_n 1, 1) := by decide +kernel
theorem dX6_look_44 : decode cX6_look 44 = .ok (.invokevirtual 153, 3) := by decide +kernel
theorem dX6_look_47 : decode cX6_look 47 = .ok (.goto 23, 3) := by decide +kernel
theorem dX6_look_50 : decode cX6_look 50 = .ok (.iload 6, 2) := by decide +kernel
theorem dX6_look_52 : decode cX6_look 52 = .ok (.iconst 2, 1) := by decide +kernel
theorem dX6_look_53 : decode cX6_look 53 = .ok (.if_icmp .ne 12, 3) := by decide +kernel
theorem dX6_look_56 : decode cX6_look 56 = .ok (.aload_n 0, 1) := by decide +kernel
theorem dX6_look_57 : decode cX6_look 57 = .ok (.iload_n 1, 1) := by decide +kernel
theorem dX6_look_58 : decode cX6_look 58 = .ok (.iconst 1, 1) := by decide +kernel
theorem dX6_look_59 : decode cX6_look 59 = .ok (.invokevirtual 150, 3) := by decide +kernel
theorem dX6_look_62 : decode cX6_look 62 = .ok (.goto 8, 3) := by decide +kernel
theorem dX6_look_65 : decode cX6_look 65 = .ok (.aload_n 0, 1) := by decide +kernel
theorem dX6_look_66 : decode cX6_look 66 = .ok (.iload_n 1, 1) := by decide +kernel
theorem dX6_look_67 : decode cX6_look 67 = .ok (.invokevirtual 147, 3) := by decide +kernel
theorem dX6_look_70 : decode cX6_look 70 = .ok (.istore 8, 2) := by decide +kernel
theorem dX6_look_72 : decode cX6_look 72 = .ok (.aload_n 0, 1) := by decide +kernel
theorem dX6_look_73 : decode cX6_look 73 = .ok (.getfield 19, 3) := by decide +kernel
theorem dX6_look_76 : decode cX6_look 76 = .ok (.iload_n 1, 1) := by decide +kernel
theorem dX6_look_77 : decode cX6_look 77 = .ok (.dup2, 1) := by decide +kernel
theorem dX6_look_78 : decode cX6_look 78 = .ok (.iaload, 1) := by decide +kernel
theorem dX6_look_79 : decode cX6_look 79 = .ok (.iconst 1, 1) := by decide +kernel
theorem dX6_look_80 : decode cX6_look 80 = .ok (.isub, 1) := by decide +kernel
theorem dX6_look_81 : decode cX6_look 81 = .ok (.iastore, 1) := by decide +kernel
theorem dX6_look_82 : decode cX6_look 82 = .ok (.aload_n 0, 1) := by decide +kernel
theorem dX6_look_83 : decode cX6_look 83 = .ok (.iload_n 1, 1) := by decide +kernel
theorem dX6_look_84 : decode cX6_look 84 = .ok (.invokevirtual 117, 3) := by decide +kernel
theorem dX6_look_87 : decode cX6_look 87 = .ok (.iload 8, 2) := by decide +kernel
theorem dX6_look_89 : decode cX6_look 89 = .ok (.ireturn, 1) := by decide +kernel
theorem dX6_would_0 : decode cX6_would 0 = .ok (.aload_n 0, 1) := by decide +kernel
theorem dX6_would_1 : decode cX6_would 1 = .ok (.iconst 0, 1) := by decide +kernel
theorem dX6_would_2 : decode cX6_would 2 = .ok (.putfield 26, 3) := by decide +kernel
theorem dX6_would_5 : decode cX6_would 5 = .ok (.aload_n 0, 1) := by decide +kernel
theorem dX6_would_6 : decode cX6_would 6 = .ok (.iload_n 1, 1) := by decide +kernel
theorem dX6_would_7 : decode cX6_would 7 = .ok (.invokevirtual 46, 3) := by decide +kernel
theorem dX6_would_10 : decode cX6_would 10 = .ok (.ifCond .eq 13, 3) := by decide +kernel
theorem dX6_would_13 : decode cX6_would 13 = .ok (.iload 6, 2) := by decide +kernel
theorem dX6_would_15 : decode cX6_would 15 = .ok (.iconst 0, 1) := by decide +kernel
theorem dX6_would_16 : decode cX6_would 16 = .ok (.iconst 3, 1) := by decide +kernel
theorem dX6_would_17 : decode cX6_would 17 = .ok (.invokestatic 33, 3) := by decide +kernel
theorem dX6_would_20 : decode cX6_would 20 = .ok (.ifCond .ne 9, 3) := by decide +kernel
theorem dX6_would_23 : decode cX6_would 23 = .ok (.aload_n 0, 1) := by decide +kernel
theorem dX6_would_24 : decode cX6_would 24 = .ok (.iconst 1, 1) := by decide +kernel
theorem dX6_would_25 : decode cX6_would 25 = .ok (.invokevirtual 62, 3) := by decide +kernel
theorem dX6_would_28 : decode cX6_would 28 = .ok (.ireturn, 1) := by decide +kernel
theorem dX6_would_29 : decode cX6_would 29 = .ok (.iload_n 2, 1) := by decide +kernel
theorem dX6_would_30 : decode cX6_would 30 = .ok (.iload_n 3, 1) := by decide +kernel
theorem dX6_would_31 : decode cX6_would 31 = .ok (.iload 4, 2) := by decide +kernel
theorem dX6_would_33 : decode cX6_would 33 = .ok (.iload 5, 2) := by decide +kernel
theorem dX6_would_35 : decode cX6_would 35 = .ok (.invokestatic 107, 3) := by decide +kernel
theorem dX6_would_38 : decode cX6_would 38 = .ok (.ifCond .eq 19, 3) := by decide +kernel
theorem dX6_would_41 : decode cX6_would 41 = .ok (.aload_n 0, 1) := by decide +kernel
theorem dX6_would_42 : decode cX6_would 42 = .ok (.iload_n 1, 1) := by decide +kernel
theorem dX6_would_43 : decode cX6_would 43 = .ok (.iload_n 2, 1) := by decide +kernel
theorem dX6_would_44 : decode cX6_would 44 = .ok (.iload_n 3, 1) := by decide +kernel
theorem dX6_would_45 : decode cX6_would 45 = .ok (.iload 4, 2) := by decide +kernel
theorem dX6_would_47 : decode cX6_would 47 = .ok (.iload 5, 2) := by decide +kernel
theorem dX6_would_49 : decode cX6_would 49 = .ok (.iload 6, 2) := by decide +kernel
theorem dX6_would_51 : decode cX6_would 51 = .ok (.invokevirtual 168, 3) := by decide +kernel
theorem dX6_would_54 : decode cX6_would 54 = .ok (.goto 8, 3) := by decide +kernel
theorem dX6_would_57 : decode cX6_would 57 = .ok (.aload_n 0, 1) := by decide +kernel
theorem dX6_would_58 : decode cX6_would 58 = .ok (.iconst 2, 1) := by decide +kernel
theorem dX6_would_59 : decode cX6_would 59 = .ok (.invokevirtual 62, 3) := by decide +kernel
theorem dX6_would_62 : decode cX6_would 62 = .ok (.ireturn, 1) := by decide +kernel
theorem dX6_end_0 : decode cX6_end 0 = .ok (.iconst 0, 1) := by decide +kernel
theorem dX6_end_1 : decode cX6_end 1 = .ok (.istore 7, 2) := by decide +kernel
theorem dX6_end_3 : decode cX6_end 3 = .ok (.iconst 1, 1) := by decide +kernel
theorem dX6_end_4 : decode cX6_end 4 = .ok (.istore 8, 2) := by decide +kernel
theorem dX6_end_6 : decode cX6_end 6 = .ok (.iconst 0, 1) := by decide +kernel
theorem dX6_end_7 : decode cX6_end 7 = .ok (.istore 9, 2) := by decide +kernel
theorem dX6_end_9 : decode cX6_end 9 = .ok (.iload 9, 2) := by decide +kernel
theorem dX6_end_11 : decode cX6_end 11 = .ok (.sipush 1000, 3) := by decide +kernel
theorem dX6_end_14 : decode cX6_end 14 = .ok (.if_icmp .ge 79, 3) := by decide +kernel
theorem dX6_end_17 : decode cX6_end 17 = .ok (.aload_n 0, 1) := by decide +kernel
theorem dX6_end_18 : decode cX6_end 18 = .ok (.getfield 9, 3) := by decide +kernel
theorem dX6_end_21 : decode cX6_end 21 = .ok (.iload 9, 2) := by decide +kernel
theorem dX6_end_23 : decode cX6_end 23 = .ok (.iaload, 1) := by decide +kernel
theorem dX6_end_24 : decode cX6_end 24 = .ok (.iload_n 1, 1) := by decide +kernel
theorem dX6_end_25 : decode cX6_end 25 = .ok (.if_icmp .ne 62, 3) := by decide +kernel
theorem dX6_end_28 : decode cX6_end 28 = .ok (.iload_n 2, 1) := by decide +kernel
theorem dX6_end_29 : decode cX6_end 29 = .ok (.iconst (-1), 1) := by decide +kernel
theorem dX6_end_30 : decode cX6_end 30 = .ok (.if_icmp .eq 16, 3) := by decide +kernel
theorem dX6_end_33 : decode cX6_end 33 = .ok (.aload_n 0, 1) := by decide +kernel
theorem dX6_end_34 : decode cX6_end 34 = .ok (.iload_n 2, 1) := by decide +kernel
theorem dX6_end_35 : decode cX6_end 35 = .ok (.iload 9, 2) := by decide +kernel
theorem dX6_end_37 : decode cX6_end 37 = .ok (.invokevirtual 89, 3) := by decide +kernel
theorem dX6_end_40 : decode cX6_end 40 = .ok (.ifCond .ne 6, 3) := by decide +kernel
theorem dX6_end_43 : decode cX6_end 43 = .ok (.goto 44, 3) := by decide +kernel
theorem dX6_end_46 : decode cX6_end 46 = .ok (.iload 9, 2) := by decide +kernel
theorem dX6_end_48 : decode cX6_end 48 = .ok (.iload_n 3, 1) := by decide +kernel
theorem dX6_end_49 : decode cX6_end 49 = .ok (.iload 4, 2) := by decide +kernel
theorem dX6_end_51 : decode cX6_end 51 = .ok (.iload 5, 2) := by decide +kernel
theorem dX6_end_53 : decode cX6_end 53 = .ok (.invokestatic 103, 3) := by decide +kernel
theorem dX6_end_56 : decode cX6_end 56 = .ok (.istore 10, 2) := by decide +kernel
theorem dX6_end_58 : decode cX6_end 58 = .ok (.iload 8, 2) := by decide +kernel
theorem dX6_end_60 : decode cX6_end 60 = .ok (.ifCond .ne 20, 3) := by decide +kernel
theorem dX6_end_63 : decode cX6_end 63 = .ok (.iload 10, 2) := by decide +kernel
theorem dX6_end_65 : decode cX6_end 65 = .ok (.iload 7, 2) := by decide +kernel
theorem dX6_end_67 : decode cX6_end 67 = .ok (.if_icmp .le 7, 3) := by decide +kernel
theorem dX6_end_70 : decode cX6_end 70 = .ok (.iconst 1, 1) := by decide +kernel
theorem dX6_end_71 : decode cX6_end 71 = .ok (.goto 4, 3) := by decide +kernel
theorem dX6_end_74 : decode cX6_end 74 = .ok (.iconst 0, 1) := by decide +kernel
theorem dX6_end_75 : decode cX6_end 75 = .ok (.iload 6, 2) := by decide +kernel
theorem dX6_end_77 : decode cX6_end 77 = .ok (.if_icmp .ne 7, 3) := by decide +kernel
theorem dX6_end_80 : decode cX6_end 80 = .ok (.iload 10, 2) := by decide +kernel
theorem dX6_end_82 : decode cX6_end 82 = .ok (.istore 7, 2) := by decide +kernel
theorem dX6_end_84 : decode cX6_end 84 = .ok (.iconst 0, 1) := by decide +kernel
theorem dX6_end_85 : decode cX6_end 85 = .ok (.istore 8, 2) := by decide +kernel
theorem dX6_end_87 : decode cX6_end 87 = .ok (.iinc 9 1, 3) := by decide +kernel
theorem dX6_end_90 : decode cX6_end 90 = .ok (.goto (-81), 3) := by decide +kernel
theorem dX6_end_93 : decode cX6_end 93 = .ok (.iload 7, 2) := by decide +kernel
theorem dX6_end_95 : decode cX6_end 95 = .ok (.ireturn, 1) := by decide +kernel
theorem dX6_depth_0 : decode cX6_depth 0 = .ok (.aload_n 0, 1) := by decide +kernel
theorem dX6_depth_1 : decode cX6_depth 1 = .ok (.iconst 0, 1) := by decide +kernel
theorem dX6_depth_2 : decode cX6_depth 2 = .ok (.putfield 26, 3) := by decide +kernel
theorem dX6_depth_5 : decode cX6_depth 5 = .ok (.aload_n 0, 1) := by decide +kernel
theorem dX6_depth_6 : decode cX6_depth 6 = .ok (.iload_n 1, 1) := by decide +kernel
theorem dX6_depth_7 : decode cX6_depth 7 = .ok (.invokevirtual 46, 3) := by decide +kernel
theorem dX6_depth_10 : decode cX6_depth 10 = .ok (.ifCond .ne 9, 3) := by decide +kernel
theorem dX6_depth_13 : decode cX6_depth 13 = .ok (.aload_n 0, 1) := by decide +kernel
theorem dX6_depth_14 : decode cX6_depth 14 = .ok (.iconst 1, 1) := by decide +kernel
theorem dX6_depth_15 : decode cX6_depth 15 = .ok (.invokevirtual 62, 3) := by decide +kernel
theorem dX6_depth_18 : decode cX6_depth 18 = .ok (.ireturn, 1) := by decide +kernel
theorem dX6_depth_19 : decode cX6_depth 19 = .ok (.iload_n 2, 1) := by decide +kernel
theorem dX6_depth_20 : decode cX6_depth 20 = .ok (.iload_n 3, 1) := by decide +kernel
theorem dX6_depth_21 : decode cX6_depth 21 = .ok (.iload 4, 2) := by decide +kernel
theorem dX6_depth_23 : decode cX6_depth 23 = .ok (.iconst 0, 1) := by decide +kernel
theorem dX6_depth_24 : decode cX6_depth 24 = .ok (.invokestatic 107, 3) := by decide +kernel
theorem dX6_depth_27 : decode cX6_depth 27 = .ok (.ifCond .ne 9, 3) := by decide +kernel
theorem dX6_depth_30 : decode cX6_depth 30 = .ok (.aload_n 0, 1) := by decide +kernel
theorem dX6_depth_31 : decode cX6_depth 31 = .ok (.iconst 2, 1) := by decide +kernel
theorem dX6_depth_32 : decode cX6_depth 32 = .ok (.invokevirtual 62, 3) := by decide +kernel
theorem dX6_depth_35 : decode cX6_depth 35 = .ok (.ireturn, 1) := by decide +kernel
theorem dX6_depth_36 : decode cX6_depth 36 = .ok (.aload_n 0, 1) := by decide +kernel
theorem dX6_depth_37 : decode cX6_depth 37 = .ok (.iload_n 1, 1) := by decide +kernel
theorem dX6_depth_38 : decode cX6_depth 38 = .ok (.invokevirtual 110, 3) := by decide +kernel
theorem dX6_depth_41 : decode cX6_depth 41 = .ok (.ifCond .ne 9, 3) := by decide +kernel
theorem dX6_depth_44 : decode cX6_depth 44 = .ok (.aload_n 0, 1) := by decide +kernel
theorem dX6_depth_45 : decode cX6_depth 45 = .ok (.iconst 3, 1) := by decide +kernel
theorem dX6_depth_46 : decode cX6_depth 46 = .ok (.invokevirtual 62, 3) := by decide +kernel
theorem dX6_depth_49 : decode cX6_depth 49 = .ok (.ireturn, 1) := by decide +kernel
theorem dX6_depth_50 : decode cX6_depth 50 = .ok (.aload_n 0, 1) := by decide +kernel
theorem dX6_depth_51 : decode cX6_depth 51 = .ok (.iload_n 1, 1) := by decide +kernel
theorem dX6_depth_52 : decode cX6_depth 52 = .ok (.iconst (-1), 1) := by decide +kernel
theorem dX6_depth_53 : decode cX6_depth 53 = .ok (.iload_n 2, 1) := by decide +kernel
theorem dX6_depth_54 : decode cX6_depth 54 = .ok (.iload_n 3, 1) := by decide +kernel
theorem dX6_depth_55 : decode cX6_depth 55 = .ok (.iload 4, 2) := by decide +kernel
theorem dX6_depth_57 : decode cX6_depth 57 = .ok (.iconst 0, 1) := by decide +kernel
theorem dX6_depth_58 : decode cX6_depth 58 = .ok (.invokevirtual 171, 3) := by decide +kernel
theorem dX6_depth_61 : decode cX6_depth 61 = .ok (.istore 5, 2) := by decide +kernel
theorem dX6_depth_63 : decode cX6_depth 63 = .ok (.iconst (-1), 1) := by decide +kernel
theorem dX6_depth_64 : decode cX6_depth 64 = .ok (.istore 6, 2) := by decide +kernel
theorem dX6_depth_66 : decode cX6_depth 66 = .ok (.iload 5, 2) := by decide +kernel
theorem dX6_depth_68 : decode cX6_depth 68 = .ok (.istore 7, 2) := by decide +kernel
theorem dX6_depth_70 : decode cX6_depth 70 = .ok (.iload 7, 2) := by decide +kernel
theorem dX6_depth_72 : decode cX6_depth 72 = .ok (.aload_n 0, 1) := by decide +kernel
theorem dX6_depth_73 : decode cX6_depth 73 = .ok (.iload_n 1, 1) := by decide +kernel
theorem dX6_depth_74 : decode cX6_depth 74 = .ok (.iconst (-1), 1) := by decide +kernel
theorem dX6_depth_75 : decode cX6_depth 75 = .ok (.iload_n 2, 1) := by decide +kernel
theorem dX6_depth_76 : decode cX6_depth 76 = .ok (.iload_n 3, 1) := by decide +kernel
theorem dX6_depth_77 : decode cX6_depth 77 = .ok (.iload 4, 2) := by decide +kernel
theorem dX6_depth_79 : decode cX6_depth 79 = .ok (.iconst 1, 1) := by decide +kernel
theorem dX6_depth_80 : decode cX6_depth 80 = .ok (.invokevirtual 171, 3) := by decide +kernel
theorem dX6_depth_83 : decode cX6_depth 83 = .ok (.if_icmp .gt 41, 3) := by decide +kernel
theorem dX6_depth_86 : decode cX6_depth 86 = .ok (.aload_n 0, 1) := by decide +kernel
theorem dX6_depth_87 : decode cX6_depth 87 = .ok (.iload_n 1, 1) := by decide +kernel
theorem dX6_depth_88 : decode cX6_depth 88 = .ok (.iload_n 2, 1) := by decide +kernel
theorem dX6_depth_89 : decode cX6_depth 89 = .ok (.iload_n 3, 1) := by decide +kernel
theorem dX6_depth_90 : decode cX6_depth 90 = .ok (.iload 4, 2) := by decide +kernel
theorem dX6_depth_92 : decode cX6_depth 92 = .ok (.iload 7, 2) := by decide +kernel
theorem dX6_depth_94 : decode cX6_depth 94 = .ok (.iconst 1, 1) := by decide +kernel
theorem dX6_depth_95 : decode cX6_depth 95 = .ok (.invokevirtual 168, 3) := by decide +kernel
theorem dX6_depth_98 : decode cX6_depth 98 = .ok (.istore 8, 2) := by decide +kernel
theorem dX6_depth_100 : decode cX6_depth 100 = .ok (.iload 8, 2) := by decide +kernel
theorem dX6_depth_102 : decode cX6_depth 102 = .ok (.iload 6, 2) := by decide +kernel
theorem dX6_depth_104 : decode cX6_depth 104 = .ok (.if_icmp .ge 6, 3) := by decide +kernel
theorem dX6_depth_107 : decode cX6_depth 107 = .ok (.goto 11, 3) := by decide +kernel
theorem dX6_depth_110 : decode cX6_depth 110 = .ok (.iload 7, 2) := by decide +kernel
theorem dX6_depth_112 : decode cX6_depth 112 = .ok (.istore 5, 2) := by decide +kernel
theorem dX6_depth_114 : decode cX6_depth 114 = .ok (.iload 8, 2) := by decide +kernel
theorem dX6_depth_116 : decode cX6_depth 116 = .ok (.istore 6, 2) := by decide +kernel
theorem dX6_depth_118 : decode cX6_depth 118 = .ok (.iinc 7 1, 3) := by decide +kernel
theorem dX6_depth_121 : decode cX6_depth 121 = .ok (.goto (-51), 3) := by decide +kernel
theorem dX6_depth_124 : decode cX6_depth 124 = .ok (.iload 5, 2) := by decide +kernel
theorem dX6_depth_126 : decode cX6_depth 126 = .ok (.ireturn, 1) := by decide +kernel
theorem dX6_rid_0 : decode cX6_rid 0 = .ok (.aload_n 0, 1) := by decide +kernel
theorem dX6_rid_1 : decode cX6_rid 1 = .ok (.iconst 0, 1) := by decide +kernel
theorem dX6_rid_2 : decode cX6_rid 2 = .ok (.putfield 26, 3) := by decide +kernel
theorem dX6_rid_5 : decode cX6_rid 5 = .ok (.iload_n 1, 1) := by decide +kernel
theorem dX6_rid_6 : decode cX6_rid 6 = .ok (.iconst 0, 1) := by decide +kernel
theorem dX6_rid_7 : decode cX6_rid 7 = .ok (.aload_n 0, 1) := by decide +kernel
theorem dX6_rid_8 : decode cX6_rid 8 = .ok (.getfield 53, 3) := by decide +kernel
theorem dX6_rid_11 : decode cX6_rid 11 = .ok (.iconst 1, 1) := by decide +kernel
theorem dX6_rid_12 : decode cX6_rid 12 = .ok (.isub, 1) := by decide +kernel
theorem dX6_rid_13 : decode cX6_rid 13 = .ok (.invokestatic 33, 3) := by decide +kernel
theorem dX6_rid_16 : decode cX6_rid 16 = .ok (.ifCond .eq 20, 3) := by decide +kernel
theorem dX6_rid_19 : decode cX6_rid 19 = .ok (.aload_n 0, 1) := by decide +kernel
theorem dX6_rid_20 : decode cX6_rid 20 = .ok (.iload_n 2, 1) := by decide +kernel
theorem dX6_rid_21 : decode cX6_rid 21 = .ok (.invokevirtual 46, 3) := by decide +kernel
theorem dX6_rid_24 : decode cX6_rid 24 = .ok (.ifCond .eq 12, 3) := by decide +kernel
theorem dX6_rid_27 : decode cX6_rid 27 = .ok (.iload_n 3, 1) := by decide +kernel
theorem dX6_rid_28 : decode cX6_rid 28 = .ok (.iconst 0, 1) := by decide +kernel
theorem dX6_rid_29 : decode cX6_rid 29 = .ok (.iconst 2, 1) := by decide +kernel
theorem dX6_rid_30 : decode cX6_rid 30 = .ok (.invokestatic 33, 3) := by decide +kernel
theorem dX6_rid_33 : decode cX6_rid 33 = .ok (.ifCond .ne 9, 3) := by decide +kernel
theorem dX6_rid_36 : decode cX6_rid 36 = .ok (.aload_n 0, 1) := by decide +kernel
theorem dX6_rid_37 : decode cX6_rid 37 = .ok (.iconst 1, 1) := by decide +kernel
theorem dX6_rid_38 : decode cX6_rid 38 = .ok (.invokevirtual 62, 3) := by decide +kernel
theorem dX6_rid_41 : decode cX6_rid 41 = .ok (.ireturn, 1) := by decide +kernel
theorem dX6_rid_42 : decode cX6_rid 42 = .ok (.aload_n 0, 1) := by decide +kernel
theorem dX6_rid_43 : decode cX6_rid 43 = .ok (.iload_n 1, 1) := by decide +kernel
theorem dX6_rid_44 : decode cX6_rid 44 = .ok (.iload_n 2, 1) := by decide +kernel
theorem dX6_rid_45 : decode cX6_rid 45 = .ok (.iconst 0, 1) := by decide +kernel
theorem dX6_rid_46 : decode cX6_rid 46 = .ok (.invokevirtual 96, 3) := by decide +kernel
theorem dX6_rid_49 : decode cX6_rid 49 = .ok (.ifCond .ne 16, 3) := by decide +kernel
theorem dX6_rid_52 : decode cX6_rid 52 = .ok (.iload_n 3, 1) := by decide +kernel
theorem dX6_rid_53 : decode cX6_rid 53 = .ok (.iconst 1, 1) := by decide +kernel
theorem dX6_rid_54 : decode cX6_rid 54 = .ok (.if_icmp .ne 9, 3) := by decide +kernel
theorem dX6_rid_57 : decode cX6_rid 57 = .ok (.sipush (-1000), 3) := by decide +kernel
theorem dX6_rid_60 : decode cX6_rid 60 = .ok (.goto 4, 3) := by decide +kernel
theorem dX6_rid_63 : decode cX6_rid 63 = .ok (.iconst (-1), 1) := by decide +kernel
theorem dX6_rid_64 : decode cX6_rid 64 = .ok (.ireturn, 1) := by decide +kernel
theorem dX6_rid_65 : decode cX6_rid 65 = .ok (.iconst (-1), 1) := by decide +kernel
theorem dX6_rid_66 : decode cX6_rid 66 = .ok (.istore 4, 2) := by decide +kernel
theorem dX6_rid_68 : decode cX6_rid 68 = .ok (.iconst 0, 1) := by decide +kernel
theorem dX6_rid_69 : decode cX6_rid 69 = .ok (.istore 5, 2) := by decide +kernel
theorem dX6_rid_71 : decode cX6_rid 71 = .ok (.sipush 1001, 3) := by decide +kernel
theorem dX6_rid_74 : decode cX6_rid 74 = .ok (.istore 6, 2) := by decide +kernel
theorem dX6_rid_76 : decode cX6_rid 76 = .ok (.iconst 0, 1) := by decide +kernel
theorem dX6_rid_77 : decode cX6_rid 77 = .ok (.istore 7, 2) := by decide +kernel
theorem dX6_rid_79 : decode cX6_rid 79 = .ok (.iload 7, 2) := by decide +kernel
theorem dX6_rid_81 : decode cX6_rid 81 = .ok (.bipush 27, 2) := by decide +kernel
theorem dX6_rid_83 : decode cX6_rid 83 = .ok (.if_icmp .ge 101, 3) := by decide +kernel
theorem dX6_rid_86 : decode cX6_rid 86 = .ok (.iload 7, 2) := by decide +kernel
theorem dX6_rid_88 : decode cX6_rid 88 = .ok (.bipush 9, 2) := by decide +kernel
theorem dX6_rid_90 : decode cX6_rid 90 = .ok (.idiv, 1) := by decide +kernel
theorem dX6_rid_91 : decode cX6_rid 91 = .ok (.iconst 1, 1) := by decide +kernel
theorem dX6_rid_92 : decode cX6_rid 92 = .ok (.isub, 1) := by decide +kernel
theorem dX6_rid_93 : decode cX6_rid 93 = .ok (.istore 8, 2) := by decide +kernel
theorem dX6_rid_95 : decode cX6_rid 95 = .ok (.iload 7, 2) := by decide +kernel
theorem dX6_rid_97 : decode cX6_rid 97 = .ok (.iconst 3, 1) := by decide +kernel
theorem dX6_rid_98 : decode cX6_rid 98 = .ok (.idiv, 1) := by decide +kernel
theorem dX6_rid_99 : decode cX6_rid 99 = .ok (.iconst 3, 1) := by decide +kernel
theorem dX6_rid_100 : decode cX6_rid 100 = .ok (.irem, 1) := by decide +kernel
theorem dX6_rid_101 : decode cX6_rid 101 = .ok (.iconst 1, 1) := by decide +kernel
theorem dX6_rid_102 : decode cX6_rid 102 = .ok (.isub, 1) := by decide +kernel
theorem dX6_rid_103 : decode cX6_rid 103 = .ok (.istore 9, 2) := by decide +kernel
theorem dX6_rid_105 : decode cX6_rid 105 = .ok (.iload 7, 2) := by decide +kernel
theorem dX6_rid_107 : decode cX6_rid 107 = .ok (.iconst 3, 1) := by decide +kernel
theorem dX6_rid_108 : decode cX6_rid 108 = .ok (.irem, 1) := by decide +kernel
theorem dX6_rid_109 : decode cX6_rid 109 = .ok (.iconst 1, 1) := by decide +kernel
theorem dX6_rid_110 : decode cX6_rid 110 = .ok (.isub, 1) := by decide +kernel
theorem dX6_rid_111 : decode cX6_rid 111 = .ok (.istore 10, 2) := by decide +kernel
theorem dX6_rid_113 : decode cX6_rid 113 = .ok (.iload 7, 2) := by decide +kernel
theorem dX6_rid_115 : decode cX6_rid 115 = .ok (.bipush 13, 2) := by decide +kernel
theorem dX6_rid_117 : decode cX6_rid 117 = .ok (.if_icmp .ne 6, 3) := by decide +kernel
theorem dX6_rid_120 : decode cX6_rid 120 = .ok (.goto 58, 3) := by decide +kernel
theorem dX6_rid_123 : decode cX6_rid 123 = .ok (.aload_n 0, 1) := by decide +kernel
theorem dX6_rid_124 : decode cX6_rid 124 = .ok (.iload_n 2, 1) := by decide +kernel
theorem dX6_rid_125 : decode cX6_rid 125 = .ok (.iload_n 1, 1) := by decide +kernel
theorem dX6_rid_126 : decode cX6_rid 126 = .ok (.iload 8, 2) := by decide +kernel
theorem dX6_rid_128 : decode cX6_rid 128 = .ok (.iload 9, 2) := by decide +kernel
theorem dX6_rid_130 : decode cX6_rid 130 = .ok (.iload 10, 2) := by decide +kernel
theorem dX6_rid_132 : decode cX6_rid 132 = .ok (.iconst 0, 1) := by decide +kernel
theorem dX6_rid_133 : decode cX6_rid 133 = .ok (.invokevirtual 171, 3) := by decide +kernel
theorem dX6_rid_136 : decode cX6_rid 136 = .ok (.iconst 1, 1) := by decide +kernel
theorem dX6_rid_137 : decode cX6_rid 137 = .ok (.isub, 1) := by decide +kernel
theorem dX6_rid_138 : decode cX6_rid 138 = .ok (.istore 11, 2) := by decide +kernel
theorem dX6_rid_140 : decode cX6_rid 140 = .ok (.aload_n 0, 1) := by decide +kernel
theorem dX6_rid_141 : decode cX6_rid 141 = .ok (.iload_n 2, 1) := by decide +kernel
theorem dX6_rid_142 : decode cX6_rid 142 = .ok (.iload 8, 2) := by decide +kernel
theorem dX6_rid_144 : decode cX6_rid 144 = .ok (.iload 9, 2) := by decide +kernel
theorem dX6_rid_146 : decode cX6_rid 146 = .ok (.iload 10, 2) := by decide +kernel
theorem dX6_rid_148 : decode cX6_rid 148 = .ok (.iload 11, 2) := by decide +kernel
theorem dX6_rid_150 : decode cX6_rid 150 = .ok (.iconst 0, 1) := by decide +kernel
theorem dX6_rid_151 : decode cX6_rid 151 = .ok (.invokevirtual 168, 3) := by decide +kernel
theorem dX6_rid_154 : decode cX6_rid 154 = .ok (.istore 12, 2) := by decide +kernel
theorem dX6_rid_156 : decode cX6_rid 156 = .ok (.iload 12, 2) := by decide +kernel
theorem dX6_rid_158 : decode cX6_rid 158 = .ok (.iload 6, 2) := by decide +kernel
theorem dX6_rid_160 : decode cX6_rid 160 = .ok (.if_icmp .lt 6, 3) := by decide +kernel
theorem dX6_rid_163 : decode cX6_rid 163 = .ok (.goto 15, 3) := by decide +kernel
theorem dX6_rid_166 : decode cX6_rid 166 = .ok (.iload 7, 2) := by decide +kernel
theorem dX6_rid_168 : decode cX6_rid 168 = .ok (.istore 4, 2) := by decide +kernel
theorem dX6_rid_170 : decode cX6_rid 170 = .ok (.iload 11, 2) := by decide +kernel
theorem dX6_rid_172 : decode cX6_rid 172 = .ok (.istore 5, 2) := by decide +kernel
theorem dX6_rid_174 : decode cX6_rid 174 = .ok (.iload 12, 2) := by decide +kernel
theorem dX6_rid_176 : decode cX6_rid 176 = .ok (.istore 6, 2) := by decide +kernel
theorem dX6_rid_178 : decode cX6_rid 178 = .ok (.iinc 7 1, 3) := by decide +kernel
theorem dX6_rid_181 : decode cX6_rid 181 = .ok (.goto (-102), 3) := by decide +kernel
theorem dX6_rid_184 : decode cX6_rid 184 = .ok (.iload_n 3, 1) := by decide +kernel
theorem dX6_rid_185 : decode cX6_rid 185 = .ok (.ifCond .ne 8, 3) := by decide +kernel
theorem dX6_rid_188 : decode cX6_rid 188 = .ok (.iload 4, 2) := by decide +kernel
theorem dX6_rid_190 : decode cX6_rid 190 = .ok (.goto 15, 3) := by decide +kernel
theorem dX6_rid_193 : decode cX6_rid 193 = .ok (.iload_n 3, 1) := by decide +kernel
theorem dX6_rid_194 : decode cX6_rid 194 = .ok (.iconst 1, 1) := by decide +kernel
theorem dX6_rid_195 : decode cX6_rid 195 = .ok (.if_icmp .ne 8, 3) := by decide +kernel
theorem dX6_rid_198 : decode cX6_rid 198 = .ok (.iload 5, 2) := by decide +kernel
theorem dX6_rid_200 : decode cX6_rid 200 = .ok (.goto 5, 3) := by decide +kernel
theorem dX6_rid_203 : decode cX6_rid 203 = .ok (.iload 6, 2) := by decide +kernel
theorem dX6_rid_205 : decode cX6_rid 205 = .ok (.ireturn, 1) := by decide +kernel
theorem dX6_kept_0 : decode cX6_kept 0 = .ok (.aload_n 0, 1) := by decide +kernel
theorem dX6_kept_1 : decode cX6_kept 1 = .ok (.iconst 0, 1) := by decide +kernel
theorem dX6_kept_2 : decode cX6_kept 2 = .ok (.putfield 26, 3) := by decide +kernel
theorem dX6_kept_5 : decode cX6_kept 5 = .ok (.aload_n 0, 1) := by decide +kernel
theorem dX6_kept_6 : decode cX6_kept 6 = .ok (.iconst 1, 1) := by decide +kernel
theorem dX6_kept_7 : decode cX6_kept 7 = .ok (.invokevirtual 165, 3) := by decide +kernel
theorem dX6_kept_10 : decode cX6_kept 10 = .ok (.i2d, 1) := by decide +kernel
theorem dX6_kept_11 : decode cX6_kept 11 = .ok (.aload_n 0, 1) := by decide +kernel
theorem dX6_kept_12 : decode cX6_kept 12 = .ok (.iconst 0, 1) := by decide +kernel
theorem dX6_kept_13 : decode cX6_kept 13 = .ok (.invokevirtual 165, 3) := by decide +kernel
theorem dX6_kept_16 : decode cX6_kept 16 = .ok (.i2d, 1) := by decide +kernel
theorem dX6_kept_17 : decode cX6_kept 17 = .ok (.ddiv, 1) := by decide +kernel
theorem dX6_kept_18 : decode cX6_kept 18 = .ok (.dreturn, 1) := by decide +kernel
theorem dX6_digest_0 : decode cX6_digest 0 = .ok (.aload_n 0, 1) := by decide +kernel
theorem dX6_digest_1 : decode cX6_digest 1 = .ok (.iconst 0, 1) := by decide +kernel
theorem dX6_digest_2 : decode cX6_digest 2 = .ok (.putfield 26, 3) := by decide +kernel
theorem dX6_digest_5 : decode cX6_digest 5 = .ok (.ldc2_w 175, 3) := by decide +kernel
theorem dX6_digest_8 : decode cX6_digest 8 = .ok (.lstore_n 1, 1) := by decide +kernel
theorem dX6_digest_9 : decode cX6_digest 9 = .ok (.iconst 0, 1) := by decide +kernel
theorem dX6_digest_10 : decode cX6_digest 10 = .ok (.istore_n 3, 1) := by decide +kernel
theorem dX6_digest_11 : decode cX6_digest 11 = .ok (.iload_n 3, 1) := by decide +kernel
theorem dX6_digest_12 : decode cX6_digest 12 = .ok (.bipush 8, 2) := by decide +kernel
theorem dX6_digest_14 : decode cX6_digest 14 = .ok (.if_icmp .ge 22, 3) := by decide +kernel
theorem dX6_digest_17 : decode cX6_digest 17 = .ok (.lload_n 1, 1) := by decide +kernel
theorem dX6_digest_18 : decode cX6_digest 18 = .ok (.ldc2_w 177, 3) := by decide +kernel
theorem dX6_digest_21 : decode cX6_digest 21 = .ok (.lmul, 1) := by decide +kernel
theorem dX6_digest_22 : decode cX6_digest 22 = .ok (.aload_n 0, 1) := by decide +kernel
theorem dX6_digest_23 : decode cX6_digest 23 = .ok (.iload_n 3, 1) := by decide +kernel
theorem dX6_digest_24 : decode cX6_digest 24 = .ok (.invokevirtual 165, 3) := by decide +kernel
theorem dX6_digest_27 : decode cX6_digest 27 = .ok (.i2l, 1) := by decide +kernel
theorem dX6_digest_28 : decode cX6_digest 28 = .ok (.ladd, 1) := by decide +kernel
theorem dX6_digest_29 : decode cX6_digest 29 = .ok (.lstore_n 1, 1) := by decide +kernel
theorem dX6_digest_30 : decode cX6_digest 30 = .ok (.iinc 3 1, 3) := by decide +kernel
theorem dX6_digest_33 : decode cX6_digest 33 = .ok (.goto (-22), 3) := by decide +kernel
theorem dX6_digest_36 : decode cX6_digest 36 = .ok (.iconst 0, 1) := by decide +kernel
theorem dX6_digest_37 : decode cX6_digest 37 = .ok (.istore_n 3, 1) := by decide +kernel
theorem dX6_digest_38 : decode cX6_digest 38 = .ok (.iload_n 3, 1) := by decide +kernel
theorem dX6_digest_39 : decode cX6_digest 39 = .ok (.aload_n 0, 1) := by decide +kernel
theorem dX6_digest_40 : decode cX6_digest 40 = .ok (.getfield 40, 3) := by decide +kernel
theorem dX6_digest_43 : decode cX6_digest 43 = .ok (.if_icmp .ge 66, 3) := by decide +kernel
theorem dX6_digest_46 : decode cX6_digest 46 = .ok (.iconst 0, 1) := by decide +kernel
theorem dX6_digest_47 : decode cX6_digest 47 = .ok (.istore 4, 2) := by decide +kernel
theorem dX6_digest_49 : decode cX6_digest 49 = .ok (.iload 4, 2) := by decide +kernel
theorem dX6_digest_51 : decode cX6_digest 51 = .ok (.aload_n 0, 1) := by decide +kernel
theorem dX6_digest_52 : decode cX6_digest 52 = .ok (.getfield 37, 3) := by decide +kernel
theorem dX6_digest_55 : decode cX6_digest 55 = .ok (.if_icmp .ge 48, 3) := by decide +kernel
theorem dX6_digest_58 : decode cX6_digest 58 = .ok (.iconst 0, 1) := by decide +kernel
theorem dX6_digest_59 : decode cX6_digest 59 = .ok (.istore 5, 2) := by decide +kernel
theorem dX6_digest_61 : decode cX6_digest 61 = .ok (.iload 5, 2) := by decide +kernel
theorem dX6_digest_63 : decode cX6_digest 63 = .ok (.aload_n 0, 1) := by decide +kernel
theorem dX6_digest_64 : decode cX6_digest 64 = .ok (.getfield 30, 3) := by decide +kernel
theorem dX6_digest_67 : decode cX6_digest 67 = .ok (.if_icmp .ge 30, 3) := by decide +kernel
theorem dX6_digest_70 : decode cX6_digest 70 = .ok (.lload_n 1, 1) := by decide +kernel
theorem dX6_digest_71 : decode cX6_digest 71 = .ok (.ldc2_w 177, 3) := by decide +kernel
theorem dX6_digest_74 : decode cX6_digest 74 = .ok (.lmul, 1) := by decide +kernel
theorem dX6_digest_75 : decode cX6_digest 75 = .ok (.aload_n 0, 1) := by decide +kernel
theorem dX6_digest_76 : decode cX6_digest 76 = .ok (.getfield 9, 3) := by decide +kernel
theorem dX6_digest_79 : decode cX6_digest 79 = .ok (.iload 5, 2) := by decide +kernel
theorem dX6_digest_81 : decode cX6_digest 81 = .ok (.iload 4, 2) := by decide +kernel
theorem dX6_digest_83 : decode cX6_digest 83 = .ok (.iload_n 3, 1) := by decide +kernel
theorem dX6_digest_84 : decode cX6_digest 84 = .ok (.invokestatic 72, 3) := by decide +kernel
theorem dX6_digest_87 : decode cX6_digest 87 = .ok (.iaload, 1) := by decide +kernel
theorem dX6_digest_88 : decode cX6_digest 88 = .ok (.i2l, 1) := by decide +kernel
theorem dX6_digest_89 : decode cX6_digest 89 = .ok (.ladd, 1) := by decide +kernel
theorem dX6_digest_90 : decode cX6_digest 90 = .ok (.lstore_n 1, 1) := by decide +kernel
theorem dX6_digest_91 : decode cX6_digest 91 = .ok (.iinc 5 1, 3) := by decide +kernel
theorem dX6_digest_94 : decode cX6_digest 94 = .ok (.goto (-33), 3) := by decide +kernel
theorem dX6_digest_97 : decode cX6_digest 97 = .ok (.iinc 4 1, 3) := by decide +kernel
theorem dX6_digest_100 : decode cX6_digest 100 = .ok (.goto (-51), 3) := by decide +kernel
theorem dX6_digest_103 : decode cX6_digest 103 = .ok (.iinc 3 1, 3) := by decide +kernel
theorem dX6_digest_106 : decode cX6_digest 106 = .ok (.goto (-68), 3) := by decide +kernel
theorem dX6_digest_109 : decode cX6_digest 109 = .ok (.iconst 0, 1) := by decide +kernel
theorem dX6_digest_110 : decode cX6_digest 110 = .ok (.istore_n 3, 1) := by decide +kernel
theorem dX6_digest_111 : decode cX6_digest 111 = .ok (.iload_n 3, 1) := by decide +kernel
theorem dX6_digest_112 : decode cX6_digest 112 = .ok (.aload_n 0, 1) := by decide +kernel
theorem dX6_digest_113 : decode cX6_digest 113 = .ok (.getfield 43, 3) := by decide +kernel
theorem dX6_digest_116 : decode cX6_digest 116 = .ok (.if_icmp .ge 93, 3) := by decide +kernel
theorem dX6_digest_119 : decode cX6_digest 119 = .ok (.iconst 0, 1) := by decide +kernel
theorem dX6_digest_120 : decode cX6_digest 120 = .ok (.istore 4, 2) := by decide +kernel
theorem dX6_digest_122 : decode cX6_digest 122 = .ok (.iload 4, 2) := by decide +kernel
theorem dX6_digest_124 : decode cX6_digest 124 = .ok (.bipush 9, 2) := by decide +kernel
theorem dX6_digest_126 : decode cX6_digest 126 = .ok (.if_icmp .ge 24, 3) := by decide +kernel
theorem dX6_digest_129 : decode cX6_digest 129 = .ok (.lload_n 1, 1) := by decide +kernel
theorem dX6_digest_130 : decode cX6_digest 130 = .ok (.ldc2_w 177, 3) := by decide +kernel
theorem dX6_digest_133 : decode cX6_digest 133 = .ok (.lmul, 1) := by decide +kernel
theorem dX6_digest_134 : decode cX6_digest 134 = .ok (.aload_n 0, 1) := by decide +kernel
theorem dX6_digest_135 : decode cX6_digest 135 = .ok (.iload_n 3, 1) := by decide +kernel
theorem dX6_digest_136 : decode cX6_digest 136 = .ok (.iload 4, 2) := by decide +kernel
theorem dX6_digest_138 : decode cX6_digest 138 = .ok (.invokevirtual 156, 3) := by decide +kernel
theorem dX6_digest_141 : decode cX6_digest 141 = .ok (.i2l, 1) := by decide +kernel
theorem dX6_digest_142 : decode cX6_digest 142 = .ok (.ladd, 1) := by decide +kernel
theorem dX6_digest_143 : decode cX6_digest 143 = .ok (.lstore_n 1, 1) := by decide +kernel
theorem dX6_digest_144 : decode cX6_digest 144 = .ok (.iinc 4 1, 3) := by decide +kernel
theorem dX6_digest_147 : decode cX6_digest 147 = .ok (.goto (-25), 3) := by decide +kernel
theorem dX6_digest_150 : decode cX6_digest 150 = .ok (.iconst 0, 1) := by decide +kernel
theorem dX6_digest_151 : decode cX6_digest 151 = .ok (.istore 4, 2) := by decide +kernel
theorem dX6_digest_153 : decode cX6_digest 153 = .ok (.iload 4, 2) := by decide +kernel
theorem dX6_digest_155 : decode cX6_digest 155 = .ok (.aload_n 0, 1) := by decide +kernel
theorem dX6_digest_156 : decode cX6_digest 156 = .ok (.getfield 19, 3) := by decide +kernel
theorem dX6_digest_159 : decode cX6_digest 159 = .ok (.iload_n 3, 1) := by decide +kernel
theorem dX6_digest_160 : decode cX6_digest 160 = .ok (.iaload, 1) := by decide +kernel
theorem dX6_digest_161 : decode cX6_digest 161 = .ok (.if_icmp .ge 42, 3) := by decide +kernel
theorem dX6_digest_164 : decode cX6_digest 164 = .ok (.iconst 0, 1) := by decide +kernel
theorem dX6_digest_165 : decode cX6_digest 165 = .ok (.istore 5, 2) := by decide +kernel
theorem dX6_digest_167 : decode cX6_digest 167 = .ok (.iload 5, 2) := by decide +kernel
theorem dX6_digest_169 : decode cX6_digest 169 = .ok (.bipush 6, 2) := by decide +kernel
theorem dX6_digest_171 : decode cX6_digest 171 = .ok (.if_icmp .ge 26, 3) := by decide +kernel
theorem dX6_digest_174 : decode cX6_digest 174 = .ok (.lload_n 1, 1) := by decide +kernel
theorem dX6_digest_175 : decode cX6_digest 175 = .ok (.ldc2_w 177, 3) := by decide +kernel
theorem dX6_digest_178 : decode cX6_digest 178 = .ok (.lmul, 1) := by decide +kernel
theorem dX6_digest_179 : decode cX6_digest 179 = .ok (.aload_n 0, 1) := by decide +kernel
theorem dX6_digest_180 : decode cX6_digest 180 = .ok (.iload_n 3, 1) := by decide +kernel
theorem dX6_digest_181 : decode cX6_digest 181 = .ok (.iload 4, 2) := by decide +kernel
theorem dX6_digest_183 : decode cX6_digest 183 = .ok (.iload 5, 2) := by decide +kernel
theorem dX6_digest_185 : decode cX6_digest 185 = .ok (.invokevirtual 159, 3) := by decide +kernel
theorem dX6_digest_188 : decode cX6_digest 188 = .ok (.i2l, 1) := by decide +kernel
theorem dX6_digest_189 : decode cX6_digest 189 = .ok (.ladd, 1) := by decide +kernel
theorem dX6_digest_190 : decode cX6_digest 190 = .ok (.lstore_n 1, 1) := by decide +kernel
theorem dX6_digest_191 : decode cX6_digest 191 = .ok (.iinc 5 1, 3) := by decide +kernel
theorem dX6_digest_194 : decode cX6_digest 194 = .ok (.goto (-27), 3) := by decide +kernel
theorem dX6_digest_197 : decode cX6_digest 197 = .ok (.iinc 4 1, 3) := by decide +kernel
theorem dX6_digest_200 : decode cX6_digest 200 = .ok (.goto (-47), 3) := by decide +kernel
theorem dX6_digest_203 : decode cX6_digest 203 = .ok (.iinc 3 1, 3) := by decide +kernel
theorem dX6_digest_206 : decode cX6_digest 206 = .ok (.goto (-95), 3) := by decide +kernel
theorem dX6_digest_209 : decode cX6_digest 209 = .ok (.iconst 0, 1) := by decide +kernel
theorem dX6_digest_210 : decode cX6_digest 210 = .ok (.istore_n 3, 1) := by decide +kernel
theorem dX6_digest_211 : decode cX6_digest 211 = .ok (.iload_n 3, 1) := by decide +kernel
theorem dX6_digest_212 : decode cX6_digest 212 = .ok (.aload_n 0, 1) := by decide +kernel
theorem dX6_digest_213 : decode cX6_digest 213 = .ok (.getfield 53, 3) := by decide +kernel
theorem dX6_digest_216 : decode cX6_digest 216 = .ok (.if_icmp .ge 59, 3) := by decide +kernel
theorem dX6_digest_219 : decode cX6_digest 219 = .ok (.iconst 0, 1) := by decide +kernel
theorem dX6_digest_220 : decode cX6_digest 220 = .ok (.istore 4, 2) := by decide +kernel
theorem dX6_digest_222 : decode cX6_digest 222 = .ok (.iload 4, 2) := by decide +kernel
theorem dX6_digest_224 : decode cX6_digest 224 = .ok (.aload_n 0, 1) := by decide +kernel
theorem dX6_digest_225 : decode cX6_digest 225 = .ok (.getfield 43, 3) := by decide +kernel
theorem dX6_digest_228 : decode cX6_digest 228 = .ok (.if_icmp .ge 41, 3) := by decide +kernel
theorem dX6_digest_231 : decode cX6_digest 231 = .ok (.iconst 0, 1) := by decide +kernel
theorem dX6_digest_232 : decode cX6_digest 232 = .ok (.istore 5, 2) := by decide +kernel
theorem dX6_digest_234 : decode cX6_digest 234 = .ok (.iload 5, 2) := by decide +kernel
theorem dX6_digest_236 : decode cX6_digest 236 = .ok (.iconst 3, 1) := by decide +kernel
theorem dX6_digest_237 : decode cX6_digest 237 = .ok (.if_icmp .ge 26, 3) := by decide +kernel
theorem dX6_digest_240 : decode cX6_digest 240 = .ok (.lload_n 1, 1) := by decide +kernel
theorem dX6_digest_241 : decode cX6_digest 241 = .ok (.ldc2_w 177, 3) := by decide +kernel
theorem dX6_digest_244 : decode cX6_digest 244 = .ok (.lmul, 1) := by decide +kernel
theorem dX6_digest_245 : decode cX6_digest 245 = .ok (.aload_n 0, 1) := by decide +kernel
theorem dX6_digest_246 : decode cX6_digest 246 = .ok (.iload_n 3, 1) := by decide +kernel
theorem dX6_digest_247 : decode cX6_digest 247 = .ok (.iload 4, 2) := by decide +kernel
theorem dX6_digest_249 : decode cX6_digest 249 = .ok (.iload 5, 2) := by decide +kernel
theorem dX6_digest_251 : decode cX6_digest 251 = .ok (.invokevirtual 100, 3) := by decide +kernel
theorem dX6_digest_254 : decode cX6_digest 254 = .ok (.i2l, 1) := by decide +kernel
theorem dX6_digest_255 : decode cX6_digest 255 = .ok (.ladd, 1) := by decide +kernel
theorem dX6_digest_256 : decode cX6_digest 256 = .ok (.lstore_n 1, 1) := by decide +kernel
theorem dX6_digest_257 : decode cX6_digest 257 = .ok (.iinc 5 1, 3) := by decide +kernel
theorem dX6_digest_260 : decode cX6_digest 260 = .ok (.goto (-26), 3) := by decide +kernel
theorem dX6_digest_263 : decode cX6_digest 263 = .ok (.iinc 4 1, 3) := by decide +kernel
theorem dX6_digest_266 : decode cX6_digest 266 = .ok (.goto (-44), 3) := by decide +kernel
theorem dX6_digest_269 : decode cX6_digest 269 = .ok (.iinc 3 1, 3) := by decide +kernel
theorem dX6_digest_272 : decode cX6_digest 272 = .ok (.goto (-61), 3) := by decide +kernel
theorem dX6_digest_275 : decode cX6_digest 275 = .ok (.lload_n 1, 1) := by decide +kernel
theorem dX6_digest_276 : decode cX6_digest 276 = .ok (.lreturn, 1) := by decide +kernel
theorem dL_take_0 : decode cL_take 0 = .ok (.aload 4, 2) := by decide +kernel
theorem dL_take_2 : decode cL_take 2 = .ok (.iconst 0, 1) := by decide +kernel
theorem dL_take_3 : decode cL_take 3 = .ok (.aload_n 0, 1) := by decide +kernel
theorem dL_take_4 : decode cL_take 4 = .ok (.iload_n 1, 1) := by decide +kernel
theorem dL_take_5 : decode cL_take 5 = .ok (.iload_n 2, 1) := by decide +kernel
theorem dL_take_6 : decode cL_take 6 = .ok (.iload_n 3, 1) := by decide +kernel
theorem dL_take_7 : decode cL_take 7 = .ok (.invokevirtual 7, 3) := by decide +kernel
theorem dL_take_10 : decode cL_take 10 = .ok (.i2l, 1) := by decide +kernel
theorem dL_take_11 : decode cL_take 11 = .ok (.lastore, 1) := by decide +kernel
theorem dL_take_12 : decode cL_take 12 = .ok (.goto 7, 3) := by decide +kernel
theorem dL_take_15 : decode cL_take 15 = .ok (.astore 5, 2) := by decide +kernel
theorem dL_take_17 : decode cL_take 17 = .ok (.iconst 1, 1) := by decide +kernel
theorem dL_take_18 : decode cL_take 18 = .ok (.ireturn, 1) := by decide +kernel
theorem dL_take_19 : decode cL_take 19 = .ok (.iconst 0, 1) := by decide +kernel
theorem dL_take_20 : decode cL_take 20 = .ok (.ireturn, 1) := by decide +kernel
theorem dL_flaw_0 : decode cL_flaw 0 = .ok (.aload 6, 2) := by decide +kernel
theorem dL_flaw_2 : decode cL_flaw 2 = .ok (.iconst 0, 1) := by decide +kernel
theorem dL_flaw_3 : decode cL_flaw 3 = .ok (.aload_n 0, 1) := by decide +kernel
theorem dL_flaw_4 : decode cL_flaw 4 = .ok (.iload_n 1, 1) := by decide +kernel
theorem dL_flaw_5 : decode cL_flaw 5 = .ok (.iload_n 2, 1) := by decide +kernel
theorem dL_flaw_6 : decode cL_flaw 6 = .ok (.iload_n 3, 1) := by decide +kernel
theorem dL_flaw_7 : decode cL_flaw 7 = .ok (.iload 4, 2) := by decide +kernel
theorem dL_flaw_9 : decode cL_flaw 9 = .ok (.iload 5, 2) := by decide +kernel
theorem dL_flaw_11 : decode cL_flaw 11 = .ok (.invokevirtual 15, 3) := by decide +kernel
theorem dL_flaw_14 : decode cL_flaw 14 = .ok (.i2l, 1) := by decide +kernel
theorem dL_flaw_15 : decode cL_flaw 15 = .ok (.lastore, 1) := by decide +kernel
theorem dL_flaw_16 : decode cL_flaw 16 = .ok (.goto 15, 3) := by decide +kernel
theorem dL_flaw_19 : decode cL_flaw 19 = .ok (.astore 7, 2) := by decide +kernel
theorem dL_flaw_21 : decode cL_flaw 21 = .ok (.iconst 1, 1) := by decide +kernel
theorem dL_flaw_22 : decode cL_flaw 22 = .ok (.ireturn, 1) := by decide +kernel
theorem dL_flaw_23 : decode cL_flaw 23 = .ok (.astore 7, 2) := by decide +kernel
theorem dL_flaw_25 : decode cL_flaw 25 = .ok (.iconst 2, 1) := by decide +kernel
theorem dL_flaw_26 : decode cL_flaw 26 = .ok (.ireturn, 1) := by decide +kernel
theorem dL_flaw_27 : decode cL_flaw 27 = .ok (.astore 7, 2) := by decide +kernel
theorem dL_flaw_29 : decode cL_flaw 29 = .ok (.iconst 3, 1) := by decide +kernel
theorem dL_flaw_30 : decode cL_flaw 30 = .ok (.ireturn, 1) := by decide +kernel
theorem dL_flaw_31 : decode cL_flaw 31 = .ok (.iconst 0, 1) := by decide +kernel
theorem dL_flaw_32 : decode cL_flaw 32 = .ok (.ireturn, 1) := by decide +kernel
theorem dL_cell_0 : decode cL_cell 0 = .ok (.aload 4, 2) := by decide +kernel
theorem dL_cell_2 : decode cL_cell 2 = .ok (.iconst 0, 1) := by decide +kernel
theorem dL_cell_3 : decode cL_cell 3 = .ok (.aload_n 0, 1) := by decide +kernel
theorem dL_cell_4 : decode cL_cell 4 = .ok (.iload_n 1, 1) := by decide +kernel
theorem dL_cell_5 : decode cL_cell 5 = .ok (.iload_n 2, 1) := by decide +kernel
theorem dL_cell_6 : decode cL_cell 6 = .ok (.iload_n 3, 1) := by decide +kernel
theorem dL_cell_7 : decode cL_cell 7 = .ok (.invokevirtual 23, 3) := by decide +kernel
theorem dL_cell_10 : decode cL_cell 10 = .ok (.i2l, 1) := by decide +kernel
theorem dL_cell_11 : decode cL_cell 11 = .ok (.lastore, 1) := by decide +kernel
theorem dL_cell_12 : decode cL_cell 12 = .ok (.goto 7, 3) := by decide +kernel
theorem dL_cell_15 : decode cL_cell 15 = .ok (.astore 5, 2) := by decide +kernel
theorem dL_cell_17 : decode cL_cell 17 = .ok (.iconst 1, 1) := by decide +kernel
theorem dL_cell_18 : decode cL_cell 18 = .ok (.ireturn, 1) := by decide +kernel
theorem dL_cell_19 : decode cL_cell 19 = .ok (.iconst 0, 1) := by decide +kernel
theorem dL_cell_20 : decode cL_cell 20 = .ok (.ireturn, 1) := by decide +kernel
theorem dL_flawIn_0 : decode cL_flawIn 0 = .ok (.aload 4, 2) := by decide +kernel
theorem dL_flawIn_2 : decode cL_flawIn 2 = .ok (.iconst 0, 1) := by decide +kernel
theorem dL_flawIn_3 : decode cL_flawIn 3 = .ok (.aload_n 0, 1) := by decide +kernel
theorem dL_flawIn_4 : decode cL_flawIn 4 = .ok (.iload_n 1, 1) := by decide +kernel
theorem dL_flawIn_5 : decode cL_flawIn 5 = .ok (.iload_n 2, 1) := by decide +kernel
theorem dL_flawIn_6 : decode cL_flawIn 6 = .ok (.iload_n 3, 1) := by decide +kernel
theorem dL_flawIn_7 : decode cL_flawIn 7 = .ok (.invokevirtual 26, 3) := by decide +kernel
theorem dL_flawIn_10 : decode cL_flawIn 10 = .ok (.i2l, 1) := by decide +kernel
theorem dL_flawIn_11 : decode cL_flawIn 11 = .ok (.lastore, 1) := by decide +kernel
theorem dL_flawIn_12 : decode cL_flawIn 12 = .ok (.goto 7, 3) := by decide +kernel
theorem dL_flawIn_15 : decode cL_flawIn 15 = .ok (.astore 5, 2) := by decide +kernel
theorem dL_flawIn_17 : decode cL_flawIn 17 = .ok (.iconst 1, 1) := by decide +kernel
theorem dL_flawIn_18 : decode cL_flawIn 18 = .ok (.ireturn, 1) := by decide +kernel
theorem dL_flawIn_19 : decode cL_flawIn 19 = .ok (.iconst 0, 1) := by decide +kernel
theorem dL_flawIn_20 : decode cL_flawIn 20 = .ok (.ireturn, 1) := by decide +kernel
theorem dL_saw_0 : decode cL_saw 0 = .ok (.aload 6, 2) := by decide +kernel
theorem dL_saw_2 : decode cL_saw 2 = .ok (.iconst 0, 1) := by decide +kernel
theorem dL_saw_3 : decode cL_saw 3 = .ok (.aload_n 0, 1) := by decide +kernel
theorem dL_saw_4 : decode cL_saw 4 = .ok (.iload_n 1, 1) := by decide +kernel
theorem dL_saw_5 : decode cL_saw 5 = .ok (.iload_n 2, 1) := by decide +kernel
theorem dL_saw_6 : decode cL_saw 6 = .ok (.iload_n 3, 1) := by decide +kernel
theorem dL_saw_7 : decode cL_saw 7 = .ok (.iload 4, 2) := by decide +kernel
theorem dL_saw_9 : decode cL_saw 9 = .ok (.iload 5, 2) := by decide +kernel
theorem dL_saw_11 : decode cL_saw 11 = .ok (.invokevirtual 29, 3) := by decide +kernel
theorem dL_saw_14 : decode cL_saw 14 = .ok (.i2l, 1) := by decide +kernel
theorem dL_saw_15 : decode cL_saw 15 = .ok (.lastore, 1) := by decide +kernel
theorem dL_saw_16 : decode cL_saw 16 = .ok (.goto 15, 3) := by decide +kernel
theorem dL_saw_19 : decode cL_saw 19 = .ok (.astore 7, 2) := by decide +kernel
theorem dL_saw_21 : decode cL_saw 21 = .ok (.iconst 1, 1) := by decide +kernel
theorem dL_saw_22 : decode cL_saw 22 = .ok (.ireturn, 1) := by decide +kernel
theorem dL_saw_23 : decode cL_saw 23 = .ok (.astore 7, 2) := by decide +kernel
theorem dL_saw_25 : decode cL_saw 25 = .ok (.iconst 2, 1) := by decide +kernel
theorem dL_saw_26 : decode cL_saw 26 = .ok (.ireturn, 1) := by decide +kernel
theorem dL_saw_27 : decode cL_saw 27 = .ok (.astore 7, 2) := by decide +kernel
theorem dL_saw_29 : decode cL_saw 29 = .ok (.iconst 3, 1) := by decide +kernel
theorem dL_saw_30 : decode cL_saw 30 = .ok (.ireturn, 1) := by decide +kernel
theorem dL_saw_31 : decode cL_saw 31 = .ok (.iconst 0, 1) := by decide +kernel
theorem dL_saw_32 : decode cL_saw 32 = .ok (.ireturn, 1) := by decide +kernel
theorem dL_cut_0 : decode cL_cut 0 = .ok (.aload 6, 2) := by decide +kernel
theorem dL_cut_2 : decode cL_cut 2 = .ok (.iconst 0, 1) := by decide +kernel
theorem dL_cut_3 : decode cL_cut 3 = .ok (.aload_n 0, 1) := by decide +kernel
theorem dL_cut_4 : decode cL_cut 4 = .ok (.iload_n 1, 1) := by decide +kernel
theorem dL_cut_5 : decode cL_cut 5 = .ok (.iload_n 2, 1) := by decide +kernel
theorem dL_cut_6 : decode cL_cut 6 = .ok (.iload_n 3, 1) := by decide +kernel
theorem dL_cut_7 : decode cL_cut 7 = .ok (.iload 4, 2) := by decide +kernel
theorem dL_cut_9 : decode cL_cut 9 = .ok (.iload 5, 2) := by decide +kernel
theorem dL_cut_11 : decode cL_cut 11 = .ok (.invokevirtual 32, 3) := by decide +kernel
theorem dL_cut_14 : decode cL_cut 14 = .ok (.i2l, 1) := by decide +kernel
theorem dL_cut_15 : decode cL_cut 15 = .ok (.lastore, 1) := by decide +kernel
theorem dL_cut_16 : decode cL_cut 16 = .ok (.goto 15, 3) := by decide +kernel
theorem dL_cut_19 : decode cL_cut 19 = .ok (.astore 7, 2) := by decide +kernel
theorem dL_cut_21 : decode cL_cut 21 = .ok (.iconst 1, 1) := by decide +kernel
theorem dL_cut_22 : decode cL_cut 22 = .ok (.ireturn, 1) := by decide +kernel
theorem dL_cut_23 : decode cL_cut 23 = .ok (.astore 7, 2) := by decide +kernel
theorem dL_cut_25 : decode cL_cut 25 = .ok (.iconst 2, 1) := by decide +kernel
theorem dL_cut_26 : decode cL_cut 26 = .ok (.ireturn, 1) := by decide +kernel
theorem dL_cut_27 : decode cL_cut 27 = .ok (.astore 7, 2) := by decide +kernel
theorem dL_cut_29 : decode cL_cut 29 = .ok (.iconst 3, 1) := by decide +kernel
theorem dL_cut_30 : decode cL_cut 30 = .ok (.ireturn, 1) := by decide +kernel
theorem dL_cut_31 : decode cL_cut 31 = .ok (.iconst 0, 1) := by decide +kernel
theorem dL_cut_32 : decode cL_cut 32 = .ok (.ireturn, 1) := by decide +kernel
theorem dL_polish_0 : decode cL_polish 0 = .ok (.aload_n 3, 1) := by decide +kernel
theorem dL_polish_1 : decode cL_polish 1 = .ok (.iconst 0, 1) := by decide +kernel
theorem dL_polish_2 : decode cL_polish 2 = .ok (.aload_n 0, 1) := by decide +kernel
theorem dL_polish_3 : decode cL_polish 3 = .ok (.iload_n 1, 1) := by decide +kernel
theorem dL_polish_4 : decode cL_polish 4 = .ok (.iload_n 2, 1) := by decide +kernel
theorem dL_polish_5 : decode cL_polish 5 = .ok (.invokevirtual 35, 3) := by decide +kernel
theorem dL_polish_8 : decode cL_polish 8 = .ok (.i2l, 1) := by decide +kernel
theorem dL_polish_9 : decode cL_polish 9 = .ok (.lastore, 1) := by decide +kernel
theorem dL_polish_10 : decode cL_polish 10 = .ok (.goto 11, 3) := by decide +kernel
theorem dL_polish_13 : decode cL_polish 13 = .ok (.astore 4, 2) := by decide +kernel
theorem dL_polish_15 : decode cL_polish 15 = .ok (.iconst 1, 1) := by decide +kernel
theorem dL_polish_16 : decode cL_polish 16 = .ok (.ireturn, 1) := by decide +kernel
theorem dL_polish_17 : decode cL_polish 17 = .ok (.astore 4, 2) := by decide +kernel
theorem dL_polish_19 : decode cL_polish 19 = .ok (.iconst 2, 1) := by decide +kernel
theorem dL_polish_20 : decode cL_polish 20 = .ok (.ireturn, 1) := by decide +kernel
theorem dL_polish_21 : decode cL_polish 21 = .ok (.iconst 0, 1) := by decide +kernel
theorem dL_polish_22 : decode cL_polish 22 = .ok (.ireturn, 1) := by decide +kernel
theorem dL_stone_0 : decode cL_stone 0 = .ok (.aload_n 3, 1) := by decide +kernel
theorem dL_stone_1 : decode cL_stone 1 = .ok (.iconst 0, 1) := by decide +kernel
theorem dL_stone_2 : decode cL_stone 2 = .ok (.aload_n 0, 1) := by decide +kernel
theorem dL_stone_3 : decode cL_stone 3 = .ok (.iload_n 1, 1) := by decide +kernel
theorem dL_stone_4 : decode cL_stone 4 = .ok (.iload_n 2, 1) := by decide +kernel
theorem dL_stone_5 : decode cL_stone 5 = .ok (.invokevirtual 39, 3) := by decide +kernel
theorem dL_stone_8 : decode cL_stone 8 = .ok (.i2l, 1) := by decide +kernel
theorem dL_stone_9 : decode cL_stone 9 = .ok (.lastore, 1) := by decide +kernel
theorem dL_stone_10 : decode cL_stone 10 = .ok (.goto 7, 3) := by decide +kernel
theorem dL_stone_13 : decode cL_stone 13 = .ok (.astore 4, 2) := by decide +kernel
theorem dL_stone_15 : decode cL_stone 15 = .ok (.iconst 1, 1) := by decide +kernel
theorem dL_stone_16 : decode cL_stone 16 = .ok (.ireturn, 1) := by decide +kernel
theorem dL_stone_17 : decode cL_stone 17 = .ok (.iconst 0, 1) := by decide +kernel
theorem dL_stone_18 : decode cL_stone 18 = .ok (.ireturn, 1) := by decide +kernel
theorem dL_plane_0 : decode cL_plane 0 = .ok (.aload 4, 2) := by decide +kernel
theorem dL_plane_2 : decode cL_plane 2 = .ok (.iconst 0, 1) := by decide +kernel
theorem dL_plane_3 : decode cL_plane 3 = .ok (.aload_n 0, 1) := by decide +kernel
theorem dL_plane_4 : decode cL_plane 4 = .ok (.iload_n 1, 1) := by decide +kernel
theorem dL_plane_5 : decode cL_plane 5 = .ok (.iload_n 2, 1) := by decide +kernel
theorem dL_plane_6 : decode cL_plane 6 = .ok (.iload_n 3, 1) := by decide +kernel
theorem dL_plane_7 : decode cL_plane 7 = .ok (.invokevirtual 42, 3) := by decide +kernel
theorem dL_plane_10 : decode cL_plane 10 = .ok (.i2l, 1) := by decide +kernel
theorem dL_plane_11 : decode cL_plane 11 = .ok (.lastore, 1) := by decide +kernel
theorem dL_plane_12 : decode cL_plane 12 = .ok (.goto 7, 3) := by decide +kernel
theorem dL_plane_15 : decode cL_plane 15 = .ok (.astore 5, 2) := by decide +kernel
theorem dL_plane_17 : decode cL_plane 17 = .ok (.iconst 1, 1) := by decide +kernel
theorem dL_plane_18 : decode cL_plane 18 = .ok (.ireturn, 1) := by decide +kernel
theorem dL_plane_19 : decode cL_plane 19 = .ok (.iconst 0, 1) := by decide +kernel
theorem dL_plane_20 : decode cL_plane 20 = .ok (.ireturn, 1) := by decide +kernel
theorem dL_angle_0 : decode cL_angle 0 = .ok (.aload 4, 2) := by decide +kernel
theorem dL_angle_2 : decode cL_angle 2 = .ok (.iconst 0, 1) := by decide +kernel
theorem dL_angle_3 : decode cL_angle 3 = .ok (.aload_n 0, 1) := by decide +kernel
theorem dL_angle_4 : decode cL_angle 4 = .ok (.iload_n 1, 1) := by decide +kernel
theorem dL_angle_5 : decode cL_angle 5 = .ok (.iload_n 2, 1) := by decide +kernel
theorem dL_angle_6 : decode cL_angle 6 = .ok (.iload_n 3, 1) := by decide +kernel
theorem dL_angle_7 : decode cL_angle 7 = .ok (.invokevirtual 45, 3) := by decide +kernel
theorem dL_angle_10 : decode cL_angle 10 = .ok (.i2l, 1) := by decide +kernel
theorem dL_angle_11 : decode cL_angle 11 = .ok (.lastore, 1) := by decide +kernel
theorem dL_angle_12 : decode cL_angle 12 = .ok (.goto 7, 3) := by decide +kernel
theorem dL_angle_15 : decode cL_angle 15 = .ok (.astore 5, 2) := by decide +kernel
theorem dL_angle_17 : decode cL_angle 17 = .ok (.iconst 1, 1) := by decide +kernel
theorem dL_angle_18 : decode cL_angle 18 = .ok (.ireturn, 1) := by decide +kernel
theorem dL_angle_19 : decode cL_angle 19 = .ok (.iconst 0, 1) := by decide +kernel
theorem dL_angle_20 : decode cL_angle 20 = .ok (.ireturn, 1) := by decide +kernel
theorem dL_count_0 : decode cL_count 0 = .ok (.aload_n 2, 1) := by decide +kernel
theorem dL_count_1 : decode cL_count 1 = .ok (.iconst 0, 1) := by decide +kernel
theorem dL_count_2 : decode cL_count 2 = .ok (.aload_n 0, 1) := by decide +kernel
theorem dL_count_3 : decode cL_count 3 = .ok (.iload_n 1, 1) := by decide +kernel
theorem dL_count_4 : decode cL_count 4 = .ok (.invokevirtual 48, 3) := by decide +kernel
theorem dL_count_7 : decode cL_count 7 = .ok (.i2l, 1) := by decide +kernel
theorem dL_count_8 : decode cL_count 8 = .ok (.lastore, 1) := by decide +kernel
theorem dL_count_9 : decode cL_count 9 = .ok (.goto 6, 3) := by decide +kernel
theorem dL_count_12 : decode cL_count 12 = .ok (.astore_n 3, 1) := by decide +kernel
theorem dL_count_13 : decode cL_count 13 = .ok (.iconst 1, 1) := by decide +kernel
theorem dL_count_14 : decode cL_count 14 = .ok (.ireturn, 1) := by decide +kernel
theorem dL_count_15 : decode cL_count 15 = .ok (.iconst 0, 1) := by decide +kernel
theorem dL_count_16 : decode cL_count 16 = .ok (.ireturn, 1) := by decide +kernel
theorem dL_would_0 : decode cL_would 0 = .ok (.aload 7, 2) := by decide +kernel
theorem dL_would_2 : decode cL_would 2 = .ok (.iconst 0, 1) := by decide +kernel
theorem dL_would_3 : decode cL_would 3 = .ok (.aload_n 0, 1) := by decide +kernel
theorem dL_would_4 : decode cL_would 4 = .ok (.iload_n 1, 1) := by decide +kernel
theorem dL_would_5 : decode cL_would 5 = .ok (.iload_n 2, 1) := by decide +kernel
theorem dL_would_6 : decode cL_would 6 = .ok (.iload_n 3, 1) := by decide +kernel
theorem dL_would_7 : decode cL_would 7 = .ok (.iload 4, 2) := by decide +kernel
theorem dL_would_9 : decode cL_would 9 = .ok (.iload 5, 2) := by decide +kernel
theorem dL_would_11 : decode cL_would 11 = .ok (.iload 6, 2) := by decide +kernel
theorem dL_would_13 : decode cL_would 13 = .ok (.invokevirtual 52, 3) := by decide +kernel
theorem dL_would_16 : decode cL_would 16 = .ok (.i2l, 1) := by decide +kernel
theorem dL_would_17 : decode cL_would 17 = .ok (.lastore, 1) := by decide +kernel
theorem dL_would_18 : decode cL_would 18 = .ok (.goto 11, 3) := by decide +kernel
theorem dL_would_21 : decode cL_would 21 = .ok (.astore 8, 2) := by decide +kernel
theorem dL_would_23 : decode cL_would 23 = .ok (.iconst 1, 1) := by decide +kernel
theorem dL_would_24 : decode cL_would 24 = .ok (.ireturn, 1) := by decide +kernel
theorem dL_would_25 : decode cL_would 25 = .ok (.astore 8, 2) := by decide +kernel
theorem dL_would_27 : decode cL_would 27 = .ok (.iconst 2, 1) := by decide +kernel
theorem dL_would_28 : decode cL_would 28 = .ok (.ireturn, 1) := by decide +kernel
theorem dL_would_29 : decode cL_would 29 = .ok (.iconst 0, 1) := by decide +kernel
theorem dL_would_30 : decode cL_would 30 = .ok (.ireturn, 1) := by decide +kernel
theorem dL_depth_0 : decode cL_depth 0 = .ok (.aload 5, 2) := by decide +kernel
theorem dL_depth_2 : decode cL_depth 2 = .ok (.iconst 0, 1) := by decide +kernel
theorem dL_depth_3 : decode cL_depth 3 = .ok (.aload_n 0, 1) := by decide +kernel
theorem dL_depth_4 : decode cL_depth 4 = .ok (.iload_n 1, 1) := by decide +kernel
theorem dL_depth_5 : decode cL_depth 5 = .ok (.iload_n 2, 1) := by decide +kernel
theorem dL_depth_6 : decode cL_depth 6 = .ok (.iload_n 3, 1) := by decide +kernel
theorem dL_depth_7 : decode cL_depth 7 = .ok (.iload 4, 2) := by decide +kernel
theorem dL_depth_9 : decode cL_depth 9 = .ok (.invokevirtual 56, 3) := by decide +kernel
theorem dL_depth_12 : decode cL_depth 12 = .ok (.i2l, 1) := by decide +kernel
theorem dL_depth_13 : decode cL_depth 13 = .ok (.lastore, 1) := by decide +kernel
theorem dL_depth_14 : decode cL_depth 14 = .ok (.goto 15, 3) := by decide +kernel
theorem dL_depth_17 : decode cL_depth 17 = .ok (.astore 6, 2) := by decide +kernel
theorem dL_depth_19 : decode cL_depth 19 = .ok (.iconst 1, 1) := by decide +kernel
theorem dL_depth_20 : decode cL_depth 20 = .ok (.ireturn, 1) := by decide +kernel
theorem dL_depth_21 : decode cL_depth 21 = .ok (.astore 6, 2) := by decide +kernel
theorem dL_depth_23 : decode cL_depth 23 = .ok (.iconst 2, 1) := by decide +kernel
theorem dL_depth_24 : decode cL_depth 24 = .ok (.ireturn, 1) := by decide +kernel
theorem dL_depth_25 : decode cL_depth 25 = .ok (.astore 6, 2) := by decide +kernel
theorem dL_depth_27 : decode cL_depth 27 = .ok (.iconst 3, 1) := by decide +kernel
theorem dL_depth_28 : decode cL_depth 28 = .ok (.ireturn, 1) := by decide +kernel
theorem dL_depth_29 : decode cL_depth 29 = .ok (.iconst 0, 1) := by decide +kernel
theorem dL_depth_30 : decode cL_depth 30 = .ok (.ireturn, 1) := by decide +kernel
theorem dL_rid_0 : decode cL_rid 0 = .ok (.aload 4, 2) := by decide +kernel
theorem dL_rid_2 : decode cL_rid 2 = .ok (.iconst 0, 1) := by decide +kernel
theorem dL_rid_3 : decode cL_rid 3 = .ok (.aload_n 0, 1) := by decide +kernel
theorem dL_rid_4 : decode cL_rid 4 = .ok (.iload_n 1, 1) := by decide +kernel
theorem dL_rid_5 : decode cL_rid 5 = .ok (.iload_n 2, 1) := by decide +kernel
theorem dL_rid_6 : decode cL_rid 6 = .ok (.iload_n 3, 1) := by decide +kernel
theorem dL_rid_7 : decode cL_rid 7 = .ok (.invokevirtual 60, 3) := by decide +kernel
theorem dL_rid_10 : decode cL_rid 10 = .ok (.i2l, 1) := by decide +kernel
theorem dL_rid_11 : decode cL_rid 11 = .ok (.lastore, 1) := by decide +kernel
theorem dL_rid_12 : decode cL_rid 12 = .ok (.goto 7, 3) := by decide +kernel
theorem dL_rid_15 : decode cL_rid 15 = .ok (.astore 5, 2) := by decide +kernel
theorem dL_rid_17 : decode cL_rid 17 = .ok (.iconst 1, 1) := by decide +kernel
theorem dL_rid_18 : decode cL_rid 18 = .ok (.ireturn, 1) := by decide +kernel
theorem dL_rid_19 : decode cL_rid 19 = .ok (.iconst 0, 1) := by decide +kernel
theorem dL_rid_20 : decode cL_rid 20 = .ok (.ireturn, 1) := by decide +kernel
theorem dL_law_0 : decode cL_law 0 = .ok (.new 8, 3) := by decide +kernel
theorem dL_law_3 : decode cL_law 3 = .ok (.dup, 1) := by decide +kernel
theorem dL_law_4 : decode cL_law 4 = .ok (.invokespecial 63, 3) := by decide +kernel
theorem dL_law_7 : decode cL_law 7 = .ok (.astore_n 1, 1) := by decide +kernel
theorem dL_law_8 : decode cL_law 8 = .ok (.new 64, 3) := by decide +kernel
theorem dL_law_11 : decode cL_law 11 = .ok (.dup, 1) := by decide +kernel
theorem dL_law_12 : decode cL_law 12 = .ok (.invokespecial 66, 3) := by decide +kernel
theorem dL_law_15 : decode cL_law 15 = .ok (.astore_n 2, 1) := by decide +kernel
theorem dL_law_16 : decode cL_law 16 = .ok (.iconst 1, 1) := by decide +kernel
theorem dL_law_17 : decode cL_law 17 = .ok (.newarray .long, 2) := by decide +kernel
theorem dL_law_19 : decode cL_law 19 = .ok (.astore_n 3, 1) := by decide +kernel
theorem dL_law_20 : decode cL_law 20 = .ok (.iconst 0, 1) := by decide +kernel
theorem dL_law_21 : decode cL_law 21 = .ok (.istore 4, 2) := by decide +kernel
theorem dL_law_23 : decode cL_law 23 = .ok (.iload 4, 2) := by decide +kernel
theorem dL_law_25 : decode cL_law 25 = .ok (.aload_n 0, 1) := by decide +kernel
theorem dL_law_26 : decode cL_law 26 = .ok (.arraylength, 1) := by decide +kernel
theorem dL_law_27 : decode cL_law 27 = .ok (.bipush 7, 2) := by decide +kernel
theorem dL_law_29 : decode cL_law 29 = .ok (.isub, 1) := by decide +kernel
theorem dL_law_30 : decode cL_law 30 = .ok (.if_icmp .gt 1362, 3) := by decide +kernel
theorem dL_law_33 : decode cL_law 33 = .ok (.aload_n 0, 1) := by decide +kernel
theorem dL_law_34 : decode cL_law 34 = .ok (.iload 4, 2) := by decide +kernel
theorem dL_law_36 : decode cL_law 36 = .ok (.iaload, 1) := by decide +kernel
theorem dL_law_37 : decode cL_law 37 = .ok (.bipush 31, 2) := by decide +kernel
theorem dL_law_39 : decode cL_law 39 = .ok (.iand, 1) := by decide +kernel
theorem dL_law_40 : decode cL_law 40 = .ok (.tableswitch 1346 0 16 #[84, 164, 268, 348, 428, 532, 636, 704, 717, 785, 865, 945, 1001, 1119, 1211, 1291, 1332], 84) := by decide +kernel
theorem dL_law_124 : decode cL_law 124 = .ok (.aload_n 1, 1) := by decide +kernel
theorem dL_law_125 : decode cL_law 125 = .ok (.aload_n 0, 1) := by decide +kernel
theorem dL_law_126 : decode cL_law 126 = .ok (.iload 4, 2) := by decide +kernel
theorem dL_law_128 : decode cL_law 128 = .ok (.iconst 1, 1) := by decide +kernel
theorem dL_law_129 : decode cL_law 129 = .ok (.iadd, 1) := by decide +kernel
theorem dL_law_130 : decode cL_law 130 = .ok (.iaload, 1) := by decide +kernel
theorem dL_law_131 : decode cL_law 131 = .ok (.aload_n 0, 1) := by decide +kernel
theorem dL_law_132 : decode cL_law 132 = .ok (.iload 4, 2) := by decide +kernel
theorem dL_law_134 : decode cL_law 134 = .ok (.iconst 2, 1) := by decide +kernel
theorem dL_law_135 : decode cL_law 135 = .ok (.iadd, 1) := by decide +kernel
theorem dL_law_136 : decode cL_law 136 = .ok (.iaload, 1) := by decide +kernel
theorem dL_law_137 : decode cL_law 137 = .ok (.aload_n 0, 1) := by decide +kernel
theorem dL_law_138 : decode cL_law 138 = .ok (.iload 4, 2) := by decide +kernel
theorem dL_law_140 : decode cL_law 140 = .ok (.iconst 3, 1) := by decide +kernel
theorem dL_law_141 : decode cL_law 141 = .ok (.iadd, 1) := by decide +kernel
theorem dL_law_142 : decode cL_law 142 = .ok (.iaload, 1) := by decide +kernel
theorem dL_law_143 : decode cL_law 143 = .ok (.aload_n 3, 1) := by decide +kernel
theorem dL_law_144 : decode cL_law 144 = .ok (.invokestatic 67, 3) := by decide +kernel
theorem dL_law_147 : decode cL_law 147 = .ok (.istore 5, 2) := by decide +kernel
theorem dL_law_149 : decode cL_law 149 = .ok (.aload_n 2, 1) := by decide +kernel
theorem dL_law_150 : decode cL_law 150 = .ok (.aload_n 0, 1) := by decide +kernel
theorem dL_law_151 : decode cL_law 151 = .ok (.iload 4, 2) := by decide +kernel
theorem dL_law_153 : decode cL_law 153 = .ok (.iconst 1, 1) := by decide +kernel
theorem dL_law_154 : decode cL_law 154 = .ok (.iadd, 1) := by decide +kernel
theorem dL_law_155 : decode cL_law 155 = .ok (.iaload, 1) := by decide +kernel
theorem dL_law_156 : decode cL_law 156 = .ok (.aload_n 0, 1) := by decide +kernel
theorem dL_law_157 : decode cL_law 157 = .ok (.iload 4, 2) := by decide +kernel
theorem dL_law_159 : decode cL_law 159 = .ok (.iconst 2, 1) := by decide +kernel
theorem dL_law_160 : decode cL_law 160 = .ok (.iadd, 1) := by decide +kernel
theorem dL_law_161 : decode cL_law 161 = .ok (.iaload, 1) := by decide +kernel
theorem dL_law_162 : decode cL_law 162 = .ok (.aload_n 0, 1) := by decide +kernel
theorem dL_law_163 : decode cL_law 163 = .ok (.iload 4, 2) := by decide +kernel
theorem dL_law_165 : decode cL_law 165 = .ok (.iconst 3, 1) := by decide +kernel
theorem dL_law_166 : decode cL_law 166 = .ok (.iadd, 1) := by decide +kernel
theorem dL_law_167 : decode cL_law 167 = .ok (.iaload, 1) := by decide +kernel
theorem dL_law_168 : decode cL_law 168 = .ok (.invokevirtual 72, 3) := by decide +kernel
theorem dL_law_171 : decode cL_law 171 = .ok (.istore 6, 2) := by decide +kernel
theorem dL_law_173 : decode cL_law 173 = .ok (.aload_n 2, 1) := by decide +kernel
theorem dL_law_174 : decode cL_law 174 = .ok (.invokevirtual 73, 3) := by decide +kernel
theorem dL_law_177 : decode cL_law 177 = .ok (.iload 5, 2) := by decide +kernel
theorem dL_law_179 : decode cL_law 179 = .ok (.if_icmp .eq 5, 3) := by decide +kernel
theorem dL_law_182 : decode cL_law 182 = .ok (.iconst 0, 1) := by decide +kernel
theorem dL_law_183 : decode cL_law 183 = .ok (.ireturn, 1) := by decide +kernel
theorem dL_law_184 : decode cL_law 184 = .ok (.iload 5, 2) := by decide +kernel
theorem dL_law_186 : decode cL_law 186 = .ok (.ifCond .ne 15, 3) := by decide +kernel
theorem dL_law_189 : decode cL_law 189 = .ok (.aload_n 3, 1) := by decide +kernel
theorem dL_law_190 : decode cL_law 190 = .ok (.iconst 0, 1) := by decide +kernel
theorem dL_law_191 : decode cL_law 191 = .ok (.laload, 1) := by decide +kernel
theorem dL_law_192 : decode cL_law 192 = .ok (.iload 6, 2) := by decide +kernel
theorem dL_law_194 : decode cL_law 194 = .ok (.i2l, 1) := by decide +kernel
theorem dL_law_195 : decode cL_law 195 = .ok (.lcmp, 1) := by decide +kernel
theorem dL_law_196 : decode cL_law 196 = .ok (.ifCond .eq 5, 3) := by decide +kernel
theorem dL_law_199 : decode cL_law 199 = .ok (.iconst 0, 1) := by decide +kernel
theorem dL_law_200 : decode cL_law 200 = .ok (.ireturn, 1) := by decide +kernel
theorem dL_law_201 : decode cL_law 201 = .ok (.goto 1185, 3) := by decide +kernel
theorem dL_law_204 : decode cL_law 204 = .ok (.aload_n 1, 1) := by decide +kernel
theorem dL_law_205 : decode cL_law 205 = .ok (.aload_n 0, 1) := by decide +kernel
theorem dL_law_206 : decode cL_law 206 = .ok (.iload 4, 2) := by decide +kernel
theorem dL_law_208 : decode cL_law 208 = .ok (.iconst 1, 1) := by decide +kernel
theorem dL_law_209 : decode cL_law 209 = .ok (.iadd, 1) := by decide +kernel
theorem dL_law_210 : decode cL_law 210 = .ok (.iaload, 1) := by decide +kernel
theorem dL_law_211 : decode cL_law 211 = .ok (.aload_n 0, 1) := by decide +kernel
theorem dL_law_212 : decode cL_law 212 = .ok (.iload 4, 2) := by decide +kernel
theorem dL_law_214 : decode cL_law 214 = .ok (.iconst 2, 1) := by decide +kernel
theorem dL_law_215 : decode cL_law 215 = .ok (.iadd, 1) := by decide +kernel
theorem dL_law_216 : decode cL_law 216 = .ok (.iaload, 1) := by decide +kernel
theorem dL_law_217 : decode cL_law 217 = .ok (.aload_n 0, 1) := by decide +kernel
theorem dL_law_218 : decode cL_law 218 = .ok (.iload 4, 2) := by decide +kernel
theorem dL_law_220 : decode cL_law 220 = .ok (.iconst 3, 1) := by decide +kernel
theorem dL_law_221 : decode cL_law 221 = .ok (.iadd, 1) := by decide +kernel
theorem dL_law_222 : decode cL_law 222 = .ok (.iaload, 1) := by decide +kernel
theorem dL_law_223 : decode cL_law 223 = .ok (.aload_n 0, 1) := by decide +kernel
theorem dL_law_224 : decode cL_law 224 = .ok (.iload 4, 2) := by decide +kernel
theorem dL_law_226 : decode cL_law 226 = .ok (.iconst 4, 1) := by decide +kernel
theorem dL_law_227 : decode cL_law 227 = .ok (.iadd, 1) := by decide +kernel
theorem dL_law_228 : decode cL_law 228 = .ok (.iaload, 1) := by decide +kernel
theorem dL_law_229 : decode cL_law 229 = .ok (.aload_n 0, 1) := by decide +kernel
theorem dL_law_230 : decode cL_law 230 = .ok (.iload 4, 2) := by decide +kernel
theorem dL_law_232 : decode cL_law 232 = .ok (.iconst 5, 1) := by decide +kernel
theorem dL_law_233 : decode cL_law 233 = .ok (.iadd, 1) := by decide +kernel
theorem dL_law_234 : decode cL_law 234 = .ok (.iaload, 1) := by decide +kernel
theorem dL_law_235 : decode cL_law 235 = .ok (.aload_n 3, 1) := by decide +kernel
theorem dL_law_236 : decode cL_law 236 = .ok (.invokestatic 77, 3) := by decide +kernel
theorem dL_law_239 : decode cL_law 239 = .ok (.istore 5, 2) := by decide +kernel
theorem dL_law_241 : decode cL_law 241 = .ok (.aload_n 2, 1) := by decide +kernel
theorem dL_law_242 : decode cL_law 242 = .ok (.aload_n 0, 1) := by decide +kernel
theorem dL_law_243 : decode cL_law 243 = .ok (.iload 4, 2) := by decide +kernel
theorem dL_law_245 : decode cL_law 245 = .ok (.iconst 1, 1) := by decide +kernel
theorem dL_law_246 : decode cL_law 246 = .ok (.iadd, 1) := by decide +kernel
theorem dL_law_247 : decode cL_law 247 = .ok (.iaload, 1) := by decide +kernel
theorem dL_law_248 : decode cL_law 248 = .ok (.aload_n 0, 1) := by decide +kernel
theorem dL_law_249 : decode cL_law 249 = .ok (.iload 4, 2) := by decide +kernel
theorem dL_law_251 : decode cL_law 251 = .ok (.iconst 2, 1) := by decide +kernel
theorem dL_law_252 : decode cL_law 252 = .ok (.iadd, 1) := by decide +kernel
theorem dL_law_253 : decode cL_law 253 = .ok (.iaload, 1) := by decide +kernel
theorem dL_law_254 : decode cL_law 254 = .ok (.aload_n 0, 1) := by decide +kernel
theorem dL_law_255 : decode cL_law 255 = .ok (.iload 4, 2) := by decide +kernel
theorem dL_law_257 : decode cL_law 257 = .ok (.iconst 3, 1) := by decide +kernel
theorem dL_law_258 : decode cL_law 258 = .ok (.iadd, 1) := by decide +kernel
theorem dL_law_259 : decode cL_law 259 = .ok (.iaload, 1) := by decide +kernel
theorem dL_law_260 : decode cL_law 260 = .ok (.aload_n 0, 1) := by decide +kernel
theorem dL_law_261 : decode cL_law 261 = .ok (.iload 4, 2) := by decide +kernel
theorem dL_law_263 : decode cL_law 263 = .ok (.iconst 4, 1) := by decide +kernel
theorem dL_law_264 : decode cL_law 264 = .ok (.iadd, 1) := by decide +kernel
theorem dL_law_265 : decode cL_law 265 = .ok (.iaload, 1) := by decide +kernel
theorem dL_law_266 : decode cL_law 266 = .ok (.aload_n 0, 1) := by decide +kernel
theorem dL_law_267 : decode cL_law 267 = .ok (.iload 4, 2) := by decide +kernel
theorem dL_law_269 : decode cL_law 269 = .ok (.iconst 5, 1) := by decide +kernel
theorem dL_law_270 : decode cL_law 270 = .ok (.iadd, 1) := by decide +kernel
theorem dL_law_271 : decode cL_law 271 = .ok (.iaload, 1) := by decide +kernel
theorem dL_law_272 : decode cL_law 272 = .ok (.invokevirtual 80, 3) := by decide +kernel
theorem dL_law_275 : decode cL_law 275 = .ok (.istore 6, 2) := by decide +kernel
theorem dL_law_277 : decode cL_law 277 = .ok (.aload_n 2, 1) := by decide +kernel
theorem dL_law_278 : decode cL_law 278 = .ok (.invokevirtual 73, 3) := by decide +kernel
theorem dL_law_281 : decode cL_law 281 = .ok (.iload 5, 2) := by decide +kernel
theorem dL_law_283 : decode cL_law 283 = .ok (.if_icmp .eq 5, 3) := by decide +kernel
theorem dL_law_286 : decode cL_law 286 = .ok (.iconst 0, 1) := by decide +kernel
theorem dL_law_287 : decode cL_law 287 = .ok (.ireturn, 1) := by decide +kernel
theorem dL_law_288 : decode cL_law 288 = .ok (.iload 5, 2) := by decide +kernel
theorem dL_law_290 : decode cL_law 290 = .ok (.ifCond .ne 15, 3) := by decide +kernel
theorem dL_law_293 : decode cL_law 293 = .ok (.aload_n 3, 1) := by decide +kernel
theorem dL_law_294 : decode cL_law 294 = .ok (.iconst 0, 1) := by decide +kernel
theorem dL_law_295 : decode cL_law 295 = .ok (.laload, 1) := by decide +kernel
theorem dL_law_296 : decode cL_law 296 = .ok (.iload 6, 2) := by decide +kernel
theorem dL_law_298 : decode cL_law 298 = .ok (.i2l, 1) := by decide +kernel
theorem dL_law_299 : decode cL_law 299 = .ok (.lcmp, 1) := by decide +kernel
theorem dL_law_300 : decode cL_law 300 = .ok (.ifCond .eq 5, 3) := by decide +kernel
theorem dL_law_303 : decode cL_law 303 = .ok (.iconst 0, 1) := by decide +kernel
theorem dL_law_304 : decode cL_law 304 = .ok (.ireturn, 1) := by decide +kernel
theorem dL_law_305 : decode cL_law 305 = .ok (.goto 1081, 3) := by decide +kernel
theorem dL_law_308 : decode cL_law 308 = .ok (.aload_n 1, 1) := by decide +kernel
theorem dL_law_309 : decode cL_law 309 = .ok (.aload_n 0, 1) := by decide +kernel
theorem dL_law_310 : decode cL_law 310 = .ok (.iload 4, 2) := by decide +kernel
theorem dL_law_312 : decode cL_law 312 = .ok (.iconst 1, 1) := by decide +kernel
theorem dL_law_313 : decode cL_law 313 = .ok (.iadd, 1) := by decide +kernel
theorem dL_law_314 : decode cL_law 314 = .ok (.iaload, 1) := by decide +kernel
theorem dL_law_315 : decode cL_law 315 = .ok (.aload_n 0, 1) := by decide +kernel
theorem dL_law_316 : decode cL_law 316 = .ok (.iload 4, 2) := by decide +kernel
theorem dL_law_318 : decode cL_law 318 = .ok (.iconst 2, 1) := by decide +kernel
theorem dL_law_319 : decode cL_law 319 = .ok (.iadd, 1) := by decide +kernel
theorem dL_law_320 : decode cL_law 320 = .ok (.iaload, 1) := by decide +kernel
theorem dL_law_321 : decode cL_law 321 = .ok (.aload_n 0, 1) := by decide +kernel
theorem dL_law_322 : decode cL_law 322 = .ok (.iload 4, 2) := by decide +kernel
theorem dL_law_324 : decode cL_law 324 = .ok (.iconst 3, 1) := by decide +kernel
theorem dL_law_325 : decode cL_law 325 = .ok (.iadd, 1) := by decide +kernel
theorem dL_law_326 : decode cL_law 326 = .ok (.iaload, 1) := by decide +kernel
theorem dL_law_327 : decode cL_law 327 = .ok (.aload_n 3, 1) := by decide +kernel
theorem dL_law_328 : decode cL_law 328 = .ok (.invokestatic 81, 3) := by decide +kernel
theorem dL_law_331 : decode cL_law 331 = .ok (.istore 5, 2) := by decide +kernel
theorem dL_law_333 : decode cL_law 333 = .ok (.aload_n 2, 1) := by decide +kernel
theorem dL_law_334 : decode cL_law 334 = .ok (.aload_n 0, 1) := by decide +kernel
theorem dL_law_335 : decode cL_law 335 = .ok (.iload 4, 2) := by decide +kernel
theorem dL_law_337 : decode cL_law 337 = .ok (.iconst 1, 1) := by decide +kernel
theorem dL_law_338 : decode cL_law 338 = .ok (.iadd, 1) := by decide +kernel
theorem dL_law_339 : decode cL_law 339 = .ok (.iaload, 1) := by decide +kernel
theorem dL_law_340 : decode cL_law 340 = .ok (.aload_n 0, 1) := by decide +kernel
theorem dL_law_341 : decode cL_law 341 = .ok (.iload 4, 2) := by decide +kernel
theorem dL_law_343 : decode cL_law 343 = .ok (.iconst 2, 1) := by decide +kernel
theorem dL_law_344 : decode cL_law 344 = .ok (.iadd, 1) := by decide +kernel
theorem dL_law_345 : decode cL_law 345 = .ok (.iaload, 1) := by decide +kernel
theorem dL_law_346 : decode cL_law 346 = .ok (.aload_n 0, 1) := by decide +kernel
theorem dL_law_347 : decode cL_law 347 = .ok (.iload 4, 2) := by decide +kernel
theorem dL_law_349 : decode cL_law 349 = .ok (.iconst 3, 1) := by decide +kernel
theorem dL_law_350 : decode cL_law 350 = .ok (.iadd, 1) := by decide +kernel
theorem dL_law_351 : decode cL_law 351 = .ok (.iaload, 1) := by decide +kernel
theorem dL_law_352 : decode cL_law 352 = .ok (.invokevirtual 83, 3) := by decide +kernel
theorem dL_law_355 : decode cL_law 355 = .ok (.istore 6, 2) := by decide +kernel
theorem dL_law_357 : decode cL_law 357 = .ok (.aload_n 2, 1) := by decide +kernel
theorem dL_law_358 : decode cL_law 358 = .ok (.invokevirtual 73, 3) := by decide +kernel
theorem dL_law_361 : decode cL_law 361 = .ok (.iload 5, 2) := by decide +kernel
theorem dL_law_363 : decode cL_law 363 = .ok (.if_icmp .eq 5, 3) := by decide +kernel
theorem dL_law_366 : decode cL_law 366 = .ok (.iconst 0, 1) := by decide +kernel
theorem dL_law_367 : decode cL_law 367 = .ok (.ireturn, 1) := by decide +kernel
theorem dL_law_368 : decode cL_law 368 = .ok (.iload 5, 2) := by decide +kernel
theorem dL_law_370 : decode cL_law 370 = .ok (.ifCond .ne 15, 3) := by decide +kernel
theorem dL_law_373 : decode cL_law 373 = .ok (.aload_n 3, 1) := by decide +kernel
theorem dL_law_374 : decode cL_law 374 = .ok (.iconst 0, 1) := by decide +kernel
theorem dL_law_375 : decode cL_law 375 = .ok (.laload, 1) := by decide +kernel
theorem dL_law_376 : decode cL_law 376 = .ok (.iload 6, 2) := by decide +kernel
theorem dL_law_378 : decode cL_law 378 = .ok (.i2l, 1) := by decide +kernel
theorem dL_law_379 : decode cL_law 379 = .ok (.lcmp, 1) := by decide +kernel
theorem dL_law_380 : decode cL_law 380 = .ok (.ifCond .eq 5, 3) := by decide +kernel
theorem dL_law_383 : decode cL_law 383 = .ok (.iconst 0, 1) := by decide +kernel
theorem dL_law_384 : decode cL_law 384 = .ok (.ireturn, 1) := by decide +kernel
theorem dL_law_385 : decode cL_law 385 = .ok (.goto 1001, 3) := by decide +kernel
theorem dL_law_388 : decode cL_law 388 = .ok (.aload_n 1, 1) := by decide +kernel
theorem dL_law_389 : decode cL_law 389 = .ok (.aload_n 0, 1) := by decide +kernel
theorem dL_law_390 : decode cL_law 390 = .ok (.iload 4, 2) := by decide +kernel
theorem dL_law_392 : decode cL_law 392 = .ok (.iconst 1, 1) := by decide +kernel
theorem dL_law_393 : decode cL_law 393 = .ok (.iadd, 1) := by decide +kernel
theorem dL_law_394 : decode cL_law 394 = .ok (.iaload, 1) := by decide +kernel
theorem dL_law_395 : decode cL_law 395 = .ok (.aload_n 0, 1) := by decide +kernel
theorem dL_law_396 : decode cL_law 396 = .ok (.iload 4, 2) := by decide +kernel
theorem dL_law_398 : decode cL_law 398 = .ok (.iconst 2, 1) := by decide +kernel
theorem dL_law_399 : decode cL_law 399 = .ok (.iadd, 1) := by decide +kernel
theorem dL_law_400 : decode cL_law 400 = .ok (.iaload, 1) := by decide +kernel
theorem dL_law_401 : decode cL_law 401 = .ok (.aload_n 0, 1) := by decide +kernel
theorem dL_law_402 : decode cL_law 402 = .ok (.iload 4, 2) := by decide +kernel
theorem dL_law_404 : decode cL_law 404 = .ok (.iconst 3, 1) := by decide +kernel
theorem dL_law_405 : decode cL_law 405 = .ok (.iadd, 1) := by decide +kernel
theorem dL_law_406 : decode cL_law 406 = .ok (.iaload, 1) := by decide +kernel
theorem dL_law_407 : decode cL_law 407 = .ok (.aload_n 3, 1) := by decide +kernel
theorem dL_law_408 : decode cL_law 408 = .ok (.invokestatic 84, 3) := by decide +kernel
theorem dL_law_411 : decode cL_law 411 = .ok (.istore 5, 2) := by decide +kernel
theorem dL_law_413 : decode cL_law 413 = .ok (.aload_n 2, 1) := by decide +kernel
theorem dL_law_414 : decode cL_law 414 = .ok (.aload_n 0, 1) := by decide +kernel
theorem dL_law_415 : decode cL_law 415 = .ok (.iload 4, 2) := by decide +kernel
theorem dL_law_417 : decode cL_law 417 = .ok (.iconst 1, 1) := by decide +kernel
theorem dL_law_418 : decode cL_law 418 = .ok (.iadd, 1) := by decide +kernel
theorem dL_law_419 : decode cL_law 419 = .ok (.iaload, 1) := by decide +kernel
theorem dL_law_420 : decode cL_law 420 = .ok (.aload_n 0, 1) := by decide +kernel
theorem dL_law_421 : decode cL_law 421 = .ok (.iload 4, 2) := by decide +kernel
theorem dL_law_423 : decode cL_law 423 = .ok (.iconst 2, 1) := by decide +kernel
theorem dL_law_424 : decode cL_law 424 = .ok (.iadd, 1) := by decide +kernel
theorem dL_law_425 : decode cL_law 425 = .ok (.iaload, 1) := by decide +kernel
theorem dL_law_426 : decode cL_law 426 = .ok (.aload_n 0, 1) := by decide +kernel
theorem dL_law_427 : decode cL_law 427 = .ok (.iload 4, 2) := by decide +kernel
theorem dL_law_429 : decode cL_law 429 = .ok (.iconst 3, 1) := by decide +kernel
theorem dL_law_430 : decode cL_law 430 = .ok (.iadd, 1) := by decide +kernel
theorem dL_law_431 : decode cL_law 431 = .ok (.iaload, 1) := by decide +kernel
theorem dL_law_432 : decode cL_law 432 = .ok (.invokevirtual 86, 3) := by decide +kernel
theorem dL_law_435 : decode cL_law 435 = .ok (.istore 6, 2) := by decide +kernel
theorem dL_law_437 : decode cL_law 437 = .ok (.aload_n 2, 1) := by decide +kernel
theorem dL_law_438 : decode cL_law 438 = .ok (.invokevirtual 73, 3) := by decide +kernel
theorem dL_law_441 : decode cL_law 441 = .ok (.iload 5, 2) := by decide +kernel
theorem dL_law_443 : decode cL_law 443 = .ok (.if_icmp .eq 5, 3) := by decide +kernel
theorem dL_law_446 : decode cL_law 446 = .ok (.iconst 0, 1) := by decide +kernel
theorem dL_law_447 : decode cL_law 447 = .ok (.ireturn, 1) := by decide +kernel
theorem dL_law_448 : decode cL_law 448 = .ok (.iload 5, 2) := by decide +kernel
theorem dL_law_450 : decode cL_law 450 = .ok (.ifCond .ne 15, 3) := by decide +kernel
theorem dL_law_453 : decode cL_law 453 = .ok (.aload_n 3, 1) := by decide +kernel
theorem dL_law_454 : decode cL_law 454 = .ok (.iconst 0, 1) := by decide +kernel
theorem dL_law_455 : decode cL_law 455 = .ok (.laload, 1) := by decide +kernel
theorem dL_law_456 : decode cL_law 456 = .ok (.iload 6, 2) := by decide +kernel
theorem dL_law_458 : decode cL_law 458 = .ok (.i2l, 1) := by decide +kernel
theorem dL_law_459 : decode cL_law 459 = .ok (.lcmp, 1) := by decide +kernel
theorem dL_law_460 : decode cL_law 460 = .ok (.ifCond .eq 5, 3) := by decide +kernel
theorem dL_law_463 : decode cL_law 463 = .ok (.iconst 0, 1) := by decide +kernel
theorem dL_law_464 : decode cL_law 464 = .ok (.ireturn, 1) := by decide +kernel
theorem dL_law_465 : decode cL_law 465 = .ok (.goto 921, 3) := by decide +kernel
theorem dL_law_468 : decode cL_law 468 = .ok (.aload_n 1, 1) := by decide +kernel
theorem dL_law_469 : decode cL_law 469 = .ok (.aload_n 0, 1) := by decide +kernel
theorem dL_law_470 : decode cL_law 470 = .ok (.iload 4, 2) := by decide +kernel
theorem dL_law_472 : decode cL_law 472 = .ok (.iconst 1, 1) := by decide +kernel
theorem dL_law_473 : decode cL_law 473 = .ok (.iadd, 1) := by decide +kernel
theorem dL_law_474 : decode cL_law 474 = .ok (.iaload, 1) := by decide +kernel
theorem dL_law_475 : decode cL_law 475 = .ok (.aload_n 0, 1) := by decide +kernel
theorem dL_law_476 : decode cL_law 476 = .ok (.iload 4, 2) := by decide +kernel
theorem dL_law_478 : decode cL_law 478 = .ok (.iconst 2, 1) := by decide +kernel
theorem dL_law_479 : decode cL_law 479 = .ok (.iadd, 1) := by decide +kernel
theorem dL_law_480 : decode cL_law 480 = .ok (.iaload, 1) := by decide +kernel
theorem dL_law_481 : decode cL_law 481 = .ok (.aload_n 0, 1) := by decide +kernel
theorem dL_law_482 : decode cL_law 482 = .ok (.iload 4, 2) := by decide +kernel
theorem dL_law_484 : decode cL_law 484 = .ok (.iconst 3, 1) := by decide +kernel
theorem dL_law_485 : decode cL_law 485 = .ok (.iadd, 1) := by decide +kernel
theorem dL_law_486 : decode cL_law 486 = .ok (.iaload, 1) := by decide +kernel
theorem dL_law_487 : decode cL_law 487 = .ok (.aload_n 0, 1) := by decide +kernel
theorem dL_law_488 : decode cL_law 488 = .ok (.iload 4, 2) := by decide +kernel
theorem dL_law_490 : decode cL_law 490 = .ok (.iconst 4, 1) := by decide +kernel
theorem dL_law_491 : decode cL_law 491 = .ok (.iadd, 1) := by decide +kernel
theorem dL_law_492 : decode cL_law 492 = .ok (.iaload, 1) := by decide +kernel
theorem dL_law_493 : decode cL_law 493 = .ok (.aload_n 0, 1) := by decide +kernel
theorem dL_law_494 : decode cL_law 494 = .ok (.iload 4, 2) := by decide +kernel
theorem dL_law_496 : decode cL_law 496 = .ok (.iconst 5, 1) := by decide +kernel
theorem dL_law_497 : decode cL_law 497 = .ok (.iadd, 1) := by decide +kernel
theorem dL_law_498 : decode cL_law 498 = .ok (.iaload, 1) := by decide +kernel
theorem dL_law_499 : decode cL_law 499 = .ok (.aload_n 3, 1) := by decide +kernel
theorem dL_law_500 : decode cL_law 500 = .ok (.invokestatic 87, 3) := by decide +kernel
theorem dL_law_503 : decode cL_law 503 = .ok (.istore 5, 2) := by decide +kernel
theorem dL_law_505 : decode cL_law 505 = .ok (.aload_n 2, 1) := by decide +kernel
theorem dL_law_506 : decode cL_law 506 = .ok (.aload_n 0, 1) := by decide +kernel
theorem dL_law_507 : decode cL_law 507 = .ok (.iload 4, 2) := by decide +kernel
theorem dL_law_509 : decode cL_law 509 = .ok (.iconst 1, 1) := by decide +kernel
theorem dL_law_510 : decode cL_law 510 = .ok (.iadd, 1) := by decide +kernel
theorem dL_law_511 : decode cL_law 511 = .ok (.iaload, 1) := by decide +kernel
theorem dL_law_512 : decode cL_law 512 = .ok (.aload_n 0, 1) := by decide +kernel
theorem dL_law_513 : decode cL_law 513 = .ok (.iload 4, 2) := by decide +kernel
theorem dL_law_515 : decode cL_law 515 = .ok (.iconst 2, 1) := by decide +kernel
theorem dL_law_516 : decode cL_law 516 = .ok (.iadd, 1) := by decide +kernel
theorem dL_law_517 : decode cL_law 517 = .ok (.iaload, 1) := by decide +kernel
theorem dL_law_518 : decode cL_law 518 = .ok (.aload_n 0, 1) := by decide +kernel
theorem dL_law_519 : decode cL_law 519 = .ok (.iload 4, 2) := by decide +kernel
theorem dL_law_521 : decode cL_law 521 = .ok (.iconst 3, 1) := by decide +kernel
theorem dL_law_522 : decode cL_law 522 = .ok (.iadd, 1) := by decide +kernel
theorem dL_law_523 : decode cL_law 523 = .ok (.iaload, 1) := by decide +kernel
theorem dL_law_524 : decode cL_law 524 = .ok (.aload_n 0, 1) := by decide +kernel
theorem dL_law_525 : decode cL_law 525 = .ok (.iload 4, 2) := by decide +kernel
theorem dL_law_527 : decode cL_law 527 = .ok (.iconst 4, 1) := by decide +kernel
theorem dL_law_528 : decode cL_law 528 = .ok (.iadd, 1) := by decide +kernel
theorem dL_law_529 : decode cL_law 529 = .ok (.iaload, 1) := by decide +kernel
theorem dL_law_530 : decode cL_law 530 = .ok (.aload_n 0, 1) := by decide +kernel
theorem dL_law_531 : decode cL_law 531 = .ok (.iload 4, 2) := by decide +kernel
theorem dL_law_533 : decode cL_law 533 = .ok (.iconst 5, 1) := by decide +kernel
theorem dL_law_534 : decode cL_law 534 = .ok (.iadd, 1) := by decide +kernel
theorem dL_law_535 : decode cL_law 535 = .ok (.iaload, 1) := by decide +kernel
theorem dL_law_536 : decode cL_law 536 = .ok (.invokevirtual 89, 3) := by decide +kernel
theorem dL_law_539 : decode cL_law 539 = .ok (.istore 6, 2) := by decide +kernel
theorem dL_law_541 : decode cL_law 541 = .ok (.aload_n 2, 1) := by decide +kernel
theorem dL_law_542 : decode cL_law 542 = .ok (.invokevirtual 73, 3) := by decide +kernel
theorem dL_law_545 : decode cL_law 545 = .ok (.iload 5, 2) := by decide +kernel
theorem dL_law_547 : decode cL_law 547 = .ok (.if_icmp .eq 5, 3) := by decide +kernel
theorem dL_law_550 : decode cL_law 550 = .ok (.iconst 0, 1) := by decide +kernel
theorem dL_law_551 : decode cL_law 551 = .ok (.ireturn, 1) := by decide +kernel
theorem dL_law_552 : decode cL_law 552 = .ok (.iload 5, 2) := by decide +kernel
theorem dL_law_554 : decode cL_law 554 = .ok (.ifCond .ne 15, 3) := by decide +kernel
theorem dL_law_557 : decode cL_law 557 = .ok (.aload_n 3, 1) := by decide +kernel
theorem dL_law_558 : decode cL_law 558 = .ok (.iconst 0, 1) := by decide +kernel
theorem dL_law_559 : decode cL_law 559 = .ok (.laload, 1) := by decide +kernel
theorem dL_law_560 : decode cL_law 560 = .ok (.iload 6, 2) := by decide +kernel
theorem dL_law_562 : decode cL_law 562 = .ok (.i2l, 1) := by decide +kernel
theorem dL_law_563 : decode cL_law 563 = .ok (.lcmp, 1) := by decide +kernel
theorem dL_law_564 : decode cL_law 564 = .ok (.ifCond .eq 5, 3) := by decide +kernel
theorem dL_law_567 : decode cL_law 567 = .ok (.iconst 0, 1) := by decide +kernel
theorem dL_law_568 : decode cL_law 568 = .ok (.ireturn, 1) := by decide +kernel
theorem dL_law_569 : decode cL_law 569 = .ok (.goto 817, 3) := by decide +kernel
theorem dL_law_572 : decode cL_law 572 = .ok (.aload_n 1, 1) := by decide +kernel
theorem dL_law_573 : decode cL_law 573 = .ok (.aload_n 0, 1) := by decide +kernel
theorem dL_law_574 : decode cL_law 574 = .ok (.iload 4, 2) := by decide +kernel
theorem dL_law_576 : decode cL_law 576 = .ok (.iconst 1, 1) := by decide +kernel
theorem dL_law_577 : decode cL_law 577 = .ok (.iadd, 1) := by decide +kernel
theorem dL_law_578 : decode cL_law 578 = .ok (.iaload, 1) := by decide +kernel
theorem dL_law_579 : decode cL_law 579 = .ok (.aload_n 0, 1) := by decide +kernel
theorem dL_law_580 : decode cL_law 580 = .ok (.iload 4, 2) := by decide +kernel
theorem dL_law_582 : decode cL_law 582 = .ok (.iconst 2, 1) := by decide +kernel
theorem dL_law_583 : decode cL_law 583 = .ok (.iadd, 1) := by decide +kernel
theorem dL_law_584 : decode cL_law 584 = .ok (.iaload, 1) := by decide +kernel
theorem dL_law_585 : decode cL_law 585 = .ok (.aload_n 0, 1) := by decide +kernel
theorem dL_law_586 : decode cL_law 586 = .ok (.iload 4, 2) := by decide +kernel
theorem dL_law_588 : decode cL_law 588 = .ok (.iconst 3, 1) := by decide +kernel
theorem dL_law_589 : decode cL_law 589 = .ok (.iadd, 1) := by decide +kernel
theorem dL_law_590 : decode cL_law 590 = .ok (.iaload, 1) := by decide +kernel
theorem dL_law_591 : decode cL_law 591 = .ok (.aload_n 0, 1) := by decide +kernel
theorem dL_law_592 : decode cL_law 592 = .ok (.iload 4, 2) := by decide +kernel
theorem dL_law_594 : decode cL_law 594 = .ok (.iconst 4, 1) := by decide +kernel
theorem dL_law_595 : decode cL_law 595 = .ok (.iadd, 1) := by decide +kernel
theorem dL_law_596 : decode cL_law 596 = .ok (.iaload, 1) := by decide +kernel
theorem dL_law_597 : decode cL_law 597 = .ok (.aload_n 0, 1) := by decide +kernel
theorem dL_law_598 : decode cL_law 598 = .ok (.iload 4, 2) := by decide +kernel
theorem dL_law_600 : decode cL_law 600 = .ok (.iconst 5, 1) := by decide +kernel
theorem dL_law_601 : decode cL_law 601 = .ok (.iadd, 1) := by decide +kernel
theorem dL_law_602 : decode cL_law 602 = .ok (.iaload, 1) := by decide +kernel
theorem dL_law_603 : decode cL_law 603 = .ok (.aload_n 3, 1) := by decide +kernel
theorem dL_law_604 : decode cL_law 604 = .ok (.invokestatic 90, 3) := by decide +kernel
theorem dL_law_607 : decode cL_law 607 = .ok (.istore 5, 2) := by decide +kernel
theorem dL_law_609 : decode cL_law 609 = .ok (.aload_n 2, 1) := by decide +kernel
theorem dL_law_610 : decode cL_law 610 = .ok (.aload_n 0, 1) := by decide +kernel
theorem dL_law_611 : decode cL_law 611 = .ok (.iload 4, 2) := by decide +kernel
theorem dL_law_613 : decode cL_law 613 = .ok (.iconst 1, 1) := by decide +kernel
theorem dL_law_614 : decode cL_law 614 = .ok (.iadd, 1) := by decide +kernel
theorem dL_law_615 : decode cL_law 615 = .ok (.iaload, 1) := by decide +kernel
theorem dL_law_616 : decode cL_law 616 = .ok (.aload_n 0, 1) := by decide +kernel
theorem dL_law_617 : decode cL_law 617 = .ok (.iload 4, 2) := by decide +kernel
theorem dL_law_619 : decode cL_law 619 = .ok (.iconst 2, 1) := by decide +kernel
theorem dL_law_620 : decode cL_law 620 = .ok (.iadd, 1) := by decide +kernel
theorem dL_law_621 : decode cL_law 621 = .ok (.iaload, 1) := by decide +kernel
theorem dL_law_622 : decode cL_law 622 = .ok (.aload_n 0, 1) := by decide +kernel
theorem dL_law_623 : decode cL_law 623 = .ok (.iload 4, 2) := by decide +kernel
theorem dL_law_625 : decode cL_law 625 = .ok (.iconst 3, 1) := by decide +kernel
theorem dL_law_626 : decode cL_law 626 = .ok (.iadd, 1) := by decide +kernel
theorem dL_law_627 : decode cL_law 627 = .ok (.iaload, 1) := by decide +kernel
theorem dL_law_628 : decode cL_law 628 = .ok (.aload_n 0, 1) := by decide +kernel
theorem dL_law_629 : decode cL_law 629 = .ok (.iload 4, 2) := by decide +kernel
theorem dL_law_631 : decode cL_law 631 = .ok (.iconst 4, 1) := by decide +kernel
theorem dL_law_632 : decode cL_law 632 = .ok (.iadd, 1) := by decide +kernel
theorem dL_law_633 : decode cL_law 633 = .ok (.iaload, 1) := by decide +kernel
theorem dL_law_634 : decode cL_law 634 = .ok (.aload_n 0, 1) := by decide +kernel
theorem dL_law_635 : decode cL_law 635 = .ok (.iload 4, 2) := by decide +kernel
theorem dL_law_637 : decode cL_law 637 = .ok (.iconst 5, 1) := by decide +kernel
theorem dL_law_638 : decode cL_law 638 = .ok (.iadd, 1) := by decide +kernel
theorem dL_law_639 : decode cL_law 639 = .ok (.iaload, 1) := by decide +kernel
theorem dL_law_640 : decode cL_law 640 = .ok (.invokevirtual 92, 3) := by decide +kernel
theorem dL_law_643 : decode cL_law 643 = .ok (.istore 6, 2) := by decide +kernel
theorem dL_law_645 : decode cL_law 645 = .ok (.aload_n 2, 1) := by decide +kernel
theorem dL_law_646 : decode cL_law 646 = .ok (.invokevirtual 73, 3) := by decide +kernel
theorem dL_law_649 : decode cL_law 649 = .ok (.iload 5, 2) := by decide +kernel
theorem dL_law_651 : decode cL_law 651 = .ok (.if_icmp .eq 5, 3) := by decide +kernel
theorem dL_law_654 : decode cL_law 654 = .ok (.iconst 0, 1) := by decide +kernel
theorem dL_law_655 : decode cL_law 655 = .ok (.ireturn, 1) := by decide +kernel
theorem dL_law_656 : decode cL_law 656 = .ok (.iload 5, 2) := by decide +kernel
theorem dL_law_658 : decode cL_law 658 = .ok (.ifCond .ne 15, 3) := by decide +kernel
theorem dL_law_661 : decode cL_law 661 = .ok (.aload_n 3, 1) := by decide +kernel
theorem dL_law_662 : decode cL_law 662 = .ok (.iconst 0, 1) := by decide +kernel
theorem dL_law_663 : decode cL_law 663 = .ok (.laload, 1) := by decide +kernel
theorem dL_law_664 : decode cL_law 664 = .ok (.iload 6, 2) := by decide +kernel
theorem dL_law_666 : decode cL_law 666 = .ok (.i2l, 1) := by decide +kernel
theorem dL_law_667 : decode cL_law 667 = .ok (.lcmp, 1) := by decide +kernel
theorem dL_law_668 : decode cL_law 668 = .ok (.ifCond .eq 5, 3) := by decide +kernel
theorem dL_law_671 : decode cL_law 671 = .ok (.iconst 0, 1) := by decide +kernel
theorem dL_law_672 : decode cL_law 672 = .ok (.ireturn, 1) := by decide +kernel
theorem dL_law_673 : decode cL_law 673 = .ok (.goto 713, 3) := by decide +kernel
theorem dL_law_676 : decode cL_law 676 = .ok (.aload_n 1, 1) := by decide +kernel
theorem dL_law_677 : decode cL_law 677 = .ok (.aload_n 0, 1) := by decide +kernel
theorem dL_law_678 : decode cL_law 678 = .ok (.iload 4, 2) := by decide +kernel
theorem dL_law_680 : decode cL_law 680 = .ok (.iconst 1, 1) := by decide +kernel
theorem dL_law_681 : decode cL_law 681 = .ok (.iadd, 1) := by decide +kernel
theorem dL_law_682 : decode cL_law 682 = .ok (.iaload, 1) := by decide +kernel
theorem dL_law_683 : decode cL_law 683 = .ok (.aload_n 0, 1) := by decide +kernel
theorem dL_law_684 : decode cL_law 684 = .ok (.iload 4, 2) := by decide +kernel
theorem dL_law_686 : decode cL_law 686 = .ok (.iconst 2, 1) := by decide +kernel
theorem dL_law_687 : decode cL_law 687 = .ok (.iadd, 1) := by decide +kernel
theorem dL_law_688 : decode cL_law 688 = .ok (.iaload, 1) := by decide +kernel
theorem dL_law_689 : decode cL_law 689 = .ok (.aload_n 3, 1) := by decide +kernel
theorem dL_law_690 : decode cL_law 690 = .ok (.invokestatic 93, 3) := by decide +kernel
theorem dL_law_693 : decode cL_law 693 = .ok (.istore 5, 2) := by decide +kernel
theorem dL_law_695 : decode cL_law 695 = .ok (.aload_n 2, 1) := by decide +kernel
theorem dL_law_696 : decode cL_law 696 = .ok (.aload_n 0, 1) := by decide +kernel
theorem dL_law_697 : decode cL_law 697 = .ok (.iload 4, 2) := by decide +kernel
theorem dL_law_699 : decode cL_law 699 = .ok (.iconst 1, 1) := by decide +kernel
theorem dL_law_700 : decode cL_law 700 = .ok (.iadd, 1) := by decide +kernel
theorem dL_law_701 : decode cL_law 701 = .ok (.iaload, 1) := by decide +kernel
theorem dL_law_702 : decode cL_law 702 = .ok (.aload_n 0, 1) := by decide +kernel
theorem dL_law_703 : decode cL_law 703 = .ok (.iload 4, 2) := by decide +kernel
theorem dL_law_705 : decode cL_law 705 = .ok (.iconst 2, 1) := by decide +kernel
theorem dL_law_706 : decode cL_law 706 = .ok (.iadd, 1) := by decide +kernel
theorem dL_law_707 : decode cL_law 707 = .ok (.iaload, 1) := by decide +kernel
theorem dL_law_708 : decode cL_law 708 = .ok (.invokevirtual 96, 3) := by decide +kernel
theorem dL_law_711 : decode cL_law 711 = .ok (.istore 6, 2) := by decide +kernel
theorem dL_law_713 : decode cL_law 713 = .ok (.aload_n 2, 1) := by decide +kernel
theorem dL_law_714 : decode cL_law 714 = .ok (.invokevirtual 73, 3) := by decide +kernel
theorem dL_law_717 : decode cL_law 717 = .ok (.iload 5, 2) := by decide +kernel
theorem dL_law_719 : decode cL_law 719 = .ok (.if_icmp .eq 5, 3) := by decide +kernel
theorem dL_law_722 : decode cL_law 722 = .ok (.iconst 0, 1) := by decide +kernel
theorem dL_law_723 : decode cL_law 723 = .ok (.ireturn, 1) := by decide +kernel
theorem dL_law_724 : decode cL_law 724 = .ok (.iload 5, 2) := by decide +kernel
theorem dL_law_726 : decode cL_law 726 = .ok (.ifCond .ne 15, 3) := by decide +kernel
theorem dL_law_729 : decode cL_law 729 = .ok (.aload_n 3, 1) := by decide +kernel
theorem dL_law_730 : decode cL_law 730 = .ok (.iconst 0, 1) := by decide +kernel
theorem dL_law_731 : decode cL_law 731 = .ok (.laload, 1) := by decide +kernel
theorem dL_law_732 : decode cL_law 732 = .ok (.iload 6, 2) := by decide +kernel
theorem dL_law_734 : decode cL_law 734 = .ok (.i2l, 1) := by decide +kernel
theorem dL_law_735 : decode cL_law 735 = .ok (.lcmp, 1) := by decide +kernel
theorem dL_law_736 : decode cL_law 736 = .ok (.ifCond .eq 5, 3) := by decide +kernel
theorem dL_law_739 : decode cL_law 739 = .ok (.iconst 0, 1) := by decide +kernel
theorem dL_law_740 : decode cL_law 740 = .ok (.ireturn, 1) := by decide +kernel
theorem dL_law_741 : decode cL_law 741 = .ok (.goto 645, 3) := by decide +kernel
theorem dL_law_744 : decode cL_law 744 = .ok (.aload_n 1, 1) := by decide +kernel
theorem dL_law_745 : decode cL_law 745 = .ok (.invokevirtual 97, 3) := by decide +kernel
theorem dL_law_748 : decode cL_law 748 = .ok (.aload_n 2, 1) := by decide +kernel
theorem dL_law_749 : decode cL_law 749 = .ok (.invokevirtual 100, 3) := by decide +kernel
theorem dL_law_752 : decode cL_law 752 = .ok (.if_icmp .eq 634, 3) := by decide +kernel
theorem dL_law_755 : decode cL_law 755 = .ok (.iconst 0, 1) := by decide +kernel
theorem dL_law_756 : decode cL_law 756 = .ok (.ireturn, 1) := by decide +kernel
theorem dL_law_757 : decode cL_law 757 = .ok (.aload_n 1, 1) := by decide +kernel
theorem dL_law_758 : decode cL_law 758 = .ok (.aload_n 0, 1) := by decide +kernel
theorem dL_law_759 : decode cL_law 759 = .ok (.iload 4, 2) := by decide +kernel
theorem dL_law_761 : decode cL_law 761 = .ok (.iconst 1, 1) := by decide +kernel
theorem dL_law_762 : decode cL_law 762 = .ok (.iadd, 1) := by decide +kernel
theorem dL_law_763 : decode cL_law 763 = .ok (.iaload, 1) := by decide +kernel
theorem dL_law_764 : decode cL_law 764 = .ok (.aload_n 0, 1) := by decide +kernel
theorem dL_law_765 : decode cL_law 765 = .ok (.iload 4, 2) := by decide +kernel
theorem dL_law_767 : decode cL_law 767 = .ok (.iconst 2, 1) := by decide +kernel
theorem dL_law_768 : decode cL_law 768 = .ok (.iadd, 1) := by decide +kernel
theorem dL_law_769 : decode cL_law 769 = .ok (.iaload, 1) := by decide +kernel
theorem dL_law_770 : decode cL_law 770 = .ok (.aload_n 3, 1) := by decide +kernel
theorem dL_law_771 : decode cL_law 771 = .ok (.invokestatic 101, 3) := by decide +kernel
theorem dL_law_774 : decode cL_law 774 = .ok (.istore 5, 2) := by decide +kernel
theorem dL_law_776 : decode cL_law 776 = .ok (.aload_n 2, 1) := by decide +kernel
theorem dL_law_777 : decode cL_law 777 = .ok (.aload_n 0, 1) := by decide +kernel
theorem dL_law_778 : decode cL_law 778 = .ok (.iload 4, 2) := by decide +kernel
theorem dL_law_780 : decode cL_law 780 = .ok (.iconst 1, 1) := by decide +kernel
theorem dL_law_781 : decode cL_law 781 = .ok (.iadd, 1) := by decide +kernel
theorem dL_law_782 : decode cL_law 782 = .ok (.iaload, 1) := by decide +kernel
theorem dL_law_783 : decode cL_law 783 = .ok (.aload_n 0, 1) := by decide +kernel
theorem dL_law_784 : decode cL_law 784 = .ok (.iload 4, 2) := by decide +kernel
theorem dL_law_786 : decode cL_law 786 = .ok (.iconst 2, 1) := by decide +kernel
theorem dL_law_787 : decode cL_law 787 = .ok (.iadd, 1) := by decide +kernel
theorem dL_law_788 : decode cL_law 788 = .ok (.iaload, 1) := by decide +kernel
theorem dL_law_789 : decode cL_law 789 = .ok (.invokevirtual 103, 3) := by decide +kernel
theorem dL_law_792 : decode cL_law 792 = .ok (.istore 6, 2) := by decide +kernel
theorem dL_law_794 : decode cL_law 794 = .ok (.aload_n 2, 1) := by decide +kernel
theorem dL_law_795 : decode cL_law 795 = .ok (.invokevirtual 73, 3) := by decide +kernel
theorem dL_law_798 : decode cL_law 798 = .ok (.iload 5, 2) := by decide +kernel
theorem dL_law_800 : decode cL_law 800 = .ok (.if_icmp .eq 5, 3) := by decide +kernel
theorem dL_law_803 : decode cL_law 803 = .ok (.iconst 0, 1) := by decide +kernel
theorem dL_law_804 : decode cL_law 804 = .ok (.ireturn, 1) := by decide +kernel
theorem dL_law_805 : decode cL_law 805 = .ok (.iload 5, 2) := by decide +kernel
theorem dL_law_807 : decode cL_law 807 = .ok (.ifCond .ne 15, 3) := by decide +kernel
theorem dL_law_810 : decode cL_law 810 = .ok (.aload_n 3, 1) := by decide +kernel
theorem dL_law_811 : decode cL_law 811 = .ok (.iconst 0, 1) := by decide +kernel
theorem dL_law_812 : decode cL_law 812 = .ok (.laload, 1) := by decide +kernel
theorem dL_law_813 : decode cL_law 813 = .ok (.iload 6, 2) := by decide +kernel
theorem dL_law_815 : decode cL_law 815 = .ok (.i2l, 1) := by decide +kernel
theorem dL_law_816 : decode cL_law 816 = .ok (.lcmp, 1) := by decide +kernel
theorem dL_law_817 : decode cL_law 817 = .ok (.ifCond .eq 5, 3) := by decide +kernel
theorem dL_law_820 : decode cL_law 820 = .ok (.iconst 0, 1) := by decide +kernel
theorem dL_law_821 : decode cL_law 821 = .ok (.ireturn, 1) := by decide +kernel
theorem dL_law_822 : decode cL_law 822 = .ok (.goto 564, 3) := by decide +kernel
theorem dL_law_825 : decode cL_law 825 = .ok (.aload_n 1, 1) := by decide +kernel
theorem dL_law_826 : decode cL_law 826 = .ok (.aload_n 0, 1) := by decide +kernel
theorem dL_law_827 : decode cL_law 827 = .ok (.iload 4, 2) := by decide +kernel
theorem dL_law_829 : decode cL_law 829 = .ok (.iconst 1, 1) := by decide +kernel
theorem dL_law_830 : decode cL_law 830 = .ok (.iadd, 1) := by decide +kernel
theorem dL_law_831 : decode cL_law 831 = .ok (.iaload, 1) := by decide +kernel
theorem dL_law_832 : decode cL_law 832 = .ok (.aload_n 0, 1) := by decide +kernel
theorem dL_law_833 : decode cL_law 833 = .ok (.iload 4, 2) := by decide +kernel
theorem dL_law_835 : decode cL_law 835 = .ok (.iconst 2, 1) := by decide +kernel
theorem dL_law_836 : decode cL_law 836 = .ok (.iadd, 1) := by decide +kernel
theorem dL_law_837 : decode cL_law 837 = .ok (.iaload, 1) := by decide +kernel
theorem dL_law_838 : decode cL_law 838 = .ok (.aload_n 0, 1) := by decide +kernel
theorem dL_law_839 : decode cL_law 839 = .ok (.iload 4, 2) := by decide +kernel
theorem dL_law_841 : decode cL_law 841 = .ok (.iconst 3, 1) := by decide +kernel
theorem dL_law_842 : decode cL_law 842 = .ok (.iadd, 1) := by decide +kernel
theorem dL_law_843 : decode cL_law 843 = .ok (.iaload, 1) := by decide +kernel
theorem dL_law_844 : decode cL_law 844 = .ok (.aload_n 3, 1) := by decide +kernel
theorem dL_law_845 : decode cL_law 845 = .ok (.invokestatic 104, 3) := by decide +kernel
theorem dL_law_848 : decode cL_law 848 = .ok (.istore 5, 2) := by decide +kernel
theorem dL_law_850 : decode cL_law 850 = .ok (.aload_n 2, 1) := by decide +kernel
theorem dL_law_851 : decode cL_law 851 = .ok (.aload_n 0, 1) := by decide +kernel
theorem dL_law_852 : decode cL_law 852 = .ok (.iload 4, 2) := by decide +kernel
theorem dL_law_854 : decode cL_law 854 = .ok (.iconst 1, 1) := by decide +kernel
theorem dL_law_855 : decode cL_law 855 = .ok (.iadd, 1) := by decide +kernel
theorem dL_law_856 : decode cL_law 856 = .ok (.iaload, 1) := by decide +kernel
theorem dL_law_857 : decode cL_law 857 = .ok (.aload_n 0, 1) := by decide +kernel
theorem dL_law_858 : decode cL_law 858 = .ok (.iload 4, 2) := by decide +kernel
theorem dL_law_860 : decode cL_law 860 = .ok (.iconst 2, 1) := by decide +kernel
theorem dL_law_861 : decode cL_law 861 = .ok (.iadd, 1) := by decide +kernel
theorem dL_law_862 : decode cL_law 862 = .ok (.iaload, 1) := by decide +kernel
theorem dL_law_863 : decode cL_law 863 = .ok (.aload_n 0, 1) := by decide +kernel
theorem dL_law_864 : decode cL_law 864 = .ok (.iload 4, 2) := by decide +kernel
theorem dL_law_866 : decode cL_law 866 = .ok (.iconst 3, 1) := by decide +kernel
theorem dL_law_867 : decode cL_law 867 = .ok (.iadd, 1) := by decide +kernel
theorem dL_law_868 : decode cL_law 868 = .ok (.iaload, 1) := by decide +kernel
theorem dL_law_869 : decode cL_law 869 = .ok (.invokevirtual 106, 3) := by decide +kernel
theorem dL_law_872 : decode cL_law 872 = .ok (.istore 6, 2) := by decide +kernel
theorem dL_law_874 : decode cL_law 874 = .ok (.aload_n 2, 1) := by decide +kernel
theorem dL_law_875 : decode cL_law 875 = .ok (.invokevirtual 73, 3) := by decide +kernel
theorem dL_law_878 : decode cL_law 878 = .ok (.iload 5, 2) := by decide +kernel
theorem dL_law_880 : decode cL_law 880 = .ok (.if_icmp .eq 5, 3) := by decide +kernel
theorem dL_law_883 : decode cL_law 883 = .ok (.iconst 0, 1) := by decide +kernel
theorem dL_law_884 : decode cL_law 884 = .ok (.ireturn, 1) := by decide +kernel
theorem dL_law_885 : decode cL_law 885 = .ok (.iload 5, 2) := by decide +kernel
theorem dL_law_887 : decode cL_law 887 = .ok (.ifCond .ne 15, 3) := by decide +kernel
theorem dL_law_890 : decode cL_law 890 = .ok (.aload_n 3, 1) := by decide +kernel
theorem dL_law_891 : decode cL_law 891 = .ok (.iconst 0, 1) := by decide +kernel
theorem dL_law_892 : decode cL_law 892 = .ok (.laload, 1) := by decide +kernel
theorem dL_law_893 : decode cL_law 893 = .ok (.iload 6, 2) := by decide +kernel
theorem dL_law_895 : decode cL_law 895 = .ok (.i2l, 1) := by decide +kernel
theorem dL_law_896 : decode cL_law 896 = .ok (.lcmp, 1) := by decide +kernel
theorem dL_law_897 : decode cL_law 897 = .ok (.ifCond .eq 5, 3) := by decide +kernel
theorem dL_law_900 : decode cL_law 900 = .ok (.iconst 0, 1) := by decide +kernel
theorem dL_law_901 : decode cL_law 901 = .ok (.ireturn, 1) := by decide +kernel
theorem dL_law_902 : decode cL_law 902 = .ok (.goto 484, 3) := by decide +kernel
theorem dL_law_905 : decode cL_law 905 = .ok (.aload_n 1, 1) := by decide +kernel
theorem dL_law_906 : decode cL_law 906 = .ok (.aload_n 0, 1) := by decide +kernel
theorem dL_law_907 : decode cL_law 907 = .ok (.iload 4, 2) := by decide +kernel
theorem dL_law_909 : decode cL_law 909 = .ok (.iconst 1, 1) := by decide +kernel
theorem dL_law_910 : decode cL_law 910 = .ok (.iadd, 1) := by decide +kernel
theorem dL_law_911 : decode cL_law 911 = .ok (.iaload, 1) := by decide +kernel
theorem dL_law_912 : decode cL_law 912 = .ok (.aload_n 0, 1) := by decide +kernel
theorem dL_law_913 : decode cL_law 913 = .ok (.iload 4, 2) := by decide +kernel
theorem dL_law_915 : decode cL_law 915 = .ok (.iconst 2, 1) := by decide +kernel
theorem dL_law_916 : decode cL_law 916 = .ok (.iadd, 1) := by decide +kernel
theorem dL_law_917 : decode cL_law 917 = .ok (.iaload, 1) := by decide +kernel
theorem dL_law_918 : decode cL_law 918 = .ok (.aload_n 0, 1) := by decide +kernel
theorem dL_law_919 : decode cL_law 919 = .ok (.iload 4, 2) := by decide +kernel
theorem dL_law_921 : decode cL_law 921 = .ok (.iconst 3, 1) := by decide +kernel
theorem dL_law_922 : decode cL_law 922 = .ok (.iadd, 1) := by decide +kernel
theorem dL_law_923 : decode cL_law 923 = .ok (.iaload, 1) := by decide +kernel
theorem dL_law_924 : decode cL_law 924 = .ok (.aload_n 3, 1) := by decide +kernel
theorem dL_law_925 : decode cL_law 925 = .ok (.invokestatic 107, 3) := by decide +kernel
theorem dL_law_928 : decode cL_law 928 = .ok (.istore 5, 2) := by decide +kernel
theorem dL_law_930 : decode cL_law 930 = .ok (.aload_n 2, 1) := by decide +kernel
theorem dL_law_931 : decode cL_law 931 = .ok (.aload_n 0, 1) := by decide +kernel
theorem dL_law_932 : decode cL_law 932 = .ok (.iload 4, 2) := by decide +kernel
theorem dL_law_934 : decode cL_law 934 = .ok (.iconst 1, 1) := by decide +kernel
theorem dL_law_935 : decode cL_law 935 = .ok (.iadd, 1) := by decide +kernel
theorem dL_law_936 : decode cL_law 936 = .ok (.iaload, 1) := by decide +kernel
theorem dL_law_937 : decode cL_law 937 = .ok (.aload_n 0, 1) := by decide +kernel
theorem dL_law_938 : decode cL_law 938 = .ok (.iload 4, 2) := by decide +kernel
theorem dL_law_940 : decode cL_law 940 = .ok (.iconst 2, 1) := by decide +kernel
theorem dL_law_941 : decode cL_law 941 = .ok (.iadd, 1) := by decide +kernel
theorem dL_law_942 : decode cL_law 942 = .ok (.iaload, 1) := by decide +kernel
theorem dL_law_943 : decode cL_law 943 = .ok (.aload_n 0, 1) := by decide +kernel
theorem dL_law_944 : decode cL_law 944 = .ok (.iload 4, 2) := by decide +kernel
theorem dL_law_946 : decode cL_law 946 = .ok (.iconst 3, 1) := by decide +kernel
theorem dL_law_947 : decode cL_law 947 = .ok (.iadd, 1) := by decide +kernel
theorem dL_law_948 : decode cL_law 948 = .ok (.iaload, 1) := by decide +kernel
theorem dL_law_949 : decode cL_law 949 = .ok (.invokevirtual 109, 3) := by decide +kernel
theorem dL_law_952 : decode cL_law 952 = .ok (.istore 6, 2) := by decide +kernel
theorem dL_law_954 : decode cL_law 954 = .ok (.aload_n 2, 1) := by decide +kernel
theorem dL_law_955 : decode cL_law 955 = .ok (.invokevirtual 73, 3) := by decide +kernel
theorem dL_law_958 : decode cL_law 958 = .ok (.iload 5, 2) := by decide +kernel
theorem dL_law_960 : decode cL_law 960 = .ok (.if_icmp .eq 5, 3) := by decide +kernel
theorem dL_law_963 : decode cL_law 963 = .ok (.iconst 0, 1) := by decide +kernel
theorem dL_law_964 : decode cL_law 964 = .ok (.ireturn, 1) := by decide +kernel
theorem dL_law_965 : decode cL_law 965 = .ok (.iload 5, 2) := by decide +kernel
theorem dL_law_967 : decode cL_law 967 = .ok (.ifCond .ne 15, 3) := by decide +kernel
theorem dL_law_970 : decode cL_law 970 = .ok (.aload_n 3, 1) := by decide +kernel
theorem dL_law_971 : decode cL_law 971 = .ok (.iconst 0, 1) := by decide +kernel
theorem dL_law_972 : decode cL_law 972 = .ok (.laload, 1) := by decide +kernel
theorem dL_law_973 : decode cL_law 973 = .ok (.iload 6, 2) := by decide +kernel
theorem dL_law_975 : decode cL_law 975 = .ok (.i2l, 1) := by decide +kernel
theorem dL_law_976 : decode cL_law 976 = .ok (.lcmp, 1) := by decide +kernel
theorem dL_law_977 : decode cL_law 977 = .ok (.ifCond .eq 5, 3) := by decide +kernel
theorem dL_law_980 : decode cL_law 980 = .ok (.iconst 0, 1) := by decide +kernel
theorem dL_law_981 : decode cL_law 981 = .ok (.ireturn, 1) := by decide +kernel
theorem dL_law_982 : decode cL_law 982 = .ok (.goto 404, 3) := by decide +kernel
theorem dL_law_985 : decode cL_law 985 = .ok (.aload_n 1, 1) := by decide +kernel
theorem dL_law_986 : decode cL_law 986 = .ok (.aload_n 0, 1) := by decide +kernel
theorem dL_law_987 : decode cL_law 987 = .ok (.iload 4, 2) := by decide +kernel
theorem dL_law_989 : decode cL_law 989 = .ok (.iconst 1, 1) := by decide +kernel
theorem dL_law_990 : decode cL_law 990 = .ok (.iadd, 1) := by decide +kernel
theorem dL_law_991 : decode cL_law 991 = .ok (.iaload, 1) := by decide +kernel
theorem dL_law_992 : decode cL_law 992 = .ok (.aload_n 3, 1) := by decide +kernel
theorem dL_law_993 : decode cL_law 993 = .ok (.invokestatic 110, 3) := by decide +kernel
theorem dL_law_996 : decode cL_law 996 = .ok (.istore 5, 2) := by decide +kernel
theorem dL_law_998 : decode cL_law 998 = .ok (.aload_n 2, 1) := by decide +kernel
theorem dL_law_999 : decode cL_law 999 = .ok (.aload_n 0, 1) := by decide +kernel
theorem dL_law_1000 : decode cL_law 1000 = .ok (.iload 4, 2) := by decide +kernel
theorem dL_law_1002 : decode cL_law 1002 = .ok (.iconst 1, 1) := by decide +kernel
theorem dL_law_1003 : decode cL_law 1003 = .ok (.iadd, 1) := by decide +kernel
theorem dL_law_1004 : decode cL_law 1004 = .ok (.iaload, 1) := by decide +kernel
theorem dL_law_1005 : decode cL_law 1005 = .ok (.invokevirtual 113, 3) := by decide +kernel
theorem dL_law_1008 : decode cL_law 1008 = .ok (.istore 6, 2) := by decide +kernel
theorem dL_law_1010 : decode cL_law 1010 = .ok (.aload_n 2, 1) := by decide +kernel
theorem dL_law_1011 : decode cL_law 1011 = .ok (.invokevirtual 73, 3) := by decide +kernel
theorem dL_law_1014 : decode cL_law 1014 = .ok (.iload 5, 2) := by decide +kernel
theorem dL_law_1016 : decode cL_law 1016 = .ok (.if_icmp .eq 5, 3) := by decide +kernel
theorem dL_law_1019 : decode cL_law 1019 = .ok (.iconst 0, 1) := by decide +kernel
theorem dL_law_1020 : decode cL_law 1020 = .ok (.ireturn, 1) := by decide +kernel
theorem dL_law_1021 : decode cL_law 1021 = .ok (.iload 5, 2) := by decide +kernel
theorem dL_law_1023 : decode cL_law 1023 = .ok (.ifCond .ne 15, 3) := by decide +kernel
theorem dL_law_1026 : decode cL_law 1026 = .ok (.aload_n 3, 1) := by decide +kernel
theorem dL_law_1027 : decode cL_law 1027 = .ok (.iconst 0, 1) := by decide +kernel
theorem dL_law_1028 : decode cL_law 1028 = .ok (.laload, 1) := by decide +kernel
theorem dL_law_1029 : decode cL_law 1029 = .ok (.iload 6, 2) := by decide +kernel
theorem dL_law_1031 : decode cL_law 1031 = .ok (.i2l, 1) := by decide +kernel
theorem dL_law_1032 : decode cL_law 1032 = .ok (.lcmp, 1) := by decide +kernel
theorem dL_law_1033 : decode cL_law 1033 = .ok (.ifCond .eq 5, 3) := by decide +kernel
theorem dL_law_1036 : decode cL_law 1036 = .ok (.iconst 0, 1) := by decide +kernel
theorem dL_law_1037 : decode cL_law 1037 = .ok (.ireturn, 1) := by decide +kernel
theorem dL_law_1038 : decode cL_law 1038 = .ok (.goto 348, 3) := by decide +kernel
theorem dL_law_1041 : decode cL_law 1041 = .ok (.aload_n 1, 1) := by decide +kernel
theorem dL_law_1042 : decode cL_law 1042 = .ok (.aload_n 0, 1) := by decide +kernel
theorem dL_law_1043 : decode cL_law 1043 = .ok (.iload 4, 2) := by decide +kernel
theorem dL_law_1045 : decode cL_law 1045 = .ok (.iconst 1, 1) := by decide +kernel
theorem dL_law_1046 : decode cL_law 1046 = .ok (.iadd, 1) := by decide +kernel
theorem dL_law_1047 : decode cL_law 1047 = .ok (.iaload, 1) := by decide +kernel
theorem dL_law_1048 : decode cL_law 1048 = .ok (.aload_n 0, 1) := by decide +kernel
theorem dL_law_1049 : decode cL_law 1049 = .ok (.iload 4, 2) := by decide +kernel
theorem dL_law_1051 : decode cL_law 1051 = .ok (.iconst 2, 1) := by decide +kernel
theorem dL_law_1052 : decode cL_law 1052 = .ok (.iadd, 1) := by decide +kernel
theorem dL_law_1053 : decode cL_law 1053 = .ok (.iaload, 1) := by decide +kernel
theorem dL_law_1054 : decode cL_law 1054 = .ok (.aload_n 0, 1) := by decide +kernel
theorem dL_law_1055 : decode cL_law 1055 = .ok (.iload 4, 2) := by decide +kernel
theorem dL_law_1057 : decode cL_law 1057 = .ok (.iconst 3, 1) := by decide +kernel
theorem dL_law_1058 : decode cL_law 1058 = .ok (.iadd, 1) := by decide +kernel
theorem dL_law_1059 : decode cL_law 1059 = .ok (.iaload, 1) := by decide +kernel
theorem dL_law_1060 : decode cL_law 1060 = .ok (.aload_n 0, 1) := by decide +kernel
theorem dL_law_1061 : decode cL_law 1061 = .ok (.iload 4, 2) := by decide +kernel
theorem dL_law_1063 : decode cL_law 1063 = .ok (.iconst 4, 1) := by decide +kernel
theorem dL_law_1064 : decode cL_law 1064 = .ok (.iadd, 1) := by decide +kernel
theorem dL_law_1065 : decode cL_law 1065 = .ok (.iaload, 1) := by decide +kernel
theorem dL_law_1066 : decode cL_law 1066 = .ok (.aload_n 0, 1) := by decide +kernel
theorem dL_law_1067 : decode cL_law 1067 = .ok (.iload 4, 2) := by decide +kernel
theorem dL_law_1069 : decode cL_law 1069 = .ok (.iconst 5, 1) := by decide +kernel
theorem dL_law_1070 : decode cL_law 1070 = .ok (.iadd, 1) := by decide +kernel
theorem dL_law_1071 : decode cL_law 1071 = .ok (.iaload, 1) := by decide +kernel
theorem dL_law_1072 : decode cL_law 1072 = .ok (.aload_n 0, 1) := by decide +kernel
theorem dL_law_1073 : decode cL_law 1073 = .ok (.iload 4, 2) := by decide +kernel
theorem dL_law_1075 : decode cL_law 1075 = .ok (.bipush 6, 2) := by decide +kernel
theorem dL_law_1077 : decode cL_law 1077 = .ok (.iadd, 1) := by decide +kernel
theorem dL_law_1078 : decode cL_law 1078 = .ok (.iaload, 1) := by decide +kernel
theorem dL_law_1079 : decode cL_law 1079 = .ok (.aload_n 3, 1) := by decide +kernel
theorem dL_law_1080 : decode cL_law 1080 = .ok (.invokestatic 114, 3) := by decide +kernel
theorem dL_law_1083 : decode cL_law 1083 = .ok (.istore 5, 2) := by decide +kernel
theorem dL_law_1085 : decode cL_law 1085 = .ok (.aload_n 2, 1) := by decide +kernel
theorem dL_law_1086 : decode cL_law 1086 = .ok (.aload_n 0, 1) := by decide +kernel
theorem dL_law_1087 : decode cL_law 1087 = .ok (.iload 4, 2) := by decide +kernel
theorem dL_law_1089 : decode cL_law 1089 = .ok (.iconst 1, 1) := by decide +kernel
theorem dL_law_1090 : decode cL_law 1090 = .ok (.iadd, 1) := by decide +kernel
theorem dL_law_1091 : decode cL_law 1091 = .ok (.iaload, 1) := by decide +kernel
theorem dL_law_1092 : decode cL_law 1092 = .ok (.aload_n 0, 1) := by decide +kernel
theorem dL_law_1093 : decode cL_law 1093 = .ok (.iload 4, 2) := by decide +kernel
theorem dL_law_1095 : decode cL_law 1095 = .ok (.iconst 2, 1) := by decide +kernel
theorem dL_law_1096 : decode cL_law 1096 = .ok (.iadd, 1) := by decide +kernel
theorem dL_law_1097 : decode cL_law 1097 = .ok (.iaload, 1) := by decide +kernel
theorem dL_law_1098 : decode cL_law 1098 = .ok (.aload_n 0, 1) := by decide +kernel
theorem dL_law_1099 : decode cL_law 1099 = .ok (.iload 4, 2) := by decide +kernel
theorem dL_law_1101 : decode cL_law 1101 = .ok (.iconst 3, 1) := by decide +kernel
theorem dL_law_1102 : decode cL_law 1102 = .ok (.iadd, 1) := by decide +kernel
theorem dL_law_1103 : decode cL_law 1103 = .ok (.iaload, 1) := by decide +kernel
theorem dL_law_1104 : decode cL_law 1104 = .ok (.aload_n 0, 1) := by decide +kernel
theorem dL_law_1105 : decode cL_law 1105 = .ok (.iload 4, 2) := by decide +kernel
theorem dL_law_1107 : decode cL_law 1107 = .ok (.iconst 4, 1) := by decide +kernel
theorem dL_law_1108 : decode cL_law 1108 = .ok (.iadd, 1) := by decide +kernel
theorem dL_law_1109 : decode cL_law 1109 = .ok (.iaload, 1) := by decide +kernel
theorem dL_law_1110 : decode cL_law 1110 = .ok (.aload_n 0, 1) := by decide +kernel
theorem dL_law_1111 : decode cL_law 1111 = .ok (.iload 4, 2) := by decide +kernel
theorem dL_law_1113 : decode cL_law 1113 = .ok (.iconst 5, 1) := by decide +kernel
theorem dL_law_1114 : decode cL_law 1114 = .ok (.iadd, 1) := by decide +kernel
theorem dL_law_1115 : decode cL_law 1115 = .ok (.iaload, 1) := by decide +kernel
theorem dL_law_1116 : decode cL_law 1116 = .ok (.aload_n 0, 1) := by decide +kernel
theorem dL_law_1117 : decode cL_law 1117 = .ok (.iload 4, 2) := by decide +kernel
theorem dL_law_1119 : decode cL_law 1119 = .ok (.bipush 6, 2) := by decide +kernel
theorem dL_law_1121 : decode cL_law 1121 = .ok (.iadd, 1) := by decide +kernel
theorem dL_law_1122 : decode cL_law 1122 = .ok (.iaload, 1) := by decide +kernel
theorem dL_law_1123 : decode cL_law 1123 = .ok (.invokevirtual 117, 3) := by decide +kernel
theorem dL_law_1126 : decode cL_law 1126 = .ok (.istore 6, 2) := by decide +kernel
theorem dL_law_1128 : decode cL_law 1128 = .ok (.aload_n 2, 1) := by decide +kernel
theorem dL_law_1129 : decode cL_law 1129 = .ok (.invokevirtual 73, 3) := by decide +kernel
theorem dL_law_1132 : decode cL_law 1132 = .ok (.iload 5, 2) := by decide +kernel
theorem dL_law_1134 : decode cL_law 1134 = .ok (.if_icmp .eq 5, 3) := by decide +kernel
theorem dL_law_1137 : decode cL_law 1137 = .ok (.iconst 0, 1) := by decide +kernel
theorem dL_law_1138 : decode cL_law 1138 = .ok (.ireturn, 1) := by decide +kernel
theorem dL_law_1139 : decode cL_law 1139 = .ok (.iload 5, 2) := by decide +kernel
theorem dL_law_1141 : decode cL_law 1141 = .ok (.ifCond .ne 15, 3) := by decide +kernel
theorem dL_law_1144 : decode cL_law 1144 = .ok (.aload_n 3, 1) := by decide +kernel
theorem dL_law_1145 : decode cL_law 1145 = .ok (.iconst 0, 1) := by decide +kernel
theorem dL_law_1146 : decode cL_law 1146 = .ok (.laload, 1) := by decide +kernel
theorem dL_law_1147 : decode cL_law 1147 = .ok (.iload 6, 2) := by decide +kernel
theorem dL_law_1149 : decode cL_law 1149 = .ok (.i2l, 1) := by decide +kernel
theorem dL_law_1150 : decode cL_law 1150 = .ok (.lcmp, 1) := by decide +kernel
theorem dL_law_1151 : decode cL_law 1151 = .ok (.ifCond .eq 5, 3) := by decide +kernel
theorem dL_law_1154 : decode cL_law 1154 = .ok (.iconst 0, 1) := by decide +kernel
theorem dL_law_1155 : decode cL_law 1155 = .ok (.ireturn, 1) := by decide +kernel
theorem dL_law_1156 : decode cL_law 1156 = .ok (.goto 230, 3) := by decide +kernel
theorem dL_law_1159 : decode cL_law 1159 = .ok (.aload_n 1, 1) := by decide +kernel
theorem dL_law_1160 : decode cL_law 1160 = .ok (.aload_n 0, 1) := by decide +kernel
theorem dL_law_1161 : decode cL_law 1161 = .ok (.iload 4, 2) := by decide +kernel
theorem dL_law_1163 : decode cL_law 1163 = .ok (.iconst 1, 1) := by decide +kernel
theorem dL_law_1164 : decode cL_law 1164 = .ok (.iadd, 1) := by decide +kernel
theorem dL_law_1165 : decode cL_law 1165 = .ok (.iaload, 1) := by decide +kernel
theorem dL_law_1166 : decode cL_law 1166 = .ok (.aload_n 0, 1) := by decide +kernel
theorem dL_law_1167 : decode cL_law 1167 = .ok (.iload 4, 2) := by decide +kernel
theorem dL_law_1169 : decode cL_law 1169 = .ok (.iconst 2, 1) := by decide +kernel
theorem dL_law_1170 : decode cL_law 1170 = .ok (.iadd, 1) := by decide +kernel
theorem dL_law_1171 : decode cL_law 1171 = .ok (.iaload, 1) := by decide +kernel
theorem dL_law_1172 : decode cL_law 1172 = .ok (.aload_n 0, 1) := by decide +kernel
theorem dL_law_1173 : decode cL_law 1173 = .ok (.iload 4, 2) := by decide +kernel
theorem dL_law_1175 : decode cL_law 1175 = .ok (.iconst 3, 1) := by decide +kernel
theorem dL_law_1176 : decode cL_law 1176 = .ok (.iadd, 1) := by decide +kernel
theorem dL_law_1177 : decode cL_law 1177 = .ok (.iaload, 1) := by decide +kernel
theorem dL_law_1178 : decode cL_law 1178 = .ok (.aload_n 0, 1) := by decide +kernel
theorem dL_law_1179 : decode cL_law 1179 = .ok (.iload 4, 2) := by decide +kernel
theorem dL_law_1181 : decode cL_law 1181 = .ok (.iconst 4, 1) := by decide +kernel
theorem dL_law_1182 : decode cL_law 1182 = .ok (.iadd, 1) := by decide +kernel
theorem dL_law_1183 : decode cL_law 1183 = .ok (.iaload, 1) := by decide +kernel
theorem dL_law_1184 : decode cL_law 1184 = .ok (.aload_n 3, 1) := by decide +kernel
theorem dL_law_1185 : decode cL_law 1185 = .ok (.invokestatic 118, 3) := by decide +kernel
theorem dL_law_1188 : decode cL_law 1188 = .ok (.istore 5, 2) := by decide +kernel
theorem dL_law_1190 : decode cL_law 1190 = .ok (.aload_n 2, 1) := by decide +kernel
theorem dL_law_1191 : decode cL_law 1191 = .ok (.aload_n 0, 1) := by decide +kernel
theorem dL_law_1192 : decode cL_law 1192 = .ok (.iload 4, 2) := by decide +kernel
theorem dL_law_1194 : decode cL_law 1194 = .ok (.iconst 1, 1) := by decide +kernel
theorem dL_law_1195 : decode cL_law 1195 = .ok (.iadd, 1) := by decide +kernel
theorem dL_law_1196 : decode cL_law 1196 = .ok (.iaload, 1) := by decide +kernel
theorem dL_law_1197 : decode cL_law 1197 = .ok (.aload_n 0, 1) := by decide +kernel
theorem dL_law_1198 : decode cL_law 1198 = .ok (.iload 4, 2) := by decide +kernel
theorem dL_law_1200 : decode cL_law 1200 = .ok (.iconst 2, 1) := by decide +kernel
theorem dL_law_1201 : decode cL_law 1201 = .ok (.iadd, 1) := by decide +kernel
theorem dL_law_1202 : decode cL_law 1202 = .ok (.iaload, 1) := by decide +kernel
theorem dL_law_1203 : decode cL_law 1203 = .ok (.aload_n 0, 1) := by decide +kernel
theorem dL_law_1204 : decode cL_law 1204 = .ok (.iload 4, 2) := by decide +kernel
theorem dL_law_1206 : decode cL_law 1206 = .ok (.iconst 3, 1) := by decide +kernel
theorem dL_law_1207 : decode cL_law 1207 = .ok (.iadd, 1) := by decide +kernel
theorem dL_law_1208 : decode cL_law 1208 = .ok (.iaload, 1) := by decide +kernel
theorem dL_law_1209 : decode cL_law 1209 = .ok (.aload_n 0, 1) := by decide +kernel
theorem dL_law_1210 : decode cL_law 1210 = .ok (.iload 4, 2) := by decide +kernel
theorem dL_law_1212 : decode cL_law 1212 = .ok (.iconst 4, 1) := by decide +kernel
theorem dL_law_1213 : decode cL_law 1213 = .ok (.iadd, 1) := by decide +kernel
theorem dL_law_1214 : decode cL_law 1214 = .ok (.iaload, 1) := by decide +kernel
theorem dL_law_1215 : decode cL_law 1215 = .ok (.invokevirtual 121, 3) := by decide +kernel
theorem dL_law_1218 : decode cL_law 1218 = .ok (.istore 6, 2) := by decide +kernel
theorem dL_law_1220 : decode cL_law 1220 = .ok (.aload_n 2, 1) := by decide +kernel
theorem dL_law_1221 : decode cL_law 1221 = .ok (.invokevirtual 73, 3) := by decide +kernel
theorem dL_law_1224 : decode cL_law 1224 = .ok (.iload 5, 2) := by decide +kernel
theorem dL_law_1226 : decode cL_law 1226 = .ok (.if_icmp .eq 5, 3) := by decide +kernel
theorem dL_law_1229 : decode cL_law 1229 = .ok (.iconst 0, 1) := by decide +kernel
theorem dL_law_1230 : decode cL_law 1230 = .ok (.ireturn, 1) := by decide +kernel
theorem dL_law_1231 : decode cL_law 1231 = .ok (.iload 5, 2) := by decide +kernel
theorem dL_law_1233 : decode cL_law 1233 = .ok (.ifCond .ne 15, 3) := by decide +kernel
theorem dL_law_1236 : decode cL_law 1236 = .ok (.aload_n 3, 1) := by decide +kernel
theorem dL_law_1237 : decode cL_law 1237 = .ok (.iconst 0, 1) := by decide +kernel
theorem dL_law_1238 : decode cL_law 1238 = .ok (.laload, 1) := by decide +kernel
theorem dL_law_1239 : decode cL_law 1239 = .ok (.iload 6, 2) := by decide +kernel
theorem dL_law_1241 : decode cL_law 1241 = .ok (.i2l, 1) := by decide +kernel
theorem dL_law_1242 : decode cL_law 1242 = .ok (.lcmp, 1) := by decide +kernel
theorem dL_law_1243 : decode cL_law 1243 = .ok (.ifCond .eq 5, 3) := by decide +kernel
theorem dL_law_1246 : decode cL_law 1246 = .ok (.iconst 0, 1) := by decide +kernel
theorem dL_law_1247 : decode cL_law 1247 = .ok (.ireturn, 1) := by decide +kernel
theorem dL_law_1248 : decode cL_law 1248 = .ok (.goto 138, 3) := by decide +kernel
theorem dL_law_1251 : decode cL_law 1251 = .ok (.aload_n 1, 1) := by decide +kernel
theorem dL_law_1252 : decode cL_law 1252 = .ok (.aload_n 0, 1) := by decide +kernel
theorem dL_law_1253 : decode cL_law 1253 = .ok (.iload 4, 2) := by decide +kernel
theorem dL_law_1255 : decode cL_law 1255 = .ok (.iconst 1, 1) := by decide +kernel
theorem dL_law_1256 : decode cL_law 1256 = .ok (.iadd, 1) := by decide +kernel
theorem dL_law_1257 : decode cL_law 1257 = .ok (.iaload, 1) := by decide +kernel
theorem dL_law_1258 : decode cL_law 1258 = .ok (.aload_n 0, 1) := by decide +kernel
theorem dL_law_1259 : decode cL_law 1259 = .ok (.iload 4, 2) := by decide +kernel
theorem dL_law_1261 : decode cL_law 1261 = .ok (.iconst 2, 1) := by decide +kernel
theorem dL_law_1262 : decode cL_law 1262 = .ok (.iadd, 1) := by decide +kernel
theorem dL_law_1263 : decode cL_law 1263 = .ok (.iaload, 1) := by decide +kernel
theorem dL_law_1264 : decode cL_law 1264 = .ok (.aload_n 0, 1) := by decide +kernel
theorem dL_law_1265 : decode cL_law 1265 = .ok (.iload 4, 2) := by decide +kernel
theorem dL_law_1267 : decode cL_law 1267 = .ok (.iconst 3, 1) := by decide +kernel
theorem dL_law_1268 : decode cL_law 1268 = .ok (.iadd, 1) := by decide +kernel
theorem dL_law_1269 : decode cL_law 1269 = .ok (.iaload, 1) := by decide +kernel
theorem dL_law_1270 : decode cL_law 1270 = .ok (.aload_n 3, 1) := by decide +kernel
theorem dL_law_1271 : decode cL_law 1271 = .ok (.invokestatic 122, 3) := by decide +kernel
theorem dL_law_1274 : decode cL_law 1274 = .ok (.istore 5, 2) := by decide +kernel
theorem dL_law_1276 : decode cL_law 1276 = .ok (.aload_n 2, 1) := by decide +kernel
theorem dL_law_1277 : decode cL_law 1277 = .ok (.aload_n 0, 1) := by decide +kernel
theorem dL_law_1278 : decode cL_law 1278 = .ok (.iload 4, 2) := by decide +kernel
theorem dL_law_1280 : decode cL_law 1280 = .ok (.iconst 1, 1) := by decide +kernel
theorem dL_law_1281 : decode cL_law 1281 = .ok (.iadd, 1) := by decide +kernel
theorem dL_law_1282 : decode cL_law 1282 = .ok (.iaload, 1) := by decide +kernel
theorem dL_law_1283 : decode cL_law 1283 = .ok (.aload_n 0, 1) := by decide +kernel
theorem dL_law_1284 : decode cL_law 1284 = .ok (.iload 4, 2) := by decide +kernel
theorem dL_law_1286 : decode cL_law 1286 = .ok (.iconst 2, 1) := by decide +kernel
theorem dL_law_1287 : decode cL_law 1287 = .ok (.iadd, 1) := by decide +kernel
theorem dL_law_1288 : decode cL_law 1288 = .ok (.iaload, 1) := by decide +kernel
theorem dL_law_1289 : decode cL_law 1289 = .ok (.aload_n 0, 1) := by decide +kernel
theorem dL_law_1290 : decode cL_law 1290 = .ok (.iload 4, 2) := by decide +kernel
theorem dL_law_1292 : decode cL_law 1292 = .ok (.iconst 3, 1) := by decide +kernel
theorem dL_law_1293 : decode cL_law 1293 = .ok (.iadd, 1) := by decide +kernel
theorem dL_law_1294 : decode cL_law 1294 = .ok (.iaload, 1) := by decide +kernel
theorem dL_law_1295 : decode cL_law 1295 = .ok (.invokevirtual 124, 3) := by decide +kernel
theorem dL_law_1298 : decode cL_law 1298 = .ok (.istore 6, 2) := by decide +kernel
theorem dL_law_1300 : decode cL_law 1300 = .ok (.aload_n 2, 1) := by decide +kernel
theorem dL_law_1301 : decode cL_law 1301 = .ok (.invokevirtual 73, 3) := by decide +kernel
theorem dL_law_1304 : decode cL_law 1304 = .ok (.iload 5, 2) := by decide +kernel
theorem dL_law_1306 : decode cL_law 1306 = .ok (.if_icmp .eq 5, 3) := by decide +kernel
theorem dL_law_1309 : decode cL_law 1309 = .ok (.iconst 0, 1) := by decide +kernel
theorem dL_law_1310 : decode cL_law 1310 = .ok (.ireturn, 1) := by decide +kernel
theorem dL_law_1311 : decode cL_law 1311 = .ok (.iload 5, 2) := by decide +kernel
theorem dL_law_1313 : decode cL_law 1313 = .ok (.ifCond .ne 15, 3) := by decide +kernel
theorem dL_law_1316 : decode cL_law 1316 = .ok (.aload_n 3, 1) := by decide +kernel
theorem dL_law_1317 : decode cL_law 1317 = .ok (.iconst 0, 1) := by decide +kernel
theorem dL_law_1318 : decode cL_law 1318 = .ok (.laload, 1) := by decide +kernel
theorem dL_law_1319 : decode cL_law 1319 = .ok (.iload 6, 2) := by decide +kernel
theorem dL_law_1321 : decode cL_law 1321 = .ok (.i2l, 1) := by decide +kernel
theorem dL_law_1322 : decode cL_law 1322 = .ok (.lcmp, 1) := by decide +kernel
theorem dL_law_1323 : decode cL_law 1323 = .ok (.ifCond .eq 5, 3) := by decide +kernel
theorem dL_law_1326 : decode cL_law 1326 = .ok (.iconst 0, 1) := by decide +kernel
theorem dL_law_1327 : decode cL_law 1327 = .ok (.ireturn, 1) := by decide +kernel
theorem dL_law_1328 : decode cL_law 1328 = .ok (.goto 58, 3) := by decide +kernel
theorem dL_law_1331 : decode cL_law 1331 = .ok (.aload_n 1, 1) := by decide +kernel
theorem dL_law_1332 : decode cL_law 1332 = .ok (.invokevirtual 125, 3) := by decide +kernel
theorem dL_law_1335 : decode cL_law 1335 = .ok (.dstore 5, 2) := by decide +kernel
theorem dL_law_1337 : decode cL_law 1337 = .ok (.aload_n 2, 1) := by decide +kernel
theorem dL_law_1338 : decode cL_law 1338 = .ok (.invokevirtual 129, 3) := by decide +kernel
theorem dL_law_1341 : decode cL_law 1341 = .ok (.dstore 7, 2) := by decide +kernel
theorem dL_law_1343 : decode cL_law 1343 = .ok (.dload 5, 2) := by decide +kernel
theorem dL_law_1345 : decode cL_law 1345 = .ok (.dload 7, 2) := by decide +kernel
theorem dL_law_1347 : decode cL_law 1347 = .ok (.dcmp .l, 1) := by decide +kernel
theorem dL_law_1348 : decode cL_law 1348 = .ok (.ifCond .eq 21, 3) := by decide +kernel
theorem dL_law_1351 : decode cL_law 1351 = .ok (.dload 5, 2) := by decide +kernel
theorem dL_law_1353 : decode cL_law 1353 = .ok (.dload 5, 2) := by decide +kernel
theorem dL_law_1355 : decode cL_law 1355 = .ok (.dcmp .l, 1) := by decide +kernel
theorem dL_law_1356 : decode cL_law 1356 = .ok (.ifCond .eq 11, 3) := by decide +kernel
theorem dL_law_1359 : decode cL_law 1359 = .ok (.dload 7, 2) := by decide +kernel
theorem dL_law_1361 : decode cL_law 1361 = .ok (.dload 7, 2) := by decide +kernel
theorem dL_law_1363 : decode cL_law 1363 = .ok (.dcmp .l, 1) := by decide +kernel
theorem dL_law_1364 : decode cL_law 1364 = .ok (.ifCond .ne 5, 3) := by decide +kernel
theorem dL_law_1367 : decode cL_law 1367 = .ok (.iconst 0, 1) := by decide +kernel
theorem dL_law_1368 : decode cL_law 1368 = .ok (.ireturn, 1) := by decide +kernel
theorem dL_law_1369 : decode cL_law 1369 = .ok (.goto 17, 3) := by decide +kernel
theorem dL_law_1372 : decode cL_law 1372 = .ok (.aload_n 1, 1) := by decide +kernel
theorem dL_law_1373 : decode cL_law 1373 = .ok (.invokevirtual 130, 3) := by decide +kernel
theorem dL_law_1376 : decode cL_law 1376 = .ok (.aload_n 2, 1) := by decide +kernel
theorem dL_law_1377 : decode cL_law 1377 = .ok (.invokevirtual 134, 3) := by decide +kernel
theorem dL_law_1380 : decode cL_law 1380 = .ok (.lcmp, 1) := by decide +kernel
theorem dL_law_1381 : decode cL_law 1381 = .ok (.ifCond .eq 5, 3) := by decide +kernel
theorem dL_law_1384 : decode cL_law 1384 = .ok (.iconst 0, 1) := by decide +kernel
theorem dL_law_1385 : decode cL_law 1385 = .ok (.ireturn, 1) := by decide +kernel
theorem dL_law_1386 : decode cL_law 1386 = .ok (.iinc 4 7, 3) := by decide +kernel
theorem dL_law_1389 : decode cL_law 1389 = .ok (.goto (-1366), 3) := by decide +kernel
theorem dL_law_1392 : decode cL_law 1392 = .ok (.iconst 1, 1) := by decide +kernel
theorem dL_law_1393 : decode cL_law 1393 = .ok (.ireturn, 1) := by decide +kernel
abbrev vwCl : List vw_C := [(RX0, TX0, 5), (RX1, TX1, 7), (RX2, TX2, 7), (RX3, TX3, 5), (RX4, TX4, 6), (RX5, TX5, 6), (RX6, TX6, 12)]
end
section
/-! the tables' words that serve everywhere -/
def TB : List Cond := (k2_sels lw_privs ++ tables_1).filter goodWord
theorem tb_of {w : Cond} (h : w ∈ tables_1) (g : goodWord w = true) : w ∈ TB := List.mem_filter.mpr ⟨List.mem_append_right _ h, g⟩
theorem tb1 {w : Cond} (i : Nat) (h : tables_1_1[i]? = some w) (g : goodWord w = true) : w ∈ TB := tb_of (List.mem_append_left _ (List.mem_of_getElem? h)) g
theorem tb2 {w : Cond} (i : Nat) (h : tables_1_2[i]? = some w) (g : goodWord w = true) : w ∈ TB := tb_of (List.mem_append_right _ (List.mem_append_left _ (List.mem_of_getElem? h))) g
theorem tb3 {w : Cond} (i : Nat) (h : tables_1_3[i]? = some w) (g : goodWord w = true) : w ∈ TB := tb_of (List.mem_append_right _ (List.mem_append_right _ (List.mem_append_left _ (List.mem_of_getElem? h)))) g
theorem tb4 {w : Cond} (i : Nat) (h : tables_1_4[i]? = some w) (g : goodWord w = true) : w ∈ TB := tb_of (List.mem_append_right _ (List.mem_append_right _ (List.mem_append_right _ (List.mem_append_left _ (List.mem_of_getElem? h))))) g
theorem tb5 {w : Cond} (i : Nat) (h : tables_1_5[i]? = some w) (g : goodWord w = true) : w ∈ TB := tb_of (List.mem_append_right _ (List.mem_append_right _ (List.mem_append_right _ (List.mem_append_right _ (List.mem_of_getElem? h))))) g
theorem tbs1 {y : MethodName} {n : Nat} (i : Nat) (h : lw_privs_1[i]? = some (y, n)) : Cond.selects y.cls y y ∈ TB := List.mem_filter.mpr ⟨List.mem_append_left _ (List.mem_map.mpr ⟨(y, n), List.mem_append_left _ (List.mem_of_getElem? h), rfl⟩), rfl⟩
theorem tbs2 {y : MethodName} {n : Nat} (i : Nat) (h : lw_privs_2[i]? = some (y, n)) : Cond.selects y.cls y y ∈ TB := List.mem_filter.mpr ⟨List.mem_append_left _ (List.mem_map.mpr ⟨(y, n), List.mem_append_right _ (List.mem_append_left _ (List.mem_of_getElem? h)), rfl⟩), rfl⟩
theorem tbs3 {y : MethodName} {n : Nat} (i : Nat) (h : lw_privs_3[i]? = some (y, n)) : Cond.selects y.cls y y ∈ TB := List.mem_filter.mpr ⟨List.mem_append_left _ (List.mem_map.mpr ⟨(y, n), List.mem_append_right _ (List.mem_append_right _ (List.mem_append_left _ (List.mem_of_getElem? h))), rfl⟩), rfl⟩
theorem tbs4 {y : MethodName} {n : Nat} (i : Nat) (h : lw_privs_4[i]? = some (y, n)) : Cond.selects y.cls y y ∈ TB := List.mem_filter.mpr ⟨List.mem_append_left _ (List.mem_map.mpr ⟨(y, n), List.mem_append_right _ (List.mem_append_right _ (List.mem_append_right _ (List.mem_of_getElem? h))), rfl⟩), rfl⟩
theorem tw_1_0 : Cond.initialized "GemCutLaw" ∈ TB := tb1 0 rfl rfl
theorem tw_1_1 : Cond.initialized "GemCut" ∈ TB := tb1 1 rfl rfl
theorem tw_1_2 : Cond.initialized "GemCut$Rough" ∈ TB := tb1 2 rfl rfl
theorem tw_1_3 : Cond.initialized "GemCut$Flaw" ∈ TB := tb1 3 rfl rfl
theorem tw_1_4 : Cond.initialized "GemCut$Stone" ∈ TB := tb1 4 rfl rfl
theorem tw_1_5 : Cond.initialized "GemCut$Plane" ∈ TB := tb1 5 rfl rfl
theorem tw_1_6 : Cond.initialized "GemCut$Trial" ∈ TB := tb1 6 rfl rfl
theorem tw_1_7 : Cond.initialized "GemCutModel" ∈ TB := tb1 7 rfl rfl
theorem tw_1_8 : Cond.initialized "java/lang/Throwable" ∈ TB := tb1 8 rfl rfl
theorem tw_1_9 : Cond.initialized "java/lang/Exception" ∈ TB := tb1 9 rfl rfl
theorem tw_1_10 : Cond.initialized "java/lang/RuntimeException" ∈ TB := tb1 10 rfl rfl
theorem tw_1_11 : Cond.initialized "java/lang/IllegalArgumentException" ∈ TB := tb1 11 rfl rfl
theorem tw_1_12 : Cond.initialized "java/lang/IndexOutOfBoundsException" ∈ TB := tb1 12 rfl rfl
theorem tw_1_13 : Cond.initialized "java/lang/IllegalStateException" ∈ TB := tb1 13 rfl rfl
theorem tw_1_14 : Cond.initialized "java/lang/Math" ∈ TB := tb1 14 rfl rfl
theorem tw_1_15 : Cond.initialized "java/lang/System" ∈ TB := tb1 15 rfl rfl
theorem tw_1_16 : Cond.classLink "GemCutLaw" 8 "GemCut" ∈ TB := tb1 16 rfl rfl
theorem tw_1_17 : Cond.instantiable "GemCut" 6 ∈ TB := tb1 17 rfl rfl
theorem tw_1_18 : Cond.methodLink "GemCutLaw" 63 yX5_init ∈ TB := tb1 18 rfl rfl
theorem tw_1_19 : Cond.instanceMethod yX5_init ∈ TB := tb1 19 rfl rfl
theorem tw_1_20 : Cond.code yX5_init cX5_init 2 (Option.none : Option Jvm.ClassFile.FieldType) ∈ TB := tb1 20 rfl rfl
theorem tw_1_21 : Cond.methodLink "GemCut" 1 ⟨"java/lang/Object", "<init>", "()V"⟩ ∈ TB := tb1 21 rfl rfl
theorem tw_1_22 : Cond.instanceMethod ⟨"java/lang/Object", "<init>", "()V"⟩ ∈ TB := tb1 22 rfl rfl
theorem tw_1_23 : Cond.code ⟨"java/lang/Object", "<init>", "()V"⟩ object_method_1_code 1 (Option.none : Option Jvm.ClassFile.FieldType) ∈ TB := tb1 23 rfl rfl
theorem tw_1_24 : Cond.classLink "GemCut" 7 "GemCut$Rough" ∈ TB := tb1 24 rfl rfl
theorem tw_1_25 : Cond.instantiable "GemCut$Rough" 7 ∈ TB := tb1 25 rfl rfl
theorem tw_1_26 : Cond.methodLink "GemCut" 9 yX2_init ∈ TB := tb1 26 rfl rfl
theorem tw_1_27 : Cond.instanceMethod yX2_init ∈ TB := tb1 27 rfl rfl
theorem tw_1_28 : Cond.code yX2_init cX2_init 2 (Option.none : Option Jvm.ClassFile.FieldType) ∈ TB := tb1 28 rfl rfl
theorem tw_1_29 : Cond.methodLink "GemCut$Rough" 3 ⟨"java/lang/Object", "<init>", "()V"⟩ ∈ TB := tb1 29 rfl rfl
theorem tw_1_30 : Cond.classLink "GemCut$Rough" 19 "GemCut$Flaw" ∈ TB := tb1 30 rfl rfl
theorem tw_1_32 : Cond.instantiable "GemCut$Flaw" 5 ∈ TB := tb1 32 rfl rfl
theorem tw_1_34 : Cond.instanceMethod yX0_init ∈ TB := tb1 34 rfl rfl
theorem tw_1_35 : Cond.code yX0_init cX0_init 1 (Option.none : Option Jvm.ClassFile.FieldType) ∈ TB := tb1 35 rfl rfl
theorem tw_1_36 : Cond.methodLink "GemCut$Flaw" 3 ⟨"java/lang/Object", "<init>", "()V"⟩ ∈ TB := tb1 36 rfl rfl
theorem tw_1_37 : Cond.fieldLink "GemCut$Flaw" 21 "GemCut$Flaw" "severity" "I" ∈ TB := tb1 37 rfl rfl
theorem tw_1_38 : Cond.fieldLink "GemCut$Flaw" 9 "GemCut$Flaw" "cells" "[I" ∈ TB := tb1 38 rfl rfl
theorem tw_1_39 : Cond.fieldLink "GemCut$Trial" 126 "GemCut$Flaw" "cells" "[I" ∈ TB := tb1 39 rfl rfl
theorem tw_1_40 : Cond.fieldLink "GemCut$Flaw" 25 "GemCut$Flaw" "cellCount" "I" ∈ TB := tb1 40 rfl rfl
theorem tw_1_41 : Cond.fieldLink "GemCut$Trial" 121 "GemCut$Flaw" "cellCount" "I" ∈ TB := tb1 41 rfl rfl
theorem tw_1_42 : Cond.fieldLink "GemCut$Flaw" 15 "GemCut$Flaw" "cellsIn" "[I" ∈ TB := tb1 42 rfl rfl
theorem tw_1_43 : Cond.fieldLink "GemCut" 275 "GemCut$Flaw" "cellsIn" "[I" ∈ TB := tb1 43 rfl rfl
theorem tw_1_44 : Cond.fieldLink "GemCut$Flaw" 18 "GemCut$Flaw" "bareIn" "[I" ∈ TB := tb1 44 rfl rfl
theorem tw_1_45 : Cond.fieldLink "GemCut" 278 "GemCut$Flaw" "bareIn" "[I" ∈ TB := tb1 45 rfl rfl
theorem tw_1_46 : Cond.lays "GemCut$Flaw" "GemCut$Flaw" "severity" "I" ∈ TB := tb1 46 rfl rfl
theorem tw_1_48 : Cond.laysFinal "GemCut$Flaw" "GemCut$Flaw" "cells" "[I" ∈ TB := tb1 48 rfl rfl
theorem tw_1_50 : Cond.lays "GemCut$Flaw" "GemCut$Flaw" "cellCount" "I" ∈ TB := tb1 50 rfl rfl
theorem tw_1_52 : Cond.laysFinal "GemCut$Flaw" "GemCut$Flaw" "cellsIn" "[I" ∈ TB := tb1 52 rfl rfl
theorem tw_1_54 : Cond.laysFinal "GemCut$Flaw" "GemCut$Flaw" "bareIn" "[I" ∈ TB := tb1 54 rfl rfl
theorem tw_1_59 : Cond.fieldLink "GemCut$Rough" 26 "GemCut$Rough" "columns" "I" ∈ TB := tb1 59 rfl rfl
theorem tw_1_60 : Cond.fieldLink "GemCut$Trial" 49 "GemCut$Rough" "columns" "I" ∈ TB := tb1 60 rfl rfl
theorem tw_1_61 : Cond.fieldLink "GemCut" 254 "GemCut$Rough" "columns" "I" ∈ TB := tb1 61 rfl rfl
theorem tw_1_62 : Cond.fieldLink "GemCut$Rough" 30 "GemCut$Rough" "rows" "I" ∈ TB := tb1 62 rfl rfl
theorem tw_1_63 : Cond.fieldLink "GemCut$Trial" 46 "GemCut$Rough" "rows" "I" ∈ TB := tb1 63 rfl rfl
theorem tw_1_64 : Cond.fieldLink "GemCut" 251 "GemCut$Rough" "rows" "I" ∈ TB := tb1 64 rfl rfl
theorem tw_1_65 : Cond.fieldLink "GemCut$Rough" 33 "GemCut$Rough" "layers" "I" ∈ TB := tb1 65 rfl rfl
theorem tw_1_66 : Cond.fieldLink "GemCut$Trial" 40 "GemCut$Rough" "layers" "I" ∈ TB := tb1 66 rfl rfl
theorem tw_1_67 : Cond.fieldLink "GemCut" 248 "GemCut$Rough" "layers" "I" ∈ TB := tb1 67 rfl rfl
theorem tw_1_68 : Cond.fieldLink "GemCut$Rough" 9 "GemCut$Rough" "owner" "[I" ∈ TB := tb1 68 rfl rfl
theorem tw_1_69 : Cond.fieldLink "GemCut$Trial" 60 "GemCut$Rough" "owner" "[I" ∈ TB := tb1 69 rfl rfl
theorem tw_1_70 : Cond.fieldLink "GemCut$Flaw" 28 "GemCut$Rough" "owner" "[I" ∈ TB := tb1 70 rfl rfl
theorem tw_1_71 : Cond.fieldLink "GemCut" 207 "GemCut$Rough" "owner" "[I" ∈ TB := tb1 71 rfl rfl
theorem tw_1_72 : Cond.fieldLink "GemCut$Rough" 15 "GemCut$Rough" "bare" "[Z" ∈ TB := tb1 72 rfl rfl
theorem tw_1_73 : Cond.fieldLink "GemCut$Flaw" 33 "GemCut$Rough" "bare" "[Z" ∈ TB := tb1 73 rfl rfl
theorem tw_1_74 : Cond.fieldLink "GemCut$Trial" 129 "GemCut$Rough" "bare" "[Z" ∈ TB := tb1 74 rfl rfl
theorem tw_1_75 : Cond.fieldLink "GemCut" 267 "GemCut$Rough" "bare" "[Z" ∈ TB := tb1 75 rfl rfl
theorem tw_1_76 : Cond.fieldLink "GemCut$Rough" 21 "GemCut$Rough" "flaws" "[LGemCut$Flaw;" ∈ TB := tb1 76 rfl rfl
theorem tw_1_77 : Cond.fieldLink "GemCut$Trial" 136 "GemCut$Rough" "flaws" "[LGemCut$Flaw;" ∈ TB := tb1 77 rfl rfl
theorem tw_1_78 : Cond.fieldLink "GemCut" 187 "GemCut$Rough" "flaws" "[LGemCut$Flaw;" ∈ TB := tb1 78 rfl rfl
theorem tw_1_79 : Cond.fieldLink "GemCut$Rough" 36 "GemCut$Rough" "flawCount" "I" ∈ TB := tb1 79 rfl rfl
theorem tw_1_80 : Cond.fieldLink "GemCut" 58 "GemCut$Rough" "flawCount" "I" ∈ TB := tb1 80 rfl rfl
theorem tw_1_81 : Cond.fieldLink "GemCut$Trial" 133 "GemCut$Rough" "flawCount" "I" ∈ TB := tb1 81 rfl rfl
theorem tw_1_82 : Cond.lays "GemCut$Rough" "GemCut$Rough" "columns" "I" ∈ TB := tb1 82 rfl rfl
theorem tw_1_84 : Cond.lays "GemCut$Rough" "GemCut$Rough" "rows" "I" ∈ TB := tb1 84 rfl rfl
theorem tw_1_86 : Cond.lays "GemCut$Rough" "GemCut$Rough" "layers" "I" ∈ TB := tb1 86 rfl rfl
theorem tw_1_88 : Cond.laysFinal "GemCut$Rough" "GemCut$Rough" "owner" "[I" ∈ TB := tb1 88 rfl rfl
theorem tw_1_90 : Cond.laysFinal "GemCut$Rough" "GemCut$Rough" "bare" "[Z" ∈ TB := tb1 90 rfl rfl
theorem tw_1_92 : Cond.laysFinal "GemCut$Rough" "GemCut$Rough" "flaws" "[LGemCut$Flaw;" ∈ TB := tb1 92 rfl rfl
theorem tw_1_94 : Cond.lays "GemCut$Rough" "GemCut$Rough" "flawCount" "I" ∈ TB := tb1 94 rfl rfl
theorem tw_1_97 : Cond.classLink "GemCut" 16 "GemCut$Stone" ∈ TB := tb1 97 rfl rfl
theorem tw_1_99 : Cond.instantiable "GemCut$Stone" 5 ∈ TB := tb1 99 rfl rfl
theorem tw_1_100 : Cond.methodLink "GemCut" 22 yX3_init ∈ TB := tb1 100 rfl rfl
theorem tw_1_101 : Cond.instanceMethod yX3_init ∈ TB := tb1 101 rfl rfl
theorem tw_1_102 : Cond.code yX3_init cX3_init 3 (Option.none : Option Jvm.ClassFile.FieldType) ∈ TB := tb1 102 rfl rfl
theorem tw_1_103 : Cond.methodLink "GemCut$Stone" 3 ⟨"java/lang/Object", "<init>", "()V"⟩ ∈ TB := tb1 103 rfl rfl
theorem tw_1_104 : Cond.classLink "GemCut$Stone" 9 "GemCut$Plane" ∈ TB := tb1 104 rfl rfl
theorem tw_1_106 : Cond.instantiable "GemCut$Plane" 7 ∈ TB := tb1 106 rfl rfl
theorem tw_1_108 : Cond.instanceMethod yX1_init ∈ TB := tb1 108 rfl rfl
theorem tw_1_109 : Cond.code yX1_init cX1_init 1 (Option.none : Option Jvm.ClassFile.FieldType) ∈ TB := tb1 109 rfl rfl
theorem tw_1_110 : Cond.methodLink "GemCut$Plane" 1 ⟨"java/lang/Object", "<init>", "()V"⟩ ∈ TB := tb1 110 rfl rfl
theorem tw_1_111 : Cond.fieldLink "GemCut$Plane" 7 "GemCut$Plane" "p" "I" ∈ TB := tb1 111 rfl rfl
theorem tw_1_112 : Cond.fieldLink "GemCut$Plane" 13 "GemCut$Plane" "q" "I" ∈ TB := tb1 112 rfl rfl
theorem tw_1_113 : Cond.fieldLink "GemCut$Plane" 16 "GemCut$Plane" "r" "I" ∈ TB := tb1 113 rfl rfl
theorem tw_1_114 : Cond.fieldLink "GemCut$Plane" 19 "GemCut$Plane" "d" "I" ∈ TB := tb1 114 rfl rfl
theorem tw_1_115 : Cond.fieldLink "GemCut$Plane" 32 "GemCut$Plane" "reach" "I" ∈ TB := tb1 115 rfl rfl
theorem tw_1_116 : Cond.fieldLink "GemCut$Trial" 103 "GemCut$Plane" "reach" "I" ∈ TB := tb1 116 rfl rfl
theorem tw_1_117 : Cond.fieldLink "GemCut$Plane" 35 "GemCut$Plane" "polished" "Z" ∈ TB := tb1 117 rfl rfl
theorem tw_1_118 : Cond.fieldLink "GemCut$Stone" 46 "GemCut$Plane" "polished" "Z" ∈ TB := tb1 118 rfl rfl
theorem tw_1_119 : Cond.fieldLink "GemCut" 150 "GemCut$Plane" "polished" "Z" ∈ TB := tb1 119 rfl rfl
theorem tw_1_120 : Cond.fieldLink "GemCut$Trial" 117 "GemCut$Plane" "polished" "Z" ∈ TB := tb1 120 rfl rfl
theorem tw_1_121 : Cond.fieldLink "GemCut$Plane" 39 "GemCut$Plane" "touching" "I" ∈ TB := tb1 121 rfl rfl
theorem tw_1_122 : Cond.fieldLink "GemCut$Stone" 31 "GemCut$Plane" "touching" "I" ∈ TB := tb1 122 rfl rfl
theorem tw_1_123 : Cond.fieldLink "GemCut" 141 "GemCut$Plane" "touching" "I" ∈ TB := tb1 123 rfl rfl
theorem tw_1_124 : Cond.lays "GemCut$Plane" "GemCut$Plane" "p" "I" ∈ TB := tb1 124 rfl rfl
theorem tw_1_126 : Cond.lays "GemCut$Plane" "GemCut$Plane" "q" "I" ∈ TB := tb1 126 rfl rfl
theorem tw_1_128 : Cond.lays "GemCut$Plane" "GemCut$Plane" "r" "I" ∈ TB := tb1 128 rfl rfl
theorem tw_1_130 : Cond.lays "GemCut$Plane" "GemCut$Plane" "d" "I" ∈ TB := tb1 130 rfl rfl
theorem tw_1_132 : Cond.lays "GemCut$Plane" "GemCut$Plane" "reach" "I" ∈ TB := tb1 132 rfl rfl
theorem tw_1_134 : Cond.lays "GemCut$Plane" "GemCut$Plane" "polished" "Z" ∈ TB := tb1 134 rfl rfl
theorem tw_1_136 : Cond.lays "GemCut$Plane" "GemCut$Plane" "touching" "I" ∈ TB := tb1 136 rfl rfl
theorem tw_1_139 : Cond.fieldLink "GemCut$Stone" 17 "GemCut$Stone" "number" "I" ∈ TB := tb1 139 rfl rfl
theorem tw_1_140 : Cond.fieldLink "GemCut$Trial" 63 "GemCut$Stone" "number" "I" ∈ TB := tb1 140 rfl rfl
theorem tw_1_141 : Cond.fieldLink "GemCut" 288 "GemCut$Stone" "number" "I" ∈ TB := tb1 141 rfl rfl
theorem tw_1_142 : Cond.fieldLink "GemCut$Stone" 11 "GemCut$Stone" "planes" "[LGemCut$Plane;" ∈ TB := tb1 142 rfl rfl
theorem tw_1_143 : Cond.fieldLink "GemCut$Trial" 78 "GemCut$Stone" "planes" "[LGemCut$Plane;" ∈ TB := tb1 143 rfl rfl
theorem tw_1_144 : Cond.fieldLink "GemCut" 137 "GemCut$Stone" "planes" "[LGemCut$Plane;" ∈ TB := tb1 144 rfl rfl
theorem tw_1_145 : Cond.fieldLink "GemCut$Stone" 22 "GemCut$Stone" "planeCount" "I" ∈ TB := tb1 145 rfl rfl
theorem tw_1_146 : Cond.fieldLink "GemCut$Trial" 75 "GemCut$Stone" "planeCount" "I" ∈ TB := tb1 146 rfl rfl
theorem tw_1_147 : Cond.fieldLink "GemCut" 119 "GemCut$Stone" "planeCount" "I" ∈ TB := tb1 147 rfl rfl
theorem tw_1_148 : Cond.fieldLink "GemCut$Stone" 25 "GemCut$Stone" "weight" "I" ∈ TB := tb1 148 rfl rfl
theorem tw_1_149 : Cond.fieldLink "GemCut" 105 "GemCut$Stone" "weight" "I" ∈ TB := tb1 149 rfl rfl
theorem tw_1_150 : Cond.fieldLink "GemCut$Trial" 92 "GemCut$Stone" "weight" "I" ∈ TB := tb1 150 rfl rfl
theorem tw_1_151 : Cond.fieldLink "GemCut$Stone" 28 "GemCut$Stone" "bareCells" "I" ∈ TB := tb1 151 rfl rfl
theorem tw_1_152 : Cond.fieldLink "GemCut" 299 "GemCut$Stone" "bareCells" "I" ∈ TB := tb1 152 rfl rfl
theorem tw_1_153 : Cond.laysFinal "GemCut$Stone" "GemCut$Stone" "number" "I" ∈ TB := tb1 153 rfl rfl
theorem tw_1_155 : Cond.laysFinal "GemCut$Stone" "GemCut$Stone" "planes" "[LGemCut$Plane;" ∈ TB := tb1 155 rfl rfl
theorem tw_1_157 : Cond.lays "GemCut$Stone" "GemCut$Stone" "planeCount" "I" ∈ TB := tb1 157 rfl rfl
theorem tw_1_159 : Cond.lays "GemCut$Stone" "GemCut$Stone" "weight" "I" ∈ TB := tb1 159 rfl rfl
theorem tw_1_161 : Cond.lays "GemCut$Stone" "GemCut$Stone" "bareCells" "I" ∈ TB := tb1 161 rfl rfl
theorem tw_1_164 : Cond.classLink "GemCut" 25 "GemCut$Trial" ∈ TB := tb1 164 rfl rfl
theorem tw_1_165 : Cond.instantiable "GemCut$Trial" 6 ∈ TB := tb1 165 rfl rfl
theorem tw_1_166 : Cond.methodLink "GemCut" 27 yX4_init ∈ TB := tb1 166 rfl rfl
theorem tw_1_167 : Cond.instanceMethod yX4_init ∈ TB := tb1 167 rfl rfl
theorem tw_1_168 : Cond.code yX4_init cX4_init 3 (Option.none : Option Jvm.ClassFile.FieldType) ∈ TB := tb1 168 rfl rfl
theorem tw_1_169 : Cond.methodLink "GemCut$Trial" 3 ⟨"java/lang/Object", "<init>", "()V"⟩ ∈ TB := tb1 169 rfl rfl
theorem tw_1_170 : Cond.classLink "GemCut$Trial" 9 "GemCut$Plane" ∈ TB := tb1 170 rfl rfl
theorem tw_1_172 : Cond.fieldLink "GemCut$Trial" 28 "GemCut$Trial" "rough" "LGemCut$Rough;" ∈ TB := tb1 172 rfl rfl
theorem tw_1_173 : Cond.fieldLink "GemCut$Trial" 32 "GemCut$Trial" "piece" "LGemCut$Stone;" ∈ TB := tb1 173 rfl rfl
theorem tw_1_174 : Cond.fieldLink "GemCut$Trial" 12 "GemCut$Trial" "tried" "LGemCut$Plane;" ∈ TB := tb1 174 rfl rfl
theorem tw_1_175 : Cond.fieldLink "GemCut$Trial" 18 "GemCut$Trial" "heights" "[I" ∈ TB := tb1 175 rfl rfl
theorem tw_1_176 : Cond.fieldLink "GemCut$Trial" 22 "GemCut$Trial" "upTo" "[I" ∈ TB := tb1 176 rfl rfl
theorem tw_1_177 : Cond.fieldLink "GemCut$Trial" 25 "GemCut$Trial" "floors" "[I" ∈ TB := tb1 177 rfl rfl
theorem tw_1_178 : Cond.laysFinal "GemCut$Trial" "GemCut$Trial" "rough" "LGemCut$Rough;" ∈ TB := tb1 178 rfl rfl
theorem tw_1_180 : Cond.lays "GemCut$Trial" "GemCut$Trial" "piece" "LGemCut$Stone;" ∈ TB := tb1 180 rfl rfl
theorem tw_1_182 : Cond.laysFinal "GemCut$Trial" "GemCut$Trial" "tried" "LGemCut$Plane;" ∈ TB := tb1 182 rfl rfl
theorem tw_1_184 : Cond.laysFinal "GemCut$Trial" "GemCut$Trial" "heights" "[I" ∈ TB := tb1 184 rfl rfl
theorem tw_1_186 : Cond.laysFinal "GemCut$Trial" "GemCut$Trial" "upTo" "[I" ∈ TB := tb1 186 rfl rfl
theorem tw_1_188 : Cond.laysFinal "GemCut$Trial" "GemCut$Trial" "floors" "[I" ∈ TB := tb1 188 rfl rfl
theorem tw_1_191 : Cond.methodLink "GemCut" 34 yX5_beginRough ∈ TB := tb1 191 rfl rfl
theorem tw_1_193 : Cond.instanceMethod yX5_beginRough ∈ TB := tb1 193 rfl rfl
theorem tw_1_194 : Cond.code yX5_beginRough cX5_beginRough 4 (Option.none : Option Jvm.ClassFile.FieldType) ∈ TB := tb1 194 rfl rfl
theorem tw_1_195 : Cond.methodLink "GemCut" 239 yX2_begin ∈ TB := tb1 195 rfl rfl
theorem tw_1_196 : Cond.instanceMethod yX2_begin ∈ TB := tb1 196 rfl rfl
theorem tw_1_197 : Cond.selects "GemCut$Rough" yX2_begin yX2_begin ∈ TB := tb1 197 rfl rfl
theorem tw_1_198 : Cond.code yX2_begin cX2_begin 6 (Option.none : Option Jvm.ClassFile.FieldType) ∈ TB := tb1 198 rfl rfl
theorem tw_1_199 : Cond.methodLink "GemCut$Rough" 39 yX2_size ∈ TB := tb1 199 rfl rfl
theorem tw_1_200 : Cond.instanceMethod yX2_size ∈ TB := tb1 200 rfl rfl
theorem tw_1_201 : Cond.selects "GemCut$Rough" yX2_size yX2_size ∈ TB := tb1 201 rfl rfl
theorem tw_1_202 : Cond.code yX2_size cX2_size 1 (some FieldType.int) ∈ TB := tb1 202 rfl rfl
theorem tw_1_203 : Cond.methodLink "GemCut" 110 yX3_dropPlanes ∈ TB := tb1 203 rfl rfl
theorem tw_1_204 : Cond.instanceMethod yX3_dropPlanes ∈ TB := tb1 204 rfl rfl
theorem tw_1_205 : Cond.selects "GemCut$Stone" yX3_dropPlanes yX3_dropPlanes ∈ TB := tb1 205 rfl rfl
theorem tw_1_206 : Cond.code yX3_dropPlanes cX3_dropPlanes 1 (Option.none : Option Jvm.ClassFile.FieldType) ∈ TB := tb1 206 rfl rfl
theorem tw_1_207 : Cond.methodLink "GemCut" 116 yX5_survey ∈ TB := tb1 207 rfl rfl
theorem tw_1_209 : Cond.instanceMethod yX5_survey ∈ TB := tb1 209 rfl rfl
theorem tw_1_210 : Cond.code yX5_survey cX5_survey 5 (Option.none : Option Jvm.ClassFile.FieldType) ∈ TB := tb1 210 rfl rfl
theorem tw_1_211 : Cond.methodLink "GemCut" 245 yX3_forgetCells ∈ TB := tb1 211 rfl rfl
theorem tw_1_212 : Cond.instanceMethod yX3_forgetCells ∈ TB := tb1 212 rfl rfl
theorem tw_1_213 : Cond.selects "GemCut$Stone" yX3_forgetCells yX3_forgetCells ∈ TB := tb1 213 rfl rfl
theorem tw_1_214 : Cond.code yX3_forgetCells cX3_forgetCells 2 (Option.none : Option Jvm.ClassFile.FieldType) ∈ TB := tb1 214 rfl rfl
theorem tw_1_215 : Cond.methodLink "GemCut" 257 yX5_surveyCell ∈ TB := tb1 215 rfl rfl
theorem tw_1_217 : Cond.instanceMethod yX5_surveyCell ∈ TB := tb1 217 rfl rfl
theorem tw_1_218 : Cond.code yX5_surveyCell cX5_surveyCell 7 (Option.none : Option Jvm.ClassFile.FieldType) ∈ TB := tb1 218 rfl rfl
theorem tw_1_219 : Cond.methodLink "GemCut" 263 yX2_isBare ∈ TB := tb1 219 rfl rfl
theorem tw_1_220 : Cond.instanceMethod yX2_isBare ∈ TB := tb1 220 rfl rfl
theorem tw_1_221 : Cond.selects "GemCut$Rough" yX2_isBare yX2_isBare ∈ TB := tb1 221 rfl rfl
theorem tw_1_222 : Cond.code yX2_isBare cX2_isBare 5 (some FieldType.boolean) ∈ TB := tb1 222 rfl rfl
theorem tw_1_223 : Cond.methodLink "GemCut$Rough" 51 yX2_ownerAt ∈ TB := tb1 223 rfl rfl
theorem tw_1_224 : Cond.instanceMethod yX2_ownerAt ∈ TB := tb1 224 rfl rfl
theorem tw_1_225 : Cond.selects "GemCut$Rough" yX2_ownerAt yX2_ownerAt ∈ TB := tb1 225 rfl rfl
theorem tw_1_226 : Cond.code yX2_ownerAt cX2_ownerAt 4 (some FieldType.int) ∈ TB := tb1 226 rfl rfl
theorem tw_1_227 : Cond.methodLink "GemCut$Rough" 43 yX2_holds ∈ TB := tb1 227 rfl rfl
theorem tw_1_228 : Cond.instanceMethod yX2_holds ∈ TB := tb1 228 rfl rfl
theorem tw_1_229 : Cond.selects "GemCut$Rough" yX2_holds yX2_holds ∈ TB := tb1 229 rfl rfl
theorem tw_1_230 : Cond.code yX2_holds cX2_holds 4 (some FieldType.boolean) ∈ TB := tb1 230 rfl rfl
theorem tw_1_231 : Cond.methodLink "GemCut$Rough" 47 yX2_indexOf ∈ TB := tb1 231 rfl rfl
theorem tw_1_232 : Cond.instanceMethod yX2_indexOf ∈ TB := tb1 232 rfl rfl
theorem tw_1_233 : Cond.selects "GemCut$Rough" yX2_indexOf yX2_indexOf ∈ TB := tb1 233 rfl rfl
theorem tw_1_234 : Cond.code yX2_indexOf cX2_indexOf 4 (some FieldType.int) ∈ TB := tb1 234 rfl rfl
theorem tw_1_235 : Cond.methodLink "GemCut" 271 yX3_countCell ∈ TB := tb1 235 rfl rfl
theorem tw_1_236 : Cond.instanceMethod yX3_countCell ∈ TB := tb1 236 rfl rfl
theorem tw_1_237 : Cond.selects "GemCut$Stone" yX3_countCell yX3_countCell ∈ TB := tb1 237 rfl rfl
theorem tw_1_238 : Cond.code yX3_countCell cX3_countCell 6 (Option.none : Option Jvm.ClassFile.FieldType) ∈ TB := tb1 238 rfl rfl
theorem tw_1_239 : Cond.methodLink "GemCut$Stone" 34 yX1_touches ∈ TB := tb1 239 rfl rfl
theorem tw_2_0 : Cond.instanceMethod yX1_touches ∈ TB := tb2 0 rfl rfl
theorem tw_2_1 : Cond.selects "GemCut$Plane" yX1_touches yX1_touches ∈ TB := tb2 1 rfl rfl
theorem tw_2_2 : Cond.code yX1_touches cX1_touches 4 (some FieldType.boolean) ∈ TB := tb2 2 rfl rfl
theorem tw_2_3 : Cond.methodLink "GemCut$Plane" 42 yX1_heightOf ∈ TB := tb2 3 rfl rfl
theorem tw_2_4 : Cond.instanceMethod yX1_heightOf ∈ TB := tb2 4 rfl rfl
theorem tw_2_5 : Cond.selects "GemCut$Plane" yX1_heightOf yX1_heightOf ∈ TB := tb2 5 rfl rfl
theorem tw_2_6 : Cond.code yX1_heightOf cX1_heightOf 4 (some FieldType.int) ∈ TB := tb2 6 rfl rfl
theorem tw_2_7 : Cond.methodLink "GemCut" 260 yX0_survey ∈ TB := tb2 7 rfl rfl
theorem tw_2_8 : Cond.instanceMethod yX0_survey ∈ TB := tb2 8 rfl rfl
theorem tw_2_9 : Cond.selects "GemCut$Flaw" yX0_survey yX0_survey ∈ TB := tb2 9 rfl rfl
theorem tw_2_10 : Cond.code yX0_survey cX0_survey 5 (Option.none : Option Jvm.ClassFile.FieldType) ∈ TB := tb2 10 rfl rfl
theorem tw_2_11 : Cond.fieldLink "GemCut" 10 "GemCut" "rough" "LGemCut$Rough;" ∈ TB := tb2 11 rfl rfl
theorem tw_2_12 : Cond.fieldLink "GemCut" 18 "GemCut" "stones" "[LGemCut$Stone;" ∈ TB := tb2 12 rfl rfl
theorem tw_2_13 : Cond.fieldLink "GemCut" 30 "GemCut" "trial" "LGemCut$Trial;" ∈ TB := tb2 13 rfl rfl
theorem tw_2_14 : Cond.fieldLink "GemCut" 102 "GemCut" "stoneCount" "I" ∈ TB := tb2 14 rfl rfl
theorem tw_2_15 : Cond.fieldLink "GemCut" 122 "GemCut" "turns" "I" ∈ TB := tb2 15 rfl rfl
theorem tw_2_16 : Cond.fieldLink "GemCut" 242 "GemCut" "spent" "I" ∈ TB := tb2 16 rfl rfl
theorem tw_2_17 : Cond.laysFinal "GemCut" "GemCut" "rough" "LGemCut$Rough;" ∈ TB := tb2 17 rfl rfl
theorem tw_2_19 : Cond.laysFinal "GemCut" "GemCut" "stones" "[LGemCut$Stone;" ∈ TB := tb2 19 rfl rfl
theorem tw_2_21 : Cond.laysFinal "GemCut" "GemCut" "trial" "LGemCut$Trial;" ∈ TB := tb2 21 rfl rfl
theorem tw_2_23 : Cond.lays "GemCut" "GemCut" "stoneCount" "I" ∈ TB := tb2 23 rfl rfl
theorem tw_2_25 : Cond.lays "GemCut" "GemCut" "turns" "I" ∈ TB := tb2 25 rfl rfl
theorem tw_2_27 : Cond.lays "GemCut" "GemCut" "spent" "I" ∈ TB := tb2 27 rfl rfl
theorem tw_2_30 : Cond.methodLink "GemCutLaw" 97 yX5_dress ∈ TB := tb2 30 rfl rfl
theorem tw_2_31 : Cond.instanceMethod yX5_dress ∈ TB := tb2 31 rfl rfl
theorem tw_2_32 : Cond.selects "GemCut" yX5_dress yX5_dress ∈ TB := tb2 32 rfl rfl
theorem tw_2_33 : Cond.code yX5_dress cX5_dress 2 (some FieldType.int) ∈ TB := tb2 33 rfl rfl
theorem tw_2_34 : Cond.methodLink "GemCutLaw" 125 yX5_kept ∈ TB := tb2 34 rfl rfl
theorem tw_2_35 : Cond.instanceMethod yX5_kept ∈ TB := tb2 35 rfl rfl
theorem tw_2_36 : Cond.selects "GemCut" yX5_kept yX5_kept ∈ TB := tb2 36 rfl rfl
theorem tw_2_37 : Cond.code yX5_kept cX5_kept 2 (some FieldType.double) ∈ TB := tb2 37 rfl rfl
theorem tw_2_38 : Cond.methodLink "GemCut" 49 yX2_size ∈ TB := tb2 38 rfl rfl
theorem tw_2_39 : Cond.methodLink "GemCut" 200 yX5_cellsOfStones ∈ TB := tb2 39 rfl rfl
theorem tw_2_41 : Cond.instanceMethod yX5_cellsOfStones ∈ TB := tb2 41 rfl rfl
theorem tw_2_42 : Cond.code yX5_cellsOfStones cX5_cellsOfStones 3 (some FieldType.int) ∈ TB := tb2 42 rfl rfl
theorem tw_2_43 : Cond.methodLink "GemCutLaw" 130 yX5_digest ∈ TB := tb2 43 rfl rfl
theorem tw_2_44 : Cond.instanceMethod yX5_digest ∈ TB := tb2 44 rfl rfl
theorem tw_2_45 : Cond.selects "GemCut" yX5_digest yX5_digest ∈ TB := tb2 45 rfl rfl
theorem tw_2_46 : Cond.code yX5_digest cX5_digest 7 (some FieldType.long) ∈ TB := tb2 46 rfl rfl
theorem tw_2_47 : Cond.constantLong "GemCut" 203 (577) ∈ TB := tb2 47 rfl rfl
theorem tw_2_48 : Cond.constantLong "GemCut" 205 (31) ∈ TB := tb2 48 rfl rfl
theorem tw_2_49 : Cond.methodLink "GemCut" 167 yX5_tellCount ∈ TB := tb2 49 rfl rfl
theorem tw_2_51 : Cond.instanceMethod yX5_tellCount ∈ TB := tb2 51 rfl rfl
theorem tw_2_52 : Cond.code yX5_tellCount cX5_tellCount 2 (some FieldType.int) ∈ TB := tb2 52 rfl rfl
theorem tw_2_53 : Cond.methodLink "GemCut" 302 yX5_stonesLeft ∈ TB := tb2 53 rfl rfl
theorem tw_2_55 : Cond.instanceMethod yX5_stonesLeft ∈ TB := tb2 55 rfl rfl
theorem tw_2_56 : Cond.code yX5_stonesLeft cX5_stonesLeft 3 (some FieldType.int) ∈ TB := tb2 56 rfl rfl
theorem tw_2_57 : Cond.methodLink "GemCut" 305 yX5_worthOfStones ∈ TB := tb2 57 rfl rfl
theorem tw_2_59 : Cond.instanceMethod yX5_worthOfStones ∈ TB := tb2 59 rfl rfl
theorem tw_2_60 : Cond.code yX5_worthOfStones cX5_worthOfStones 3 (some FieldType.int) ∈ TB := tb2 60 rfl rfl
theorem tw_2_61 : Cond.methodLink "GemCut" 295 yX5_worthOf ∈ TB := tb2 61 rfl rfl
theorem tw_2_63 : Cond.instanceMethod yX5_worthOf ∈ TB := tb2 63 rfl rfl
theorem tw_2_64 : Cond.code yX5_worthOf cX5_worthOf 5 (some FieldType.int) ∈ TB := tb2 64 rfl rfl
theorem tw_2_65 : Cond.methodLink "GemCut" 191 yX0_stateIn ∈ TB := tb2 65 rfl rfl
theorem tw_2_66 : Cond.instanceMethod yX0_stateIn ∈ TB := tb2 66 rfl rfl
theorem tw_2_67 : Cond.selects "GemCut$Flaw" yX0_stateIn yX0_stateIn ∈ TB := tb2 67 rfl rfl
theorem tw_2_68 : Cond.code yX0_stateIn cX0_stateIn 2 (some FieldType.int) ∈ TB := tb2 68 rfl rfl
theorem tw_2_69 : Cond.methodLink "GemCut" 308 yX0_pointsIf ∈ TB := tb2 69 rfl rfl
theorem tw_2_70 : Cond.instanceMethod yX0_pointsIf ∈ TB := tb2 70 rfl rfl
theorem tw_2_71 : Cond.selects "GemCut$Flaw" yX0_pointsIf yX0_pointsIf ∈ TB := tb2 71 rfl rfl
theorem tw_2_72 : Cond.code yX0_pointsIf cX0_pointsIf 2 (some FieldType.int) ∈ TB := tb2 72 rfl rfl
theorem tw_2_73 : Cond.methodLink "GemCut" 281 yX3_facets ∈ TB := tb2 73 rfl rfl
theorem tw_2_74 : Cond.instanceMethod yX3_facets ∈ TB := tb2 74 rfl rfl
theorem tw_2_75 : Cond.selects "GemCut$Stone" yX3_facets yX3_facets ∈ TB := tb2 75 rfl rfl
theorem tw_2_76 : Cond.code yX3_facets cX3_facets 4 (some FieldType.int) ∈ TB := tb2 76 rfl rfl
theorem tw_2_77 : Cond.methodLink "GemCut$Stone" 42 yX1_isFacet ∈ TB := tb2 77 rfl rfl
theorem tw_2_78 : Cond.instanceMethod yX1_isFacet ∈ TB := tb2 78 rfl rfl
theorem tw_2_79 : Cond.selects "GemCut$Plane" yX1_isFacet yX1_isFacet ∈ TB := tb2 79 rfl rfl
theorem tw_2_80 : Cond.code yX1_isFacet cX1_isFacet 1 (some FieldType.boolean) ∈ TB := tb2 80 rfl rfl
theorem tw_2_81 : Cond.methodLink "GemCut" 285 yX3_oppositePairs ∈ TB := tb2 81 rfl rfl
theorem tw_2_82 : Cond.instanceMethod yX3_oppositePairs ∈ TB := tb2 82 rfl rfl
theorem tw_2_83 : Cond.selects "GemCut$Stone" yX3_oppositePairs yX3_oppositePairs ∈ TB := tb2 83 rfl rfl
theorem tw_2_84 : Cond.code yX3_oppositePairs cX3_oppositePairs 4 (some FieldType.int) ∈ TB := tb2 84 rfl rfl
theorem tw_2_85 : Cond.methodLink "GemCut$Stone" 50 yX1_isOpposite ∈ TB := tb2 85 rfl rfl
theorem tw_2_86 : Cond.instanceMethod yX1_isOpposite ∈ TB := tb2 86 rfl rfl
theorem tw_2_87 : Cond.selects "GemCut$Plane" yX1_isOpposite yX1_isOpposite ∈ TB := tb2 87 rfl rfl
theorem tw_2_88 : Cond.code yX1_isOpposite cX1_isOpposite 2 (some FieldType.boolean) ∈ TB := tb2 88 rfl rfl
theorem tw_2_89 : Cond.methodLink "GemCut" 311 yX5_worthBy ∈ TB := tb2 89 rfl rfl
theorem tw_2_90 : Cond.static yX5_worthBy ∈ TB := tb2 90 rfl rfl
theorem tw_2_91 : Cond.code yX5_worthBy cX5_worthBy 6 (some FieldType.int) ∈ TB := tb2 91 rfl rfl
theorem tw_2_92 : Cond.methodLink "GemCut" 315 ⟨"java/lang/Math", "max", "(II)I"⟩ ∈ TB := tb2 92 rfl rfl
theorem tw_2_93 : Cond.static ⟨"java/lang/Math", "max", "(II)I"⟩ ∈ TB := tb2 93 rfl rfl
theorem tw_2_94 : Cond.code ⟨"java/lang/Math", "max", "(II)I"⟩ prog_13_method_65_code 2 (some FieldType.int) ∈ TB := tb2 94 rfl rfl
theorem tw_2_95 : Cond.methodLink "GemCut" 211 yX5_addStone ∈ TB := tb2 95 rfl rfl
theorem tw_2_97 : Cond.instanceMethod yX5_addStone ∈ TB := tb2 97 rfl rfl
theorem tw_2_98 : Cond.code yX5_addStone cX5_addStone 8 (some FieldType.long) ∈ TB := tb2 98 rfl rfl
theorem tw_2_99 : Cond.methodLink "GemCut" 156 yX5_tellOfStone ∈ TB := tb2 99 rfl rfl
theorem tw_2_101 : Cond.instanceMethod yX5_tellOfStone ∈ TB := tb2 101 rfl rfl
theorem tw_2_102 : Cond.code yX5_tellOfStone cX5_tellOfStone 3 (some FieldType.int) ∈ TB := tb2 102 rfl rfl
theorem tw_2_103 : Cond.methodLink "GemCut" 291 yX5_flawsOfState ∈ TB := tb2 103 rfl rfl
theorem tw_2_105 : Cond.instanceMethod yX5_flawsOfState ∈ TB := tb2 105 rfl rfl
theorem tw_2_106 : Cond.code yX5_flawsOfState cX5_flawsOfState 5 (some FieldType.int) ∈ TB := tb2 106 rfl rfl
theorem tw_2_107 : Cond.methodLink "GemCut" 160 yX1_tell ∈ TB := tb2 107 rfl rfl
theorem tw_2_108 : Cond.instanceMethod yX1_tell ∈ TB := tb2 108 rfl rfl
theorem tw_2_109 : Cond.selects "GemCut$Plane" yX1_tell yX1_tell ∈ TB := tb2 109 rfl rfl
theorem tw_2_110 : Cond.code yX1_tell cX1_tell 2 (some FieldType.int) ∈ TB := tb2 110 rfl rfl
theorem tw_2_111 : Cond.methodLink "GemCut" 85 yX5_tellOfFlaw ∈ TB := tb2 111 rfl rfl
theorem tw_2_113 : Cond.instanceMethod yX5_tellOfFlaw ∈ TB := tb2 113 rfl rfl
theorem tw_2_114 : Cond.code yX5_tellOfFlaw cX5_tellOfFlaw 5 (some FieldType.int) ∈ TB := tb2 114 rfl rfl
theorem tw_2_115 : Cond.methodLink "GemCutLaw" 67 yL_take ∈ TB := tb2 115 rfl rfl
theorem tw_2_116 : Cond.static yL_take ∈ TB := tb2 116 rfl rfl
theorem tw_2_117 : Cond.codeWith yL_take cL_take 6 (some FieldType.int) [(0, 12, 15, 13)] ∈ TB := tb2 117 rfl rfl
theorem tw_2_118 : Cond.classLink "GemCutLaw" 13 "java/lang/IllegalArgumentException" ∈ TB := tb2 118 rfl rfl
theorem tw_2_119 : Cond.methodLink "GemCutLaw" 7 yX5_take ∈ TB := tb2 119 rfl rfl
theorem tw_2_120 : Cond.instanceMethod yX5_take ∈ TB := tb2 120 rfl rfl
theorem tw_2_121 : Cond.selects "GemCut" yX5_take yX5_take ∈ TB := tb2 121 rfl rfl
theorem tw_2_122 : Cond.code yX5_take cX5_take 4 (some FieldType.int) ∈ TB := tb2 122 rfl rfl
theorem tw_2_123 : Cond.methodLink "GemCut" 38 yX5_isSide ∈ TB := tb2 123 rfl rfl
theorem tw_2_124 : Cond.static yX5_isSide ∈ TB := tb2 124 rfl rfl
theorem tw_2_125 : Cond.code yX5_isSide cX5_isSide 1 (some FieldType.boolean) ∈ TB := tb2 125 rfl rfl
theorem tw_2_126 : Cond.classLink "GemCut" 42 "java/lang/IllegalArgumentException" ∈ TB := tb2 126 rfl rfl
theorem tw_2_127 : Cond.instantiable "java/lang/IllegalArgumentException" 6 ∈ TB := tb2 127 rfl rfl
theorem tw_2_135 : Cond.selects "java/lang/IllegalArgumentException" ⟨"java/lang/Throwable", "fillInStackTrace", "(I)Ljava/lang/Throwable;"⟩ ⟨"java/lang/Throwable", "fillInStackTrace", "(I)Ljava/lang/Throwable;"⟩ ∈ TB := tb2 135 rfl rfl
theorem tw_2_136 : Cond.selects "java/lang/IllegalArgumentException" ⟨"java/lang/Throwable", "fillInStackTrace", "()Ljava/lang/Throwable;"⟩ ⟨"java/lang/Throwable", "fillInStackTrace", "()Ljava/lang/Throwable;"⟩ ∈ TB := tb2 136 rfl rfl
theorem tw_2_137 : Cond.lays "java/lang/IllegalArgumentException" "java/lang/Throwable" "cause" "Ljava/lang/Throwable;" ∈ TB := tb2 137 rfl rfl
theorem tw_2_138 : Cond.lays "java/lang/Throwable" "java/lang/Throwable" "cause" "Ljava/lang/Throwable;" ∈ TB := tb2 138 rfl rfl
theorem tw_2_139 : Cond.lays "java/lang/IllegalArgumentException" "java/lang/Throwable" "stackTrace" "[Ljava/lang/StackTraceElement;" ∈ TB := tb2 139 rfl rfl
theorem tw_2_140 : Cond.lays "java/lang/Throwable" "java/lang/Throwable" "stackTrace" "[Ljava/lang/StackTraceElement;" ∈ TB := tb2 140 rfl rfl
theorem tw_2_141 : Cond.lays "java/lang/IllegalArgumentException" "java/lang/Throwable" "suppressedExceptions" "Ljava/util/List;" ∈ TB := tb2 141 rfl rfl
theorem tw_2_142 : Cond.lays "java/lang/Throwable" "java/lang/Throwable" "suppressedExceptions" "Ljava/util/List;" ∈ TB := tb2 142 rfl rfl
theorem tw_2_143 : Cond.lays "java/lang/IllegalArgumentException" "java/lang/Throwable" "detailMessage" "Ljava/lang/String;" ∈ TB := tb2 143 rfl rfl
theorem tw_2_144 : Cond.lays "java/lang/Throwable" "java/lang/Throwable" "detailMessage" "Ljava/lang/String;" ∈ TB := tb2 144 rfl rfl
theorem tw_2_145 : Cond.lays "java/lang/IllegalArgumentException" "java/lang/Throwable" "backtrace" "Ljava/lang/Object;" ∈ TB := tb2 145 rfl rfl
theorem tw_2_146 : Cond.lays "java/lang/Throwable" "java/lang/Throwable" "backtrace" "Ljava/lang/Object;" ∈ TB := tb2 146 rfl rfl
theorem tw_2_147 : Cond.fieldLink "java/lang/Throwable" 198 "java/lang/Throwable" "backtrace" "Ljava/lang/Object;" ∈ TB := tb2 147 rfl rfl
theorem tw_2_149 : Cond.instanceMethod ⟨"java/lang/Throwable", "<init>", "()V"⟩ ∈ TB := tb2 149 rfl rfl
theorem tw_2_150 : Cond.code ⟨"java/lang/Throwable", "<init>", "()V"⟩ prog_17_method_1_code 1 (Option.none : Option Jvm.ClassFile.FieldType) ∈ TB := tb2 150 rfl rfl
theorem tw_2_151 : Cond.methodLink "java/lang/Throwable" 1 ⟨"java/lang/Object", "<init>", "()V"⟩ ∈ TB := tb2 151 rfl rfl
theorem tw_2_152 : Cond.fieldLink "java/lang/Throwable" 13 "java/lang/Throwable" "UNASSIGNED_STACK" "[Ljava/lang/StackTraceElement;" ∈ TB := tb2 152 rfl rfl
theorem tw_2_154 : Cond.fieldLink "java/lang/Throwable" 20 "java/lang/Throwable" "SUPPRESSED_SENTINEL" "Ljava/util/List;" ∈ TB := tb2 154 rfl rfl
theorem tw_2_156 : Cond.methodLink "java/lang/Throwable" 27 ⟨"java/lang/Throwable", "fillInStackTrace", "()Ljava/lang/Throwable;"⟩ ∈ TB := tb2 156 rfl rfl
theorem tw_2_157 : Cond.instanceMethod ⟨"java/lang/Throwable", "fillInStackTrace", "()Ljava/lang/Throwable;"⟩ ∈ TB := tb2 157 rfl rfl
theorem tw_2_159 : Cond.selects "java/lang/IllegalStateException" ⟨"java/lang/Throwable", "fillInStackTrace", "()Ljava/lang/Throwable;"⟩ ⟨"java/lang/Throwable", "fillInStackTrace", "()Ljava/lang/Throwable;"⟩ ∈ TB := tb2 159 rfl rfl
theorem tw_2_160 : Cond.selects "java/lang/IndexOutOfBoundsException" ⟨"java/lang/Throwable", "fillInStackTrace", "()Ljava/lang/Throwable;"⟩ ⟨"java/lang/Throwable", "fillInStackTrace", "()Ljava/lang/Throwable;"⟩ ∈ TB := tb2 160 rfl rfl
theorem tw_2_162 : Cond.methodLink "java/lang/Throwable" 202 ⟨"java/lang/Throwable", "fillInStackTrace", "(I)Ljava/lang/Throwable;"⟩ ∈ TB := tb2 162 rfl rfl
theorem tw_2_164 : Cond.instanceMethod ⟨"java/lang/Throwable", "fillInStackTrace", "(I)Ljava/lang/Throwable;"⟩ ∈ TB := tb2 164 rfl rfl
theorem tw_2_165 : Cond.instantiable "java/lang/Throwable" 6 ∈ TB := tb2 165 rfl rfl
theorem tw_2_168 : Cond.methodLink "GemCut" 46 ⟨"java/lang/IllegalArgumentException", "<init>", "(Ljava/lang/String;)V"⟩ ∈ TB := tb2 168 rfl rfl
theorem tw_2_169 : Cond.instanceMethod ⟨"java/lang/IllegalArgumentException", "<init>", "(Ljava/lang/String;)V"⟩ ∈ TB := tb2 169 rfl rfl
theorem tw_2_170 : Cond.code ⟨"java/lang/IllegalArgumentException", "<init>", "(Ljava/lang/String;)V"⟩ prog_10_method_2_code 2 (Option.none : Option Jvm.ClassFile.FieldType) ∈ TB := tb2 170 rfl rfl
theorem tw_2_171 : Cond.methodLink "java/lang/IllegalArgumentException" 7 ⟨"java/lang/RuntimeException", "<init>", "(Ljava/lang/String;)V"⟩ ∈ TB := tb2 171 rfl rfl
theorem tw_2_172 : Cond.instanceMethod ⟨"java/lang/RuntimeException", "<init>", "(Ljava/lang/String;)V"⟩ ∈ TB := tb2 172 rfl rfl
theorem tw_2_173 : Cond.code ⟨"java/lang/RuntimeException", "<init>", "(Ljava/lang/String;)V"⟩ prog_14_method_2_code 2 (Option.none : Option Jvm.ClassFile.FieldType) ∈ TB := tb2 173 rfl rfl
theorem tw_2_174 : Cond.methodLink "java/lang/RuntimeException" 7 ⟨"java/lang/Exception", "<init>", "(Ljava/lang/String;)V"⟩ ∈ TB := tb2 174 rfl rfl
theorem tw_2_175 : Cond.instanceMethod ⟨"java/lang/Exception", "<init>", "(Ljava/lang/String;)V"⟩ ∈ TB := tb2 175 rfl rfl
theorem tw_2_176 : Cond.code ⟨"java/lang/Exception", "<init>", "(Ljava/lang/String;)V"⟩ prog_9_method_2_code 2 (Option.none : Option Jvm.ClassFile.FieldType) ∈ TB := tb2 176 rfl rfl
theorem tw_2_177 : Cond.methodLink "java/lang/Exception" 7 ⟨"java/lang/Throwable", "<init>", "(Ljava/lang/String;)V"⟩ ∈ TB := tb2 177 rfl rfl
theorem tw_2_178 : Cond.instanceMethod ⟨"java/lang/Throwable", "<init>", "(Ljava/lang/String;)V"⟩ ∈ TB := tb2 178 rfl rfl
theorem tw_2_179 : Cond.code ⟨"java/lang/Throwable", "<init>", "(Ljava/lang/String;)V"⟩ prog_17_method_2_code 2 (Option.none : Option Jvm.ClassFile.FieldType) ∈ TB := tb2 179 rfl rfl
theorem tw_2_181 : Cond.fieldLink "java/lang/Throwable" 31 "java/lang/Throwable" "detailMessage" "Ljava/lang/String;" ∈ TB := tb2 181 rfl rfl
theorem tw_2_182 : Cond.fieldLink "java/lang/Throwable" 7 "java/lang/Throwable" "cause" "Ljava/lang/Throwable;" ∈ TB := tb2 182 rfl rfl
theorem tw_2_183 : Cond.fieldLink "java/lang/Throwable" 17 "java/lang/Throwable" "stackTrace" "[Ljava/lang/StackTraceElement;" ∈ TB := tb2 183 rfl rfl
theorem tw_2_184 : Cond.fieldLink "java/lang/Throwable" 24 "java/lang/Throwable" "suppressedExceptions" "Ljava/util/List;" ∈ TB := tb2 184 rfl rfl
theorem tw_2_189 : Cond.lays "java/lang/IllegalArgumentException" "java/lang/Throwable" "depth" "I" ∈ TB := tb2 189 rfl rfl
theorem tw_2_194 : Cond.methodLink "GemCutLaw" 77 yL_flaw ∈ TB := tb2 194 rfl rfl
theorem tw_2_195 : Cond.static yL_flaw ∈ TB := tb2 195 rfl rfl
theorem tw_2_196 : Cond.codeWith yL_flaw cL_flaw 8 (some FieldType.int) [(0, 16, 19, 19), (0, 16, 23, 13), (0, 16, 27, 21)] ∈ TB := tb2 196 rfl rfl
theorem tw_2_197 : Cond.classLink "GemCutLaw" 19 "java/lang/IndexOutOfBoundsException" ∈ TB := tb2 197 rfl rfl
theorem tw_2_198 : Cond.classLink "GemCutLaw" 21 "java/lang/IllegalStateException" ∈ TB := tb2 198 rfl rfl
theorem tw_2_199 : Cond.methodLink "GemCutLaw" 15 yX5_flaw ∈ TB := tb2 199 rfl rfl
theorem tw_2_200 : Cond.instanceMethod yX5_flaw ∈ TB := tb2 200 rfl rfl
theorem tw_2_201 : Cond.selects "GemCut" yX5_flaw yX5_flaw ∈ TB := tb2 201 rfl rfl
theorem tw_2_202 : Cond.code yX5_flaw cX5_flaw 6 (some FieldType.int) ∈ TB := tb2 202 rfl rfl
theorem tw_2_203 : Cond.methodLink "GemCut" 53 yX5_wantCell ∈ TB := tb2 203 rfl rfl
theorem tw_2_205 : Cond.instanceMethod yX5_wantCell ∈ TB := tb2 205 rfl rfl
theorem tw_2_206 : Cond.code yX5_wantCell cX5_wantCell 4 (Option.none : Option Jvm.ClassFile.FieldType) ∈ TB := tb2 206 rfl rfl
theorem tw_2_207 : Cond.methodLink "GemCut" 215 yX2_holds ∈ TB := tb2 207 rfl rfl
theorem tw_2_208 : Cond.classLink "GemCut" 219 "java/lang/IndexOutOfBoundsException" ∈ TB := tb2 208 rfl rfl
theorem tw_2_209 : Cond.instantiable "java/lang/IndexOutOfBoundsException" 6 ∈ TB := tb2 209 rfl rfl
theorem tw_2_211 : Cond.selects "java/lang/IndexOutOfBoundsException" ⟨"java/lang/Throwable", "fillInStackTrace", "(I)Ljava/lang/Throwable;"⟩ ⟨"java/lang/Throwable", "fillInStackTrace", "(I)Ljava/lang/Throwable;"⟩ ∈ TB := tb2 211 rfl rfl
theorem tw_2_212 : Cond.lays "java/lang/IndexOutOfBoundsException" "java/lang/Throwable" "cause" "Ljava/lang/Throwable;" ∈ TB := tb2 212 rfl rfl
theorem tw_2_213 : Cond.lays "java/lang/IndexOutOfBoundsException" "java/lang/Throwable" "stackTrace" "[Ljava/lang/StackTraceElement;" ∈ TB := tb2 213 rfl rfl
theorem tw_2_214 : Cond.lays "java/lang/IndexOutOfBoundsException" "java/lang/Throwable" "suppressedExceptions" "Ljava/util/List;" ∈ TB := tb2 214 rfl rfl
theorem tw_2_215 : Cond.lays "java/lang/IndexOutOfBoundsException" "java/lang/Throwable" "detailMessage" "Ljava/lang/String;" ∈ TB := tb2 215 rfl rfl
theorem tw_2_216 : Cond.lays "java/lang/IndexOutOfBoundsException" "java/lang/Throwable" "backtrace" "Ljava/lang/Object;" ∈ TB := tb2 216 rfl rfl
theorem tw_2_218 : Cond.methodLink "GemCut" 223 ⟨"java/lang/IndexOutOfBoundsException", "<init>", "(Ljava/lang/String;)V"⟩ ∈ TB := tb2 218 rfl rfl
theorem tw_2_219 : Cond.instanceMethod ⟨"java/lang/IndexOutOfBoundsException", "<init>", "(Ljava/lang/String;)V"⟩ ∈ TB := tb2 219 rfl rfl
theorem tw_2_220 : Cond.code ⟨"java/lang/IndexOutOfBoundsException", "<init>", "(Ljava/lang/String;)V"⟩ prog_12_method_2_code 2 (Option.none : Option Jvm.ClassFile.FieldType) ∈ TB := tb2 220 rfl rfl
theorem tw_2_221 : Cond.methodLink "java/lang/IndexOutOfBoundsException" 7 ⟨"java/lang/RuntimeException", "<init>", "(Ljava/lang/String;)V"⟩ ∈ TB := tb2 221 rfl rfl
theorem tw_2_222 : Cond.lays "java/lang/IndexOutOfBoundsException" "java/lang/Throwable" "depth" "I" ∈ TB := tb2 222 rfl rfl
theorem tw_2_225 : Cond.classLink "GemCut" 62 "java/lang/IllegalStateException" ∈ TB := tb2 225 rfl rfl
theorem tw_2_226 : Cond.instantiable "java/lang/IllegalStateException" 6 ∈ TB := tb2 226 rfl rfl
theorem tw_2_228 : Cond.selects "java/lang/IllegalStateException" ⟨"java/lang/Throwable", "fillInStackTrace", "(I)Ljava/lang/Throwable;"⟩ ⟨"java/lang/Throwable", "fillInStackTrace", "(I)Ljava/lang/Throwable;"⟩ ∈ TB := tb2 228 rfl rfl
theorem tw_2_229 : Cond.lays "java/lang/IllegalStateException" "java/lang/Throwable" "cause" "Ljava/lang/Throwable;" ∈ TB := tb2 229 rfl rfl
theorem tw_2_230 : Cond.lays "java/lang/IllegalStateException" "java/lang/Throwable" "stackTrace" "[Ljava/lang/StackTraceElement;" ∈ TB := tb2 230 rfl rfl
theorem tw_2_231 : Cond.lays "java/lang/IllegalStateException" "java/lang/Throwable" "suppressedExceptions" "Ljava/util/List;" ∈ TB := tb2 231 rfl rfl
theorem tw_2_232 : Cond.lays "java/lang/IllegalStateException" "java/lang/Throwable" "detailMessage" "Ljava/lang/String;" ∈ TB := tb2 232 rfl rfl
theorem tw_2_233 : Cond.lays "java/lang/IllegalStateException" "java/lang/Throwable" "backtrace" "Ljava/lang/Object;" ∈ TB := tb2 233 rfl rfl
theorem tw_2_235 : Cond.methodLink "GemCut" 66 ⟨"java/lang/IllegalStateException", "<init>", "(Ljava/lang/String;)V"⟩ ∈ TB := tb2 235 rfl rfl
theorem tw_2_236 : Cond.instanceMethod ⟨"java/lang/IllegalStateException", "<init>", "(Ljava/lang/String;)V"⟩ ∈ TB := tb2 236 rfl rfl
theorem tw_2_237 : Cond.code ⟨"java/lang/IllegalStateException", "<init>", "(Ljava/lang/String;)V"⟩ prog_11_method_2_code 2 (Option.none : Option Jvm.ClassFile.FieldType) ∈ TB := tb2 237 rfl rfl
theorem tw_2_238 : Cond.methodLink "java/lang/IllegalStateException" 7 ⟨"java/lang/RuntimeException", "<init>", "(Ljava/lang/String;)V"⟩ ∈ TB := tb2 238 rfl rfl
theorem tw_2_239 : Cond.lays "java/lang/IllegalStateException" "java/lang/Throwable" "depth" "I" ∈ TB := tb2 239 rfl rfl
theorem tw_3_1 : Cond.methodLink "GemCut" 67 yX2_addFlaw ∈ TB := tb3 1 rfl rfl
theorem tw_3_2 : Cond.instanceMethod yX2_addFlaw ∈ TB := tb3 2 rfl rfl
theorem tw_3_3 : Cond.selects "GemCut$Rough" yX2_addFlaw yX2_addFlaw ∈ TB := tb3 3 rfl rfl
theorem tw_3_4 : Cond.code yX2_addFlaw cX2_addFlaw 11 (Option.none : Option Jvm.ClassFile.FieldType) ∈ TB := tb3 4 rfl rfl
theorem tw_3_5 : Cond.methodLink "GemCut$Rough" 54 yX0_begin ∈ TB := tb3 5 rfl rfl
theorem tw_3_6 : Cond.instanceMethod yX0_begin ∈ TB := tb3 6 rfl rfl
theorem tw_3_7 : Cond.selects "GemCut$Flaw" yX0_begin yX0_begin ∈ TB := tb3 7 rfl rfl
theorem tw_3_8 : Cond.code yX0_begin cX0_begin 2 (Option.none : Option Jvm.ClassFile.FieldType) ∈ TB := tb3 8 rfl rfl
theorem tw_3_9 : Cond.methodLink "GemCut$Rough" 58 ⟨"java/lang/Math", "abs", "(I)I"⟩ ∈ TB := tb3 9 rfl rfl
theorem tw_3_10 : Cond.static ⟨"java/lang/Math", "abs", "(I)I"⟩ ∈ TB := tb3 10 rfl rfl
theorem tw_3_11 : Cond.code ⟨"java/lang/Math", "abs", "(I)I"⟩ prog_13_method_59_code 1 (some FieldType.int) ∈ TB := tb3 11 rfl rfl
theorem tw_3_12 : Cond.methodLink "GemCut$Rough" 64 yX0_addCell ∈ TB := tb3 12 rfl rfl
theorem tw_3_13 : Cond.instanceMethod yX0_addCell ∈ TB := tb3 13 rfl rfl
theorem tw_3_14 : Cond.selects "GemCut$Flaw" yX0_addCell yX0_addCell ∈ TB := tb3 14 rfl rfl
theorem tw_3_15 : Cond.code yX0_addCell cX0_addCell 2 (Option.none : Option Jvm.ClassFile.FieldType) ∈ TB := tb3 15 rfl rfl
theorem tw_3_16 : Cond.methodLink "GemCut$Rough" 67 yX0_survey ∈ TB := tb3 16 rfl rfl
theorem tw_3_17 : Cond.methodLink "GemCutLaw" 81 yL_cell ∈ TB := tb3 17 rfl rfl
theorem tw_3_18 : Cond.static yL_cell ∈ TB := tb3 18 rfl rfl
theorem tw_3_19 : Cond.codeWith yL_cell cL_cell 6 (some FieldType.int) [(0, 12, 15, 19)] ∈ TB := tb3 19 rfl rfl
theorem tw_3_20 : Cond.methodLink "GemCutLaw" 23 yX5_cell ∈ TB := tb3 20 rfl rfl
theorem tw_3_21 : Cond.instanceMethod yX5_cell ∈ TB := tb3 21 rfl rfl
theorem tw_3_22 : Cond.selects "GemCut" yX5_cell yX5_cell ∈ TB := tb3 22 rfl rfl
theorem tw_3_23 : Cond.code yX5_cell cX5_cell 4 (some FieldType.int) ∈ TB := tb3 23 rfl rfl
theorem tw_3_24 : Cond.methodLink "GemCut" 71 yX2_ownerAt ∈ TB := tb3 24 rfl rfl
theorem tw_3_25 : Cond.methodLink "GemCutLaw" 84 yL_flawIn ∈ TB := tb3 25 rfl rfl
theorem tw_3_26 : Cond.static yL_flawIn ∈ TB := tb3 26 rfl rfl
theorem tw_3_27 : Cond.codeWith yL_flawIn cL_flawIn 6 (some FieldType.int) [(0, 12, 15, 19)] ∈ TB := tb3 27 rfl rfl
theorem tw_3_28 : Cond.methodLink "GemCutLaw" 26 yX5_flawIn ∈ TB := tb3 28 rfl rfl
theorem tw_3_29 : Cond.instanceMethod yX5_flawIn ∈ TB := tb3 29 rfl rfl
theorem tw_3_30 : Cond.selects "GemCut" yX5_flawIn yX5_flawIn ∈ TB := tb3 30 rfl rfl
theorem tw_3_31 : Cond.code yX5_flawIn cX5_flawIn 4 (some FieldType.int) ∈ TB := tb3 31 rfl rfl
theorem tw_3_32 : Cond.methodLink "GemCut" 75 yX5_wantFlaw ∈ TB := tb3 32 rfl rfl
theorem tw_3_34 : Cond.instanceMethod yX5_wantFlaw ∈ TB := tb3 34 rfl rfl
theorem tw_3_35 : Cond.code yX5_wantFlaw cX5_wantFlaw 2 (Option.none : Option Jvm.ClassFile.FieldType) ∈ TB := tb3 35 rfl rfl
theorem tw_3_37 : Cond.methodLink "GemCut" 78 yX5_wantStone ∈ TB := tb3 37 rfl rfl
theorem tw_3_39 : Cond.instanceMethod yX5_wantStone ∈ TB := tb3 39 rfl rfl
theorem tw_3_40 : Cond.code yX5_wantStone cX5_wantStone 2 (Option.none : Option Jvm.ClassFile.FieldType) ∈ TB := tb3 40 rfl rfl
theorem tw_3_42 : Cond.methodLink "GemCut" 81 yX5_wantWhat ∈ TB := tb3 42 rfl rfl
theorem tw_3_43 : Cond.static yX5_wantWhat ∈ TB := tb3 43 rfl rfl
theorem tw_3_44 : Cond.code yX5_wantWhat cX5_wantWhat 2 (Option.none : Option Jvm.ClassFile.FieldType) ∈ TB := tb3 44 rfl rfl
theorem tw_3_46 : Cond.methodLink "GemCutLaw" 87 yL_saw ∈ TB := tb3 46 rfl rfl
theorem tw_3_47 : Cond.static yL_saw ∈ TB := tb3 47 rfl rfl
theorem tw_3_48 : Cond.codeWith yL_saw cL_saw 8 (some FieldType.int) [(0, 16, 19, 19), (0, 16, 23, 13), (0, 16, 27, 21)] ∈ TB := tb3 48 rfl rfl
theorem tw_3_49 : Cond.methodLink "GemCutLaw" 29 yX5_saw ∈ TB := tb3 49 rfl rfl
theorem tw_3_50 : Cond.instanceMethod yX5_saw ∈ TB := tb3 50 rfl rfl
theorem tw_3_51 : Cond.selects "GemCut" yX5_saw yX5_saw ∈ TB := tb3 51 rfl rfl
theorem tw_3_52 : Cond.code yX5_saw cX5_saw 8 (some FieldType.int) ∈ TB := tb3 52 rfl rfl
theorem tw_3_53 : Cond.methodLink "GemCut" 88 yX5_wantSlope ∈ TB := tb3 53 rfl rfl
theorem tw_3_54 : Cond.static yX5_wantSlope ∈ TB := tb3 54 rfl rfl
theorem tw_3_55 : Cond.code yX5_wantSlope cX5_wantSlope 3 (Option.none : Option Jvm.ClassFile.FieldType) ∈ TB := tb3 55 rfl rfl
theorem tw_3_56 : Cond.methodLink "GemCut" 232 yX5_isSteepness ∈ TB := tb3 56 rfl rfl
theorem tw_3_57 : Cond.static yX5_isSteepness ∈ TB := tb3 57 rfl rfl
theorem tw_3_58 : Cond.code yX5_isSteepness cX5_isSteepness 1 (some FieldType.boolean) ∈ TB := tb3 58 rfl rfl
theorem tw_3_60 : Cond.methodLink "GemCut" 91 yX5_wantDepth ∈ TB := tb3 60 rfl rfl
theorem tw_3_61 : Cond.static yX5_wantDepth ∈ TB := tb3 61 rfl rfl
theorem tw_3_62 : Cond.code yX5_wantDepth cX5_wantDepth 1 (Option.none : Option Jvm.ClassFile.FieldType) ∈ TB := tb3 62 rfl rfl
theorem tw_3_64 : Cond.methodLink "GemCut" 94 yX4_level ∈ TB := tb3 64 rfl rfl
theorem tw_3_65 : Cond.instanceMethod yX4_level ∈ TB := tb3 65 rfl rfl
theorem tw_3_66 : Cond.selects "GemCut$Trial" yX4_level yX4_level ∈ TB := tb3 66 rfl rfl
theorem tw_3_67 : Cond.code yX4_level cX4_level 9 (Option.none : Option Jvm.ClassFile.FieldType) ∈ TB := tb3 67 rfl rfl
theorem tw_3_68 : Cond.methodLink "GemCut$Trial" 36 yX1_set ∈ TB := tb3 68 rfl rfl
theorem tw_3_69 : Cond.instanceMethod yX1_set ∈ TB := tb3 69 rfl rfl
theorem tw_3_70 : Cond.selects "GemCut$Plane" yX1_set yX1_set ∈ TB := tb3 70 rfl rfl
theorem tw_3_71 : Cond.code yX1_set cX1_set 5 (Option.none : Option Jvm.ClassFile.FieldType) ∈ TB := tb3 71 rfl rfl
theorem tw_3_72 : Cond.methodLink "GemCut$Plane" 22 ⟨"java/lang/Math", "abs", "(I)I"⟩ ∈ TB := tb3 72 rfl rfl
theorem tw_3_73 : Cond.methodLink "GemCut$Plane" 28 ⟨"java/lang/Math", "max", "(II)I"⟩ ∈ TB := tb3 73 rfl rfl
theorem tw_3_74 : Cond.methodLink "GemCut$Trial" 52 yX1_heightOf ∈ TB := tb3 74 rfl rfl
theorem tw_3_75 : Cond.methodLink "GemCut$Trial" 56 yX4_levelCell ∈ TB := tb3 75 rfl rfl
theorem tw_3_77 : Cond.instanceMethod yX4_levelCell ∈ TB := tb3 77 rfl rfl
theorem tw_3_78 : Cond.code yX4_levelCell cX4_levelCell 3 (Option.none : Option Jvm.ClassFile.FieldType) ∈ TB := tb3 78 rfl rfl
theorem tw_3_79 : Cond.methodLink "GemCut" 98 yX4_lossAt ∈ TB := tb3 79 rfl rfl
theorem tw_3_80 : Cond.instanceMethod yX4_lossAt ∈ TB := tb3 80 rfl rfl
theorem tw_3_81 : Cond.selects "GemCut$Trial" yX4_lossAt yX4_lossAt ∈ TB := tb3 81 rfl rfl
theorem tw_3_82 : Cond.code yX4_lossAt cX4_lossAt 2 (some FieldType.int) ∈ TB := tb3 82 rfl rfl
theorem tw_3_83 : Cond.methodLink "GemCut$Trial" 95 yX4_weightAt ∈ TB := tb3 83 rfl rfl
theorem tw_3_84 : Cond.instanceMethod yX4_weightAt ∈ TB := tb3 84 rfl rfl
theorem tw_3_85 : Cond.selects "GemCut$Trial" yX4_weightAt yX4_weightAt ∈ TB := tb3 85 rfl rfl
theorem tw_3_86 : Cond.code yX4_weightAt cX4_weightAt 2 (some FieldType.int) ∈ TB := tb3 86 rfl rfl
theorem tw_3_87 : Cond.methodLink "GemCut$Trial" 86 ⟨"java/lang/Math", "min", "(II)I"⟩ ∈ TB := tb3 87 rfl rfl
theorem tw_3_88 : Cond.static ⟨"java/lang/Math", "min", "(II)I"⟩ ∈ TB := tb3 88 rfl rfl
theorem tw_3_89 : Cond.code ⟨"java/lang/Math", "min", "(II)I"⟩ prog_13_method_69_code 2 (some FieldType.int) ∈ TB := tb3 89 rfl rfl
theorem tw_3_91 : Cond.methodLink "GemCut" 113 yX4_giveAbove ∈ TB := tb3 91 rfl rfl
theorem tw_3_92 : Cond.instanceMethod yX4_giveAbove ∈ TB := tb3 92 rfl rfl
theorem tw_3_93 : Cond.selects "GemCut$Trial" yX4_giveAbove yX4_giveAbove ∈ TB := tb3 93 rfl rfl
theorem tw_3_94 : Cond.code yX4_giveAbove cX4_giveAbove 5 (Option.none : Option Jvm.ClassFile.FieldType) ∈ TB := tb3 94 rfl rfl
theorem tw_3_95 : Cond.methodLink "GemCut$Trial" 99 yX2_size ∈ TB := tb3 95 rfl rfl
theorem tw_3_96 : Cond.methodLink "GemCutLaw" 90 yL_cut ∈ TB := tb3 96 rfl rfl
theorem tw_3_97 : Cond.static yL_cut ∈ TB := tb3 97 rfl rfl
theorem tw_3_98 : Cond.codeWith yL_cut cL_cut 8 (some FieldType.int) [(0, 16, 19, 19), (0, 16, 23, 13), (0, 16, 27, 21)] ∈ TB := tb3 98 rfl rfl
theorem tw_3_99 : Cond.methodLink "GemCutLaw" 32 yX5_cut ∈ TB := tb3 99 rfl rfl
theorem tw_3_100 : Cond.instanceMethod yX5_cut ∈ TB := tb3 100 rfl rfl
theorem tw_3_101 : Cond.selects "GemCut" yX5_cut yX5_cut ∈ TB := tb3 101 rfl rfl
theorem tw_3_102 : Cond.code yX5_cut cX5_cut 9 (some FieldType.int) ∈ TB := tb3 102 rfl rfl
theorem tw_3_104 : Cond.methodLink "GemCut" 127 yX3_keep ∈ TB := tb3 104 rfl rfl
theorem tw_3_105 : Cond.instanceMethod yX3_keep ∈ TB := tb3 105 rfl rfl
theorem tw_3_106 : Cond.selects "GemCut$Stone" yX3_keep yX3_keep ∈ TB := tb3 106 rfl rfl
theorem tw_3_107 : Cond.code yX3_keep cX3_keep 5 (Option.none : Option Jvm.ClassFile.FieldType) ∈ TB := tb3 107 rfl rfl
theorem tw_3_108 : Cond.methodLink "GemCut$Stone" 38 yX1_set ∈ TB := tb3 108 rfl rfl
theorem tw_3_109 : Cond.methodLink "GemCut" 131 yX5_spend ∈ TB := tb3 109 rfl rfl
theorem tw_3_111 : Cond.instanceMethod yX5_spend ∈ TB := tb3 111 rfl rfl
theorem tw_3_112 : Cond.code yX5_spend cX5_spend 2 (Option.none : Option Jvm.ClassFile.FieldType) ∈ TB := tb3 112 rfl rfl
theorem tw_3_113 : Cond.methodLink "GemCutLaw" 93 yL_polish ∈ TB := tb3 113 rfl rfl
theorem tw_3_114 : Cond.static yL_polish ∈ TB := tb3 114 rfl rfl
theorem tw_3_115 : Cond.codeWith yL_polish cL_polish 5 (some FieldType.int) [(0, 10, 13, 19), (0, 10, 17, 21)] ∈ TB := tb3 115 rfl rfl
theorem tw_3_116 : Cond.methodLink "GemCutLaw" 35 yX5_polish ∈ TB := tb3 116 rfl rfl
theorem tw_3_117 : Cond.instanceMethod yX5_polish ∈ TB := tb3 117 rfl rfl
theorem tw_3_118 : Cond.selects "GemCut" yX5_polish yX5_polish ∈ TB := tb3 118 rfl rfl
theorem tw_3_119 : Cond.code yX5_polish cX5_polish 5 (some FieldType.int) ∈ TB := tb3 119 rfl rfl
theorem tw_3_120 : Cond.methodLink "GemCut" 134 yX5_wantPlane ∈ TB := tb3 120 rfl rfl
theorem tw_3_122 : Cond.instanceMethod yX5_wantPlane ∈ TB := tb3 122 rfl rfl
theorem tw_3_123 : Cond.code yX5_wantPlane cX5_wantPlane 3 (Option.none : Option Jvm.ClassFile.FieldType) ∈ TB := tb3 123 rfl rfl
theorem tw_3_125 : Cond.methodLink "GemCut" 146 yX1_isFacet ∈ TB := tb3 125 rfl rfl
theorem tw_3_127 : Cond.methodLink "GemCutLaw" 101 yL_stone ∈ TB := tb3 127 rfl rfl
theorem tw_3_128 : Cond.static yL_stone ∈ TB := tb3 128 rfl rfl
theorem tw_3_129 : Cond.codeWith yL_stone cL_stone 5 (some FieldType.int) [(0, 10, 13, 19)] ∈ TB := tb3 129 rfl rfl
theorem tw_3_130 : Cond.methodLink "GemCutLaw" 39 yX5_stone ∈ TB := tb3 130 rfl rfl
theorem tw_3_131 : Cond.instanceMethod yX5_stone ∈ TB := tb3 131 rfl rfl
theorem tw_3_132 : Cond.selects "GemCut" yX5_stone yX5_stone ∈ TB := tb3 132 rfl rfl
theorem tw_3_133 : Cond.code yX5_stone cX5_stone 3 (some FieldType.int) ∈ TB := tb3 133 rfl rfl
theorem tw_3_134 : Cond.methodLink "GemCutLaw" 104 yL_plane ∈ TB := tb3 134 rfl rfl
theorem tw_3_135 : Cond.static yL_plane ∈ TB := tb3 135 rfl rfl
theorem tw_3_136 : Cond.codeWith yL_plane cL_plane 6 (some FieldType.int) [(0, 12, 15, 19)] ∈ TB := tb3 136 rfl rfl
theorem tw_3_137 : Cond.methodLink "GemCutLaw" 42 yX5_plane ∈ TB := tb3 137 rfl rfl
theorem tw_3_138 : Cond.instanceMethod yX5_plane ∈ TB := tb3 138 rfl rfl
theorem tw_3_139 : Cond.selects "GemCut" yX5_plane yX5_plane ∈ TB := tb3 139 rfl rfl
theorem tw_3_140 : Cond.code yX5_plane cX5_plane 4 (some FieldType.int) ∈ TB := tb3 140 rfl rfl
theorem tw_3_141 : Cond.methodLink "GemCutLaw" 107 yL_angle ∈ TB := tb3 141 rfl rfl
theorem tw_3_142 : Cond.static yL_angle ∈ TB := tb3 142 rfl rfl
theorem tw_3_143 : Cond.codeWith yL_angle cL_angle 6 (some FieldType.int) [(0, 12, 15, 19)] ∈ TB := tb3 143 rfl rfl
theorem tw_3_144 : Cond.methodLink "GemCutLaw" 45 yX5_angle ∈ TB := tb3 144 rfl rfl
theorem tw_3_145 : Cond.instanceMethod yX5_angle ∈ TB := tb3 145 rfl rfl
theorem tw_3_146 : Cond.selects "GemCut" yX5_angle yX5_angle ∈ TB := tb3 146 rfl rfl
theorem tw_3_147 : Cond.code yX5_angle cX5_angle 4 (some FieldType.int) ∈ TB := tb3 147 rfl rfl
theorem tw_3_148 : Cond.methodLink "GemCut" 163 yX1_angleTo ∈ TB := tb3 148 rfl rfl
theorem tw_3_149 : Cond.instanceMethod yX1_angleTo ∈ TB := tb3 149 rfl rfl
theorem tw_3_150 : Cond.selects "GemCut$Plane" yX1_angleTo yX1_angleTo ∈ TB := tb3 150 rfl rfl
theorem tw_3_151 : Cond.code yX1_angleTo cX1_angleTo 5 (some FieldType.int) ∈ TB := tb3 151 rfl rfl
theorem tw_3_152 : Cond.methodLink "GemCut$Plane" 46 yX1_productWith ∈ TB := tb3 152 rfl rfl
theorem tw_3_153 : Cond.instanceMethod yX1_productWith ∈ TB := tb3 153 rfl rfl
theorem tw_3_154 : Cond.selects "GemCut$Plane" yX1_productWith yX1_productWith ∈ TB := tb3 154 rfl rfl
theorem tw_3_155 : Cond.code yX1_productWith cX1_productWith 2 (some FieldType.int) ∈ TB := tb3 155 rfl rfl
theorem tw_3_156 : Cond.methodLink "GemCutLaw" 110 yL_count ∈ TB := tb3 156 rfl rfl
theorem tw_3_157 : Cond.static yL_count ∈ TB := tb3 157 rfl rfl
theorem tw_3_158 : Cond.codeWith yL_count cL_count 4 (some FieldType.int) [(0, 9, 12, 19)] ∈ TB := tb3 158 rfl rfl
theorem tw_3_159 : Cond.methodLink "GemCutLaw" 48 yX5_count ∈ TB := tb3 159 rfl rfl
theorem tw_3_160 : Cond.instanceMethod yX5_count ∈ TB := tb3 160 rfl rfl
theorem tw_3_161 : Cond.selects "GemCut" yX5_count yX5_count ∈ TB := tb3 161 rfl rfl
theorem tw_3_162 : Cond.code yX5_count cX5_count 2 (some FieldType.int) ∈ TB := tb3 162 rfl rfl
theorem tw_3_163 : Cond.methodLink "GemCutLaw" 114 yL_would ∈ TB := tb3 163 rfl rfl
theorem tw_3_164 : Cond.static yL_would ∈ TB := tb3 164 rfl rfl
theorem tw_3_165 : Cond.codeWith yL_would cL_would 9 (some FieldType.int) [(0, 18, 21, 19), (0, 18, 25, 13)] ∈ TB := tb3 165 rfl rfl
theorem tw_3_166 : Cond.methodLink "GemCutLaw" 52 yX5_would ∈ TB := tb3 166 rfl rfl
theorem tw_3_167 : Cond.instanceMethod yX5_would ∈ TB := tb3 167 rfl rfl
theorem tw_3_168 : Cond.selects "GemCut" yX5_would yX5_would ∈ TB := tb3 168 rfl rfl
theorem tw_3_169 : Cond.code yX5_would cX5_would 7 (some FieldType.int) ∈ TB := tb3 169 rfl rfl
theorem tw_3_170 : Cond.methodLink "GemCut" 170 yX4_aim ∈ TB := tb3 170 rfl rfl
theorem tw_3_171 : Cond.instanceMethod yX4_aim ∈ TB := tb3 171 rfl rfl
theorem tw_3_172 : Cond.selects "GemCut$Trial" yX4_aim yX4_aim ∈ TB := tb3 172 rfl rfl
theorem tw_3_173 : Cond.code yX4_aim cX4_aim 9 (Option.none : Option Jvm.ClassFile.FieldType) ∈ TB := tb3 173 rfl rfl
theorem tw_3_174 : Cond.methodLink "GemCut$Trial" 68 yX4_level ∈ TB := tb3 174 rfl rfl
theorem tw_3_175 : Cond.methodLink "GemCut$Trial" 72 yX4_lowerFloors ∈ TB := tb3 175 rfl rfl
theorem tw_3_177 : Cond.instanceMethod yX4_lowerFloors ∈ TB := tb3 177 rfl rfl
theorem tw_3_178 : Cond.code yX4_lowerFloors cX4_lowerFloors 6 (Option.none : Option Jvm.ClassFile.FieldType) ∈ TB := tb3 178 rfl rfl
theorem tw_3_179 : Cond.methodLink "GemCut$Trial" 82 yX1_touches ∈ TB := tb3 179 rfl rfl
theorem tw_3_180 : Cond.methodLink "GemCut" 173 yX4_worthAt ∈ TB := tb3 180 rfl rfl
theorem tw_3_181 : Cond.instanceMethod yX4_worthAt ∈ TB := tb3 181 rfl rfl
theorem tw_3_182 : Cond.selects "GemCut$Trial" yX4_worthAt yX4_worthAt ∈ TB := tb3 182 rfl rfl
theorem tw_3_183 : Cond.code yX4_worthAt cX4_worthAt 4 (some FieldType.int) ∈ TB := tb3 183 rfl rfl
theorem tw_3_184 : Cond.methodLink "GemCut$Trial" 140 yX4_stateAt ∈ TB := tb3 184 rfl rfl
theorem tw_3_185 : Cond.instanceMethod yX4_stateAt ∈ TB := tb3 185 rfl rfl
theorem tw_3_186 : Cond.selects "GemCut$Trial" yX4_stateAt yX4_stateAt ∈ TB := tb3 186 rfl rfl
theorem tw_3_187 : Cond.code yX4_stateAt cX4_stateAt 6 (some FieldType.int) ∈ TB := tb3 187 rfl rfl
theorem tw_3_188 : Cond.methodLink "GemCut$Trial" 144 yX0_pointsIf ∈ TB := tb3 188 rfl rfl
theorem tw_3_189 : Cond.methodLink "GemCut$Trial" 147 yX4_polishedAt ∈ TB := tb3 189 rfl rfl
theorem tw_3_190 : Cond.instanceMethod yX4_polishedAt ∈ TB := tb3 190 rfl rfl
theorem tw_3_191 : Cond.selects "GemCut$Trial" yX4_polishedAt yX4_polishedAt ∈ TB := tb3 191 rfl rfl
theorem tw_3_192 : Cond.code yX4_polishedAt cX4_polishedAt 4 (some FieldType.int) ∈ TB := tb3 192 rfl rfl
theorem tw_3_193 : Cond.methodLink "GemCut$Trial" 150 yX4_pairsAt ∈ TB := tb3 193 rfl rfl
theorem tw_3_194 : Cond.instanceMethod yX4_pairsAt ∈ TB := tb3 194 rfl rfl
theorem tw_3_195 : Cond.selects "GemCut$Trial" yX4_pairsAt yX4_pairsAt ∈ TB := tb3 195 rfl rfl
theorem tw_3_196 : Cond.code yX4_pairsAt cX4_pairsAt 5 (some FieldType.int) ∈ TB := tb3 196 rfl rfl
theorem tw_3_197 : Cond.methodLink "GemCut$Trial" 106 yX4_wouldBeFacet ∈ TB := tb3 197 rfl rfl
theorem tw_3_198 : Cond.instanceMethod yX4_wouldBeFacet ∈ TB := tb3 198 rfl rfl
theorem tw_3_199 : Cond.selects "GemCut$Trial" yX4_wouldBeFacet yX4_wouldBeFacet ∈ TB := tb3 199 rfl rfl
theorem tw_3_200 : Cond.code yX4_wouldBeFacet cX4_wouldBeFacet 2 (some FieldType.boolean) ∈ TB := tb3 200 rfl rfl
theorem tw_3_201 : Cond.methodLink "GemCut$Trial" 110 yX1_isOpposite ∈ TB := tb3 201 rfl rfl
theorem tw_3_202 : Cond.methodLink "GemCut$Trial" 114 yX4_laterOpposites ∈ TB := tb3 202 rfl rfl
theorem tw_3_204 : Cond.instanceMethod yX4_laterOpposites ∈ TB := tb3 204 rfl rfl
theorem tw_3_205 : Cond.code yX4_laterOpposites cX4_laterOpposites 5 (some FieldType.int) ∈ TB := tb3 205 rfl rfl
theorem tw_3_207 : Cond.methodLink "GemCut" 176 yX4_openFlawsAt ∈ TB := tb3 207 rfl rfl
theorem tw_3_208 : Cond.instanceMethod yX4_openFlawsAt ∈ TB := tb3 208 rfl rfl
theorem tw_3_209 : Cond.selects "GemCut$Trial" yX4_openFlawsAt yX4_openFlawsAt ∈ TB := tb3 209 rfl rfl
theorem tw_3_210 : Cond.code yX4_openFlawsAt cX4_openFlawsAt 4 (some FieldType.int) ∈ TB := tb3 210 rfl rfl
theorem tw_3_211 : Cond.methodLink "GemCut" 179 yX4_pairsAt ∈ TB := tb3 211 rfl rfl
theorem tw_3_212 : Cond.methodLink "GemCutLaw" 118 yL_depth ∈ TB := tb3 212 rfl rfl
theorem tw_3_213 : Cond.static yL_depth ∈ TB := tb3 213 rfl rfl
theorem tw_3_214 : Cond.codeWith yL_depth cL_depth 7 (some FieldType.int) [(0, 14, 17, 19), (0, 14, 21, 13), (0, 14, 25, 21)] ∈ TB := tb3 214 rfl rfl
theorem tw_3_215 : Cond.methodLink "GemCutLaw" 56 yX5_depth ∈ TB := tb3 215 rfl rfl
theorem tw_3_216 : Cond.instanceMethod yX5_depth ∈ TB := tb3 216 rfl rfl
theorem tw_3_217 : Cond.selects "GemCut" yX5_depth yX5_depth ∈ TB := tb3 217 rfl rfl
theorem tw_3_218 : Cond.code yX5_depth cX5_depth 5 (some FieldType.int) ∈ TB := tb3 218 rfl rfl
theorem tw_3_220 : Cond.methodLink "GemCut" 184 yX4_bestDepth ∈ TB := tb3 220 rfl rfl
theorem tw_3_221 : Cond.instanceMethod yX4_bestDepth ∈ TB := tb3 221 rfl rfl
theorem tw_3_222 : Cond.selects "GemCut$Trial" yX4_bestDepth yX4_bestDepth ∈ TB := tb3 222 rfl rfl
theorem tw_3_223 : Cond.code yX4_bestDepth cX4_bestDepth 5 (some FieldType.int) ∈ TB := tb3 223 rfl rfl
theorem tw_3_224 : Cond.methodLink "GemCut$Trial" 157 yX4_isWithin ∈ TB := tb3 224 rfl rfl
theorem tw_3_226 : Cond.instanceMethod yX4_isWithin ∈ TB := tb3 226 rfl rfl
theorem tw_3_227 : Cond.code yX4_isWithin cX4_isWithin 2 (some FieldType.boolean) ∈ TB := tb3 227 rfl rfl
theorem tw_3_228 : Cond.methodLink "GemCut$Trial" 160 yX4_worthAt ∈ TB := tb3 228 rfl rfl
theorem tw_3_229 : Cond.methodLink "GemCutLaw" 122 yL_rid ∈ TB := tb3 229 rfl rfl
theorem tw_3_230 : Cond.static yL_rid ∈ TB := tb3 230 rfl rfl
theorem tw_3_231 : Cond.codeWith yL_rid cL_rid 6 (some FieldType.int) [(0, 12, 15, 19)] ∈ TB := tb3 231 rfl rfl
theorem tw_3_232 : Cond.methodLink "GemCutLaw" 60 yX5_rid ∈ TB := tb3 232 rfl rfl
theorem tw_3_233 : Cond.instanceMethod yX5_rid ∈ TB := tb3 233 rfl rfl
theorem tw_3_234 : Cond.selects "GemCut" yX5_rid yX5_rid ∈ TB := tb3 234 rfl rfl
theorem tw_3_235 : Cond.code yX5_rid cX5_rid 5 (some FieldType.int) ∈ TB := tb3 235 rfl rfl
theorem tw_3_236 : Cond.methodLink "GemCut" 196 yX4_leastLoss ∈ TB := tb3 236 rfl rfl
theorem tw_3_237 : Cond.instanceMethod yX4_leastLoss ∈ TB := tb3 237 rfl rfl
theorem tw_3_238 : Cond.selects "GemCut$Trial" yX4_leastLoss yX4_leastLoss ∈ TB := tb3 238 rfl rfl
theorem tw_3_239 : Cond.code yX4_leastLoss cX4_leastLoss 12 (some FieldType.int) ∈ TB := tb3 239 rfl rfl
theorem tw_4_0 : Cond.methodLink "GemCut$Trial" 163 yX4_lowestOf ∈ TB := tb4 0 rfl rfl
theorem tw_4_2 : Cond.instanceMethod yX4_lowestOf ∈ TB := tb4 2 rfl rfl
theorem tw_4_3 : Cond.code yX4_lowestOf cX4_lowestOf 5 (some FieldType.int) ∈ TB := tb4 3 rfl rfl
theorem tw_4_4 : Cond.methodLink "GemCut$Trial" 167 yX4_lossAt ∈ TB := tb4 4 rfl rfl
theorem tw_4_5 : Cond.classLink "GemCutLaw" 64 "GemCutModel" ∈ TB := tb4 5 rfl rfl
theorem tw_4_6 : Cond.instantiable "GemCutModel" 12 ∈ TB := tb4 6 rfl rfl
theorem tw_4_7 : Cond.methodLink "GemCutLaw" 66 yX6_init ∈ TB := tb4 7 rfl rfl
theorem tw_4_8 : Cond.instanceMethod yX6_init ∈ TB := tb4 8 rfl rfl
theorem tw_4_9 : Cond.code yX6_init cX6_init 1 (Option.none : Option Jvm.ClassFile.FieldType) ∈ TB := tb4 9 rfl rfl
theorem tw_4_10 : Cond.methodLink "GemCutModel" 1 ⟨"java/lang/Object", "<init>", "()V"⟩ ∈ TB := tb4 10 rfl rfl
theorem tw_4_11 : Cond.methodLink "GemCutModel" 22 yX6_begin ∈ TB := tb4 11 rfl rfl
theorem tw_4_13 : Cond.instanceMethod yX6_begin ∈ TB := tb4 13 rfl rfl
theorem tw_4_14 : Cond.code yX6_begin cX6_begin 5 (Option.none : Option Jvm.ClassFile.FieldType) ∈ TB := tb4 14 rfl rfl
theorem tw_4_15 : Cond.methodLink "GemCutModel" 50 yX6_isCell ∈ TB := tb4 15 rfl rfl
theorem tw_4_17 : Cond.instanceMethod yX6_isCell ∈ TB := tb4 17 rfl rfl
theorem tw_4_18 : Cond.code yX6_isCell cX6_isCell 4 (some FieldType.boolean) ∈ TB := tb4 18 rfl rfl
theorem tw_4_19 : Cond.methodLink "GemCutModel" 33 yX6_isIn ∈ TB := tb4 19 rfl rfl
theorem tw_4_20 : Cond.static yX6_isIn ∈ TB := tb4 20 rfl rfl
theorem tw_4_21 : Cond.code yX6_isIn cX6_isIn 3 (some FieldType.boolean) ∈ TB := tb4 21 rfl rfl
theorem tw_4_22 : Cond.fieldLink "GemCutModel" 26 "GemCutModel" "thrown" "I" ∈ TB := tb4 22 rfl rfl
theorem tw_4_23 : Cond.fieldLink "GemCutModel" 30 "GemCutModel" "columns" "I" ∈ TB := tb4 23 rfl rfl
theorem tw_4_24 : Cond.fieldLink "GemCutModel" 37 "GemCutModel" "rows" "I" ∈ TB := tb4 24 rfl rfl
theorem tw_4_25 : Cond.fieldLink "GemCutModel" 40 "GemCutModel" "layers" "I" ∈ TB := tb4 25 rfl rfl
theorem tw_4_26 : Cond.fieldLink "GemCutModel" 9 "GemCutModel" "cells" "[I" ∈ TB := tb4 26 rfl rfl
theorem tw_4_27 : Cond.fieldLink "GemCutModel" 53 "GemCutModel" "flaws" "I" ∈ TB := tb4 27 rfl rfl
theorem tw_4_28 : Cond.fieldLink "GemCutModel" 13 "GemCutModel" "flawTable" "[I" ∈ TB := tb4 28 rfl rfl
theorem tw_4_29 : Cond.fieldLink "GemCutModel" 43 "GemCutModel" "stones" "I" ∈ TB := tb4 29 rfl rfl
theorem tw_4_30 : Cond.fieldLink "GemCutModel" 16 "GemCutModel" "planeTable" "[I" ∈ TB := tb4 30 rfl rfl
theorem tw_4_31 : Cond.fieldLink "GemCutModel" 19 "GemCutModel" "many" "[I" ∈ TB := tb4 31 rfl rfl
theorem tw_4_32 : Cond.fieldLink "GemCutModel" 56 "GemCutModel" "wheel" "I" ∈ TB := tb4 32 rfl rfl
theorem tw_4_33 : Cond.fieldLink "GemCutModel" 59 "GemCutModel" "spent" "I" ∈ TB := tb4 33 rfl rfl
theorem tw_4_34 : Cond.lays "GemCutModel" "GemCutModel" "thrown" "I" ∈ TB := tb4 34 rfl rfl
theorem tw_4_36 : Cond.lays "GemCutModel" "GemCutModel" "columns" "I" ∈ TB := tb4 36 rfl rfl
theorem tw_4_38 : Cond.lays "GemCutModel" "GemCutModel" "rows" "I" ∈ TB := tb4 38 rfl rfl
theorem tw_4_40 : Cond.lays "GemCutModel" "GemCutModel" "layers" "I" ∈ TB := tb4 40 rfl rfl
theorem tw_4_42 : Cond.laysFinal "GemCutModel" "GemCutModel" "cells" "[I" ∈ TB := tb4 42 rfl rfl
theorem tw_4_44 : Cond.lays "GemCutModel" "GemCutModel" "flaws" "I" ∈ TB := tb4 44 rfl rfl
theorem tw_4_46 : Cond.laysFinal "GemCutModel" "GemCutModel" "flawTable" "[I" ∈ TB := tb4 46 rfl rfl
theorem tw_4_48 : Cond.lays "GemCutModel" "GemCutModel" "stones" "I" ∈ TB := tb4 48 rfl rfl
theorem tw_4_50 : Cond.laysFinal "GemCutModel" "GemCutModel" "planeTable" "[I" ∈ TB := tb4 50 rfl rfl
theorem tw_4_52 : Cond.laysFinal "GemCutModel" "GemCutModel" "many" "[I" ∈ TB := tb4 52 rfl rfl
theorem tw_4_54 : Cond.lays "GemCutModel" "GemCutModel" "wheel" "I" ∈ TB := tb4 54 rfl rfl
theorem tw_4_56 : Cond.lays "GemCutModel" "GemCutModel" "spent" "I" ∈ TB := tb4 56 rfl rfl
theorem tw_4_59 : Cond.methodLink "GemCutLaw" 73 yX6_thrown ∈ TB := tb4 59 rfl rfl
theorem tw_4_60 : Cond.instanceMethod yX6_thrown ∈ TB := tb4 60 rfl rfl
theorem tw_4_61 : Cond.selects "GemCutModel" yX6_thrown yX6_thrown ∈ TB := tb4 61 rfl rfl
theorem tw_4_62 : Cond.code yX6_thrown cX6_thrown 1 (some FieldType.int) ∈ TB := tb4 62 rfl rfl
theorem tw_4_63 : Cond.methodLink "GemCutLaw" 72 yX6_take ∈ TB := tb4 63 rfl rfl
theorem tw_4_64 : Cond.instanceMethod yX6_take ∈ TB := tb4 64 rfl rfl
theorem tw_4_65 : Cond.selects "GemCutModel" yX6_take yX6_take ∈ TB := tb4 65 rfl rfl
theorem tw_4_66 : Cond.code yX6_take cX6_take 4 (some FieldType.int) ∈ TB := tb4 66 rfl rfl
theorem tw_4_67 : Cond.methodLink "GemCutModel" 62 yX6_fail ∈ TB := tb4 67 rfl rfl
theorem tw_4_69 : Cond.instanceMethod yX6_fail ∈ TB := tb4 69 rfl rfl
theorem tw_4_70 : Cond.code yX6_fail cX6_fail 2 (some FieldType.int) ∈ TB := tb4 70 rfl rfl
theorem tw_4_71 : Cond.methodLink "GemCutLaw" 80 yX6_flaw ∈ TB := tb4 71 rfl rfl
theorem tw_4_72 : Cond.instanceMethod yX6_flaw ∈ TB := tb4 72 rfl rfl
theorem tw_4_73 : Cond.selects "GemCutModel" yX6_flaw yX6_flaw ∈ TB := tb4 73 rfl rfl
theorem tw_4_74 : Cond.code yX6_flaw cX6_flaw 7 (some FieldType.int) ∈ TB := tb4 74 rfl rfl
theorem tw_4_75 : Cond.methodLink "GemCutModel" 66 ⟨"java/lang/System", "arraycopy", "(Ljava/lang/Object;ILjava/lang/Object;II)V"⟩ ∈ TB := tb4 75 rfl rfl
theorem tw_4_76 : Cond.static ⟨"java/lang/System", "arraycopy", "(Ljava/lang/Object;ILjava/lang/Object;II)V"⟩ ∈ TB := tb4 76 rfl rfl
theorem tw_4_78 : Cond.methodLink "GemCutLaw" 83 yX6_cell ∈ TB := tb4 78 rfl rfl
theorem tw_4_79 : Cond.instanceMethod yX6_cell ∈ TB := tb4 79 rfl rfl
theorem tw_4_80 : Cond.selects "GemCutModel" yX6_cell yX6_cell ∈ TB := tb4 80 rfl rfl
theorem tw_4_81 : Cond.code yX6_cell cX6_cell 4 (some FieldType.int) ∈ TB := tb4 81 rfl rfl
theorem tw_4_82 : Cond.methodLink "GemCutModel" 72 yX6_at ∈ TB := tb4 82 rfl rfl
theorem tw_4_83 : Cond.static yX6_at ∈ TB := tb4 83 rfl rfl
theorem tw_4_84 : Cond.code yX6_at cX6_at 3 (some FieldType.int) ∈ TB := tb4 84 rfl rfl
theorem tw_4_85 : Cond.methodLink "GemCutLaw" 86 yX6_flawIn ∈ TB := tb4 85 rfl rfl
theorem tw_4_86 : Cond.instanceMethod yX6_flawIn ∈ TB := tb4 86 rfl rfl
theorem tw_4_87 : Cond.selects "GemCutModel" yX6_flawIn yX6_flawIn ∈ TB := tb4 87 rfl rfl
theorem tw_4_88 : Cond.code yX6_flawIn cX6_flawIn 4 (some FieldType.int) ∈ TB := tb4 88 rfl rfl
theorem tw_4_89 : Cond.methodLink "GemCutModel" 46 yX6_isStone ∈ TB := tb4 89 rfl rfl
theorem tw_4_91 : Cond.instanceMethod yX6_isStone ∈ TB := tb4 91 rfl rfl
theorem tw_4_92 : Cond.code yX6_isStone cX6_isStone 2 (some FieldType.boolean) ∈ TB := tb4 92 rfl rfl
theorem tw_4_93 : Cond.methodLink "GemCutModel" 100 yX6_flawTold ∈ TB := tb4 93 rfl rfl
theorem tw_4_95 : Cond.instanceMethod yX6_flawTold ∈ TB := tb4 95 rfl rfl
theorem tw_4_96 : Cond.code yX6_flawTold cX6_flawTold 4 (some FieldType.int) ∈ TB := tb4 96 rfl rfl
theorem tw_4_97 : Cond.methodLink "GemCutModel" 96 yX6_flawCells ∈ TB := tb4 97 rfl rfl
theorem tw_4_99 : Cond.instanceMethod yX6_flawCells ∈ TB := tb4 99 rfl rfl
theorem tw_4_100 : Cond.code yX6_flawCells cX6_flawCells 6 (some FieldType.int) ∈ TB := tb4 100 rfl rfl
theorem tw_4_101 : Cond.methodLink "GemCutModel" 89 yX6_isFlawed ∈ TB := tb4 101 rfl rfl
theorem tw_4_103 : Cond.instanceMethod yX6_isFlawed ∈ TB := tb4 103 rfl rfl
theorem tw_4_104 : Cond.code yX6_isFlawed cX6_isFlawed 3 (some FieldType.boolean) ∈ TB := tb4 104 rfl rfl
theorem tw_4_105 : Cond.methodLink "GemCutModel" 80 yX6_fl ∈ TB := tb4 105 rfl rfl
theorem tw_4_107 : Cond.instanceMethod yX6_fl ∈ TB := tb4 107 rfl rfl
theorem tw_4_108 : Cond.code yX6_fl cX6_fl 3 (some FieldType.int) ∈ TB := tb4 108 rfl rfl
theorem tw_4_109 : Cond.methodLink "GemCutModel" 84 ⟨"java/lang/Math", "abs", "(I)I"⟩ ∈ TB := tb4 109 rfl rfl
theorem tw_4_110 : Cond.methodLink "GemCutModel" 93 yX6_isSurface ∈ TB := tb4 110 rfl rfl
theorem tw_4_112 : Cond.instanceMethod yX6_isSurface ∈ TB := tb4 112 rfl rfl
theorem tw_4_113 : Cond.code yX6_isSurface cX6_isSurface 6 (some FieldType.boolean) ∈ TB := tb4 113 rfl rfl
theorem tw_4_114 : Cond.methodLink "GemCutModel" 76 yX6_isOf ∈ TB := tb4 114 rfl rfl
theorem tw_4_116 : Cond.instanceMethod yX6_isOf ∈ TB := tb4 116 rfl rfl
theorem tw_4_117 : Cond.code yX6_isOf cX6_isOf 5 (some FieldType.boolean) ∈ TB := tb4 117 rfl rfl
theorem tw_4_118 : Cond.methodLink "GemCutLaw" 89 yX6_saw ∈ TB := tb4 118 rfl rfl
theorem tw_4_119 : Cond.instanceMethod yX6_saw ∈ TB := tb4 119 rfl rfl
theorem tw_4_120 : Cond.selects "GemCutModel" yX6_saw yX6_saw ∈ TB := tb4 120 rfl rfl
theorem tw_4_121 : Cond.code yX6_saw cX6_saw 8 (some FieldType.int) ∈ TB := tb4 121 rfl rfl
theorem tw_4_122 : Cond.methodLink "GemCutModel" 107 yX6_isTilt ∈ TB := tb4 122 rfl rfl
theorem tw_4_123 : Cond.static yX6_isTilt ∈ TB := tb4 123 rfl rfl
theorem tw_4_124 : Cond.code yX6_isTilt cX6_isTilt 4 (some FieldType.boolean) ∈ TB := tb4 124 rfl rfl
theorem tw_4_125 : Cond.methodLink "GemCutModel" 110 yX6_weight ∈ TB := tb4 125 rfl rfl
theorem tw_4_127 : Cond.instanceMethod yX6_weight ∈ TB := tb4 127 rfl rfl
theorem tw_4_128 : Cond.code yX6_weight cX6_weight 4 (some FieldType.int) ∈ TB := tb4 128 rfl rfl
theorem tw_4_129 : Cond.methodLink "GemCutModel" 113 yX6_turn ∈ TB := tb4 129 rfl rfl
theorem tw_4_131 : Cond.instanceMethod yX6_turn ∈ TB := tb4 131 rfl rfl
theorem tw_4_132 : Cond.code yX6_turn cX6_turn 9 (some FieldType.int) ∈ TB := tb4 132 rfl rfl
theorem tw_4_133 : Cond.methodLink "GemCutModel" 103 yX6_height ∈ TB := tb4 133 rfl rfl
theorem tw_4_134 : Cond.static yX6_height ∈ TB := tb4 134 rfl rfl
theorem tw_4_135 : Cond.code yX6_height cX6_height 4 (some FieldType.int) ∈ TB := tb4 135 rfl rfl
theorem tw_4_136 : Cond.methodLink "GemCutModel" 117 yX6_back ∈ TB := tb4 136 rfl rfl
theorem tw_4_138 : Cond.instanceMethod yX6_back ∈ TB := tb4 138 rfl rfl
theorem tw_4_139 : Cond.code yX6_back cX6_back 3 (Option.none : Option Jvm.ClassFile.FieldType) ∈ TB := tb4 139 rfl rfl
theorem tw_4_140 : Cond.methodLink "GemCutLaw" 92 yX6_cut ∈ TB := tb4 140 rfl rfl
theorem tw_4_141 : Cond.instanceMethod yX6_cut ∈ TB := tb4 141 rfl rfl
theorem tw_4_142 : Cond.selects "GemCutModel" yX6_cut yX6_cut ∈ TB := tb4 142 rfl rfl
theorem tw_4_143 : Cond.code yX6_cut cX6_cut 7 (some FieldType.int) ∈ TB := tb4 143 rfl rfl
theorem tw_4_144 : Cond.methodLink "GemCutModel" 121 yX6_put ∈ TB := tb4 144 rfl rfl
theorem tw_4_146 : Cond.instanceMethod yX6_put ∈ TB := tb4 146 rfl rfl
theorem tw_4_147 : Cond.code yX6_put cX6_put 7 (Option.none : Option Jvm.ClassFile.FieldType) ∈ TB := tb4 147 rfl rfl
theorem tw_4_148 : Cond.methodLink "GemCutModel" 125 yX6_spend ∈ TB := tb4 148 rfl rfl
theorem tw_4_150 : Cond.instanceMethod yX6_spend ∈ TB := tb4 150 rfl rfl
theorem tw_4_151 : Cond.code yX6_spend cX6_spend 2 (Option.none : Option Jvm.ClassFile.FieldType) ∈ TB := tb4 151 rfl rfl
theorem tw_4_152 : Cond.methodLink "GemCutLaw" 96 yX6_polish ∈ TB := tb4 152 rfl rfl
theorem tw_4_153 : Cond.instanceMethod yX6_polish ∈ TB := tb4 153 rfl rfl
theorem tw_4_154 : Cond.selects "GemCutModel" yX6_polish yX6_polish ∈ TB := tb4 154 rfl rfl
theorem tw_4_155 : Cond.code yX6_polish cX6_polish 4 (some FieldType.int) ∈ TB := tb4 155 rfl rfl
theorem tw_4_156 : Cond.methodLink "GemCutModel" 134 yX6_isPlane ∈ TB := tb4 156 rfl rfl
theorem tw_4_158 : Cond.instanceMethod yX6_isPlane ∈ TB := tb4 158 rfl rfl
theorem tw_4_159 : Cond.code yX6_isPlane cX6_isPlane 3 (some FieldType.boolean) ∈ TB := tb4 159 rfl rfl
theorem tw_4_160 : Cond.methodLink "GemCutModel" 137 yX6_touch ∈ TB := tb4 160 rfl rfl
theorem tw_4_162 : Cond.instanceMethod yX6_touch ∈ TB := tb4 162 rfl rfl
theorem tw_4_163 : Cond.code yX6_touch cX6_touch 6 (some FieldType.int) ∈ TB := tb4 163 rfl rfl
theorem tw_4_164 : Cond.methodLink "GemCutModel" 128 yX6_pl ∈ TB := tb4 164 rfl rfl
theorem tw_4_166 : Cond.instanceMethod yX6_pl ∈ TB := tb4 166 rfl rfl
theorem tw_4_167 : Cond.code yX6_pl cX6_pl 4 (some FieldType.int) ∈ TB := tb4 167 rfl rfl
theorem tw_4_168 : Cond.methodLink "GemCutModel" 131 ⟨"java/lang/Math", "max", "(II)I"⟩ ∈ TB := tb4 168 rfl rfl
theorem tw_4_169 : Cond.methodLink "GemCutLaw" 100 yX6_dress ∈ TB := tb4 169 rfl rfl
theorem tw_4_170 : Cond.instanceMethod yX6_dress ∈ TB := tb4 170 rfl rfl
theorem tw_4_171 : Cond.selects "GemCutModel" yX6_dress yX6_dress ∈ TB := tb4 171 rfl rfl
theorem tw_4_172 : Cond.code yX6_dress cX6_dress 2 (some FieldType.int) ∈ TB := tb4 172 rfl rfl
theorem tw_4_173 : Cond.methodLink "GemCutLaw" 103 yX6_stone ∈ TB := tb4 173 rfl rfl
theorem tw_4_174 : Cond.instanceMethod yX6_stone ∈ TB := tb4 174 rfl rfl
theorem tw_4_175 : Cond.selects "GemCutModel" yX6_stone yX6_stone ∈ TB := tb4 175 rfl rfl
theorem tw_4_176 : Cond.code yX6_stone cX6_stone 3 (some FieldType.int) ∈ TB := tb4 176 rfl rfl
theorem tw_4_177 : Cond.methodLink "GemCutModel" 156 yX6_stoneTold ∈ TB := tb4 177 rfl rfl
theorem tw_4_179 : Cond.instanceMethod yX6_stoneTold ∈ TB := tb4 179 rfl rfl
theorem tw_4_180 : Cond.code yX6_stoneTold cX6_stoneTold 5 (some FieldType.int) ∈ TB := tb4 180 rfl rfl
theorem tw_4_181 : Cond.methodLink "GemCutModel" 143 yX6_facets ∈ TB := tb4 181 rfl rfl
theorem tw_4_183 : Cond.instanceMethod yX6_facets ∈ TB := tb4 183 rfl rfl
theorem tw_4_184 : Cond.code yX6_facets cX6_facets 5 (some FieldType.int) ∈ TB := tb4 184 rfl rfl
theorem tw_4_185 : Cond.methodLink "GemCutModel" 140 yX6_isFacet ∈ TB := tb4 185 rfl rfl
theorem tw_4_187 : Cond.instanceMethod yX6_isFacet ∈ TB := tb4 187 rfl rfl
theorem tw_4_188 : Cond.code yX6_isFacet cX6_isFacet 3 (some FieldType.boolean) ∈ TB := tb4 188 rfl rfl
theorem tw_4_189 : Cond.methodLink "GemCutModel" 147 yX6_pairs ∈ TB := tb4 189 rfl rfl
theorem tw_4_191 : Cond.instanceMethod yX6_pairs ∈ TB := tb4 191 rfl rfl
theorem tw_4_192 : Cond.code yX6_pairs cX6_pairs 7 (some FieldType.int) ∈ TB := tb4 192 rfl rfl
theorem tw_4_193 : Cond.methodLink "GemCutModel" 150 yX6_flawsIn ∈ TB := tb4 193 rfl rfl
theorem tw_4_195 : Cond.instanceMethod yX6_flawsIn ∈ TB := tb4 195 rfl rfl
theorem tw_4_196 : Cond.code yX6_flawsIn cX6_flawsIn 5 (some FieldType.int) ∈ TB := tb4 196 rfl rfl
theorem tw_4_197 : Cond.methodLink "GemCutModel" 153 yX6_worth ∈ TB := tb4 197 rfl rfl
theorem tw_4_199 : Cond.instanceMethod yX6_worth ∈ TB := tb4 199 rfl rfl
theorem tw_4_200 : Cond.code yX6_worth cX6_worth 6 (some FieldType.int) ∈ TB := tb4 200 rfl rfl
theorem tw_4_201 : Cond.methodLink "GemCutLaw" 106 yX6_plane ∈ TB := tb4 201 rfl rfl
theorem tw_4_202 : Cond.instanceMethod yX6_plane ∈ TB := tb4 202 rfl rfl
theorem tw_4_203 : Cond.selects "GemCutModel" yX6_plane yX6_plane ∈ TB := tb4 203 rfl rfl
theorem tw_4_204 : Cond.code yX6_plane cX6_plane 4 (some FieldType.int) ∈ TB := tb4 204 rfl rfl
theorem tw_4_205 : Cond.methodLink "GemCutModel" 159 yX6_planeTold ∈ TB := tb4 205 rfl rfl
theorem tw_4_207 : Cond.instanceMethod yX6_planeTold ∈ TB := tb4 207 rfl rfl
theorem tw_4_208 : Cond.code yX6_planeTold cX6_planeTold 4 (some FieldType.int) ∈ TB := tb4 208 rfl rfl
theorem tw_4_209 : Cond.methodLink "GemCutLaw" 109 yX6_angle ∈ TB := tb4 209 rfl rfl
theorem tw_4_210 : Cond.instanceMethod yX6_angle ∈ TB := tb4 210 rfl rfl
theorem tw_4_211 : Cond.selects "GemCutModel" yX6_angle yX6_angle ∈ TB := tb4 211 rfl rfl
theorem tw_4_212 : Cond.code yX6_angle cX6_angle 6 (some FieldType.int) ∈ TB := tb4 212 rfl rfl
theorem tw_4_213 : Cond.methodLink "GemCutModel" 162 yX6_product ∈ TB := tb4 213 rfl rfl
theorem tw_4_215 : Cond.instanceMethod yX6_product ∈ TB := tb4 215 rfl rfl
theorem tw_4_216 : Cond.code yX6_product cX6_product 6 (some FieldType.int) ∈ TB := tb4 216 rfl rfl
theorem tw_4_217 : Cond.methodLink "GemCutLaw" 113 yX6_count ∈ TB := tb4 217 rfl rfl
theorem tw_4_218 : Cond.instanceMethod yX6_count ∈ TB := tb4 218 rfl rfl
theorem tw_4_219 : Cond.selects "GemCutModel" yX6_count yX6_count ∈ TB := tb4 219 rfl rfl
theorem tw_4_220 : Cond.code yX6_count cX6_count 2 (some FieldType.int) ∈ TB := tb4 220 rfl rfl
theorem tw_4_221 : Cond.methodLink "GemCutModel" 165 yX6_counted ∈ TB := tb4 221 rfl rfl
theorem tw_4_223 : Cond.instanceMethod yX6_counted ∈ TB := tb4 223 rfl rfl
theorem tw_4_224 : Cond.code yX6_counted cX6_counted 4 (some FieldType.int) ∈ TB := tb4 224 rfl rfl
theorem tw_4_225 : Cond.methodLink "GemCutLaw" 117 yX6_would ∈ TB := tb4 225 rfl rfl
theorem tw_4_226 : Cond.instanceMethod yX6_would ∈ TB := tb4 226 rfl rfl
theorem tw_4_227 : Cond.selects "GemCutModel" yX6_would yX6_would ∈ TB := tb4 227 rfl rfl
theorem tw_4_228 : Cond.code yX6_would cX6_would 7 (some FieldType.int) ∈ TB := tb4 228 rfl rfl
theorem tw_4_229 : Cond.methodLink "GemCutModel" 168 yX6_look ∈ TB := tb4 229 rfl rfl
theorem tw_4_231 : Cond.instanceMethod yX6_look ∈ TB := tb4 231 rfl rfl
theorem tw_4_232 : Cond.code yX6_look cX6_look 9 (some FieldType.int) ∈ TB := tb4 232 rfl rfl
theorem tw_4_233 : Cond.methodLink "GemCutLaw" 121 yX6_depth ∈ TB := tb4 233 rfl rfl
theorem tw_4_234 : Cond.instanceMethod yX6_depth ∈ TB := tb4 234 rfl rfl
theorem tw_4_235 : Cond.selects "GemCutModel" yX6_depth yX6_depth ∈ TB := tb4 235 rfl rfl
theorem tw_4_236 : Cond.code yX6_depth cX6_depth 9 (some FieldType.int) ∈ TB := tb4 236 rfl rfl
theorem tw_4_237 : Cond.methodLink "GemCutModel" 171 yX6_end ∈ TB := tb4 237 rfl rfl
theorem tw_4_239 : Cond.instanceMethod yX6_end ∈ TB := tb4 239 rfl rfl
theorem tw_5_0 : Cond.code yX6_end cX6_end 11 (some FieldType.int) ∈ TB := tb5 0 rfl rfl
theorem tw_5_1 : Cond.methodLink "GemCutLaw" 124 yX6_rid ∈ TB := tb5 1 rfl rfl
theorem tw_5_2 : Cond.instanceMethod yX6_rid ∈ TB := tb5 2 rfl rfl
theorem tw_5_3 : Cond.selects "GemCutModel" yX6_rid yX6_rid ∈ TB := tb5 3 rfl rfl
theorem tw_5_4 : Cond.code yX6_rid cX6_rid 13 (some FieldType.int) ∈ TB := tb5 4 rfl rfl
theorem tw_5_5 : Cond.methodLink "GemCutLaw" 129 yX6_kept ∈ TB := tb5 5 rfl rfl
theorem tw_5_6 : Cond.instanceMethod yX6_kept ∈ TB := tb5 6 rfl rfl
theorem tw_5_7 : Cond.selects "GemCutModel" yX6_kept yX6_kept ∈ TB := tb5 7 rfl rfl
theorem tw_5_8 : Cond.code yX6_kept cX6_kept 1 (some FieldType.double) ∈ TB := tb5 8 rfl rfl
theorem tw_5_9 : Cond.methodLink "GemCutLaw" 134 yX6_digest ∈ TB := tb5 9 rfl rfl
theorem tw_5_10 : Cond.instanceMethod yX6_digest ∈ TB := tb5 10 rfl rfl
theorem tw_5_11 : Cond.selects "GemCutModel" yX6_digest yX6_digest ∈ TB := tb5 11 rfl rfl
theorem tw_5_12 : Cond.code yX6_digest cX6_digest 6 (some FieldType.long) ∈ TB := tb5 12 rfl rfl
theorem tw_5_13 : Cond.constantLong "GemCutModel" 175 (577) ∈ TB := tb5 13 rfl rfl
theorem tw_5_14 : Cond.constantLong "GemCutModel" 177 (31) ∈ TB := tb5 14 rfl rfl
theorem tws_1_0 : Cond.selects "GemCut" yX5_beginRough yX5_beginRough ∈ TB := tbs1 (n := 6) 0 rfl
theorem tws_1_1 : Cond.selects "GemCut" yX5_survey yX5_survey ∈ TB := tbs1 (n := 6) 1 rfl
theorem tws_1_2 : Cond.selects "GemCut" yX5_surveyCell yX5_surveyCell ∈ TB := tbs1 (n := 6) 2 rfl
theorem tws_1_3 : Cond.selects "GemCut" yX5_cellsOfStones yX5_cellsOfStones ∈ TB := tbs1 (n := 6) 3 rfl
theorem tws_1_4 : Cond.selects "GemCut" yX5_tellCount yX5_tellCount ∈ TB := tbs1 (n := 6) 4 rfl
theorem tws_1_5 : Cond.selects "GemCut" yX5_stonesLeft yX5_stonesLeft ∈ TB := tbs1 (n := 6) 5 rfl
theorem tws_1_6 : Cond.selects "GemCut" yX5_worthOfStones yX5_worthOfStones ∈ TB := tbs1 (n := 6) 6 rfl
theorem tws_1_7 : Cond.selects "GemCut" yX5_worthOf yX5_worthOf ∈ TB := tbs1 (n := 6) 7 rfl
theorem tws_1_8 : Cond.selects "GemCut" yX5_addStone yX5_addStone ∈ TB := tbs1 (n := 6) 8 rfl
theorem tws_1_9 : Cond.selects "GemCut" yX5_tellOfStone yX5_tellOfStone ∈ TB := tbs1 (n := 6) 9 rfl
theorem tws_1_10 : Cond.selects "GemCut" yX5_flawsOfState yX5_flawsOfState ∈ TB := tbs1 (n := 6) 10 rfl
theorem tws_1_11 : Cond.selects "GemCut" yX5_tellOfFlaw yX5_tellOfFlaw ∈ TB := tbs1 (n := 6) 11 rfl
theorem tws_1_13 : Cond.selects "GemCut" yX5_wantCell yX5_wantCell ∈ TB := tbs1 (n := 6) 13 rfl
theorem tws_1_14 : Cond.selects "GemCut" yX5_wantFlaw yX5_wantFlaw ∈ TB := tbs1 (n := 6) 14 rfl
theorem tws_1_15 : Cond.selects "GemCut" yX5_wantStone yX5_wantStone ∈ TB := tbs1 (n := 6) 15 rfl
theorem tws_2_0 : Cond.selects "GemCut$Trial" yX4_levelCell yX4_levelCell ∈ TB := tbs2 (n := 6) 0 rfl
theorem tws_2_1 : Cond.selects "GemCut" yX5_spend yX5_spend ∈ TB := tbs2 (n := 6) 1 rfl
theorem tws_2_2 : Cond.selects "GemCut" yX5_wantPlane yX5_wantPlane ∈ TB := tbs2 (n := 6) 2 rfl
theorem tws_2_3 : Cond.selects "GemCut$Trial" yX4_lowerFloors yX4_lowerFloors ∈ TB := tbs2 (n := 6) 3 rfl
theorem tws_2_4 : Cond.selects "GemCut$Trial" yX4_laterOpposites yX4_laterOpposites ∈ TB := tbs2 (n := 6) 4 rfl
theorem tws_2_5 : Cond.selects "GemCut$Trial" yX4_isWithin yX4_isWithin ∈ TB := tbs2 (n := 6) 5 rfl
theorem tws_2_6 : Cond.selects "GemCut$Trial" yX4_lowestOf yX4_lowestOf ∈ TB := tbs2 (n := 6) 6 rfl
theorem tws_2_7 : Cond.selects "GemCutModel" yX6_begin yX6_begin ∈ TB := tbs2 (n := 12) 7 rfl
theorem tws_2_8 : Cond.selects "GemCutModel" yX6_isCell yX6_isCell ∈ TB := tbs2 (n := 12) 8 rfl
theorem tws_2_9 : Cond.selects "GemCutModel" yX6_fail yX6_fail ∈ TB := tbs2 (n := 12) 9 rfl
theorem tws_2_10 : Cond.selects "GemCutModel" yX6_isStone yX6_isStone ∈ TB := tbs2 (n := 12) 10 rfl
theorem tws_2_11 : Cond.selects "GemCutModel" yX6_flawTold yX6_flawTold ∈ TB := tbs2 (n := 12) 11 rfl
theorem tws_2_12 : Cond.selects "GemCutModel" yX6_flawCells yX6_flawCells ∈ TB := tbs2 (n := 12) 12 rfl
theorem tws_2_13 : Cond.selects "GemCutModel" yX6_isFlawed yX6_isFlawed ∈ TB := tbs2 (n := 12) 13 rfl
theorem tws_2_14 : Cond.selects "GemCutModel" yX6_fl yX6_fl ∈ TB := tbs2 (n := 12) 14 rfl
theorem tws_2_15 : Cond.selects "GemCutModel" yX6_isSurface yX6_isSurface ∈ TB := tbs2 (n := 12) 15 rfl
theorem tws_3_0 : Cond.selects "GemCutModel" yX6_isOf yX6_isOf ∈ TB := tbs3 (n := 12) 0 rfl
theorem tws_3_1 : Cond.selects "GemCutModel" yX6_weight yX6_weight ∈ TB := tbs3 (n := 12) 1 rfl
theorem tws_3_2 : Cond.selects "GemCutModel" yX6_turn yX6_turn ∈ TB := tbs3 (n := 12) 2 rfl
theorem tws_3_3 : Cond.selects "GemCutModel" yX6_back yX6_back ∈ TB := tbs3 (n := 12) 3 rfl
theorem tws_3_4 : Cond.selects "GemCutModel" yX6_put yX6_put ∈ TB := tbs3 (n := 12) 4 rfl
theorem tws_3_5 : Cond.selects "GemCutModel" yX6_spend yX6_spend ∈ TB := tbs3 (n := 12) 5 rfl
theorem tws_3_6 : Cond.selects "GemCutModel" yX6_isPlane yX6_isPlane ∈ TB := tbs3 (n := 12) 6 rfl
theorem tws_3_7 : Cond.selects "GemCutModel" yX6_touch yX6_touch ∈ TB := tbs3 (n := 12) 7 rfl
theorem tws_3_8 : Cond.selects "GemCutModel" yX6_pl yX6_pl ∈ TB := tbs3 (n := 12) 8 rfl
theorem tws_3_9 : Cond.selects "GemCutModel" yX6_stoneTold yX6_stoneTold ∈ TB := tbs3 (n := 12) 9 rfl
theorem tws_3_10 : Cond.selects "GemCutModel" yX6_facets yX6_facets ∈ TB := tbs3 (n := 12) 10 rfl
theorem tws_3_11 : Cond.selects "GemCutModel" yX6_isFacet yX6_isFacet ∈ TB := tbs3 (n := 12) 11 rfl
theorem tws_3_12 : Cond.selects "GemCutModel" yX6_pairs yX6_pairs ∈ TB := tbs3 (n := 12) 12 rfl
theorem tws_3_13 : Cond.selects "GemCutModel" yX6_flawsIn yX6_flawsIn ∈ TB := tbs3 (n := 12) 13 rfl
theorem tws_3_14 : Cond.selects "GemCutModel" yX6_worth yX6_worth ∈ TB := tbs3 (n := 12) 14 rfl
theorem tws_3_15 : Cond.selects "GemCutModel" yX6_planeTold yX6_planeTold ∈ TB := tbs3 (n := 12) 15 rfl
theorem tws_4_0 : Cond.selects "GemCutModel" yX6_product yX6_product ∈ TB := tbs4 (n := 12) 0 rfl
theorem tws_4_1 : Cond.selects "GemCutModel" yX6_counted yX6_counted ∈ TB := tbs4 (n := 12) 1 rfl
theorem tws_4_2 : Cond.selects "GemCutModel" yX6_look yX6_look ∈ TB := tbs4 (n := 12) 2 rfl
theorem tws_4_3 : Cond.selects "GemCutModel" yX6_end yX6_end ∈ TB := tbs4 (n := 12) 3 rfl
theorem iw_X0 : ∀ w ∈ u_ws RX0 TX0 5, w ∈ TB := by
  intro w h
  obtain ⟨k, hk, rfl⟩ := List.mem_map.mp h
  have hk := List.mem_range.mp hk
  match k, hk with
  | 0, _ => exact tw_1_46
  | 1, _ => exact tw_1_48
  | 2, _ => exact tw_1_50
  | 3, _ => exact tw_1_52
  | 4, _ => exact tw_1_54
theorem iw_X1 : ∀ w ∈ u_ws RX1 TX1 7, w ∈ TB := by
  intro w h
  obtain ⟨k, hk, rfl⟩ := List.mem_map.mp h
  have hk := List.mem_range.mp hk
  match k, hk with
  | 0, _ => exact tw_1_124
  | 1, _ => exact tw_1_126
  | 2, _ => exact tw_1_128
  | 3, _ => exact tw_1_130
  | 4, _ => exact tw_1_132
  | 5, _ => exact tw_1_134
  | 6, _ => exact tw_1_136
theorem iw_X2 : ∀ w ∈ u_ws RX2 TX2 7, w ∈ TB := by
  intro w h
  obtain ⟨k, hk, rfl⟩ := List.mem_map.mp h
  have hk := List.mem_range.mp hk
  match k, hk with
  | 0, _ => exact tw_1_82
  | 1, _ => exact tw_1_84
  | 2, _ => exact tw_1_86
  | 3, _ => exact tw_1_88
  | 4, _ => exact tw_1_90
  | 5, _ => exact tw_1_92
  | 6, _ => exact tw_1_94
theorem iw_X3 : ∀ w ∈ u_ws RX3 TX3 5, w ∈ TB := by
  intro w h
  obtain ⟨k, hk, rfl⟩ := List.mem_map.mp h
  have hk := List.mem_range.mp hk
  match k, hk with
  | 0, _ => exact tw_1_153
  | 1, _ => exact tw_1_155
  | 2, _ => exact tw_1_157
  | 3, _ => exact tw_1_159
  | 4, _ => exact tw_1_161
theorem iw_X4 : ∀ w ∈ u_ws RX4 TX4 6, w ∈ TB := by
  intro w h
  obtain ⟨k, hk, rfl⟩ := List.mem_map.mp h
  have hk := List.mem_range.mp hk
  match k, hk with
  | 0, _ => exact tw_1_178
  | 1, _ => exact tw_1_180
  | 2, _ => exact tw_1_182
  | 3, _ => exact tw_1_184
  | 4, _ => exact tw_1_186
  | 5, _ => exact tw_1_188
theorem iw_X5 : ∀ w ∈ u_ws RX5 TX5 6, w ∈ TB := by
  intro w h
  obtain ⟨k, hk, rfl⟩ := List.mem_map.mp h
  have hk := List.mem_range.mp hk
  match k, hk with
  | 0, _ => exact tw_2_17
  | 1, _ => exact tw_2_19
  | 2, _ => exact tw_2_21
  | 3, _ => exact tw_2_23
  | 4, _ => exact tw_2_25
  | 5, _ => exact tw_2_27
theorem iw_X6 : ∀ w ∈ u_ws RX6 TX6 12, w ∈ TB := by
  intro w h
  obtain ⟨k, hk, rfl⟩ := List.mem_map.mp h
  have hk := List.mem_range.mp hk
  match k, hk with
  | 0, _ => exact tw_4_34
  | 1, _ => exact tw_4_36
  | 2, _ => exact tw_4_38
  | 3, _ => exact tw_4_40
  | 4, _ => exact tw_4_42
  | 5, _ => exact tw_4_44
  | 6, _ => exact tw_4_46
  | 7, _ => exact tw_4_48
  | 8, _ => exact tw_4_50
  | 9, _ => exact tw_4_52
  | 10, _ => exact tw_4_54
  | 11, _ => exact tw_4_56
/-- words that hold through a run but are not in TB: links to nest mates, declared methods -/
def NWn : List Cond := [Cond.methodLinkNest "GemCut$Rough" 25 yX0_init "GemCut", Cond.methodLinkNest "GemCut$Stone" 21 yX1_init "GemCut", Cond.methodLinkNest "GemCut$Trial" 11 yX1_init "GemCut", Cond.methodLinkNest "GemCut$Trial" 153 yX5_worthBy "GemCut"]
def NWd : List Cond := [Cond.declares ⟨"java/lang/RuntimeException", "<init>", "()V"⟩, Cond.declares ⟨"java/lang/RuntimeException", "<init>", "(Ljava/lang/String;)V"⟩, Cond.declares ⟨"java/lang/Exception", "<init>", "()V"⟩, Cond.declares ⟨"java/lang/Exception", "<init>", "(Ljava/lang/String;)V"⟩, Cond.declares ⟨"java/lang/Throwable", "<init>", "()V"⟩, Cond.declares ⟨"java/lang/Throwable", "<init>", "(Ljava/lang/String;)V"⟩]
/-- the texts of the exceptions: class, entry, text -/
def SRl : List (String × Nat × String) := [(RX5, 44, "a side of the rough is not 1 to 10"), (RX5, 221, "there is no such cell in the rough"), (RX5, 56, "radius is not 0 to 3, or severity is not 1 to 9"), (RX5, 64, "there are 10 flaws"), (RX5, 224, "there is no such flaw"), (RX5, 226, "there is no such stone"), (RX5, 230, "there is no such what"), (RX5, 235, "p, q or r is not -3 to 3, or all are 0"), (RX5, 237, "d is not -100 to 100"), (RX5, 108, "there are 8 stones, or one of the two would be empty"), (RX5, 125, "it keeps 16 planes, or the wheel has not enough turns"), (RX5, 228, "the stone keeps no such plane"), (RX5, 154, "it is no facet now, or polished, or the wheel has not enough turns"), (RX5, 182, "nothing is left of the stone")]
def gN (U : State) : Prop := (∀ w ∈ NWn, va_Nw w U) ∧ (∀ w ∈ NWd, va_Nw w U) ∧ ∀ q ∈ SRl, ∃ a, vk_R q.1 q.2.1 q.2.2 a U
theorem gN.warm {s U : State} (hW : s.WarmedH U.vm) (h : gN s) : gN U := by
  refine ⟨fun w hw => ?_, fun w hw => ?_, fun q hq => ?_⟩
  · have h1 : ∃ a i x h, w = .methodLinkNest a i x h := by
      simp only [NWn, List.mem_cons, List.not_mem_nil, or_false] at hw
      rcases hw with rfl|rfl|rfl|rfl <;> exact ⟨_, _, _, _, rfl⟩
    have h2 := h.1 w hw
    obtain ⟨a, i, x, h3, rfl⟩ := h1
    exact va_Nw.warmM hW h2
  · have h1 : ∃ x, w = .declares x := by
      simp only [NWd, List.mem_cons, List.not_mem_nil, or_false] at hw
      rcases hw with rfl|rfl|rfl|rfl|rfl|rfl <;> exact ⟨_, rfl⟩
    have h2 := h.2.1 w hw
    obtain ⟨x, rfl⟩ := h1
    exact va_Nw.warmD hW h2
  · obtain ⟨a, ha⟩ := h.2.2 q hq
    exact ⟨a, vk_R.warm hW ha⟩
theorem gN.same {u U : State} (h : u.vm = U.vm) (hz : gN u) : gN U := by
  refine ⟨fun w hw => ?_, fun w hw => ?_, fun q hq => ?_⟩
  · have h1 : w.onTables = true := by
      simp only [NWn, List.mem_cons, List.not_mem_nil, or_false] at hw
      rcases hw with rfl|rfl|rfl|rfl <;> rfl
    exact va_Nw.same h1 h (hz.1 w hw)
  · have h1 : w.onTables = true := by
      simp only [NWd, List.mem_cons, List.not_mem_nil, or_false] at hw
      rcases hw with rfl|rfl|rfl|rfl|rfl|rfl <;> rfl
    exact va_Nw.same h1 h (hz.2.1 w hw)
  · obtain ⟨a, ha⟩ := hz.2.2 q hq
    exact ⟨a, vk_R.same h.symm ha⟩
end
section
/-! A judgement with small goals. Mem: what each cell (by its number) holds at each place, as ints; a layout says what kind each cell is and where its references lead. -/
abbrev Mem : Type := Nat → Nat → Int32
abbrev gE : Type := va_G × (Nat → Nat) × (Nat → ClassId)
abbrev gL : Type := Nat × (gE → (Nat → Int32) → Nat → va_E)
def gW (Lw : gL) (E : gE) (σ : Mem) : va_W := (List.range Lw.1).map (fun i => (E.2.1 i, Lw.2 E (σ i) i))
def gT (cy : Nat → ClassId) : List (ClassId × FieldType) := [(cy 0, .int), (cy 1, .boolean), (cy 2, .object "GemCut$Flaw"), (cy 3, .object "GemCut$Plane"), (cy 4, .object "GemCut$Stone"), (cy 5, .long)]
abbrev gC : Type := Program × Launch × Env × Room × State × MethodId × Array Value × List Frame × Method × Code × Nat × Heap × (Nat → Prop) × gE × (State → Prop)
def gl : Nat → List (Option Value) → List (Nat × Value)
  | _, [] => []
  | i, none :: r => gl (i + 1) r
  | i, some v :: r => (i, v) :: gl (i + 1) r
def gEv (X : gC) : gE := X.2.2.2.2.2.2.2.2.2.2.2.2.2.1
def gA (X : gC) : Nat → Nat := (gEv X).2.1
def gR (d ca sa : Nat) : Room := { frames := d, cells := ca, slots := sa, locals := 40 * d }
def G (Lw : gL) (X : gC) (k n pc : Nat) (ls : List (Option Value)) (st : List Value) (σ : Mem) : Prop :=
  match X with
  | (p, l, e, R, s, m, args, below, meth, c, nL, H0, A, E, Q) => ∀ (H : Heap) (locs : List Loc) (arr : Array Slot), ls.length = nL → va_P E.1 vwCl (gW Lw E σ) H → va_S A H0 H locs → lv_has arr nL (gl 0 ls) → W p l e R s m args below meth c H locs k n Q (F0 m pc arr st)
def gOk (Lw : gL) (l : Launch) (X : gC) (cc : ByteArray) (own : String) (dd ca sa : Nat) : Prop :=
  match X with
  | (p, l', _, R, s, m, args, _, meth, c, nL, H0, A, E, _) => p.tables.exec = Jvm.exec ∧ c.code = cc ∧ c.maxLocals = nL ∧ s.vm.findClass own = some m.cls ∧ (∀ w ∈ TB, w.before args s = true) ∧ va_K E.1 vwCl (gT E.2.2) s ∧ (∀ σ, va_D A (gW Lw E σ)) ∧ (∀ q, H0.size ≤ q → A q) ∧ R = gR dd ca sa ∧ meth.locks = false ∧ l' = l ∧ s.heap = H0 ∧ gN s
theorem gl_mem (q : Nat × Value) : ∀ (ls : List (Option Value)) (i : Nat), q ∈ gl i ls ↔ ∃ j, q.1 = i + j ∧ ls[j]? = some (some q.2) := by
  intro ls
  induction ls with
  | nil => intro i; simp [gl]
  | cons o r ih =>
    intro i
    cases o with
    | none =>
      rw [gl, ih]
      constructor
      · rintro ⟨j, h1, h2⟩
        exact ⟨j + 1, by omega, by simpa using h2⟩
      · rintro ⟨j, h1, h2⟩
        cases j with
        | zero => simp at h2
        | succ j => exact ⟨j, by omega, by simpa using h2⟩
    | some v =>
      rw [gl, List.mem_cons, ih]
      constructor
      · rintro (rfl | ⟨j, h1, h2⟩)
        · exact ⟨0, rfl, rfl⟩
        · exact ⟨j + 1, by omega, by simpa using h2⟩
      · rintro ⟨j, h1, h2⟩
        cases j with
        | zero =>
          left
          obtain ⟨a, b⟩ := q
          simp at h1 h2
          rw [h1, h2]
        | succ j => right; exact ⟨j, by omega, by simpa using h2⟩
theorem g_loc {arr : Array Slot} {nL : Nat} {ls : List (Option Value)} (h : lv_has arr nL (gl 0 ls)) (j : Nat) {v : Value} (hj : ls[j]? = some (some v)) : arr[j]? = some (.val v) :=
  h.2.2 (j, v) ((gl_mem _ _ _).mpr ⟨j, by simp, hj⟩)
def g1 (o : Option Value) : Bool := match o with
  | none => true
  | some v => v.category == 1
theorem g_fil1 {arr : Array Slot} {nL i : Nat} {v : Value} {ls : List (Option Value)} (h : lv_has arr nL ((i, v) :: (gl 0 ls).filter (fun q => !(q.1 == i) && !(q.1 + 1 == i && q.2.category == 2)))) (hp : ∀ j, j + 1 = i → ∀ w, ls[j]? = some (some w) → w.category = 1) : lv_has arr nL (gl 0 (ls.set i (some v))) := by
  refine ⟨h.1, h.2.1, fun q hq => h.2.2 q ?_⟩
  obtain ⟨j, h1, h2⟩ := (gl_mem _ _ _).mp hq
  obtain ⟨a, b⟩ := q
  simp at h1
  subst h1
  rw [List.getElem?_set] at h2
  by_cases hj : i = a
  · subst hj
    rw [if_pos rfl] at h2
    split at h2
    · simp at h2
      subst h2
      exact List.mem_cons_self
    · cases h2
  · rw [if_neg hj] at h2
    refine List.mem_cons_of_mem _ (List.mem_filter.mpr ⟨(gl_mem _ _ _).mpr ⟨a, by simp, h2⟩, ?_⟩)
    have h3 : ¬ (a == i) = true := by simp; exact fun e => hj e.symm
    simp only [Bool.not_eq_true] at h3
    by_cases h4 : a + 1 = i
    · have := hp a h4 b h2
      simp [h3, this]
    · have h5 : (a + 1 == i) = false := by simp [h4]
      simp [h3, h5]
theorem g_fil2 {arr : Array Slot} {nL i : Nat} {v : Value} {ls : List (Option Value)} (h : lv_has arr nL ((i, v) :: (gl 0 ls).filter (fun q => !(q.1 == i) && (!(q.1 == i + 1) && !(q.1 + 1 == i && q.2.category == 2))))) (hp : ∀ j, j + 1 = i → ∀ w, ls[j]? = some (some w) → w.category = 1) : lv_has arr nL (gl 0 ((ls.set i (some v)).set (i + 1) none)) := by
  refine ⟨h.1, h.2.1, fun q hq => h.2.2 q ?_⟩
  obtain ⟨j, h1, h2⟩ := (gl_mem _ _ _).mp hq
  obtain ⟨a, b⟩ := q
  simp at h1
  subst h1
  rw [List.getElem?_set, List.getElem?_set] at h2
  by_cases hj2 : i + 1 = a
  · rw [if_pos hj2] at h2
    split at h2
    · cases h2
    · cases h2
  · rw [if_neg hj2] at h2
    by_cases hj : i = a
    · subst hj
      rw [if_pos rfl] at h2
      split at h2
      · simp at h2
        subst h2
        exact List.mem_cons_self
      · cases h2
    · rw [if_neg hj] at h2
      refine List.mem_cons_of_mem _ (List.mem_filter.mpr ⟨(gl_mem _ _ _).mpr ⟨a, by simp, h2⟩, ?_⟩)
      have h3 : (a == i) = false := by simp; exact fun e => hj e.symm
      have h6 : (a == i + 1) = false := by simp; exact fun e => hj2 e.symm
      by_cases h4 : a + 1 = i
      · have := hp a h4 b h2
        simp [h3, h6, this]
      · have h5 : (a + 1 == i) = false := by simp [h4]
        simp [h3, h6, h5]
theorem g1_spec {o : Option Value} (h : g1 o = true) : ∀ w, o = some w → w.category = 1 := by
  intro w hw
  subst hw
  simpa [g1] using h
/-- the locals at a method's start -/
def gent : Nat → List Value → List (Option Value)
  | n, [] => List.replicate n none
  | n, v :: r => if v.category = 2 then some v :: none :: gent (n - 2) r else some v :: gent (n - 1) r
theorem gent_len : ∀ (vs : List Value) (n : Nat), (lg_sl vs).length ≤ n → (gent n vs).length = n := by
  intro vs
  induction vs with
  | nil => intro n _; simp [gent]
  | cons v r ih =>
    intro n h
    rw [gent]
    have h1 : lg_sl (v :: r) = (if v.category = 2 then [.val v, .second] else [.val v]) ++ lg_sl r := by simp [lg_sl]
    rw [h1] at h
    split at h <;> rename_i hc
    · rw [if_pos hc]
      simp at h
      simp [ih (n - 2) (by omega)]
      omega
    · rw [if_neg hc]
      simp at h
      simp [ih (n - 1) (by omega)]
      omega
theorem gent_mem : ∀ (vs : List Value) (n i : Nat) (q : Nat × Value), q ∈ gl i (gent n vs) → q ∈ lv_args i vs := by
  intro vs
  induction vs with
  | nil =>
    intro n i q h
    rw [gl_mem] at h
    obtain ⟨j, -, h2⟩ := h
    simp [gent, List.getElem?_replicate] at h2
  | cons v r ih =>
    intro n i q h
    rw [lv_args]
    rw [gent] at h
    by_cases hc : v.category = 2
    · rw [if_pos hc] at h ⊢
      rw [gl, gl] at h
      rcases List.mem_cons.mp h with rfl | h
      · exact List.mem_cons_self
      · exact List.mem_cons_of_mem _ (ih _ _ _ h)
    · rw [if_neg hc] at h ⊢
      rw [gl] at h
      rcases List.mem_cons.mp h with rfl | h
      · exact List.mem_cons_self
      · exact List.mem_cons_of_mem _ (ih _ _ _ h)
theorem gW_at (Lw : gL) (E : gE) (σ : Mem) {i : Nat} (h : i < Lw.1) : (gW Lw E σ)[i]? = some (E.2.1 i, Lw.2 E (σ i) i) := by
  simp [gW, List.getElem?_map, List.getElem?_range h]
theorem gW_len (Lw : gL) (E : gE) (σ : Mem) : (gW Lw E σ).length = Lw.1 := by simp [gW]
theorem gW_fix {Lw : gL} {E : gE} {σ : Mem} {A : Nat → Prop} (h : va_D A (gW Lw E σ)) (σ' : Mem) : va_D A (gW Lw E σ') := by
  have key : ∀ (i : Nat) (p : Nat × va_E), (gW Lw E σ')[i]? = some p → ∃ q, (gW Lw E σ)[i]? = some q ∧ q.1 = p.1 := by
    intro i p hp
    have hi : i < Lw.1 := by rw [← gW_len Lw E σ']; exact (List.getElem?_eq_some_iff.mp hp).1
    rw [gW_at _ _ _ hi] at hp
    cases hp
    exact ⟨_, gW_at _ _ _ hi, rfl⟩
  refine ⟨fun i j p q hi hj hpq => ?_, fun i p hp => ?_⟩
  · obtain ⟨p', h1, h2⟩ := key i p hi
    obtain ⟨q', h3, h4⟩ := key j q hj
    exact h.1 i j p' q' h1 h3 (by rw [h2, h4]; exact hpq)
  · obtain ⟨p', h1, h2⟩ := key i p hp
    rw [← h2]
    exact h.2 i p' h1
/-- one place of one cell written -/
def upd2 (σ : Mem) (i j : Nat) (v : Int32) : Mem := fun a b => if a = i then (if b = j then v else σ a b) else σ a b
theorem upd2_at (σ : Mem) (i j : Nat) (v : Int32) : upd2 σ i j v i j = v := by simp [upd2]
theorem upd2_nj {σ : Mem} {i j j' : Nat} {v : Int32} (h : j' ≠ j) (i' : Nat) : upd2 σ i j v i' j' = σ i' j' := by
  simp [upd2, h]
theorem upd2_ni {σ : Mem} {i j i' : Nat} {v : Int32} (h : i' ≠ i) : upd2 σ i j v i' = σ i' := by
  funext b
  simp [upd2, h]
theorem upd2_row (σ : Mem) (i j : Nat) (v : Int32) : upd2 σ i j v i = upd (σ i) j v := by
  funext b
  simp [upd2, upd]
theorem gW_set {Lw : gL} {E : gE} {σ : Mem} {i j : Nat} {v : Int32} {e : va_E} (h : i < Lw.1) (he : Lw.2 E (upd (σ i) j v) i = e) : (gW Lw E σ).set i (E.2.1 i, e) = gW Lw E (upd2 σ i j v) := by
  apply List.ext_getElem?
  intro q
  by_cases hq : q < Lw.1
  · rw [gW_at _ _ _ hq, List.getElem?_set]
    by_cases hqi : i = q
    · subst hqi
      rw [if_pos rfl, if_pos (by rw [gW_len]; exact h), upd2_row, he]
    · rw [if_neg hqi, gW_at _ _ _ hq, upd2_ni (fun z => hqi z.symm)]
  · rw [List.getElem?_eq_none (by rw [List.length_set, gW_len]; omega), List.getElem?_eq_none (by rw [gW_len]; omega)]

theorem g_iconst {Lw : gL} {l : Launch} {X : gC} {cc : ByteArray} {own : String} {dd ca sa k n pc : Nat} {ls : List (Option Value)} {st : List Value} {σ : Mem} {z : Int} (v : Int32) (hC : gOk Lw l X cc own dd ca sa) (hd : decode cc pc = .ok (.iconst z, 1)) (hv : Int32.ofInt z = v) (kk : G Lw X k n (pc + 1) ls (.int v :: st) σ) : G Lw X k n pc ls (st) σ := by
  obtain ⟨p, l', e, R, s, m, args, below, meth, c, nL, H0, A, E, Q⟩ := X
  obtain ⟨hx, hb, hml, hown, hTB, hK, hD, hA, hR, hlocks, rfl, hh0, hNs⟩ := hC
  exact fun H locs arr hn hP hS hl => lv_iconst hx hb hd hv (kk H locs arr hn hP hS hl)
theorem g_bipush {Lw : gL} {l : Launch} {X : gC} {cc : ByteArray} {own : String} {dd ca sa k n pc : Nat} {ls : List (Option Value)} {st : List Value} {σ : Mem} {z : Int} (v : Int32) (hC : gOk Lw l X cc own dd ca sa) (hd : decode cc pc = .ok (.bipush z, 2)) (hv : (Int8.ofInt z).toInt32 = v) (kk : G Lw X k n (pc + 2) ls (.int v :: st) σ) : G Lw X k n pc ls (st) σ := by
  obtain ⟨p, l', e, R, s, m, args, below, meth, c, nL, H0, A, E, Q⟩ := X
  obtain ⟨hx, hb, hml, hown, hTB, hK, hD, hA, hR, hlocks, rfl, hh0, hNs⟩ := hC
  exact fun H locs arr hn hP hS hl => lv_bipush hx hb hd hv (kk H locs arr hn hP hS hl)
theorem g_sipush {Lw : gL} {l : Launch} {X : gC} {cc : ByteArray} {own : String} {dd ca sa k n pc : Nat} {ls : List (Option Value)} {st : List Value} {σ : Mem} {z : Int} (v : Int32) (hC : gOk Lw l X cc own dd ca sa) (hd : decode cc pc = .ok (.sipush z, 3)) (hv : (Int16.ofInt z).toInt32 = v) (kk : G Lw X k n (pc + 3) ls (.int v :: st) σ) : G Lw X k n pc ls (st) σ := by
  obtain ⟨p, l', e, R, s, m, args, below, meth, c, nL, H0, A, E, Q⟩ := X
  obtain ⟨hx, hb, hml, hown, hTB, hK, hD, hA, hR, hlocks, rfl, hh0, hNs⟩ := hC
  exact fun H locs arr hn hP hS hl => lv_sipush hx hb hd hv (kk H locs arr hn hP hS hl)
theorem g_iadd {Lw : gL} {l : Launch} {X : gC} {cc : ByteArray} {own : String} {dd ca sa k n pc : Nat} {ls : List (Option Value)} {st : List Value} {σ : Mem} {x y : Int32} (hC : gOk Lw l X cc own dd ca sa) (hd : decode cc pc = .ok (.iadd, 1))  (kk : G Lw X k n (pc + 1) ls (.int (x + y) :: st) σ) : G Lw X k n pc ls (.int y :: .int x :: st) σ := by
  obtain ⟨p, l', e, R, s, m, args, below, meth, c, nL, H0, A, E, Q⟩ := X
  obtain ⟨hx, hb, hml, hown, hTB, hK, hD, hA, hR, hlocks, rfl, hh0, hNs⟩ := hC
  exact fun H locs arr hn hP hS hl => lv_iadd hx hb hd (kk H locs arr hn hP hS hl)
theorem g_isub {Lw : gL} {l : Launch} {X : gC} {cc : ByteArray} {own : String} {dd ca sa k n pc : Nat} {ls : List (Option Value)} {st : List Value} {σ : Mem} {x y : Int32} (hC : gOk Lw l X cc own dd ca sa) (hd : decode cc pc = .ok (.isub, 1))  (kk : G Lw X k n (pc + 1) ls (.int (x - y) :: st) σ) : G Lw X k n pc ls (.int y :: .int x :: st) σ := by
  obtain ⟨p, l', e, R, s, m, args, below, meth, c, nL, H0, A, E, Q⟩ := X
  obtain ⟨hx, hb, hml, hown, hTB, hK, hD, hA, hR, hlocks, rfl, hh0, hNs⟩ := hC
  exact fun H locs arr hn hP hS hl => lv_isub hx hb hd (kk H locs arr hn hP hS hl)
theorem g_imul {Lw : gL} {l : Launch} {X : gC} {cc : ByteArray} {own : String} {dd ca sa k n pc : Nat} {ls : List (Option Value)} {st : List Value} {σ : Mem} {x y : Int32} (hC : gOk Lw l X cc own dd ca sa) (hd : decode cc pc = .ok (.imul, 1))  (kk : G Lw X k n (pc + 1) ls (.int (x * y) :: st) σ) : G Lw X k n pc ls (.int y :: .int x :: st) σ := by
  obtain ⟨p, l', e, R, s, m, args, below, meth, c, nL, H0, A, E, Q⟩ := X
  obtain ⟨hx, hb, hml, hown, hTB, hK, hD, hA, hR, hlocks, rfl, hh0, hNs⟩ := hC
  exact fun H locs arr hn hP hS hl => lv_imul hx hb hd (kk H locs arr hn hP hS hl)
theorem g_iand {Lw : gL} {l : Launch} {X : gC} {cc : ByteArray} {own : String} {dd ca sa k n pc : Nat} {ls : List (Option Value)} {st : List Value} {σ : Mem} {x y : Int32} (hC : gOk Lw l X cc own dd ca sa) (hd : decode cc pc = .ok (.iand, 1))  (kk : G Lw X k n (pc + 1) ls (.int (x &&& y) :: st) σ) : G Lw X k n pc ls (.int y :: .int x :: st) σ := by
  obtain ⟨p, l', e, R, s, m, args, below, meth, c, nL, H0, A, E, Q⟩ := X
  obtain ⟨hx, hb, hml, hown, hTB, hK, hD, hA, hR, hlocks, rfl, hh0, hNs⟩ := hC
  exact fun H locs arr hn hP hS hl => lv_iand hx hb hd (kk H locs arr hn hP hS hl)
theorem g_idiv {Lw : gL} {l : Launch} {X : gC} {cc : ByteArray} {own : String} {dd ca sa k n pc : Nat} {ls : List (Option Value)} {st : List Value} {σ : Mem} {x y : Int32} (hC : gOk Lw l X cc own dd ca sa) (hd : decode cc pc = .ok (.idiv, 1)) (hne : ¬ y = 0) (kk : G Lw X k n (pc + 1) ls (.int (x / y) :: st) σ) : G Lw X k n pc ls (.int y :: .int x :: st) σ := by
  obtain ⟨p, l', e, R, s, m, args, below, meth, c, nL, H0, A, E, Q⟩ := X
  obtain ⟨hx, hb, hml, hown, hTB, hK, hD, hA, hR, hlocks, rfl, hh0, hNs⟩ := hC
  exact fun H locs arr hn hP hS hl => lv_idiv hx hb hd hne (kk H locs arr hn hP hS hl)
theorem g_irem {Lw : gL} {l : Launch} {X : gC} {cc : ByteArray} {own : String} {dd ca sa k n pc : Nat} {ls : List (Option Value)} {st : List Value} {σ : Mem} {x y : Int32} (hC : gOk Lw l X cc own dd ca sa) (hd : decode cc pc = .ok (.irem, 1)) (hne : ¬ y = 0) (kk : G Lw X k n (pc + 1) ls (.int (x - x / y * y) :: st) σ) : G Lw X k n pc ls (.int y :: .int x :: st) σ := by
  obtain ⟨p, l', e, R, s, m, args, below, meth, c, nL, H0, A, E, Q⟩ := X
  obtain ⟨hx, hb, hml, hown, hTB, hK, hD, hA, hR, hlocks, rfl, hh0, hNs⟩ := hC
  exact fun H locs arr hn hP hS hl => lv_irem hx hb hd hne (kk H locs arr hn hP hS hl)
theorem g_ineg {Lw : gL} {l : Launch} {X : gC} {cc : ByteArray} {own : String} {dd ca sa k n pc : Nat} {ls : List (Option Value)} {st : List Value} {σ : Mem} {x : Int32} (hC : gOk Lw l X cc own dd ca sa) (hd : decode cc pc = .ok (.ineg, 1))  (kk : G Lw X k n (pc + 1) ls (.int (0 - x) :: st) σ) : G Lw X k n pc ls (.int x :: st) σ := by
  obtain ⟨p, l', e, R, s, m, args, below, meth, c, nL, H0, A, E, Q⟩ := X
  obtain ⟨hx, hb, hml, hown, hTB, hK, hD, hA, hR, hlocks, rfl, hh0, hNs⟩ := hC
  exact fun H locs arr hn hP hS hl => lv_ineg hx hb hd (kk H locs arr hn hP hS hl)
theorem g_ladd {Lw : gL} {l : Launch} {X : gC} {cc : ByteArray} {own : String} {dd ca sa k n pc : Nat} {ls : List (Option Value)} {st : List Value} {σ : Mem} {x y : Int64} (hC : gOk Lw l X cc own dd ca sa) (hd : decode cc pc = .ok (.ladd, 1))  (kk : G Lw X k n (pc + 1) ls (.long (x + y) :: st) σ) : G Lw X k n pc ls (.long y :: .long x :: st) σ := by
  obtain ⟨p, l', e, R, s, m, args, below, meth, c, nL, H0, A, E, Q⟩ := X
  obtain ⟨hx, hb, hml, hown, hTB, hK, hD, hA, hR, hlocks, rfl, hh0, hNs⟩ := hC
  exact fun H locs arr hn hP hS hl => lv_ladd hx hb hd (kk H locs arr hn hP hS hl)
theorem g_lmul {Lw : gL} {l : Launch} {X : gC} {cc : ByteArray} {own : String} {dd ca sa k n pc : Nat} {ls : List (Option Value)} {st : List Value} {σ : Mem} {x y : Int64} (hC : gOk Lw l X cc own dd ca sa) (hd : decode cc pc = .ok (.lmul, 1))  (kk : G Lw X k n (pc + 1) ls (.long (x * y) :: st) σ) : G Lw X k n pc ls (.long y :: .long x :: st) σ := by
  obtain ⟨p, l', e, R, s, m, args, below, meth, c, nL, H0, A, E, Q⟩ := X
  obtain ⟨hx, hb, hml, hown, hTB, hK, hD, hA, hR, hlocks, rfl, hh0, hNs⟩ := hC
  exact fun H locs arr hn hP hS hl => lv_lmul hx hb hd (kk H locs arr hn hP hS hl)
theorem g_i2l {Lw : gL} {l : Launch} {X : gC} {cc : ByteArray} {own : String} {dd ca sa k n pc : Nat} {ls : List (Option Value)} {st : List Value} {σ : Mem} {x : Int32} (hC : gOk Lw l X cc own dd ca sa) (hd : decode cc pc = .ok (.i2l, 1))  (kk : G Lw X k n (pc + 1) ls (.long x.toInt64 :: st) σ) : G Lw X k n pc ls (.int x :: st) σ := by
  obtain ⟨p, l', e, R, s, m, args, below, meth, c, nL, H0, A, E, Q⟩ := X
  obtain ⟨hx, hb, hml, hown, hTB, hK, hD, hA, hR, hlocks, rfl, hh0, hNs⟩ := hC
  exact fun H locs arr hn hP hS hl => lv_i2l hx hb hd rfl (kk H locs arr hn hP hS hl)
theorem g_i2d {Lw : gL} {l : Launch} {X : gC} {cc : ByteArray} {own : String} {dd ca sa k n pc : Nat} {ls : List (Option Value)} {st : List Value} {σ : Mem} {x : Int32} (hC : gOk Lw l X cc own dd ca sa) (hd : decode cc pc = .ok (.i2d, 1))  (kk : G Lw X k n (pc + 1) ls (.double (FP.i2d x) :: st) σ) : G Lw X k n pc ls (.int x :: st) σ := by
  obtain ⟨p, l', e, R, s, m, args, below, meth, c, nL, H0, A, E, Q⟩ := X
  obtain ⟨hx, hb, hml, hown, hTB, hK, hD, hA, hR, hlocks, rfl, hh0, hNs⟩ := hC
  exact fun H locs arr hn hP hS hl => lv_i2d hx hb hd (kk H locs arr hn hP hS hl)
theorem g_dconst0 {Lw : gL} {l : Launch} {X : gC} {cc : ByteArray} {own : String} {dd ca sa k n pc : Nat} {ls : List (Option Value)} {st : List Value} {σ : Mem}  (hC : gOk Lw l X cc own dd ca sa) (hd : decode cc pc = .ok (.dconst 0, 1))  (kk : G Lw X k n (pc + 1) ls (.double 0 :: st) σ) : G Lw X k n pc ls (st) σ := by
  obtain ⟨p, l', e, R, s, m, args, below, meth, c, nL, H0, A, E, Q⟩ := X
  obtain ⟨hx, hb, hml, hown, hTB, hK, hD, hA, hR, hlocks, rfl, hh0, hNs⟩ := hC
  exact fun H locs arr hn hP hS hl => lv_dconst0 hx hb hd (kk H locs arr hn hP hS hl)
theorem g_ddiv {Lw : gL} {l : Launch} {X : gC} {cc : ByteArray} {own : String} {dd ca sa k n pc : Nat} {ls : List (Option Value)} {st : List Value} {σ : Mem} {x y : UInt64} (hC : gOk Lw l X cc own dd ca sa) (hd : decode cc pc = .ok (.ddiv, 1)) (hne : vf_n64 (FP.ddiv x y)) (kk : G Lw X k n (pc + 1) ls (.double (FP.ddiv x y) :: st) σ) : G Lw X k n pc ls (.double y :: .double x :: st) σ := by
  obtain ⟨p, l', e, R, s, m, args, below, meth, c, nL, H0, A, E, Q⟩ := X
  obtain ⟨hx, hb, hml, hown, hTB, hK, hD, hA, hR, hlocks, rfl, hh0, hNs⟩ := hC
  exact fun H locs arr hn hP hS hl => lv_ddiv hx hb hd hne (kk H locs arr hn hP hS hl)
theorem g_dup {Lw : gL} {l : Launch} {X : gC} {cc : ByteArray} {own : String} {dd ca sa k n pc : Nat} {ls : List (Option Value)} {st : List Value} {σ : Mem} {v : Value} (hC : gOk Lw l X cc own dd ca sa) (hd : decode cc pc = .ok (.dup, 1)) (hv : v.category = 1) (kk : G Lw X k n (pc + 1) ls (v :: v :: st) σ) : G Lw X k n pc ls (v :: st) σ := by
  obtain ⟨p, l', e, R, s, m, args, below, meth, c, nL, H0, A, E, Q⟩ := X
  obtain ⟨hx, hb, hml, hown, hTB, hK, hD, hA, hR, hlocks, rfl, hh0, hNs⟩ := hC
  exact fun H locs arr hn hP hS hl => lv_dup hx hb hd hv (kk H locs arr hn hP hS hl)
theorem g_pop {Lw : gL} {l : Launch} {X : gC} {cc : ByteArray} {own : String} {dd ca sa k n pc : Nat} {ls : List (Option Value)} {st : List Value} {σ : Mem} {v : Value} (hC : gOk Lw l X cc own dd ca sa) (hd : decode cc pc = .ok (.pop, 1)) (hv : v.category = 1) (kk : G Lw X k n (pc + 1) ls (st) σ) : G Lw X k n pc ls (v :: st) σ := by
  obtain ⟨p, l', e, R, s, m, args, below, meth, c, nL, H0, A, E, Q⟩ := X
  obtain ⟨hx, hb, hml, hown, hTB, hK, hD, hA, hR, hlocks, rfl, hh0, hNs⟩ := hC
  exact fun H locs arr hn hP hS hl => lv_pop hx hb hd hv (kk H locs arr hn hP hS hl)
theorem g_dup2 {Lw : gL} {l : Launch} {X : gC} {cc : ByteArray} {own : String} {dd ca sa k n pc : Nat} {ls : List (Option Value)} {st : List Value} {σ : Mem} {v u : Value} (hC : gOk Lw l X cc own dd ca sa) (hd : decode cc pc = .ok (.dup2, 1)) (hv : v.category = 1) (hu : u.category = 1) (kk : G Lw X k n (pc + 1) ls (v :: u :: v :: u :: st) σ) : G Lw X k n pc ls (v :: u :: st) σ := by
  obtain ⟨p, l', e, R, s, m, args, below, meth, c, nL, H0, A, E, Q⟩ := X
  obtain ⟨hx, hb, hml, hown, hTB, hK, hD, hA, hR, hlocks, rfl, hh0, hNs⟩ := hC
  exact fun H locs arr hn hP hS hl => lv_dup2_11 hx hb hd hv hu (kk H locs arr hn hP hS hl)
theorem g_ild0 {Lw : gL} {l : Launch} {X : gC} {cc : ByteArray} {own : String} {dd ca sa k n pc : Nat} {st : List Value} {σ : Mem} {r : List (Option Value)} {x : Int32} (hC : gOk Lw l X cc own dd ca sa) (hd : decode cc pc = .ok (.iload_n 0, 1)) (kk : G Lw X k n (pc + 1) (some (.int x) :: r) (.int x :: st) σ) : G Lw X k n pc (some (.int x) :: r) st σ := by
  obtain ⟨p, l', e, R, s, m, args, below, meth, c, nL, H0, A, E, Q⟩ := X
  obtain ⟨hx, hb, hml, hown, hTB, hK, hD, hA, hR, hlocks, rfl, hh0, hNs⟩ := hC
  exact fun H locs arr hn hP hS hl => lv_iload_n hx hb hd rfl (g_loc hl 0 rfl) (kk H locs arr hn hP hS hl)
theorem g_ild1 {Lw : gL} {l : Launch} {X : gC} {cc : ByteArray} {own : String} {dd ca sa k n pc : Nat} {st : List Value} {σ : Mem} {a0 : Option Value} {r : List (Option Value)} {x : Int32} (hC : gOk Lw l X cc own dd ca sa) (hd : decode cc pc = .ok (.iload_n 1, 1)) (kk : G Lw X k n (pc + 1) (a0 :: some (.int x) :: r) (.int x :: st) σ) : G Lw X k n pc (a0 :: some (.int x) :: r) st σ := by
  obtain ⟨p, l', e, R, s, m, args, below, meth, c, nL, H0, A, E, Q⟩ := X
  obtain ⟨hx, hb, hml, hown, hTB, hK, hD, hA, hR, hlocks, rfl, hh0, hNs⟩ := hC
  exact fun H locs arr hn hP hS hl => lv_iload_n hx hb hd rfl (g_loc hl 1 rfl) (kk H locs arr hn hP hS hl)
theorem g_ild2 {Lw : gL} {l : Launch} {X : gC} {cc : ByteArray} {own : String} {dd ca sa k n pc : Nat} {st : List Value} {σ : Mem} {a0 a1 : Option Value} {r : List (Option Value)} {x : Int32} (hC : gOk Lw l X cc own dd ca sa) (hd : decode cc pc = .ok (.iload_n 2, 1)) (kk : G Lw X k n (pc + 1) (a0 :: a1 :: some (.int x) :: r) (.int x :: st) σ) : G Lw X k n pc (a0 :: a1 :: some (.int x) :: r) st σ := by
  obtain ⟨p, l', e, R, s, m, args, below, meth, c, nL, H0, A, E, Q⟩ := X
  obtain ⟨hx, hb, hml, hown, hTB, hK, hD, hA, hR, hlocks, rfl, hh0, hNs⟩ := hC
  exact fun H locs arr hn hP hS hl => lv_iload_n hx hb hd rfl (g_loc hl 2 rfl) (kk H locs arr hn hP hS hl)
theorem g_ild3 {Lw : gL} {l : Launch} {X : gC} {cc : ByteArray} {own : String} {dd ca sa k n pc : Nat} {st : List Value} {σ : Mem} {a0 a1 a2 : Option Value} {r : List (Option Value)} {x : Int32} (hC : gOk Lw l X cc own dd ca sa) (hd : decode cc pc = .ok (.iload_n 3, 1)) (kk : G Lw X k n (pc + 1) (a0 :: a1 :: a2 :: some (.int x) :: r) (.int x :: st) σ) : G Lw X k n pc (a0 :: a1 :: a2 :: some (.int x) :: r) st σ := by
  obtain ⟨p, l', e, R, s, m, args, below, meth, c, nL, H0, A, E, Q⟩ := X
  obtain ⟨hx, hb, hml, hown, hTB, hK, hD, hA, hR, hlocks, rfl, hh0, hNs⟩ := hC
  exact fun H locs arr hn hP hS hl => lv_iload_n hx hb hd rfl (g_loc hl 3 rfl) (kk H locs arr hn hP hS hl)
theorem g_ild4 {Lw : gL} {l : Launch} {X : gC} {cc : ByteArray} {own : String} {dd ca sa k n pc : Nat} {st : List Value} {σ : Mem} {a0 a1 a2 a3 : Option Value} {r : List (Option Value)} {x : Int32} (hC : gOk Lw l X cc own dd ca sa) (hd : decode cc pc = .ok (.iload 4, 2)) (kk : G Lw X k n (pc + 2) (a0 :: a1 :: a2 :: a3 :: some (.int x) :: r) (.int x :: st) σ) : G Lw X k n pc (a0 :: a1 :: a2 :: a3 :: some (.int x) :: r) st σ := by
  obtain ⟨p, l', e, R, s, m, args, below, meth, c, nL, H0, A, E, Q⟩ := X
  obtain ⟨hx, hb, hml, hown, hTB, hK, hD, hA, hR, hlocks, rfl, hh0, hNs⟩ := hC
  exact fun H locs arr hn hP hS hl => lv_iload hx hb hd (g_loc hl 4 rfl) (kk H locs arr hn hP hS hl)
theorem g_ild5 {Lw : gL} {l : Launch} {X : gC} {cc : ByteArray} {own : String} {dd ca sa k n pc : Nat} {st : List Value} {σ : Mem} {a0 a1 a2 a3 a4 : Option Value} {r : List (Option Value)} {x : Int32} (hC : gOk Lw l X cc own dd ca sa) (hd : decode cc pc = .ok (.iload 5, 2)) (kk : G Lw X k n (pc + 2) (a0 :: a1 :: a2 :: a3 :: a4 :: some (.int x) :: r) (.int x :: st) σ) : G Lw X k n pc (a0 :: a1 :: a2 :: a3 :: a4 :: some (.int x) :: r) st σ := by
  obtain ⟨p, l', e, R, s, m, args, below, meth, c, nL, H0, A, E, Q⟩ := X
  obtain ⟨hx, hb, hml, hown, hTB, hK, hD, hA, hR, hlocks, rfl, hh0, hNs⟩ := hC
  exact fun H locs arr hn hP hS hl => lv_iload hx hb hd (g_loc hl 5 rfl) (kk H locs arr hn hP hS hl)
theorem g_ild6 {Lw : gL} {l : Launch} {X : gC} {cc : ByteArray} {own : String} {dd ca sa k n pc : Nat} {st : List Value} {σ : Mem} {a0 a1 a2 a3 a4 a5 : Option Value} {r : List (Option Value)} {x : Int32} (hC : gOk Lw l X cc own dd ca sa) (hd : decode cc pc = .ok (.iload 6, 2)) (kk : G Lw X k n (pc + 2) (a0 :: a1 :: a2 :: a3 :: a4 :: a5 :: some (.int x) :: r) (.int x :: st) σ) : G Lw X k n pc (a0 :: a1 :: a2 :: a3 :: a4 :: a5 :: some (.int x) :: r) st σ := by
  obtain ⟨p, l', e, R, s, m, args, below, meth, c, nL, H0, A, E, Q⟩ := X
  obtain ⟨hx, hb, hml, hown, hTB, hK, hD, hA, hR, hlocks, rfl, hh0, hNs⟩ := hC
  exact fun H locs arr hn hP hS hl => lv_iload hx hb hd (g_loc hl 6 rfl) (kk H locs arr hn hP hS hl)
theorem g_ild7 {Lw : gL} {l : Launch} {X : gC} {cc : ByteArray} {own : String} {dd ca sa k n pc : Nat} {st : List Value} {σ : Mem} {a0 a1 a2 a3 a4 a5 a6 : Option Value} {r : List (Option Value)} {x : Int32} (hC : gOk Lw l X cc own dd ca sa) (hd : decode cc pc = .ok (.iload 7, 2)) (kk : G Lw X k n (pc + 2) (a0 :: a1 :: a2 :: a3 :: a4 :: a5 :: a6 :: some (.int x) :: r) (.int x :: st) σ) : G Lw X k n pc (a0 :: a1 :: a2 :: a3 :: a4 :: a5 :: a6 :: some (.int x) :: r) st σ := by
  obtain ⟨p, l', e, R, s, m, args, below, meth, c, nL, H0, A, E, Q⟩ := X
  obtain ⟨hx, hb, hml, hown, hTB, hK, hD, hA, hR, hlocks, rfl, hh0, hNs⟩ := hC
  exact fun H locs arr hn hP hS hl => lv_iload hx hb hd (g_loc hl 7 rfl) (kk H locs arr hn hP hS hl)
theorem g_ild8 {Lw : gL} {l : Launch} {X : gC} {cc : ByteArray} {own : String} {dd ca sa k n pc : Nat} {st : List Value} {σ : Mem} {a0 a1 a2 a3 a4 a5 a6 a7 : Option Value} {r : List (Option Value)} {x : Int32} (hC : gOk Lw l X cc own dd ca sa) (hd : decode cc pc = .ok (.iload 8, 2)) (kk : G Lw X k n (pc + 2) (a0 :: a1 :: a2 :: a3 :: a4 :: a5 :: a6 :: a7 :: some (.int x) :: r) (.int x :: st) σ) : G Lw X k n pc (a0 :: a1 :: a2 :: a3 :: a4 :: a5 :: a6 :: a7 :: some (.int x) :: r) st σ := by
  obtain ⟨p, l', e, R, s, m, args, below, meth, c, nL, H0, A, E, Q⟩ := X
  obtain ⟨hx, hb, hml, hown, hTB, hK, hD, hA, hR, hlocks, rfl, hh0, hNs⟩ := hC
  exact fun H locs arr hn hP hS hl => lv_iload hx hb hd (g_loc hl 8 rfl) (kk H locs arr hn hP hS hl)
theorem g_ild9 {Lw : gL} {l : Launch} {X : gC} {cc : ByteArray} {own : String} {dd ca sa k n pc : Nat} {st : List Value} {σ : Mem} {a0 a1 a2 a3 a4 a5 a6 a7 a8 : Option Value} {r : List (Option Value)} {x : Int32} (hC : gOk Lw l X cc own dd ca sa) (hd : decode cc pc = .ok (.iload 9, 2)) (kk : G Lw X k n (pc + 2) (a0 :: a1 :: a2 :: a3 :: a4 :: a5 :: a6 :: a7 :: a8 :: some (.int x) :: r) (.int x :: st) σ) : G Lw X k n pc (a0 :: a1 :: a2 :: a3 :: a4 :: a5 :: a6 :: a7 :: a8 :: some (.int x) :: r) st σ := by
  obtain ⟨p, l', e, R, s, m, args, below, meth, c, nL, H0, A, E, Q⟩ := X
  obtain ⟨hx, hb, hml, hown, hTB, hK, hD, hA, hR, hlocks, rfl, hh0, hNs⟩ := hC
  exact fun H locs arr hn hP hS hl => lv_iload hx hb hd (g_loc hl 9 rfl) (kk H locs arr hn hP hS hl)
theorem g_ild10 {Lw : gL} {l : Launch} {X : gC} {cc : ByteArray} {own : String} {dd ca sa k n pc : Nat} {st : List Value} {σ : Mem} {a0 a1 a2 a3 a4 a5 a6 a7 a8 a9 : Option Value} {r : List (Option Value)} {x : Int32} (hC : gOk Lw l X cc own dd ca sa) (hd : decode cc pc = .ok (.iload 10, 2)) (kk : G Lw X k n (pc + 2) (a0 :: a1 :: a2 :: a3 :: a4 :: a5 :: a6 :: a7 :: a8 :: a9 :: some (.int x) :: r) (.int x :: st) σ) : G Lw X k n pc (a0 :: a1 :: a2 :: a3 :: a4 :: a5 :: a6 :: a7 :: a8 :: a9 :: some (.int x) :: r) st σ := by
  obtain ⟨p, l', e, R, s, m, args, below, meth, c, nL, H0, A, E, Q⟩ := X
  obtain ⟨hx, hb, hml, hown, hTB, hK, hD, hA, hR, hlocks, rfl, hh0, hNs⟩ := hC
  exact fun H locs arr hn hP hS hl => lv_iload hx hb hd (g_loc hl 10 rfl) (kk H locs arr hn hP hS hl)
theorem g_ild11 {Lw : gL} {l : Launch} {X : gC} {cc : ByteArray} {own : String} {dd ca sa k n pc : Nat} {st : List Value} {σ : Mem} {a0 a1 a2 a3 a4 a5 a6 a7 a8 a9 a10 : Option Value} {r : List (Option Value)} {x : Int32} (hC : gOk Lw l X cc own dd ca sa) (hd : decode cc pc = .ok (.iload 11, 2)) (kk : G Lw X k n (pc + 2) (a0 :: a1 :: a2 :: a3 :: a4 :: a5 :: a6 :: a7 :: a8 :: a9 :: a10 :: some (.int x) :: r) (.int x :: st) σ) : G Lw X k n pc (a0 :: a1 :: a2 :: a3 :: a4 :: a5 :: a6 :: a7 :: a8 :: a9 :: a10 :: some (.int x) :: r) st σ := by
  obtain ⟨p, l', e, R, s, m, args, below, meth, c, nL, H0, A, E, Q⟩ := X
  obtain ⟨hx, hb, hml, hown, hTB, hK, hD, hA, hR, hlocks, rfl, hh0, hNs⟩ := hC
  exact fun H locs arr hn hP hS hl => lv_iload hx hb hd (g_loc hl 11 rfl) (kk H locs arr hn hP hS hl)
theorem g_ald0 {Lw : gL} {l : Launch} {X : gC} {cc : ByteArray} {own : String} {dd ca sa k n pc : Nat} {st : List Value} {σ : Mem} {r : List (Option Value)} {x : Nat} (hC : gOk Lw l X cc own dd ca sa) (hd : decode cc pc = .ok (.aload_n 0, 1)) (kk : G Lw X k n (pc + 1) (some (.ref x) :: r) (.ref x :: st) σ) : G Lw X k n pc (some (.ref x) :: r) st σ := by
  obtain ⟨p, l', e, R, s, m, args, below, meth, c, nL, H0, A, E, Q⟩ := X
  obtain ⟨hx, hb, hml, hown, hTB, hK, hD, hA, hR, hlocks, rfl, hh0, hNs⟩ := hC
  exact fun H locs arr hn hP hS hl => lv_aload_n hx hb hd rfl (g_loc hl 0 rfl) (kk H locs arr hn hP hS hl)
theorem g_ald1 {Lw : gL} {l : Launch} {X : gC} {cc : ByteArray} {own : String} {dd ca sa k n pc : Nat} {st : List Value} {σ : Mem} {a0 : Option Value} {r : List (Option Value)} {x : Nat} (hC : gOk Lw l X cc own dd ca sa) (hd : decode cc pc = .ok (.aload_n 1, 1)) (kk : G Lw X k n (pc + 1) (a0 :: some (.ref x) :: r) (.ref x :: st) σ) : G Lw X k n pc (a0 :: some (.ref x) :: r) st σ := by
  obtain ⟨p, l', e, R, s, m, args, below, meth, c, nL, H0, A, E, Q⟩ := X
  obtain ⟨hx, hb, hml, hown, hTB, hK, hD, hA, hR, hlocks, rfl, hh0, hNs⟩ := hC
  exact fun H locs arr hn hP hS hl => lv_aload_n hx hb hd rfl (g_loc hl 1 rfl) (kk H locs arr hn hP hS hl)
theorem g_ald2 {Lw : gL} {l : Launch} {X : gC} {cc : ByteArray} {own : String} {dd ca sa k n pc : Nat} {st : List Value} {σ : Mem} {a0 a1 : Option Value} {r : List (Option Value)} {x : Nat} (hC : gOk Lw l X cc own dd ca sa) (hd : decode cc pc = .ok (.aload_n 2, 1)) (kk : G Lw X k n (pc + 1) (a0 :: a1 :: some (.ref x) :: r) (.ref x :: st) σ) : G Lw X k n pc (a0 :: a1 :: some (.ref x) :: r) st σ := by
  obtain ⟨p, l', e, R, s, m, args, below, meth, c, nL, H0, A, E, Q⟩ := X
  obtain ⟨hx, hb, hml, hown, hTB, hK, hD, hA, hR, hlocks, rfl, hh0, hNs⟩ := hC
  exact fun H locs arr hn hP hS hl => lv_aload_n hx hb hd rfl (g_loc hl 2 rfl) (kk H locs arr hn hP hS hl)
theorem g_ald3 {Lw : gL} {l : Launch} {X : gC} {cc : ByteArray} {own : String} {dd ca sa k n pc : Nat} {st : List Value} {σ : Mem} {a0 a1 a2 : Option Value} {r : List (Option Value)} {x : Nat} (hC : gOk Lw l X cc own dd ca sa) (hd : decode cc pc = .ok (.aload_n 3, 1)) (kk : G Lw X k n (pc + 1) (a0 :: a1 :: a2 :: some (.ref x) :: r) (.ref x :: st) σ) : G Lw X k n pc (a0 :: a1 :: a2 :: some (.ref x) :: r) st σ := by
  obtain ⟨p, l', e, R, s, m, args, below, meth, c, nL, H0, A, E, Q⟩ := X
  obtain ⟨hx, hb, hml, hown, hTB, hK, hD, hA, hR, hlocks, rfl, hh0, hNs⟩ := hC
  exact fun H locs arr hn hP hS hl => lv_aload_n hx hb hd rfl (g_loc hl 3 rfl) (kk H locs arr hn hP hS hl)
theorem g_ald4 {Lw : gL} {l : Launch} {X : gC} {cc : ByteArray} {own : String} {dd ca sa k n pc : Nat} {st : List Value} {σ : Mem} {a0 a1 a2 a3 : Option Value} {r : List (Option Value)} {x : Nat} (hC : gOk Lw l X cc own dd ca sa) (hd : decode cc pc = .ok (.aload 4, 2)) (kk : G Lw X k n (pc + 2) (a0 :: a1 :: a2 :: a3 :: some (.ref x) :: r) (.ref x :: st) σ) : G Lw X k n pc (a0 :: a1 :: a2 :: a3 :: some (.ref x) :: r) st σ := by
  obtain ⟨p, l', e, R, s, m, args, below, meth, c, nL, H0, A, E, Q⟩ := X
  obtain ⟨hx, hb, hml, hown, hTB, hK, hD, hA, hR, hlocks, rfl, hh0, hNs⟩ := hC
  exact fun H locs arr hn hP hS hl => lv_aload hx hb hd (g_loc hl 4 rfl) (kk H locs arr hn hP hS hl)
theorem g_ald5 {Lw : gL} {l : Launch} {X : gC} {cc : ByteArray} {own : String} {dd ca sa k n pc : Nat} {st : List Value} {σ : Mem} {a0 a1 a2 a3 a4 : Option Value} {r : List (Option Value)} {x : Nat} (hC : gOk Lw l X cc own dd ca sa) (hd : decode cc pc = .ok (.aload 5, 2)) (kk : G Lw X k n (pc + 2) (a0 :: a1 :: a2 :: a3 :: a4 :: some (.ref x) :: r) (.ref x :: st) σ) : G Lw X k n pc (a0 :: a1 :: a2 :: a3 :: a4 :: some (.ref x) :: r) st σ := by
  obtain ⟨p, l', e, R, s, m, args, below, meth, c, nL, H0, A, E, Q⟩ := X
  obtain ⟨hx, hb, hml, hown, hTB, hK, hD, hA, hR, hlocks, rfl, hh0, hNs⟩ := hC
  exact fun H locs arr hn hP hS hl => lv_aload hx hb hd (g_loc hl 5 rfl) (kk H locs arr hn hP hS hl)
theorem g_ald6 {Lw : gL} {l : Launch} {X : gC} {cc : ByteArray} {own : String} {dd ca sa k n pc : Nat} {st : List Value} {σ : Mem} {a0 a1 a2 a3 a4 a5 : Option Value} {r : List (Option Value)} {x : Nat} (hC : gOk Lw l X cc own dd ca sa) (hd : decode cc pc = .ok (.aload 6, 2)) (kk : G Lw X k n (pc + 2) (a0 :: a1 :: a2 :: a3 :: a4 :: a5 :: some (.ref x) :: r) (.ref x :: st) σ) : G Lw X k n pc (a0 :: a1 :: a2 :: a3 :: a4 :: a5 :: some (.ref x) :: r) st σ := by
  obtain ⟨p, l', e, R, s, m, args, below, meth, c, nL, H0, A, E, Q⟩ := X
  obtain ⟨hx, hb, hml, hown, hTB, hK, hD, hA, hR, hlocks, rfl, hh0, hNs⟩ := hC
  exact fun H locs arr hn hP hS hl => lv_aload hx hb hd (g_loc hl 6 rfl) (kk H locs arr hn hP hS hl)
theorem g_ald7 {Lw : gL} {l : Launch} {X : gC} {cc : ByteArray} {own : String} {dd ca sa k n pc : Nat} {st : List Value} {σ : Mem} {a0 a1 a2 a3 a4 a5 a6 : Option Value} {r : List (Option Value)} {x : Nat} (hC : gOk Lw l X cc own dd ca sa) (hd : decode cc pc = .ok (.aload 7, 2)) (kk : G Lw X k n (pc + 2) (a0 :: a1 :: a2 :: a3 :: a4 :: a5 :: a6 :: some (.ref x) :: r) (.ref x :: st) σ) : G Lw X k n pc (a0 :: a1 :: a2 :: a3 :: a4 :: a5 :: a6 :: some (.ref x) :: r) st σ := by
  obtain ⟨p, l', e, R, s, m, args, below, meth, c, nL, H0, A, E, Q⟩ := X
  obtain ⟨hx, hb, hml, hown, hTB, hK, hD, hA, hR, hlocks, rfl, hh0, hNs⟩ := hC
  exact fun H locs arr hn hP hS hl => lv_aload hx hb hd (g_loc hl 7 rfl) (kk H locs arr hn hP hS hl)
theorem g_ald8 {Lw : gL} {l : Launch} {X : gC} {cc : ByteArray} {own : String} {dd ca sa k n pc : Nat} {st : List Value} {σ : Mem} {a0 a1 a2 a3 a4 a5 a6 a7 : Option Value} {r : List (Option Value)} {x : Nat} (hC : gOk Lw l X cc own dd ca sa) (hd : decode cc pc = .ok (.aload 8, 2)) (kk : G Lw X k n (pc + 2) (a0 :: a1 :: a2 :: a3 :: a4 :: a5 :: a6 :: a7 :: some (.ref x) :: r) (.ref x :: st) σ) : G Lw X k n pc (a0 :: a1 :: a2 :: a3 :: a4 :: a5 :: a6 :: a7 :: some (.ref x) :: r) st σ := by
  obtain ⟨p, l', e, R, s, m, args, below, meth, c, nL, H0, A, E, Q⟩ := X
  obtain ⟨hx, hb, hml, hown, hTB, hK, hD, hA, hR, hlocks, rfl, hh0, hNs⟩ := hC
  exact fun H locs arr hn hP hS hl => lv_aload hx hb hd (g_loc hl 8 rfl) (kk H locs arr hn hP hS hl)
theorem g_ald9 {Lw : gL} {l : Launch} {X : gC} {cc : ByteArray} {own : String} {dd ca sa k n pc : Nat} {st : List Value} {σ : Mem} {a0 a1 a2 a3 a4 a5 a6 a7 a8 : Option Value} {r : List (Option Value)} {x : Nat} (hC : gOk Lw l X cc own dd ca sa) (hd : decode cc pc = .ok (.aload 9, 2)) (kk : G Lw X k n (pc + 2) (a0 :: a1 :: a2 :: a3 :: a4 :: a5 :: a6 :: a7 :: a8 :: some (.ref x) :: r) (.ref x :: st) σ) : G Lw X k n pc (a0 :: a1 :: a2 :: a3 :: a4 :: a5 :: a6 :: a7 :: a8 :: some (.ref x) :: r) st σ := by
  obtain ⟨p, l', e, R, s, m, args, below, meth, c, nL, H0, A, E, Q⟩ := X
  obtain ⟨hx, hb, hml, hown, hTB, hK, hD, hA, hR, hlocks, rfl, hh0, hNs⟩ := hC
  exact fun H locs arr hn hP hS hl => lv_aload hx hb hd (g_loc hl 9 rfl) (kk H locs arr hn hP hS hl)
theorem g_ald10 {Lw : gL} {l : Launch} {X : gC} {cc : ByteArray} {own : String} {dd ca sa k n pc : Nat} {st : List Value} {σ : Mem} {a0 a1 a2 a3 a4 a5 a6 a7 a8 a9 : Option Value} {r : List (Option Value)} {x : Nat} (hC : gOk Lw l X cc own dd ca sa) (hd : decode cc pc = .ok (.aload 10, 2)) (kk : G Lw X k n (pc + 2) (a0 :: a1 :: a2 :: a3 :: a4 :: a5 :: a6 :: a7 :: a8 :: a9 :: some (.ref x) :: r) (.ref x :: st) σ) : G Lw X k n pc (a0 :: a1 :: a2 :: a3 :: a4 :: a5 :: a6 :: a7 :: a8 :: a9 :: some (.ref x) :: r) st σ := by
  obtain ⟨p, l', e, R, s, m, args, below, meth, c, nL, H0, A, E, Q⟩ := X
  obtain ⟨hx, hb, hml, hown, hTB, hK, hD, hA, hR, hlocks, rfl, hh0, hNs⟩ := hC
  exact fun H locs arr hn hP hS hl => lv_aload hx hb hd (g_loc hl 10 rfl) (kk H locs arr hn hP hS hl)
theorem g_ald11 {Lw : gL} {l : Launch} {X : gC} {cc : ByteArray} {own : String} {dd ca sa k n pc : Nat} {st : List Value} {σ : Mem} {a0 a1 a2 a3 a4 a5 a6 a7 a8 a9 a10 : Option Value} {r : List (Option Value)} {x : Nat} (hC : gOk Lw l X cc own dd ca sa) (hd : decode cc pc = .ok (.aload 11, 2)) (kk : G Lw X k n (pc + 2) (a0 :: a1 :: a2 :: a3 :: a4 :: a5 :: a6 :: a7 :: a8 :: a9 :: a10 :: some (.ref x) :: r) (.ref x :: st) σ) : G Lw X k n pc (a0 :: a1 :: a2 :: a3 :: a4 :: a5 :: a6 :: a7 :: a8 :: a9 :: a10 :: some (.ref x) :: r) st σ := by
  obtain ⟨p, l', e, R, s, m, args, below, meth, c, nL, H0, A, E, Q⟩ := X
  obtain ⟨hx, hb, hml, hown, hTB, hK, hD, hA, hR, hlocks, rfl, hh0, hNs⟩ := hC
  exact fun H locs arr hn hP hS hl => lv_aload hx hb hd (g_loc hl 11 rfl) (kk H locs arr hn hP hS hl)
theorem g_lld0 {Lw : gL} {l : Launch} {X : gC} {cc : ByteArray} {own : String} {dd ca sa k n pc : Nat} {st : List Value} {σ : Mem} {r : List (Option Value)} {x : Int64} (hC : gOk Lw l X cc own dd ca sa) (hd : decode cc pc = .ok (.lload_n 0, 1)) (kk : G Lw X k n (pc + 1) (some (.long x) :: r) (.long x :: st) σ) : G Lw X k n pc (some (.long x) :: r) st σ := by
  obtain ⟨p, l', e, R, s, m, args, below, meth, c, nL, H0, A, E, Q⟩ := X
  obtain ⟨hx, hb, hml, hown, hTB, hK, hD, hA, hR, hlocks, rfl, hh0, hNs⟩ := hC
  exact fun H locs arr hn hP hS hl => lv_lload_n hx hb hd rfl (g_loc hl 0 rfl) (kk H locs arr hn hP hS hl)
theorem g_lld1 {Lw : gL} {l : Launch} {X : gC} {cc : ByteArray} {own : String} {dd ca sa k n pc : Nat} {st : List Value} {σ : Mem} {a0 : Option Value} {r : List (Option Value)} {x : Int64} (hC : gOk Lw l X cc own dd ca sa) (hd : decode cc pc = .ok (.lload_n 1, 1)) (kk : G Lw X k n (pc + 1) (a0 :: some (.long x) :: r) (.long x :: st) σ) : G Lw X k n pc (a0 :: some (.long x) :: r) st σ := by
  obtain ⟨p, l', e, R, s, m, args, below, meth, c, nL, H0, A, E, Q⟩ := X
  obtain ⟨hx, hb, hml, hown, hTB, hK, hD, hA, hR, hlocks, rfl, hh0, hNs⟩ := hC
  exact fun H locs arr hn hP hS hl => lv_lload_n hx hb hd rfl (g_loc hl 1 rfl) (kk H locs arr hn hP hS hl)
theorem g_lld2 {Lw : gL} {l : Launch} {X : gC} {cc : ByteArray} {own : String} {dd ca sa k n pc : Nat} {st : List Value} {σ : Mem} {a0 a1 : Option Value} {r : List (Option Value)} {x : Int64} (hC : gOk Lw l X cc own dd ca sa) (hd : decode cc pc = .ok (.lload_n 2, 1)) (kk : G Lw X k n (pc + 1) (a0 :: a1 :: some (.long x) :: r) (.long x :: st) σ) : G Lw X k n pc (a0 :: a1 :: some (.long x) :: r) st σ := by
  obtain ⟨p, l', e, R, s, m, args, below, meth, c, nL, H0, A, E, Q⟩ := X
  obtain ⟨hx, hb, hml, hown, hTB, hK, hD, hA, hR, hlocks, rfl, hh0, hNs⟩ := hC
  exact fun H locs arr hn hP hS hl => lv_lload_n hx hb hd rfl (g_loc hl 2 rfl) (kk H locs arr hn hP hS hl)
theorem g_lld3 {Lw : gL} {l : Launch} {X : gC} {cc : ByteArray} {own : String} {dd ca sa k n pc : Nat} {st : List Value} {σ : Mem} {a0 a1 a2 : Option Value} {r : List (Option Value)} {x : Int64} (hC : gOk Lw l X cc own dd ca sa) (hd : decode cc pc = .ok (.lload_n 3, 1)) (kk : G Lw X k n (pc + 1) (a0 :: a1 :: a2 :: some (.long x) :: r) (.long x :: st) σ) : G Lw X k n pc (a0 :: a1 :: a2 :: some (.long x) :: r) st σ := by
  obtain ⟨p, l', e, R, s, m, args, below, meth, c, nL, H0, A, E, Q⟩ := X
  obtain ⟨hx, hb, hml, hown, hTB, hK, hD, hA, hR, hlocks, rfl, hh0, hNs⟩ := hC
  exact fun H locs arr hn hP hS hl => lv_lload_n hx hb hd rfl (g_loc hl 3 rfl) (kk H locs arr hn hP hS hl)
theorem g_lld4 {Lw : gL} {l : Launch} {X : gC} {cc : ByteArray} {own : String} {dd ca sa k n pc : Nat} {st : List Value} {σ : Mem} {a0 a1 a2 a3 : Option Value} {r : List (Option Value)} {x : Int64} (hC : gOk Lw l X cc own dd ca sa) (hd : decode cc pc = .ok (.lload 4, 2)) (kk : G Lw X k n (pc + 2) (a0 :: a1 :: a2 :: a3 :: some (.long x) :: r) (.long x :: st) σ) : G Lw X k n pc (a0 :: a1 :: a2 :: a3 :: some (.long x) :: r) st σ := by
  obtain ⟨p, l', e, R, s, m, args, below, meth, c, nL, H0, A, E, Q⟩ := X
  obtain ⟨hx, hb, hml, hown, hTB, hK, hD, hA, hR, hlocks, rfl, hh0, hNs⟩ := hC
  exact fun H locs arr hn hP hS hl => lv_lload hx hb hd (g_loc hl 4 rfl) (kk H locs arr hn hP hS hl)
theorem g_lld5 {Lw : gL} {l : Launch} {X : gC} {cc : ByteArray} {own : String} {dd ca sa k n pc : Nat} {st : List Value} {σ : Mem} {a0 a1 a2 a3 a4 : Option Value} {r : List (Option Value)} {x : Int64} (hC : gOk Lw l X cc own dd ca sa) (hd : decode cc pc = .ok (.lload 5, 2)) (kk : G Lw X k n (pc + 2) (a0 :: a1 :: a2 :: a3 :: a4 :: some (.long x) :: r) (.long x :: st) σ) : G Lw X k n pc (a0 :: a1 :: a2 :: a3 :: a4 :: some (.long x) :: r) st σ := by
  obtain ⟨p, l', e, R, s, m, args, below, meth, c, nL, H0, A, E, Q⟩ := X
  obtain ⟨hx, hb, hml, hown, hTB, hK, hD, hA, hR, hlocks, rfl, hh0, hNs⟩ := hC
  exact fun H locs arr hn hP hS hl => lv_lload hx hb hd (g_loc hl 5 rfl) (kk H locs arr hn hP hS hl)
theorem g_lld6 {Lw : gL} {l : Launch} {X : gC} {cc : ByteArray} {own : String} {dd ca sa k n pc : Nat} {st : List Value} {σ : Mem} {a0 a1 a2 a3 a4 a5 : Option Value} {r : List (Option Value)} {x : Int64} (hC : gOk Lw l X cc own dd ca sa) (hd : decode cc pc = .ok (.lload 6, 2)) (kk : G Lw X k n (pc + 2) (a0 :: a1 :: a2 :: a3 :: a4 :: a5 :: some (.long x) :: r) (.long x :: st) σ) : G Lw X k n pc (a0 :: a1 :: a2 :: a3 :: a4 :: a5 :: some (.long x) :: r) st σ := by
  obtain ⟨p, l', e, R, s, m, args, below, meth, c, nL, H0, A, E, Q⟩ := X
  obtain ⟨hx, hb, hml, hown, hTB, hK, hD, hA, hR, hlocks, rfl, hh0, hNs⟩ := hC
  exact fun H locs arr hn hP hS hl => lv_lload hx hb hd (g_loc hl 6 rfl) (kk H locs arr hn hP hS hl)
theorem g_lld7 {Lw : gL} {l : Launch} {X : gC} {cc : ByteArray} {own : String} {dd ca sa k n pc : Nat} {st : List Value} {σ : Mem} {a0 a1 a2 a3 a4 a5 a6 : Option Value} {r : List (Option Value)} {x : Int64} (hC : gOk Lw l X cc own dd ca sa) (hd : decode cc pc = .ok (.lload 7, 2)) (kk : G Lw X k n (pc + 2) (a0 :: a1 :: a2 :: a3 :: a4 :: a5 :: a6 :: some (.long x) :: r) (.long x :: st) σ) : G Lw X k n pc (a0 :: a1 :: a2 :: a3 :: a4 :: a5 :: a6 :: some (.long x) :: r) st σ := by
  obtain ⟨p, l', e, R, s, m, args, below, meth, c, nL, H0, A, E, Q⟩ := X
  obtain ⟨hx, hb, hml, hown, hTB, hK, hD, hA, hR, hlocks, rfl, hh0, hNs⟩ := hC
  exact fun H locs arr hn hP hS hl => lv_lload hx hb hd (g_loc hl 7 rfl) (kk H locs arr hn hP hS hl)
theorem g_lld8 {Lw : gL} {l : Launch} {X : gC} {cc : ByteArray} {own : String} {dd ca sa k n pc : Nat} {st : List Value} {σ : Mem} {a0 a1 a2 a3 a4 a5 a6 a7 : Option Value} {r : List (Option Value)} {x : Int64} (hC : gOk Lw l X cc own dd ca sa) (hd : decode cc pc = .ok (.lload 8, 2)) (kk : G Lw X k n (pc + 2) (a0 :: a1 :: a2 :: a3 :: a4 :: a5 :: a6 :: a7 :: some (.long x) :: r) (.long x :: st) σ) : G Lw X k n pc (a0 :: a1 :: a2 :: a3 :: a4 :: a5 :: a6 :: a7 :: some (.long x) :: r) st σ := by
  obtain ⟨p, l', e, R, s, m, args, below, meth, c, nL, H0, A, E, Q⟩ := X
  obtain ⟨hx, hb, hml, hown, hTB, hK, hD, hA, hR, hlocks, rfl, hh0, hNs⟩ := hC
  exact fun H locs arr hn hP hS hl => lv_lload hx hb hd (g_loc hl 8 rfl) (kk H locs arr hn hP hS hl)
theorem g_lld9 {Lw : gL} {l : Launch} {X : gC} {cc : ByteArray} {own : String} {dd ca sa k n pc : Nat} {st : List Value} {σ : Mem} {a0 a1 a2 a3 a4 a5 a6 a7 a8 : Option Value} {r : List (Option Value)} {x : Int64} (hC : gOk Lw l X cc own dd ca sa) (hd : decode cc pc = .ok (.lload 9, 2)) (kk : G Lw X k n (pc + 2) (a0 :: a1 :: a2 :: a3 :: a4 :: a5 :: a6 :: a7 :: a8 :: some (.long x) :: r) (.long x :: st) σ) : G Lw X k n pc (a0 :: a1 :: a2 :: a3 :: a4 :: a5 :: a6 :: a7 :: a8 :: some (.long x) :: r) st σ := by
  obtain ⟨p, l', e, R, s, m, args, below, meth, c, nL, H0, A, E, Q⟩ := X
  obtain ⟨hx, hb, hml, hown, hTB, hK, hD, hA, hR, hlocks, rfl, hh0, hNs⟩ := hC
  exact fun H locs arr hn hP hS hl => lv_lload hx hb hd (g_loc hl 9 rfl) (kk H locs arr hn hP hS hl)
theorem g_lld10 {Lw : gL} {l : Launch} {X : gC} {cc : ByteArray} {own : String} {dd ca sa k n pc : Nat} {st : List Value} {σ : Mem} {a0 a1 a2 a3 a4 a5 a6 a7 a8 a9 : Option Value} {r : List (Option Value)} {x : Int64} (hC : gOk Lw l X cc own dd ca sa) (hd : decode cc pc = .ok (.lload 10, 2)) (kk : G Lw X k n (pc + 2) (a0 :: a1 :: a2 :: a3 :: a4 :: a5 :: a6 :: a7 :: a8 :: a9 :: some (.long x) :: r) (.long x :: st) σ) : G Lw X k n pc (a0 :: a1 :: a2 :: a3 :: a4 :: a5 :: a6 :: a7 :: a8 :: a9 :: some (.long x) :: r) st σ := by
  obtain ⟨p, l', e, R, s, m, args, below, meth, c, nL, H0, A, E, Q⟩ := X
  obtain ⟨hx, hb, hml, hown, hTB, hK, hD, hA, hR, hlocks, rfl, hh0, hNs⟩ := hC
  exact fun H locs arr hn hP hS hl => lv_lload hx hb hd (g_loc hl 10 rfl) (kk H locs arr hn hP hS hl)
theorem g_lld11 {Lw : gL} {l : Launch} {X : gC} {cc : ByteArray} {own : String} {dd ca sa k n pc : Nat} {st : List Value} {σ : Mem} {a0 a1 a2 a3 a4 a5 a6 a7 a8 a9 a10 : Option Value} {r : List (Option Value)} {x : Int64} (hC : gOk Lw l X cc own dd ca sa) (hd : decode cc pc = .ok (.lload 11, 2)) (kk : G Lw X k n (pc + 2) (a0 :: a1 :: a2 :: a3 :: a4 :: a5 :: a6 :: a7 :: a8 :: a9 :: a10 :: some (.long x) :: r) (.long x :: st) σ) : G Lw X k n pc (a0 :: a1 :: a2 :: a3 :: a4 :: a5 :: a6 :: a7 :: a8 :: a9 :: a10 :: some (.long x) :: r) st σ := by
  obtain ⟨p, l', e, R, s, m, args, below, meth, c, nL, H0, A, E, Q⟩ := X
  obtain ⟨hx, hb, hml, hown, hTB, hK, hD, hA, hR, hlocks, rfl, hh0, hNs⟩ := hC
  exact fun H locs arr hn hP hS hl => lv_lload hx hb hd (g_loc hl 11 rfl) (kk H locs arr hn hP hS hl)
theorem g_dld0 {Lw : gL} {l : Launch} {X : gC} {cc : ByteArray} {own : String} {dd ca sa k n pc : Nat} {st : List Value} {σ : Mem} {r : List (Option Value)} {x : UInt64} (hC : gOk Lw l X cc own dd ca sa) (hd : decode cc pc = .ok (.dload_n 0, 1)) (kk : G Lw X k n (pc + 1) (some (.double x) :: r) (.double x :: st) σ) : G Lw X k n pc (some (.double x) :: r) st σ := by
  obtain ⟨p, l', e, R, s, m, args, below, meth, c, nL, H0, A, E, Q⟩ := X
  obtain ⟨hx, hb, hml, hown, hTB, hK, hD, hA, hR, hlocks, rfl, hh0, hNs⟩ := hC
  exact fun H locs arr hn hP hS hl => lv_dload_n hx hb hd rfl (g_loc hl 0 rfl) (kk H locs arr hn hP hS hl)
theorem g_dld1 {Lw : gL} {l : Launch} {X : gC} {cc : ByteArray} {own : String} {dd ca sa k n pc : Nat} {st : List Value} {σ : Mem} {a0 : Option Value} {r : List (Option Value)} {x : UInt64} (hC : gOk Lw l X cc own dd ca sa) (hd : decode cc pc = .ok (.dload_n 1, 1)) (kk : G Lw X k n (pc + 1) (a0 :: some (.double x) :: r) (.double x :: st) σ) : G Lw X k n pc (a0 :: some (.double x) :: r) st σ := by
  obtain ⟨p, l', e, R, s, m, args, below, meth, c, nL, H0, A, E, Q⟩ := X
  obtain ⟨hx, hb, hml, hown, hTB, hK, hD, hA, hR, hlocks, rfl, hh0, hNs⟩ := hC
  exact fun H locs arr hn hP hS hl => lv_dload_n hx hb hd rfl (g_loc hl 1 rfl) (kk H locs arr hn hP hS hl)
theorem g_dld2 {Lw : gL} {l : Launch} {X : gC} {cc : ByteArray} {own : String} {dd ca sa k n pc : Nat} {st : List Value} {σ : Mem} {a0 a1 : Option Value} {r : List (Option Value)} {x : UInt64} (hC : gOk Lw l X cc own dd ca sa) (hd : decode cc pc = .ok (.dload_n 2, 1)) (kk : G Lw X k n (pc + 1) (a0 :: a1 :: some (.double x) :: r) (.double x :: st) σ) : G Lw X k n pc (a0 :: a1 :: some (.double x) :: r) st σ := by
  obtain ⟨p, l', e, R, s, m, args, below, meth, c, nL, H0, A, E, Q⟩ := X
  obtain ⟨hx, hb, hml, hown, hTB, hK, hD, hA, hR, hlocks, rfl, hh0, hNs⟩ := hC
  exact fun H locs arr hn hP hS hl => lv_dload_n hx hb hd rfl (g_loc hl 2 rfl) (kk H locs arr hn hP hS hl)
theorem g_dld3 {Lw : gL} {l : Launch} {X : gC} {cc : ByteArray} {own : String} {dd ca sa k n pc : Nat} {st : List Value} {σ : Mem} {a0 a1 a2 : Option Value} {r : List (Option Value)} {x : UInt64} (hC : gOk Lw l X cc own dd ca sa) (hd : decode cc pc = .ok (.dload_n 3, 1)) (kk : G Lw X k n (pc + 1) (a0 :: a1 :: a2 :: some (.double x) :: r) (.double x :: st) σ) : G Lw X k n pc (a0 :: a1 :: a2 :: some (.double x) :: r) st σ := by
  obtain ⟨p, l', e, R, s, m, args, below, meth, c, nL, H0, A, E, Q⟩ := X
  obtain ⟨hx, hb, hml, hown, hTB, hK, hD, hA, hR, hlocks, rfl, hh0, hNs⟩ := hC
  exact fun H locs arr hn hP hS hl => lv_dload_n hx hb hd rfl (g_loc hl 3 rfl) (kk H locs arr hn hP hS hl)
theorem g_dld4 {Lw : gL} {l : Launch} {X : gC} {cc : ByteArray} {own : String} {dd ca sa k n pc : Nat} {st : List Value} {σ : Mem} {a0 a1 a2 a3 : Option Value} {r : List (Option Value)} {x : UInt64} (hC : gOk Lw l X cc own dd ca sa) (hd : decode cc pc = .ok (.dload 4, 2)) (kk : G Lw X k n (pc + 2) (a0 :: a1 :: a2 :: a3 :: some (.double x) :: r) (.double x :: st) σ) : G Lw X k n pc (a0 :: a1 :: a2 :: a3 :: some (.double x) :: r) st σ := by
  obtain ⟨p, l', e, R, s, m, args, below, meth, c, nL, H0, A, E, Q⟩ := X
  obtain ⟨hx, hb, hml, hown, hTB, hK, hD, hA, hR, hlocks, rfl, hh0, hNs⟩ := hC
  exact fun H locs arr hn hP hS hl => lv_dload hx hb hd (g_loc hl 4 rfl) (kk H locs arr hn hP hS hl)
theorem g_dld5 {Lw : gL} {l : Launch} {X : gC} {cc : ByteArray} {own : String} {dd ca sa k n pc : Nat} {st : List Value} {σ : Mem} {a0 a1 a2 a3 a4 : Option Value} {r : List (Option Value)} {x : UInt64} (hC : gOk Lw l X cc own dd ca sa) (hd : decode cc pc = .ok (.dload 5, 2)) (kk : G Lw X k n (pc + 2) (a0 :: a1 :: a2 :: a3 :: a4 :: some (.double x) :: r) (.double x :: st) σ) : G Lw X k n pc (a0 :: a1 :: a2 :: a3 :: a4 :: some (.double x) :: r) st σ := by
  obtain ⟨p, l', e, R, s, m, args, below, meth, c, nL, H0, A, E, Q⟩ := X
  obtain ⟨hx, hb, hml, hown, hTB, hK, hD, hA, hR, hlocks, rfl, hh0, hNs⟩ := hC
  exact fun H locs arr hn hP hS hl => lv_dload hx hb hd (g_loc hl 5 rfl) (kk H locs arr hn hP hS hl)
theorem g_dld6 {Lw : gL} {l : Launch} {X : gC} {cc : ByteArray} {own : String} {dd ca sa k n pc : Nat} {st : List Value} {σ : Mem} {a0 a1 a2 a3 a4 a5 : Option Value} {r : List (Option Value)} {x : UInt64} (hC : gOk Lw l X cc own dd ca sa) (hd : decode cc pc = .ok (.dload 6, 2)) (kk : G Lw X k n (pc + 2) (a0 :: a1 :: a2 :: a3 :: a4 :: a5 :: some (.double x) :: r) (.double x :: st) σ) : G Lw X k n pc (a0 :: a1 :: a2 :: a3 :: a4 :: a5 :: some (.double x) :: r) st σ := by
  obtain ⟨p, l', e, R, s, m, args, below, meth, c, nL, H0, A, E, Q⟩ := X
  obtain ⟨hx, hb, hml, hown, hTB, hK, hD, hA, hR, hlocks, rfl, hh0, hNs⟩ := hC
  exact fun H locs arr hn hP hS hl => lv_dload hx hb hd (g_loc hl 6 rfl) (kk H locs arr hn hP hS hl)
theorem g_dld7 {Lw : gL} {l : Launch} {X : gC} {cc : ByteArray} {own : String} {dd ca sa k n pc : Nat} {st : List Value} {σ : Mem} {a0 a1 a2 a3 a4 a5 a6 : Option Value} {r : List (Option Value)} {x : UInt64} (hC : gOk Lw l X cc own dd ca sa) (hd : decode cc pc = .ok (.dload 7, 2)) (kk : G Lw X k n (pc + 2) (a0 :: a1 :: a2 :: a3 :: a4 :: a5 :: a6 :: some (.double x) :: r) (.double x :: st) σ) : G Lw X k n pc (a0 :: a1 :: a2 :: a3 :: a4 :: a5 :: a6 :: some (.double x) :: r) st σ := by
  obtain ⟨p, l', e, R, s, m, args, below, meth, c, nL, H0, A, E, Q⟩ := X
  obtain ⟨hx, hb, hml, hown, hTB, hK, hD, hA, hR, hlocks, rfl, hh0, hNs⟩ := hC
  exact fun H locs arr hn hP hS hl => lv_dload hx hb hd (g_loc hl 7 rfl) (kk H locs arr hn hP hS hl)
theorem g_dld8 {Lw : gL} {l : Launch} {X : gC} {cc : ByteArray} {own : String} {dd ca sa k n pc : Nat} {st : List Value} {σ : Mem} {a0 a1 a2 a3 a4 a5 a6 a7 : Option Value} {r : List (Option Value)} {x : UInt64} (hC : gOk Lw l X cc own dd ca sa) (hd : decode cc pc = .ok (.dload 8, 2)) (kk : G Lw X k n (pc + 2) (a0 :: a1 :: a2 :: a3 :: a4 :: a5 :: a6 :: a7 :: some (.double x) :: r) (.double x :: st) σ) : G Lw X k n pc (a0 :: a1 :: a2 :: a3 :: a4 :: a5 :: a6 :: a7 :: some (.double x) :: r) st σ := by
  obtain ⟨p, l', e, R, s, m, args, below, meth, c, nL, H0, A, E, Q⟩ := X
  obtain ⟨hx, hb, hml, hown, hTB, hK, hD, hA, hR, hlocks, rfl, hh0, hNs⟩ := hC
  exact fun H locs arr hn hP hS hl => lv_dload hx hb hd (g_loc hl 8 rfl) (kk H locs arr hn hP hS hl)
theorem g_dld9 {Lw : gL} {l : Launch} {X : gC} {cc : ByteArray} {own : String} {dd ca sa k n pc : Nat} {st : List Value} {σ : Mem} {a0 a1 a2 a3 a4 a5 a6 a7 a8 : Option Value} {r : List (Option Value)} {x : UInt64} (hC : gOk Lw l X cc own dd ca sa) (hd : decode cc pc = .ok (.dload 9, 2)) (kk : G Lw X k n (pc + 2) (a0 :: a1 :: a2 :: a3 :: a4 :: a5 :: a6 :: a7 :: a8 :: some (.double x) :: r) (.double x :: st) σ) : G Lw X k n pc (a0 :: a1 :: a2 :: a3 :: a4 :: a5 :: a6 :: a7 :: a8 :: some (.double x) :: r) st σ := by
  obtain ⟨p, l', e, R, s, m, args, below, meth, c, nL, H0, A, E, Q⟩ := X
  obtain ⟨hx, hb, hml, hown, hTB, hK, hD, hA, hR, hlocks, rfl, hh0, hNs⟩ := hC
  exact fun H locs arr hn hP hS hl => lv_dload hx hb hd (g_loc hl 9 rfl) (kk H locs arr hn hP hS hl)
theorem g_dld10 {Lw : gL} {l : Launch} {X : gC} {cc : ByteArray} {own : String} {dd ca sa k n pc : Nat} {st : List Value} {σ : Mem} {a0 a1 a2 a3 a4 a5 a6 a7 a8 a9 : Option Value} {r : List (Option Value)} {x : UInt64} (hC : gOk Lw l X cc own dd ca sa) (hd : decode cc pc = .ok (.dload 10, 2)) (kk : G Lw X k n (pc + 2) (a0 :: a1 :: a2 :: a3 :: a4 :: a5 :: a6 :: a7 :: a8 :: a9 :: some (.double x) :: r) (.double x :: st) σ) : G Lw X k n pc (a0 :: a1 :: a2 :: a3 :: a4 :: a5 :: a6 :: a7 :: a8 :: a9 :: some (.double x) :: r) st σ := by
  obtain ⟨p, l', e, R, s, m, args, below, meth, c, nL, H0, A, E, Q⟩ := X
  obtain ⟨hx, hb, hml, hown, hTB, hK, hD, hA, hR, hlocks, rfl, hh0, hNs⟩ := hC
  exact fun H locs arr hn hP hS hl => lv_dload hx hb hd (g_loc hl 10 rfl) (kk H locs arr hn hP hS hl)
theorem g_dld11 {Lw : gL} {l : Launch} {X : gC} {cc : ByteArray} {own : String} {dd ca sa k n pc : Nat} {st : List Value} {σ : Mem} {a0 a1 a2 a3 a4 a5 a6 a7 a8 a9 a10 : Option Value} {r : List (Option Value)} {x : UInt64} (hC : gOk Lw l X cc own dd ca sa) (hd : decode cc pc = .ok (.dload 11, 2)) (kk : G Lw X k n (pc + 2) (a0 :: a1 :: a2 :: a3 :: a4 :: a5 :: a6 :: a7 :: a8 :: a9 :: a10 :: some (.double x) :: r) (.double x :: st) σ) : G Lw X k n pc (a0 :: a1 :: a2 :: a3 :: a4 :: a5 :: a6 :: a7 :: a8 :: a9 :: a10 :: some (.double x) :: r) st σ := by
  obtain ⟨p, l', e, R, s, m, args, below, meth, c, nL, H0, A, E, Q⟩ := X
  obtain ⟨hx, hb, hml, hown, hTB, hK, hD, hA, hR, hlocks, rfl, hh0, hNs⟩ := hC
  exact fun H locs arr hn hP hS hl => lv_dload hx hb hd (g_loc hl 11 rfl) (kk H locs arr hn hP hS hl)
theorem g_ist0 {Lw : gL} {l : Launch} {X : gC} {cc : ByteArray} {own : String} {dd ca sa k n pc : Nat} {st : List Value} {σ : Mem} {r : List (Option Value)} {b : Option Value} {x : Int32} (hC : gOk Lw l X cc own dd ca sa) (hd : decode cc pc = .ok (.istore_n 0, 1)) (kk : G Lw X k n (pc + 1) (some (.int x) :: r) st σ) : G Lw X k n pc (b :: r) (.int x :: st) σ := by
  obtain ⟨p, l', e, R, s, m, args, below, meth, c, nL, H0, A, E, Q⟩ := X
  obtain ⟨hx, hb, hml, hown, hTB, hK, hD, hA, hR, hlocks, rfl, hh0, hNs⟩ := hC
  exact fun H locs arr hn hP hS hl => lv_istore_n (i := 0) hx hb hd rfl hl (by rw [← hn]; simp only [List.length_cons]; omega) rfl (fun arr1 hl1 => kk H locs arr1 hn hP hS (g_fil1 hl1 (fun j hj => absurd hj (by omega))))
theorem g_ist1 {Lw : gL} {l : Launch} {X : gC} {cc : ByteArray} {own : String} {dd ca sa k n pc : Nat} {st : List Value} {σ : Mem} {a0 : Option Value} {r : List (Option Value)} {b : Option Value} {x : Int32} (hC : gOk Lw l X cc own dd ca sa) (hd : decode cc pc = .ok (.istore_n 1, 1)) (hp : g1 a0 = true) (kk : G Lw X k n (pc + 1) (a0 :: some (.int x) :: r) st σ) : G Lw X k n pc (a0 :: b :: r) (.int x :: st) σ := by
  obtain ⟨p, l', e, R, s, m, args, below, meth, c, nL, H0, A, E, Q⟩ := X
  obtain ⟨hx, hb, hml, hown, hTB, hK, hD, hA, hR, hlocks, rfl, hh0, hNs⟩ := hC
  exact fun H locs arr hn hP hS hl => lv_istore_n (i := 1) hx hb hd rfl hl (by rw [← hn]; simp only [List.length_cons]; omega) rfl (fun arr1 hl1 => kk H locs arr1 hn hP hS (g_fil1 hl1 (fun j hj w hw => g1_spec hp w (by obtain rfl : j = 0 := (by omega); exact Option.some.inj hw))))
theorem g_ist2 {Lw : gL} {l : Launch} {X : gC} {cc : ByteArray} {own : String} {dd ca sa k n pc : Nat} {st : List Value} {σ : Mem} {a0 a1 : Option Value} {r : List (Option Value)} {b : Option Value} {x : Int32} (hC : gOk Lw l X cc own dd ca sa) (hd : decode cc pc = .ok (.istore_n 2, 1)) (hp : g1 a1 = true) (kk : G Lw X k n (pc + 1) (a0 :: a1 :: some (.int x) :: r) st σ) : G Lw X k n pc (a0 :: a1 :: b :: r) (.int x :: st) σ := by
  obtain ⟨p, l', e, R, s, m, args, below, meth, c, nL, H0, A, E, Q⟩ := X
  obtain ⟨hx, hb, hml, hown, hTB, hK, hD, hA, hR, hlocks, rfl, hh0, hNs⟩ := hC
  exact fun H locs arr hn hP hS hl => lv_istore_n (i := 2) hx hb hd rfl hl (by rw [← hn]; simp only [List.length_cons]; omega) rfl (fun arr1 hl1 => kk H locs arr1 hn hP hS (g_fil1 hl1 (fun j hj w hw => g1_spec hp w (by obtain rfl : j = 1 := (by omega); exact Option.some.inj hw))))
theorem g_ist3 {Lw : gL} {l : Launch} {X : gC} {cc : ByteArray} {own : String} {dd ca sa k n pc : Nat} {st : List Value} {σ : Mem} {a0 a1 a2 : Option Value} {r : List (Option Value)} {b : Option Value} {x : Int32} (hC : gOk Lw l X cc own dd ca sa) (hd : decode cc pc = .ok (.istore_n 3, 1)) (hp : g1 a2 = true) (kk : G Lw X k n (pc + 1) (a0 :: a1 :: a2 :: some (.int x) :: r) st σ) : G Lw X k n pc (a0 :: a1 :: a2 :: b :: r) (.int x :: st) σ := by
  obtain ⟨p, l', e, R, s, m, args, below, meth, c, nL, H0, A, E, Q⟩ := X
  obtain ⟨hx, hb, hml, hown, hTB, hK, hD, hA, hR, hlocks, rfl, hh0, hNs⟩ := hC
  exact fun H locs arr hn hP hS hl => lv_istore_n (i := 3) hx hb hd rfl hl (by rw [← hn]; simp only [List.length_cons]; omega) rfl (fun arr1 hl1 => kk H locs arr1 hn hP hS (g_fil1 hl1 (fun j hj w hw => g1_spec hp w (by obtain rfl : j = 2 := (by omega); exact Option.some.inj hw))))
theorem g_ist4 {Lw : gL} {l : Launch} {X : gC} {cc : ByteArray} {own : String} {dd ca sa k n pc : Nat} {st : List Value} {σ : Mem} {a0 a1 a2 a3 : Option Value} {r : List (Option Value)} {b : Option Value} {x : Int32} (hC : gOk Lw l X cc own dd ca sa) (hd : decode cc pc = .ok (.istore 4, 2)) (hp : g1 a3 = true) (kk : G Lw X k n (pc + 2) (a0 :: a1 :: a2 :: a3 :: some (.int x) :: r) st σ) : G Lw X k n pc (a0 :: a1 :: a2 :: a3 :: b :: r) (.int x :: st) σ := by
  obtain ⟨p, l', e, R, s, m, args, below, meth, c, nL, H0, A, E, Q⟩ := X
  obtain ⟨hx, hb, hml, hown, hTB, hK, hD, hA, hR, hlocks, rfl, hh0, hNs⟩ := hC
  exact fun H locs arr hn hP hS hl => lv_istore hx hb hd hl (by rw [← hn]; simp only [List.length_cons]; omega) rfl (fun arr1 hl1 => kk H locs arr1 hn hP hS (g_fil1 hl1 (fun j hj w hw => g1_spec hp w (by obtain rfl : j = 3 := (by omega); exact Option.some.inj hw))))
theorem g_ist5 {Lw : gL} {l : Launch} {X : gC} {cc : ByteArray} {own : String} {dd ca sa k n pc : Nat} {st : List Value} {σ : Mem} {a0 a1 a2 a3 a4 : Option Value} {r : List (Option Value)} {b : Option Value} {x : Int32} (hC : gOk Lw l X cc own dd ca sa) (hd : decode cc pc = .ok (.istore 5, 2)) (hp : g1 a4 = true) (kk : G Lw X k n (pc + 2) (a0 :: a1 :: a2 :: a3 :: a4 :: some (.int x) :: r) st σ) : G Lw X k n pc (a0 :: a1 :: a2 :: a3 :: a4 :: b :: r) (.int x :: st) σ := by
  obtain ⟨p, l', e, R, s, m, args, below, meth, c, nL, H0, A, E, Q⟩ := X
  obtain ⟨hx, hb, hml, hown, hTB, hK, hD, hA, hR, hlocks, rfl, hh0, hNs⟩ := hC
  exact fun H locs arr hn hP hS hl => lv_istore hx hb hd hl (by rw [← hn]; simp only [List.length_cons]; omega) rfl (fun arr1 hl1 => kk H locs arr1 hn hP hS (g_fil1 hl1 (fun j hj w hw => g1_spec hp w (by obtain rfl : j = 4 := (by omega); exact Option.some.inj hw))))
theorem g_ist6 {Lw : gL} {l : Launch} {X : gC} {cc : ByteArray} {own : String} {dd ca sa k n pc : Nat} {st : List Value} {σ : Mem} {a0 a1 a2 a3 a4 a5 : Option Value} {r : List (Option Value)} {b : Option Value} {x : Int32} (hC : gOk Lw l X cc own dd ca sa) (hd : decode cc pc = .ok (.istore 6, 2)) (hp : g1 a5 = true) (kk : G Lw X k n (pc + 2) (a0 :: a1 :: a2 :: a3 :: a4 :: a5 :: some (.int x) :: r) st σ) : G Lw X k n pc (a0 :: a1 :: a2 :: a3 :: a4 :: a5 :: b :: r) (.int x :: st) σ := by
  obtain ⟨p, l', e, R, s, m, args, below, meth, c, nL, H0, A, E, Q⟩ := X
  obtain ⟨hx, hb, hml, hown, hTB, hK, hD, hA, hR, hlocks, rfl, hh0, hNs⟩ := hC
  exact fun H locs arr hn hP hS hl => lv_istore hx hb hd hl (by rw [← hn]; simp only [List.length_cons]; omega) rfl (fun arr1 hl1 => kk H locs arr1 hn hP hS (g_fil1 hl1 (fun j hj w hw => g1_spec hp w (by obtain rfl : j = 5 := (by omega); exact Option.some.inj hw))))
theorem g_ist7 {Lw : gL} {l : Launch} {X : gC} {cc : ByteArray} {own : String} {dd ca sa k n pc : Nat} {st : List Value} {σ : Mem} {a0 a1 a2 a3 a4 a5 a6 : Option Value} {r : List (Option Value)} {b : Option Value} {x : Int32} (hC : gOk Lw l X cc own dd ca sa) (hd : decode cc pc = .ok (.istore 7, 2)) (hp : g1 a6 = true) (kk : G Lw X k n (pc + 2) (a0 :: a1 :: a2 :: a3 :: a4 :: a5 :: a6 :: some (.int x) :: r) st σ) : G Lw X k n pc (a0 :: a1 :: a2 :: a3 :: a4 :: a5 :: a6 :: b :: r) (.int x :: st) σ := by
  obtain ⟨p, l', e, R, s, m, args, below, meth, c, nL, H0, A, E, Q⟩ := X
  obtain ⟨hx, hb, hml, hown, hTB, hK, hD, hA, hR, hlocks, rfl, hh0, hNs⟩ := hC
  exact fun H locs arr hn hP hS hl => lv_istore hx hb hd hl (by rw [← hn]; simp only [List.length_cons]; omega) rfl (fun arr1 hl1 => kk H locs arr1 hn hP hS (g_fil1 hl1 (fun j hj w hw => g1_spec hp w (by obtain rfl : j = 6 := (by omega); exact Option.some.inj hw))))
theorem g_ist8 {Lw : gL} {l : Launch} {X : gC} {cc : ByteArray} {own : String} {dd ca sa k n pc : Nat} {st : List Value} {σ : Mem} {a0 a1 a2 a3 a4 a5 a6 a7 : Option Value} {r : List (Option Value)} {b : Option Value} {x : Int32} (hC : gOk Lw l X cc own dd ca sa) (hd : decode cc pc = .ok (.istore 8, 2)) (hp : g1 a7 = true) (kk : G Lw X k n (pc + 2) (a0 :: a1 :: a2 :: a3 :: a4 :: a5 :: a6 :: a7 :: some (.int x) :: r) st σ) : G Lw X k n pc (a0 :: a1 :: a2 :: a3 :: a4 :: a5 :: a6 :: a7 :: b :: r) (.int x :: st) σ := by
  obtain ⟨p, l', e, R, s, m, args, below, meth, c, nL, H0, A, E, Q⟩ := X
  obtain ⟨hx, hb, hml, hown, hTB, hK, hD, hA, hR, hlocks, rfl, hh0, hNs⟩ := hC
  exact fun H locs arr hn hP hS hl => lv_istore hx hb hd hl (by rw [← hn]; simp only [List.length_cons]; omega) rfl (fun arr1 hl1 => kk H locs arr1 hn hP hS (g_fil1 hl1 (fun j hj w hw => g1_spec hp w (by obtain rfl : j = 7 := (by omega); exact Option.some.inj hw))))
theorem g_ist9 {Lw : gL} {l : Launch} {X : gC} {cc : ByteArray} {own : String} {dd ca sa k n pc : Nat} {st : List Value} {σ : Mem} {a0 a1 a2 a3 a4 a5 a6 a7 a8 : Option Value} {r : List (Option Value)} {b : Option Value} {x : Int32} (hC : gOk Lw l X cc own dd ca sa) (hd : decode cc pc = .ok (.istore 9, 2)) (hp : g1 a8 = true) (kk : G Lw X k n (pc + 2) (a0 :: a1 :: a2 :: a3 :: a4 :: a5 :: a6 :: a7 :: a8 :: some (.int x) :: r) st σ) : G Lw X k n pc (a0 :: a1 :: a2 :: a3 :: a4 :: a5 :: a6 :: a7 :: a8 :: b :: r) (.int x :: st) σ := by
  obtain ⟨p, l', e, R, s, m, args, below, meth, c, nL, H0, A, E, Q⟩ := X
  obtain ⟨hx, hb, hml, hown, hTB, hK, hD, hA, hR, hlocks, rfl, hh0, hNs⟩ := hC
  exact fun H locs arr hn hP hS hl => lv_istore hx hb hd hl (by rw [← hn]; simp only [List.length_cons]; omega) rfl (fun arr1 hl1 => kk H locs arr1 hn hP hS (g_fil1 hl1 (fun j hj w hw => g1_spec hp w (by obtain rfl : j = 8 := (by omega); exact Option.some.inj hw))))
theorem g_ist10 {Lw : gL} {l : Launch} {X : gC} {cc : ByteArray} {own : String} {dd ca sa k n pc : Nat} {st : List Value} {σ : Mem} {a0 a1 a2 a3 a4 a5 a6 a7 a8 a9 : Option Value} {r : List (Option Value)} {b : Option Value} {x : Int32} (hC : gOk Lw l X cc own dd ca sa) (hd : decode cc pc = .ok (.istore 10, 2)) (hp : g1 a9 = true) (kk : G Lw X k n (pc + 2) (a0 :: a1 :: a2 :: a3 :: a4 :: a5 :: a6 :: a7 :: a8 :: a9 :: some (.int x) :: r) st σ) : G Lw X k n pc (a0 :: a1 :: a2 :: a3 :: a4 :: a5 :: a6 :: a7 :: a8 :: a9 :: b :: r) (.int x :: st) σ := by
  obtain ⟨p, l', e, R, s, m, args, below, meth, c, nL, H0, A, E, Q⟩ := X
  obtain ⟨hx, hb, hml, hown, hTB, hK, hD, hA, hR, hlocks, rfl, hh0, hNs⟩ := hC
  exact fun H locs arr hn hP hS hl => lv_istore hx hb hd hl (by rw [← hn]; simp only [List.length_cons]; omega) rfl (fun arr1 hl1 => kk H locs arr1 hn hP hS (g_fil1 hl1 (fun j hj w hw => g1_spec hp w (by obtain rfl : j = 9 := (by omega); exact Option.some.inj hw))))
theorem g_ist11 {Lw : gL} {l : Launch} {X : gC} {cc : ByteArray} {own : String} {dd ca sa k n pc : Nat} {st : List Value} {σ : Mem} {a0 a1 a2 a3 a4 a5 a6 a7 a8 a9 a10 : Option Value} {r : List (Option Value)} {b : Option Value} {x : Int32} (hC : gOk Lw l X cc own dd ca sa) (hd : decode cc pc = .ok (.istore 11, 2)) (hp : g1 a10 = true) (kk : G Lw X k n (pc + 2) (a0 :: a1 :: a2 :: a3 :: a4 :: a5 :: a6 :: a7 :: a8 :: a9 :: a10 :: some (.int x) :: r) st σ) : G Lw X k n pc (a0 :: a1 :: a2 :: a3 :: a4 :: a5 :: a6 :: a7 :: a8 :: a9 :: a10 :: b :: r) (.int x :: st) σ := by
  obtain ⟨p, l', e, R, s, m, args, below, meth, c, nL, H0, A, E, Q⟩ := X
  obtain ⟨hx, hb, hml, hown, hTB, hK, hD, hA, hR, hlocks, rfl, hh0, hNs⟩ := hC
  exact fun H locs arr hn hP hS hl => lv_istore hx hb hd hl (by rw [← hn]; simp only [List.length_cons]; omega) rfl (fun arr1 hl1 => kk H locs arr1 hn hP hS (g_fil1 hl1 (fun j hj w hw => g1_spec hp w (by obtain rfl : j = 10 := (by omega); exact Option.some.inj hw))))
theorem g_ast0 {Lw : gL} {l : Launch} {X : gC} {cc : ByteArray} {own : String} {dd ca sa k n pc : Nat} {st : List Value} {σ : Mem} {r : List (Option Value)} {b : Option Value} {x : Nat} (hC : gOk Lw l X cc own dd ca sa) (hd : decode cc pc = .ok (.astore_n 0, 1)) (kk : G Lw X k n (pc + 1) (some (.ref x) :: r) st σ) : G Lw X k n pc (b :: r) (.ref x :: st) σ := by
  obtain ⟨p, l', e, R, s, m, args, below, meth, c, nL, H0, A, E, Q⟩ := X
  obtain ⟨hx, hb, hml, hown, hTB, hK, hD, hA, hR, hlocks, rfl, hh0, hNs⟩ := hC
  exact fun H locs arr hn hP hS hl => lv_astore_n (i := 0) hx hb hd rfl hl (by rw [← hn]; simp only [List.length_cons]; omega) rfl (fun arr1 hl1 => kk H locs arr1 hn hP hS (g_fil1 hl1 (fun j hj => absurd hj (by omega))))
theorem g_ast1 {Lw : gL} {l : Launch} {X : gC} {cc : ByteArray} {own : String} {dd ca sa k n pc : Nat} {st : List Value} {σ : Mem} {a0 : Option Value} {r : List (Option Value)} {b : Option Value} {x : Nat} (hC : gOk Lw l X cc own dd ca sa) (hd : decode cc pc = .ok (.astore_n 1, 1)) (hp : g1 a0 = true) (kk : G Lw X k n (pc + 1) (a0 :: some (.ref x) :: r) st σ) : G Lw X k n pc (a0 :: b :: r) (.ref x :: st) σ := by
  obtain ⟨p, l', e, R, s, m, args, below, meth, c, nL, H0, A, E, Q⟩ := X
  obtain ⟨hx, hb, hml, hown, hTB, hK, hD, hA, hR, hlocks, rfl, hh0, hNs⟩ := hC
  exact fun H locs arr hn hP hS hl => lv_astore_n (i := 1) hx hb hd rfl hl (by rw [← hn]; simp only [List.length_cons]; omega) rfl (fun arr1 hl1 => kk H locs arr1 hn hP hS (g_fil1 hl1 (fun j hj w hw => g1_spec hp w (by obtain rfl : j = 0 := (by omega); exact Option.some.inj hw))))
theorem g_ast2 {Lw : gL} {l : Launch} {X : gC} {cc : ByteArray} {own : String} {dd ca sa k n pc : Nat} {st : List Value} {σ : Mem} {a0 a1 : Option Value} {r : List (Option Value)} {b : Option Value} {x : Nat} (hC : gOk Lw l X cc own dd ca sa) (hd : decode cc pc = .ok (.astore_n 2, 1)) (hp : g1 a1 = true) (kk : G Lw X k n (pc + 1) (a0 :: a1 :: some (.ref x) :: r) st σ) : G Lw X k n pc (a0 :: a1 :: b :: r) (.ref x :: st) σ := by
  obtain ⟨p, l', e, R, s, m, args, below, meth, c, nL, H0, A, E, Q⟩ := X
  obtain ⟨hx, hb, hml, hown, hTB, hK, hD, hA, hR, hlocks, rfl, hh0, hNs⟩ := hC
  exact fun H locs arr hn hP hS hl => lv_astore_n (i := 2) hx hb hd rfl hl (by rw [← hn]; simp only [List.length_cons]; omega) rfl (fun arr1 hl1 => kk H locs arr1 hn hP hS (g_fil1 hl1 (fun j hj w hw => g1_spec hp w (by obtain rfl : j = 1 := (by omega); exact Option.some.inj hw))))
theorem g_ast3 {Lw : gL} {l : Launch} {X : gC} {cc : ByteArray} {own : String} {dd ca sa k n pc : Nat} {st : List Value} {σ : Mem} {a0 a1 a2 : Option Value} {r : List (Option Value)} {b : Option Value} {x : Nat} (hC : gOk Lw l X cc own dd ca sa) (hd : decode cc pc = .ok (.astore_n 3, 1)) (hp : g1 a2 = true) (kk : G Lw X k n (pc + 1) (a0 :: a1 :: a2 :: some (.ref x) :: r) st σ) : G Lw X k n pc (a0 :: a1 :: a2 :: b :: r) (.ref x :: st) σ := by
  obtain ⟨p, l', e, R, s, m, args, below, meth, c, nL, H0, A, E, Q⟩ := X
  obtain ⟨hx, hb, hml, hown, hTB, hK, hD, hA, hR, hlocks, rfl, hh0, hNs⟩ := hC
  exact fun H locs arr hn hP hS hl => lv_astore_n (i := 3) hx hb hd rfl hl (by rw [← hn]; simp only [List.length_cons]; omega) rfl (fun arr1 hl1 => kk H locs arr1 hn hP hS (g_fil1 hl1 (fun j hj w hw => g1_spec hp w (by obtain rfl : j = 2 := (by omega); exact Option.some.inj hw))))
theorem g_ast4 {Lw : gL} {l : Launch} {X : gC} {cc : ByteArray} {own : String} {dd ca sa k n pc : Nat} {st : List Value} {σ : Mem} {a0 a1 a2 a3 : Option Value} {r : List (Option Value)} {b : Option Value} {x : Nat} (hC : gOk Lw l X cc own dd ca sa) (hd : decode cc pc = .ok (.astore 4, 2)) (hp : g1 a3 = true) (kk : G Lw X k n (pc + 2) (a0 :: a1 :: a2 :: a3 :: some (.ref x) :: r) st σ) : G Lw X k n pc (a0 :: a1 :: a2 :: a3 :: b :: r) (.ref x :: st) σ := by
  obtain ⟨p, l', e, R, s, m, args, below, meth, c, nL, H0, A, E, Q⟩ := X
  obtain ⟨hx, hb, hml, hown, hTB, hK, hD, hA, hR, hlocks, rfl, hh0, hNs⟩ := hC
  exact fun H locs arr hn hP hS hl => lv_astore hx hb hd hl (by rw [← hn]; simp only [List.length_cons]; omega) rfl (fun arr1 hl1 => kk H locs arr1 hn hP hS (g_fil1 hl1 (fun j hj w hw => g1_spec hp w (by obtain rfl : j = 3 := (by omega); exact Option.some.inj hw))))
theorem g_ast5 {Lw : gL} {l : Launch} {X : gC} {cc : ByteArray} {own : String} {dd ca sa k n pc : Nat} {st : List Value} {σ : Mem} {a0 a1 a2 a3 a4 : Option Value} {r : List (Option Value)} {b : Option Value} {x : Nat} (hC : gOk Lw l X cc own dd ca sa) (hd : decode cc pc = .ok (.astore 5, 2)) (hp : g1 a4 = true) (kk : G Lw X k n (pc + 2) (a0 :: a1 :: a2 :: a3 :: a4 :: some (.ref x) :: r) st σ) : G Lw X k n pc (a0 :: a1 :: a2 :: a3 :: a4 :: b :: r) (.ref x :: st) σ := by
  obtain ⟨p, l', e, R, s, m, args, below, meth, c, nL, H0, A, E, Q⟩ := X
  obtain ⟨hx, hb, hml, hown, hTB, hK, hD, hA, hR, hlocks, rfl, hh0, hNs⟩ := hC
  exact fun H locs arr hn hP hS hl => lv_astore hx hb hd hl (by rw [← hn]; simp only [List.length_cons]; omega) rfl (fun arr1 hl1 => kk H locs arr1 hn hP hS (g_fil1 hl1 (fun j hj w hw => g1_spec hp w (by obtain rfl : j = 4 := (by omega); exact Option.some.inj hw))))
theorem g_ast6 {Lw : gL} {l : Launch} {X : gC} {cc : ByteArray} {own : String} {dd ca sa k n pc : Nat} {st : List Value} {σ : Mem} {a0 a1 a2 a3 a4 a5 : Option Value} {r : List (Option Value)} {b : Option Value} {x : Nat} (hC : gOk Lw l X cc own dd ca sa) (hd : decode cc pc = .ok (.astore 6, 2)) (hp : g1 a5 = true) (kk : G Lw X k n (pc + 2) (a0 :: a1 :: a2 :: a3 :: a4 :: a5 :: some (.ref x) :: r) st σ) : G Lw X k n pc (a0 :: a1 :: a2 :: a3 :: a4 :: a5 :: b :: r) (.ref x :: st) σ := by
  obtain ⟨p, l', e, R, s, m, args, below, meth, c, nL, H0, A, E, Q⟩ := X
  obtain ⟨hx, hb, hml, hown, hTB, hK, hD, hA, hR, hlocks, rfl, hh0, hNs⟩ := hC
  exact fun H locs arr hn hP hS hl => lv_astore hx hb hd hl (by rw [← hn]; simp only [List.length_cons]; omega) rfl (fun arr1 hl1 => kk H locs arr1 hn hP hS (g_fil1 hl1 (fun j hj w hw => g1_spec hp w (by obtain rfl : j = 5 := (by omega); exact Option.some.inj hw))))
theorem g_ast7 {Lw : gL} {l : Launch} {X : gC} {cc : ByteArray} {own : String} {dd ca sa k n pc : Nat} {st : List Value} {σ : Mem} {a0 a1 a2 a3 a4 a5 a6 : Option Value} {r : List (Option Value)} {b : Option Value} {x : Nat} (hC : gOk Lw l X cc own dd ca sa) (hd : decode cc pc = .ok (.astore 7, 2)) (hp : g1 a6 = true) (kk : G Lw X k n (pc + 2) (a0 :: a1 :: a2 :: a3 :: a4 :: a5 :: a6 :: some (.ref x) :: r) st σ) : G Lw X k n pc (a0 :: a1 :: a2 :: a3 :: a4 :: a5 :: a6 :: b :: r) (.ref x :: st) σ := by
  obtain ⟨p, l', e, R, s, m, args, below, meth, c, nL, H0, A, E, Q⟩ := X
  obtain ⟨hx, hb, hml, hown, hTB, hK, hD, hA, hR, hlocks, rfl, hh0, hNs⟩ := hC
  exact fun H locs arr hn hP hS hl => lv_astore hx hb hd hl (by rw [← hn]; simp only [List.length_cons]; omega) rfl (fun arr1 hl1 => kk H locs arr1 hn hP hS (g_fil1 hl1 (fun j hj w hw => g1_spec hp w (by obtain rfl : j = 6 := (by omega); exact Option.some.inj hw))))
theorem g_ast8 {Lw : gL} {l : Launch} {X : gC} {cc : ByteArray} {own : String} {dd ca sa k n pc : Nat} {st : List Value} {σ : Mem} {a0 a1 a2 a3 a4 a5 a6 a7 : Option Value} {r : List (Option Value)} {b : Option Value} {x : Nat} (hC : gOk Lw l X cc own dd ca sa) (hd : decode cc pc = .ok (.astore 8, 2)) (hp : g1 a7 = true) (kk : G Lw X k n (pc + 2) (a0 :: a1 :: a2 :: a3 :: a4 :: a5 :: a6 :: a7 :: some (.ref x) :: r) st σ) : G Lw X k n pc (a0 :: a1 :: a2 :: a3 :: a4 :: a5 :: a6 :: a7 :: b :: r) (.ref x :: st) σ := by
  obtain ⟨p, l', e, R, s, m, args, below, meth, c, nL, H0, A, E, Q⟩ := X
  obtain ⟨hx, hb, hml, hown, hTB, hK, hD, hA, hR, hlocks, rfl, hh0, hNs⟩ := hC
  exact fun H locs arr hn hP hS hl => lv_astore hx hb hd hl (by rw [← hn]; simp only [List.length_cons]; omega) rfl (fun arr1 hl1 => kk H locs arr1 hn hP hS (g_fil1 hl1 (fun j hj w hw => g1_spec hp w (by obtain rfl : j = 7 := (by omega); exact Option.some.inj hw))))
theorem g_ast9 {Lw : gL} {l : Launch} {X : gC} {cc : ByteArray} {own : String} {dd ca sa k n pc : Nat} {st : List Value} {σ : Mem} {a0 a1 a2 a3 a4 a5 a6 a7 a8 : Option Value} {r : List (Option Value)} {b : Option Value} {x : Nat} (hC : gOk Lw l X cc own dd ca sa) (hd : decode cc pc = .ok (.astore 9, 2)) (hp : g1 a8 = true) (kk : G Lw X k n (pc + 2) (a0 :: a1 :: a2 :: a3 :: a4 :: a5 :: a6 :: a7 :: a8 :: some (.ref x) :: r) st σ) : G Lw X k n pc (a0 :: a1 :: a2 :: a3 :: a4 :: a5 :: a6 :: a7 :: a8 :: b :: r) (.ref x :: st) σ := by
  obtain ⟨p, l', e, R, s, m, args, below, meth, c, nL, H0, A, E, Q⟩ := X
  obtain ⟨hx, hb, hml, hown, hTB, hK, hD, hA, hR, hlocks, rfl, hh0, hNs⟩ := hC
  exact fun H locs arr hn hP hS hl => lv_astore hx hb hd hl (by rw [← hn]; simp only [List.length_cons]; omega) rfl (fun arr1 hl1 => kk H locs arr1 hn hP hS (g_fil1 hl1 (fun j hj w hw => g1_spec hp w (by obtain rfl : j = 8 := (by omega); exact Option.some.inj hw))))
theorem g_ast10 {Lw : gL} {l : Launch} {X : gC} {cc : ByteArray} {own : String} {dd ca sa k n pc : Nat} {st : List Value} {σ : Mem} {a0 a1 a2 a3 a4 a5 a6 a7 a8 a9 : Option Value} {r : List (Option Value)} {b : Option Value} {x : Nat} (hC : gOk Lw l X cc own dd ca sa) (hd : decode cc pc = .ok (.astore 10, 2)) (hp : g1 a9 = true) (kk : G Lw X k n (pc + 2) (a0 :: a1 :: a2 :: a3 :: a4 :: a5 :: a6 :: a7 :: a8 :: a9 :: some (.ref x) :: r) st σ) : G Lw X k n pc (a0 :: a1 :: a2 :: a3 :: a4 :: a5 :: a6 :: a7 :: a8 :: a9 :: b :: r) (.ref x :: st) σ := by
  obtain ⟨p, l', e, R, s, m, args, below, meth, c, nL, H0, A, E, Q⟩ := X
  obtain ⟨hx, hb, hml, hown, hTB, hK, hD, hA, hR, hlocks, rfl, hh0, hNs⟩ := hC
  exact fun H locs arr hn hP hS hl => lv_astore hx hb hd hl (by rw [← hn]; simp only [List.length_cons]; omega) rfl (fun arr1 hl1 => kk H locs arr1 hn hP hS (g_fil1 hl1 (fun j hj w hw => g1_spec hp w (by obtain rfl : j = 9 := (by omega); exact Option.some.inj hw))))
theorem g_ast11 {Lw : gL} {l : Launch} {X : gC} {cc : ByteArray} {own : String} {dd ca sa k n pc : Nat} {st : List Value} {σ : Mem} {a0 a1 a2 a3 a4 a5 a6 a7 a8 a9 a10 : Option Value} {r : List (Option Value)} {b : Option Value} {x : Nat} (hC : gOk Lw l X cc own dd ca sa) (hd : decode cc pc = .ok (.astore 11, 2)) (hp : g1 a10 = true) (kk : G Lw X k n (pc + 2) (a0 :: a1 :: a2 :: a3 :: a4 :: a5 :: a6 :: a7 :: a8 :: a9 :: a10 :: some (.ref x) :: r) st σ) : G Lw X k n pc (a0 :: a1 :: a2 :: a3 :: a4 :: a5 :: a6 :: a7 :: a8 :: a9 :: a10 :: b :: r) (.ref x :: st) σ := by
  obtain ⟨p, l', e, R, s, m, args, below, meth, c, nL, H0, A, E, Q⟩ := X
  obtain ⟨hx, hb, hml, hown, hTB, hK, hD, hA, hR, hlocks, rfl, hh0, hNs⟩ := hC
  exact fun H locs arr hn hP hS hl => lv_astore hx hb hd hl (by rw [← hn]; simp only [List.length_cons]; omega) rfl (fun arr1 hl1 => kk H locs arr1 hn hP hS (g_fil1 hl1 (fun j hj w hw => g1_spec hp w (by obtain rfl : j = 10 := (by omega); exact Option.some.inj hw))))
theorem g_lst0 {Lw : gL} {l : Launch} {X : gC} {cc : ByteArray} {own : String} {dd ca sa k n pc : Nat} {st : List Value} {σ : Mem} {r : List (Option Value)} {b b1 : Option Value} {x : Int64} (hC : gOk Lw l X cc own dd ca sa) (hd : decode cc pc = .ok (.lstore_n 0, 1)) (kk : G Lw X k n (pc + 1) (some (.long x) :: none :: r) st σ) : G Lw X k n pc (b :: b1 :: r) (.long x :: st) σ := by
  obtain ⟨p, l', e, R, s, m, args, below, meth, c, nL, H0, A, E, Q⟩ := X
  obtain ⟨hx, hb, hml, hown, hTB, hK, hD, hA, hR, hlocks, rfl, hh0, hNs⟩ := hC
  exact fun H locs arr hn hP hS hl => lv_lstore_n (i := 0) hx hb hd rfl hl (by rw [← hn]; simp only [List.length_cons]; omega) rfl (fun arr1 hl1 => kk H locs arr1 hn hP hS (g_fil2 hl1 (fun j hj => absurd hj (by omega))))
theorem g_lst1 {Lw : gL} {l : Launch} {X : gC} {cc : ByteArray} {own : String} {dd ca sa k n pc : Nat} {st : List Value} {σ : Mem} {a0 : Option Value} {r : List (Option Value)} {b b1 : Option Value} {x : Int64} (hC : gOk Lw l X cc own dd ca sa) (hd : decode cc pc = .ok (.lstore_n 1, 1)) (hp : g1 a0 = true) (kk : G Lw X k n (pc + 1) (a0 :: some (.long x) :: none :: r) st σ) : G Lw X k n pc (a0 :: b :: b1 :: r) (.long x :: st) σ := by
  obtain ⟨p, l', e, R, s, m, args, below, meth, c, nL, H0, A, E, Q⟩ := X
  obtain ⟨hx, hb, hml, hown, hTB, hK, hD, hA, hR, hlocks, rfl, hh0, hNs⟩ := hC
  exact fun H locs arr hn hP hS hl => lv_lstore_n (i := 1) hx hb hd rfl hl (by rw [← hn]; simp only [List.length_cons]; omega) rfl (fun arr1 hl1 => kk H locs arr1 hn hP hS (g_fil2 hl1 (fun j hj w hw => g1_spec hp w (by obtain rfl : j = 0 := (by omega); exact Option.some.inj hw))))
theorem g_lst2 {Lw : gL} {l : Launch} {X : gC} {cc : ByteArray} {own : String} {dd ca sa k n pc : Nat} {st : List Value} {σ : Mem} {a0 a1 : Option Value} {r : List (Option Value)} {b b1 : Option Value} {x : Int64} (hC : gOk Lw l X cc own dd ca sa) (hd : decode cc pc = .ok (.lstore_n 2, 1)) (hp : g1 a1 = true) (kk : G Lw X k n (pc + 1) (a0 :: a1 :: some (.long x) :: none :: r) st σ) : G Lw X k n pc (a0 :: a1 :: b :: b1 :: r) (.long x :: st) σ := by
  obtain ⟨p, l', e, R, s, m, args, below, meth, c, nL, H0, A, E, Q⟩ := X
  obtain ⟨hx, hb, hml, hown, hTB, hK, hD, hA, hR, hlocks, rfl, hh0, hNs⟩ := hC
  exact fun H locs arr hn hP hS hl => lv_lstore_n (i := 2) hx hb hd rfl hl (by rw [← hn]; simp only [List.length_cons]; omega) rfl (fun arr1 hl1 => kk H locs arr1 hn hP hS (g_fil2 hl1 (fun j hj w hw => g1_spec hp w (by obtain rfl : j = 1 := (by omega); exact Option.some.inj hw))))
theorem g_lst3 {Lw : gL} {l : Launch} {X : gC} {cc : ByteArray} {own : String} {dd ca sa k n pc : Nat} {st : List Value} {σ : Mem} {a0 a1 a2 : Option Value} {r : List (Option Value)} {b b1 : Option Value} {x : Int64} (hC : gOk Lw l X cc own dd ca sa) (hd : decode cc pc = .ok (.lstore_n 3, 1)) (hp : g1 a2 = true) (kk : G Lw X k n (pc + 1) (a0 :: a1 :: a2 :: some (.long x) :: none :: r) st σ) : G Lw X k n pc (a0 :: a1 :: a2 :: b :: b1 :: r) (.long x :: st) σ := by
  obtain ⟨p, l', e, R, s, m, args, below, meth, c, nL, H0, A, E, Q⟩ := X
  obtain ⟨hx, hb, hml, hown, hTB, hK, hD, hA, hR, hlocks, rfl, hh0, hNs⟩ := hC
  exact fun H locs arr hn hP hS hl => lv_lstore_n (i := 3) hx hb hd rfl hl (by rw [← hn]; simp only [List.length_cons]; omega) rfl (fun arr1 hl1 => kk H locs arr1 hn hP hS (g_fil2 hl1 (fun j hj w hw => g1_spec hp w (by obtain rfl : j = 2 := (by omega); exact Option.some.inj hw))))
theorem g_lst4 {Lw : gL} {l : Launch} {X : gC} {cc : ByteArray} {own : String} {dd ca sa k n pc : Nat} {st : List Value} {σ : Mem} {a0 a1 a2 a3 : Option Value} {r : List (Option Value)} {b b1 : Option Value} {x : Int64} (hC : gOk Lw l X cc own dd ca sa) (hd : decode cc pc = .ok (.lstore 4, 2)) (hp : g1 a3 = true) (kk : G Lw X k n (pc + 2) (a0 :: a1 :: a2 :: a3 :: some (.long x) :: none :: r) st σ) : G Lw X k n pc (a0 :: a1 :: a2 :: a3 :: b :: b1 :: r) (.long x :: st) σ := by
  obtain ⟨p, l', e, R, s, m, args, below, meth, c, nL, H0, A, E, Q⟩ := X
  obtain ⟨hx, hb, hml, hown, hTB, hK, hD, hA, hR, hlocks, rfl, hh0, hNs⟩ := hC
  exact fun H locs arr hn hP hS hl => lv_lstore hx hb hd hl (by rw [← hn]; simp only [List.length_cons]; omega) rfl (fun arr1 hl1 => kk H locs arr1 hn hP hS (g_fil2 hl1 (fun j hj w hw => g1_spec hp w (by obtain rfl : j = 3 := (by omega); exact Option.some.inj hw))))
theorem g_lst5 {Lw : gL} {l : Launch} {X : gC} {cc : ByteArray} {own : String} {dd ca sa k n pc : Nat} {st : List Value} {σ : Mem} {a0 a1 a2 a3 a4 : Option Value} {r : List (Option Value)} {b b1 : Option Value} {x : Int64} (hC : gOk Lw l X cc own dd ca sa) (hd : decode cc pc = .ok (.lstore 5, 2)) (hp : g1 a4 = true) (kk : G Lw X k n (pc + 2) (a0 :: a1 :: a2 :: a3 :: a4 :: some (.long x) :: none :: r) st σ) : G Lw X k n pc (a0 :: a1 :: a2 :: a3 :: a4 :: b :: b1 :: r) (.long x :: st) σ := by
  obtain ⟨p, l', e, R, s, m, args, below, meth, c, nL, H0, A, E, Q⟩ := X
  obtain ⟨hx, hb, hml, hown, hTB, hK, hD, hA, hR, hlocks, rfl, hh0, hNs⟩ := hC
  exact fun H locs arr hn hP hS hl => lv_lstore hx hb hd hl (by rw [← hn]; simp only [List.length_cons]; omega) rfl (fun arr1 hl1 => kk H locs arr1 hn hP hS (g_fil2 hl1 (fun j hj w hw => g1_spec hp w (by obtain rfl : j = 4 := (by omega); exact Option.some.inj hw))))
theorem g_lst6 {Lw : gL} {l : Launch} {X : gC} {cc : ByteArray} {own : String} {dd ca sa k n pc : Nat} {st : List Value} {σ : Mem} {a0 a1 a2 a3 a4 a5 : Option Value} {r : List (Option Value)} {b b1 : Option Value} {x : Int64} (hC : gOk Lw l X cc own dd ca sa) (hd : decode cc pc = .ok (.lstore 6, 2)) (hp : g1 a5 = true) (kk : G Lw X k n (pc + 2) (a0 :: a1 :: a2 :: a3 :: a4 :: a5 :: some (.long x) :: none :: r) st σ) : G Lw X k n pc (a0 :: a1 :: a2 :: a3 :: a4 :: a5 :: b :: b1 :: r) (.long x :: st) σ := by
  obtain ⟨p, l', e, R, s, m, args, below, meth, c, nL, H0, A, E, Q⟩ := X
  obtain ⟨hx, hb, hml, hown, hTB, hK, hD, hA, hR, hlocks, rfl, hh0, hNs⟩ := hC
  exact fun H locs arr hn hP hS hl => lv_lstore hx hb hd hl (by rw [← hn]; simp only [List.length_cons]; omega) rfl (fun arr1 hl1 => kk H locs arr1 hn hP hS (g_fil2 hl1 (fun j hj w hw => g1_spec hp w (by obtain rfl : j = 5 := (by omega); exact Option.some.inj hw))))
theorem g_lst7 {Lw : gL} {l : Launch} {X : gC} {cc : ByteArray} {own : String} {dd ca sa k n pc : Nat} {st : List Value} {σ : Mem} {a0 a1 a2 a3 a4 a5 a6 : Option Value} {r : List (Option Value)} {b b1 : Option Value} {x : Int64} (hC : gOk Lw l X cc own dd ca sa) (hd : decode cc pc = .ok (.lstore 7, 2)) (hp : g1 a6 = true) (kk : G Lw X k n (pc + 2) (a0 :: a1 :: a2 :: a3 :: a4 :: a5 :: a6 :: some (.long x) :: none :: r) st σ) : G Lw X k n pc (a0 :: a1 :: a2 :: a3 :: a4 :: a5 :: a6 :: b :: b1 :: r) (.long x :: st) σ := by
  obtain ⟨p, l', e, R, s, m, args, below, meth, c, nL, H0, A, E, Q⟩ := X
  obtain ⟨hx, hb, hml, hown, hTB, hK, hD, hA, hR, hlocks, rfl, hh0, hNs⟩ := hC
  exact fun H locs arr hn hP hS hl => lv_lstore hx hb hd hl (by rw [← hn]; simp only [List.length_cons]; omega) rfl (fun arr1 hl1 => kk H locs arr1 hn hP hS (g_fil2 hl1 (fun j hj w hw => g1_spec hp w (by obtain rfl : j = 6 := (by omega); exact Option.some.inj hw))))
theorem g_lst8 {Lw : gL} {l : Launch} {X : gC} {cc : ByteArray} {own : String} {dd ca sa k n pc : Nat} {st : List Value} {σ : Mem} {a0 a1 a2 a3 a4 a5 a6 a7 : Option Value} {r : List (Option Value)} {b b1 : Option Value} {x : Int64} (hC : gOk Lw l X cc own dd ca sa) (hd : decode cc pc = .ok (.lstore 8, 2)) (hp : g1 a7 = true) (kk : G Lw X k n (pc + 2) (a0 :: a1 :: a2 :: a3 :: a4 :: a5 :: a6 :: a7 :: some (.long x) :: none :: r) st σ) : G Lw X k n pc (a0 :: a1 :: a2 :: a3 :: a4 :: a5 :: a6 :: a7 :: b :: b1 :: r) (.long x :: st) σ := by
  obtain ⟨p, l', e, R, s, m, args, below, meth, c, nL, H0, A, E, Q⟩ := X
  obtain ⟨hx, hb, hml, hown, hTB, hK, hD, hA, hR, hlocks, rfl, hh0, hNs⟩ := hC
  exact fun H locs arr hn hP hS hl => lv_lstore hx hb hd hl (by rw [← hn]; simp only [List.length_cons]; omega) rfl (fun arr1 hl1 => kk H locs arr1 hn hP hS (g_fil2 hl1 (fun j hj w hw => g1_spec hp w (by obtain rfl : j = 7 := (by omega); exact Option.some.inj hw))))
theorem g_lst9 {Lw : gL} {l : Launch} {X : gC} {cc : ByteArray} {own : String} {dd ca sa k n pc : Nat} {st : List Value} {σ : Mem} {a0 a1 a2 a3 a4 a5 a6 a7 a8 : Option Value} {r : List (Option Value)} {b b1 : Option Value} {x : Int64} (hC : gOk Lw l X cc own dd ca sa) (hd : decode cc pc = .ok (.lstore 9, 2)) (hp : g1 a8 = true) (kk : G Lw X k n (pc + 2) (a0 :: a1 :: a2 :: a3 :: a4 :: a5 :: a6 :: a7 :: a8 :: some (.long x) :: none :: r) st σ) : G Lw X k n pc (a0 :: a1 :: a2 :: a3 :: a4 :: a5 :: a6 :: a7 :: a8 :: b :: b1 :: r) (.long x :: st) σ := by
  obtain ⟨p, l', e, R, s, m, args, below, meth, c, nL, H0, A, E, Q⟩ := X
  obtain ⟨hx, hb, hml, hown, hTB, hK, hD, hA, hR, hlocks, rfl, hh0, hNs⟩ := hC
  exact fun H locs arr hn hP hS hl => lv_lstore hx hb hd hl (by rw [← hn]; simp only [List.length_cons]; omega) rfl (fun arr1 hl1 => kk H locs arr1 hn hP hS (g_fil2 hl1 (fun j hj w hw => g1_spec hp w (by obtain rfl : j = 8 := (by omega); exact Option.some.inj hw))))
theorem g_lst10 {Lw : gL} {l : Launch} {X : gC} {cc : ByteArray} {own : String} {dd ca sa k n pc : Nat} {st : List Value} {σ : Mem} {a0 a1 a2 a3 a4 a5 a6 a7 a8 a9 : Option Value} {r : List (Option Value)} {b b1 : Option Value} {x : Int64} (hC : gOk Lw l X cc own dd ca sa) (hd : decode cc pc = .ok (.lstore 10, 2)) (hp : g1 a9 = true) (kk : G Lw X k n (pc + 2) (a0 :: a1 :: a2 :: a3 :: a4 :: a5 :: a6 :: a7 :: a8 :: a9 :: some (.long x) :: none :: r) st σ) : G Lw X k n pc (a0 :: a1 :: a2 :: a3 :: a4 :: a5 :: a6 :: a7 :: a8 :: a9 :: b :: b1 :: r) (.long x :: st) σ := by
  obtain ⟨p, l', e, R, s, m, args, below, meth, c, nL, H0, A, E, Q⟩ := X
  obtain ⟨hx, hb, hml, hown, hTB, hK, hD, hA, hR, hlocks, rfl, hh0, hNs⟩ := hC
  exact fun H locs arr hn hP hS hl => lv_lstore hx hb hd hl (by rw [← hn]; simp only [List.length_cons]; omega) rfl (fun arr1 hl1 => kk H locs arr1 hn hP hS (g_fil2 hl1 (fun j hj w hw => g1_spec hp w (by obtain rfl : j = 9 := (by omega); exact Option.some.inj hw))))
theorem g_lst11 {Lw : gL} {l : Launch} {X : gC} {cc : ByteArray} {own : String} {dd ca sa k n pc : Nat} {st : List Value} {σ : Mem} {a0 a1 a2 a3 a4 a5 a6 a7 a8 a9 a10 : Option Value} {r : List (Option Value)} {b b1 : Option Value} {x : Int64} (hC : gOk Lw l X cc own dd ca sa) (hd : decode cc pc = .ok (.lstore 11, 2)) (hp : g1 a10 = true) (kk : G Lw X k n (pc + 2) (a0 :: a1 :: a2 :: a3 :: a4 :: a5 :: a6 :: a7 :: a8 :: a9 :: a10 :: some (.long x) :: none :: r) st σ) : G Lw X k n pc (a0 :: a1 :: a2 :: a3 :: a4 :: a5 :: a6 :: a7 :: a8 :: a9 :: a10 :: b :: b1 :: r) (.long x :: st) σ := by
  obtain ⟨p, l', e, R, s, m, args, below, meth, c, nL, H0, A, E, Q⟩ := X
  obtain ⟨hx, hb, hml, hown, hTB, hK, hD, hA, hR, hlocks, rfl, hh0, hNs⟩ := hC
  exact fun H locs arr hn hP hS hl => lv_lstore hx hb hd hl (by rw [← hn]; simp only [List.length_cons]; omega) rfl (fun arr1 hl1 => kk H locs arr1 hn hP hS (g_fil2 hl1 (fun j hj w hw => g1_spec hp w (by obtain rfl : j = 10 := (by omega); exact Option.some.inj hw))))
theorem g_dst0 {Lw : gL} {l : Launch} {X : gC} {cc : ByteArray} {own : String} {dd ca sa k n pc : Nat} {st : List Value} {σ : Mem} {r : List (Option Value)} {b b1 : Option Value} {x : UInt64} (hC : gOk Lw l X cc own dd ca sa) (hd : decode cc pc = .ok (.dstore_n 0, 1)) (kk : G Lw X k n (pc + 1) (some (.double x) :: none :: r) st σ) : G Lw X k n pc (b :: b1 :: r) (.double x :: st) σ := by
  obtain ⟨p, l', e, R, s, m, args, below, meth, c, nL, H0, A, E, Q⟩ := X
  obtain ⟨hx, hb, hml, hown, hTB, hK, hD, hA, hR, hlocks, rfl, hh0, hNs⟩ := hC
  exact fun H locs arr hn hP hS hl => lv_dstore_n (i := 0) hx hb hd rfl hl (by rw [← hn]; simp only [List.length_cons]; omega) rfl (fun arr1 hl1 => kk H locs arr1 hn hP hS (g_fil2 hl1 (fun j hj => absurd hj (by omega))))
theorem g_dst1 {Lw : gL} {l : Launch} {X : gC} {cc : ByteArray} {own : String} {dd ca sa k n pc : Nat} {st : List Value} {σ : Mem} {a0 : Option Value} {r : List (Option Value)} {b b1 : Option Value} {x : UInt64} (hC : gOk Lw l X cc own dd ca sa) (hd : decode cc pc = .ok (.dstore_n 1, 1)) (hp : g1 a0 = true) (kk : G Lw X k n (pc + 1) (a0 :: some (.double x) :: none :: r) st σ) : G Lw X k n pc (a0 :: b :: b1 :: r) (.double x :: st) σ := by
  obtain ⟨p, l', e, R, s, m, args, below, meth, c, nL, H0, A, E, Q⟩ := X
  obtain ⟨hx, hb, hml, hown, hTB, hK, hD, hA, hR, hlocks, rfl, hh0, hNs⟩ := hC
  exact fun H locs arr hn hP hS hl => lv_dstore_n (i := 1) hx hb hd rfl hl (by rw [← hn]; simp only [List.length_cons]; omega) rfl (fun arr1 hl1 => kk H locs arr1 hn hP hS (g_fil2 hl1 (fun j hj w hw => g1_spec hp w (by obtain rfl : j = 0 := (by omega); exact Option.some.inj hw))))
theorem g_dst2 {Lw : gL} {l : Launch} {X : gC} {cc : ByteArray} {own : String} {dd ca sa k n pc : Nat} {st : List Value} {σ : Mem} {a0 a1 : Option Value} {r : List (Option Value)} {b b1 : Option Value} {x : UInt64} (hC : gOk Lw l X cc own dd ca sa) (hd : decode cc pc = .ok (.dstore_n 2, 1)) (hp : g1 a1 = true) (kk : G Lw X k n (pc + 1) (a0 :: a1 :: some (.double x) :: none :: r) st σ) : G Lw X k n pc (a0 :: a1 :: b :: b1 :: r) (.double x :: st) σ := by
  obtain ⟨p, l', e, R, s, m, args, below, meth, c, nL, H0, A, E, Q⟩ := X
  obtain ⟨hx, hb, hml, hown, hTB, hK, hD, hA, hR, hlocks, rfl, hh0, hNs⟩ := hC
  exact fun H locs arr hn hP hS hl => lv_dstore_n (i := 2) hx hb hd rfl hl (by rw [← hn]; simp only [List.length_cons]; omega) rfl (fun arr1 hl1 => kk H locs arr1 hn hP hS (g_fil2 hl1 (fun j hj w hw => g1_spec hp w (by obtain rfl : j = 1 := (by omega); exact Option.some.inj hw))))
theorem g_dst3 {Lw : gL} {l : Launch} {X : gC} {cc : ByteArray} {own : String} {dd ca sa k n pc : Nat} {st : List Value} {σ : Mem} {a0 a1 a2 : Option Value} {r : List (Option Value)} {b b1 : Option Value} {x : UInt64} (hC : gOk Lw l X cc own dd ca sa) (hd : decode cc pc = .ok (.dstore_n 3, 1)) (hp : g1 a2 = true) (kk : G Lw X k n (pc + 1) (a0 :: a1 :: a2 :: some (.double x) :: none :: r) st σ) : G Lw X k n pc (a0 :: a1 :: a2 :: b :: b1 :: r) (.double x :: st) σ := by
  obtain ⟨p, l', e, R, s, m, args, below, meth, c, nL, H0, A, E, Q⟩ := X
  obtain ⟨hx, hb, hml, hown, hTB, hK, hD, hA, hR, hlocks, rfl, hh0, hNs⟩ := hC
  exact fun H locs arr hn hP hS hl => lv_dstore_n (i := 3) hx hb hd rfl hl (by rw [← hn]; simp only [List.length_cons]; omega) rfl (fun arr1 hl1 => kk H locs arr1 hn hP hS (g_fil2 hl1 (fun j hj w hw => g1_spec hp w (by obtain rfl : j = 2 := (by omega); exact Option.some.inj hw))))
theorem g_dst4 {Lw : gL} {l : Launch} {X : gC} {cc : ByteArray} {own : String} {dd ca sa k n pc : Nat} {st : List Value} {σ : Mem} {a0 a1 a2 a3 : Option Value} {r : List (Option Value)} {b b1 : Option Value} {x : UInt64} (hC : gOk Lw l X cc own dd ca sa) (hd : decode cc pc = .ok (.dstore 4, 2)) (hp : g1 a3 = true) (kk : G Lw X k n (pc + 2) (a0 :: a1 :: a2 :: a3 :: some (.double x) :: none :: r) st σ) : G Lw X k n pc (a0 :: a1 :: a2 :: a3 :: b :: b1 :: r) (.double x :: st) σ := by
  obtain ⟨p, l', e, R, s, m, args, below, meth, c, nL, H0, A, E, Q⟩ := X
  obtain ⟨hx, hb, hml, hown, hTB, hK, hD, hA, hR, hlocks, rfl, hh0, hNs⟩ := hC
  exact fun H locs arr hn hP hS hl => lv_dstore hx hb hd hl (by rw [← hn]; simp only [List.length_cons]; omega) rfl (fun arr1 hl1 => kk H locs arr1 hn hP hS (g_fil2 hl1 (fun j hj w hw => g1_spec hp w (by obtain rfl : j = 3 := (by omega); exact Option.some.inj hw))))
theorem g_dst5 {Lw : gL} {l : Launch} {X : gC} {cc : ByteArray} {own : String} {dd ca sa k n pc : Nat} {st : List Value} {σ : Mem} {a0 a1 a2 a3 a4 : Option Value} {r : List (Option Value)} {b b1 : Option Value} {x : UInt64} (hC : gOk Lw l X cc own dd ca sa) (hd : decode cc pc = .ok (.dstore 5, 2)) (hp : g1 a4 = true) (kk : G Lw X k n (pc + 2) (a0 :: a1 :: a2 :: a3 :: a4 :: some (.double x) :: none :: r) st σ) : G Lw X k n pc (a0 :: a1 :: a2 :: a3 :: a4 :: b :: b1 :: r) (.double x :: st) σ := by
  obtain ⟨p, l', e, R, s, m, args, below, meth, c, nL, H0, A, E, Q⟩ := X
  obtain ⟨hx, hb, hml, hown, hTB, hK, hD, hA, hR, hlocks, rfl, hh0, hNs⟩ := hC
  exact fun H locs arr hn hP hS hl => lv_dstore hx hb hd hl (by rw [← hn]; simp only [List.length_cons]; omega) rfl (fun arr1 hl1 => kk H locs arr1 hn hP hS (g_fil2 hl1 (fun j hj w hw => g1_spec hp w (by obtain rfl : j = 4 := (by omega); exact Option.some.inj hw))))
theorem g_dst6 {Lw : gL} {l : Launch} {X : gC} {cc : ByteArray} {own : String} {dd ca sa k n pc : Nat} {st : List Value} {σ : Mem} {a0 a1 a2 a3 a4 a5 : Option Value} {r : List (Option Value)} {b b1 : Option Value} {x : UInt64} (hC : gOk Lw l X cc own dd ca sa) (hd : decode cc pc = .ok (.dstore 6, 2)) (hp : g1 a5 = true) (kk : G Lw X k n (pc + 2) (a0 :: a1 :: a2 :: a3 :: a4 :: a5 :: some (.double x) :: none :: r) st σ) : G Lw X k n pc (a0 :: a1 :: a2 :: a3 :: a4 :: a5 :: b :: b1 :: r) (.double x :: st) σ := by
  obtain ⟨p, l', e, R, s, m, args, below, meth, c, nL, H0, A, E, Q⟩ := X
  obtain ⟨hx, hb, hml, hown, hTB, hK, hD, hA, hR, hlocks, rfl, hh0, hNs⟩ := hC
  exact fun H locs arr hn hP hS hl => lv_dstore hx hb hd hl (by rw [← hn]; simp only [List.length_cons]; omega) rfl (fun arr1 hl1 => kk H locs arr1 hn hP hS (g_fil2 hl1 (fun j hj w hw => g1_spec hp w (by obtain rfl : j = 5 := (by omega); exact Option.some.inj hw))))
theorem g_dst7 {Lw : gL} {l : Launch} {X : gC} {cc : ByteArray} {own : String} {dd ca sa k n pc : Nat} {st : List Value} {σ : Mem} {a0 a1 a2 a3 a4 a5 a6 : Option Value} {r : List (Option Value)} {b b1 : Option Value} {x : UInt64} (hC : gOk Lw l X cc own dd ca sa) (hd : decode cc pc = .ok (.dstore 7, 2)) (hp : g1 a6 = true) (kk : G Lw X k n (pc + 2) (a0 :: a1 :: a2 :: a3 :: a4 :: a5 :: a6 :: some (.double x) :: none :: r) st σ) : G Lw X k n pc (a0 :: a1 :: a2 :: a3 :: a4 :: a5 :: a6 :: b :: b1 :: r) (.double x :: st) σ := by
  obtain ⟨p, l', e, R, s, m, args, below, meth, c, nL, H0, A, E, Q⟩ := X
  obtain ⟨hx, hb, hml, hown, hTB, hK, hD, hA, hR, hlocks, rfl, hh0, hNs⟩ := hC
  exact fun H locs arr hn hP hS hl => lv_dstore hx hb hd hl (by rw [← hn]; simp only [List.length_cons]; omega) rfl (fun arr1 hl1 => kk H locs arr1 hn hP hS (g_fil2 hl1 (fun j hj w hw => g1_spec hp w (by obtain rfl : j = 6 := (by omega); exact Option.some.inj hw))))
theorem g_dst8 {Lw : gL} {l : Launch} {X : gC} {cc : ByteArray} {own : String} {dd ca sa k n pc : Nat} {st : List Value} {σ : Mem} {a0 a1 a2 a3 a4 a5 a6 a7 : Option Value} {r : List (Option Value)} {b b1 : Option Value} {x : UInt64} (hC : gOk Lw l X cc own dd ca sa) (hd : decode cc pc = .ok (.dstore 8, 2)) (hp : g1 a7 = true) (kk : G Lw X k n (pc + 2) (a0 :: a1 :: a2 :: a3 :: a4 :: a5 :: a6 :: a7 :: some (.double x) :: none :: r) st σ) : G Lw X k n pc (a0 :: a1 :: a2 :: a3 :: a4 :: a5 :: a6 :: a7 :: b :: b1 :: r) (.double x :: st) σ := by
  obtain ⟨p, l', e, R, s, m, args, below, meth, c, nL, H0, A, E, Q⟩ := X
  obtain ⟨hx, hb, hml, hown, hTB, hK, hD, hA, hR, hlocks, rfl, hh0, hNs⟩ := hC
  exact fun H locs arr hn hP hS hl => lv_dstore hx hb hd hl (by rw [← hn]; simp only [List.length_cons]; omega) rfl (fun arr1 hl1 => kk H locs arr1 hn hP hS (g_fil2 hl1 (fun j hj w hw => g1_spec hp w (by obtain rfl : j = 7 := (by omega); exact Option.some.inj hw))))
theorem g_dst9 {Lw : gL} {l : Launch} {X : gC} {cc : ByteArray} {own : String} {dd ca sa k n pc : Nat} {st : List Value} {σ : Mem} {a0 a1 a2 a3 a4 a5 a6 a7 a8 : Option Value} {r : List (Option Value)} {b b1 : Option Value} {x : UInt64} (hC : gOk Lw l X cc own dd ca sa) (hd : decode cc pc = .ok (.dstore 9, 2)) (hp : g1 a8 = true) (kk : G Lw X k n (pc + 2) (a0 :: a1 :: a2 :: a3 :: a4 :: a5 :: a6 :: a7 :: a8 :: some (.double x) :: none :: r) st σ) : G Lw X k n pc (a0 :: a1 :: a2 :: a3 :: a4 :: a5 :: a6 :: a7 :: a8 :: b :: b1 :: r) (.double x :: st) σ := by
  obtain ⟨p, l', e, R, s, m, args, below, meth, c, nL, H0, A, E, Q⟩ := X
  obtain ⟨hx, hb, hml, hown, hTB, hK, hD, hA, hR, hlocks, rfl, hh0, hNs⟩ := hC
  exact fun H locs arr hn hP hS hl => lv_dstore hx hb hd hl (by rw [← hn]; simp only [List.length_cons]; omega) rfl (fun arr1 hl1 => kk H locs arr1 hn hP hS (g_fil2 hl1 (fun j hj w hw => g1_spec hp w (by obtain rfl : j = 8 := (by omega); exact Option.some.inj hw))))
theorem g_dst10 {Lw : gL} {l : Launch} {X : gC} {cc : ByteArray} {own : String} {dd ca sa k n pc : Nat} {st : List Value} {σ : Mem} {a0 a1 a2 a3 a4 a5 a6 a7 a8 a9 : Option Value} {r : List (Option Value)} {b b1 : Option Value} {x : UInt64} (hC : gOk Lw l X cc own dd ca sa) (hd : decode cc pc = .ok (.dstore 10, 2)) (hp : g1 a9 = true) (kk : G Lw X k n (pc + 2) (a0 :: a1 :: a2 :: a3 :: a4 :: a5 :: a6 :: a7 :: a8 :: a9 :: some (.double x) :: none :: r) st σ) : G Lw X k n pc (a0 :: a1 :: a2 :: a3 :: a4 :: a5 :: a6 :: a7 :: a8 :: a9 :: b :: b1 :: r) (.double x :: st) σ := by
  obtain ⟨p, l', e, R, s, m, args, below, meth, c, nL, H0, A, E, Q⟩ := X
  obtain ⟨hx, hb, hml, hown, hTB, hK, hD, hA, hR, hlocks, rfl, hh0, hNs⟩ := hC
  exact fun H locs arr hn hP hS hl => lv_dstore hx hb hd hl (by rw [← hn]; simp only [List.length_cons]; omega) rfl (fun arr1 hl1 => kk H locs arr1 hn hP hS (g_fil2 hl1 (fun j hj w hw => g1_spec hp w (by obtain rfl : j = 9 := (by omega); exact Option.some.inj hw))))
theorem g_dst11 {Lw : gL} {l : Launch} {X : gC} {cc : ByteArray} {own : String} {dd ca sa k n pc : Nat} {st : List Value} {σ : Mem} {a0 a1 a2 a3 a4 a5 a6 a7 a8 a9 a10 : Option Value} {r : List (Option Value)} {b b1 : Option Value} {x : UInt64} (hC : gOk Lw l X cc own dd ca sa) (hd : decode cc pc = .ok (.dstore 11, 2)) (hp : g1 a10 = true) (kk : G Lw X k n (pc + 2) (a0 :: a1 :: a2 :: a3 :: a4 :: a5 :: a6 :: a7 :: a8 :: a9 :: a10 :: some (.double x) :: none :: r) st σ) : G Lw X k n pc (a0 :: a1 :: a2 :: a3 :: a4 :: a5 :: a6 :: a7 :: a8 :: a9 :: a10 :: b :: b1 :: r) (.double x :: st) σ := by
  obtain ⟨p, l', e, R, s, m, args, below, meth, c, nL, H0, A, E, Q⟩ := X
  obtain ⟨hx, hb, hml, hown, hTB, hK, hD, hA, hR, hlocks, rfl, hh0, hNs⟩ := hC
  exact fun H locs arr hn hP hS hl => lv_dstore hx hb hd hl (by rw [← hn]; simp only [List.length_cons]; omega) rfl (fun arr1 hl1 => kk H locs arr1 hn hP hS (g_fil2 hl1 (fun j hj w hw => g1_spec hp w (by obtain rfl : j = 10 := (by omega); exact Option.some.inj hw))))
theorem g_inc0 {Lw : gL} {l : Launch} {X : gC} {cc : ByteArray} {own : String} {dd ca sa k n pc : Nat} {st : List Value} {σ : Mem} {r : List (Option Value)} {x : Int32} {z : Int} (v : Int32) (hC : gOk Lw l X cc own dd ca sa) (hd : decode cc pc = .ok (.iinc 0 z, 3)) (hv : Int32.ofInt z = v) (kk : G Lw X k n (pc + 3) (some (.int (x + v)) :: r) st σ) : G Lw X k n pc (some (.int x) :: r) st σ := by
  obtain ⟨p, l', e, R, s, m, args, below, meth, c, nL, H0, A, E, Q⟩ := X
  obtain ⟨hx, hb, hml, hown, hTB, hK, hD, hA, hR, hlocks, rfl, hh0, hNs⟩ := hC
  subst hv
  intro H locs arr hn hP hS hl T hT XX
  obtain ⟨arr1, e1, hl1⟩ := lv_store1 (v := .int (x + Int32.ofInt z)) hl (show 0 < nL by rw [← hn]; simp only [List.length_cons]; omega) rfl
  have hg := g_loc hl 0 rfl
  obtain ⟨t, a, b⟩ := kk H locs arr1 hn hP hS (g_fil1 hl1 (fun j hj => absurd hj (by omega))) T hT XX
  refine ⟨t, ?_, b⟩
  jvm_step XX.here [XX.here.top, ↓top_set XX.here.top, hx, hb, hd, hg, e1]
  exact a
theorem g_inc1 {Lw : gL} {l : Launch} {X : gC} {cc : ByteArray} {own : String} {dd ca sa k n pc : Nat} {st : List Value} {σ : Mem} {a0 : Option Value} {r : List (Option Value)} {x : Int32} {z : Int} (v : Int32) (hC : gOk Lw l X cc own dd ca sa) (hd : decode cc pc = .ok (.iinc 1 z, 3)) (hv : Int32.ofInt z = v) (hp : g1 a0 = true) (kk : G Lw X k n (pc + 3) (a0 :: some (.int (x + v)) :: r) st σ) : G Lw X k n pc (a0 :: some (.int x) :: r) st σ := by
  obtain ⟨p, l', e, R, s, m, args, below, meth, c, nL, H0, A, E, Q⟩ := X
  obtain ⟨hx, hb, hml, hown, hTB, hK, hD, hA, hR, hlocks, rfl, hh0, hNs⟩ := hC
  subst hv
  intro H locs arr hn hP hS hl T hT XX
  obtain ⟨arr1, e1, hl1⟩ := lv_store1 (v := .int (x + Int32.ofInt z)) hl (show 1 < nL by rw [← hn]; simp only [List.length_cons]; omega) rfl
  have hg := g_loc hl 1 rfl
  obtain ⟨t, a, b⟩ := kk H locs arr1 hn hP hS (g_fil1 hl1 (fun j hj w hw => g1_spec hp w (by obtain rfl : j = 0 := (by omega); exact Option.some.inj hw))) T hT XX
  refine ⟨t, ?_, b⟩
  jvm_step XX.here [XX.here.top, ↓top_set XX.here.top, hx, hb, hd, hg, e1]
  exact a
theorem g_inc2 {Lw : gL} {l : Launch} {X : gC} {cc : ByteArray} {own : String} {dd ca sa k n pc : Nat} {st : List Value} {σ : Mem} {a0 a1 : Option Value} {r : List (Option Value)} {x : Int32} {z : Int} (v : Int32) (hC : gOk Lw l X cc own dd ca sa) (hd : decode cc pc = .ok (.iinc 2 z, 3)) (hv : Int32.ofInt z = v) (hp : g1 a1 = true) (kk : G Lw X k n (pc + 3) (a0 :: a1 :: some (.int (x + v)) :: r) st σ) : G Lw X k n pc (a0 :: a1 :: some (.int x) :: r) st σ := by
  obtain ⟨p, l', e, R, s, m, args, below, meth, c, nL, H0, A, E, Q⟩ := X
  obtain ⟨hx, hb, hml, hown, hTB, hK, hD, hA, hR, hlocks, rfl, hh0, hNs⟩ := hC
  subst hv
  intro H locs arr hn hP hS hl T hT XX
  obtain ⟨arr1, e1, hl1⟩ := lv_store1 (v := .int (x + Int32.ofInt z)) hl (show 2 < nL by rw [← hn]; simp only [List.length_cons]; omega) rfl
  have hg := g_loc hl 2 rfl
  obtain ⟨t, a, b⟩ := kk H locs arr1 hn hP hS (g_fil1 hl1 (fun j hj w hw => g1_spec hp w (by obtain rfl : j = 1 := (by omega); exact Option.some.inj hw))) T hT XX
  refine ⟨t, ?_, b⟩
  jvm_step XX.here [XX.here.top, ↓top_set XX.here.top, hx, hb, hd, hg, e1]
  exact a
theorem g_inc3 {Lw : gL} {l : Launch} {X : gC} {cc : ByteArray} {own : String} {dd ca sa k n pc : Nat} {st : List Value} {σ : Mem} {a0 a1 a2 : Option Value} {r : List (Option Value)} {x : Int32} {z : Int} (v : Int32) (hC : gOk Lw l X cc own dd ca sa) (hd : decode cc pc = .ok (.iinc 3 z, 3)) (hv : Int32.ofInt z = v) (hp : g1 a2 = true) (kk : G Lw X k n (pc + 3) (a0 :: a1 :: a2 :: some (.int (x + v)) :: r) st σ) : G Lw X k n pc (a0 :: a1 :: a2 :: some (.int x) :: r) st σ := by
  obtain ⟨p, l', e, R, s, m, args, below, meth, c, nL, H0, A, E, Q⟩ := X
  obtain ⟨hx, hb, hml, hown, hTB, hK, hD, hA, hR, hlocks, rfl, hh0, hNs⟩ := hC
  subst hv
  intro H locs arr hn hP hS hl T hT XX
  obtain ⟨arr1, e1, hl1⟩ := lv_store1 (v := .int (x + Int32.ofInt z)) hl (show 3 < nL by rw [← hn]; simp only [List.length_cons]; omega) rfl
  have hg := g_loc hl 3 rfl
  obtain ⟨t, a, b⟩ := kk H locs arr1 hn hP hS (g_fil1 hl1 (fun j hj w hw => g1_spec hp w (by obtain rfl : j = 2 := (by omega); exact Option.some.inj hw))) T hT XX
  refine ⟨t, ?_, b⟩
  jvm_step XX.here [XX.here.top, ↓top_set XX.here.top, hx, hb, hd, hg, e1]
  exact a
theorem g_inc4 {Lw : gL} {l : Launch} {X : gC} {cc : ByteArray} {own : String} {dd ca sa k n pc : Nat} {st : List Value} {σ : Mem} {a0 a1 a2 a3 : Option Value} {r : List (Option Value)} {x : Int32} {z : Int} (v : Int32) (hC : gOk Lw l X cc own dd ca sa) (hd : decode cc pc = .ok (.iinc 4 z, 3)) (hv : Int32.ofInt z = v) (hp : g1 a3 = true) (kk : G Lw X k n (pc + 3) (a0 :: a1 :: a2 :: a3 :: some (.int (x + v)) :: r) st σ) : G Lw X k n pc (a0 :: a1 :: a2 :: a3 :: some (.int x) :: r) st σ := by
  obtain ⟨p, l', e, R, s, m, args, below, meth, c, nL, H0, A, E, Q⟩ := X
  obtain ⟨hx, hb, hml, hown, hTB, hK, hD, hA, hR, hlocks, rfl, hh0, hNs⟩ := hC
  subst hv
  intro H locs arr hn hP hS hl T hT XX
  obtain ⟨arr1, e1, hl1⟩ := lv_store1 (v := .int (x + Int32.ofInt z)) hl (show 4 < nL by rw [← hn]; simp only [List.length_cons]; omega) rfl
  have hg := g_loc hl 4 rfl
  obtain ⟨t, a, b⟩ := kk H locs arr1 hn hP hS (g_fil1 hl1 (fun j hj w hw => g1_spec hp w (by obtain rfl : j = 3 := (by omega); exact Option.some.inj hw))) T hT XX
  refine ⟨t, ?_, b⟩
  jvm_step XX.here [XX.here.top, ↓top_set XX.here.top, hx, hb, hd, hg, e1]
  exact a
theorem g_inc5 {Lw : gL} {l : Launch} {X : gC} {cc : ByteArray} {own : String} {dd ca sa k n pc : Nat} {st : List Value} {σ : Mem} {a0 a1 a2 a3 a4 : Option Value} {r : List (Option Value)} {x : Int32} {z : Int} (v : Int32) (hC : gOk Lw l X cc own dd ca sa) (hd : decode cc pc = .ok (.iinc 5 z, 3)) (hv : Int32.ofInt z = v) (hp : g1 a4 = true) (kk : G Lw X k n (pc + 3) (a0 :: a1 :: a2 :: a3 :: a4 :: some (.int (x + v)) :: r) st σ) : G Lw X k n pc (a0 :: a1 :: a2 :: a3 :: a4 :: some (.int x) :: r) st σ := by
  obtain ⟨p, l', e, R, s, m, args, below, meth, c, nL, H0, A, E, Q⟩ := X
  obtain ⟨hx, hb, hml, hown, hTB, hK, hD, hA, hR, hlocks, rfl, hh0, hNs⟩ := hC
  subst hv
  intro H locs arr hn hP hS hl T hT XX
  obtain ⟨arr1, e1, hl1⟩ := lv_store1 (v := .int (x + Int32.ofInt z)) hl (show 5 < nL by rw [← hn]; simp only [List.length_cons]; omega) rfl
  have hg := g_loc hl 5 rfl
  obtain ⟨t, a, b⟩ := kk H locs arr1 hn hP hS (g_fil1 hl1 (fun j hj w hw => g1_spec hp w (by obtain rfl : j = 4 := (by omega); exact Option.some.inj hw))) T hT XX
  refine ⟨t, ?_, b⟩
  jvm_step XX.here [XX.here.top, ↓top_set XX.here.top, hx, hb, hd, hg, e1]
  exact a
theorem g_inc6 {Lw : gL} {l : Launch} {X : gC} {cc : ByteArray} {own : String} {dd ca sa k n pc : Nat} {st : List Value} {σ : Mem} {a0 a1 a2 a3 a4 a5 : Option Value} {r : List (Option Value)} {x : Int32} {z : Int} (v : Int32) (hC : gOk Lw l X cc own dd ca sa) (hd : decode cc pc = .ok (.iinc 6 z, 3)) (hv : Int32.ofInt z = v) (hp : g1 a5 = true) (kk : G Lw X k n (pc + 3) (a0 :: a1 :: a2 :: a3 :: a4 :: a5 :: some (.int (x + v)) :: r) st σ) : G Lw X k n pc (a0 :: a1 :: a2 :: a3 :: a4 :: a5 :: some (.int x) :: r) st σ := by
  obtain ⟨p, l', e, R, s, m, args, below, meth, c, nL, H0, A, E, Q⟩ := X
  obtain ⟨hx, hb, hml, hown, hTB, hK, hD, hA, hR, hlocks, rfl, hh0, hNs⟩ := hC
  subst hv
  intro H locs arr hn hP hS hl T hT XX
  obtain ⟨arr1, e1, hl1⟩ := lv_store1 (v := .int (x + Int32.ofInt z)) hl (show 6 < nL by rw [← hn]; simp only [List.length_cons]; omega) rfl
  have hg := g_loc hl 6 rfl
  obtain ⟨t, a, b⟩ := kk H locs arr1 hn hP hS (g_fil1 hl1 (fun j hj w hw => g1_spec hp w (by obtain rfl : j = 5 := (by omega); exact Option.some.inj hw))) T hT XX
  refine ⟨t, ?_, b⟩
  jvm_step XX.here [XX.here.top, ↓top_set XX.here.top, hx, hb, hd, hg, e1]
  exact a
theorem g_inc7 {Lw : gL} {l : Launch} {X : gC} {cc : ByteArray} {own : String} {dd ca sa k n pc : Nat} {st : List Value} {σ : Mem} {a0 a1 a2 a3 a4 a5 a6 : Option Value} {r : List (Option Value)} {x : Int32} {z : Int} (v : Int32) (hC : gOk Lw l X cc own dd ca sa) (hd : decode cc pc = .ok (.iinc 7 z, 3)) (hv : Int32.ofInt z = v) (hp : g1 a6 = true) (kk : G Lw X k n (pc + 3) (a0 :: a1 :: a2 :: a3 :: a4 :: a5 :: a6 :: some (.int (x + v)) :: r) st σ) : G Lw X k n pc (a0 :: a1 :: a2 :: a3 :: a4 :: a5 :: a6 :: some (.int x) :: r) st σ := by
  obtain ⟨p, l', e, R, s, m, args, below, meth, c, nL, H0, A, E, Q⟩ := X
  obtain ⟨hx, hb, hml, hown, hTB, hK, hD, hA, hR, hlocks, rfl, hh0, hNs⟩ := hC
  subst hv
  intro H locs arr hn hP hS hl T hT XX
  obtain ⟨arr1, e1, hl1⟩ := lv_store1 (v := .int (x + Int32.ofInt z)) hl (show 7 < nL by rw [← hn]; simp only [List.length_cons]; omega) rfl
  have hg := g_loc hl 7 rfl
  obtain ⟨t, a, b⟩ := kk H locs arr1 hn hP hS (g_fil1 hl1 (fun j hj w hw => g1_spec hp w (by obtain rfl : j = 6 := (by omega); exact Option.some.inj hw))) T hT XX
  refine ⟨t, ?_, b⟩
  jvm_step XX.here [XX.here.top, ↓top_set XX.here.top, hx, hb, hd, hg, e1]
  exact a
theorem g_inc8 {Lw : gL} {l : Launch} {X : gC} {cc : ByteArray} {own : String} {dd ca sa k n pc : Nat} {st : List Value} {σ : Mem} {a0 a1 a2 a3 a4 a5 a6 a7 : Option Value} {r : List (Option Value)} {x : Int32} {z : Int} (v : Int32) (hC : gOk Lw l X cc own dd ca sa) (hd : decode cc pc = .ok (.iinc 8 z, 3)) (hv : Int32.ofInt z = v) (hp : g1 a7 = true) (kk : G Lw X k n (pc + 3) (a0 :: a1 :: a2 :: a3 :: a4 :: a5 :: a6 :: a7 :: some (.int (x + v)) :: r) st σ) : G Lw X k n pc (a0 :: a1 :: a2 :: a3 :: a4 :: a5 :: a6 :: a7 :: some (.int x) :: r) st σ := by
  obtain ⟨p, l', e, R, s, m, args, below, meth, c, nL, H0, A, E, Q⟩ := X
  obtain ⟨hx, hb, hml, hown, hTB, hK, hD, hA, hR, hlocks, rfl, hh0, hNs⟩ := hC
  subst hv
  intro H locs arr hn hP hS hl T hT XX
  obtain ⟨arr1, e1, hl1⟩ := lv_store1 (v := .int (x + Int32.ofInt z)) hl (show 8 < nL by rw [← hn]; simp only [List.length_cons]; omega) rfl
  have hg := g_loc hl 8 rfl
  obtain ⟨t, a, b⟩ := kk H locs arr1 hn hP hS (g_fil1 hl1 (fun j hj w hw => g1_spec hp w (by obtain rfl : j = 7 := (by omega); exact Option.some.inj hw))) T hT XX
  refine ⟨t, ?_, b⟩
  jvm_step XX.here [XX.here.top, ↓top_set XX.here.top, hx, hb, hd, hg, e1]
  exact a
theorem g_inc9 {Lw : gL} {l : Launch} {X : gC} {cc : ByteArray} {own : String} {dd ca sa k n pc : Nat} {st : List Value} {σ : Mem} {a0 a1 a2 a3 a4 a5 a6 a7 a8 : Option Value} {r : List (Option Value)} {x : Int32} {z : Int} (v : Int32) (hC : gOk Lw l X cc own dd ca sa) (hd : decode cc pc = .ok (.iinc 9 z, 3)) (hv : Int32.ofInt z = v) (hp : g1 a8 = true) (kk : G Lw X k n (pc + 3) (a0 :: a1 :: a2 :: a3 :: a4 :: a5 :: a6 :: a7 :: a8 :: some (.int (x + v)) :: r) st σ) : G Lw X k n pc (a0 :: a1 :: a2 :: a3 :: a4 :: a5 :: a6 :: a7 :: a8 :: some (.int x) :: r) st σ := by
  obtain ⟨p, l', e, R, s, m, args, below, meth, c, nL, H0, A, E, Q⟩ := X
  obtain ⟨hx, hb, hml, hown, hTB, hK, hD, hA, hR, hlocks, rfl, hh0, hNs⟩ := hC
  subst hv
  intro H locs arr hn hP hS hl T hT XX
  obtain ⟨arr1, e1, hl1⟩ := lv_store1 (v := .int (x + Int32.ofInt z)) hl (show 9 < nL by rw [← hn]; simp only [List.length_cons]; omega) rfl
  have hg := g_loc hl 9 rfl
  obtain ⟨t, a, b⟩ := kk H locs arr1 hn hP hS (g_fil1 hl1 (fun j hj w hw => g1_spec hp w (by obtain rfl : j = 8 := (by omega); exact Option.some.inj hw))) T hT XX
  refine ⟨t, ?_, b⟩
  jvm_step XX.here [XX.here.top, ↓top_set XX.here.top, hx, hb, hd, hg, e1]
  exact a
theorem g_inc10 {Lw : gL} {l : Launch} {X : gC} {cc : ByteArray} {own : String} {dd ca sa k n pc : Nat} {st : List Value} {σ : Mem} {a0 a1 a2 a3 a4 a5 a6 a7 a8 a9 : Option Value} {r : List (Option Value)} {x : Int32} {z : Int} (v : Int32) (hC : gOk Lw l X cc own dd ca sa) (hd : decode cc pc = .ok (.iinc 10 z, 3)) (hv : Int32.ofInt z = v) (hp : g1 a9 = true) (kk : G Lw X k n (pc + 3) (a0 :: a1 :: a2 :: a3 :: a4 :: a5 :: a6 :: a7 :: a8 :: a9 :: some (.int (x + v)) :: r) st σ) : G Lw X k n pc (a0 :: a1 :: a2 :: a3 :: a4 :: a5 :: a6 :: a7 :: a8 :: a9 :: some (.int x) :: r) st σ := by
  obtain ⟨p, l', e, R, s, m, args, below, meth, c, nL, H0, A, E, Q⟩ := X
  obtain ⟨hx, hb, hml, hown, hTB, hK, hD, hA, hR, hlocks, rfl, hh0, hNs⟩ := hC
  subst hv
  intro H locs arr hn hP hS hl T hT XX
  obtain ⟨arr1, e1, hl1⟩ := lv_store1 (v := .int (x + Int32.ofInt z)) hl (show 10 < nL by rw [← hn]; simp only [List.length_cons]; omega) rfl
  have hg := g_loc hl 10 rfl
  obtain ⟨t, a, b⟩ := kk H locs arr1 hn hP hS (g_fil1 hl1 (fun j hj w hw => g1_spec hp w (by obtain rfl : j = 9 := (by omega); exact Option.some.inj hw))) T hT XX
  refine ⟨t, ?_, b⟩
  jvm_step XX.here [XX.here.top, ↓top_set XX.here.top, hx, hb, hd, hg, e1]
  exact a
theorem g_inc11 {Lw : gL} {l : Launch} {X : gC} {cc : ByteArray} {own : String} {dd ca sa k n pc : Nat} {st : List Value} {σ : Mem} {a0 a1 a2 a3 a4 a5 a6 a7 a8 a9 a10 : Option Value} {r : List (Option Value)} {x : Int32} {z : Int} (v : Int32) (hC : gOk Lw l X cc own dd ca sa) (hd : decode cc pc = .ok (.iinc 11 z, 3)) (hv : Int32.ofInt z = v) (hp : g1 a10 = true) (kk : G Lw X k n (pc + 3) (a0 :: a1 :: a2 :: a3 :: a4 :: a5 :: a6 :: a7 :: a8 :: a9 :: a10 :: some (.int (x + v)) :: r) st σ) : G Lw X k n pc (a0 :: a1 :: a2 :: a3 :: a4 :: a5 :: a6 :: a7 :: a8 :: a9 :: a10 :: some (.int x) :: r) st σ := by
  obtain ⟨p, l', e, R, s, m, args, below, meth, c, nL, H0, A, E, Q⟩ := X
  obtain ⟨hx, hb, hml, hown, hTB, hK, hD, hA, hR, hlocks, rfl, hh0, hNs⟩ := hC
  subst hv
  intro H locs arr hn hP hS hl T hT XX
  obtain ⟨arr1, e1, hl1⟩ := lv_store1 (v := .int (x + Int32.ofInt z)) hl (show 11 < nL by rw [← hn]; simp only [List.length_cons]; omega) rfl
  have hg := g_loc hl 11 rfl
  obtain ⟨t, a, b⟩ := kk H locs arr1 hn hP hS (g_fil1 hl1 (fun j hj w hw => g1_spec hp w (by obtain rfl : j = 10 := (by omega); exact Option.some.inj hw))) T hT XX
  refine ⟨t, ?_, b⟩
  jvm_step XX.here [XX.here.top, ↓top_set XX.here.top, hx, hb, hd, hg, e1]
  exact a
theorem g_icmp_eq {Lw : gL} {l : Launch} {X : gC} {cc : ByteArray} {own : String} {dd ca sa k n pc : Nat} {ls : List (Option Value)} {st : List Value} {σ : Mem} {x y : Int32} {off : Int} (tgt : Nat) (hC : gOk Lw l X cc own dd ca sa) (hd : decode cc pc = .ok (.if_icmp .eq off, 3)) (ht : (pc : Int) + off = (tgt : Int)) (kt : x = y → G Lw X k n tgt ls st σ) (kf : ¬ (x = y) → G Lw X k n (pc + 3) ls st σ) : G Lw X k n pc ls (.int y :: .int x :: st) σ := by
  obtain ⟨p, l', e, R, s, m, args, below, meth, c, nL, H0, A, E, Q⟩ := X
  obtain ⟨hx, hb, hml, hown, hTB, hK, hD, hA, hR, hlocks, rfl, hh0, hNs⟩ := hC
  exact fun H locs arr hn hP hS hl => lv_icmp_eq hx hb hd ht (fun h => kt h H locs arr hn hP hS hl) (fun h => kf h H locs arr hn hP hS hl)
theorem g_if_eq {Lw : gL} {l : Launch} {X : gC} {cc : ByteArray} {own : String} {dd ca sa k n pc : Nat} {ls : List (Option Value)} {st : List Value} {σ : Mem} {x : Int32} {off : Int} (tgt : Nat) (hC : gOk Lw l X cc own dd ca sa) (hd : decode cc pc = .ok (.ifCond .eq off, 3)) (ht : (pc : Int) + off = (tgt : Int)) (kt : x = 0 → G Lw X k n tgt ls st σ) (kf : ¬ (x = 0) → G Lw X k n (pc + 3) ls st σ) : G Lw X k n pc ls (.int x :: st) σ := by
  obtain ⟨p, l', e, R, s, m, args, below, meth, c, nL, H0, A, E, Q⟩ := X
  obtain ⟨hx, hb, hml, hown, hTB, hK, hD, hA, hR, hlocks, rfl, hh0, hNs⟩ := hC
  exact fun H locs arr hn hP hS hl => lv_if_eq hx hb hd ht (fun h => kt h H locs arr hn hP hS hl) (fun h => kf h H locs arr hn hP hS hl)
theorem g_icmp_ne {Lw : gL} {l : Launch} {X : gC} {cc : ByteArray} {own : String} {dd ca sa k n pc : Nat} {ls : List (Option Value)} {st : List Value} {σ : Mem} {x y : Int32} {off : Int} (tgt : Nat) (hC : gOk Lw l X cc own dd ca sa) (hd : decode cc pc = .ok (.if_icmp .ne off, 3)) (ht : (pc : Int) + off = (tgt : Int)) (kt : x ≠ y → G Lw X k n tgt ls st σ) (kf : x = y → G Lw X k n (pc + 3) ls st σ) : G Lw X k n pc ls (.int y :: .int x :: st) σ := by
  obtain ⟨p, l', e, R, s, m, args, below, meth, c, nL, H0, A, E, Q⟩ := X
  obtain ⟨hx, hb, hml, hown, hTB, hK, hD, hA, hR, hlocks, rfl, hh0, hNs⟩ := hC
  exact fun H locs arr hn hP hS hl => lv_icmp_ne hx hb hd ht (fun h => kt h H locs arr hn hP hS hl) (fun h => kf h H locs arr hn hP hS hl)
theorem g_if_ne {Lw : gL} {l : Launch} {X : gC} {cc : ByteArray} {own : String} {dd ca sa k n pc : Nat} {ls : List (Option Value)} {st : List Value} {σ : Mem} {x : Int32} {off : Int} (tgt : Nat) (hC : gOk Lw l X cc own dd ca sa) (hd : decode cc pc = .ok (.ifCond .ne off, 3)) (ht : (pc : Int) + off = (tgt : Int)) (kt : x ≠ 0 → G Lw X k n tgt ls st σ) (kf : x = 0 → G Lw X k n (pc + 3) ls st σ) : G Lw X k n pc ls (.int x :: st) σ := by
  obtain ⟨p, l', e, R, s, m, args, below, meth, c, nL, H0, A, E, Q⟩ := X
  obtain ⟨hx, hb, hml, hown, hTB, hK, hD, hA, hR, hlocks, rfl, hh0, hNs⟩ := hC
  exact fun H locs arr hn hP hS hl => lv_if_ne hx hb hd ht (fun h => kt h H locs arr hn hP hS hl) (fun h => kf h H locs arr hn hP hS hl)
theorem g_icmp_lt {Lw : gL} {l : Launch} {X : gC} {cc : ByteArray} {own : String} {dd ca sa k n pc : Nat} {ls : List (Option Value)} {st : List Value} {σ : Mem} {x y : Int32} {off : Int} (tgt : Nat) (hC : gOk Lw l X cc own dd ca sa) (hd : decode cc pc = .ok (.if_icmp .lt off, 3)) (ht : (pc : Int) + off = (tgt : Int)) (kt : x < y → G Lw X k n tgt ls st σ) (kf : ¬ (x < y) → G Lw X k n (pc + 3) ls st σ) : G Lw X k n pc ls (.int y :: .int x :: st) σ := by
  obtain ⟨p, l', e, R, s, m, args, below, meth, c, nL, H0, A, E, Q⟩ := X
  obtain ⟨hx, hb, hml, hown, hTB, hK, hD, hA, hR, hlocks, rfl, hh0, hNs⟩ := hC
  exact fun H locs arr hn hP hS hl => lv_icmp_lt hx hb hd ht (fun h => kt h H locs arr hn hP hS hl) (fun h => kf h H locs arr hn hP hS hl)
theorem g_if_lt {Lw : gL} {l : Launch} {X : gC} {cc : ByteArray} {own : String} {dd ca sa k n pc : Nat} {ls : List (Option Value)} {st : List Value} {σ : Mem} {x : Int32} {off : Int} (tgt : Nat) (hC : gOk Lw l X cc own dd ca sa) (hd : decode cc pc = .ok (.ifCond .lt off, 3)) (ht : (pc : Int) + off = (tgt : Int)) (kt : x < 0 → G Lw X k n tgt ls st σ) (kf : ¬ (x < 0) → G Lw X k n (pc + 3) ls st σ) : G Lw X k n pc ls (.int x :: st) σ := by
  obtain ⟨p, l', e, R, s, m, args, below, meth, c, nL, H0, A, E, Q⟩ := X
  obtain ⟨hx, hb, hml, hown, hTB, hK, hD, hA, hR, hlocks, rfl, hh0, hNs⟩ := hC
  exact fun H locs arr hn hP hS hl => lv_if_lt hx hb hd ht (fun h => kt h H locs arr hn hP hS hl) (fun h => kf h H locs arr hn hP hS hl)
theorem g_icmp_ge {Lw : gL} {l : Launch} {X : gC} {cc : ByteArray} {own : String} {dd ca sa k n pc : Nat} {ls : List (Option Value)} {st : List Value} {σ : Mem} {x y : Int32} {off : Int} (tgt : Nat) (hC : gOk Lw l X cc own dd ca sa) (hd : decode cc pc = .ok (.if_icmp .ge off, 3)) (ht : (pc : Int) + off = (tgt : Int)) (kt : y ≤ x → G Lw X k n tgt ls st σ) (kf : ¬ (y ≤ x) → G Lw X k n (pc + 3) ls st σ) : G Lw X k n pc ls (.int y :: .int x :: st) σ := by
  obtain ⟨p, l', e, R, s, m, args, below, meth, c, nL, H0, A, E, Q⟩ := X
  obtain ⟨hx, hb, hml, hown, hTB, hK, hD, hA, hR, hlocks, rfl, hh0, hNs⟩ := hC
  exact fun H locs arr hn hP hS hl => lv_icmp_ge hx hb hd ht (fun h => kt h H locs arr hn hP hS hl) (fun h => kf h H locs arr hn hP hS hl)
theorem g_if_ge {Lw : gL} {l : Launch} {X : gC} {cc : ByteArray} {own : String} {dd ca sa k n pc : Nat} {ls : List (Option Value)} {st : List Value} {σ : Mem} {x : Int32} {off : Int} (tgt : Nat) (hC : gOk Lw l X cc own dd ca sa) (hd : decode cc pc = .ok (.ifCond .ge off, 3)) (ht : (pc : Int) + off = (tgt : Int)) (kt : 0 ≤ x → G Lw X k n tgt ls st σ) (kf : ¬ (0 ≤ x) → G Lw X k n (pc + 3) ls st σ) : G Lw X k n pc ls (.int x :: st) σ := by
  obtain ⟨p, l', e, R, s, m, args, below, meth, c, nL, H0, A, E, Q⟩ := X
  obtain ⟨hx, hb, hml, hown, hTB, hK, hD, hA, hR, hlocks, rfl, hh0, hNs⟩ := hC
  exact fun H locs arr hn hP hS hl => lv_if_ge hx hb hd ht (fun h => kt h H locs arr hn hP hS hl) (fun h => kf h H locs arr hn hP hS hl)
theorem g_icmp_gt {Lw : gL} {l : Launch} {X : gC} {cc : ByteArray} {own : String} {dd ca sa k n pc : Nat} {ls : List (Option Value)} {st : List Value} {σ : Mem} {x y : Int32} {off : Int} (tgt : Nat) (hC : gOk Lw l X cc own dd ca sa) (hd : decode cc pc = .ok (.if_icmp .gt off, 3)) (ht : (pc : Int) + off = (tgt : Int)) (kt : y < x → G Lw X k n tgt ls st σ) (kf : ¬ (y < x) → G Lw X k n (pc + 3) ls st σ) : G Lw X k n pc ls (.int y :: .int x :: st) σ := by
  obtain ⟨p, l', e, R, s, m, args, below, meth, c, nL, H0, A, E, Q⟩ := X
  obtain ⟨hx, hb, hml, hown, hTB, hK, hD, hA, hR, hlocks, rfl, hh0, hNs⟩ := hC
  exact fun H locs arr hn hP hS hl => lv_icmp_gt hx hb hd ht (fun h => kt h H locs arr hn hP hS hl) (fun h => kf h H locs arr hn hP hS hl)
theorem g_if_gt {Lw : gL} {l : Launch} {X : gC} {cc : ByteArray} {own : String} {dd ca sa k n pc : Nat} {ls : List (Option Value)} {st : List Value} {σ : Mem} {x : Int32} {off : Int} (tgt : Nat) (hC : gOk Lw l X cc own dd ca sa) (hd : decode cc pc = .ok (.ifCond .gt off, 3)) (ht : (pc : Int) + off = (tgt : Int)) (kt : 0 < x → G Lw X k n tgt ls st σ) (kf : ¬ (0 < x) → G Lw X k n (pc + 3) ls st σ) : G Lw X k n pc ls (.int x :: st) σ := by
  obtain ⟨p, l', e, R, s, m, args, below, meth, c, nL, H0, A, E, Q⟩ := X
  obtain ⟨hx, hb, hml, hown, hTB, hK, hD, hA, hR, hlocks, rfl, hh0, hNs⟩ := hC
  exact fun H locs arr hn hP hS hl => lv_if_gt hx hb hd ht (fun h => kt h H locs arr hn hP hS hl) (fun h => kf h H locs arr hn hP hS hl)
theorem g_icmp_le {Lw : gL} {l : Launch} {X : gC} {cc : ByteArray} {own : String} {dd ca sa k n pc : Nat} {ls : List (Option Value)} {st : List Value} {σ : Mem} {x y : Int32} {off : Int} (tgt : Nat) (hC : gOk Lw l X cc own dd ca sa) (hd : decode cc pc = .ok (.if_icmp .le off, 3)) (ht : (pc : Int) + off = (tgt : Int)) (kt : x ≤ y → G Lw X k n tgt ls st σ) (kf : ¬ (x ≤ y) → G Lw X k n (pc + 3) ls st σ) : G Lw X k n pc ls (.int y :: .int x :: st) σ := by
  obtain ⟨p, l', e, R, s, m, args, below, meth, c, nL, H0, A, E, Q⟩ := X
  obtain ⟨hx, hb, hml, hown, hTB, hK, hD, hA, hR, hlocks, rfl, hh0, hNs⟩ := hC
  exact fun H locs arr hn hP hS hl => lv_icmp_le hx hb hd ht (fun h => kt h H locs arr hn hP hS hl) (fun h => kf h H locs arr hn hP hS hl)
theorem g_if_le {Lw : gL} {l : Launch} {X : gC} {cc : ByteArray} {own : String} {dd ca sa k n pc : Nat} {ls : List (Option Value)} {st : List Value} {σ : Mem} {x : Int32} {off : Int} (tgt : Nat) (hC : gOk Lw l X cc own dd ca sa) (hd : decode cc pc = .ok (.ifCond .le off, 3)) (ht : (pc : Int) + off = (tgt : Int)) (kt : x ≤ 0 → G Lw X k n tgt ls st σ) (kf : ¬ (x ≤ 0) → G Lw X k n (pc + 3) ls st σ) : G Lw X k n pc ls (.int x :: st) σ := by
  obtain ⟨p, l', e, R, s, m, args, below, meth, c, nL, H0, A, E, Q⟩ := X
  obtain ⟨hx, hb, hml, hown, hTB, hK, hD, hA, hR, hlocks, rfl, hh0, hNs⟩ := hC
  exact fun H locs arr hn hP hS hl => lv_if_le hx hb hd ht (fun h => kt h H locs arr hn hP hS hl) (fun h => kf h H locs arr hn hP hS hl)
theorem g_goto {Lw : gL} {l : Launch} {X : gC} {cc : ByteArray} {own : String} {dd ca sa k n pc : Nat} {ls : List (Option Value)} {st : List Value} {σ : Mem} {off : Int} (tgt : Nat) (hC : gOk Lw l X cc own dd ca sa) (hd : decode cc pc = .ok (.goto off, 3)) (ht : (pc : Int) + off = (tgt : Int)) (kk : G Lw X k n tgt ls st σ) : G Lw X k n pc ls st σ := by
  obtain ⟨p, l', e, R, s, m, args, below, meth, c, nL, H0, A, E, Q⟩ := X
  obtain ⟨hx, hb, hml, hown, hTB, hK, hD, hA, hR, hlocks, rfl, hh0, hNs⟩ := hC
  exact fun H locs arr hn hP hS hl => lv_goto hx hb hd ht (kk H locs arr hn hP hS hl)
theorem g_tin {Lw : gL} {l : Launch} {X : gC} {cc : ByteArray} {own : String} {dd ca sa k n pc : Nat} {ls : List (Option Value)} {st : List Value} {σ : Mem} {x : Int32} {dflt lo hi off : Int} {offs : Array Int} {len : Nat} (tgt : Nat) (hC : gOk Lw l X cc own dd ca sa) (hd : decode cc pc = .ok (.tableswitch dflt lo hi offs, len)) (h1 : ¬ x.toInt < lo) (h2 : ¬ hi < x.toInt) (ho : offs[(x.toInt - lo).toNat]? = some off) (ht : (pc : Int) + off = (tgt : Int)) (kk : G Lw X k n tgt ls st σ) : G Lw X k n pc ls (.int x :: st) σ := by
  obtain ⟨p, l', e, R, s, m, args, below, meth, c, nL, H0, A, E, Q⟩ := X
  obtain ⟨hx, hb, hml, hown, hTB, hK, hD, hA, hR, hlocks, rfl, hh0, hNs⟩ := hC
  exact fun H locs arr hn hP hS hl => lv_tableIn hx hb hd h1 h2 ho ht (kk H locs arr hn hP hS hl)
theorem g_tout {Lw : gL} {l : Launch} {X : gC} {cc : ByteArray} {own : String} {dd ca sa k n pc : Nat} {ls : List (Option Value)} {st : List Value} {σ : Mem} {x : Int32} {dflt lo hi : Int} {offs : Array Int} {len : Nat} (tgt : Nat) (hC : gOk Lw l X cc own dd ca sa) (hd : decode cc pc = .ok (.tableswitch dflt lo hi offs, len)) (h : x.toInt < lo ∨ hi < x.toInt) (ht : (pc : Int) + dflt = (tgt : Int)) (kk : G Lw X k n tgt ls st σ) : G Lw X k n pc ls (.int x :: st) σ := by
  obtain ⟨p, l', e, R, s, m, args, below, meth, c, nL, H0, A, E, Q⟩ := X
  obtain ⟨hx, hb, hml, hown, hTB, hK, hD, hA, hR, hlocks, rfl, hh0, hNs⟩ := hC
  exact fun H locs arr hn hP hS hl => lv_tableOut hx hb hd h ht (kk H locs arr hn hP hS hl)
theorem g_look {Lw : gL} {l : Launch} {X : gC} {cc : ByteArray} {own : String} {dd ca sa k n pc : Nat} {ls : List (Option Value)} {st : List Value} {σ : Mem} {x : Int32} {dflt off : Int} {ps : Array (Int × Int)} {len : Nat} (tgt : Nat) (hC : gOk Lw l X cc own dd ca sa) (hd : decode cc pc = .ok (.lookupswitch dflt ps, len)) (hp : (ps.toList.zip (ps.toList.drop 1)).all (fun (a, next) => a.1 < next.1) = true) (ho : Op.lookupswitch.offset ps.toList dflt x.toInt = off) (ht : (pc : Int) + off = (tgt : Int)) (kk : G Lw X k n tgt ls st σ) : G Lw X k n pc ls (.int x :: st) σ := by
  obtain ⟨p, l', e, R, s, m, args, below, meth, c, nL, H0, A, E, Q⟩ := X
  obtain ⟨hx, hb, hml, hown, hTB, hK, hD, hA, hR, hlocks, rfl, hh0, hNs⟩ := hC
  exact fun H locs arr hn hP hS hl => lv_lookup hx hb hd hp ho ht (kk H locs arr hn hP hS hl)
theorem g_ldc2 {Lw : gL} {l : Launch} {X : gC} {cc : ByteArray} {own : String} {dd ca sa k n pc : Nat} {ls : List (Option Value)} {st : List Value} {σ : Mem} {index : Nat} {v : Int64} (hC : gOk Lw l X cc own dd ca sa) (hc : Cond.constantLong own index v ∈ TB) (hd : decode cc pc = .ok (.ldc2_w index, 3)) (kk : G Lw X k n (pc + 3) ls (.long v :: st) σ) : G Lw X k n pc ls st σ := by
  obtain ⟨p, l', e, R, s, m, args, below, meth, c, nL, H0, A, E, Q⟩ := X
  obtain ⟨hx, hb, hml, hown, hTB, hK, hD, hA, hR, hlocks, rfl, hh0, hNs⟩ := hC
  exact fun H locs arr hn hP hS hl => lv_ldc2 hx hb hown (hTB _ hc) hd (kk H locs arr hn hP hS hl)
theorem g_forget {Lw : gL} {X : gC} {k n pc : Nat} {ls ls1 : List (Option Value)} {st : List Value} {σ : Mem} (h : ls1.length = ls.length) (h1 : ∀ (j : Nat) (v : Value), ls1[j]? = some (some v) → ls[j]? = some (some v)) (kk : G Lw X k n pc ls1 st σ) : G Lw X k n pc ls st σ := by
  obtain ⟨p, l', e, R, s, m, args, below, meth, c, nL, H0, A, E, Q⟩ := X
  exact fun H locs arr hn hP hS hl => kk H locs arr (h.trans hn) hP hS ⟨hl.1, hl.2.1, fun q hq => by
    obtain ⟨j, e1, e2⟩ := (gl_mem _ _ _).mp hq
    exact hl.2.2 q ((gl_mem _ _ _).mpr ⟨j, e1, h1 j _ e2⟩)⟩
def gfg : List Bool → List (Option Value) → List (Option Value)
  | [], ls => ls
  | _, [] => []
  | true :: b, o :: r => o :: gfg b r
  | false :: b, _ :: r => none :: gfg b r
theorem gfg_len : ∀ (b : List Bool) (ls : List (Option Value)), (gfg b ls).length = ls.length := by
  intro b
  induction b with
  | nil => intro ls; cases ls <;> rfl
  | cons t b ih =>
    intro ls
    cases ls with
    | nil => cases t <;> rfl
    | cons o r => cases t <;> simp [gfg, ih r]
theorem gfg_at : ∀ (b : List Bool) (ls : List (Option Value)) (j : Nat) (v : Value), (gfg b ls)[j]? = some (some v) → ls[j]? = some (some v) := by
  intro b
  induction b with
  | nil => intro ls j v h; cases ls <;> exact h
  | cons t b ih =>
    intro ls j v h
    cases ls with
    | nil => cases t <;> exact h
    | cons o r =>
      cases t with
      | true =>
        cases j with
        | zero => exact h
        | succ j => exact ih r j v (by simpa [gfg] using h)
      | false =>
        cases j with
        | zero => simp [gfg] at h
        | succ j => exact ih r j v (by simpa [gfg] using h)
/-- only the locals with true are kept -/
theorem g_keep {Lw : gL} {X : gC} {k n pc : Nat} {ls : List (Option Value)} {st : List Value} {σ : Mem} (b : List Bool) (kk : G Lw X k n pc (gfg b ls) st σ) : G Lw X k n pc ls st σ := g_forget (gfg_len b ls) (gfg_at b ls) kk

theorem g_get {Lw : gL} {l : Launch} {X : gC} {cc : ByteArray} {own : String} {dd ca sa k n pc : Nat} {ls : List (Option Value)} {st : List Value} {σ : Mem} {C : String} {T : u_T} {N ci i index : Nat} {fs : List Value} {v : Value} (hC : gOk Lw l X cc own dd ca sa) (hin : ∀ w ∈ u_ws C T N, w ∈ TB) (hc : vwCl[ci]? = some (C, T, N)) (hi : i < Lw.1) (he : Lw.2 (gEv X) (σ i) i = .inr (ci, fs)) (j : Nat) (hj : j < N) (hlk : Cond.fieldLink own index (T j).1 (T j).2.1 (T j).2.2.1 ∈ TB) (hv : fs[j]? = some v) (hd : decode cc pc = .ok (.getfield index, 3)) (kk : G Lw X k n (pc + 3) ls (v :: st) σ) : G Lw X k n pc ls (.ref (gA X i) :: st) σ := by
  obtain ⟨p, l', e, R, s, m, args, below, meth, c, nL, H0, A, E, Q⟩ := X
  obtain ⟨hx, hb, hml, hown, hTB, hK, hD, hA, hR, hlocks, rfl, hh0, hNs⟩ := hC
  exact fun H locs arr hn hP hS hl => va_get (D := E.1) (ci := ci) (v := v) (C := C) (T := T) (N := N) hx hb hTB hin hown hK hP i (fs := fs) (by rw [gW_at _ _ _ hi]; exact congrArg (fun z => some (E.2.1 i, z)) he) hc j hj (hTB _ hlk) (fun _ h9 => h9) hv hd (kk H locs arr hn hP hS hl)
theorem g_put {Lw : gL} {l : Launch} {X : gC} {cc : ByteArray} {own : String} {dd ca sa k n pc : Nat} {ls : List (Option Value)} {st : List Value} {σ : Mem} {C : String} {T : u_T} {N ci i index : Nat} {fs : List Value} {v : Value} {ty : FieldType} {x : Int32} (ty0 : Nat → FieldType) (hC : gOk Lw l X cc own dd ca sa) (hin : ∀ w ∈ u_ws C T N, w ∈ TB) (hty : ∀ k, k < N → parseFieldDescriptor (T k).2.2.1 = some (ty0 k)) (hnm : ∀ a, a < N → ∀ b, b < N → a ≠ b → (T a).2.1 ≠ (T b).2.1) (hc : vwCl[ci]? = some (C, T, N)) (hi : i < Lw.1) (he : Lw.2 (gEv X) (σ i) i = .inr (ci, fs)) (j : Nat) (hj : j < N) (hlk : Cond.fieldLink own index (T j).1 (T j).2.1 (T j).2.2.1 ∈ TB) (hfin : (T j).2.2.2 = false) (hpd : parseFieldDescriptor (T j).2.2.1 = some ty) (hna : narrow ty v = v) (hfit : fits ty v = true) (hl0 : j < fs.length) (he1 : Lw.2 (gEv X) (upd (σ i) j x) i = .inr (ci, fs.set j v)) (hd : decode cc pc = .ok (.putfield index, 3)) (kk : G Lw X k n (pc + 3) ls st (upd2 σ i j x)) : G Lw X k n pc ls (v :: .ref (gA X i) :: st) σ := by
  obtain ⟨p, l', e, R, s, m, args, below, meth, c, nL, H0, A, E, Q⟩ := X
  obtain ⟨hx, hb, hml, hown, hTB, hK, hD, hA, hR, hlocks, rfl, hh0, hNs⟩ := hC
  have he2 : Lw.2 E (upd (σ i) j x) i = .inr (ci, fs.set j v) := he1
  exact fun H locs arr hn hP hS hl => va_put (D := E.1) (ci := ci) (v := v) (ty := ty) (C := C) (T := T) (N := N) hx hb hTB hin ty0 hty hnm hown hK hP (hD σ) hS i (fs := fs) (by rw [gW_at _ _ _ hi]; exact congrArg (fun z => some (E.2.1 i, z)) he) hc j hj (hTB _ hlk) (fun _ h9 => h9) hfin hpd hna hfit hl0 hd (fun H1 locs1 hP1 _ hS1 => kk H1 locs1 arr hn (by rw [← gW_set hi he2]; exact hP1) hS1 hl)
theorem g_iald {Lw : gL} {l : Launch} {X : gC} {cc : ByteArray} {own : String} {dd ca sa k n pc : Nat} {ls : List (Option Value)} {st : List Value} {σ : Mem} {i N j : Nat} {f : Nat → Int32} {x : Int32} (hC : gOk Lw l X cc own dd ca sa) (hi : i < Lw.1) (he : Lw.2 (gEv X) (σ i) i = .inl ((gEv X).2.2 0, N, .inl f)) (hx0 : x = nI j) (hj : j < N) (hN : N < 2 ^ 31) (hd : decode cc pc = .ok (.iaload, 1)) (kk : G Lw X k n (pc + 1) ls (.int (f j) :: st) σ) : G Lw X k n pc ls (.int x :: .ref (gA X i) :: st) σ := by
  obtain ⟨p, l', e, R, s, m, args, below, meth, c, nL, H0, A, E, Q⟩ := X
  obtain ⟨hx, hb, hml, hown, hTB, hK, hD, hA, hR, hlocks, rfl, hh0, hNs⟩ := hC
  subst hx0
  have hcl : (nI j).toNatClampNeg = j := nI_clamp (by omega)
  exact fun H locs arr hn hP hS hl => va_iald hx hb hK hP i 0 (n := N) (f := f) (by rw [gW_at _ _ _ hi]; exact congrArg (fun z => some (E.2.1 i, z)) he) rfl (vp_in_nI hj hN) hd (by rw [hcl]; exact kk H locs arr hn hP hS hl)
theorem g_zald {Lw : gL} {l : Launch} {X : gC} {cc : ByteArray} {own : String} {dd ca sa k n pc : Nat} {ls : List (Option Value)} {st : List Value} {σ : Mem} {i N j : Nat} {f : Nat → Int32} {x : Int32} (hC : gOk Lw l X cc own dd ca sa) (hi : i < Lw.1) (he : Lw.2 (gEv X) (σ i) i = .inl ((gEv X).2.2 1, N, .inl f)) (hx0 : x = nI j) (hj : j < N) (hN : N < 2 ^ 31) (hd : decode cc pc = .ok (.baload, 1)) (kk : G Lw X k n (pc + 1) ls (.int (f j) :: st) σ) : G Lw X k n pc ls (.int x :: .ref (gA X i) :: st) σ := by
  obtain ⟨p, l', e, R, s, m, args, below, meth, c, nL, H0, A, E, Q⟩ := X
  obtain ⟨hx, hb, hml, hown, hTB, hK, hD, hA, hR, hlocks, rfl, hh0, hNs⟩ := hC
  subst hx0
  have hcl : (nI j).toNatClampNeg = j := nI_clamp (by omega)
  exact fun H locs arr hn hP hS hl => va_zald hx hb hK hP i 1 (n := N) (f := f) (by rw [gW_at _ _ _ hi]; exact congrArg (fun z => some (E.2.1 i, z)) he) rfl (vp_in_nI hj hN) hd (by rw [hcl]; exact kk H locs arr hn hP hS hl)
theorem g_iast {Lw : gL} {l : Launch} {X : gC} {cc : ByteArray} {own : String} {dd ca sa k n pc : Nat} {ls : List (Option Value)} {st : List Value} {σ : Mem} {i N j : Nat} {f : Nat → Int32} {x y : Int32} (hC : gOk Lw l X cc own dd ca sa) (hi : i < Lw.1) (he : Lw.2 (gEv X) (σ i) i = .inl ((gEv X).2.2 0, N, .inl f)) (hx0 : x = nI j) (hj : j < N) (hN : N < 2 ^ 31) (he1 : Lw.2 (gEv X) (upd (σ i) j y) i = .inl ((gEv X).2.2 0, N, .inl (upd f j y))) (hd : decode cc pc = .ok (.iastore, 1)) (kk : G Lw X k n (pc + 1) ls st (upd2 σ i j y)) : G Lw X k n pc ls (.int y :: .int x :: .ref (gA X i) :: st) σ := by
  obtain ⟨p, l', e, R, s, m, args, below, meth, c, nL, H0, A, E, Q⟩ := X
  obtain ⟨hx, hb, hml, hown, hTB, hK, hD, hA, hR, hlocks, rfl, hh0, hNs⟩ := hC
  subst hx0
  have hcl : (nI j).toNatClampNeg = j := nI_clamp (by omega)
  refine fun H locs arr hn hP hS hl => va_iast hx hb hK hP (hD σ) hS i 0 (n := N) (f := f) (by rw [gW_at _ _ _ hi]; exact congrArg (fun z => some (E.2.1 i, z)) he) rfl (vp_in_nI hj hN) hd (fun H1 locs1 hP1 _ hS1 => kk H1 locs1 arr hn ?_ hS1 hl)
  have he2 : Lw.2 E (upd (σ i) j y) i = .inl (E.2.2 0, N, .inl (upd f j y)) := he1
  rw [← gW_set hi he2]
  rw [hcl] at hP1
  exact hP1
theorem g_zast {Lw : gL} {l : Launch} {X : gC} {cc : ByteArray} {own : String} {dd ca sa k n pc : Nat} {ls : List (Option Value)} {st : List Value} {σ : Mem} {i N j : Nat} {f : Nat → Int32} {x y : Int32} (hC : gOk Lw l X cc own dd ca sa) (hi : i < Lw.1) (he : Lw.2 (gEv X) (σ i) i = .inl ((gEv X).2.2 1, N, .inl f)) (hx0 : x = nI j) (hj : j < N) (hN : N < 2 ^ 31) (he1 : Lw.2 (gEv X) (upd (σ i) j (vp_nar .boolean y)) i = .inl ((gEv X).2.2 1, N, .inl (upd f j (vp_nar .boolean y)))) (hd : decode cc pc = .ok (.bastore, 1)) (kk : G Lw X k n (pc + 1) ls st (upd2 σ i j (vp_nar .boolean y))) : G Lw X k n pc ls (.int y :: .int x :: .ref (gA X i) :: st) σ := by
  obtain ⟨p, l', e, R, s, m, args, below, meth, c, nL, H0, A, E, Q⟩ := X
  obtain ⟨hx, hb, hml, hown, hTB, hK, hD, hA, hR, hlocks, rfl, hh0, hNs⟩ := hC
  subst hx0
  have hcl : (nI j).toNatClampNeg = j := nI_clamp (by omega)
  refine fun H locs arr hn hP hS hl => va_zast hx hb hK hP (hD σ) hS i 1 (n := N) (f := f) (by rw [gW_at _ _ _ hi]; exact congrArg (fun z => some (E.2.1 i, z)) he) rfl (vp_in_nI hj hN) hd (fun H1 locs1 hP1 _ hS1 => kk H1 locs1 arr hn ?_ hS1 hl)
  have he2 : Lw.2 E (upd (σ i) j (vp_nar .boolean y)) i = .inl (E.2.2 1, N, .inl (upd f j (vp_nar .boolean y))) := he1
  rw [← gW_set hi he2]
  rw [hcl] at hP1
  exact hP1
theorem g_aald {Lw : gL} {l : Launch} {X : gC} {cc : ByteArray} {own : String} {dd ca sa k n pc : Nat} {ls : List (Option Value)} {st : List Value} {σ : Mem} {i N j t0 a : Nat} {f : Nat → Option Nat} {x : Int32} {ct : String} (hC : gOk Lw l X cc own dd ca sa) (hi : i < Lw.1) (he : Lw.2 (gEv X) (σ i) i = .inl ((gEv X).2.2 t0, N, .inr (.inr (.inr (.inr f))))) (ht : ∀ cy, (gT cy)[t0]? = some (cy t0, .object ct)) (hx0 : x = nI j) (hj : j < N) (hN : N < 2 ^ 31) (hf : f j = some a) (hd : decode cc pc = .ok (.aaload, 1)) (kk : G Lw X k n (pc + 1) ls (.ref a :: st) σ) : G Lw X k n pc ls (.int x :: .ref (gA X i) :: st) σ := by
  obtain ⟨p, l', e, R, s, m, args, below, meth, c, nL, H0, A, E, Q⟩ := X
  obtain ⟨hx, hb, hml, hown, hTB, hK, hD, hA, hR, hlocks, rfl, hh0, hNs⟩ := hC
  subst hx0
  have hcl : (nI j).toNatClampNeg = j := nI_clamp (by omega)
  exact fun H locs arr hn hP hS hl => va_aldq hx hb hK hP i t0 (n := N) (f := f) (by rw [gW_at _ _ _ hi]; exact congrArg (fun z => some (E.2.1 i, z)) he) (ht _) (vp_in_nI hj hN) hd (by rw [hcl, hf]; exact kk H locs arr hn hP hS hl)
theorem g_alen {Lw : gL} {l : Launch} {X : gC} {cc : ByteArray} {own : String} {dd ca sa k n pc : Nat} {ls : List (Option Value)} {st : List Value} {σ : Mem} {i t0 N : Nat} {f : (Nat → Int32) ⊕ (Nat → Int64) ⊕ (Nat → UInt32) ⊕ (Nat → UInt64) ⊕ (Nat → Option Nat)} {ty : FieldType} (hC : gOk Lw l X cc own dd ca sa) (hi : i < Lw.1) (he : Lw.2 (gEv X) (σ i) i = .inl ((gEv X).2.2 t0, N, f)) (ht : ∀ cy, (gT cy)[t0]? = some (cy t0, ty)) (hd : decode cc pc = .ok (.arraylength, 1)) (kk : G Lw X k n (pc + 1) ls (.int (nI N) :: st) σ) : G Lw X k n pc ls (.ref (gA X i) :: st) σ := by
  obtain ⟨p, l', e, R, s, m, args, below, meth, c, nL, H0, A, E, Q⟩ := X
  obtain ⟨hx, hb, hml, hown, hTB, hK, hD, hA, hR, hlocks, rfl, hh0, hNs⟩ := hC
  exact fun H locs arr hn hP hS hl => va_alen hx hb hK hP i t0 (x := (N, f)) (by rw [gW_at _ _ _ hi]; exact congrArg (fun z => some (E.2.1 i, z)) he) (ht _) (v := nI N) rfl hd (kk H locs arr hn hP hS hl)
end
section
/-! contracts over a layout: methods that return, and methods that may throw -/
theorem gi_TB {w : Cond} (h : w ∈ TB) : w ∈ TB ∧ ((w.onTables && w.keeps) = true ∨ ∃ ty, w = .arrayClass ty) := ⟨h, good_of_word (List.mem_filter.mp h).2⟩
theorem gi_cons {w : Cond} {ws : List Cond} (h : w ∈ TB) (h2 : GoodIn TB ws) : GoodIn TB (w :: ws) := fun v hv => (List.mem_cons.mp hv).elim (fun e => by rw [e]; exact gi_TB h) (h2 v)
theorem gi_self : GoodIn TB TB := fun _ h => gi_TB h
def gPre (Lw : gL) (av : (Nat → Nat) → List Value) (E : gE) (σ : Mem) (sz : Nat) : Array Value → State → Prop :=
  va_Pc (av E.2.1) (fun U => U.heap.size = sz ∧ va_P E.1 vwCl (gW Lw E σ) U.heap ∧ va_K E.1 vwCl (gT E.2.2) U ∧ va_D (fun _ => True) (gW Lw E σ) ∧ gN U)
def gB (Lw : gL) (E : gE) : Mem → State → Prop := fun σ' t => va_P E.1 vwCl (gW Lw E σ') t.heap
theorem gPre_blind {Lw : gL} {av : (Nat → Nat) → List Value} {E : gE} {σ : Mem} {sz : Nat} : FrameBlind (gPre Lw av E σ sz) := by
  intro a U g mk q
  obtain ⟨q0, q1, qP, qK, qD, qN⟩ := q
  exact ⟨q0, q1, qP, va_K.moved (u := U) (U := U.calling g mk a) (Vm.Alike.refl U.vm) qK, qD, gN.same (u := U) (U := U.calling g mk a) rfl qN⟩

def gMI (Lw : gL) (l : Launch) (y : MethodName) (cd : Cond) (d mc ms : Nat) (av : (Nat → Nat) → List Value) (P : Mem → Prop) (Q : Mem → Int32 → Mem → Prop) : Prop :=
  ∀ (E : gE) (σ : Mem) (sz : Nat), P σ → Met l y (cd :: TB) (gR d mc ms) (gPre Lw av E σ sz) (va_Qi (Q σ) (gB Lw E) (va_A (gW Lw E σ) sz)) mc ms (va_A (gW Lw E σ) sz)
theorem gMI_of {Lw : gL} {l : Launch} {y : MethodName} {cc : ByteArray} {maxL d mc ms : Nat} {av : (Nat → Nat) → List Value} {P : Mem → Prop} {Q : Mem → Int32 → Mem → Prop} (hy : plainName y.cls = true) (hlen : ∀ A, (lg_sl (av A)).length ≤ maxL)
    (body : ∀ (X : gC) (σ : Mem), gOk Lw l X cc y.cls d mc ms → P σ → (∀ (k n pc : Nat) (ls : List (Option Value)) (r : Int32) (σ1 : Mem), decode cc pc = .ok (.ireturn, 1) → k ≤ mc → n ≤ ms → Q σ r σ1 → G Lw X k n pc ls [.int r] σ1) → G Lw X 0 0 0 (gent maxL (av (gA X))) [] σ) : gMI Lw l y (.code y cc maxL (some .int)) d mc ms av P Q := by
  intro E σ sz hP
  refine Met.ofW (cc := cc) (maxL := maxL) (ret := (some .int)) hy rfl ?_
  intro p e s m args below meth c s₁ B hml hv
  obtain ⟨rfl, hsz, hP0, hK, hD0, hNs⟩ := hv
  have hx := B.exec
  have hb := B.bytes
  have hr := B.returns
  have hts := atoms_spec (ws := Cond.code y cc maxL (some .int) :: TB) B.pre
  have hown : s.vm.findClass y.cls = some m.cls := findClass_of_methodNamed B.named
  have hlocks := B.notSynchronized
  subst hsz
  have hl0 : lv_has ((lg_sl (av E.2.1) ++ List.replicate (maxL - (lg_sl (av E.2.1)).length) Slot.unset).toArray) maxL (gl 0 (gent maxL (av E.2.1))) := by
    have h1 := lv_entry (av E.2.1) (n := maxL) (hlen E.2.1)
    exact ⟨h1.1, h1.2.1, fun q hq => h1.2.2 q (gent_mem _ _ _ q hq)⟩
  rw [lg_entry_eq]
  have hD1 : va_D (va_A (gW Lw E σ) s.heap.size) (gW Lw E σ) := hD0.self (sz := s.heap.size)
  refine body (p, l, e, gR d mc ms, s, m, (av E.2.1).toArray, below, meth, c, maxL, s.heap, va_A (gW Lw E σ) s.heap.size, E, MQ below (va_Qi (Q σ) (gB Lw E) (va_A (gW Lw E σ) s.heap.size)) (av E.2.1).toArray s mc ms (va_A (gW Lw E σ) s.heap.size)) σ
    ⟨hx, hb, hml, hown, fun w hw => hts w (List.mem_cons_of_mem _ hw), hK, fun σ' => gW_fix hD1 σ', fun q h => Or.inr h, rfl, hlocks, rfl, rfl, hNs⟩ hP ?_ s.heap [] _ (gent_len _ _ (hlen E.2.1)) hP0 va_S.rf hl0
  intro k n pc ls r σ1 hd hk hn1 hQ H locs arr hn hP1 hS1 hl1
  exact W.widen hk hn1 (W.iret (v := r) hx hb hr (fun t ht hW => ⟨⟨r, σ1, rfl, hQ, by show va_P _ _ _ t.heap; rw [ht]; exact hP1⟩, hS1.F ht⟩) hS1.2.2 hd hlocks)
theorem g_cVI {Lw : gL} {l : Launch} {X : gC} {cc : ByteArray} {own : String} {dd ca sa k n pc : Nat} {ls : List (Option Value)} {st : List Value} {σ : Mem} {b : Nat} {ci q0 : Nat} {fs : List Value} {C : String} {T : u_T} {N : Nat} {y : MethodName} {idx : Nat} {bytes : ByteArray} {maxL d mc ms : Nat} (na : Nat) {av : (Nat → Nat) → List Value} {P : Mem → Prop} {Q : Mem → Int32 → Mem → Prop} {As rest : List Value} (hC : gOk Lw l X cc own dd ca sa) (hM : gMI Lw l y (.code y bytes maxL (some .int)) d mc ms av P Q) (hw1 : Cond.methodLink own idx y ∈ TB) (hw2 : Cond.instanceMethod y ∈ TB ∧ Cond.selects C y y ∈ TB ∧ Cond.initialized C ∈ TB ∧ Cond.code y bytes maxL (some .int) ∈ TB) (hy : y.cls = C ∧ y.cls ≠ "java/lang/invoke/MethodHandle" ∧ y.cls ≠ "java/lang/invoke/VarHandle" ∧ (parseMethodDescriptor y.desc).map (fun d => d.parameters.length) = some na) (hR9 : d + 1 ≤ dd ∧ maxL ≤ 21) (hf : k + mc ≤ ca ∧ n + ms ≤ sa) (ha : av (gA X) = .ref b :: As) (hna : As.length = na) (hc : vwCl[ci]? = some (C, T, N)) (hq0 : (gW Lw (gEv X) σ)[q0]? = some (b, .inr (ci, fs))) (hrest : (rest.map fun v => v.category).sum ≤ 8) (hst : st = As.reverse ++ .ref b :: rest) (hd : decode cc pc = .ok (.invokevirtual idx, 3)) (hP : P σ) (kk : ∀ (r : Int32) (σ1 : Mem), Q σ r σ1 → G Lw X (k + mc) (n + ms) (pc + 3) ls (.int r :: rest) σ1) : G Lw X k n pc ls st σ := by
  obtain ⟨p, l', e, R, s, m, args, below, meth, c, nL, H0, A, E, Q⟩ := X
  obtain ⟨hx, hb, hml, hown, hTB, hK, hD, hA, hR, hlocks, rfl, hh0, hNs⟩ := hC
  subst hR
  have hRR : (gR d mc ms).frames + 1 ≤ (gR dd ca sa).frames ∧ 8 + (maxL + 11) + (gR d mc ms).locals ≤ (gR dd ca sa).locals := by
    refine ⟨hR9.1, ?_⟩
    show 8 + (maxL + 11) + 40 * d ≤ 40 * dd
    omega
  intro H locs arr hn hP0 hS hl
  have hAA : ∀ q, va_A (gW Lw E σ) H.size q → A q := fun q h => h.elim (fun ⟨i, e1, h1⟩ => (hD σ).2 i (q, e1) h1) (fun h1 => hA q (Nat.le_trans hS.1 h1))
  exact va_calli (va_runV (As := As) (rest := rest) (b := b) (Ts := TB) (own := own) (C := C) ⟨hx, hb, hml, hown, hTB⟩ (hM E σ H.size hP) (cwV (ret := (some .int)) (bytes := bytes) (maxL := maxL) na hTB (gi_cons hw1 (gi_cons hw2.1 (gi_cons hw2.2.1 (gi_cons hw2.2.2.1 (gi_cons hw2.2.2.2 gi_self))))) rfl rfl rfl hy hRR) ⟨gPre_blind, va_recv hK hP0 hc hq0, fun U hU hW => ⟨by rw [← ha]; rfl, by rw [hU], by rw [hU]; exact hP0, va_K.moved hW.alike hK, (hD σ).weaken (fun _ _ _ _ => trivial), gN.warm hW hNs⟩⟩ rfl hna hl.1 hst (lv_room hrest) hd hf) hS (fun q _ h => hAA q h) hAA (fun r u t H1 locs1 ht _ hq hB _ _ hS1 => kk r u hq H1 locs1 arr hn (by rw [← ht]; exact hB) hS1 hl)
theorem g_cSI {Lw : gL} {l : Launch} {X : gC} {cc : ByteArray} {own : String} {dd ca sa k n pc : Nat} {ls : List (Option Value)} {st : List Value} {σ : Mem} {y : MethodName} {idx : Nat} {bytes : ByteArray} {maxL d mc ms : Nat} (na : Nat) {av : (Nat → Nat) → List Value} {P : Mem → Prop} {Q : Mem → Int32 → Mem → Prop} {As rest : List Value} (hC : gOk Lw l X cc own dd ca sa) (hM : gMI Lw l y (.code y bytes maxL (some .int)) d mc ms av P Q) (hw1 : Cond.methodLink own idx y ∈ TB) (hw2 : Cond.static y ∈ TB ∧ Cond.initialized y.cls ∈ TB ∧ Cond.code y bytes maxL (some .int) ∈ TB) (hy : y.cls ≠ "java/lang/invoke/MethodHandle" ∧ y.cls ≠ "java/lang/invoke/VarHandle" ∧ (parseMethodDescriptor y.desc).map (fun d => d.parameters.length) = some na) (hR9 : d + 1 ≤ dd ∧ maxL ≤ 21) (hf : k + mc ≤ ca ∧ n + ms ≤ sa) (ha : av (gA X) = As) (hna : As.length = na) (hrest : (rest.map fun v => v.category).sum ≤ 8) (hst : st = As.reverse ++ rest) (hd : decode cc pc = .ok (.invokestatic idx, 3)) (hP : P σ) (kk : ∀ (r : Int32) (σ1 : Mem), Q σ r σ1 → G Lw X (k + mc) (n + ms) (pc + 3) ls (.int r :: rest) σ1) : G Lw X k n pc ls st σ := by
  obtain ⟨p, l', e, R, s, m, args, below, meth, c, nL, H0, A, E, Q⟩ := X
  obtain ⟨hx, hb, hml, hown, hTB, hK, hD, hA, hR, hlocks, rfl, hh0, hNs⟩ := hC
  subst hR
  have hRR : (gR d mc ms).frames + 1 ≤ (gR dd ca sa).frames ∧ 8 + (maxL + 11) + (gR d mc ms).locals ≤ (gR dd ca sa).locals := by
    refine ⟨hR9.1, ?_⟩
    show 8 + (maxL + 11) + 40 * d ≤ 40 * dd
    omega
  intro H locs arr hn hP0 hS hl
  have hAA : ∀ q, va_A (gW Lw E σ) H.size q → A q := fun q h => h.elim (fun ⟨i, e1, h1⟩ => (hD σ).2 i (q, e1) h1) (fun h1 => hA q (Nat.le_trans hS.1 h1))
  exact va_calli (va_runS (As := As) (rest := rest) (Ts := TB) (own := own) ⟨hx, hb, hml, hown, hTB⟩ (hM E σ H.size hP) (va_cwS (ret := (some .int)) (bytes := bytes) (maxL := maxL) na hTB (gi_cons hw1 (gi_cons hw2.1 (gi_cons hw2.2.1 (gi_cons hw2.2.2 gi_self)))) rfl rfl rfl hy hRR) ⟨gPre_blind, fun U hU hW => ⟨by rw [← ha]; rfl, by rw [hU], by rw [hU]; exact hP0, va_K.moved hW.alike hK, (hD σ).weaken (fun _ _ _ _ => trivial), gN.warm hW hNs⟩⟩ rfl hna hl.1 hst (lv_room hrest) hd hf) hS (fun q _ h => hAA q h) hAA (fun r u t H1 locs1 ht _ hq hB _ _ hS1 => kk r u hq H1 locs1 arr hn (by rw [← ht]; exact hB) hS1 hl)
def gMZ (Lw : gL) (l : Launch) (y : MethodName) (cd : Cond) (d mc ms : Nat) (av : (Nat → Nat) → List Value) (P : Mem → Prop) (Q : Mem → Int32 → Mem → Prop) : Prop :=
  ∀ (E : gE) (σ : Mem) (sz : Nat), P σ → Met l y (cd :: TB) (gR d mc ms) (gPre Lw av E σ sz) (va_Qi (Q σ) (gB Lw E) (va_A (gW Lw E σ) sz)) mc ms (va_A (gW Lw E σ) sz)
theorem gMZ_of {Lw : gL} {l : Launch} {y : MethodName} {cc : ByteArray} {maxL d mc ms : Nat} {av : (Nat → Nat) → List Value} {P : Mem → Prop} {Q : Mem → Int32 → Mem → Prop} (hy : plainName y.cls = true) (hlen : ∀ A, (lg_sl (av A)).length ≤ maxL)
    (body : ∀ (X : gC) (σ : Mem), gOk Lw l X cc y.cls d mc ms → P σ → (∀ (k n pc : Nat) (ls : List (Option Value)) (r : Int32) (σ1 : Mem), decode cc pc = .ok (.ireturn, 1) → k ≤ mc → n ≤ ms → (r = 0 ∨ r = 1) → Q σ r σ1 → G Lw X k n pc ls [.int r] σ1) → G Lw X 0 0 0 (gent maxL (av (gA X))) [] σ) : gMZ Lw l y (.code y cc maxL (some .boolean)) d mc ms av P Q := by
  intro E σ sz hP
  refine Met.ofW (cc := cc) (maxL := maxL) (ret := (some .boolean)) hy rfl ?_
  intro p e s m args below meth c s₁ B hml hv
  obtain ⟨rfl, hsz, hP0, hK, hD0, hNs⟩ := hv
  have hx := B.exec
  have hb := B.bytes
  have hr := B.returns
  have hts := atoms_spec (ws := Cond.code y cc maxL (some .boolean) :: TB) B.pre
  have hown : s.vm.findClass y.cls = some m.cls := findClass_of_methodNamed B.named
  have hlocks := B.notSynchronized
  subst hsz
  have hl0 : lv_has ((lg_sl (av E.2.1) ++ List.replicate (maxL - (lg_sl (av E.2.1)).length) Slot.unset).toArray) maxL (gl 0 (gent maxL (av E.2.1))) := by
    have h1 := lv_entry (av E.2.1) (n := maxL) (hlen E.2.1)
    exact ⟨h1.1, h1.2.1, fun q hq => h1.2.2 q (gent_mem _ _ _ q hq)⟩
  rw [lg_entry_eq]
  have hD1 : va_D (va_A (gW Lw E σ) s.heap.size) (gW Lw E σ) := hD0.self (sz := s.heap.size)
  refine body (p, l, e, gR d mc ms, s, m, (av E.2.1).toArray, below, meth, c, maxL, s.heap, va_A (gW Lw E σ) s.heap.size, E, MQ below (va_Qi (Q σ) (gB Lw E) (va_A (gW Lw E σ) s.heap.size)) (av E.2.1).toArray s mc ms (va_A (gW Lw E σ) s.heap.size)) σ
    ⟨hx, hb, hml, hown, fun w hw => hts w (List.mem_cons_of_mem _ hw), hK, fun σ' => gW_fix hD1 σ', fun q h => Or.inr h, rfl, hlocks, rfl, rfl, hNs⟩ hP ?_ s.heap [] _ (gent_len _ _ (hlen E.2.1)) hP0 va_S.rf hl0
  intro k n pc ls r σ1 hd hk hn1 hr1 hQ H locs arr hn hP1 hS1 hl1
  exact W.widen hk hn1 (W.zret (v := r) hx hb hr (by rcases hr1 with rfl | rfl <;> rfl) (fun t ht hW => ⟨⟨r, σ1, rfl, hQ, by show va_P _ _ _ t.heap; rw [ht]; exact hP1⟩, hS1.F ht⟩) hS1.2.2 hd hlocks)
theorem g_cVZ {Lw : gL} {l : Launch} {X : gC} {cc : ByteArray} {own : String} {dd ca sa k n pc : Nat} {ls : List (Option Value)} {st : List Value} {σ : Mem} {b : Nat} {ci q0 : Nat} {fs : List Value} {C : String} {T : u_T} {N : Nat} {y : MethodName} {idx : Nat} {bytes : ByteArray} {maxL d mc ms : Nat} (na : Nat) {av : (Nat → Nat) → List Value} {P : Mem → Prop} {Q : Mem → Int32 → Mem → Prop} {As rest : List Value} (hC : gOk Lw l X cc own dd ca sa) (hM : gMZ Lw l y (.code y bytes maxL (some .boolean)) d mc ms av P Q) (hw1 : Cond.methodLink own idx y ∈ TB) (hw2 : Cond.instanceMethod y ∈ TB ∧ Cond.selects C y y ∈ TB ∧ Cond.initialized C ∈ TB ∧ Cond.code y bytes maxL (some .boolean) ∈ TB) (hy : y.cls = C ∧ y.cls ≠ "java/lang/invoke/MethodHandle" ∧ y.cls ≠ "java/lang/invoke/VarHandle" ∧ (parseMethodDescriptor y.desc).map (fun d => d.parameters.length) = some na) (hR9 : d + 1 ≤ dd ∧ maxL ≤ 21) (hf : k + mc ≤ ca ∧ n + ms ≤ sa) (ha : av (gA X) = .ref b :: As) (hna : As.length = na) (hc : vwCl[ci]? = some (C, T, N)) (hq0 : (gW Lw (gEv X) σ)[q0]? = some (b, .inr (ci, fs))) (hrest : (rest.map fun v => v.category).sum ≤ 8) (hst : st = As.reverse ++ .ref b :: rest) (hd : decode cc pc = .ok (.invokevirtual idx, 3)) (hP : P σ) (kk : ∀ (r : Int32) (σ1 : Mem), Q σ r σ1 → G Lw X (k + mc) (n + ms) (pc + 3) ls (.int r :: rest) σ1) : G Lw X k n pc ls st σ := by
  obtain ⟨p, l', e, R, s, m, args, below, meth, c, nL, H0, A, E, Q⟩ := X
  obtain ⟨hx, hb, hml, hown, hTB, hK, hD, hA, hR, hlocks, rfl, hh0, hNs⟩ := hC
  subst hR
  have hRR : (gR d mc ms).frames + 1 ≤ (gR dd ca sa).frames ∧ 8 + (maxL + 11) + (gR d mc ms).locals ≤ (gR dd ca sa).locals := by
    refine ⟨hR9.1, ?_⟩
    show 8 + (maxL + 11) + 40 * d ≤ 40 * dd
    omega
  intro H locs arr hn hP0 hS hl
  have hAA : ∀ q, va_A (gW Lw E σ) H.size q → A q := fun q h => h.elim (fun ⟨i, e1, h1⟩ => (hD σ).2 i (q, e1) h1) (fun h1 => hA q (Nat.le_trans hS.1 h1))
  exact va_calli (va_runV (As := As) (rest := rest) (b := b) (Ts := TB) (own := own) (C := C) ⟨hx, hb, hml, hown, hTB⟩ (hM E σ H.size hP) (cwV (ret := (some .boolean)) (bytes := bytes) (maxL := maxL) na hTB (gi_cons hw1 (gi_cons hw2.1 (gi_cons hw2.2.1 (gi_cons hw2.2.2.1 (gi_cons hw2.2.2.2 gi_self))))) rfl rfl rfl hy hRR) ⟨gPre_blind, va_recv hK hP0 hc hq0, fun U hU hW => ⟨by rw [← ha]; rfl, by rw [hU], by rw [hU]; exact hP0, va_K.moved hW.alike hK, (hD σ).weaken (fun _ _ _ _ => trivial), gN.warm hW hNs⟩⟩ rfl hna hl.1 hst (lv_room hrest) hd hf) hS (fun q _ h => hAA q h) hAA (fun r u t H1 locs1 ht _ hq hB _ _ hS1 => kk r u hq H1 locs1 arr hn (by rw [← ht]; exact hB) hS1 hl)
theorem g_cSZ {Lw : gL} {l : Launch} {X : gC} {cc : ByteArray} {own : String} {dd ca sa k n pc : Nat} {ls : List (Option Value)} {st : List Value} {σ : Mem} {y : MethodName} {idx : Nat} {bytes : ByteArray} {maxL d mc ms : Nat} (na : Nat) {av : (Nat → Nat) → List Value} {P : Mem → Prop} {Q : Mem → Int32 → Mem → Prop} {As rest : List Value} (hC : gOk Lw l X cc own dd ca sa) (hM : gMZ Lw l y (.code y bytes maxL (some .boolean)) d mc ms av P Q) (hw1 : Cond.methodLink own idx y ∈ TB) (hw2 : Cond.static y ∈ TB ∧ Cond.initialized y.cls ∈ TB ∧ Cond.code y bytes maxL (some .boolean) ∈ TB) (hy : y.cls ≠ "java/lang/invoke/MethodHandle" ∧ y.cls ≠ "java/lang/invoke/VarHandle" ∧ (parseMethodDescriptor y.desc).map (fun d => d.parameters.length) = some na) (hR9 : d + 1 ≤ dd ∧ maxL ≤ 21) (hf : k + mc ≤ ca ∧ n + ms ≤ sa) (ha : av (gA X) = As) (hna : As.length = na) (hrest : (rest.map fun v => v.category).sum ≤ 8) (hst : st = As.reverse ++ rest) (hd : decode cc pc = .ok (.invokestatic idx, 3)) (hP : P σ) (kk : ∀ (r : Int32) (σ1 : Mem), Q σ r σ1 → G Lw X (k + mc) (n + ms) (pc + 3) ls (.int r :: rest) σ1) : G Lw X k n pc ls st σ := by
  obtain ⟨p, l', e, R, s, m, args, below, meth, c, nL, H0, A, E, Q⟩ := X
  obtain ⟨hx, hb, hml, hown, hTB, hK, hD, hA, hR, hlocks, rfl, hh0, hNs⟩ := hC
  subst hR
  have hRR : (gR d mc ms).frames + 1 ≤ (gR dd ca sa).frames ∧ 8 + (maxL + 11) + (gR d mc ms).locals ≤ (gR dd ca sa).locals := by
    refine ⟨hR9.1, ?_⟩
    show 8 + (maxL + 11) + 40 * d ≤ 40 * dd
    omega
  intro H locs arr hn hP0 hS hl
  have hAA : ∀ q, va_A (gW Lw E σ) H.size q → A q := fun q h => h.elim (fun ⟨i, e1, h1⟩ => (hD σ).2 i (q, e1) h1) (fun h1 => hA q (Nat.le_trans hS.1 h1))
  exact va_calli (va_runS (As := As) (rest := rest) (Ts := TB) (own := own) ⟨hx, hb, hml, hown, hTB⟩ (hM E σ H.size hP) (va_cwS (ret := (some .boolean)) (bytes := bytes) (maxL := maxL) na hTB (gi_cons hw1 (gi_cons hw2.1 (gi_cons hw2.2.1 (gi_cons hw2.2.2 gi_self)))) rfl rfl rfl hy hRR) ⟨gPre_blind, fun U hU hW => ⟨by rw [← ha]; rfl, by rw [hU], by rw [hU]; exact hP0, va_K.moved hW.alike hK, (hD σ).weaken (fun _ _ _ _ => trivial), gN.warm hW hNs⟩⟩ rfl hna hl.1 hst (lv_room hrest) hd hf) hS (fun q _ h => hAA q h) hAA (fun r u t H1 locs1 ht _ hq hB _ _ hS1 => kk r u hq H1 locs1 arr hn (by rw [← ht]; exact hB) hS1 hl)
def gML (Lw : gL) (l : Launch) (y : MethodName) (cd : Cond) (d mc ms : Nat) (av : (Nat → Nat) → List Value) (P : Mem → Prop) (Q : Mem → Int64 → Mem → Prop) : Prop :=
  ∀ (E : gE) (σ : Mem) (sz : Nat), P σ → Met l y (cd :: TB) (gR d mc ms) (gPre Lw av E σ sz) (va_Ql (Q σ) (gB Lw E) (va_A (gW Lw E σ) sz)) mc ms (va_A (gW Lw E σ) sz)
theorem gML_of {Lw : gL} {l : Launch} {y : MethodName} {cc : ByteArray} {maxL d mc ms : Nat} {av : (Nat → Nat) → List Value} {P : Mem → Prop} {Q : Mem → Int64 → Mem → Prop} (hy : plainName y.cls = true) (hlen : ∀ A, (lg_sl (av A)).length ≤ maxL)
    (body : ∀ (X : gC) (σ : Mem), gOk Lw l X cc y.cls d mc ms → P σ → (∀ (k n pc : Nat) (ls : List (Option Value)) (r : Int64) (σ1 : Mem), decode cc pc = .ok (.lreturn, 1) → k ≤ mc → n ≤ ms → Q σ r σ1 → G Lw X k n pc ls [.long r] σ1) → G Lw X 0 0 0 (gent maxL (av (gA X))) [] σ) : gML Lw l y (.code y cc maxL (some .long)) d mc ms av P Q := by
  intro E σ sz hP
  refine Met.ofW (cc := cc) (maxL := maxL) (ret := (some .long)) hy rfl ?_
  intro p e s m args below meth c s₁ B hml hv
  obtain ⟨rfl, hsz, hP0, hK, hD0, hNs⟩ := hv
  have hx := B.exec
  have hb := B.bytes
  have hr := B.returns
  have hts := atoms_spec (ws := Cond.code y cc maxL (some .long) :: TB) B.pre
  have hown : s.vm.findClass y.cls = some m.cls := findClass_of_methodNamed B.named
  have hlocks := B.notSynchronized
  subst hsz
  have hl0 : lv_has ((lg_sl (av E.2.1) ++ List.replicate (maxL - (lg_sl (av E.2.1)).length) Slot.unset).toArray) maxL (gl 0 (gent maxL (av E.2.1))) := by
    have h1 := lv_entry (av E.2.1) (n := maxL) (hlen E.2.1)
    exact ⟨h1.1, h1.2.1, fun q hq => h1.2.2 q (gent_mem _ _ _ q hq)⟩
  rw [lg_entry_eq]
  have hD1 : va_D (va_A (gW Lw E σ) s.heap.size) (gW Lw E σ) := hD0.self (sz := s.heap.size)
  refine body (p, l, e, gR d mc ms, s, m, (av E.2.1).toArray, below, meth, c, maxL, s.heap, va_A (gW Lw E σ) s.heap.size, E, MQ below (va_Ql (Q σ) (gB Lw E) (va_A (gW Lw E σ) s.heap.size)) (av E.2.1).toArray s mc ms (va_A (gW Lw E σ) s.heap.size)) σ
    ⟨hx, hb, hml, hown, fun w hw => hts w (List.mem_cons_of_mem _ hw), hK, fun σ' => gW_fix hD1 σ', fun q h => Or.inr h, rfl, hlocks, rfl, rfl, hNs⟩ hP ?_ s.heap [] _ (gent_len _ _ (hlen E.2.1)) hP0 va_S.rf hl0
  intro k n pc ls r σ1 hd hk hn1 hQ H locs arr hn hP1 hS1 hl1
  exact W.widen hk hn1 (W.lret (v := r) hx hb hr (fun t ht hW => ⟨⟨r, σ1, rfl, hQ, by show va_P _ _ _ t.heap; rw [ht]; exact hP1⟩, hS1.F ht⟩) hS1.2.2 hd hlocks)
theorem g_cVL {Lw : gL} {l : Launch} {X : gC} {cc : ByteArray} {own : String} {dd ca sa k n pc : Nat} {ls : List (Option Value)} {st : List Value} {σ : Mem} {b : Nat} {ci q0 : Nat} {fs : List Value} {C : String} {T : u_T} {N : Nat} {y : MethodName} {idx : Nat} {bytes : ByteArray} {maxL d mc ms : Nat} (na : Nat) {av : (Nat → Nat) → List Value} {P : Mem → Prop} {Q : Mem → Int64 → Mem → Prop} {As rest : List Value} (hC : gOk Lw l X cc own dd ca sa) (hM : gML Lw l y (.code y bytes maxL (some .long)) d mc ms av P Q) (hw1 : Cond.methodLink own idx y ∈ TB) (hw2 : Cond.instanceMethod y ∈ TB ∧ Cond.selects C y y ∈ TB ∧ Cond.initialized C ∈ TB ∧ Cond.code y bytes maxL (some .long) ∈ TB) (hy : y.cls = C ∧ y.cls ≠ "java/lang/invoke/MethodHandle" ∧ y.cls ≠ "java/lang/invoke/VarHandle" ∧ (parseMethodDescriptor y.desc).map (fun d => d.parameters.length) = some na) (hR9 : d + 1 ≤ dd ∧ maxL ≤ 21) (hf : k + mc ≤ ca ∧ n + ms ≤ sa) (ha : av (gA X) = .ref b :: As) (hna : As.length = na) (hc : vwCl[ci]? = some (C, T, N)) (hq0 : (gW Lw (gEv X) σ)[q0]? = some (b, .inr (ci, fs))) (hrest : (rest.map fun v => v.category).sum ≤ 8) (hst : st = As.reverse ++ .ref b :: rest) (hd : decode cc pc = .ok (.invokevirtual idx, 3)) (hP : P σ) (kk : ∀ (r : Int64) (σ1 : Mem), Q σ r σ1 → G Lw X (k + mc) (n + ms) (pc + 3) ls (.long r :: rest) σ1) : G Lw X k n pc ls st σ := by
  obtain ⟨p, l', e, R, s, m, args, below, meth, c, nL, H0, A, E, Q⟩ := X
  obtain ⟨hx, hb, hml, hown, hTB, hK, hD, hA, hR, hlocks, rfl, hh0, hNs⟩ := hC
  subst hR
  have hRR : (gR d mc ms).frames + 1 ≤ (gR dd ca sa).frames ∧ 8 + (maxL + 11) + (gR d mc ms).locals ≤ (gR dd ca sa).locals := by
    refine ⟨hR9.1, ?_⟩
    show 8 + (maxL + 11) + 40 * d ≤ 40 * dd
    omega
  intro H locs arr hn hP0 hS hl
  have hAA : ∀ q, va_A (gW Lw E σ) H.size q → A q := fun q h => h.elim (fun ⟨i, e1, h1⟩ => (hD σ).2 i (q, e1) h1) (fun h1 => hA q (Nat.le_trans hS.1 h1))
  exact va_calll (va_runV (As := As) (rest := rest) (b := b) (Ts := TB) (own := own) (C := C) ⟨hx, hb, hml, hown, hTB⟩ (hM E σ H.size hP) (cwV (ret := (some .long)) (bytes := bytes) (maxL := maxL) na hTB (gi_cons hw1 (gi_cons hw2.1 (gi_cons hw2.2.1 (gi_cons hw2.2.2.1 (gi_cons hw2.2.2.2 gi_self))))) rfl rfl rfl hy hRR) ⟨gPre_blind, va_recv hK hP0 hc hq0, fun U hU hW => ⟨by rw [← ha]; rfl, by rw [hU], by rw [hU]; exact hP0, va_K.moved hW.alike hK, (hD σ).weaken (fun _ _ _ _ => trivial), gN.warm hW hNs⟩⟩ rfl hna hl.1 hst (lv_room hrest) hd hf) hS (fun q _ h => hAA q h) hAA (fun r u t H1 locs1 ht _ hq hB _ _ hS1 => kk r u hq H1 locs1 arr hn (by rw [← ht]; exact hB) hS1 hl)
theorem g_cSL {Lw : gL} {l : Launch} {X : gC} {cc : ByteArray} {own : String} {dd ca sa k n pc : Nat} {ls : List (Option Value)} {st : List Value} {σ : Mem} {y : MethodName} {idx : Nat} {bytes : ByteArray} {maxL d mc ms : Nat} (na : Nat) {av : (Nat → Nat) → List Value} {P : Mem → Prop} {Q : Mem → Int64 → Mem → Prop} {As rest : List Value} (hC : gOk Lw l X cc own dd ca sa) (hM : gML Lw l y (.code y bytes maxL (some .long)) d mc ms av P Q) (hw1 : Cond.methodLink own idx y ∈ TB) (hw2 : Cond.static y ∈ TB ∧ Cond.initialized y.cls ∈ TB ∧ Cond.code y bytes maxL (some .long) ∈ TB) (hy : y.cls ≠ "java/lang/invoke/MethodHandle" ∧ y.cls ≠ "java/lang/invoke/VarHandle" ∧ (parseMethodDescriptor y.desc).map (fun d => d.parameters.length) = some na) (hR9 : d + 1 ≤ dd ∧ maxL ≤ 21) (hf : k + mc ≤ ca ∧ n + ms ≤ sa) (ha : av (gA X) = As) (hna : As.length = na) (hrest : (rest.map fun v => v.category).sum ≤ 8) (hst : st = As.reverse ++ rest) (hd : decode cc pc = .ok (.invokestatic idx, 3)) (hP : P σ) (kk : ∀ (r : Int64) (σ1 : Mem), Q σ r σ1 → G Lw X (k + mc) (n + ms) (pc + 3) ls (.long r :: rest) σ1) : G Lw X k n pc ls st σ := by
  obtain ⟨p, l', e, R, s, m, args, below, meth, c, nL, H0, A, E, Q⟩ := X
  obtain ⟨hx, hb, hml, hown, hTB, hK, hD, hA, hR, hlocks, rfl, hh0, hNs⟩ := hC
  subst hR
  have hRR : (gR d mc ms).frames + 1 ≤ (gR dd ca sa).frames ∧ 8 + (maxL + 11) + (gR d mc ms).locals ≤ (gR dd ca sa).locals := by
    refine ⟨hR9.1, ?_⟩
    show 8 + (maxL + 11) + 40 * d ≤ 40 * dd
    omega
  intro H locs arr hn hP0 hS hl
  have hAA : ∀ q, va_A (gW Lw E σ) H.size q → A q := fun q h => h.elim (fun ⟨i, e1, h1⟩ => (hD σ).2 i (q, e1) h1) (fun h1 => hA q (Nat.le_trans hS.1 h1))
  exact va_calll (va_runS (As := As) (rest := rest) (Ts := TB) (own := own) ⟨hx, hb, hml, hown, hTB⟩ (hM E σ H.size hP) (va_cwS (ret := (some .long)) (bytes := bytes) (maxL := maxL) na hTB (gi_cons hw1 (gi_cons hw2.1 (gi_cons hw2.2.1 (gi_cons hw2.2.2 gi_self)))) rfl rfl rfl hy hRR) ⟨gPre_blind, fun U hU hW => ⟨by rw [← ha]; rfl, by rw [hU], by rw [hU]; exact hP0, va_K.moved hW.alike hK, (hD σ).weaken (fun _ _ _ _ => trivial), gN.warm hW hNs⟩⟩ rfl hna hl.1 hst (lv_room hrest) hd hf) hS (fun q _ h => hAA q h) hAA (fun r u t H1 locs1 ht _ hq hB _ _ hS1 => kk r u hq H1 locs1 arr hn (by rw [← ht]; exact hB) hS1 hl)
def gMD (Lw : gL) (l : Launch) (y : MethodName) (cd : Cond) (d mc ms : Nat) (av : (Nat → Nat) → List Value) (P : Mem → Prop) (Q : Mem → UInt64 → Mem → Prop) : Prop :=
  ∀ (E : gE) (σ : Mem) (sz : Nat), P σ → Met l y (cd :: TB) (gR d mc ms) (gPre Lw av E σ sz) (va_Qd (Q σ) (gB Lw E) (va_A (gW Lw E σ) sz)) mc ms (va_A (gW Lw E σ) sz)
theorem gMD_of {Lw : gL} {l : Launch} {y : MethodName} {cc : ByteArray} {maxL d mc ms : Nat} {av : (Nat → Nat) → List Value} {P : Mem → Prop} {Q : Mem → UInt64 → Mem → Prop} (hy : plainName y.cls = true) (hlen : ∀ A, (lg_sl (av A)).length ≤ maxL)
    (body : ∀ (X : gC) (σ : Mem), gOk Lw l X cc y.cls d mc ms → P σ → (∀ (k n pc : Nat) (ls : List (Option Value)) (r : UInt64) (σ1 : Mem), decode cc pc = .ok (.dreturn, 1) → k ≤ mc → n ≤ ms → Q σ r σ1 → G Lw X k n pc ls [.double r] σ1) → G Lw X 0 0 0 (gent maxL (av (gA X))) [] σ) : gMD Lw l y (.code y cc maxL (some .double)) d mc ms av P Q := by
  intro E σ sz hP
  refine Met.ofW (cc := cc) (maxL := maxL) (ret := (some .double)) hy rfl ?_
  intro p e s m args below meth c s₁ B hml hv
  obtain ⟨rfl, hsz, hP0, hK, hD0, hNs⟩ := hv
  have hx := B.exec
  have hb := B.bytes
  have hr := B.returns
  have hts := atoms_spec (ws := Cond.code y cc maxL (some .double) :: TB) B.pre
  have hown : s.vm.findClass y.cls = some m.cls := findClass_of_methodNamed B.named
  have hlocks := B.notSynchronized
  subst hsz
  have hl0 : lv_has ((lg_sl (av E.2.1) ++ List.replicate (maxL - (lg_sl (av E.2.1)).length) Slot.unset).toArray) maxL (gl 0 (gent maxL (av E.2.1))) := by
    have h1 := lv_entry (av E.2.1) (n := maxL) (hlen E.2.1)
    exact ⟨h1.1, h1.2.1, fun q hq => h1.2.2 q (gent_mem _ _ _ q hq)⟩
  rw [lg_entry_eq]
  have hD1 : va_D (va_A (gW Lw E σ) s.heap.size) (gW Lw E σ) := hD0.self (sz := s.heap.size)
  refine body (p, l, e, gR d mc ms, s, m, (av E.2.1).toArray, below, meth, c, maxL, s.heap, va_A (gW Lw E σ) s.heap.size, E, MQ below (va_Qd (Q σ) (gB Lw E) (va_A (gW Lw E σ) s.heap.size)) (av E.2.1).toArray s mc ms (va_A (gW Lw E σ) s.heap.size)) σ
    ⟨hx, hb, hml, hown, fun w hw => hts w (List.mem_cons_of_mem _ hw), hK, fun σ' => gW_fix hD1 σ', fun q h => Or.inr h, rfl, hlocks, rfl, rfl, hNs⟩ hP ?_ s.heap [] _ (gent_len _ _ (hlen E.2.1)) hP0 va_S.rf hl0
  intro k n pc ls r σ1 hd hk hn1 hQ H locs arr hn hP1 hS1 hl1
  exact W.widen hk hn1 (W.dret (v := r) hx hb hr (fun t ht hW => ⟨⟨r, σ1, rfl, hQ, by show va_P _ _ _ t.heap; rw [ht]; exact hP1⟩, hS1.F ht⟩) hS1.2.2 hd hlocks)
theorem g_cVD {Lw : gL} {l : Launch} {X : gC} {cc : ByteArray} {own : String} {dd ca sa k n pc : Nat} {ls : List (Option Value)} {st : List Value} {σ : Mem} {b : Nat} {ci q0 : Nat} {fs : List Value} {C : String} {T : u_T} {N : Nat} {y : MethodName} {idx : Nat} {bytes : ByteArray} {maxL d mc ms : Nat} (na : Nat) {av : (Nat → Nat) → List Value} {P : Mem → Prop} {Q : Mem → UInt64 → Mem → Prop} {As rest : List Value} (hC : gOk Lw l X cc own dd ca sa) (hM : gMD Lw l y (.code y bytes maxL (some .double)) d mc ms av P Q) (hw1 : Cond.methodLink own idx y ∈ TB) (hw2 : Cond.instanceMethod y ∈ TB ∧ Cond.selects C y y ∈ TB ∧ Cond.initialized C ∈ TB ∧ Cond.code y bytes maxL (some .double) ∈ TB) (hy : y.cls = C ∧ y.cls ≠ "java/lang/invoke/MethodHandle" ∧ y.cls ≠ "java/lang/invoke/VarHandle" ∧ (parseMethodDescriptor y.desc).map (fun d => d.parameters.length) = some na) (hR9 : d + 1 ≤ dd ∧ maxL ≤ 21) (hf : k + mc ≤ ca ∧ n + ms ≤ sa) (ha : av (gA X) = .ref b :: As) (hna : As.length = na) (hc : vwCl[ci]? = some (C, T, N)) (hq0 : (gW Lw (gEv X) σ)[q0]? = some (b, .inr (ci, fs))) (hrest : (rest.map fun v => v.category).sum ≤ 8) (hst : st = As.reverse ++ .ref b :: rest) (hd : decode cc pc = .ok (.invokevirtual idx, 3)) (hP : P σ) (kk : ∀ (r : UInt64) (σ1 : Mem), Q σ r σ1 → G Lw X (k + mc) (n + ms) (pc + 3) ls (.double r :: rest) σ1) : G Lw X k n pc ls st σ := by
  obtain ⟨p, l', e, R, s, m, args, below, meth, c, nL, H0, A, E, Q⟩ := X
  obtain ⟨hx, hb, hml, hown, hTB, hK, hD, hA, hR, hlocks, rfl, hh0, hNs⟩ := hC
  subst hR
  have hRR : (gR d mc ms).frames + 1 ≤ (gR dd ca sa).frames ∧ 8 + (maxL + 11) + (gR d mc ms).locals ≤ (gR dd ca sa).locals := by
    refine ⟨hR9.1, ?_⟩
    show 8 + (maxL + 11) + 40 * d ≤ 40 * dd
    omega
  intro H locs arr hn hP0 hS hl
  have hAA : ∀ q, va_A (gW Lw E σ) H.size q → A q := fun q h => h.elim (fun ⟨i, e1, h1⟩ => (hD σ).2 i (q, e1) h1) (fun h1 => hA q (Nat.le_trans hS.1 h1))
  exact va_calld (va_runV (As := As) (rest := rest) (b := b) (Ts := TB) (own := own) (C := C) ⟨hx, hb, hml, hown, hTB⟩ (hM E σ H.size hP) (cwV (ret := (some .double)) (bytes := bytes) (maxL := maxL) na hTB (gi_cons hw1 (gi_cons hw2.1 (gi_cons hw2.2.1 (gi_cons hw2.2.2.1 (gi_cons hw2.2.2.2 gi_self))))) rfl rfl rfl hy hRR) ⟨gPre_blind, va_recv hK hP0 hc hq0, fun U hU hW => ⟨by rw [← ha]; rfl, by rw [hU], by rw [hU]; exact hP0, va_K.moved hW.alike hK, (hD σ).weaken (fun _ _ _ _ => trivial), gN.warm hW hNs⟩⟩ rfl hna hl.1 hst (lv_room hrest) hd hf) hS (fun q _ h => hAA q h) hAA (fun r u t H1 locs1 ht _ hq hB _ _ hS1 => kk r u hq H1 locs1 arr hn (by rw [← ht]; exact hB) hS1 hl)
theorem g_cSD {Lw : gL} {l : Launch} {X : gC} {cc : ByteArray} {own : String} {dd ca sa k n pc : Nat} {ls : List (Option Value)} {st : List Value} {σ : Mem} {y : MethodName} {idx : Nat} {bytes : ByteArray} {maxL d mc ms : Nat} (na : Nat) {av : (Nat → Nat) → List Value} {P : Mem → Prop} {Q : Mem → UInt64 → Mem → Prop} {As rest : List Value} (hC : gOk Lw l X cc own dd ca sa) (hM : gMD Lw l y (.code y bytes maxL (some .double)) d mc ms av P Q) (hw1 : Cond.methodLink own idx y ∈ TB) (hw2 : Cond.static y ∈ TB ∧ Cond.initialized y.cls ∈ TB ∧ Cond.code y bytes maxL (some .double) ∈ TB) (hy : y.cls ≠ "java/lang/invoke/MethodHandle" ∧ y.cls ≠ "java/lang/invoke/VarHandle" ∧ (parseMethodDescriptor y.desc).map (fun d => d.parameters.length) = some na) (hR9 : d + 1 ≤ dd ∧ maxL ≤ 21) (hf : k + mc ≤ ca ∧ n + ms ≤ sa) (ha : av (gA X) = As) (hna : As.length = na) (hrest : (rest.map fun v => v.category).sum ≤ 8) (hst : st = As.reverse ++ rest) (hd : decode cc pc = .ok (.invokestatic idx, 3)) (hP : P σ) (kk : ∀ (r : UInt64) (σ1 : Mem), Q σ r σ1 → G Lw X (k + mc) (n + ms) (pc + 3) ls (.double r :: rest) σ1) : G Lw X k n pc ls st σ := by
  obtain ⟨p, l', e, R, s, m, args, below, meth, c, nL, H0, A, E, Q⟩ := X
  obtain ⟨hx, hb, hml, hown, hTB, hK, hD, hA, hR, hlocks, rfl, hh0, hNs⟩ := hC
  subst hR
  have hRR : (gR d mc ms).frames + 1 ≤ (gR dd ca sa).frames ∧ 8 + (maxL + 11) + (gR d mc ms).locals ≤ (gR dd ca sa).locals := by
    refine ⟨hR9.1, ?_⟩
    show 8 + (maxL + 11) + 40 * d ≤ 40 * dd
    omega
  intro H locs arr hn hP0 hS hl
  have hAA : ∀ q, va_A (gW Lw E σ) H.size q → A q := fun q h => h.elim (fun ⟨i, e1, h1⟩ => (hD σ).2 i (q, e1) h1) (fun h1 => hA q (Nat.le_trans hS.1 h1))
  exact va_calld (va_runS (As := As) (rest := rest) (Ts := TB) (own := own) ⟨hx, hb, hml, hown, hTB⟩ (hM E σ H.size hP) (va_cwS (ret := (some .double)) (bytes := bytes) (maxL := maxL) na hTB (gi_cons hw1 (gi_cons hw2.1 (gi_cons hw2.2.1 (gi_cons hw2.2.2 gi_self)))) rfl rfl rfl hy hRR) ⟨gPre_blind, fun U hU hW => ⟨by rw [← ha]; rfl, by rw [hU], by rw [hU]; exact hP0, va_K.moved hW.alike hK, (hD σ).weaken (fun _ _ _ _ => trivial), gN.warm hW hNs⟩⟩ rfl hna hl.1 hst (lv_room hrest) hd hf) hS (fun q _ h => hAA q h) hAA (fun r u t H1 locs1 ht _ hq hB _ _ hS1 => kk r u hq H1 locs1 arr hn (by rw [← ht]; exact hB) hS1 hl)
def gMV (Lw : gL) (l : Launch) (y : MethodName) (cd : Cond) (d mc ms : Nat) (av : (Nat → Nat) → List Value) (P : Mem → Prop) (Q : Mem → Mem → Prop) : Prop :=
  ∀ (E : gE) (σ : Mem) (sz : Nat), P σ → Met l y (cd :: TB) (gR d mc ms) (gPre Lw av E σ sz) (va_Qv (Q σ) (gB Lw E) (va_A (gW Lw E σ) sz)) mc ms (va_A (gW Lw E σ) sz)
theorem gMV_of {Lw : gL} {l : Launch} {y : MethodName} {cc : ByteArray} {maxL d mc ms : Nat} {av : (Nat → Nat) → List Value} {P : Mem → Prop} {Q : Mem → Mem → Prop} (hy : plainName y.cls = true) (hlen : ∀ A, (lg_sl (av A)).length ≤ maxL)
    (body : ∀ (X : gC) (σ : Mem), gOk Lw l X cc y.cls d mc ms → P σ → (∀ (k n pc : Nat) (ls : List (Option Value)) (σ1 : Mem), decode cc pc = .ok (.return_, 1) → k ≤ mc → n ≤ ms → Q σ σ1 → G Lw X k n pc ls [] σ1) → G Lw X 0 0 0 (gent maxL (av (gA X))) [] σ) : gMV Lw l y (.code y cc maxL none) d mc ms av P Q := by
  intro E σ sz hP
  refine Met.ofW (cc := cc) (maxL := maxL) (ret := none) hy rfl ?_
  intro p e s m args below meth c s₁ B hml hv
  obtain ⟨rfl, hsz, hP0, hK, hD0, hNs⟩ := hv
  have hx := B.exec
  have hb := B.bytes
  have hr := B.returns
  have hts := atoms_spec (ws := Cond.code y cc maxL none :: TB) B.pre
  have hown : s.vm.findClass y.cls = some m.cls := findClass_of_methodNamed B.named
  have hlocks := B.notSynchronized
  subst hsz
  have hl0 : lv_has ((lg_sl (av E.2.1) ++ List.replicate (maxL - (lg_sl (av E.2.1)).length) Slot.unset).toArray) maxL (gl 0 (gent maxL (av E.2.1))) := by
    have h1 := lv_entry (av E.2.1) (n := maxL) (hlen E.2.1)
    exact ⟨h1.1, h1.2.1, fun q hq => h1.2.2 q (gent_mem _ _ _ q hq)⟩
  rw [lg_entry_eq]
  have hD1 : va_D (va_A (gW Lw E σ) s.heap.size) (gW Lw E σ) := hD0.self (sz := s.heap.size)
  refine body (p, l, e, gR d mc ms, s, m, (av E.2.1).toArray, below, meth, c, maxL, s.heap, va_A (gW Lw E σ) s.heap.size, E, MQ below (va_Qv (Q σ) (gB Lw E) (va_A (gW Lw E σ) s.heap.size)) (av E.2.1).toArray s mc ms (va_A (gW Lw E σ) s.heap.size)) σ
    ⟨hx, hb, hml, hown, fun w hw => hts w (List.mem_cons_of_mem _ hw), hK, fun σ' => gW_fix hD1 σ', fun q h => Or.inr h, rfl, hlocks, rfl, rfl, hNs⟩ hP ?_ s.heap [] _ (gent_len _ _ (hlen E.2.1)) hP0 va_S.rf hl0
  intro k n pc ls σ1 hd hk hn1 hQ H locs arr hn hP1 hS1 hl1
  exact W.widen hk hn1 (W.vret hx hb hr (fun t ht hW => ⟨⟨σ1, rfl, hQ, by show va_P _ _ _ t.heap; rw [ht]; exact hP1⟩, hS1.F ht⟩) hS1.2.2 hd hlocks)
theorem g_cVV {Lw : gL} {l : Launch} {X : gC} {cc : ByteArray} {own : String} {dd ca sa k n pc : Nat} {ls : List (Option Value)} {st : List Value} {σ : Mem} {b : Nat} {ci q0 : Nat} {fs : List Value} {C : String} {T : u_T} {N : Nat} {y : MethodName} {idx : Nat} {bytes : ByteArray} {maxL d mc ms : Nat} (na : Nat) {av : (Nat → Nat) → List Value} {P : Mem → Prop} {Q : Mem → Mem → Prop} {As rest : List Value} (hC : gOk Lw l X cc own dd ca sa) (hM : gMV Lw l y (.code y bytes maxL none) d mc ms av P Q) (hw1 : Cond.methodLink own idx y ∈ TB) (hw2 : Cond.instanceMethod y ∈ TB ∧ Cond.selects C y y ∈ TB ∧ Cond.initialized C ∈ TB ∧ Cond.code y bytes maxL none ∈ TB) (hy : y.cls = C ∧ y.cls ≠ "java/lang/invoke/MethodHandle" ∧ y.cls ≠ "java/lang/invoke/VarHandle" ∧ (parseMethodDescriptor y.desc).map (fun d => d.parameters.length) = some na) (hR9 : d + 1 ≤ dd ∧ maxL ≤ 21) (hf : k + mc ≤ ca ∧ n + ms ≤ sa) (ha : av (gA X) = .ref b :: As) (hna : As.length = na) (hc : vwCl[ci]? = some (C, T, N)) (hq0 : (gW Lw (gEv X) σ)[q0]? = some (b, .inr (ci, fs))) (hrest : (rest.map fun v => v.category).sum ≤ 8) (hst : st = As.reverse ++ .ref b :: rest) (hd : decode cc pc = .ok (.invokevirtual idx, 3)) (hP : P σ) (kk : ∀ (σ1 : Mem), Q σ σ1 → G Lw X (k + mc) (n + ms) (pc + 3) ls rest σ1) : G Lw X k n pc ls st σ := by
  obtain ⟨p, l', e, R, s, m, args, below, meth, c, nL, H0, A, E, Q⟩ := X
  obtain ⟨hx, hb, hml, hown, hTB, hK, hD, hA, hR, hlocks, rfl, hh0, hNs⟩ := hC
  subst hR
  have hRR : (gR d mc ms).frames + 1 ≤ (gR dd ca sa).frames ∧ 8 + (maxL + 11) + (gR d mc ms).locals ≤ (gR dd ca sa).locals := by
    refine ⟨hR9.1, ?_⟩
    show 8 + (maxL + 11) + 40 * d ≤ 40 * dd
    omega
  intro H locs arr hn hP0 hS hl
  have hAA : ∀ q, va_A (gW Lw E σ) H.size q → A q := fun q h => h.elim (fun ⟨i, e1, h1⟩ => (hD σ).2 i (q, e1) h1) (fun h1 => hA q (Nat.le_trans hS.1 h1))
  exact va_callv (va_runV (As := As) (rest := rest) (b := b) (Ts := TB) (own := own) (C := C) ⟨hx, hb, hml, hown, hTB⟩ (hM E σ H.size hP) (cwV (ret := none) (bytes := bytes) (maxL := maxL) na hTB (gi_cons hw1 (gi_cons hw2.1 (gi_cons hw2.2.1 (gi_cons hw2.2.2.1 (gi_cons hw2.2.2.2 gi_self))))) rfl rfl rfl hy hRR) ⟨gPre_blind, va_recv hK hP0 hc hq0, fun U hU hW => ⟨by rw [← ha]; rfl, by rw [hU], by rw [hU]; exact hP0, va_K.moved hW.alike hK, (hD σ).weaken (fun _ _ _ _ => trivial), gN.warm hW hNs⟩⟩ rfl hna hl.1 hst (lv_room hrest) hd hf) hS (fun q _ h => hAA q h) hAA (fun u t H1 locs1 ht _ hq hB _ _ hS1 => kk u hq H1 locs1 arr hn (by rw [← ht]; exact hB) hS1 hl)
theorem g_cSV {Lw : gL} {l : Launch} {X : gC} {cc : ByteArray} {own : String} {dd ca sa k n pc : Nat} {ls : List (Option Value)} {st : List Value} {σ : Mem} {y : MethodName} {idx : Nat} {bytes : ByteArray} {maxL d mc ms : Nat} (na : Nat) {av : (Nat → Nat) → List Value} {P : Mem → Prop} {Q : Mem → Mem → Prop} {As rest : List Value} (hC : gOk Lw l X cc own dd ca sa) (hM : gMV Lw l y (.code y bytes maxL none) d mc ms av P Q) (hw1 : Cond.methodLink own idx y ∈ TB) (hw2 : Cond.static y ∈ TB ∧ Cond.initialized y.cls ∈ TB ∧ Cond.code y bytes maxL none ∈ TB) (hy : y.cls ≠ "java/lang/invoke/MethodHandle" ∧ y.cls ≠ "java/lang/invoke/VarHandle" ∧ (parseMethodDescriptor y.desc).map (fun d => d.parameters.length) = some na) (hR9 : d + 1 ≤ dd ∧ maxL ≤ 21) (hf : k + mc ≤ ca ∧ n + ms ≤ sa) (ha : av (gA X) = As) (hna : As.length = na) (hrest : (rest.map fun v => v.category).sum ≤ 8) (hst : st = As.reverse ++ rest) (hd : decode cc pc = .ok (.invokestatic idx, 3)) (hP : P σ) (kk : ∀ (σ1 : Mem), Q σ σ1 → G Lw X (k + mc) (n + ms) (pc + 3) ls rest σ1) : G Lw X k n pc ls st σ := by
  obtain ⟨p, l', e, R, s, m, args, below, meth, c, nL, H0, A, E, Q⟩ := X
  obtain ⟨hx, hb, hml, hown, hTB, hK, hD, hA, hR, hlocks, rfl, hh0, hNs⟩ := hC
  subst hR
  have hRR : (gR d mc ms).frames + 1 ≤ (gR dd ca sa).frames ∧ 8 + (maxL + 11) + (gR d mc ms).locals ≤ (gR dd ca sa).locals := by
    refine ⟨hR9.1, ?_⟩
    show 8 + (maxL + 11) + 40 * d ≤ 40 * dd
    omega
  intro H locs arr hn hP0 hS hl
  have hAA : ∀ q, va_A (gW Lw E σ) H.size q → A q := fun q h => h.elim (fun ⟨i, e1, h1⟩ => (hD σ).2 i (q, e1) h1) (fun h1 => hA q (Nat.le_trans hS.1 h1))
  exact va_callv (va_runS (As := As) (rest := rest) (Ts := TB) (own := own) ⟨hx, hb, hml, hown, hTB⟩ (hM E σ H.size hP) (va_cwS (ret := none) (bytes := bytes) (maxL := maxL) na hTB (gi_cons hw1 (gi_cons hw2.1 (gi_cons hw2.2.1 (gi_cons hw2.2.2 gi_self)))) rfl rfl rfl hy hRR) ⟨gPre_blind, fun U hU hW => ⟨by rw [← ha]; rfl, by rw [hU], by rw [hU]; exact hP0, va_K.moved hW.alike hK, (hD σ).weaken (fun _ _ _ _ => trivial), gN.warm hW hNs⟩⟩ rfl hna hl.1 hst (lv_room hrest) hd hf) hS (fun q _ h => hAA q h) hAA (fun u t H1 locs1 ht _ hq hB _ _ hS1 => kk u hq H1 locs1 arr hn (by rw [← ht]; exact hB) hS1 hl)
theorem wd_mabs : Cond.static Lib.Math.abs.name ∈ TB ∧ Cond.initialized "java/lang/Math" ∈ TB ∧ Cond.code Lib.Math.abs.name Lib.Math.abs.code 1 (some .int) ∈ TB := ⟨tw_3_10, tw_1_14, tw_3_11⟩
theorem g_mabs {Lw : gL} {l : Launch} {X : gC} {cc : ByteArray} {own : String} {dd ca sa k n pc : Nat} {ls : List (Option Value)} {st : List Value} {σ : Mem} {x : Int32} {idx : Nat} (hC : gOk Lw l X cc own dd ca sa) (hdd : 1 ≤ dd) (hlk : Cond.methodLink own idx Lib.Math.abs.name ∈ TB) (hrest : (st.map fun v => v.category).sum ≤ 8) (hf : k ≤ ca ∧ n ≤ sa) (hd : decode cc pc = .ok (.invokestatic idx, 3)) (kk : G Lw X k n (pc + 3) ls (.int (if 0 ≤ x then x else 0 - x) :: st) σ) : G Lw X k n pc ls (.int x :: st) σ := by
  obtain ⟨p, l', e, R, s, m, args, below, meth, c, nL, H0, A, E, Q⟩ := X
  obtain ⟨hx, hb, hml, hown, hTB, hK, hD, hA, hR, hlocks, rfl, hh0, hNs⟩ := hC
  subst hR
  exact fun H locs arr hn hP0 hS hl => va_mabs hx hb (hml.trans hl.1.symm) hown (hTB _ hlk) (hTB _ wd_mabs.1) (hTB _ wd_mabs.2.1) (hTB _ wd_mabs.2.2) hdd (by show _ ≤ 40 * dd; omega) hf.1 hf.2 hd (kk H locs arr hn hP0 hS hl)
theorem wd_mmax : Cond.static Lib.Math.max.name ∈ TB ∧ Cond.initialized "java/lang/Math" ∈ TB ∧ Cond.code Lib.Math.max.name Lib.Math.max.code 2 (some .int) ∈ TB := ⟨tw_2_93, tw_1_14, tw_2_94⟩
theorem g_mmax {Lw : gL} {l : Launch} {X : gC} {cc : ByteArray} {own : String} {dd ca sa k n pc : Nat} {ls : List (Option Value)} {st : List Value} {σ : Mem} {x y : Int32} {idx : Nat} (hC : gOk Lw l X cc own dd ca sa) (hdd : 1 ≤ dd) (hlk : Cond.methodLink own idx Lib.Math.max.name ∈ TB) (hrest : (st.map fun v => v.category).sum ≤ 8) (hf : k ≤ ca ∧ n ≤ sa) (hd : decode cc pc = .ok (.invokestatic idx, 3)) (kk : G Lw X k n (pc + 3) ls (.int (if x < y then y else x) :: st) σ) : G Lw X k n pc ls (.int y :: .int x :: st) σ := by
  obtain ⟨p, l', e, R, s, m, args, below, meth, c, nL, H0, A, E, Q⟩ := X
  obtain ⟨hx, hb, hml, hown, hTB, hK, hD, hA, hR, hlocks, rfl, hh0, hNs⟩ := hC
  subst hR
  exact fun H locs arr hn hP0 hS hl => va_mmax hx hb (hml.trans hl.1.symm) hown (hTB _ hlk) (hTB _ wd_mmax.1) (hTB _ wd_mmax.2.1) (hTB _ wd_mmax.2.2) hdd (by show _ ≤ 40 * dd; omega) hf.1 hf.2 hd (kk H locs arr hn hP0 hS hl)
theorem wd_mmin : Cond.static Lib.Math.min.name ∈ TB ∧ Cond.initialized "java/lang/Math" ∈ TB ∧ Cond.code Lib.Math.min.name Lib.Math.min.code 2 (some .int) ∈ TB := ⟨tw_3_88, tw_1_14, tw_3_89⟩
theorem g_mmin {Lw : gL} {l : Launch} {X : gC} {cc : ByteArray} {own : String} {dd ca sa k n pc : Nat} {ls : List (Option Value)} {st : List Value} {σ : Mem} {x y : Int32} {idx : Nat} (hC : gOk Lw l X cc own dd ca sa) (hdd : 1 ≤ dd) (hlk : Cond.methodLink own idx Lib.Math.min.name ∈ TB) (hrest : (st.map fun v => v.category).sum ≤ 8) (hf : k ≤ ca ∧ n ≤ sa) (hd : decode cc pc = .ok (.invokestatic idx, 3)) (kk : G Lw X k n (pc + 3) ls (.int (if y < x then y else x) :: st) σ) : G Lw X k n pc ls (.int y :: .int x :: st) σ := by
  obtain ⟨p, l', e, R, s, m, args, below, meth, c, nL, H0, A, E, Q⟩ := X
  obtain ⟨hx, hb, hml, hown, hTB, hK, hD, hA, hR, hlocks, rfl, hh0, hNs⟩ := hC
  subst hR
  exact fun H locs arr hn hP0 hS hl => va_mmin hx hb (hml.trans hl.1.symm) hown (hTB _ hlk) (hTB _ wd_mmin.1) (hTB _ wd_mmin.2.1) (hTB _ wd_mmin.2.2) hdd (by show _ ≤ 40 * dd; omega) hf.1 hf.2 hd (kk H locs arr hn hP0 hS hl)
end
section
/-! the class's world: 195 cells, numbered in the order in which they are made -/
def iFlaw (f : Nat) : Nat := 5 + 4 * f
def iStone (s : Nat) : Nat := 46 + 18 * s
def iPl (s k : Nat) : Nat := 48 + 18 * s + k
def xk (i : Nat) : Nat := if i < 5 then i else if i < 45 then 5 + (i - 5) % 4 else if i = 45 then 9 else if i < 190 then (if (i - 46) % 18 = 0 then 10 else if (i - 46) % 18 = 1 then 11 else 12) else if i = 191 then 12 else i - 177
def xE (E : gE) (ρ : Nat → Int32) (i : Nat) : va_E := match xk i with
  | 0 => .inr (5, [.ref (E.2.1 1), .ref (E.2.1 45), .ref (E.2.1 190), .int (ρ 3), .int (ρ 4), .int (ρ 5)])
  | 1 => .inr (2, [.int (ρ 0), .int (ρ 1), .int (ρ 2), .ref (E.2.1 2), .ref (E.2.1 3), .ref (E.2.1 4), .int (ρ 6)])
  | 2 => .inl (E.2.2 0, 1000, .inl ρ)
  | 3 => .inl (E.2.2 1, 1000, .inl ρ)
  | 4 => .inl (E.2.2 2, 10, .inr (.inr (.inr (.inr (fun j => some (E.2.1 (iFlaw j)))))))
  | 5 => .inr (0, [.int (ρ 0), .ref (E.2.1 (i + 1)), .int (ρ 2), .ref (E.2.1 (i + 2)), .ref (E.2.1 (i + 3))])
  | 6 => .inl (E.2.2 0, 63, .inl ρ)
  | 7 => .inl (E.2.2 0, 8, .inl ρ)
  | 8 => .inl (E.2.2 0, 8, .inl ρ)
  | 9 => .inl (E.2.2 4, 8, .inr (.inr (.inr (.inr (fun j => some (E.2.1 (iStone j)))))))
  | 10 => .inr (3, [.int (ρ 0), .ref (E.2.1 (i + 1)), .int (ρ 2), .int (ρ 3), .int (ρ 4)])
  | 11 => .inl (E.2.2 3, 16, .inr (.inr (.inr (.inr (fun j => some (E.2.1 (i + 1 + j)))))))
  | 12 => .inr (1, [.int (ρ 0), .int (ρ 1), .int (ρ 2), .int (ρ 3), .int (ρ 4), .int (ρ 5), .int (ρ 6)])
  | 13 => .inr (4, [.ref (E.2.1 1), .ref (E.2.1 (iStone (ρ 1).toNatClampNeg)), .ref (E.2.1 191), .ref (E.2.1 192), .ref (E.2.1 193), .ref (E.2.1 194)])
  | 15 => .inl (E.2.2 0, 1000, .inl ρ)
  | 16 => .inl (E.2.2 0, 163, .inl ρ)
  | _ => .inl (E.2.2 0, 16, .inl ρ)
def wX : gL := (195, xE)
theorem iFlaw_lt {f : Nat} (h : f < 10) : iFlaw f < wX.1 := by show 5 + 4 * f < 195; omega
theorem iFlaw1_lt {f : Nat} (h : f < 10) : iFlaw f + 1 < wX.1 := by show 5 + 4 * f + 1 < 195; omega
theorem iFlaw2_lt {f : Nat} (h : f < 10) : iFlaw f + 2 < wX.1 := by show 5 + 4 * f + 2 < 195; omega
theorem iFlaw3_lt {f : Nat} (h : f < 10) : iFlaw f + 3 < wX.1 := by show 5 + 4 * f + 3 < 195; omega
theorem iStone_lt {s : Nat} (h : s < 8) : iStone s < wX.1 := by show 46 + 18 * s < 195; omega
theorem iStone1_lt {s : Nat} (h : s < 8) : iStone s + 1 < wX.1 := by show 46 + 18 * s + 1 < 195; omega
theorem isP_lt {i : Nat} (h : xk i = 12) : i < wX.1 := by
  show i < 195
  rcases Nat.lt_or_ge i 195 with q | q
  · exact q
  · unfold xk at h
    rw [if_neg (by omega), if_neg (by omega), if_neg (by omega), if_neg (by omega), if_neg (by omega)] at h
    omega
theorem xk_flaw : ∀ f, f < 10 → xk (iFlaw f) = 5 := by decide +kernel
theorem xk_flaw1 : ∀ f, f < 10 → xk (iFlaw f + 1) = 6 := by decide +kernel
theorem xk_flaw2 : ∀ f, f < 10 → xk (iFlaw f + 2) = 7 := by decide +kernel
theorem xk_flaw3 : ∀ f, f < 10 → xk (iFlaw f + 3) = 8 := by decide +kernel
theorem xk_stone : ∀ s, s < 8 → xk (iStone s) = 10 := by decide +kernel
theorem xk_stone1 : ∀ s, s < 8 → xk (iStone s + 1) = 11 := by decide +kernel
theorem xk_pl : ∀ s, s < 8 → ∀ k, k < 16 → xk (iPl s k) = 12 := by decide +kernel
theorem xk_tried : xk 191 = 12 := by decide +kernel

theorem xe_GemCut (E : gE) (ρ : Nat → Int32) : wX.2 E ρ 0 = .inr (5, [.ref (E.2.1 1), .ref (E.2.1 45), .ref (E.2.1 190), .int (ρ 3), .int (ρ 4), .int (ρ 5)]) := rfl
theorem xe_Rough (E : gE) (ρ : Nat → Int32) : wX.2 E ρ 1 = .inr (2, [.int (ρ 0), .int (ρ 1), .int (ρ 2), .ref (E.2.1 2), .ref (E.2.1 3), .ref (E.2.1 4), .int (ρ 6)]) := rfl
theorem xe_owner (E : gE) (ρ : Nat → Int32) : wX.2 E ρ 2 = .inl (E.2.2 0, 1000, .inl ρ) := rfl
theorem xe_bare (E : gE) (ρ : Nat → Int32) : wX.2 E ρ 3 = .inl (E.2.2 1, 1000, .inl ρ) := rfl
theorem xe_flawsA (E : gE) (ρ : Nat → Int32) : wX.2 E ρ 4 = .inl (E.2.2 2, 10, .inr (.inr (.inr (.inr (fun j => some (E.2.1 (iFlaw j))))))) := rfl
theorem xe_stonesA (E : gE) (ρ : Nat → Int32) : wX.2 E ρ 45 = .inl (E.2.2 4, 8, .inr (.inr (.inr (.inr (fun j => some (E.2.1 (iStone j))))))) := rfl
theorem xe_Trial (E : gE) (ρ : Nat → Int32) : wX.2 E ρ 190 = .inr (4, [.ref (E.2.1 1), .ref (E.2.1 (iStone (ρ 1).toNatClampNeg)), .ref (E.2.1 191), .ref (E.2.1 192), .ref (E.2.1 193), .ref (E.2.1 194)]) := rfl
theorem xe_heights (E : gE) (ρ : Nat → Int32) : wX.2 E ρ 192 = .inl (E.2.2 0, 1000, .inl ρ) := rfl
theorem xe_upTo (E : gE) (ρ : Nat → Int32) : wX.2 E ρ 193 = .inl (E.2.2 0, 163, .inl ρ) := rfl
theorem xe_floors (E : gE) (ρ : Nat → Int32) : wX.2 E ρ 194 = .inl (E.2.2 0, 16, .inl ρ) := rfl
theorem xe_Flaw (E : gE) (ρ : Nat → Int32) {f : Nat} (h : f < 10) : wX.2 E ρ (iFlaw f) = .inr (0, [.int (ρ 0), .ref (E.2.1 (iFlaw f + 1)), .int (ρ 2), .ref (E.2.1 (iFlaw f + 2)), .ref (E.2.1 (iFlaw f + 3))]) := by
  show xE E ρ (iFlaw f) = _
  unfold xE
  rw [xk_flaw f h]
  rfl
theorem xe_FC (E : gE) (ρ : Nat → Int32) {f : Nat} (h : f < 10) : wX.2 E ρ (iFlaw f + 1) = .inl (E.2.2 0, 63, .inl ρ) := by
  show xE E ρ (iFlaw f + 1) = _
  unfold xE
  rw [xk_flaw1 f h]
  rfl
theorem xe_FI (E : gE) (ρ : Nat → Int32) {f : Nat} (h : f < 10) : wX.2 E ρ (iFlaw f + 2) = .inl (E.2.2 0, 8, .inl ρ) := by
  show xE E ρ (iFlaw f + 2) = _
  unfold xE
  rw [xk_flaw2 f h]
  rfl
theorem xe_FB (E : gE) (ρ : Nat → Int32) {f : Nat} (h : f < 10) : wX.2 E ρ (iFlaw f + 3) = .inl (E.2.2 0, 8, .inl ρ) := by
  show xE E ρ (iFlaw f + 3) = _
  unfold xE
  rw [xk_flaw3 f h]
  rfl
theorem xe_Stone (E : gE) (ρ : Nat → Int32) {s : Nat} (h : s < 8) : wX.2 E ρ (iStone s) = .inr (3, [.int (ρ 0), .ref (E.2.1 (iStone s + 1)), .int (ρ 2), .int (ρ 3), .int (ρ 4)]) := by
  show xE E ρ (iStone s) = _
  unfold xE
  rw [xk_stone s h]
  rfl
theorem xe_Pls (E : gE) (ρ : Nat → Int32) {s : Nat} (h : s < 8) : wX.2 E ρ (iStone s + 1) = .inl (E.2.2 3, 16, .inr (.inr (.inr (.inr (fun j => some (E.2.1 (iStone s + 1 + 1 + j))))))) := by
  show xE E ρ (iStone s + 1) = _
  unfold xE
  rw [xk_stone1 s h]
  rfl
theorem xe_Plane (E : gE) (ρ : Nat → Int32) {i : Nat} (h : xk i = 12) : wX.2 E ρ (i) = .inr (1, [.int (ρ 0), .int (ρ 1), .int (ρ 2), .int (ρ 3), .int (ρ 4), .int (ρ 5), .int (ρ 6)]) := by
  show xE E ρ (i) = _
  unfold xE
  rw [h]
  rfl
theorem xg_GemCut_rough {l : Launch} {X : gC} {cc : ByteArray} {own : String} {dd ca sa k n pc : Nat} {ls : List (Option Value)} {st : List Value} {σ : Mem} {idx : Nat}  (hC : gOk wX l X cc own dd ca sa)  (hlk : Cond.fieldLink own idx "GemCut" "rough" "LGemCut$Rough;" ∈ TB) (hd : decode cc pc = .ok (.getfield idx, 3)) (kk : G wX X k n (pc + 3) ls (.ref (gA X (1)) :: st) σ) : G wX X k n pc ls (.ref (gA X (0)) :: st) σ := g_get hC iw_X5 rfl (by decide) (xe_GemCut _ _) 0 (by decide) hlk rfl hd kk
theorem xg_GemCut_stones {l : Launch} {X : gC} {cc : ByteArray} {own : String} {dd ca sa k n pc : Nat} {ls : List (Option Value)} {st : List Value} {σ : Mem} {idx : Nat}  (hC : gOk wX l X cc own dd ca sa)  (hlk : Cond.fieldLink own idx "GemCut" "stones" "[LGemCut$Stone;" ∈ TB) (hd : decode cc pc = .ok (.getfield idx, 3)) (kk : G wX X k n (pc + 3) ls (.ref (gA X (45)) :: st) σ) : G wX X k n pc ls (.ref (gA X (0)) :: st) σ := g_get hC iw_X5 rfl (by decide) (xe_GemCut _ _) 1 (by decide) hlk rfl hd kk
theorem xg_GemCut_trial {l : Launch} {X : gC} {cc : ByteArray} {own : String} {dd ca sa k n pc : Nat} {ls : List (Option Value)} {st : List Value} {σ : Mem} {idx : Nat}  (hC : gOk wX l X cc own dd ca sa)  (hlk : Cond.fieldLink own idx "GemCut" "trial" "LGemCut$Trial;" ∈ TB) (hd : decode cc pc = .ok (.getfield idx, 3)) (kk : G wX X k n (pc + 3) ls (.ref (gA X (190)) :: st) σ) : G wX X k n pc ls (.ref (gA X (0)) :: st) σ := g_get hC iw_X5 rfl (by decide) (xe_GemCut _ _) 2 (by decide) hlk rfl hd kk
theorem xg_GemCut_stoneCount {l : Launch} {X : gC} {cc : ByteArray} {own : String} {dd ca sa k n pc : Nat} {ls : List (Option Value)} {st : List Value} {σ : Mem} {idx : Nat}  (hC : gOk wX l X cc own dd ca sa)  (hlk : Cond.fieldLink own idx "GemCut" "stoneCount" "I" ∈ TB) (hd : decode cc pc = .ok (.getfield idx, 3)) (kk : G wX X k n (pc + 3) ls (.int (σ (0) 3) :: st) σ) : G wX X k n pc ls (.ref (gA X (0)) :: st) σ := g_get hC iw_X5 rfl (by decide) (xe_GemCut _ _) 3 (by decide) hlk rfl hd kk
theorem xp_GemCut_stoneCount {l : Launch} {X : gC} {cc : ByteArray} {own : String} {dd ca sa k n pc : Nat} {ls : List (Option Value)} {st : List Value} {σ : Mem} {idx : Nat} {x : Int32}  (hC : gOk wX l X cc own dd ca sa)  (hlk : Cond.fieldLink own idx "GemCut" "stoneCount" "I" ∈ TB) (hd : decode cc pc = .ok (.putfield idx, 3)) (kk : G wX X k n (pc + 3) ls st (upd2 σ (0) 3 x)) : G wX X k n pc ls (.int x :: .ref (gA X (0)) :: st) σ := g_put (ty := .int) tyX5 hC iw_X5 tyX5_ok nmX5 rfl (by decide) (xe_GemCut _ _) 3 (by decide) hlk rfl (by decide +kernel) rfl rfl (Nat.le_of_ble_eq_true rfl) (by rw [xe_GemCut _ _]; rfl) hd kk
theorem xg_GemCut_turns {l : Launch} {X : gC} {cc : ByteArray} {own : String} {dd ca sa k n pc : Nat} {ls : List (Option Value)} {st : List Value} {σ : Mem} {idx : Nat}  (hC : gOk wX l X cc own dd ca sa)  (hlk : Cond.fieldLink own idx "GemCut" "turns" "I" ∈ TB) (hd : decode cc pc = .ok (.getfield idx, 3)) (kk : G wX X k n (pc + 3) ls (.int (σ (0) 4) :: st) σ) : G wX X k n pc ls (.ref (gA X (0)) :: st) σ := g_get hC iw_X5 rfl (by decide) (xe_GemCut _ _) 4 (by decide) hlk rfl hd kk
theorem xp_GemCut_turns {l : Launch} {X : gC} {cc : ByteArray} {own : String} {dd ca sa k n pc : Nat} {ls : List (Option Value)} {st : List Value} {σ : Mem} {idx : Nat} {x : Int32}  (hC : gOk wX l X cc own dd ca sa)  (hlk : Cond.fieldLink own idx "GemCut" "turns" "I" ∈ TB) (hd : decode cc pc = .ok (.putfield idx, 3)) (kk : G wX X k n (pc + 3) ls st (upd2 σ (0) 4 x)) : G wX X k n pc ls (.int x :: .ref (gA X (0)) :: st) σ := g_put (ty := .int) tyX5 hC iw_X5 tyX5_ok nmX5 rfl (by decide) (xe_GemCut _ _) 4 (by decide) hlk rfl (by decide +kernel) rfl rfl (Nat.le_of_ble_eq_true rfl) (by rw [xe_GemCut _ _]; rfl) hd kk
theorem xg_GemCut_spent {l : Launch} {X : gC} {cc : ByteArray} {own : String} {dd ca sa k n pc : Nat} {ls : List (Option Value)} {st : List Value} {σ : Mem} {idx : Nat}  (hC : gOk wX l X cc own dd ca sa)  (hlk : Cond.fieldLink own idx "GemCut" "spent" "I" ∈ TB) (hd : decode cc pc = .ok (.getfield idx, 3)) (kk : G wX X k n (pc + 3) ls (.int (σ (0) 5) :: st) σ) : G wX X k n pc ls (.ref (gA X (0)) :: st) σ := g_get hC iw_X5 rfl (by decide) (xe_GemCut _ _) 5 (by decide) hlk rfl hd kk
theorem xp_GemCut_spent {l : Launch} {X : gC} {cc : ByteArray} {own : String} {dd ca sa k n pc : Nat} {ls : List (Option Value)} {st : List Value} {σ : Mem} {idx : Nat} {x : Int32}  (hC : gOk wX l X cc own dd ca sa)  (hlk : Cond.fieldLink own idx "GemCut" "spent" "I" ∈ TB) (hd : decode cc pc = .ok (.putfield idx, 3)) (kk : G wX X k n (pc + 3) ls st (upd2 σ (0) 5 x)) : G wX X k n pc ls (.int x :: .ref (gA X (0)) :: st) σ := g_put (ty := .int) tyX5 hC iw_X5 tyX5_ok nmX5 rfl (by decide) (xe_GemCut _ _) 5 (by decide) hlk rfl (by decide +kernel) rfl rfl (Nat.le_of_ble_eq_true rfl) (by rw [xe_GemCut _ _]; rfl) hd kk
theorem xg_Rough_columns {l : Launch} {X : gC} {cc : ByteArray} {own : String} {dd ca sa k n pc : Nat} {ls : List (Option Value)} {st : List Value} {σ : Mem} {idx : Nat}  (hC : gOk wX l X cc own dd ca sa)  (hlk : Cond.fieldLink own idx "GemCut$Rough" "columns" "I" ∈ TB) (hd : decode cc pc = .ok (.getfield idx, 3)) (kk : G wX X k n (pc + 3) ls (.int (σ (1) 0) :: st) σ) : G wX X k n pc ls (.ref (gA X (1)) :: st) σ := g_get hC iw_X2 rfl (by decide) (xe_Rough _ _) 0 (by decide) hlk rfl hd kk
theorem xp_Rough_columns {l : Launch} {X : gC} {cc : ByteArray} {own : String} {dd ca sa k n pc : Nat} {ls : List (Option Value)} {st : List Value} {σ : Mem} {idx : Nat} {x : Int32}  (hC : gOk wX l X cc own dd ca sa)  (hlk : Cond.fieldLink own idx "GemCut$Rough" "columns" "I" ∈ TB) (hd : decode cc pc = .ok (.putfield idx, 3)) (kk : G wX X k n (pc + 3) ls st (upd2 σ (1) 0 x)) : G wX X k n pc ls (.int x :: .ref (gA X (1)) :: st) σ := g_put (ty := .int) tyX2 hC iw_X2 tyX2_ok nmX2 rfl (by decide) (xe_Rough _ _) 0 (by decide) hlk rfl (by decide +kernel) rfl rfl (Nat.le_of_ble_eq_true rfl) (by rw [xe_Rough _ _]; rfl) hd kk
theorem xg_Rough_rows {l : Launch} {X : gC} {cc : ByteArray} {own : String} {dd ca sa k n pc : Nat} {ls : List (Option Value)} {st : List Value} {σ : Mem} {idx : Nat}  (hC : gOk wX l X cc own dd ca sa)  (hlk : Cond.fieldLink own idx "GemCut$Rough" "rows" "I" ∈ TB) (hd : decode cc pc = .ok (.getfield idx, 3)) (kk : G wX X k n (pc + 3) ls (.int (σ (1) 1) :: st) σ) : G wX X k n pc ls (.ref (gA X (1)) :: st) σ := g_get hC iw_X2 rfl (by decide) (xe_Rough _ _) 1 (by decide) hlk rfl hd kk
theorem xp_Rough_rows {l : Launch} {X : gC} {cc : ByteArray} {own : String} {dd ca sa k n pc : Nat} {ls : List (Option Value)} {st : List Value} {σ : Mem} {idx : Nat} {x : Int32}  (hC : gOk wX l X cc own dd ca sa)  (hlk : Cond.fieldLink own idx "GemCut$Rough" "rows" "I" ∈ TB) (hd : decode cc pc = .ok (.putfield idx, 3)) (kk : G wX X k n (pc + 3) ls st (upd2 σ (1) 1 x)) : G wX X k n pc ls (.int x :: .ref (gA X (1)) :: st) σ := g_put (ty := .int) tyX2 hC iw_X2 tyX2_ok nmX2 rfl (by decide) (xe_Rough _ _) 1 (by decide) hlk rfl (by decide +kernel) rfl rfl (Nat.le_of_ble_eq_true rfl) (by rw [xe_Rough _ _]; rfl) hd kk
theorem xg_Rough_layers {l : Launch} {X : gC} {cc : ByteArray} {own : String} {dd ca sa k n pc : Nat} {ls : List (Option Value)} {st : List Value} {σ : Mem} {idx : Nat}  (hC : gOk wX l X cc own dd ca sa)  (hlk : Cond.fieldLink own idx "GemCut$Rough" "layers" "I" ∈ TB) (hd : decode cc pc = .ok (.getfield idx, 3)) (kk : G wX X k n (pc + 3) ls (.int (σ (1) 2) :: st) σ) : G wX X k n pc ls (.ref (gA X (1)) :: st) σ := g_get hC iw_X2 rfl (by decide) (xe_Rough _ _) 2 (by decide) hlk rfl hd kk
theorem xp_Rough_layers {l : Launch} {X : gC} {cc : ByteArray} {own : String} {dd ca sa k n pc : Nat} {ls : List (Option Value)} {st : List Value} {σ : Mem} {idx : Nat} {x : Int32}  (hC : gOk wX l X cc own dd ca sa)  (hlk : Cond.fieldLink own idx "GemCut$Rough" "layers" "I" ∈ TB) (hd : decode cc pc = .ok (.putfield idx, 3)) (kk : G wX X k n (pc + 3) ls st (upd2 σ (1) 2 x)) : G wX X k n pc ls (.int x :: .ref (gA X (1)) :: st) σ := g_put (ty := .int) tyX2 hC iw_X2 tyX2_ok nmX2 rfl (by decide) (xe_Rough _ _) 2 (by decide) hlk rfl (by decide +kernel) rfl rfl (Nat.le_of_ble_eq_true rfl) (by rw [xe_Rough _ _]; rfl) hd kk
theorem xg_Rough_owner {l : Launch} {X : gC} {cc : ByteArray} {own : String} {dd ca sa k n pc : Nat} {ls : List (Option Value)} {st : List Value} {σ : Mem} {idx : Nat}  (hC : gOk wX l X cc own dd ca sa)  (hlk : Cond.fieldLink own idx "GemCut$Rough" "owner" "[I" ∈ TB) (hd : decode cc pc = .ok (.getfield idx, 3)) (kk : G wX X k n (pc + 3) ls (.ref (gA X (2)) :: st) σ) : G wX X k n pc ls (.ref (gA X (1)) :: st) σ := g_get hC iw_X2 rfl (by decide) (xe_Rough _ _) 3 (by decide) hlk rfl hd kk
theorem xg_Rough_bare {l : Launch} {X : gC} {cc : ByteArray} {own : String} {dd ca sa k n pc : Nat} {ls : List (Option Value)} {st : List Value} {σ : Mem} {idx : Nat}  (hC : gOk wX l X cc own dd ca sa)  (hlk : Cond.fieldLink own idx "GemCut$Rough" "bare" "[Z" ∈ TB) (hd : decode cc pc = .ok (.getfield idx, 3)) (kk : G wX X k n (pc + 3) ls (.ref (gA X (3)) :: st) σ) : G wX X k n pc ls (.ref (gA X (1)) :: st) σ := g_get hC iw_X2 rfl (by decide) (xe_Rough _ _) 4 (by decide) hlk rfl hd kk
theorem xg_Rough_flaws {l : Launch} {X : gC} {cc : ByteArray} {own : String} {dd ca sa k n pc : Nat} {ls : List (Option Value)} {st : List Value} {σ : Mem} {idx : Nat}  (hC : gOk wX l X cc own dd ca sa)  (hlk : Cond.fieldLink own idx "GemCut$Rough" "flaws" "[LGemCut$Flaw;" ∈ TB) (hd : decode cc pc = .ok (.getfield idx, 3)) (kk : G wX X k n (pc + 3) ls (.ref (gA X (4)) :: st) σ) : G wX X k n pc ls (.ref (gA X (1)) :: st) σ := g_get hC iw_X2 rfl (by decide) (xe_Rough _ _) 5 (by decide) hlk rfl hd kk
theorem xg_Rough_flawCount {l : Launch} {X : gC} {cc : ByteArray} {own : String} {dd ca sa k n pc : Nat} {ls : List (Option Value)} {st : List Value} {σ : Mem} {idx : Nat}  (hC : gOk wX l X cc own dd ca sa)  (hlk : Cond.fieldLink own idx "GemCut$Rough" "flawCount" "I" ∈ TB) (hd : decode cc pc = .ok (.getfield idx, 3)) (kk : G wX X k n (pc + 3) ls (.int (σ (1) 6) :: st) σ) : G wX X k n pc ls (.ref (gA X (1)) :: st) σ := g_get hC iw_X2 rfl (by decide) (xe_Rough _ _) 6 (by decide) hlk rfl hd kk
theorem xp_Rough_flawCount {l : Launch} {X : gC} {cc : ByteArray} {own : String} {dd ca sa k n pc : Nat} {ls : List (Option Value)} {st : List Value} {σ : Mem} {idx : Nat} {x : Int32}  (hC : gOk wX l X cc own dd ca sa)  (hlk : Cond.fieldLink own idx "GemCut$Rough" "flawCount" "I" ∈ TB) (hd : decode cc pc = .ok (.putfield idx, 3)) (kk : G wX X k n (pc + 3) ls st (upd2 σ (1) 6 x)) : G wX X k n pc ls (.int x :: .ref (gA X (1)) :: st) σ := g_put (ty := .int) tyX2 hC iw_X2 tyX2_ok nmX2 rfl (by decide) (xe_Rough _ _) 6 (by decide) hlk rfl (by decide +kernel) rfl rfl (Nat.le_of_ble_eq_true rfl) (by rw [xe_Rough _ _]; rfl) hd kk
theorem xg_Flaw_severity {l : Launch} {X : gC} {cc : ByteArray} {own : String} {dd ca sa k n pc : Nat} {ls : List (Option Value)} {st : List Value} {σ : Mem} {idx : Nat} {f : Nat} (hC : gOk wX l X cc own dd ca sa) (hf : f < 10) (hlk : Cond.fieldLink own idx "GemCut$Flaw" "severity" "I" ∈ TB) (hd : decode cc pc = .ok (.getfield idx, 3)) (kk : G wX X k n (pc + 3) ls (.int (σ (iFlaw f) 0) :: st) σ) : G wX X k n pc ls (.ref (gA X (iFlaw f)) :: st) σ := g_get hC iw_X0 rfl (iFlaw_lt hf) (xe_Flaw _ _ hf) 0 (by decide) hlk rfl hd kk
theorem xp_Flaw_severity {l : Launch} {X : gC} {cc : ByteArray} {own : String} {dd ca sa k n pc : Nat} {ls : List (Option Value)} {st : List Value} {σ : Mem} {idx : Nat} {x : Int32} {f : Nat} (hC : gOk wX l X cc own dd ca sa) (hf : f < 10) (hlk : Cond.fieldLink own idx "GemCut$Flaw" "severity" "I" ∈ TB) (hd : decode cc pc = .ok (.putfield idx, 3)) (kk : G wX X k n (pc + 3) ls st (upd2 σ (iFlaw f) 0 x)) : G wX X k n pc ls (.int x :: .ref (gA X (iFlaw f)) :: st) σ := g_put (ty := .int) tyX0 hC iw_X0 tyX0_ok nmX0 rfl (iFlaw_lt hf) (xe_Flaw _ _ hf) 0 (by decide) hlk rfl (by decide +kernel) rfl rfl (Nat.le_of_ble_eq_true rfl) (by rw [xe_Flaw _ _ hf]; rfl) hd kk
theorem xg_Flaw_cells {l : Launch} {X : gC} {cc : ByteArray} {own : String} {dd ca sa k n pc : Nat} {ls : List (Option Value)} {st : List Value} {σ : Mem} {idx : Nat} {f : Nat} (hC : gOk wX l X cc own dd ca sa) (hf : f < 10) (hlk : Cond.fieldLink own idx "GemCut$Flaw" "cells" "[I" ∈ TB) (hd : decode cc pc = .ok (.getfield idx, 3)) (kk : G wX X k n (pc + 3) ls (.ref (gA X (iFlaw f + 1)) :: st) σ) : G wX X k n pc ls (.ref (gA X (iFlaw f)) :: st) σ := g_get hC iw_X0 rfl (iFlaw_lt hf) (xe_Flaw _ _ hf) 1 (by decide) hlk rfl hd kk
theorem xg_Flaw_cellCount {l : Launch} {X : gC} {cc : ByteArray} {own : String} {dd ca sa k n pc : Nat} {ls : List (Option Value)} {st : List Value} {σ : Mem} {idx : Nat} {f : Nat} (hC : gOk wX l X cc own dd ca sa) (hf : f < 10) (hlk : Cond.fieldLink own idx "GemCut$Flaw" "cellCount" "I" ∈ TB) (hd : decode cc pc = .ok (.getfield idx, 3)) (kk : G wX X k n (pc + 3) ls (.int (σ (iFlaw f) 2) :: st) σ) : G wX X k n pc ls (.ref (gA X (iFlaw f)) :: st) σ := g_get hC iw_X0 rfl (iFlaw_lt hf) (xe_Flaw _ _ hf) 2 (by decide) hlk rfl hd kk
theorem xp_Flaw_cellCount {l : Launch} {X : gC} {cc : ByteArray} {own : String} {dd ca sa k n pc : Nat} {ls : List (Option Value)} {st : List Value} {σ : Mem} {idx : Nat} {x : Int32} {f : Nat} (hC : gOk wX l X cc own dd ca sa) (hf : f < 10) (hlk : Cond.fieldLink own idx "GemCut$Flaw" "cellCount" "I" ∈ TB) (hd : decode cc pc = .ok (.putfield idx, 3)) (kk : G wX X k n (pc + 3) ls st (upd2 σ (iFlaw f) 2 x)) : G wX X k n pc ls (.int x :: .ref (gA X (iFlaw f)) :: st) σ := g_put (ty := .int) tyX0 hC iw_X0 tyX0_ok nmX0 rfl (iFlaw_lt hf) (xe_Flaw _ _ hf) 2 (by decide) hlk rfl (by decide +kernel) rfl rfl (Nat.le_of_ble_eq_true rfl) (by rw [xe_Flaw _ _ hf]; rfl) hd kk
theorem xg_Flaw_cellsIn {l : Launch} {X : gC} {cc : ByteArray} {own : String} {dd ca sa k n pc : Nat} {ls : List (Option Value)} {st : List Value} {σ : Mem} {idx : Nat} {f : Nat} (hC : gOk wX l X cc own dd ca sa) (hf : f < 10) (hlk : Cond.fieldLink own idx "GemCut$Flaw" "cellsIn" "[I" ∈ TB) (hd : decode cc pc = .ok (.getfield idx, 3)) (kk : G wX X k n (pc + 3) ls (.ref (gA X (iFlaw f + 2)) :: st) σ) : G wX X k n pc ls (.ref (gA X (iFlaw f)) :: st) σ := g_get hC iw_X0 rfl (iFlaw_lt hf) (xe_Flaw _ _ hf) 3 (by decide) hlk rfl hd kk
theorem xg_Flaw_bareIn {l : Launch} {X : gC} {cc : ByteArray} {own : String} {dd ca sa k n pc : Nat} {ls : List (Option Value)} {st : List Value} {σ : Mem} {idx : Nat} {f : Nat} (hC : gOk wX l X cc own dd ca sa) (hf : f < 10) (hlk : Cond.fieldLink own idx "GemCut$Flaw" "bareIn" "[I" ∈ TB) (hd : decode cc pc = .ok (.getfield idx, 3)) (kk : G wX X k n (pc + 3) ls (.ref (gA X (iFlaw f + 3)) :: st) σ) : G wX X k n pc ls (.ref (gA X (iFlaw f)) :: st) σ := g_get hC iw_X0 rfl (iFlaw_lt hf) (xe_Flaw _ _ hf) 4 (by decide) hlk rfl hd kk
theorem xg_Stone_number {l : Launch} {X : gC} {cc : ByteArray} {own : String} {dd ca sa k n pc : Nat} {ls : List (Option Value)} {st : List Value} {σ : Mem} {idx : Nat} {s : Nat} (hC : gOk wX l X cc own dd ca sa) (hs : s < 8) (hlk : Cond.fieldLink own idx "GemCut$Stone" "number" "I" ∈ TB) (hd : decode cc pc = .ok (.getfield idx, 3)) (kk : G wX X k n (pc + 3) ls (.int (σ (iStone s) 0) :: st) σ) : G wX X k n pc ls (.ref (gA X (iStone s)) :: st) σ := g_get hC iw_X3 rfl (iStone_lt hs) (xe_Stone _ _ hs) 0 (by decide) hlk rfl hd kk
theorem xg_Stone_planes {l : Launch} {X : gC} {cc : ByteArray} {own : String} {dd ca sa k n pc : Nat} {ls : List (Option Value)} {st : List Value} {σ : Mem} {idx : Nat} {s : Nat} (hC : gOk wX l X cc own dd ca sa) (hs : s < 8) (hlk : Cond.fieldLink own idx "GemCut$Stone" "planes" "[LGemCut$Plane;" ∈ TB) (hd : decode cc pc = .ok (.getfield idx, 3)) (kk : G wX X k n (pc + 3) ls (.ref (gA X (iStone s + 1)) :: st) σ) : G wX X k n pc ls (.ref (gA X (iStone s)) :: st) σ := g_get hC iw_X3 rfl (iStone_lt hs) (xe_Stone _ _ hs) 1 (by decide) hlk rfl hd kk
theorem xg_Stone_planeCount {l : Launch} {X : gC} {cc : ByteArray} {own : String} {dd ca sa k n pc : Nat} {ls : List (Option Value)} {st : List Value} {σ : Mem} {idx : Nat} {s : Nat} (hC : gOk wX l X cc own dd ca sa) (hs : s < 8) (hlk : Cond.fieldLink own idx "GemCut$Stone" "planeCount" "I" ∈ TB) (hd : decode cc pc = .ok (.getfield idx, 3)) (kk : G wX X k n (pc + 3) ls (.int (σ (iStone s) 2) :: st) σ) : G wX X k n pc ls (.ref (gA X (iStone s)) :: st) σ := g_get hC iw_X3 rfl (iStone_lt hs) (xe_Stone _ _ hs) 2 (by decide) hlk rfl hd kk
theorem xp_Stone_planeCount {l : Launch} {X : gC} {cc : ByteArray} {own : String} {dd ca sa k n pc : Nat} {ls : List (Option Value)} {st : List Value} {σ : Mem} {idx : Nat} {x : Int32} {s : Nat} (hC : gOk wX l X cc own dd ca sa) (hs : s < 8) (hlk : Cond.fieldLink own idx "GemCut$Stone" "planeCount" "I" ∈ TB) (hd : decode cc pc = .ok (.putfield idx, 3)) (kk : G wX X k n (pc + 3) ls st (upd2 σ (iStone s) 2 x)) : G wX X k n pc ls (.int x :: .ref (gA X (iStone s)) :: st) σ := g_put (ty := .int) tyX3 hC iw_X3 tyX3_ok nmX3 rfl (iStone_lt hs) (xe_Stone _ _ hs) 2 (by decide) hlk rfl (by decide +kernel) rfl rfl (Nat.le_of_ble_eq_true rfl) (by rw [xe_Stone _ _ hs]; rfl) hd kk
theorem xg_Stone_weight {l : Launch} {X : gC} {cc : ByteArray} {own : String} {dd ca sa k n pc : Nat} {ls : List (Option Value)} {st : List Value} {σ : Mem} {idx : Nat} {s : Nat} (hC : gOk wX l X cc own dd ca sa) (hs : s < 8) (hlk : Cond.fieldLink own idx "GemCut$Stone" "weight" "I" ∈ TB) (hd : decode cc pc = .ok (.getfield idx, 3)) (kk : G wX X k n (pc + 3) ls (.int (σ (iStone s) 3) :: st) σ) : G wX X k n pc ls (.ref (gA X (iStone s)) :: st) σ := g_get hC iw_X3 rfl (iStone_lt hs) (xe_Stone _ _ hs) 3 (by decide) hlk rfl hd kk
theorem xp_Stone_weight {l : Launch} {X : gC} {cc : ByteArray} {own : String} {dd ca sa k n pc : Nat} {ls : List (Option Value)} {st : List Value} {σ : Mem} {idx : Nat} {x : Int32} {s : Nat} (hC : gOk wX l X cc own dd ca sa) (hs : s < 8) (hlk : Cond.fieldLink own idx "GemCut$Stone" "weight" "I" ∈ TB) (hd : decode cc pc = .ok (.putfield idx, 3)) (kk : G wX X k n (pc + 3) ls st (upd2 σ (iStone s) 3 x)) : G wX X k n pc ls (.int x :: .ref (gA X (iStone s)) :: st) σ := g_put (ty := .int) tyX3 hC iw_X3 tyX3_ok nmX3 rfl (iStone_lt hs) (xe_Stone _ _ hs) 3 (by decide) hlk rfl (by decide +kernel) rfl rfl (Nat.le_of_ble_eq_true rfl) (by rw [xe_Stone _ _ hs]; rfl) hd kk
theorem xg_Stone_bareCells {l : Launch} {X : gC} {cc : ByteArray} {own : String} {dd ca sa k n pc : Nat} {ls : List (Option Value)} {st : List Value} {σ : Mem} {idx : Nat} {s : Nat} (hC : gOk wX l X cc own dd ca sa) (hs : s < 8) (hlk : Cond.fieldLink own idx "GemCut$Stone" "bareCells" "I" ∈ TB) (hd : decode cc pc = .ok (.getfield idx, 3)) (kk : G wX X k n (pc + 3) ls (.int (σ (iStone s) 4) :: st) σ) : G wX X k n pc ls (.ref (gA X (iStone s)) :: st) σ := g_get hC iw_X3 rfl (iStone_lt hs) (xe_Stone _ _ hs) 4 (by decide) hlk rfl hd kk
theorem xp_Stone_bareCells {l : Launch} {X : gC} {cc : ByteArray} {own : String} {dd ca sa k n pc : Nat} {ls : List (Option Value)} {st : List Value} {σ : Mem} {idx : Nat} {x : Int32} {s : Nat} (hC : gOk wX l X cc own dd ca sa) (hs : s < 8) (hlk : Cond.fieldLink own idx "GemCut$Stone" "bareCells" "I" ∈ TB) (hd : decode cc pc = .ok (.putfield idx, 3)) (kk : G wX X k n (pc + 3) ls st (upd2 σ (iStone s) 4 x)) : G wX X k n pc ls (.int x :: .ref (gA X (iStone s)) :: st) σ := g_put (ty := .int) tyX3 hC iw_X3 tyX3_ok nmX3 rfl (iStone_lt hs) (xe_Stone _ _ hs) 4 (by decide) hlk rfl (by decide +kernel) rfl rfl (Nat.le_of_ble_eq_true rfl) (by rw [xe_Stone _ _ hs]; rfl) hd kk
theorem xg_Plane_p {l : Launch} {X : gC} {cc : ByteArray} {own : String} {dd ca sa k n pc : Nat} {ls : List (Option Value)} {st : List Value} {σ : Mem} {idx : Nat} {i : Nat} (hC : gOk wX l X cc own dd ca sa) (hi : xk i = 12) (hlk : Cond.fieldLink own idx "GemCut$Plane" "p" "I" ∈ TB) (hd : decode cc pc = .ok (.getfield idx, 3)) (kk : G wX X k n (pc + 3) ls (.int (σ (i) 0) :: st) σ) : G wX X k n pc ls (.ref (gA X (i)) :: st) σ := g_get hC iw_X1 rfl (isP_lt hi) (xe_Plane _ _ hi) 0 (by decide) hlk rfl hd kk
theorem xp_Plane_p {l : Launch} {X : gC} {cc : ByteArray} {own : String} {dd ca sa k n pc : Nat} {ls : List (Option Value)} {st : List Value} {σ : Mem} {idx : Nat} {x : Int32} {i : Nat} (hC : gOk wX l X cc own dd ca sa) (hi : xk i = 12) (hlk : Cond.fieldLink own idx "GemCut$Plane" "p" "I" ∈ TB) (hd : decode cc pc = .ok (.putfield idx, 3)) (kk : G wX X k n (pc + 3) ls st (upd2 σ (i) 0 x)) : G wX X k n pc ls (.int x :: .ref (gA X (i)) :: st) σ := g_put (ty := .int) tyX1 hC iw_X1 tyX1_ok nmX1 rfl (isP_lt hi) (xe_Plane _ _ hi) 0 (by decide) hlk rfl (by decide +kernel) rfl rfl (Nat.le_of_ble_eq_true rfl) (by rw [xe_Plane _ _ hi]; rfl) hd kk
theorem xg_Plane_q {l : Launch} {X : gC} {cc : ByteArray} {own : String} {dd ca sa k n pc : Nat} {ls : List (Option Value)} {st : List Value} {σ : Mem} {idx : Nat} {i : Nat} (hC : gOk wX l X cc own dd ca sa) (hi : xk i = 12) (hlk : Cond.fieldLink own idx "GemCut$Plane" "q" "I" ∈ TB) (hd : decode cc pc = .ok (.getfield idx, 3)) (kk : G wX X k n (pc + 3) ls (.int (σ (i) 1) :: st) σ) : G wX X k n pc ls (.ref (gA X (i)) :: st) σ := g_get hC iw_X1 rfl (isP_lt hi) (xe_Plane _ _ hi) 1 (by decide) hlk rfl hd kk
theorem xp_Plane_q {l : Launch} {X : gC} {cc : ByteArray} {own : String} {dd ca sa k n pc : Nat} {ls : List (Option Value)} {st : List Value} {σ : Mem} {idx : Nat} {x : Int32} {i : Nat} (hC : gOk wX l X cc own dd ca sa) (hi : xk i = 12) (hlk : Cond.fieldLink own idx "GemCut$Plane" "q" "I" ∈ TB) (hd : decode cc pc = .ok (.putfield idx, 3)) (kk : G wX X k n (pc + 3) ls st (upd2 σ (i) 1 x)) : G wX X k n pc ls (.int x :: .ref (gA X (i)) :: st) σ := g_put (ty := .int) tyX1 hC iw_X1 tyX1_ok nmX1 rfl (isP_lt hi) (xe_Plane _ _ hi) 1 (by decide) hlk rfl (by decide +kernel) rfl rfl (Nat.le_of_ble_eq_true rfl) (by rw [xe_Plane _ _ hi]; rfl) hd kk
theorem xg_Plane_r {l : Launch} {X : gC} {cc : ByteArray} {own : String} {dd ca sa k n pc : Nat} {ls : List (Option Value)} {st : List Value} {σ : Mem} {idx : Nat} {i : Nat} (hC : gOk wX l X cc own dd ca sa) (hi : xk i = 12) (hlk : Cond.fieldLink own idx "GemCut$Plane" "r" "I" ∈ TB) (hd : decode cc pc = .ok (.getfield idx, 3)) (kk : G wX X k n (pc + 3) ls (.int (σ (i) 2) :: st) σ) : G wX X k n pc ls (.ref (gA X (i)) :: st) σ := g_get hC iw_X1 rfl (isP_lt hi) (xe_Plane _ _ hi) 2 (by decide) hlk rfl hd kk
theorem xp_Plane_r {l : Launch} {X : gC} {cc : ByteArray} {own : String} {dd ca sa k n pc : Nat} {ls : List (Option Value)} {st : List Value} {σ : Mem} {idx : Nat} {x : Int32} {i : Nat} (hC : gOk wX l X cc own dd ca sa) (hi : xk i = 12) (hlk : Cond.fieldLink own idx "GemCut$Plane" "r" "I" ∈ TB) (hd : decode cc pc = .ok (.putfield idx, 3)) (kk : G wX X k n (pc + 3) ls st (upd2 σ (i) 2 x)) : G wX X k n pc ls (.int x :: .ref (gA X (i)) :: st) σ := g_put (ty := .int) tyX1 hC iw_X1 tyX1_ok nmX1 rfl (isP_lt hi) (xe_Plane _ _ hi) 2 (by decide) hlk rfl (by decide +kernel) rfl rfl (Nat.le_of_ble_eq_true rfl) (by rw [xe_Plane _ _ hi]; rfl) hd kk
theorem xg_Plane_d {l : Launch} {X : gC} {cc : ByteArray} {own : String} {dd ca sa k n pc : Nat} {ls : List (Option Value)} {st : List Value} {σ : Mem} {idx : Nat} {i : Nat} (hC : gOk wX l X cc own dd ca sa) (hi : xk i = 12) (hlk : Cond.fieldLink own idx "GemCut$Plane" "d" "I" ∈ TB) (hd : decode cc pc = .ok (.getfield idx, 3)) (kk : G wX X k n (pc + 3) ls (.int (σ (i) 3) :: st) σ) : G wX X k n pc ls (.ref (gA X (i)) :: st) σ := g_get hC iw_X1 rfl (isP_lt hi) (xe_Plane _ _ hi) 3 (by decide) hlk rfl hd kk
theorem xp_Plane_d {l : Launch} {X : gC} {cc : ByteArray} {own : String} {dd ca sa k n pc : Nat} {ls : List (Option Value)} {st : List Value} {σ : Mem} {idx : Nat} {x : Int32} {i : Nat} (hC : gOk wX l X cc own dd ca sa) (hi : xk i = 12) (hlk : Cond.fieldLink own idx "GemCut$Plane" "d" "I" ∈ TB) (hd : decode cc pc = .ok (.putfield idx, 3)) (kk : G wX X k n (pc + 3) ls st (upd2 σ (i) 3 x)) : G wX X k n pc ls (.int x :: .ref (gA X (i)) :: st) σ := g_put (ty := .int) tyX1 hC iw_X1 tyX1_ok nmX1 rfl (isP_lt hi) (xe_Plane _ _ hi) 3 (by decide) hlk rfl (by decide +kernel) rfl rfl (Nat.le_of_ble_eq_true rfl) (by rw [xe_Plane _ _ hi]; rfl) hd kk
theorem xg_Plane_reach {l : Launch} {X : gC} {cc : ByteArray} {own : String} {dd ca sa k n pc : Nat} {ls : List (Option Value)} {st : List Value} {σ : Mem} {idx : Nat} {i : Nat} (hC : gOk wX l X cc own dd ca sa) (hi : xk i = 12) (hlk : Cond.fieldLink own idx "GemCut$Plane" "reach" "I" ∈ TB) (hd : decode cc pc = .ok (.getfield idx, 3)) (kk : G wX X k n (pc + 3) ls (.int (σ (i) 4) :: st) σ) : G wX X k n pc ls (.ref (gA X (i)) :: st) σ := g_get hC iw_X1 rfl (isP_lt hi) (xe_Plane _ _ hi) 4 (by decide) hlk rfl hd kk
theorem xp_Plane_reach {l : Launch} {X : gC} {cc : ByteArray} {own : String} {dd ca sa k n pc : Nat} {ls : List (Option Value)} {st : List Value} {σ : Mem} {idx : Nat} {x : Int32} {i : Nat} (hC : gOk wX l X cc own dd ca sa) (hi : xk i = 12) (hlk : Cond.fieldLink own idx "GemCut$Plane" "reach" "I" ∈ TB) (hd : decode cc pc = .ok (.putfield idx, 3)) (kk : G wX X k n (pc + 3) ls st (upd2 σ (i) 4 x)) : G wX X k n pc ls (.int x :: .ref (gA X (i)) :: st) σ := g_put (ty := .int) tyX1 hC iw_X1 tyX1_ok nmX1 rfl (isP_lt hi) (xe_Plane _ _ hi) 4 (by decide) hlk rfl (by decide +kernel) rfl rfl (Nat.le_of_ble_eq_true rfl) (by rw [xe_Plane _ _ hi]; rfl) hd kk
theorem xg_Plane_polished {l : Launch} {X : gC} {cc : ByteArray} {own : String} {dd ca sa k n pc : Nat} {ls : List (Option Value)} {st : List Value} {σ : Mem} {idx : Nat} {i : Nat} (hC : gOk wX l X cc own dd ca sa) (hi : xk i = 12) (hlk : Cond.fieldLink own idx "GemCut$Plane" "polished" "Z" ∈ TB) (hd : decode cc pc = .ok (.getfield idx, 3)) (kk : G wX X k n (pc + 3) ls (.int (σ (i) 5) :: st) σ) : G wX X k n pc ls (.ref (gA X (i)) :: st) σ := g_get hC iw_X1 rfl (isP_lt hi) (xe_Plane _ _ hi) 5 (by decide) hlk rfl hd kk
theorem xp_Plane_polished {l : Launch} {X : gC} {cc : ByteArray} {own : String} {dd ca sa k n pc : Nat} {ls : List (Option Value)} {st : List Value} {σ : Mem} {idx : Nat} {x : Int32} {i : Nat} (hC : gOk wX l X cc own dd ca sa) (hi : xk i = 12) (hz : x = 0 ∨ x = 1) (hlk : Cond.fieldLink own idx "GemCut$Plane" "polished" "Z" ∈ TB) (hd : decode cc pc = .ok (.putfield idx, 3)) (kk : G wX X k n (pc + 3) ls st (upd2 σ (i) 5 x)) : G wX X k n pc ls (.int x :: .ref (gA X (i)) :: st) σ := g_put (ty := .boolean) tyX1 hC iw_X1 tyX1_ok nmX1 rfl (isP_lt hi) (xe_Plane _ _ hi) 5 (by decide) hlk rfl (by decide +kernel) (by rcases hz with rfl | rfl <;> rfl) (by rcases hz with rfl | rfl <;> rfl) (Nat.le_of_ble_eq_true rfl) (by rw [xe_Plane _ _ hi]; rfl) hd kk
theorem xg_Plane_touching {l : Launch} {X : gC} {cc : ByteArray} {own : String} {dd ca sa k n pc : Nat} {ls : List (Option Value)} {st : List Value} {σ : Mem} {idx : Nat} {i : Nat} (hC : gOk wX l X cc own dd ca sa) (hi : xk i = 12) (hlk : Cond.fieldLink own idx "GemCut$Plane" "touching" "I" ∈ TB) (hd : decode cc pc = .ok (.getfield idx, 3)) (kk : G wX X k n (pc + 3) ls (.int (σ (i) 6) :: st) σ) : G wX X k n pc ls (.ref (gA X (i)) :: st) σ := g_get hC iw_X1 rfl (isP_lt hi) (xe_Plane _ _ hi) 6 (by decide) hlk rfl hd kk
theorem xp_Plane_touching {l : Launch} {X : gC} {cc : ByteArray} {own : String} {dd ca sa k n pc : Nat} {ls : List (Option Value)} {st : List Value} {σ : Mem} {idx : Nat} {x : Int32} {i : Nat} (hC : gOk wX l X cc own dd ca sa) (hi : xk i = 12) (hlk : Cond.fieldLink own idx "GemCut$Plane" "touching" "I" ∈ TB) (hd : decode cc pc = .ok (.putfield idx, 3)) (kk : G wX X k n (pc + 3) ls st (upd2 σ (i) 6 x)) : G wX X k n pc ls (.int x :: .ref (gA X (i)) :: st) σ := g_put (ty := .int) tyX1 hC iw_X1 tyX1_ok nmX1 rfl (isP_lt hi) (xe_Plane _ _ hi) 6 (by decide) hlk rfl (by decide +kernel) rfl rfl (Nat.le_of_ble_eq_true rfl) (by rw [xe_Plane _ _ hi]; rfl) hd kk
theorem xg_Trial_rough {l : Launch} {X : gC} {cc : ByteArray} {own : String} {dd ca sa k n pc : Nat} {ls : List (Option Value)} {st : List Value} {σ : Mem} {idx : Nat}  (hC : gOk wX l X cc own dd ca sa)  (hlk : Cond.fieldLink own idx "GemCut$Trial" "rough" "LGemCut$Rough;" ∈ TB) (hd : decode cc pc = .ok (.getfield idx, 3)) (kk : G wX X k n (pc + 3) ls (.ref (gA X (1)) :: st) σ) : G wX X k n pc ls (.ref (gA X (190)) :: st) σ := g_get hC iw_X4 rfl (by decide) (xe_Trial _ _) 0 (by decide) hlk rfl hd kk
theorem xg_Trial_piece {l : Launch} {X : gC} {cc : ByteArray} {own : String} {dd ca sa k n pc : Nat} {ls : List (Option Value)} {st : List Value} {σ : Mem} {idx : Nat}  (hC : gOk wX l X cc own dd ca sa)  (hlk : Cond.fieldLink own idx "GemCut$Trial" "piece" "LGemCut$Stone;" ∈ TB) (hd : decode cc pc = .ok (.getfield idx, 3)) (kk : G wX X k n (pc + 3) ls (.ref (gA X (iStone (σ 190 1).toNatClampNeg)) :: st) σ) : G wX X k n pc ls (.ref (gA X (190)) :: st) σ := g_get hC iw_X4 rfl (by decide) (xe_Trial _ _) 1 (by decide) hlk rfl hd kk
theorem xg_Trial_tried {l : Launch} {X : gC} {cc : ByteArray} {own : String} {dd ca sa k n pc : Nat} {ls : List (Option Value)} {st : List Value} {σ : Mem} {idx : Nat}  (hC : gOk wX l X cc own dd ca sa)  (hlk : Cond.fieldLink own idx "GemCut$Trial" "tried" "LGemCut$Plane;" ∈ TB) (hd : decode cc pc = .ok (.getfield idx, 3)) (kk : G wX X k n (pc + 3) ls (.ref (gA X (191)) :: st) σ) : G wX X k n pc ls (.ref (gA X (190)) :: st) σ := g_get hC iw_X4 rfl (by decide) (xe_Trial _ _) 2 (by decide) hlk rfl hd kk
theorem xg_Trial_heights {l : Launch} {X : gC} {cc : ByteArray} {own : String} {dd ca sa k n pc : Nat} {ls : List (Option Value)} {st : List Value} {σ : Mem} {idx : Nat}  (hC : gOk wX l X cc own dd ca sa)  (hlk : Cond.fieldLink own idx "GemCut$Trial" "heights" "[I" ∈ TB) (hd : decode cc pc = .ok (.getfield idx, 3)) (kk : G wX X k n (pc + 3) ls (.ref (gA X (192)) :: st) σ) : G wX X k n pc ls (.ref (gA X (190)) :: st) σ := g_get hC iw_X4 rfl (by decide) (xe_Trial _ _) 3 (by decide) hlk rfl hd kk
theorem xg_Trial_upTo {l : Launch} {X : gC} {cc : ByteArray} {own : String} {dd ca sa k n pc : Nat} {ls : List (Option Value)} {st : List Value} {σ : Mem} {idx : Nat}  (hC : gOk wX l X cc own dd ca sa)  (hlk : Cond.fieldLink own idx "GemCut$Trial" "upTo" "[I" ∈ TB) (hd : decode cc pc = .ok (.getfield idx, 3)) (kk : G wX X k n (pc + 3) ls (.ref (gA X (193)) :: st) σ) : G wX X k n pc ls (.ref (gA X (190)) :: st) σ := g_get hC iw_X4 rfl (by decide) (xe_Trial _ _) 4 (by decide) hlk rfl hd kk
theorem xg_Trial_floors {l : Launch} {X : gC} {cc : ByteArray} {own : String} {dd ca sa k n pc : Nat} {ls : List (Option Value)} {st : List Value} {σ : Mem} {idx : Nat}  (hC : gOk wX l X cc own dd ca sa)  (hlk : Cond.fieldLink own idx "GemCut$Trial" "floors" "[I" ∈ TB) (hd : decode cc pc = .ok (.getfield idx, 3)) (kk : G wX X k n (pc + 3) ls (.ref (gA X (194)) :: st) σ) : G wX X k n pc ls (.ref (gA X (190)) :: st) σ := g_get hC iw_X4 rfl (by decide) (xe_Trial _ _) 5 (by decide) hlk rfl hd kk
theorem xl_owner {l : Launch} {X : gC} {cc : ByteArray} {own : String} {dd ca sa k n pc : Nat} {ls : List (Option Value)} {st : List Value} {σ : Mem} {x : Int32} (j : Nat)  (hC : gOk wX l X cc own dd ca sa)  (hx0 : x = nI j) (hj : j < 1000) (hd : decode cc pc = .ok (.iaload, 1)) (kk : G wX X k n (pc + 1) ls (.int (σ (2) j) :: st) σ) : G wX X k n pc ls (.int x :: .ref (gA X (2)) :: st) σ := g_iald hC (by decide) (xe_owner _ _) hx0 hj (by decide) hd kk
theorem xs_owner {l : Launch} {X : gC} {cc : ByteArray} {own : String} {dd ca sa k n pc : Nat} {ls : List (Option Value)} {st : List Value} {σ : Mem} {x y : Int32} (j : Nat)  (hC : gOk wX l X cc own dd ca sa)  (hx0 : x = nI j) (hj : j < 1000) (hd : decode cc pc = .ok (.iastore, 1)) (kk : G wX X k n (pc + 1) ls st (upd2 σ (2) j y)) : G wX X k n pc ls (.int y :: .int x :: .ref (gA X (2)) :: st) σ := g_iast hC (by decide) (xe_owner _ _) hx0 hj (by decide) (xe_owner _ _) hd kk
theorem xl_bare {l : Launch} {X : gC} {cc : ByteArray} {own : String} {dd ca sa k n pc : Nat} {ls : List (Option Value)} {st : List Value} {σ : Mem} {x : Int32} (j : Nat)  (hC : gOk wX l X cc own dd ca sa)  (hx0 : x = nI j) (hj : j < 1000) (hd : decode cc pc = .ok (.baload, 1)) (kk : G wX X k n (pc + 1) ls (.int (σ (3) j) :: st) σ) : G wX X k n pc ls (.int x :: .ref (gA X (3)) :: st) σ := g_zald hC (by decide) (xe_bare _ _) hx0 hj (by decide) hd kk
theorem xs_bare {l : Launch} {X : gC} {cc : ByteArray} {own : String} {dd ca sa k n pc : Nat} {ls : List (Option Value)} {st : List Value} {σ : Mem} {x y : Int32} (j : Nat)  (hC : gOk wX l X cc own dd ca sa)  (hx0 : x = nI j) (hj : j < 1000) (hz : y = 0 ∨ y = 1) (hd : decode cc pc = .ok (.bastore, 1)) (kk : G wX X k n (pc + 1) ls st (upd2 σ (3) j y)) : G wX X k n pc ls (.int y :: .int x :: .ref (gA X (3)) :: st) σ := g_zast hC (by decide) (xe_bare _ _) hx0 hj (by decide) (xe_bare _ _) hd (by rw [show vp_nar .boolean y = y by rcases hz with rfl | rfl <;> rfl]; exact kk)
theorem xl_heights {l : Launch} {X : gC} {cc : ByteArray} {own : String} {dd ca sa k n pc : Nat} {ls : List (Option Value)} {st : List Value} {σ : Mem} {x : Int32} (j : Nat)  (hC : gOk wX l X cc own dd ca sa)  (hx0 : x = nI j) (hj : j < 1000) (hd : decode cc pc = .ok (.iaload, 1)) (kk : G wX X k n (pc + 1) ls (.int (σ (192) j) :: st) σ) : G wX X k n pc ls (.int x :: .ref (gA X (192)) :: st) σ := g_iald hC (by decide) (xe_heights _ _) hx0 hj (by decide) hd kk
theorem xs_heights {l : Launch} {X : gC} {cc : ByteArray} {own : String} {dd ca sa k n pc : Nat} {ls : List (Option Value)} {st : List Value} {σ : Mem} {x y : Int32} (j : Nat)  (hC : gOk wX l X cc own dd ca sa)  (hx0 : x = nI j) (hj : j < 1000) (hd : decode cc pc = .ok (.iastore, 1)) (kk : G wX X k n (pc + 1) ls st (upd2 σ (192) j y)) : G wX X k n pc ls (.int y :: .int x :: .ref (gA X (192)) :: st) σ := g_iast hC (by decide) (xe_heights _ _) hx0 hj (by decide) (xe_heights _ _) hd kk
theorem xl_upTo {l : Launch} {X : gC} {cc : ByteArray} {own : String} {dd ca sa k n pc : Nat} {ls : List (Option Value)} {st : List Value} {σ : Mem} {x : Int32} (j : Nat)  (hC : gOk wX l X cc own dd ca sa)  (hx0 : x = nI j) (hj : j < 163) (hd : decode cc pc = .ok (.iaload, 1)) (kk : G wX X k n (pc + 1) ls (.int (σ (193) j) :: st) σ) : G wX X k n pc ls (.int x :: .ref (gA X (193)) :: st) σ := g_iald hC (by decide) (xe_upTo _ _) hx0 hj (by decide) hd kk
theorem xs_upTo {l : Launch} {X : gC} {cc : ByteArray} {own : String} {dd ca sa k n pc : Nat} {ls : List (Option Value)} {st : List Value} {σ : Mem} {x y : Int32} (j : Nat)  (hC : gOk wX l X cc own dd ca sa)  (hx0 : x = nI j) (hj : j < 163) (hd : decode cc pc = .ok (.iastore, 1)) (kk : G wX X k n (pc + 1) ls st (upd2 σ (193) j y)) : G wX X k n pc ls (.int y :: .int x :: .ref (gA X (193)) :: st) σ := g_iast hC (by decide) (xe_upTo _ _) hx0 hj (by decide) (xe_upTo _ _) hd kk
theorem xn_upTo {l : Launch} {X : gC} {cc : ByteArray} {own : String} {dd ca sa k n pc : Nat} {ls : List (Option Value)} {st : List Value} {σ : Mem}  (hC : gOk wX l X cc own dd ca sa)  (hd : decode cc pc = .ok (.arraylength, 1)) (kk : G wX X k n (pc + 1) ls (.int (nI 163) :: st) σ) : G wX X k n pc ls (.ref (gA X (193)) :: st) σ := g_alen (t0 := 0) hC (by decide) (xe_upTo _ _) (fun _ => rfl) hd kk
theorem xl_floors {l : Launch} {X : gC} {cc : ByteArray} {own : String} {dd ca sa k n pc : Nat} {ls : List (Option Value)} {st : List Value} {σ : Mem} {x : Int32} (j : Nat)  (hC : gOk wX l X cc own dd ca sa)  (hx0 : x = nI j) (hj : j < 16) (hd : decode cc pc = .ok (.iaload, 1)) (kk : G wX X k n (pc + 1) ls (.int (σ (194) j) :: st) σ) : G wX X k n pc ls (.int x :: .ref (gA X (194)) :: st) σ := g_iald hC (by decide) (xe_floors _ _) hx0 hj (by decide) hd kk
theorem xs_floors {l : Launch} {X : gC} {cc : ByteArray} {own : String} {dd ca sa k n pc : Nat} {ls : List (Option Value)} {st : List Value} {σ : Mem} {x y : Int32} (j : Nat)  (hC : gOk wX l X cc own dd ca sa)  (hx0 : x = nI j) (hj : j < 16) (hd : decode cc pc = .ok (.iastore, 1)) (kk : G wX X k n (pc + 1) ls st (upd2 σ (194) j y)) : G wX X k n pc ls (.int y :: .int x :: .ref (gA X (194)) :: st) σ := g_iast hC (by decide) (xe_floors _ _) hx0 hj (by decide) (xe_floors _ _) hd kk
theorem xl_FC {l : Launch} {X : gC} {cc : ByteArray} {own : String} {dd ca sa k n pc : Nat} {ls : List (Option Value)} {st : List Value} {σ : Mem} {x : Int32} (j : Nat) {f : Nat} (hC : gOk wX l X cc own dd ca sa) (hf : f < 10) (hx0 : x = nI j) (hj : j < 63) (hd : decode cc pc = .ok (.iaload, 1)) (kk : G wX X k n (pc + 1) ls (.int (σ (iFlaw f + 1) j) :: st) σ) : G wX X k n pc ls (.int x :: .ref (gA X (iFlaw f + 1)) :: st) σ := g_iald hC (iFlaw1_lt hf) (xe_FC _ _ hf) hx0 hj (by decide) hd kk
theorem xs_FC {l : Launch} {X : gC} {cc : ByteArray} {own : String} {dd ca sa k n pc : Nat} {ls : List (Option Value)} {st : List Value} {σ : Mem} {x y : Int32} (j : Nat) {f : Nat} (hC : gOk wX l X cc own dd ca sa) (hf : f < 10) (hx0 : x = nI j) (hj : j < 63) (hd : decode cc pc = .ok (.iastore, 1)) (kk : G wX X k n (pc + 1) ls st (upd2 σ (iFlaw f + 1) j y)) : G wX X k n pc ls (.int y :: .int x :: .ref (gA X (iFlaw f + 1)) :: st) σ := g_iast hC (iFlaw1_lt hf) (xe_FC _ _ hf) hx0 hj (by decide) (xe_FC _ _ hf) hd kk
theorem xl_FI {l : Launch} {X : gC} {cc : ByteArray} {own : String} {dd ca sa k n pc : Nat} {ls : List (Option Value)} {st : List Value} {σ : Mem} {x : Int32} (j : Nat) {f : Nat} (hC : gOk wX l X cc own dd ca sa) (hf : f < 10) (hx0 : x = nI j) (hj : j < 8) (hd : decode cc pc = .ok (.iaload, 1)) (kk : G wX X k n (pc + 1) ls (.int (σ (iFlaw f + 2) j) :: st) σ) : G wX X k n pc ls (.int x :: .ref (gA X (iFlaw f + 2)) :: st) σ := g_iald hC (iFlaw2_lt hf) (xe_FI _ _ hf) hx0 hj (by decide) hd kk
theorem xs_FI {l : Launch} {X : gC} {cc : ByteArray} {own : String} {dd ca sa k n pc : Nat} {ls : List (Option Value)} {st : List Value} {σ : Mem} {x y : Int32} (j : Nat) {f : Nat} (hC : gOk wX l X cc own dd ca sa) (hf : f < 10) (hx0 : x = nI j) (hj : j < 8) (hd : decode cc pc = .ok (.iastore, 1)) (kk : G wX X k n (pc + 1) ls st (upd2 σ (iFlaw f + 2) j y)) : G wX X k n pc ls (.int y :: .int x :: .ref (gA X (iFlaw f + 2)) :: st) σ := g_iast hC (iFlaw2_lt hf) (xe_FI _ _ hf) hx0 hj (by decide) (xe_FI _ _ hf) hd kk
theorem xl_FB {l : Launch} {X : gC} {cc : ByteArray} {own : String} {dd ca sa k n pc : Nat} {ls : List (Option Value)} {st : List Value} {σ : Mem} {x : Int32} (j : Nat) {f : Nat} (hC : gOk wX l X cc own dd ca sa) (hf : f < 10) (hx0 : x = nI j) (hj : j < 8) (hd : decode cc pc = .ok (.iaload, 1)) (kk : G wX X k n (pc + 1) ls (.int (σ (iFlaw f + 3) j) :: st) σ) : G wX X k n pc ls (.int x :: .ref (gA X (iFlaw f + 3)) :: st) σ := g_iald hC (iFlaw3_lt hf) (xe_FB _ _ hf) hx0 hj (by decide) hd kk
theorem xs_FB {l : Launch} {X : gC} {cc : ByteArray} {own : String} {dd ca sa k n pc : Nat} {ls : List (Option Value)} {st : List Value} {σ : Mem} {x y : Int32} (j : Nat) {f : Nat} (hC : gOk wX l X cc own dd ca sa) (hf : f < 10) (hx0 : x = nI j) (hj : j < 8) (hd : decode cc pc = .ok (.iastore, 1)) (kk : G wX X k n (pc + 1) ls st (upd2 σ (iFlaw f + 3) j y)) : G wX X k n pc ls (.int y :: .int x :: .ref (gA X (iFlaw f + 3)) :: st) σ := g_iast hC (iFlaw3_lt hf) (xe_FB _ _ hf) hx0 hj (by decide) (xe_FB _ _ hf) hd kk
theorem xl_flawsA {l : Launch} {X : gC} {cc : ByteArray} {own : String} {dd ca sa k n pc : Nat} {ls : List (Option Value)} {st : List Value} {σ : Mem} {x : Int32} (j : Nat)  (hC : gOk wX l X cc own dd ca sa)  (hx0 : x = nI j) (hj : j < 10) (hd : decode cc pc = .ok (.aaload, 1)) (kk : G wX X k n (pc + 1) ls (.ref (gA X (iFlaw j)) :: st) σ) : G wX X k n pc ls (.int x :: .ref (gA X (4)) :: st) σ := g_aald (t0 := 2) (ct := "GemCut$Flaw") hC (by decide) (xe_flawsA _ _) (fun _ => rfl) hx0 hj (by decide) (rfl) hd kk
theorem xl_stonesA {l : Launch} {X : gC} {cc : ByteArray} {own : String} {dd ca sa k n pc : Nat} {ls : List (Option Value)} {st : List Value} {σ : Mem} {x : Int32} (j : Nat)  (hC : gOk wX l X cc own dd ca sa)  (hx0 : x = nI j) (hj : j < 8) (hd : decode cc pc = .ok (.aaload, 1)) (kk : G wX X k n (pc + 1) ls (.ref (gA X (iStone j)) :: st) σ) : G wX X k n pc ls (.int x :: .ref (gA X (45)) :: st) σ := g_aald (t0 := 4) (ct := "GemCut$Stone") hC (by decide) (xe_stonesA _ _) (fun _ => rfl) hx0 hj (by decide) (rfl) hd kk
theorem xl_Pls {l : Launch} {X : gC} {cc : ByteArray} {own : String} {dd ca sa k n pc : Nat} {ls : List (Option Value)} {st : List Value} {σ : Mem} {x : Int32} (j : Nat) {s : Nat} (hC : gOk wX l X cc own dd ca sa) (hs : s < 8) (hx0 : x = nI j) (hj : j < 16) (hd : decode cc pc = .ok (.aaload, 1)) (kk : G wX X k n (pc + 1) ls (.ref (gA X (iPl s j)) :: st) σ) : G wX X k n pc ls (.int x :: .ref (gA X (iStone s + 1)) :: st) σ := g_aald (t0 := 3) (ct := "GemCut$Plane") hC (iStone1_lt hs) (xe_Pls _ _ hs) (fun _ => rfl) hx0 hj (by decide) (congrArg (fun z => some (gA X z)) (show iStone s + 1 + 1 + j = iPl s j by unfold iStone iPl; omega)) hd kk
theorem xp_Trial_piece {l : Launch} {X : gC} {cc : ByteArray} {own : String} {dd ca sa k n pc : Nat} {ls : List (Option Value)} {st : List Value} {σ : Mem} {idx : Nat} {s : Nat} (hC : gOk wX l X cc own dd ca sa) (hs : s < 8) (hlk : Cond.fieldLink own idx "GemCut$Trial" "piece" "LGemCut$Stone;" ∈ TB) (hd : decode cc pc = .ok (.putfield idx, 3)) (kk : G wX X k n (pc + 3) ls st (upd2 σ 190 1 (nI s))) : G wX X k n pc ls (.ref (gA X (iStone s)) :: .ref (gA X 190) :: st) σ := g_put (ty := .object "GemCut$Stone") tyX4 hC iw_X4 tyX4_ok nmX4 rfl (by decide) (xe_Trial _ _) 1 (by decide) hlk rfl (by decide +kernel) rfl rfl (Nat.le_of_ble_eq_true rfl) (by rw [xe_Trial]; show _ = Sum.inr (4, [_, _, _, _, _, _]); rw [show (upd (σ 190) 1 (nI s) 1).toNatClampNeg = s from nI_clamp (by omega)]; rfl) hd kk
end
section
/-! the reference's world: its object and four rows -/
def mE (E : gE) (ρ : Nat → Int32) (i : Nat) : va_E := match i with
  | 0 => .inr (6, [.int (ρ 0), .int (ρ 1), .int (ρ 2), .int (ρ 3), .ref (E.2.1 1), .int (ρ 5), .ref (E.2.1 2), .int (ρ 7), .ref (E.2.1 3), .ref (E.2.1 4), .int (ρ 10), .int (ρ 11)])
  | 1 => .inl (E.2.2 0, 1000, .inl ρ)
  | 2 => .inl (E.2.2 0, 50, .inl ρ)
  | 3 => .inl (E.2.2 0, 680, .inl ρ)
  | _ => .inl (E.2.2 0, 8, .inl ρ)
def wM : gL := (5, mE)
theorem me_Model (E : gE) (ρ : Nat → Int32) : wM.2 E ρ 0 = .inr (6, [.int (ρ 0), .int (ρ 1), .int (ρ 2), .int (ρ 3), .ref (E.2.1 1), .int (ρ 5), .ref (E.2.1 2), .int (ρ 7), .ref (E.2.1 3), .ref (E.2.1 4), .int (ρ 10), .int (ρ 11)]) := rfl
theorem me_cells (E : gE) (ρ : Nat → Int32) : wM.2 E ρ 1 = .inl (E.2.2 0, 1000, .inl ρ) := rfl
theorem me_flawTable (E : gE) (ρ : Nat → Int32) : wM.2 E ρ 2 = .inl (E.2.2 0, 50, .inl ρ) := rfl
theorem me_planeTable (E : gE) (ρ : Nat → Int32) : wM.2 E ρ 3 = .inl (E.2.2 0, 680, .inl ρ) := rfl
theorem me_many (E : gE) (ρ : Nat → Int32) : wM.2 E ρ 4 = .inl (E.2.2 0, 8, .inl ρ) := rfl
theorem mg_Model_thrown {l : Launch} {X : gC} {cc : ByteArray} {own : String} {dd ca sa k n pc : Nat} {ls : List (Option Value)} {st : List Value} {σ : Mem} {idx : Nat}  (hC : gOk wM l X cc own dd ca sa)  (hlk : Cond.fieldLink own idx "GemCutModel" "thrown" "I" ∈ TB) (hd : decode cc pc = .ok (.getfield idx, 3)) (kk : G wM X k n (pc + 3) ls (.int (σ (0) 0) :: st) σ) : G wM X k n pc ls (.ref (gA X (0)) :: st) σ := g_get hC iw_X6 rfl (by decide) (me_Model _ _) 0 (by decide) hlk rfl hd kk
theorem mp_Model_thrown {l : Launch} {X : gC} {cc : ByteArray} {own : String} {dd ca sa k n pc : Nat} {ls : List (Option Value)} {st : List Value} {σ : Mem} {idx : Nat} {x : Int32}  (hC : gOk wM l X cc own dd ca sa)  (hlk : Cond.fieldLink own idx "GemCutModel" "thrown" "I" ∈ TB) (hd : decode cc pc = .ok (.putfield idx, 3)) (kk : G wM X k n (pc + 3) ls st (upd2 σ (0) 0 x)) : G wM X k n pc ls (.int x :: .ref (gA X (0)) :: st) σ := g_put (ty := .int) tyX6 hC iw_X6 tyX6_ok nmX6 rfl (by decide) (me_Model _ _) 0 (by decide) hlk rfl (by decide +kernel) rfl rfl (Nat.le_of_ble_eq_true rfl) (by rw [me_Model _ _]; rfl) hd kk
theorem mg_Model_columns {l : Launch} {X : gC} {cc : ByteArray} {own : String} {dd ca sa k n pc : Nat} {ls : List (Option Value)} {st : List Value} {σ : Mem} {idx : Nat}  (hC : gOk wM l X cc own dd ca sa)  (hlk : Cond.fieldLink own idx "GemCutModel" "columns" "I" ∈ TB) (hd : decode cc pc = .ok (.getfield idx, 3)) (kk : G wM X k n (pc + 3) ls (.int (σ (0) 1) :: st) σ) : G wM X k n pc ls (.ref (gA X (0)) :: st) σ := g_get hC iw_X6 rfl (by decide) (me_Model _ _) 1 (by decide) hlk rfl hd kk
theorem mp_Model_columns {l : Launch} {X : gC} {cc : ByteArray} {own : String} {dd ca sa k n pc : Nat} {ls : List (Option Value)} {st : List Value} {σ : Mem} {idx : Nat} {x : Int32}  (hC : gOk wM l X cc own dd ca sa)  (hlk : Cond.fieldLink own idx "GemCutModel" "columns" "I" ∈ TB) (hd : decode cc pc = .ok (.putfield idx, 3)) (kk : G wM X k n (pc + 3) ls st (upd2 σ (0) 1 x)) : G wM X k n pc ls (.int x :: .ref (gA X (0)) :: st) σ := g_put (ty := .int) tyX6 hC iw_X6 tyX6_ok nmX6 rfl (by decide) (me_Model _ _) 1 (by decide) hlk rfl (by decide +kernel) rfl rfl (Nat.le_of_ble_eq_true rfl) (by rw [me_Model _ _]; rfl) hd kk
theorem mg_Model_rows {l : Launch} {X : gC} {cc : ByteArray} {own : String} {dd ca sa k n pc : Nat} {ls : List (Option Value)} {st : List Value} {σ : Mem} {idx : Nat}  (hC : gOk wM l X cc own dd ca sa)  (hlk : Cond.fieldLink own idx "GemCutModel" "rows" "I" ∈ TB) (hd : decode cc pc = .ok (.getfield idx, 3)) (kk : G wM X k n (pc + 3) ls (.int (σ (0) 2) :: st) σ) : G wM X k n pc ls (.ref (gA X (0)) :: st) σ := g_get hC iw_X6 rfl (by decide) (me_Model _ _) 2 (by decide) hlk rfl hd kk
theorem mp_Model_rows {l : Launch} {X : gC} {cc : ByteArray} {own : String} {dd ca sa k n pc : Nat} {ls : List (Option Value)} {st : List Value} {σ : Mem} {idx : Nat} {x : Int32}  (hC : gOk wM l X cc own dd ca sa)  (hlk : Cond.fieldLink own idx "GemCutModel" "rows" "I" ∈ TB) (hd : decode cc pc = .ok (.putfield idx, 3)) (kk : G wM X k n (pc + 3) ls st (upd2 σ (0) 2 x)) : G wM X k n pc ls (.int x :: .ref (gA X (0)) :: st) σ := g_put (ty := .int) tyX6 hC iw_X6 tyX6_ok nmX6 rfl (by decide) (me_Model _ _) 2 (by decide) hlk rfl (by decide +kernel) rfl rfl (Nat.le_of_ble_eq_true rfl) (by rw [me_Model _ _]; rfl) hd kk
theorem mg_Model_layers {l : Launch} {X : gC} {cc : ByteArray} {own : String} {dd ca sa k n pc : Nat} {ls : List (Option Value)} {st : List Value} {σ : Mem} {idx : Nat}  (hC : gOk wM l X cc own dd ca sa)  (hlk : Cond.fieldLink own idx "GemCutModel" "layers" "I" ∈ TB) (hd : decode cc pc = .ok (.getfield idx, 3)) (kk : G wM X k n (pc + 3) ls (.int (σ (0) 3) :: st) σ) : G wM X k n pc ls (.ref (gA X (0)) :: st) σ := g_get hC iw_X6 rfl (by decide) (me_Model _ _) 3 (by decide) hlk rfl hd kk
theorem mp_Model_layers {l : Launch} {X : gC} {cc : ByteArray} {own : String} {dd ca sa k n pc : Nat} {ls : List (Option Value)} {st : List Value} {σ : Mem} {idx : Nat} {x : Int32}  (hC : gOk wM l X cc own dd ca sa)  (hlk : Cond.fieldLink own idx "GemCutModel" "layers" "I" ∈ TB) (hd : decode cc pc = .ok (.putfield idx, 3)) (kk : G wM X k n (pc + 3) ls st (upd2 σ (0) 3 x)) : G wM X k n pc ls (.int x :: .ref (gA X (0)) :: st) σ := g_put (ty := .int) tyX6 hC iw_X6 tyX6_ok nmX6 rfl (by decide) (me_Model _ _) 3 (by decide) hlk rfl (by decide +kernel) rfl rfl (Nat.le_of_ble_eq_true rfl) (by rw [me_Model _ _]; rfl) hd kk
theorem mg_Model_cells {l : Launch} {X : gC} {cc : ByteArray} {own : String} {dd ca sa k n pc : Nat} {ls : List (Option Value)} {st : List Value} {σ : Mem} {idx : Nat}  (hC : gOk wM l X cc own dd ca sa)  (hlk : Cond.fieldLink own idx "GemCutModel" "cells" "[I" ∈ TB) (hd : decode cc pc = .ok (.getfield idx, 3)) (kk : G wM X k n (pc + 3) ls (.ref (gA X (1)) :: st) σ) : G wM X k n pc ls (.ref (gA X (0)) :: st) σ := g_get hC iw_X6 rfl (by decide) (me_Model _ _) 4 (by decide) hlk rfl hd kk
theorem mg_Model_flaws {l : Launch} {X : gC} {cc : ByteArray} {own : String} {dd ca sa k n pc : Nat} {ls : List (Option Value)} {st : List Value} {σ : Mem} {idx : Nat}  (hC : gOk wM l X cc own dd ca sa)  (hlk : Cond.fieldLink own idx "GemCutModel" "flaws" "I" ∈ TB) (hd : decode cc pc = .ok (.getfield idx, 3)) (kk : G wM X k n (pc + 3) ls (.int (σ (0) 5) :: st) σ) : G wM X k n pc ls (.ref (gA X (0)) :: st) σ := g_get hC iw_X6 rfl (by decide) (me_Model _ _) 5 (by decide) hlk rfl hd kk
theorem mp_Model_flaws {l : Launch} {X : gC} {cc : ByteArray} {own : String} {dd ca sa k n pc : Nat} {ls : List (Option Value)} {st : List Value} {σ : Mem} {idx : Nat} {x : Int32}  (hC : gOk wM l X cc own dd ca sa)  (hlk : Cond.fieldLink own idx "GemCutModel" "flaws" "I" ∈ TB) (hd : decode cc pc = .ok (.putfield idx, 3)) (kk : G wM X k n (pc + 3) ls st (upd2 σ (0) 5 x)) : G wM X k n pc ls (.int x :: .ref (gA X (0)) :: st) σ := g_put (ty := .int) tyX6 hC iw_X6 tyX6_ok nmX6 rfl (by decide) (me_Model _ _) 5 (by decide) hlk rfl (by decide +kernel) rfl rfl (Nat.le_of_ble_eq_true rfl) (by rw [me_Model _ _]; rfl) hd kk
theorem mg_Model_flawTable {l : Launch} {X : gC} {cc : ByteArray} {own : String} {dd ca sa k n pc : Nat} {ls : List (Option Value)} {st : List Value} {σ : Mem} {idx : Nat}  (hC : gOk wM l X cc own dd ca sa)  (hlk : Cond.fieldLink own idx "GemCutModel" "flawTable" "[I" ∈ TB) (hd : decode cc pc = .ok (.getfield idx, 3)) (kk : G wM X k n (pc + 3) ls (.ref (gA X (2)) :: st) σ) : G wM X k n pc ls (.ref (gA X (0)) :: st) σ := g_get hC iw_X6 rfl (by decide) (me_Model _ _) 6 (by decide) hlk rfl hd kk
theorem mg_Model_stones {l : Launch} {X : gC} {cc : ByteArray} {own : String} {dd ca sa k n pc : Nat} {ls : List (Option Value)} {st : List Value} {σ : Mem} {idx : Nat}  (hC : gOk wM l X cc own dd ca sa)  (hlk : Cond.fieldLink own idx "GemCutModel" "stones" "I" ∈ TB) (hd : decode cc pc = .ok (.getfield idx, 3)) (kk : G wM X k n (pc + 3) ls (.int (σ (0) 7) :: st) σ) : G wM X k n pc ls (.ref (gA X (0)) :: st) σ := g_get hC iw_X6 rfl (by decide) (me_Model _ _) 7 (by decide) hlk rfl hd kk
theorem mp_Model_stones {l : Launch} {X : gC} {cc : ByteArray} {own : String} {dd ca sa k n pc : Nat} {ls : List (Option Value)} {st : List Value} {σ : Mem} {idx : Nat} {x : Int32}  (hC : gOk wM l X cc own dd ca sa)  (hlk : Cond.fieldLink own idx "GemCutModel" "stones" "I" ∈ TB) (hd : decode cc pc = .ok (.putfield idx, 3)) (kk : G wM X k n (pc + 3) ls st (upd2 σ (0) 7 x)) : G wM X k n pc ls (.int x :: .ref (gA X (0)) :: st) σ := g_put (ty := .int) tyX6 hC iw_X6 tyX6_ok nmX6 rfl (by decide) (me_Model _ _) 7 (by decide) hlk rfl (by decide +kernel) rfl rfl (Nat.le_of_ble_eq_true rfl) (by rw [me_Model _ _]; rfl) hd kk
theorem mg_Model_planeTable {l : Launch} {X : gC} {cc : ByteArray} {own : String} {dd ca sa k n pc : Nat} {ls : List (Option Value)} {st : List Value} {σ : Mem} {idx : Nat}  (hC : gOk wM l X cc own dd ca sa)  (hlk : Cond.fieldLink own idx "GemCutModel" "planeTable" "[I" ∈ TB) (hd : decode cc pc = .ok (.getfield idx, 3)) (kk : G wM X k n (pc + 3) ls (.ref (gA X (3)) :: st) σ) : G wM X k n pc ls (.ref (gA X (0)) :: st) σ := g_get hC iw_X6 rfl (by decide) (me_Model _ _) 8 (by decide) hlk rfl hd kk
theorem mg_Model_many {l : Launch} {X : gC} {cc : ByteArray} {own : String} {dd ca sa k n pc : Nat} {ls : List (Option Value)} {st : List Value} {σ : Mem} {idx : Nat}  (hC : gOk wM l X cc own dd ca sa)  (hlk : Cond.fieldLink own idx "GemCutModel" "many" "[I" ∈ TB) (hd : decode cc pc = .ok (.getfield idx, 3)) (kk : G wM X k n (pc + 3) ls (.ref (gA X (4)) :: st) σ) : G wM X k n pc ls (.ref (gA X (0)) :: st) σ := g_get hC iw_X6 rfl (by decide) (me_Model _ _) 9 (by decide) hlk rfl hd kk
theorem mg_Model_wheel {l : Launch} {X : gC} {cc : ByteArray} {own : String} {dd ca sa k n pc : Nat} {ls : List (Option Value)} {st : List Value} {σ : Mem} {idx : Nat}  (hC : gOk wM l X cc own dd ca sa)  (hlk : Cond.fieldLink own idx "GemCutModel" "wheel" "I" ∈ TB) (hd : decode cc pc = .ok (.getfield idx, 3)) (kk : G wM X k n (pc + 3) ls (.int (σ (0) 10) :: st) σ) : G wM X k n pc ls (.ref (gA X (0)) :: st) σ := g_get hC iw_X6 rfl (by decide) (me_Model _ _) 10 (by decide) hlk rfl hd kk
theorem mp_Model_wheel {l : Launch} {X : gC} {cc : ByteArray} {own : String} {dd ca sa k n pc : Nat} {ls : List (Option Value)} {st : List Value} {σ : Mem} {idx : Nat} {x : Int32}  (hC : gOk wM l X cc own dd ca sa)  (hlk : Cond.fieldLink own idx "GemCutModel" "wheel" "I" ∈ TB) (hd : decode cc pc = .ok (.putfield idx, 3)) (kk : G wM X k n (pc + 3) ls st (upd2 σ (0) 10 x)) : G wM X k n pc ls (.int x :: .ref (gA X (0)) :: st) σ := g_put (ty := .int) tyX6 hC iw_X6 tyX6_ok nmX6 rfl (by decide) (me_Model _ _) 10 (by decide) hlk rfl (by decide +kernel) rfl rfl (Nat.le_of_ble_eq_true rfl) (by rw [me_Model _ _]; rfl) hd kk
theorem mg_Model_spent {l : Launch} {X : gC} {cc : ByteArray} {own : String} {dd ca sa k n pc : Nat} {ls : List (Option Value)} {st : List Value} {σ : Mem} {idx : Nat}  (hC : gOk wM l X cc own dd ca sa)  (hlk : Cond.fieldLink own idx "GemCutModel" "spent" "I" ∈ TB) (hd : decode cc pc = .ok (.getfield idx, 3)) (kk : G wM X k n (pc + 3) ls (.int (σ (0) 11) :: st) σ) : G wM X k n pc ls (.ref (gA X (0)) :: st) σ := g_get hC iw_X6 rfl (by decide) (me_Model _ _) 11 (by decide) hlk rfl hd kk
theorem mp_Model_spent {l : Launch} {X : gC} {cc : ByteArray} {own : String} {dd ca sa k n pc : Nat} {ls : List (Option Value)} {st : List Value} {σ : Mem} {idx : Nat} {x : Int32}  (hC : gOk wM l X cc own dd ca sa)  (hlk : Cond.fieldLink own idx "GemCutModel" "spent" "I" ∈ TB) (hd : decode cc pc = .ok (.putfield idx, 3)) (kk : G wM X k n (pc + 3) ls st (upd2 σ (0) 11 x)) : G wM X k n pc ls (.int x :: .ref (gA X (0)) :: st) σ := g_put (ty := .int) tyX6 hC iw_X6 tyX6_ok nmX6 rfl (by decide) (me_Model _ _) 11 (by decide) hlk rfl (by decide +kernel) rfl rfl (Nat.le_of_ble_eq_true rfl) (by rw [me_Model _ _]; rfl) hd kk
theorem ml_cells {l : Launch} {X : gC} {cc : ByteArray} {own : String} {dd ca sa k n pc : Nat} {ls : List (Option Value)} {st : List Value} {σ : Mem} {x : Int32} (j : Nat)  (hC : gOk wM l X cc own dd ca sa)  (hx0 : x = nI j) (hj : j < 1000) (hd : decode cc pc = .ok (.iaload, 1)) (kk : G wM X k n (pc + 1) ls (.int (σ (1) j) :: st) σ) : G wM X k n pc ls (.int x :: .ref (gA X (1)) :: st) σ := g_iald hC (by decide) (me_cells _ _) hx0 hj (by decide) hd kk
theorem ms_cells {l : Launch} {X : gC} {cc : ByteArray} {own : String} {dd ca sa k n pc : Nat} {ls : List (Option Value)} {st : List Value} {σ : Mem} {x y : Int32} (j : Nat)  (hC : gOk wM l X cc own dd ca sa)  (hx0 : x = nI j) (hj : j < 1000) (hd : decode cc pc = .ok (.iastore, 1)) (kk : G wM X k n (pc + 1) ls st (upd2 σ (1) j y)) : G wM X k n pc ls (.int y :: .int x :: .ref (gA X (1)) :: st) σ := g_iast hC (by decide) (me_cells _ _) hx0 hj (by decide) (me_cells _ _) hd kk
theorem ml_flawTable {l : Launch} {X : gC} {cc : ByteArray} {own : String} {dd ca sa k n pc : Nat} {ls : List (Option Value)} {st : List Value} {σ : Mem} {x : Int32} (j : Nat)  (hC : gOk wM l X cc own dd ca sa)  (hx0 : x = nI j) (hj : j < 50) (hd : decode cc pc = .ok (.iaload, 1)) (kk : G wM X k n (pc + 1) ls (.int (σ (2) j) :: st) σ) : G wM X k n pc ls (.int x :: .ref (gA X (2)) :: st) σ := g_iald hC (by decide) (me_flawTable _ _) hx0 hj (by decide) hd kk
theorem ms_flawTable {l : Launch} {X : gC} {cc : ByteArray} {own : String} {dd ca sa k n pc : Nat} {ls : List (Option Value)} {st : List Value} {σ : Mem} {x y : Int32} (j : Nat)  (hC : gOk wM l X cc own dd ca sa)  (hx0 : x = nI j) (hj : j < 50) (hd : decode cc pc = .ok (.iastore, 1)) (kk : G wM X k n (pc + 1) ls st (upd2 σ (2) j y)) : G wM X k n pc ls (.int y :: .int x :: .ref (gA X (2)) :: st) σ := g_iast hC (by decide) (me_flawTable _ _) hx0 hj (by decide) (me_flawTable _ _) hd kk
theorem ml_planeTable {l : Launch} {X : gC} {cc : ByteArray} {own : String} {dd ca sa k n pc : Nat} {ls : List (Option Value)} {st : List Value} {σ : Mem} {x : Int32} (j : Nat)  (hC : gOk wM l X cc own dd ca sa)  (hx0 : x = nI j) (hj : j < 680) (hd : decode cc pc = .ok (.iaload, 1)) (kk : G wM X k n (pc + 1) ls (.int (σ (3) j) :: st) σ) : G wM X k n pc ls (.int x :: .ref (gA X (3)) :: st) σ := g_iald hC (by decide) (me_planeTable _ _) hx0 hj (by decide) hd kk
theorem ms_planeTable {l : Launch} {X : gC} {cc : ByteArray} {own : String} {dd ca sa k n pc : Nat} {ls : List (Option Value)} {st : List Value} {σ : Mem} {x y : Int32} (j : Nat)  (hC : gOk wM l X cc own dd ca sa)  (hx0 : x = nI j) (hj : j < 680) (hd : decode cc pc = .ok (.iastore, 1)) (kk : G wM X k n (pc + 1) ls st (upd2 σ (3) j y)) : G wM X k n pc ls (.int y :: .int x :: .ref (gA X (3)) :: st) σ := g_iast hC (by decide) (me_planeTable _ _) hx0 hj (by decide) (me_planeTable _ _) hd kk
theorem ml_many {l : Launch} {X : gC} {cc : ByteArray} {own : String} {dd ca sa k n pc : Nat} {ls : List (Option Value)} {st : List Value} {σ : Mem} {x : Int32} (j : Nat)  (hC : gOk wM l X cc own dd ca sa)  (hx0 : x = nI j) (hj : j < 8) (hd : decode cc pc = .ok (.iaload, 1)) (kk : G wM X k n (pc + 1) ls (.int (σ (4) j) :: st) σ) : G wM X k n pc ls (.int x :: .ref (gA X (4)) :: st) σ := g_iald hC (by decide) (me_many _ _) hx0 hj (by decide) hd kk
theorem ms_many {l : Launch} {X : gC} {cc : ByteArray} {own : String} {dd ca sa k n pc : Nat} {ls : List (Option Value)} {st : List Value} {σ : Mem} {x y : Int32} (j : Nat)  (hC : gOk wM l X cc own dd ca sa)  (hx0 : x = nI j) (hj : j < 8) (hd : decode cc pc = .ok (.iastore, 1)) (kk : G wM X k n (pc + 1) ls st (upd2 σ (4) j y)) : G wM X k n pc ls (.int y :: .int x :: .ref (gA X (4)) :: st) σ := g_iast hC (by decide) (me_many _ _) hx0 hj (by decide) (me_many _ _) hd kk
end
