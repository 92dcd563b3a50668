/-! the tables' words that serve everywhere -/
def TB : List Cond := (k2_sels lw_privs ++ tables_1).filter goodWord
theorem tb_of {w : Cond} (h : w ∈ tables_1) (g : goodWord w = true) : w ∈ TB := List.mem_filter.mpr ⟨List.mem_append_right _ h, g⟩
theorem tb1 {w : Cond} (i : Nat) (h : tables_1_1[i]? = some w) (g : goodWord w = true) : w ∈ TB := tb_of (List.mem_append_left _ (List.mem_of_getElem? h)) g
theorem tb2 {w : Cond} (i : Nat) (h : tables_1_2[i]? = some w) (g : goodWord w = true) : w ∈ TB := tb_of (List.mem_append_right _ (List.mem_append_left _ (List.mem_of_getElem? h))) g
theorem tb3 {w : Cond} (i : Nat) (h : tables_1_3[i]? = some w) (g : goodWord w = true) : w ∈ TB := tb_of (List.mem_append_right _ (List.mem_append_right _ (List.mem_append_left _ (List.mem_of_getElem? h)))) g
theorem tb4 {w : Cond} (i : Nat) (h : tables_1_4[i]? = some w) (g : goodWord w = true) : w ∈ TB := tb_of (List.mem_append_right _ (List.mem_append_right _ (List.mem_append_right _ (List.mem_append_left _ (List.mem_of_getElem? h))))) g
theorem tb5 {w : Cond} (i : Nat) (h : tables_1_5[i]? = some w) (g : goodWord w = true) : w ∈ TB := tb_of (List.mem_append_right _ (List.mem_append_right _ (List.mem_append_right _ (List.mem_append_right _ (List.mem_of_getElem? h))))) g
theorem tbs1 {y : MethodName} {n : Nat} (i : Nat) (h : lw_privs_1[i]? = some (y, n)) : Cond.selects y.cls y y ∈ TB := List.mem_filter.mpr ⟨List.mem_append_left _ (List.mem_map.mpr ⟨(y, n), List.mem_append_left _ (List.mem_of_getElem? h), rfl⟩), rfl⟩
theorem tbs2 {y : MethodName} {n : Nat} (i : Nat) (h : lw_privs_2[i]? = some (y, n)) : Cond.selects y.cls y y ∈ TB := List.mem_filter.mpr ⟨List.mem_append_left _ (List.mem_map.mpr ⟨(y, n), List.mem_append_right _ (List.mem_append_left _ (List.mem_of_getElem? h)), rfl⟩), rfl⟩
theorem tbs3 {y : MethodName} {n : Nat} (i : Nat) (h : lw_privs_3[i]? = some (y, n)) : Cond.selects y.cls y y ∈ TB := List.mem_filter.mpr ⟨List.mem_append_left _ (List.mem_map.mpr ⟨(y, n), List.mem_append_right _ (List.mem_append_right _ (List.mem_append_left _ (List.mem_of_getElem? h))), rfl⟩), rfl⟩
theorem tbs4 {y : MethodName} {n : Nat} (i : Nat) (h : lw_privs_4[i]? = some (y, n)) : Cond.selects y.cls y y ∈ TB := List.mem_filter.mpr ⟨List.mem_append_left _ (List.mem_map.mpr ⟨(y, n), List.mem_append_right _ (List.mem_append_right _ (List.mem_append_right _ (List.mem_of_getElem? h))), rfl⟩), rfl⟩
theorem tw_1_0 : Cond.initialized "GemCutLaw" ∈ TB := tb1 0 rfl rfl
theorem tw_1_1 : Cond.initialized "GemCut" ∈ TB := tb1 1 rfl rfl
theorem tw_1_2 : Cond.initialized "GemCut$Rough" ∈ TB := tb1 2 rfl rfl
theorem tw_1_3 : Cond.initialized "GemCut$Flaw" ∈ TB := tb1 3 rfl rfl
theorem tw_1_4 : Cond.initialized "GemCut$Stone" ∈ TB := tb1 4 rfl rfl
theorem tw_1_5 : Cond.initialized "GemCut$Plane" ∈ TB := tb1 5 rfl rfl
theorem tw_1_6 : Cond.initialized "GemCut$Trial" ∈ TB := tb1 6 rfl rfl
theorem tw_1_7 : Cond.initialized "GemCutModel" ∈ TB := tb1 7 rfl rfl
theorem tw_1_8 : Cond.initialized "java/lang/Throwable" ∈ TB := tb1 8 rfl rfl
theorem tw_1_9 : Cond.initialized "java/lang/Exception" ∈ TB := tb1 9 rfl rfl
theorem tw_1_10 : Cond.initialized "java/lang/RuntimeException" ∈ TB := tb1 10 rfl rfl
theorem tw_1_11 : Cond.initialized "java/lang/IllegalArgumentException" ∈ TB := tb1 11 rfl rfl
theorem tw_1_12 : Cond.initialized "java/lang/IndexOutOfBoundsException" ∈ TB := tb1 12 rfl rfl
theorem tw_1_13 : Cond.initialized "java/lang/IllegalStateException" ∈ TB := tb1 13 rfl rfl
theorem tw_1_14 : Cond.initialized "java/lang/Math" ∈ TB := tb1 14 rfl rfl
theorem tw_1_15 : Cond.initialized "java/lang/System" ∈ TB := tb1 15 rfl rfl
theorem tw_1_16 : Cond.classLink "GemCutLaw" 8 "GemCut" ∈ TB := tb1 16 rfl rfl
theorem tw_1_17 : Cond.instantiable "GemCut" 6 ∈ TB := tb1 17 rfl rfl
theorem tw_1_18 : Cond.methodLink "GemCutLaw" 63 yX5_init ∈ TB := tb1 18 rfl rfl
theorem tw_1_19 : Cond.instanceMethod yX5_init ∈ TB := tb1 19 rfl rfl
theorem tw_1_20 : Cond.code yX5_init cX5_init 2 none ∈ TB := tb1 20 rfl rfl
theorem tw_1_21 : Cond.methodLink "GemCut" 1 ⟨"java/lang/Object", "<init>", "()V"⟩ ∈ TB := tb1 21 rfl rfl
theorem tw_1_22 : Cond.instanceMethod ⟨"java/lang/Object", "<init>", "()V"⟩ ∈ TB := tb1 22 rfl rfl
theorem tw_1_23 : Cond.code ⟨"java/lang/Object", "<init>", "()V"⟩ object_method_1_code 1 none ∈ TB := tb1 23 rfl rfl
theorem tw_1_24 : Cond.classLink "GemCut" 7 "GemCut$Rough" ∈ TB := tb1 24 rfl rfl
theorem tw_1_25 : Cond.instantiable "GemCut$Rough" 7 ∈ TB := tb1 25 rfl rfl
theorem tw_1_26 : Cond.methodLink "GemCut" 9 yX2_init ∈ TB := tb1 26 rfl rfl
theorem tw_1_27 : Cond.instanceMethod yX2_init ∈ TB := tb1 27 rfl rfl
theorem tw_1_28 : Cond.code yX2_init cX2_init 2 none ∈ TB := tb1 28 rfl rfl
theorem tw_1_29 : Cond.methodLink "GemCut$Rough" 3 ⟨"java/lang/Object", "<init>", "()V"⟩ ∈ TB := tb1 29 rfl rfl
theorem tw_1_30 : Cond.classLink "GemCut$Rough" 19 "GemCut$Flaw" ∈ TB := tb1 30 rfl rfl
theorem tw_1_32 : Cond.instantiable "GemCut$Flaw" 5 ∈ TB := tb1 32 rfl rfl
theorem tw_1_34 : Cond.instanceMethod yX0_init ∈ TB := tb1 34 rfl rfl
theorem tw_1_35 : Cond.code yX0_init cX0_init 1 none ∈ TB := tb1 35 rfl rfl
theorem tw_1_36 : Cond.methodLink "GemCut$Flaw" 3 ⟨"java/lang/Object", "<init>", "()V"⟩ ∈ TB := tb1 36 rfl rfl
theorem tw_1_37 : Cond.fieldLink "GemCut$Flaw" 21 "GemCut$Flaw" "severity" "I" ∈ TB := tb1 37 rfl rfl
theorem tw_1_38 : Cond.fieldLink "GemCut$Flaw" 9 "GemCut$Flaw" "cells" "[I" ∈ TB := tb1 38 rfl rfl
theorem tw_1_39 : Cond.fieldLink "GemCut$Trial" 126 "GemCut$Flaw" "cells" "[I" ∈ TB := tb1 39 rfl rfl
theorem tw_1_40 : Cond.fieldLink "GemCut$Flaw" 25 "GemCut$Flaw" "cellCount" "I" ∈ TB := tb1 40 rfl rfl
theorem tw_1_41 : Cond.fieldLink "GemCut$Trial" 121 "GemCut$Flaw" "cellCount" "I" ∈ TB := tb1 41 rfl rfl
theorem tw_1_42 : Cond.fieldLink "GemCut$Flaw" 15 "GemCut$Flaw" "cellsIn" "[I" ∈ TB := tb1 42 rfl rfl
theorem tw_1_43 : Cond.fieldLink "GemCut" 275 "GemCut$Flaw" "cellsIn" "[I" ∈ TB := tb1 43 rfl rfl
theorem tw_1_44 : Cond.fieldLink "GemCut$Flaw" 18 "GemCut$Flaw" "bareIn" "[I" ∈ TB := tb1 44 rfl rfl
theorem tw_1_45 : Cond.fieldLink "GemCut" 278 "GemCut$Flaw" "bareIn" "[I" ∈ TB := tb1 45 rfl rfl
theorem tw_1_46 : Cond.lays "GemCut$Flaw" "GemCut$Flaw" "severity" "I" ∈ TB := tb1 46 rfl rfl
theorem tw_1_48 : Cond.laysFinal "GemCut$Flaw" "GemCut$Flaw" "cells" "[I" ∈ TB := tb1 48 rfl rfl
theorem tw_1_50 : Cond.lays "GemCut$Flaw" "GemCut$Flaw" "cellCount" "I" ∈ TB := tb1 50 rfl rfl
theorem tw_1_52 : Cond.laysFinal "GemCut$Flaw" "GemCut$Flaw" "cellsIn" "[I" ∈ TB := tb1 52 rfl rfl
theorem tw_1_54 : Cond.laysFinal "GemCut$Flaw" "GemCut$Flaw" "bareIn" "[I" ∈ TB := tb1 54 rfl rfl
theorem tw_1_59 : Cond.fieldLink "GemCut$Rough" 26 "GemCut$Rough" "columns" "I" ∈ TB := tb1 59 rfl rfl
theorem tw_1_60 : Cond.fieldLink "GemCut$Trial" 49 "GemCut$Rough" "columns" "I" ∈ TB := tb1 60 rfl rfl
theorem tw_1_61 : Cond.fieldLink "GemCut" 254 "GemCut$Rough" "columns" "I" ∈ TB := tb1 61 rfl rfl
theorem tw_1_62 : Cond.fieldLink "GemCut$Rough" 30 "GemCut$Rough" "rows" "I" ∈ TB := tb1 62 rfl rfl
theorem tw_1_63 : Cond.fieldLink "GemCut$Trial" 46 "GemCut$Rough" "rows" "I" ∈ TB := tb1 63 rfl rfl
theorem tw_1_64 : Cond.fieldLink "GemCut" 251 "GemCut$Rough" "rows" "I" ∈ TB := tb1 64 rfl rfl
theorem tw_1_65 : Cond.fieldLink "GemCut$Rough" 33 "GemCut$Rough" "layers" "I" ∈ TB := tb1 65 rfl rfl
theorem tw_1_66 : Cond.fieldLink "GemCut$Trial" 40 "GemCut$Rough" "layers" "I" ∈ TB := tb1 66 rfl rfl
theorem tw_1_67 : Cond.fieldLink "GemCut" 248 "GemCut$Rough" "layers" "I" ∈ TB := tb1 67 rfl rfl
theorem tw_1_68 : Cond.fieldLink "GemCut$Rough" 9 "GemCut$Rough" "owner" "[I" ∈ TB := tb1 68 rfl rfl
theorem tw_1_69 : Cond.fieldLink "GemCut$Trial" 60 "GemCut$Rough" "owner" "[I" ∈ TB := tb1 69 rfl rfl
theorem tw_1_70 : Cond.fieldLink "GemCut$Flaw" 28 "GemCut$Rough" "owner" "[I" ∈ TB := tb1 70 rfl rfl
theorem tw_1_71 : Cond.fieldLink "GemCut" 207 "GemCut$Rough" "owner" "[I" ∈ TB := tb1 71 rfl rfl
theorem tw_1_72 : Cond.fieldLink "GemCut$Rough" 15 "GemCut$Rough" "bare" "[Z" ∈ TB := tb1 72 rfl rfl
theorem tw_1_73 : Cond.fieldLink "GemCut$Flaw" 33 "GemCut$Rough" "bare" "[Z" ∈ TB := tb1 73 rfl rfl
theorem tw_1_74 : Cond.fieldLink "GemCut$Trial" 129 "GemCut$Rough" "bare" "[Z" ∈ TB := tb1 74 rfl rfl
theorem tw_1_75 : Cond.fieldLink "GemCut" 267 "GemCut$Rough" "bare" "[Z" ∈ TB := tb1 75 rfl rfl
theorem tw_1_76 : Cond.fieldLink "GemCut$Rough" 21 "GemCut$Rough" "flaws" "[LGemCut$Flaw;" ∈ TB := tb1 76 rfl rfl
theorem tw_1_77 : Cond.fieldLink "GemCut$Trial" 136 "GemCut$Rough" "flaws" "[LGemCut$Flaw;" ∈ TB := tb1 77 rfl rfl
theorem tw_1_78 : Cond.fieldLink "GemCut" 187 "GemCut$Rough" "flaws" "[LGemCut$Flaw;" ∈ TB := tb1 78 rfl rfl
theorem tw_1_79 : Cond.fieldLink "GemCut$Rough" 36 "GemCut$Rough" "flawCount" "I" ∈ TB := tb1 79 rfl rfl
theorem tw_1_80 : Cond.fieldLink "GemCut" 58 "GemCut$Rough" "flawCount" "I" ∈ TB := tb1 80 rfl rfl
theorem tw_1_81 : Cond.fieldLink "GemCut$Trial" 133 "GemCut$Rough" "flawCount" "I" ∈ TB := tb1 81 rfl rfl
theorem tw_1_82 : Cond.lays "GemCut$Rough" "GemCut$Rough" "columns" "I" ∈ TB := tb1 82 rfl rfl
theorem tw_1_84 : Cond.lays "GemCut$Rough" "GemCut$Rough" "rows" "I" ∈ TB := tb1 84 rfl rfl
theorem tw_1_86 : Cond.lays "GemCut$Rough" "GemCut$Rough" "layers" "I" ∈ TB := tb1 86 rfl rfl
theorem tw_1_88 : Cond.laysFinal "GemCut$Rough" "GemCut$Rough" "owner" "[I" ∈ TB := tb1 88 rfl rfl
theorem tw_1_90 : Cond.laysFinal "GemCut$Rough" "GemCut$Rough" "bare" "[Z" ∈ TB := tb1 90 rfl rfl
theorem tw_1_92 : Cond.laysFinal "GemCut$Rough" "GemCut$Rough" "flaws" "[LGemCut$Flaw;" ∈ TB := tb1 92 rfl rfl
theorem tw_1_94 : Cond.lays "GemCut$Rough" "GemCut$Rough" "flawCount" "I" ∈ TB := tb1 94 rfl rfl
theorem tw_1_97 : Cond.classLink "GemCut" 16 "GemCut$Stone" ∈ TB := tb1 97 rfl rfl
theorem tw_1_99 : Cond.instantiable "GemCut$Stone" 5 ∈ TB := tb1 99 rfl rfl
theorem tw_1_100 : Cond.methodLink "GemCut" 22 yX3_init ∈ TB := tb1 100 rfl rfl
theorem tw_1_101 : Cond.instanceMethod yX3_init ∈ TB := tb1 101 rfl rfl
theorem tw_1_102 : Cond.code yX3_init cX3_init 3 none ∈ TB := tb1 102 rfl rfl
theorem tw_1_103 : Cond.methodLink "GemCut$Stone" 3 ⟨"java/lang/Object", "<init>", "()V"⟩ ∈ TB := tb1 103 rfl rfl
theorem tw_1_104 : Cond.classLink "GemCut$Stone" 9 "GemCut$Plane" ∈ TB := tb1 104 rfl rfl
theorem tw_1_106 : Cond.instantiable "GemCut$Plane" 7 ∈ TB := tb1 106 rfl rfl
theorem tw_1_108 : Cond.instanceMethod yX1_init ∈ TB := tb1 108 rfl rfl
theorem tw_1_109 : Cond.code yX1_init cX1_init 1 none ∈ TB := tb1 109 rfl rfl
theorem tw_1_110 : Cond.methodLink "GemCut$Plane" 1 ⟨"java/lang/Object", "<init>", "()V"⟩ ∈ TB := tb1 110 rfl rfl
theorem tw_1_111 : Cond.fieldLink "GemCut$Plane" 7 "GemCut$Plane" "p" "I" ∈ TB := tb1 111 rfl rfl
theorem tw_1_112 : Cond.fieldLink "GemCut$Plane" 13 "GemCut$Plane" "q" "I" ∈ TB := tb1 112 rfl rfl
theorem tw_1_113 : Cond.fieldLink "GemCut$Plane" 16 "GemCut$Plane" "r" "I" ∈ TB := tb1 113 rfl rfl
theorem tw_1_114 : Cond.fieldLink "GemCut$Plane" 19 "GemCut$Plane" "d" "I" ∈ TB := tb1 114 rfl rfl
theorem tw_1_115 : Cond.fieldLink "GemCut$Plane" 32 "GemCut$Plane" "reach" "I" ∈ TB := tb1 115 rfl rfl
theorem tw_1_116 : Cond.fieldLink "GemCut$Trial" 103 "GemCut$Plane" "reach" "I" ∈ TB := tb1 116 rfl rfl
theorem tw_1_117 : Cond.fieldLink "GemCut$Plane" 35 "GemCut$Plane" "polished" "Z" ∈ TB := tb1 117 rfl rfl
theorem tw_1_118 : Cond.fieldLink "GemCut$Stone" 46 "GemCut$Plane" "polished" "Z" ∈ TB := tb1 118 rfl rfl
theorem tw_1_119 : Cond.fieldLink "GemCut" 150 "GemCut$Plane" "polished" "Z" ∈ TB := tb1 119 rfl rfl
theorem tw_1_120 : Cond.fieldLink "GemCut$Trial" 117 "GemCut$Plane" "polished" "Z" ∈ TB := tb1 120 rfl rfl
theorem tw_1_121 : Cond.fieldLink "GemCut$Plane" 39 "GemCut$Plane" "touching" "I" ∈ TB := tb1 121 rfl rfl
theorem tw_1_122 : Cond.fieldLink "GemCut$Stone" 31 "GemCut$Plane" "touching" "I" ∈ TB := tb1 122 rfl rfl
theorem tw_1_123 : Cond.fieldLink "GemCut" 141 "GemCut$Plane" "touching" "I" ∈ TB := tb1 123 rfl rfl
theorem tw_1_124 : Cond.lays "GemCut$Plane" "GemCut$Plane" "p" "I" ∈ TB := tb1 124 rfl rfl
theorem tw_1_126 : Cond.lays "GemCut$Plane" "GemCut$Plane" "q" "I" ∈ TB := tb1 126 rfl rfl
theorem tw_1_128 : Cond.lays "GemCut$Plane" "GemCut$Plane" "r" "I" ∈ TB := tb1 128 rfl rfl
theorem tw_1_130 : Cond.lays "GemCut$Plane" "GemCut$Plane" "d" "I" ∈ TB := tb1 130 rfl rfl
theorem tw_1_132 : Cond.lays "GemCut$Plane" "GemCut$Plane" "reach" "I" ∈ TB := tb1 132 rfl rfl
theorem tw_1_134 : Cond.lays "GemCut$Plane" "GemCut$Plane" "polished" "Z" ∈ TB := tb1 134 rfl rfl
theorem tw_1_136 : Cond.lays "GemCut$Plane" "GemCut$Plane" "touching" "I" ∈ TB := tb1 136 rfl rfl
theorem tw_1_139 : Cond.fieldLink "GemCut$Stone" 17 "GemCut$Stone" "number" "I" ∈ TB := tb1 139 rfl rfl
theorem tw_1_140 : Cond.fieldLink "GemCut$Trial" 63 "GemCut$Stone" "number" "I" ∈ TB := tb1 140 rfl rfl
theorem tw_1_141 : Cond.fieldLink "GemCut" 288 "GemCut$Stone" "number" "I" ∈ TB := tb1 141 rfl rfl
theorem tw_1_142 : Cond.fieldLink "GemCut$Stone" 11 "GemCut$Stone" "planes" "[LGemCut$Plane;" ∈ TB := tb1 142 rfl rfl
theorem tw_1_143 : Cond.fieldLink "GemCut$Trial" 78 "GemCut$Stone" "planes" "[LGemCut$Plane;" ∈ TB := tb1 143 rfl rfl
theorem tw_1_144 : Cond.fieldLink "GemCut" 137 "GemCut$Stone" "planes" "[LGemCut$Plane;" ∈ TB := tb1 144 rfl rfl
theorem tw_1_145 : Cond.fieldLink "GemCut$Stone" 22 "GemCut$Stone" "planeCount" "I" ∈ TB := tb1 145 rfl rfl
theorem tw_1_146 : Cond.fieldLink "GemCut$Trial" 75 "GemCut$Stone" "planeCount" "I" ∈ TB := tb1 146 rfl rfl
theorem tw_1_147 : Cond.fieldLink "GemCut" 119 "GemCut$Stone" "planeCount" "I" ∈ TB := tb1 147 rfl rfl
theorem tw_1_148 : Cond.fieldLink "GemCut$Stone" 25 "GemCut$Stone" "weight" "I" ∈ TB := tb1 148 rfl rfl
theorem tw_1_149 : Cond.fieldLink "GemCut" 105 "GemCut$Stone" "weight" "I" ∈ TB := tb1 149 rfl rfl
theorem tw_1_150 : Cond.fieldLink "GemCut$Trial" 92 "GemCut$Stone" "weight" "I" ∈ TB := tb1 150 rfl rfl
theorem tw_1_151 : Cond.fieldLink "GemCut$Stone" 28 "GemCut$Stone" "bareCells" "I" ∈ TB := tb1 151 rfl rfl
theorem tw_1_152 : Cond.fieldLink "GemCut" 299 "GemCut$Stone" "bareCells" "I" ∈ TB := tb1 152 rfl rfl
theorem tw_1_153 : Cond.laysFinal "GemCut$Stone" "GemCut$Stone" "number" "I" ∈ TB := tb1 153 rfl rfl
theorem tw_1_155 : Cond.laysFinal "GemCut$Stone" "GemCut$Stone" "planes" "[LGemCut$Plane;" ∈ TB := tb1 155 rfl rfl
theorem tw_1_157 : Cond.lays "GemCut$Stone" "GemCut$Stone" "planeCount" "I" ∈ TB := tb1 157 rfl rfl
theorem tw_1_159 : Cond.lays "GemCut$Stone" "GemCut$Stone" "weight" "I" ∈ TB := tb1 159 rfl rfl
theorem tw_1_161 : Cond.lays "GemCut$Stone" "GemCut$Stone" "bareCells" "I" ∈ TB := tb1 161 rfl rfl
theorem tw_1_164 : Cond.classLink "GemCut" 25 "GemCut$Trial" ∈ TB := tb1 164 rfl rfl
theorem tw_1_165 : Cond.instantiable "GemCut$Trial" 6 ∈ TB := tb1 165 rfl rfl
theorem tw_1_166 : Cond.methodLink "GemCut" 27 yX4_init ∈ TB := tb1 166 rfl rfl
theorem tw_1_167 : Cond.instanceMethod yX4_init ∈ TB := tb1 167 rfl rfl
theorem tw_1_168 : Cond.code yX4_init cX4_init 3 none ∈ TB := tb1 168 rfl rfl
theorem tw_1_169 : Cond.methodLink "GemCut$Trial" 3 ⟨"java/lang/Object", "<init>", "()V"⟩ ∈ TB := tb1 169 rfl rfl
theorem tw_1_170 : Cond.classLink "GemCut$Trial" 9 "GemCut$Plane" ∈ TB := tb1 170 rfl rfl
theorem tw_1_172 : Cond.fieldLink "GemCut$Trial" 28 "GemCut$Trial" "rough" "LGemCut$Rough;" ∈ TB := tb1 172 rfl rfl
theorem tw_1_173 : Cond.fieldLink "GemCut$Trial" 32 "GemCut$Trial" "piece" "LGemCut$Stone;" ∈ TB := tb1 173 rfl rfl
theorem tw_1_174 : Cond.fieldLink "GemCut$Trial" 12 "GemCut$Trial" "tried" "LGemCut$Plane;" ∈ TB := tb1 174 rfl rfl
theorem tw_1_175 : Cond.fieldLink "GemCut$Trial" 18 "GemCut$Trial" "heights" "[I" ∈ TB := tb1 175 rfl rfl
theorem tw_1_176 : Cond.fieldLink "GemCut$Trial" 22 "GemCut$Trial" "upTo" "[I" ∈ TB := tb1 176 rfl rfl
theorem tw_1_177 : Cond.fieldLink "GemCut$Trial" 25 "GemCut$Trial" "floors" "[I" ∈ TB := tb1 177 rfl rfl
theorem tw_1_178 : Cond.laysFinal "GemCut$Trial" "GemCut$Trial" "rough" "LGemCut$Rough;" ∈ TB := tb1 178 rfl rfl
theorem tw_1_180 : Cond.lays "GemCut$Trial" "GemCut$Trial" "piece" "LGemCut$Stone;" ∈ TB := tb1 180 rfl rfl
theorem tw_1_182 : Cond.laysFinal "GemCut$Trial" "GemCut$Trial" "tried" "LGemCut$Plane;" ∈ TB := tb1 182 rfl rfl
theorem tw_1_184 : Cond.laysFinal "GemCut$Trial" "GemCut$Trial" "heights" "[I" ∈ TB := tb1 184 rfl rfl
theorem tw_1_186 : Cond.laysFinal "GemCut$Trial" "GemCut$Trial" "upTo" "[I" ∈ TB := tb1 186 rfl rfl
theorem tw_1_188 : Cond.laysFinal "GemCut$Trial" "GemCut$Trial" "floors" "[I" ∈ TB := tb1 188 rfl rfl
theorem tw_1_191 : Cond.methodLink "GemCut" 34 yX5_beginRough ∈ TB := tb1 191 rfl rfl
theorem tw_1_193 : Cond.instanceMethod yX5_beginRough ∈ TB := tb1 193 rfl rfl
theorem tw_1_194 : Cond.code yX5_beginRough cX5_beginRough 4 none ∈ TB := tb1 194 rfl rfl
theorem tw_1_195 : Cond.methodLink "GemCut" 239 yX2_begin ∈ TB := tb1 195 rfl rfl
theorem tw_1_196 : Cond.instanceMethod yX2_begin ∈ TB := tb1 196 rfl rfl
theorem tw_1_197 : Cond.selects "GemCut$Rough" yX2_begin yX2_begin ∈ TB := tb1 197 rfl rfl
theorem tw_1_198 : Cond.code yX2_begin cX2_begin 6 none ∈ TB := tb1 198 rfl rfl
theorem tw_1_199 : Cond.methodLink "GemCut$Rough" 39 yX2_size ∈ TB := tb1 199 rfl rfl
theorem tw_1_200 : Cond.instanceMethod yX2_size ∈ TB := tb1 200 rfl rfl
theorem tw_1_201 : Cond.selects "GemCut$Rough" yX2_size yX2_size ∈ TB := tb1 201 rfl rfl
theorem tw_1_202 : Cond.code yX2_size cX2_size 1 (some FieldType.int) ∈ TB := tb1 202 rfl rfl
theorem tw_1_203 : Cond.methodLink "GemCut" 110 yX3_dropPlanes ∈ TB := tb1 203 rfl rfl
theorem tw_1_204 : Cond.instanceMethod yX3_dropPlanes ∈ TB := tb1 204 rfl rfl
theorem tw_1_205 : Cond.selects "GemCut$Stone" yX3_dropPlanes yX3_dropPlanes ∈ TB := tb1 205 rfl rfl
theorem tw_1_206 : Cond.code yX3_dropPlanes cX3_dropPlanes 1 none ∈ TB := tb1 206 rfl rfl
theorem tw_1_207 : Cond.methodLink "GemCut" 116 yX5_survey ∈ TB := tb1 207 rfl rfl
theorem tw_1_209 : Cond.instanceMethod yX5_survey ∈ TB := tb1 209 rfl rfl
theorem tw_1_210 : Cond.code yX5_survey cX5_survey 5 none ∈ TB := tb1 210 rfl rfl
theorem tw_1_211 : Cond.methodLink "GemCut" 245 yX3_forgetCells ∈ TB := tb1 211 rfl rfl
theorem tw_1_212 : Cond.instanceMethod yX3_forgetCells ∈ TB := tb1 212 rfl rfl
theorem tw_1_213 : Cond.selects "GemCut$Stone" yX3_forgetCells yX3_forgetCells ∈ TB := tb1 213 rfl rfl
theorem tw_1_214 : Cond.code yX3_forgetCells cX3_forgetCells 2 none ∈ TB := tb1 214 rfl rfl
theorem tw_1_215 : Cond.methodLink "GemCut" 257 yX5_surveyCell ∈ TB := tb1 215 rfl rfl
theorem tw_1_217 : Cond.instanceMethod yX5_surveyCell ∈ TB := tb1 217 rfl rfl
theorem tw_1_218 : Cond.code yX5_surveyCell cX5_surveyCell 7 none ∈ TB := tb1 218 rfl rfl
theorem tw_1_219 : Cond.methodLink "GemCut" 263 yX2_isBare ∈ TB := tb1 219 rfl rfl
theorem tw_1_220 : Cond.instanceMethod yX2_isBare ∈ TB := tb1 220 rfl rfl
theorem tw_1_221 : Cond.selects "GemCut$Rough" yX2_isBare yX2_isBare ∈ TB := tb1 221 rfl rfl
theorem tw_1_222 : Cond.code yX2_isBare cX2_isBare 5 (some FieldType.boolean) ∈ TB := tb1 222 rfl rfl
theorem tw_1_223 : Cond.methodLink "GemCut$Rough" 51 yX2_ownerAt ∈ TB := tb1 223 rfl rfl
theorem tw_1_224 : Cond.instanceMethod yX2_ownerAt ∈ TB := tb1 224 rfl rfl
theorem tw_1_225 : Cond.selects "GemCut$Rough" yX2_ownerAt yX2_ownerAt ∈ TB := tb1 225 rfl rfl
theorem tw_1_226 : Cond.code yX2_ownerAt cX2_ownerAt 4 (some FieldType.int) ∈ TB := tb1 226 rfl rfl
theorem tw_1_227 : Cond.methodLink "GemCut$Rough" 43 yX2_holds ∈ TB := tb1 227 rfl rfl
theorem tw_1_228 : Cond.instanceMethod yX2_holds ∈ TB := tb1 228 rfl rfl
theorem tw_1_229 : Cond.selects "GemCut$Rough" yX2_holds yX2_holds ∈ TB := tb1 229 rfl rfl
theorem tw_1_230 : Cond.code yX2_holds cX2_holds 4 (some FieldType.boolean) ∈ TB := tb1 230 rfl rfl
theorem tw_1_231 : Cond.methodLink "GemCut$Rough" 47 yX2_indexOf ∈ TB := tb1 231 rfl rfl
theorem tw_1_232 : Cond.instanceMethod yX2_indexOf ∈ TB := tb1 232 rfl rfl
theorem tw_1_233 : Cond.selects "GemCut$Rough" yX2_indexOf yX2_indexOf ∈ TB := tb1 233 rfl rfl
theorem tw_1_234 : Cond.code yX2_indexOf cX2_indexOf 4 (some FieldType.int) ∈ TB := tb1 234 rfl rfl
theorem tw_1_235 : Cond.methodLink "GemCut" 271 yX3_countCell ∈ TB := tb1 235 rfl rfl
theorem tw_1_236 : Cond.instanceMethod yX3_countCell ∈ TB := tb1 236 rfl rfl
theorem tw_1_237 : Cond.selects "GemCut$Stone" yX3_countCell yX3_countCell ∈ TB := tb1 237 rfl rfl
theorem tw_1_238 : Cond.code yX3_countCell cX3_countCell 6 none ∈ TB := tb1 238 rfl rfl
theorem tw_1_239 : Cond.methodLink "GemCut$Stone" 34 yX1_touches ∈ TB := tb1 239 rfl rfl
theorem tw_2_0 : Cond.instanceMethod yX1_touches ∈ TB := tb2 0 rfl rfl
theorem tw_2_1 : Cond.selects "GemCut$Plane" yX1_touches yX1_touches ∈ TB := tb2 1 rfl rfl
theorem tw_2_2 : Cond.code yX1_touches cX1_touches 4 (some FieldType.boolean) ∈ TB := tb2 2 rfl rfl
theorem tw_2_3 : Cond.methodLink "GemCut$Plane" 42 yX1_heightOf ∈ TB := tb2 3 rfl rfl
theorem tw_2_4 : Cond.instanceMethod yX1_heightOf ∈ TB := tb2 4 rfl rfl
theorem tw_2_5 : Cond.selects "GemCut$Plane" yX1_heightOf yX1_heightOf ∈ TB := tb2 5 rfl rfl
theorem tw_2_6 : Cond.code yX1_heightOf cX1_heightOf 4 (some FieldType.int) ∈ TB := tb2 6 rfl rfl
theorem tw_2_7 : Cond.methodLink "GemCut" 260 yX0_survey ∈ TB := tb2 7 rfl rfl
theorem tw_2_8 : Cond.instanceMethod yX0_survey ∈ TB := tb2 8 rfl rfl
theorem tw_2_9 : Cond.selects "GemCut$Flaw" yX0_survey yX0_survey ∈ TB := tb2 9 rfl rfl
theorem tw_2_10 : Cond.code yX0_survey cX0_survey 5 none ∈ TB := tb2 10 rfl rfl
theorem tw_2_11 : Cond.fieldLink "GemCut" 10 "GemCut" "rough" "LGemCut$Rough;" ∈ TB := tb2 11 rfl rfl
theorem tw_2_12 : Cond.fieldLink "GemCut" 18 "GemCut" "stones" "[LGemCut$Stone;" ∈ TB := tb2 12 rfl rfl
theorem tw_2_13 : Cond.fieldLink "GemCut" 30 "GemCut" "trial" "LGemCut$Trial;" ∈ TB := tb2 13 rfl rfl
theorem tw_2_14 : Cond.fieldLink "GemCut" 102 "GemCut" "stoneCount" "I" ∈ TB := tb2 14 rfl rfl
theorem tw_2_15 : Cond.fieldLink "GemCut" 122 "GemCut" "turns" "I" ∈ TB := tb2 15 rfl rfl
theorem tw_2_16 : Cond.fieldLink "GemCut" 242 "GemCut" "spent" "I" ∈ TB := tb2 16 rfl rfl
theorem tw_2_17 : Cond.laysFinal "GemCut" "GemCut" "rough" "LGemCut$Rough;" ∈ TB := tb2 17 rfl rfl
theorem tw_2_19 : Cond.laysFinal "GemCut" "GemCut" "stones" "[LGemCut$Stone;" ∈ TB := tb2 19 rfl rfl
theorem tw_2_21 : Cond.laysFinal "GemCut" "GemCut" "trial" "LGemCut$Trial;" ∈ TB := tb2 21 rfl rfl
theorem tw_2_23 : Cond.lays "GemCut" "GemCut" "stoneCount" "I" ∈ TB := tb2 23 rfl rfl
theorem tw_2_25 : Cond.lays "GemCut" "GemCut" "turns" "I" ∈ TB := tb2 25 rfl rfl
theorem tw_2_27 : Cond.lays "GemCut" "GemCut" "spent" "I" ∈ TB := tb2 27 rfl rfl
theorem tw_2_30 : Cond.methodLink "GemCutLaw" 97 yX5_dress ∈ TB := tb2 30 rfl rfl
theorem tw_2_31 : Cond.instanceMethod yX5_dress ∈ TB := tb2 31 rfl rfl
theorem tw_2_32 : Cond.selects "GemCut" yX5_dress yX5_dress ∈ TB := tb2 32 rfl rfl
theorem tw_2_33 : Cond.code yX5_dress cX5_dress 2 (some FieldType.int) ∈ TB := tb2 33 rfl rfl
theorem tw_2_34 : Cond.methodLink "GemCutLaw" 125 yX5_kept ∈ TB := tb2 34 rfl rfl
theorem tw_2_35 : Cond.instanceMethod yX5_kept ∈ TB := tb2 35 rfl rfl
theorem tw_2_36 : Cond.selects "GemCut" yX5_kept yX5_kept ∈ TB := tb2 36 rfl rfl
theorem tw_2_37 : Cond.code yX5_kept cX5_kept 2 (some FieldType.double) ∈ TB := tb2 37 rfl rfl
theorem tw_2_38 : Cond.methodLink "GemCut" 49 yX2_size ∈ TB := tb2 38 rfl rfl
theorem tw_2_39 : Cond.methodLink "GemCut" 200 yX5_cellsOfStones ∈ TB := tb2 39 rfl rfl
theorem tw_2_41 : Cond.instanceMethod yX5_cellsOfStones ∈ TB := tb2 41 rfl rfl
theorem tw_2_42 : Cond.code yX5_cellsOfStones cX5_cellsOfStones 3 (some FieldType.int) ∈ TB := tb2 42 rfl rfl
theorem tw_2_43 : Cond.methodLink "GemCutLaw" 130 yX5_digest ∈ TB := tb2 43 rfl rfl
theorem tw_2_44 : Cond.instanceMethod yX5_digest ∈ TB := tb2 44 rfl rfl
theorem tw_2_45 : Cond.selects "GemCut" yX5_digest yX5_digest ∈ TB := tb2 45 rfl rfl
theorem tw_2_46 : Cond.code yX5_digest cX5_digest 7 (some FieldType.long) ∈ TB := tb2 46 rfl rfl
theorem tw_2_47 : Cond.constantLong "GemCut" 203 (577) ∈ TB := tb2 47 rfl rfl
theorem tw_2_48 : Cond.constantLong "GemCut" 205 (31) ∈ TB := tb2 48 rfl rfl
theorem tw_2_49 : Cond.methodLink "GemCut" 167 yX5_tellCount ∈ TB := tb2 49 rfl rfl
theorem tw_2_51 : Cond.instanceMethod yX5_tellCount ∈ TB := tb2 51 rfl rfl
theorem tw_2_52 : Cond.code yX5_tellCount cX5_tellCount 2 (some FieldType.int) ∈ TB := tb2 52 rfl rfl
theorem tw_2_53 : Cond.methodLink "GemCut" 302 yX5_stonesLeft ∈ TB := tb2 53 rfl rfl
theorem tw_2_55 : Cond.instanceMethod yX5_stonesLeft ∈ TB := tb2 55 rfl rfl
theorem tw_2_56 : Cond.code yX5_stonesLeft cX5_stonesLeft 3 (some FieldType.int) ∈ TB := tb2 56 rfl rfl
theorem tw_2_57 : Cond.methodLink "GemCut" 305 yX5_worthOfStones ∈ TB := tb2 57 rfl rfl
theorem tw_2_59 : Cond.instanceMethod yX5_worthOfStones ∈ TB := tb2 59 rfl rfl
theorem tw_2_60 : Cond.code yX5_worthOfStones cX5_worthOfStones 3 (some FieldType.int) ∈ TB := tb2 60 rfl rfl
theorem tw_2_61 : Cond.methodLink "GemCut" 295 yX5_worthOf ∈ TB := tb2 61 rfl rfl
theorem tw_2_63 : Cond.instanceMethod yX5_worthOf ∈ TB := tb2 63 rfl rfl
theorem tw_2_64 : Cond.code yX5_worthOf cX5_worthOf 5 (some FieldType.int) ∈ TB := tb2 64 rfl rfl
theorem tw_2_65 : Cond.methodLink "GemCut" 191 yX0_stateIn ∈ TB := tb2 65 rfl rfl
theorem tw_2_66 : Cond.instanceMethod yX0_stateIn ∈ TB := tb2 66 rfl rfl
theorem tw_2_67 : Cond.selects "GemCut$Flaw" yX0_stateIn yX0_stateIn ∈ TB := tb2 67 rfl rfl
theorem tw_2_68 : Cond.code yX0_stateIn cX0_stateIn 2 (some FieldType.int) ∈ TB := tb2 68 rfl rfl
theorem tw_2_69 : Cond.methodLink "GemCut" 308 yX0_pointsIf ∈ TB := tb2 69 rfl rfl
theorem tw_2_70 : Cond.instanceMethod yX0_pointsIf ∈ TB := tb2 70 rfl rfl
theorem tw_2_71 : Cond.selects "GemCut$Flaw" yX0_pointsIf yX0_pointsIf ∈ TB := tb2 71 rfl rfl
theorem tw_2_72 : Cond.code yX0_pointsIf cX0_pointsIf 2 (some FieldType.int) ∈ TB := tb2 72 rfl rfl
theorem tw_2_73 : Cond.methodLink "GemCut" 281 yX3_facets ∈ TB := tb2 73 rfl rfl
theorem tw_2_74 : Cond.instanceMethod yX3_facets ∈ TB := tb2 74 rfl rfl
theorem tw_2_75 : Cond.selects "GemCut$Stone" yX3_facets yX3_facets ∈ TB := tb2 75 rfl rfl
theorem tw_2_76 : Cond.code yX3_facets cX3_facets 4 (some FieldType.int) ∈ TB := tb2 76 rfl rfl
theorem tw_2_77 : Cond.methodLink "GemCut$Stone" 42 yX1_isFacet ∈ TB := tb2 77 rfl rfl
theorem tw_2_78 : Cond.instanceMethod yX1_isFacet ∈ TB := tb2 78 rfl rfl
theorem tw_2_79 : Cond.selects "GemCut$Plane" yX1_isFacet yX1_isFacet ∈ TB := tb2 79 rfl rfl
theorem tw_2_80 : Cond.code yX1_isFacet cX1_isFacet 1 (some FieldType.boolean) ∈ TB := tb2 80 rfl rfl
theorem tw_2_81 : Cond.methodLink "GemCut" 285 yX3_oppositePairs ∈ TB := tb2 81 rfl rfl
theorem tw_2_82 : Cond.instanceMethod yX3_oppositePairs ∈ TB := tb2 82 rfl rfl
theorem tw_2_83 : Cond.selects "GemCut$Stone" yX3_oppositePairs yX3_oppositePairs ∈ TB := tb2 83 rfl rfl
theorem tw_2_84 : Cond.code yX3_oppositePairs cX3_oppositePairs 4 (some FieldType.int) ∈ TB := tb2 84 rfl rfl
theorem tw_2_85 : Cond.methodLink "GemCut$Stone" 50 yX1_isOpposite ∈ TB := tb2 85 rfl rfl
theorem tw_2_86 : Cond.instanceMethod yX1_isOpposite ∈ TB := tb2 86 rfl rfl
theorem tw_2_87 : Cond.selects "GemCut$Plane" yX1_isOpposite yX1_isOpposite ∈ TB := tb2 87 rfl rfl
theorem tw_2_88 : Cond.code yX1_isOpposite cX1_isOpposite 2 (some FieldType.boolean) ∈ TB := tb2 88 rfl rfl
theorem tw_2_89 : Cond.methodLink "GemCut" 311 yX5_worthBy ∈ TB := tb2 89 rfl rfl
theorem tw_2_90 : Cond.static yX5_worthBy ∈ TB := tb2 90 rfl rfl
theorem tw_2_91 : Cond.code yX5_worthBy cX5_worthBy 6 (some FieldType.int) ∈ TB := tb2 91 rfl rfl
theorem tw_2_92 : Cond.methodLink "GemCut" 315 ⟨"java/lang/Math", "max", "(II)I"⟩ ∈ TB := tb2 92 rfl rfl
theorem tw_2_93 : Cond.static ⟨"java/lang/Math", "max", "(II)I"⟩ ∈ TB := tb2 93 rfl rfl
theorem tw_2_94 : Cond.code ⟨"java/lang/Math", "max", "(II)I"⟩ prog_13_method_65_code 2 (some FieldType.int) ∈ TB := tb2 94 rfl rfl
theorem tw_2_95 : Cond.methodLink "GemCut" 211 yX5_addStone ∈ TB := tb2 95 rfl rfl
theorem tw_2_97 : Cond.instanceMethod yX5_addStone ∈ TB := tb2 97 rfl rfl
theorem tw_2_98 : Cond.code yX5_addStone cX5_addStone 8 (some FieldType.long) ∈ TB := tb2 98 rfl rfl
theorem tw_2_99 : Cond.methodLink "GemCut" 156 yX5_tellOfStone ∈ TB := tb2 99 rfl rfl
theorem tw_2_101 : Cond.instanceMethod yX5_tellOfStone ∈ TB := tb2 101 rfl rfl
theorem tw_2_102 : Cond.code yX5_tellOfStone cX5_tellOfStone 3 (some FieldType.int) ∈ TB := tb2 102 rfl rfl
theorem tw_2_103 : Cond.methodLink "GemCut" 291 yX5_flawsOfState ∈ TB := tb2 103 rfl rfl
theorem tw_2_105 : Cond.instanceMethod yX5_flawsOfState ∈ TB := tb2 105 rfl rfl
theorem tw_2_106 : Cond.code yX5_flawsOfState cX5_flawsOfState 5 (some FieldType.int) ∈ TB := tb2 106 rfl rfl
theorem tw_2_107 : Cond.methodLink "GemCut" 160 yX1_tell ∈ TB := tb2 107 rfl rfl
theorem tw_2_108 : Cond.instanceMethod yX1_tell ∈ TB := tb2 108 rfl rfl
theorem tw_2_109 : Cond.selects "GemCut$Plane" yX1_tell yX1_tell ∈ TB := tb2 109 rfl rfl
theorem tw_2_110 : Cond.code yX1_tell cX1_tell 2 (some FieldType.int) ∈ TB := tb2 110 rfl rfl
theorem tw_2_111 : Cond.methodLink "GemCut" 85 yX5_tellOfFlaw ∈ TB := tb2 111 rfl rfl
theorem tw_2_113 : Cond.instanceMethod yX5_tellOfFlaw ∈ TB := tb2 113 rfl rfl
theorem tw_2_114 : Cond.code yX5_tellOfFlaw cX5_tellOfFlaw 5 (some FieldType.int) ∈ TB := tb2 114 rfl rfl
theorem tw_2_115 : Cond.methodLink "GemCutLaw" 67 yL_take ∈ TB := tb2 115 rfl rfl
theorem tw_2_116 : Cond.static yL_take ∈ TB := tb2 116 rfl rfl
theorem tw_2_117 : Cond.codeWith yL_take cL_take 6 (some FieldType.int) [(0, 12, 15, 13)] ∈ TB := tb2 117 rfl rfl
theorem tw_2_118 : Cond.classLink "GemCutLaw" 13 "java/lang/IllegalArgumentException" ∈ TB := tb2 118 rfl rfl
theorem tw_2_119 : Cond.methodLink "GemCutLaw" 7 yX5_take ∈ TB := tb2 119 rfl rfl
theorem tw_2_120 : Cond.instanceMethod yX5_take ∈ TB := tb2 120 rfl rfl
theorem tw_2_121 : Cond.selects "GemCut" yX5_take yX5_take ∈ TB := tb2 121 rfl rfl
theorem tw_2_122 : Cond.code yX5_take cX5_take 4 (some FieldType.int) ∈ TB := tb2 122 rfl rfl
theorem tw_2_123 : Cond.methodLink "GemCut" 38 yX5_isSide ∈ TB := tb2 123 rfl rfl
theorem tw_2_124 : Cond.static yX5_isSide ∈ TB := tb2 124 rfl rfl
theorem tw_2_125 : Cond.code yX5_isSide cX5_isSide 1 (some FieldType.boolean) ∈ TB := tb2 125 rfl rfl
theorem tw_2_126 : Cond.classLink "GemCut" 42 "java/lang/IllegalArgumentException" ∈ TB := tb2 126 rfl rfl
theorem tw_2_127 : Cond.instantiable "java/lang/IllegalArgumentException" 6 ∈ TB := tb2 127 rfl rfl
theorem tw_2_135 : Cond.selects "java/lang/IllegalArgumentException" ⟨"java/lang/Throwable", "fillInStackTrace", "(I)Ljava/lang/Throwable;"⟩ ⟨"java/lang/Throwable", "fillInStackTrace", "(I)Ljava/lang/Throwable;"⟩ ∈ TB := tb2 135 rfl rfl
theorem tw_2_136 : Cond.selects "java/lang/IllegalArgumentException" ⟨"java/lang/Throwable", "fillInStackTrace", "()Ljava/lang/Throwable;"⟩ ⟨"java/lang/Throwable", "fillInStackTrace", "()Ljava/lang/Throwable;"⟩ ∈ TB := tb2 136 rfl rfl
theorem tw_2_137 : Cond.lays "java/lang/IllegalArgumentException" "java/lang/Throwable" "cause" "Ljava/lang/Throwable;" ∈ TB := tb2 137 rfl rfl
theorem tw_2_138 : Cond.lays "java/lang/Throwable" "java/lang/Throwable" "cause" "Ljava/lang/Throwable;" ∈ TB := tb2 138 rfl rfl
theorem tw_2_139 : Cond.lays "java/lang/IllegalArgumentException" "java/lang/Throwable" "stackTrace" "[Ljava/lang/StackTraceElement;" ∈ TB := tb2 139 rfl rfl
theorem tw_2_140 : Cond.lays "java/lang/Throwable" "java/lang/Throwable" "stackTrace" "[Ljava/lang/StackTraceElement;" ∈ TB := tb2 140 rfl rfl
theorem tw_2_141 : Cond.lays "java/lang/IllegalArgumentException" "java/lang/Throwable" "suppressedExceptions" "Ljava/util/List;" ∈ TB := tb2 141 rfl rfl
theorem tw_2_142 : Cond.lays "java/lang/Throwable" "java/lang/Throwable" "suppressedExceptions" "Ljava/util/List;" ∈ TB := tb2 142 rfl rfl
theorem tw_2_143 : Cond.lays "java/lang/IllegalArgumentException" "java/lang/Throwable" "detailMessage" "Ljava/lang/String;" ∈ TB := tb2 143 rfl rfl
theorem tw_2_144 : Cond.lays "java/lang/Throwable" "java/lang/Throwable" "detailMessage" "Ljava/lang/String;" ∈ TB := tb2 144 rfl rfl
theorem tw_2_145 : Cond.lays "java/lang/IllegalArgumentException" "java/lang/Throwable" "backtrace" "Ljava/lang/Object;" ∈ TB := tb2 145 rfl rfl
theorem tw_2_146 : Cond.lays "java/lang/Throwable" "java/lang/Throwable" "backtrace" "Ljava/lang/Object;" ∈ TB := tb2 146 rfl rfl
theorem tw_2_147 : Cond.fieldLink "java/lang/Throwable" 198 "java/lang/Throwable" "backtrace" "Ljava/lang/Object;" ∈ TB := tb2 147 rfl rfl
theorem tw_2_149 : Cond.instanceMethod ⟨"java/lang/Throwable", "<init>", "()V"⟩ ∈ TB := tb2 149 rfl rfl
theorem tw_2_150 : Cond.code ⟨"java/lang/Throwable", "<init>", "()V"⟩ prog_17_method_1_code 1 none ∈ TB := tb2 150 rfl rfl
theorem tw_2_151 : Cond.methodLink "java/lang/Throwable" 1 ⟨"java/lang/Object", "<init>", "()V"⟩ ∈ TB := tb2 151 rfl rfl
theorem tw_2_152 : Cond.fieldLink "java/lang/Throwable" 13 "java/lang/Throwable" "UNASSIGNED_STACK" "[Ljava/lang/StackTraceElement;" ∈ TB := tb2 152 rfl rfl
theorem tw_2_154 : Cond.fieldLink "java/lang/Throwable" 20 "java/lang/Throwable" "SUPPRESSED_SENTINEL" "Ljava/util/List;" ∈ TB := tb2 154 rfl rfl
theorem tw_2_156 : Cond.methodLink "java/lang/Throwable" 27 ⟨"java/lang/Throwable", "fillInStackTrace", "()Ljava/lang/Throwable;"⟩ ∈ TB := tb2 156 rfl rfl
theorem tw_2_157 : Cond.instanceMethod ⟨"java/lang/Throwable", "fillInStackTrace", "()Ljava/lang/Throwable;"⟩ ∈ TB := tb2 157 rfl rfl
theorem tw_2_159 : Cond.selects "java/lang/IllegalStateException" ⟨"java/lang/Throwable", "fillInStackTrace", "()Ljava/lang/Throwable;"⟩ ⟨"java/lang/Throwable", "fillInStackTrace", "()Ljava/lang/Throwable;"⟩ ∈ TB := tb2 159 rfl rfl
theorem tw_2_160 : Cond.selects "java/lang/IndexOutOfBoundsException" ⟨"java/lang/Throwable", "fillInStackTrace", "()Ljava/lang/Throwable;"⟩ ⟨"java/lang/Throwable", "fillInStackTrace", "()Ljava/lang/Throwable;"⟩ ∈ TB := tb2 160 rfl rfl
theorem tw_2_162 : Cond.methodLink "java/lang/Throwable" 202 ⟨"java/lang/Throwable", "fillInStackTrace", "(I)Ljava/lang/Throwable;"⟩ ∈ TB := tb2 162 rfl rfl
theorem tw_2_164 : Cond.instanceMethod ⟨"java/lang/Throwable", "fillInStackTrace", "(I)Ljava/lang/Throwable;"⟩ ∈ TB := tb2 164 rfl rfl
theorem tw_2_165 : Cond.instantiable "java/lang/Throwable" 6 ∈ TB := tb2 165 rfl rfl
theorem tw_2_168 : Cond.methodLink "GemCut" 46 ⟨"java/lang/IllegalArgumentException", "<init>", "(Ljava/lang/String;)V"⟩ ∈ TB := tb2 168 rfl rfl
theorem tw_2_169 : Cond.instanceMethod ⟨"java/lang/IllegalArgumentException", "<init>", "(Ljava/lang/String;)V"⟩ ∈ TB := tb2 169 rfl rfl
theorem tw_2_170 : Cond.code ⟨"java/lang/IllegalArgumentException", "<init>", "(Ljava/lang/String;)V"⟩ prog_10_method_2_code 2 none ∈ TB := tb2 170 rfl rfl
theorem tw_2_171 : Cond.methodLink "java/lang/IllegalArgumentException" 7 ⟨"java/lang/RuntimeException", "<init>", "(Ljava/lang/String;)V"⟩ ∈ TB := tb2 171 rfl rfl
theorem tw_2_172 : Cond.instanceMethod ⟨"java/lang/RuntimeException", "<init>", "(Ljava/lang/String;)V"⟩ ∈ TB := tb2 172 rfl rfl
theorem tw_2_173 : Cond.code ⟨"java/lang/RuntimeException", "<init>", "(Ljava/lang/String;)V"⟩ prog_14_method_2_code 2 none ∈ TB := tb2 173 rfl rfl
theorem tw_2_174 : Cond.methodLink "java/lang/RuntimeException" 7 ⟨"java/lang/Exception", "<init>", "(Ljava/lang/String;)V"⟩ ∈ TB := tb2 174 rfl rfl
theorem tw_2_175 : Cond.instanceMethod ⟨"java/lang/Exception", "<init>", "(Ljava/lang/String;)V"⟩ ∈ TB := tb2 175 rfl rfl
theorem tw_2_176 : Cond.code ⟨"java/lang/Exception", "<init>", "(Ljava/lang/String;)V"⟩ prog_9_method_2_code 2 none ∈ TB := tb2 176 rfl rfl
theorem tw_2_177 : Cond.methodLink "java/lang/Exception" 7 ⟨"java/lang/Throwable", "<init>", "(Ljava/lang/String;)V"⟩ ∈ TB := tb2 177 rfl rfl
theorem tw_2_178 : Cond.instanceMethod ⟨"java/lang/Throwable", "<init>", "(Ljava/lang/String;)V"⟩ ∈ TB := tb2 178 rfl rfl
theorem tw_2_179 : Cond.code ⟨"java/lang/Throwable", "<init>", "(Ljava/lang/String;)V"⟩ prog_17_method_2_code 2 none ∈ TB := tb2 179 rfl rfl
theorem tw_2_181 : Cond.fieldLink "java/lang/Throwable" 31 "java/lang/Throwable" "detailMessage" "Ljava/lang/String;" ∈ TB := tb2 181 rfl rfl
theorem tw_2_182 : Cond.fieldLink "java/lang/Throwable" 7 "java/lang/Throwable" "cause" "Ljava/lang/Throwable;" ∈ TB := tb2 182 rfl rfl
theorem tw_2_183 : Cond.fieldLink "java/lang/Throwable" 17 "java/lang/Throwable" "stackTrace" "[Ljava/lang/StackTraceElement;" ∈ TB := tb2 183 rfl rfl
theorem tw_2_184 : Cond.fieldLink "java/lang/Throwable" 24 "java/lang/Throwable" "suppressedExceptions" "Ljava/util/List;" ∈ TB := tb2 184 rfl rfl
theorem tw_2_189 : Cond.lays "java/lang/IllegalArgumentException" "java/lang/Throwable" "depth" "I" ∈ TB := tb2 189 rfl rfl
theorem tw_2_194 : Cond.methodLink "GemCutLaw" 77 yL_flaw ∈ TB := tb2 194 rfl rfl
theorem tw_2_195 : Cond.static yL_flaw ∈ TB := tb2 195 rfl rfl
theorem tw_2_196 : Cond.codeWith yL_flaw cL_flaw 8 (some FieldType.int) [(0, 16, 19, 19), (0, 16, 23, 13), (0, 16, 27, 21)] ∈ TB := tb2 196 rfl rfl
theorem tw_2_197 : Cond.classLink "GemCutLaw" 19 "java/lang/IndexOutOfBoundsException" ∈ TB := tb2 197 rfl rfl
theorem tw_2_198 : Cond.classLink "GemCutLaw" 21 "java/lang/IllegalStateException" ∈ TB := tb2 198 rfl rfl
theorem tw_2_199 : Cond.methodLink "GemCutLaw" 15 yX5_flaw ∈ TB := tb2 199 rfl rfl
theorem tw_2_200 : Cond.instanceMethod yX5_flaw ∈ TB := tb2 200 rfl rfl
theorem tw_2_201 : Cond.selects "GemCut" yX5_flaw yX5_flaw ∈ TB := tb2 201 rfl rfl
theorem tw_2_202 : Cond.code yX5_flaw cX5_flaw 6 (some FieldType.int) ∈ TB := tb2 202 rfl rfl
theorem tw_2_203 : Cond.methodLink "GemCut" 53 yX5_wantCell ∈ TB := tb2 203 rfl rfl
theorem tw_2_205 : Cond.instanceMethod yX5_wantCell ∈ TB := tb2 205 rfl rfl
theorem tw_2_206 : Cond.code yX5_wantCell cX5_wantCell 4 none ∈ TB := tb2 206 rfl rfl
theorem tw_2_207 : Cond.methodLink "GemCut" 215 yX2_holds ∈ TB := tb2 207 rfl rfl
theorem tw_2_208 : Cond.classLink "GemCut" 219 "java/lang/IndexOutOfBoundsException" ∈ TB := tb2 208 rfl rfl
theorem tw_2_209 : Cond.instantiable "java/lang/IndexOutOfBoundsException" 6 ∈ TB := tb2 209 rfl rfl
theorem tw_2_211 : Cond.selects "java/lang/IndexOutOfBoundsException" ⟨"java/lang/Throwable", "fillInStackTrace", "(I)Ljava/lang/Throwable;"⟩ ⟨"java/lang/Throwable", "fillInStackTrace", "(I)Ljava/lang/Throwable;"⟩ ∈ TB := tb2 211 rfl rfl
theorem tw_2_212 : Cond.lays "java/lang/IndexOutOfBoundsException" "java/lang/Throwable" "cause" "Ljava/lang/Throwable;" ∈ TB := tb2 212 rfl rfl
theorem tw_2_213 : Cond.lays "java/lang/IndexOutOfBoundsException" "java/lang/Throwable" "stackTrace" "[Ljava/lang/StackTraceElement;" ∈ TB := tb2 213 rfl rfl
theorem tw_2_214 : Cond.lays "java/lang/IndexOutOfBoundsException" "java/lang/Throwable" "suppressedExceptions" "Ljava/util/List;" ∈ TB := tb2 214 rfl rfl
theorem tw_2_215 : Cond.lays "java/lang/IndexOutOfBoundsException" "java/lang/Throwable" "detailMessage" "Ljava/lang/String;" ∈ TB := tb2 215 rfl rfl
theorem tw_2_216 : Cond.lays "java/lang/IndexOutOfBoundsException" "java/lang/Throwable" "backtrace" "Ljava/lang/Object;" ∈ TB := tb2 216 rfl rfl
theorem tw_2_218 : Cond.methodLink "GemCut" 223 ⟨"java/lang/IndexOutOfBoundsException", "<init>", "(Ljava/lang/String;)V"⟩ ∈ TB := tb2 218 rfl rfl
theorem tw_2_219 : Cond.instanceMethod ⟨"java/lang/IndexOutOfBoundsException", "<init>", "(Ljava/lang/String;)V"⟩ ∈ TB := tb2 219 rfl rfl
theorem tw_2_220 : Cond.code ⟨"java/lang/IndexOutOfBoundsException", "<init>", "(Ljava/lang/String;)V"⟩ prog_12_method_2_code 2 none ∈ TB := tb2 220 rfl rfl
theorem tw_2_221 : Cond.methodLink "java/lang/IndexOutOfBoundsException" 7 ⟨"java/lang/RuntimeException", "<init>", "(Ljava/lang/String;)V"⟩ ∈ TB := tb2 221 rfl rfl
theorem tw_2_222 : Cond.lays "java/lang/IndexOutOfBoundsException" "java/lang/Throwable" "depth" "I" ∈ TB := tb2 222 rfl rfl
theorem tw_2_225 : Cond.classLink "GemCut" 62 "java/lang/IllegalStateException" ∈ TB := tb2 225 rfl rfl
theorem tw_2_226 : Cond.instantiable "java/lang/IllegalStateException" 6 ∈ TB := tb2 226 rfl rfl
theorem tw_2_228 : Cond.selects "java/lang/IllegalStateException" ⟨"java/lang/Throwable", "fillInStackTrace", "(I)Ljava/lang/Throwable;"⟩ ⟨"java/lang/Throwable", "fillInStackTrace", "(I)Ljava/lang/Throwable;"⟩ ∈ TB := tb2 228 rfl rfl
theorem tw_2_229 : Cond.lays "java/lang/IllegalStateException" "java/lang/Throwable" "cause" "Ljava/lang/Throwable;" ∈ TB := tb2 229 rfl rfl
theorem tw_2_230 : Cond.lays "java/lang/IllegalStateException" "java/lang/Throwable" "stackTrace" "[Ljava/lang/StackTraceElement;" ∈ TB := tb2 230 rfl rfl
theorem tw_2_231 : Cond.lays "java/lang/IllegalStateException" "java/lang/Throwable" "suppressedExceptions" "Ljava/util/List;" ∈ TB := tb2 231 rfl rfl
theorem tw_2_232 : Cond.lays "java/lang/IllegalStateException" "java/lang/Throwable" "detailMessage" "Ljava/lang/String;" ∈ TB := tb2 232 rfl rfl
theorem tw_2_233 : Cond.lays "java/lang/IllegalStateException" "java/lang/Throwable" "backtrace" "Ljava/lang/Object;" ∈ TB := tb2 233 rfl rfl
theorem tw_2_235 : Cond.methodLink "GemCut" 66 ⟨"java/lang/IllegalStateException", "<init>", "(Ljava/lang/String;)V"⟩ ∈ TB := tb2 235 rfl rfl
theorem tw_2_236 : Cond.instanceMethod ⟨"java/lang/IllegalStateException", "<init>", "(Ljava/lang/String;)V"⟩ ∈ TB := tb2 236 rfl rfl
theorem tw_2_237 : Cond.code ⟨"java/lang/IllegalStateException", "<init>", "(Ljava/lang/String;)V"⟩ prog_11_method_2_code 2 none ∈ TB := tb2 237 rfl rfl
theorem tw_2_238 : Cond.methodLink "java/lang/IllegalStateException" 7 ⟨"java/lang/RuntimeException", "<init>", "(Ljava/lang/String;)V"⟩ ∈ TB := tb2 238 rfl rfl
theorem tw_2_239 : Cond.lays "java/lang/IllegalStateException" "java/lang/Throwable" "depth" "I" ∈ TB := tb2 239 rfl rfl
theorem tw_3_1 : Cond.methodLink "GemCut" 67 yX2_addFlaw ∈ TB := tb3 1 rfl rfl
theorem tw_3_2 : Cond.instanceMethod yX2_addFlaw ∈ TB := tb3 2 rfl rfl
theorem tw_3_3 : Cond.selects "GemCut$Rough" yX2_addFlaw yX2_addFlaw ∈ TB := tb3 3 rfl rfl
theorem tw_3_4 : Cond.code yX2_addFlaw cX2_addFlaw 11 none ∈ TB := tb3 4 rfl rfl
theorem tw_3_5 : Cond.methodLink "GemCut$Rough" 54 yX0_begin ∈ TB := tb3 5 rfl rfl
theorem tw_3_6 : Cond.instanceMethod yX0_begin ∈ TB := tb3 6 rfl rfl
theorem tw_3_7 : Cond.selects "GemCut$Flaw" yX0_begin yX0_begin ∈ TB := tb3 7 rfl rfl
theorem tw_3_8 : Cond.code yX0_begin cX0_begin 2 none ∈ TB := tb3 8 rfl rfl
theorem tw_3_9 : Cond.methodLink "GemCut$Rough" 58 ⟨"java/lang/Math", "abs", "(I)I"⟩ ∈ TB := tb3 9 rfl rfl
theorem tw_3_10 : Cond.static ⟨"java/lang/Math", "abs", "(I)I"⟩ ∈ TB := tb3 10 rfl rfl
theorem tw_3_11 : Cond.code ⟨"java/lang/Math", "abs", "(I)I"⟩ prog_13_method_59_code 1 (some FieldType.int) ∈ TB := tb3 11 rfl rfl
theorem tw_3_12 : Cond.methodLink "GemCut$Rough" 64 yX0_addCell ∈ TB := tb3 12 rfl rfl
theorem tw_3_13 : Cond.instanceMethod yX0_addCell ∈ TB := tb3 13 rfl rfl
theorem tw_3_14 : Cond.selects "GemCut$Flaw" yX0_addCell yX0_addCell ∈ TB := tb3 14 rfl rfl
theorem tw_3_15 : Cond.code yX0_addCell cX0_addCell 2 none ∈ TB := tb3 15 rfl rfl
theorem tw_3_16 : Cond.methodLink "GemCut$Rough" 67 yX0_survey ∈ TB := tb3 16 rfl rfl
theorem tw_3_17 : Cond.methodLink "GemCutLaw" 81 yL_cell ∈ TB := tb3 17 rfl rfl
theorem tw_3_18 : Cond.static yL_cell ∈ TB := tb3 18 rfl rfl
theorem tw_3_19 : Cond.codeWith yL_cell cL_cell 6 (some FieldType.int) [(0, 12, 15, 19)] ∈ TB := tb3 19 rfl rfl
theorem tw_3_20 : Cond.methodLink "GemCutLaw" 23 yX5_cell ∈ TB := tb3 20 rfl rfl
theorem tw_3_21 : Cond.instanceMethod yX5_cell ∈ TB := tb3 21 rfl rfl
theorem tw_3_22 : Cond.selects "GemCut" yX5_cell yX5_cell ∈ TB := tb3 22 rfl rfl
theorem tw_3_23 : Cond.code yX5_cell cX5_cell 4 (some FieldType.int) ∈ TB := tb3 23 rfl rfl
theorem tw_3_24 : Cond.methodLink "GemCut" 71 yX2_ownerAt ∈ TB := tb3 24 rfl rfl
theorem tw_3_25 : Cond.methodLink "GemCutLaw" 84 yL_flawIn ∈ TB := tb3 25 rfl rfl
theorem tw_3_26 : Cond.static yL_flawIn ∈ TB := tb3 26 rfl rfl
theorem tw_3_27 : Cond.codeWith yL_flawIn cL_flawIn 6 (some FieldType.int) [(0, 12, 15, 19)] ∈ TB := tb3 27 rfl rfl
theorem tw_3_28 : Cond.methodLink "GemCutLaw" 26 yX5_flawIn ∈ TB := tb3 28 rfl rfl
theorem tw_3_29 : Cond.instanceMethod yX5_flawIn ∈ TB := tb3 29 rfl rfl
theorem tw_3_30 : Cond.selects "GemCut" yX5_flawIn yX5_flawIn ∈ TB := tb3 30 rfl rfl
theorem tw_3_31 : Cond.code yX5_flawIn cX5_flawIn 4 (some FieldType.int) ∈ TB := tb3 31 rfl rfl
theorem tw_3_32 : Cond.methodLink "GemCut" 75 yX5_wantFlaw ∈ TB := tb3 32 rfl rfl
theorem tw_3_34 : Cond.instanceMethod yX5_wantFlaw ∈ TB := tb3 34 rfl rfl
theorem tw_3_35 : Cond.code yX5_wantFlaw cX5_wantFlaw 2 none ∈ TB := tb3 35 rfl rfl
theorem tw_3_37 : Cond.methodLink "GemCut" 78 yX5_wantStone ∈ TB := tb3 37 rfl rfl
theorem tw_3_39 : Cond.instanceMethod yX5_wantStone ∈ TB := tb3 39 rfl rfl
theorem tw_3_40 : Cond.code yX5_wantStone cX5_wantStone 2 none ∈ TB := tb3 40 rfl rfl
theorem tw_3_42 : Cond.methodLink "GemCut" 81 yX5_wantWhat ∈ TB := tb3 42 rfl rfl
theorem tw_3_43 : Cond.static yX5_wantWhat ∈ TB := tb3 43 rfl rfl
theorem tw_3_44 : Cond.code yX5_wantWhat cX5_wantWhat 2 none ∈ TB := tb3 44 rfl rfl
theorem tw_3_46 : Cond.methodLink "GemCutLaw" 87 yL_saw ∈ TB := tb3 46 rfl rfl
theorem tw_3_47 : Cond.static yL_saw ∈ TB := tb3 47 rfl rfl
theorem tw_3_48 : Cond.codeWith yL_saw cL_saw 8 (some FieldType.int) [(0, 16, 19, 19), (0, 16, 23, 13), (0, 16, 27, 21)] ∈ TB := tb3 48 rfl rfl
theorem tw_3_49 : Cond.methodLink "GemCutLaw" 29 yX5_saw ∈ TB := tb3 49 rfl rfl
theorem tw_3_50 : Cond.instanceMethod yX5_saw ∈ TB := tb3 50 rfl rfl
theorem tw_3_51 : Cond.selects "GemCut" yX5_saw yX5_saw ∈ TB := tb3 51 rfl rfl
theorem tw_3_52 : Cond.code yX5_saw cX5_saw 8 (some FieldType.int) ∈ TB := tb3 52 rfl rfl
theorem tw_3_53 : Cond.methodLink "GemCut" 88 yX5_wantSlope ∈ TB := tb3 53 rfl rfl
theorem tw_3_54 : Cond.static yX5_wantSlope ∈ TB := tb3 54 rfl rfl
theorem tw_3_55 : Cond.code yX5_wantSlope cX5_wantSlope 3 none ∈ TB := tb3 55 rfl rfl
theorem tw_3_56 : Cond.methodLink "GemCut" 232 yX5_isSteepness ∈ TB := tb3 56 rfl rfl
theorem tw_3_57 : Cond.static yX5_isSteepness ∈ TB := tb3 57 rfl rfl
theorem tw_3_58 : Cond.code yX5_isSteepness cX5_isSteepness 1 (some FieldType.boolean) ∈ TB := tb3 58 rfl rfl
theorem tw_3_60 : Cond.methodLink "GemCut" 91 yX5_wantDepth ∈ TB := tb3 60 rfl rfl
theorem tw_3_61 : Cond.static yX5_wantDepth ∈ TB := tb3 61 rfl rfl
theorem tw_3_62 : Cond.code yX5_wantDepth cX5_wantDepth 1 none ∈ TB := tb3 62 rfl rfl
theorem tw_3_64 : Cond.methodLink "GemCut" 94 yX4_level ∈ TB := tb3 64 rfl rfl
theorem tw_3_65 : Cond.instanceMethod yX4_level ∈ TB := tb3 65 rfl rfl
theorem tw_3_66 : Cond.selects "GemCut$Trial" yX4_level yX4_level ∈ TB := tb3 66 rfl rfl
theorem tw_3_67 : Cond.code yX4_level cX4_level 9 none ∈ TB := tb3 67 rfl rfl
theorem tw_3_68 : Cond.methodLink "GemCut$Trial" 36 yX1_set ∈ TB := tb3 68 rfl rfl
theorem tw_3_69 : Cond.instanceMethod yX1_set ∈ TB := tb3 69 rfl rfl
theorem tw_3_70 : Cond.selects "GemCut$Plane" yX1_set yX1_set ∈ TB := tb3 70 rfl rfl
theorem tw_3_71 : Cond.code yX1_set cX1_set 5 none ∈ TB := tb3 71 rfl rfl
theorem tw_3_72 : Cond.methodLink "GemCut$Plane" 22 ⟨"java/lang/Math", "abs", "(I)I"⟩ ∈ TB := tb3 72 rfl rfl
theorem tw_3_73 : Cond.methodLink "GemCut$Plane" 28 ⟨"java/lang/Math", "max", "(II)I"⟩ ∈ TB := tb3 73 rfl rfl
theorem tw_3_74 : Cond.methodLink "GemCut$Trial" 52 yX1_heightOf ∈ TB := tb3 74 rfl rfl
theorem tw_3_75 : Cond.methodLink "GemCut$Trial" 56 yX4_levelCell ∈ TB := tb3 75 rfl rfl
theorem tw_3_77 : Cond.instanceMethod yX4_levelCell ∈ TB := tb3 77 rfl rfl
theorem tw_3_78 : Cond.code yX4_levelCell cX4_levelCell 3 none ∈ TB := tb3 78 rfl rfl
theorem tw_3_79 : Cond.methodLink "GemCut" 98 yX4_lossAt ∈ TB := tb3 79 rfl rfl
theorem tw_3_80 : Cond.instanceMethod yX4_lossAt ∈ TB := tb3 80 rfl rfl
theorem tw_3_81 : Cond.selects "GemCut$Trial" yX4_lossAt yX4_lossAt ∈ TB := tb3 81 rfl rfl
theorem tw_3_82 : Cond.code yX4_lossAt cX4_lossAt 2 (some FieldType.int) ∈ TB := tb3 82 rfl rfl
theorem tw_3_83 : Cond.methodLink "GemCut$Trial" 95 yX4_weightAt ∈ TB := tb3 83 rfl rfl
theorem tw_3_84 : Cond.instanceMethod yX4_weightAt ∈ TB := tb3 84 rfl rfl
theorem tw_3_85 : Cond.selects "GemCut$Trial" yX4_weightAt yX4_weightAt ∈ TB := tb3 85 rfl rfl
theorem tw_3_86 : Cond.code yX4_weightAt cX4_weightAt 2 (some FieldType.int) ∈ TB := tb3 86 rfl rfl
theorem tw_3_87 : Cond.methodLink "GemCut$Trial" 86 ⟨"java/lang/Math", "min", "(II)I"⟩ ∈ TB := tb3 87 rfl rfl
theorem tw_3_88 : Cond.static ⟨"java/lang/Math", "min", "(II)I"⟩ ∈ TB := tb3 88 rfl rfl
theorem tw_3_89 : Cond.code ⟨"java/lang/Math", "min", "(II)I"⟩ prog_13_method_69_code 2 (some FieldType.int) ∈ TB := tb3 89 rfl rfl
theorem tw_3_91 : Cond.methodLink "GemCut" 113 yX4_giveAbove ∈ TB := tb3 91 rfl rfl
theorem tw_3_92 : Cond.instanceMethod yX4_giveAbove ∈ TB := tb3 92 rfl rfl
theorem tw_3_93 : Cond.selects "GemCut$Trial" yX4_giveAbove yX4_giveAbove ∈ TB := tb3 93 rfl rfl
theorem tw_3_94 : Cond.code yX4_giveAbove cX4_giveAbove 5 none ∈ TB := tb3 94 rfl rfl
theorem tw_3_95 : Cond.methodLink "GemCut$Trial" 99 yX2_size ∈ TB := tb3 95 rfl rfl
theorem tw_3_96 : Cond.methodLink "GemCutLaw" 90 yL_cut ∈ TB := tb3 96 rfl rfl
theorem tw_3_97 : Cond.static yL_cut ∈ TB := tb3 97 rfl rfl
theorem tw_3_98 : Cond.codeWith yL_cut cL_cut 8 (some FieldType.int) [(0, 16, 19, 19), (0, 16, 23, 13), (0, 16, 27, 21)] ∈ TB := tb3 98 rfl rfl
theorem tw_3_99 : Cond.methodLink "GemCutLaw" 32 yX5_cut ∈ TB := tb3 99 rfl rfl
theorem tw_3_100 : Cond.instanceMethod yX5_cut ∈ TB := tb3 100 rfl rfl
theorem tw_3_101 : Cond.selects "GemCut" yX5_cut yX5_cut ∈ TB := tb3 101 rfl rfl
theorem tw_3_102 : Cond.code yX5_cut cX5_cut 9 (some FieldType.int) ∈ TB := tb3 102 rfl rfl
theorem tw_3_104 : Cond.methodLink "GemCut" 127 yX3_keep ∈ TB := tb3 104 rfl rfl
theorem tw_3_105 : Cond.instanceMethod yX3_keep ∈ TB := tb3 105 rfl rfl
theorem tw_3_106 : Cond.selects "GemCut$Stone" yX3_keep yX3_keep ∈ TB := tb3 106 rfl rfl
theorem tw_3_107 : Cond.code yX3_keep cX3_keep 5 none ∈ TB := tb3 107 rfl rfl
theorem tw_3_108 : Cond.methodLink "GemCut$Stone" 38 yX1_set ∈ TB := tb3 108 rfl rfl
theorem tw_3_109 : Cond.methodLink "GemCut" 131 yX5_spend ∈ TB := tb3 109 rfl rfl
theorem tw_3_111 : Cond.instanceMethod yX5_spend ∈ TB := tb3 111 rfl rfl
theorem tw_3_112 : Cond.code yX5_spend cX5_spend 2 none ∈ TB := tb3 112 rfl rfl
theorem tw_3_113 : Cond.methodLink "GemCutLaw" 93 yL_polish ∈ TB := tb3 113 rfl rfl
theorem tw_3_114 : Cond.static yL_polish ∈ TB := tb3 114 rfl rfl
theorem tw_3_115 : Cond.codeWith yL_polish cL_polish 5 (some FieldType.int) [(0, 10, 13, 19), (0, 10, 17, 21)] ∈ TB := tb3 115 rfl rfl
theorem tw_3_116 : Cond.methodLink "GemCutLaw" 35 yX5_polish ∈ TB := tb3 116 rfl rfl
theorem tw_3_117 : Cond.instanceMethod yX5_polish ∈ TB := tb3 117 rfl rfl
theorem tw_3_118 : Cond.selects "GemCut" yX5_polish yX5_polish ∈ TB := tb3 118 rfl rfl
theorem tw_3_119 : Cond.code yX5_polish cX5_polish 5 (some FieldType.int) ∈ TB := tb3 119 rfl rfl
theorem tw_3_120 : Cond.methodLink "GemCut" 134 yX5_wantPlane ∈ TB := tb3 120 rfl rfl
theorem tw_3_122 : Cond.instanceMethod yX5_wantPlane ∈ TB := tb3 122 rfl rfl
theorem tw_3_123 : Cond.code yX5_wantPlane cX5_wantPlane 3 none ∈ TB := tb3 123 rfl rfl
theorem tw_3_125 : Cond.methodLink "GemCut" 146 yX1_isFacet ∈ TB := tb3 125 rfl rfl
theorem tw_3_127 : Cond.methodLink "GemCutLaw" 101 yL_stone ∈ TB := tb3 127 rfl rfl
theorem tw_3_128 : Cond.static yL_stone ∈ TB := tb3 128 rfl rfl
theorem tw_3_129 : Cond.codeWith yL_stone cL_stone 5 (some FieldType.int) [(0, 10, 13, 19)] ∈ TB := tb3 129 rfl rfl
theorem tw_3_130 : Cond.methodLink "GemCutLaw" 39 yX5_stone ∈ TB := tb3 130 rfl rfl
theorem tw_3_131 : Cond.instanceMethod yX5_stone ∈ TB := tb3 131 rfl rfl
theorem tw_3_132 : Cond.selects "GemCut" yX5_stone yX5_stone ∈ TB := tb3 132 rfl rfl
theorem tw_3_133 : Cond.code yX5_stone cX5_stone 3 (some FieldType.int) ∈ TB := tb3 133 rfl rfl
theorem tw_3_134 : Cond.methodLink "GemCutLaw" 104 yL_plane ∈ TB := tb3 134 rfl rfl
theorem tw_3_135 : Cond.static yL_plane ∈ TB := tb3 135 rfl rfl
theorem tw_3_136 : Cond.codeWith yL_plane cL_plane 6 (some FieldType.int) [(0, 12, 15, 19)] ∈ TB := tb3 136 rfl rfl
theorem tw_3_137 : Cond.methodLink "GemCutLaw" 42 yX5_plane ∈ TB := tb3 137 rfl rfl
theorem tw_3_138 : Cond.instanceMethod yX5_plane ∈ TB := tb3 138 rfl rfl
theorem tw_3_139 : Cond.selects "GemCut" yX5_plane yX5_plane ∈ TB := tb3 139 rfl rfl
theorem tw_3_140 : Cond.code yX5_plane cX5_plane 4 (some FieldType.int) ∈ TB := tb3 140 rfl rfl
theorem tw_3_141 : Cond.methodLink "GemCutLaw" 107 yL_angle ∈ TB := tb3 141 rfl rfl
theorem tw_3_142 : Cond.static yL_angle ∈ TB := tb3 142 rfl rfl
theorem tw_3_143 : Cond.codeWith yL_angle cL_angle 6 (some FieldType.int) [(0, 12, 15, 19)] ∈ TB := tb3 143 rfl rfl
theorem tw_3_144 : Cond.methodLink "GemCutLaw" 45 yX5_angle ∈ TB := tb3 144 rfl rfl
theorem tw_3_145 : Cond.instanceMethod yX5_angle ∈ TB := tb3 145 rfl rfl
theorem tw_3_146 : Cond.selects "GemCut" yX5_angle yX5_angle ∈ TB := tb3 146 rfl rfl
theorem tw_3_147 : Cond.code yX5_angle cX5_angle 4 (some FieldType.int) ∈ TB := tb3 147 rfl rfl
theorem tw_3_148 : Cond.methodLink "GemCut" 163 yX1_angleTo ∈ TB := tb3 148 rfl rfl
theorem tw_3_149 : Cond.instanceMethod yX1_angleTo ∈ TB := tb3 149 rfl rfl
theorem tw_3_150 : Cond.selects "GemCut$Plane" yX1_angleTo yX1_angleTo ∈ TB := tb3 150 rfl rfl
theorem tw_3_151 : Cond.code yX1_angleTo cX1_angleTo 5 (some FieldType.int) ∈ TB := tb3 151 rfl rfl
theorem tw_3_152 : Cond.methodLink "GemCut$Plane" 46 yX1_productWith ∈ TB := tb3 152 rfl rfl
theorem tw_3_153 : Cond.instanceMethod yX1_productWith ∈ TB := tb3 153 rfl rfl
theorem tw_3_154 : Cond.selects "GemCut$Plane" yX1_productWith yX1_productWith ∈ TB := tb3 154 rfl rfl
theorem tw_3_155 : Cond.code yX1_productWith cX1_productWith 2 (some FieldType.int) ∈ TB := tb3 155 rfl rfl
theorem tw_3_156 : Cond.methodLink "GemCutLaw" 110 yL_count ∈ TB := tb3 156 rfl rfl
theorem tw_3_157 : Cond.static yL_count ∈ TB := tb3 157 rfl rfl
theorem tw_3_158 : Cond.codeWith yL_count cL_count 4 (some FieldType.int) [(0, 9, 12, 19)] ∈ TB := tb3 158 rfl rfl
theorem tw_3_159 : Cond.methodLink "GemCutLaw" 48 yX5_count ∈ TB := tb3 159 rfl rfl
theorem tw_3_160 : Cond.instanceMethod yX5_count ∈ TB := tb3 160 rfl rfl
theorem tw_3_161 : Cond.selects "GemCut" yX5_count yX5_count ∈ TB := tb3 161 rfl rfl
theorem tw_3_162 : Cond.code yX5_count cX5_count 2 (some FieldType.int) ∈ TB := tb3 162 rfl rfl
theorem tw_3_163 : Cond.methodLink "GemCutLaw" 114 yL_would ∈ TB := tb3 163 rfl rfl
theorem tw_3_164 : Cond.static yL_would ∈ TB := tb3 164 rfl rfl
theorem tw_3_165 : Cond.codeWith yL_would cL_would 9 (some FieldType.int) [(0, 18, 21, 19), (0, 18, 25, 13)] ∈ TB := tb3 165 rfl rfl
theorem tw_3_166 : Cond.methodLink "GemCutLaw" 52 yX5_would ∈ TB := tb3 166 rfl rfl
theorem tw_3_167 : Cond.instanceMethod yX5_would ∈ TB := tb3 167 rfl rfl
theorem tw_3_168 : Cond.selects "GemCut" yX5_would yX5_would ∈ TB := tb3 168 rfl rfl
theorem tw_3_169 : Cond.code yX5_would cX5_would 7 (some FieldType.int) ∈ TB := tb3 169 rfl rfl
theorem tw_3_170 : Cond.methodLink "GemCut" 170 yX4_aim ∈ TB := tb3 170 rfl rfl
theorem tw_3_171 : Cond.instanceMethod yX4_aim ∈ TB := tb3 171 rfl rfl
theorem tw_3_172 : Cond.selects "GemCut$Trial" yX4_aim yX4_aim ∈ TB := tb3 172 rfl rfl
theorem tw_3_173 : Cond.code yX4_aim cX4_aim 9 none ∈ TB := tb3 173 rfl rfl
theorem tw_3_174 : Cond.methodLink "GemCut$Trial" 68 yX4_level ∈ TB := tb3 174 rfl rfl
theorem tw_3_175 : Cond.methodLink "GemCut$Trial" 72 yX4_lowerFloors ∈ TB := tb3 175 rfl rfl
theorem tw_3_177 : Cond.instanceMethod yX4_lowerFloors ∈ TB := tb3 177 rfl rfl
theorem tw_3_178 : Cond.code yX4_lowerFloors cX4_lowerFloors 6 none ∈ TB := tb3 178 rfl rfl
theorem tw_3_179 : Cond.methodLink "GemCut$Trial" 82 yX1_touches ∈ TB := tb3 179 rfl rfl
theorem tw_3_180 : Cond.methodLink "GemCut" 173 yX4_worthAt ∈ TB := tb3 180 rfl rfl
theorem tw_3_181 : Cond.instanceMethod yX4_worthAt ∈ TB := tb3 181 rfl rfl
theorem tw_3_182 : Cond.selects "GemCut$Trial" yX4_worthAt yX4_worthAt ∈ TB := tb3 182 rfl rfl
theorem tw_3_183 : Cond.code yX4_worthAt cX4_worthAt 4 (some FieldType.int) ∈ TB := tb3 183 rfl rfl
theorem tw_3_184 : Cond.methodLink "GemCut$Trial" 140 yX4_stateAt ∈ TB := tb3 184 rfl rfl
theorem tw_3_185 : Cond.instanceMethod yX4_stateAt ∈ TB := tb3 185 rfl rfl
theorem tw_3_186 : Cond.selects "GemCut$Trial" yX4_stateAt yX4_stateAt ∈ TB := tb3 186 rfl rfl
theorem tw_3_187 : Cond.code yX4_stateAt cX4_stateAt 6 (some FieldType.int) ∈ TB := tb3 187 rfl rfl
theorem tw_3_188 : Cond.methodLink "GemCut$Trial" 144 yX0_pointsIf ∈ TB := tb3 188 rfl rfl
theorem tw_3_189 : Cond.methodLink "GemCut$Trial" 147 yX4_polishedAt ∈ TB := tb3 189 rfl rfl
theorem tw_3_190 : Cond.instanceMethod yX4_polishedAt ∈ TB := tb3 190 rfl rfl
theorem tw_3_191 : Cond.selects "GemCut$Trial" yX4_polishedAt yX4_polishedAt ∈ TB := tb3 191 rfl rfl
theorem tw_3_192 : Cond.code yX4_polishedAt cX4_polishedAt 4 (some FieldType.int) ∈ TB := tb3 192 rfl rfl
theorem tw_3_193 : Cond.methodLink "GemCut$Trial" 150 yX4_pairsAt ∈ TB := tb3 193 rfl rfl
theorem tw_3_194 : Cond.instanceMethod yX4_pairsAt ∈ TB := tb3 194 rfl rfl
theorem tw_3_195 : Cond.selects "GemCut$Trial" yX4_pairsAt yX4_pairsAt ∈ TB := tb3 195 rfl rfl
theorem tw_3_196 : Cond.code yX4_pairsAt cX4_pairsAt 5 (some FieldType.int) ∈ TB := tb3 196 rfl rfl
theorem tw_3_197 : Cond.methodLink "GemCut$Trial" 106 yX4_wouldBeFacet ∈ TB := tb3 197 rfl rfl
theorem tw_3_198 : Cond.instanceMethod yX4_wouldBeFacet ∈ TB := tb3 198 rfl rfl
theorem tw_3_199 : Cond.selects "GemCut$Trial" yX4_wouldBeFacet yX4_wouldBeFacet ∈ TB := tb3 199 rfl rfl
theorem tw_3_200 : Cond.code yX4_wouldBeFacet cX4_wouldBeFacet 2 (some FieldType.boolean) ∈ TB := tb3 200 rfl rfl
theorem tw_3_201 : Cond.methodLink "GemCut$Trial" 110 yX1_isOpposite ∈ TB := tb3 201 rfl rfl
theorem tw_3_202 : Cond.methodLink "GemCut$Trial" 114 yX4_laterOpposites ∈ TB := tb3 202 rfl rfl
theorem tw_3_204 : Cond.instanceMethod yX4_laterOpposites ∈ TB := tb3 204 rfl rfl
theorem tw_3_205 : Cond.code yX4_laterOpposites cX4_laterOpposites 5 (some FieldType.int) ∈ TB := tb3 205 rfl rfl
theorem tw_3_207 : Cond.methodLink "GemCut" 176 yX4_openFlawsAt ∈ TB := tb3 207 rfl rfl
theorem tw_3_208 : Cond.instanceMethod yX4_openFlawsAt ∈ TB := tb3 208 rfl rfl
theorem tw_3_209 : Cond.selects "GemCut$Trial" yX4_openFlawsAt yX4_openFlawsAt ∈ TB := tb3 209 rfl rfl
theorem tw_3_210 : Cond.code yX4_openFlawsAt cX4_openFlawsAt 4 (some FieldType.int) ∈ TB := tb3 210 rfl rfl
theorem tw_3_211 : Cond.methodLink "GemCut" 179 yX4_pairsAt ∈ TB := tb3 211 rfl rfl
theorem tw_3_212 : Cond.methodLink "GemCutLaw" 118 yL_depth ∈ TB := tb3 212 rfl rfl
theorem tw_3_213 : Cond.static yL_depth ∈ TB := tb3 213 rfl rfl
theorem tw_3_214 : Cond.codeWith yL_depth cL_depth 7 (some FieldType.int) [(0, 14, 17, 19), (0, 14, 21, 13), (0, 14, 25, 21)] ∈ TB := tb3 214 rfl rfl
theorem tw_3_215 : Cond.methodLink "GemCutLaw" 56 yX5_depth ∈ TB := tb3 215 rfl rfl
theorem tw_3_216 : Cond.instanceMethod yX5_depth ∈ TB := tb3 216 rfl rfl
theorem tw_3_217 : Cond.selects "GemCut" yX5_depth yX5_depth ∈ TB := tb3 217 rfl rfl
theorem tw_3_218 : Cond.code yX5_depth cX5_depth 5 (some FieldType.int) ∈ TB := tb3 218 rfl rfl
theorem tw_3_220 : Cond.methodLink "GemCut" 184 yX4_bestDepth ∈ TB := tb3 220 rfl rfl
theorem tw_3_221 : Cond.instanceMethod yX4_bestDepth ∈ TB := tb3 221 rfl rfl
theorem tw_3_222 : Cond.selects "GemCut$Trial" yX4_bestDepth yX4_bestDepth ∈ TB := tb3 222 rfl rfl
theorem tw_3_223 : Cond.code yX4_bestDepth cX4_bestDepth 5 (some FieldType.int) ∈ TB := tb3 223 rfl rfl
theorem tw_3_224 : Cond.methodLink "GemCut$Trial" 157 yX4_isWithin ∈ TB := tb3 224 rfl rfl
theorem tw_3_226 : Cond.instanceMethod yX4_isWithin ∈ TB := tb3 226 rfl rfl
theorem tw_3_227 : Cond.code yX4_isWithin cX4_isWithin 2 (some FieldType.boolean) ∈ TB := tb3 227 rfl rfl
theorem tw_3_228 : Cond.methodLink "GemCut$Trial" 160 yX4_worthAt ∈ TB := tb3 228 rfl rfl
theorem tw_3_229 : Cond.methodLink "GemCutLaw" 122 yL_rid ∈ TB := tb3 229 rfl rfl
theorem tw_3_230 : Cond.static yL_rid ∈ TB := tb3 230 rfl rfl
theorem tw_3_231 : Cond.codeWith yL_rid cL_rid 6 (some FieldType.int) [(0, 12, 15, 19)] ∈ TB := tb3 231 rfl rfl
theorem tw_3_232 : Cond.methodLink "GemCutLaw" 60 yX5_rid ∈ TB := tb3 232 rfl rfl
theorem tw_3_233 : Cond.instanceMethod yX5_rid ∈ TB := tb3 233 rfl rfl
theorem tw_3_234 : Cond.selects "GemCut" yX5_rid yX5_rid ∈ TB := tb3 234 rfl rfl
theorem tw_3_235 : Cond.code yX5_rid cX5_rid 5 (some FieldType.int) ∈ TB := tb3 235 rfl rfl
theorem tw_3_236 : Cond.methodLink "GemCut" 196 yX4_leastLoss ∈ TB := tb3 236 rfl rfl
theorem tw_3_237 : Cond.instanceMethod yX4_leastLoss ∈ TB := tb3 237 rfl rfl
theorem tw_3_238 : Cond.selects "GemCut$Trial" yX4_leastLoss yX4_leastLoss ∈ TB := tb3 238 rfl rfl
theorem tw_3_239 : Cond.code yX4_leastLoss cX4_leastLoss 12 (some FieldType.int) ∈ TB := tb3 239 rfl rfl
theorem tw_4_0 : Cond.methodLink "GemCut$Trial" 163 yX4_lowestOf ∈ TB := tb4 0 rfl rfl
theorem tw_4_2 : Cond.instanceMethod yX4_lowestOf ∈ TB := tb4 2 rfl rfl
theorem tw_4_3 : Cond.code yX4_lowestOf cX4_lowestOf 5 (some FieldType.int) ∈ TB := tb4 3 rfl rfl
theorem tw_4_4 : Cond.methodLink "GemCut$Trial" 167 yX4_lossAt ∈ TB := tb4 4 rfl rfl
theorem tw_4_5 : Cond.classLink "GemCutLaw" 64 "GemCutModel" ∈ TB := tb4 5 rfl rfl
theorem tw_4_6 : Cond.instantiable "GemCutModel" 12 ∈ TB := tb4 6 rfl rfl
theorem tw_4_7 : Cond.methodLink "GemCutLaw" 66 yX6_init ∈ TB := tb4 7 rfl rfl
theorem tw_4_8 : Cond.instanceMethod yX6_init ∈ TB := tb4 8 rfl rfl
theorem tw_4_9 : Cond.code yX6_init cX6_init 1 none ∈ TB := tb4 9 rfl rfl
theorem tw_4_10 : Cond.methodLink "GemCutModel" 1 ⟨"java/lang/Object", "<init>", "()V"⟩ ∈ TB := tb4 10 rfl rfl
theorem tw_4_11 : Cond.methodLink "GemCutModel" 22 yX6_begin ∈ TB := tb4 11 rfl rfl
theorem tw_4_13 : Cond.instanceMethod yX6_begin ∈ TB := tb4 13 rfl rfl
theorem tw_4_14 : Cond.code yX6_begin cX6_begin 5 none ∈ TB := tb4 14 rfl rfl
theorem tw_4_15 : Cond.methodLink "GemCutModel" 50 yX6_isCell ∈ TB := tb4 15 rfl rfl
theorem tw_4_17 : Cond.instanceMethod yX6_isCell ∈ TB := tb4 17 rfl rfl
theorem tw_4_18 : Cond.code yX6_isCell cX6_isCell 4 (some FieldType.boolean) ∈ TB := tb4 18 rfl rfl
theorem tw_4_19 : Cond.methodLink "GemCutModel" 33 yX6_isIn ∈ TB := tb4 19 rfl rfl
theorem tw_4_20 : Cond.static yX6_isIn ∈ TB := tb4 20 rfl rfl
theorem tw_4_21 : Cond.code yX6_isIn cX6_isIn 3 (some FieldType.boolean) ∈ TB := tb4 21 rfl rfl
theorem tw_4_22 : Cond.fieldLink "GemCutModel" 26 "GemCutModel" "thrown" "I" ∈ TB := tb4 22 rfl rfl
theorem tw_4_23 : Cond.fieldLink "GemCutModel" 30 "GemCutModel" "columns" "I" ∈ TB := tb4 23 rfl rfl
theorem tw_4_24 : Cond.fieldLink "GemCutModel" 37 "GemCutModel" "rows" "I" ∈ TB := tb4 24 rfl rfl
theorem tw_4_25 : Cond.fieldLink "GemCutModel" 40 "GemCutModel" "layers" "I" ∈ TB := tb4 25 rfl rfl
theorem tw_4_26 : Cond.fieldLink "GemCutModel" 9 "GemCutModel" "cells" "[I" ∈ TB := tb4 26 rfl rfl
theorem tw_4_27 : Cond.fieldLink "GemCutModel" 53 "GemCutModel" "flaws" "I" ∈ TB := tb4 27 rfl rfl
theorem tw_4_28 : Cond.fieldLink "GemCutModel" 13 "GemCutModel" "flawTable" "[I" ∈ TB := tb4 28 rfl rfl
theorem tw_4_29 : Cond.fieldLink "GemCutModel" 43 "GemCutModel" "stones" "I" ∈ TB := tb4 29 rfl rfl
theorem tw_4_30 : Cond.fieldLink "GemCutModel" 16 "GemCutModel" "planeTable" "[I" ∈ TB := tb4 30 rfl rfl
theorem tw_4_31 : Cond.fieldLink "GemCutModel" 19 "GemCutModel" "many" "[I" ∈ TB := tb4 31 rfl rfl
theorem tw_4_32 : Cond.fieldLink "GemCutModel" 56 "GemCutModel" "wheel" "I" ∈ TB := tb4 32 rfl rfl
theorem tw_4_33 : Cond.fieldLink "GemCutModel" 59 "GemCutModel" "spent" "I" ∈ TB := tb4 33 rfl rfl
theorem tw_4_34 : Cond.lays "GemCutModel" "GemCutModel" "thrown" "I" ∈ TB := tb4 34 rfl rfl
theorem tw_4_36 : Cond.lays "GemCutModel" "GemCutModel" "columns" "I" ∈ TB := tb4 36 rfl rfl
theorem tw_4_38 : Cond.lays "GemCutModel" "GemCutModel" "rows" "I" ∈ TB := tb4 38 rfl rfl
theorem tw_4_40 : Cond.lays "GemCutModel" "GemCutModel" "layers" "I" ∈ TB := tb4 40 rfl rfl
theorem tw_4_42 : Cond.laysFinal "GemCutModel" "GemCutModel" "cells" "[I" ∈ TB := tb4 42 rfl rfl
theorem tw_4_44 : Cond.lays "GemCutModel" "GemCutModel" "flaws" "I" ∈ TB := tb4 44 rfl rfl
theorem tw_4_46 : Cond.laysFinal "GemCutModel" "GemCutModel" "flawTable" "[I" ∈ TB := tb4 46 rfl rfl
theorem tw_4_48 : Cond.lays "GemCutModel" "GemCutModel" "stones" "I" ∈ TB := tb4 48 rfl rfl
theorem tw_4_50 : Cond.laysFinal "GemCutModel" "GemCutModel" "planeTable" "[I" ∈ TB := tb4 50 rfl rfl
theorem tw_4_52 : Cond.laysFinal "GemCutModel" "GemCutModel" "many" "[I" ∈ TB := tb4 52 rfl rfl
theorem tw_4_54 : Cond.lays "GemCutModel" "GemCutModel" "wheel" "I" ∈ TB := tb4 54 rfl rfl
theorem tw_4_56 : Cond.lays "GemCutModel" "GemCutModel" "spent" "I" ∈ TB := tb4 56 rfl rfl
theorem tw_4_59 : Cond.methodLink "GemCutLaw" 73 yX6_thrown ∈ TB := tb4 59 rfl rfl
theorem tw_4_60 : Cond.instanceMethod yX6_thrown ∈ TB := tb4 60 rfl rfl
theorem tw_4_61 : Cond.selects "GemCutModel" yX6_thrown yX6_thrown ∈ TB := tb4 61 rfl rfl
theorem tw_4_62 : Cond.code yX6_thrown cX6_thrown 1 (some FieldType.int) ∈ TB := tb4 62 rfl rfl
theorem tw_4_63 : Cond.methodLink "GemCutLaw" 72 yX6_take ∈ TB := tb4 63 rfl rfl
theorem tw_4_64 : Cond.instanceMethod yX6_take ∈ TB := tb4 64 rfl rfl
theorem tw_4_65 : Cond.selects "GemCutModel" yX6_take yX6_take ∈ TB := tb4 65 rfl rfl
theorem tw_4_66 : Cond.code yX6_take cX6_take 4 (some FieldType.int) ∈ TB := tb4 66 rfl rfl
theorem tw_4_67 : Cond.methodLink "GemCutModel" 62 yX6_fail ∈ TB := tb4 67 rfl rfl
theorem tw_4_69 : Cond.instanceMethod yX6_fail ∈ TB := tb4 69 rfl rfl
theorem tw_4_70 : Cond.code yX6_fail cX6_fail 2 (some FieldType.int) ∈ TB := tb4 70 rfl rfl
theorem tw_4_71 : Cond.methodLink "GemCutLaw" 80 yX6_flaw ∈ TB := tb4 71 rfl rfl
theorem tw_4_72 : Cond.instanceMethod yX6_flaw ∈ TB := tb4 72 rfl rfl
theorem tw_4_73 : Cond.selects "GemCutModel" yX6_flaw yX6_flaw ∈ TB := tb4 73 rfl rfl
theorem tw_4_74 : Cond.code yX6_flaw cX6_flaw 7 (some FieldType.int) ∈ TB := tb4 74 rfl rfl
theorem tw_4_75 : Cond.methodLink "GemCutModel" 66 ⟨"java/lang/System", "arraycopy", "(Ljava/lang/Object;ILjava/lang/Object;II)V"⟩ ∈ TB := tb4 75 rfl rfl
theorem tw_4_76 : Cond.static ⟨"java/lang/System", "arraycopy", "(Ljava/lang/Object;ILjava/lang/Object;II)V"⟩ ∈ TB := tb4 76 rfl rfl
theorem tw_4_78 : Cond.methodLink "GemCutLaw" 83 yX6_cell ∈ TB := tb4 78 rfl rfl
theorem tw_4_79 : Cond.instanceMethod yX6_cell ∈ TB := tb4 79 rfl rfl
theorem tw_4_80 : Cond.selects "GemCutModel" yX6_cell yX6_cell ∈ TB := tb4 80 rfl rfl
theorem tw_4_81 : Cond.code yX6_cell cX6_cell 4 (some FieldType.int) ∈ TB := tb4 81 rfl rfl
theorem tw_4_82 : Cond.methodLink "GemCutModel" 72 yX6_at ∈ TB := tb4 82 rfl rfl
theorem tw_4_83 : Cond.static yX6_at ∈ TB := tb4 83 rfl rfl
theorem tw_4_84 : Cond.code yX6_at cX6_at 3 (some FieldType.int) ∈ TB := tb4 84 rfl rfl
theorem tw_4_85 : Cond.methodLink "GemCutLaw" 86 yX6_flawIn ∈ TB := tb4 85 rfl rfl
theorem tw_4_86 : Cond.instanceMethod yX6_flawIn ∈ TB := tb4 86 rfl rfl
theorem tw_4_87 : Cond.selects "GemCutModel" yX6_flawIn yX6_flawIn ∈ TB := tb4 87 rfl rfl
theorem tw_4_88 : Cond.code yX6_flawIn cX6_flawIn 4 (some FieldType.int) ∈ TB := tb4 88 rfl rfl
theorem tw_4_89 : Cond.methodLink "GemCutModel" 46 yX6_isStone ∈ TB := tb4 89 rfl rfl
theorem tw_4_91 : Cond.instanceMethod yX6_isStone ∈ TB := tb4 91 rfl rfl
theorem tw_4_92 : Cond.code yX6_isStone cX6_isStone 2 (some FieldType.boolean) ∈ TB := tb4 92 rfl rfl
theorem tw_4_93 : Cond.methodLink "GemCutModel" 100 yX6_flawTold ∈ TB := tb4 93 rfl rfl
theorem tw_4_95 : Cond.instanceMethod yX6_flawTold ∈ TB := tb4 95 rfl rfl
theorem tw_4_96 : Cond.code yX6_flawTold cX6_flawTold 4 (some FieldType.int) ∈ TB := tb4 96 rfl rfl
theorem tw_4_97 : Cond.methodLink "GemCutModel" 96 yX6_flawCells ∈ TB := tb4 97 rfl rfl
theorem tw_4_99 : Cond.instanceMethod yX6_flawCells ∈ TB := tb4 99 rfl rfl
theorem tw_4_100 : Cond.code yX6_flawCells cX6_flawCells 6 (some FieldType.int) ∈ TB := tb4 100 rfl rfl
theorem tw_4_101 : Cond.methodLink "GemCutModel" 89 yX6_isFlawed ∈ TB := tb4 101 rfl rfl
theorem tw_4_103 : Cond.instanceMethod yX6_isFlawed ∈ TB := tb4 103 rfl rfl
theorem tw_4_104 : Cond.code yX6_isFlawed cX6_isFlawed 3 (some FieldType.boolean) ∈ TB := tb4 104 rfl rfl
theorem tw_4_105 : Cond.methodLink "GemCutModel" 80 yX6_fl ∈ TB := tb4 105 rfl rfl
theorem tw_4_107 : Cond.instanceMethod yX6_fl ∈ TB := tb4 107 rfl rfl
theorem tw_4_108 : Cond.code yX6_fl cX6_fl 3 (some FieldType.int) ∈ TB := tb4 108 rfl rfl
theorem tw_4_109 : Cond.methodLink "GemCutModel" 84 ⟨"java/lang/Math", "abs", "(I)I"⟩ ∈ TB := tb4 109 rfl rfl
theorem tw_4_110 : Cond.methodLink "GemCutModel" 93 yX6_isSurface ∈ TB := tb4 110 rfl rfl
theorem tw_4_112 : Cond.instanceMethod yX6_isSurface ∈ TB := tb4 112 rfl rfl
theorem tw_4_113 : Cond.code yX6_isSurface cX6_isSurface 6 (some FieldType.boolean) ∈ TB := tb4 113 rfl rfl
theorem tw_4_114 : Cond.methodLink "GemCutModel" 76 yX6_isOf ∈ TB := tb4 114 rfl rfl
theorem tw_4_116 : Cond.instanceMethod yX6_isOf ∈ TB := tb4 116 rfl rfl
theorem tw_4_117 : Cond.code yX6_isOf cX6_isOf 5 (some FieldType.boolean) ∈ TB := tb4 117 rfl rfl
theorem tw_4_118 : Cond.methodLink "GemCutLaw" 89 yX6_saw ∈ TB := tb4 118 rfl rfl
theorem tw_4_119 : Cond.instanceMethod yX6_saw ∈ TB := tb4 119 rfl rfl
theorem tw_4_120 : Cond.selects "GemCutModel" yX6_saw yX6_saw ∈ TB := tb4 120 rfl rfl
theorem tw_4_121 : Cond.code yX6_saw cX6_saw 8 (some FieldType.int) ∈ TB := tb4 121 rfl rfl
theorem tw_4_122 : Cond.methodLink "GemCutModel" 107 yX6_isTilt ∈ TB := tb4 122 rfl rfl
theorem tw_4_123 : Cond.static yX6_isTilt ∈ TB := tb4 123 rfl rfl
theorem tw_4_124 : Cond.code yX6_isTilt cX6_isTilt 4 (some FieldType.boolean) ∈ TB := tb4 124 rfl rfl
theorem tw_4_125 : Cond.methodLink "GemCutModel" 110 yX6_weight ∈ TB := tb4 125 rfl rfl
theorem tw_4_127 : Cond.instanceMethod yX6_weight ∈ TB := tb4 127 rfl rfl
theorem tw_4_128 : Cond.code yX6_weight cX6_weight 4 (some FieldType.int) ∈ TB := tb4 128 rfl rfl
theorem tw_4_129 : Cond.methodLink "GemCutModel" 113 yX6_turn ∈ TB := tb4 129 rfl rfl
theorem tw_4_131 : Cond.instanceMethod yX6_turn ∈ TB := tb4 131 rfl rfl
theorem tw_4_132 : Cond.code yX6_turn cX6_turn 9 (some FieldType.int) ∈ TB := tb4 132 rfl rfl
theorem tw_4_133 : Cond.methodLink "GemCutModel" 103 yX6_height ∈ TB := tb4 133 rfl rfl
theorem tw_4_134 : Cond.static yX6_height ∈ TB := tb4 134 rfl rfl
theorem tw_4_135 : Cond.code yX6_height cX6_height 4 (some FieldType.int) ∈ TB := tb4 135 rfl rfl
theorem tw_4_136 : Cond.methodLink "GemCutModel" 117 yX6_back ∈ TB := tb4 136 rfl rfl
theorem tw_4_138 : Cond.instanceMethod yX6_back ∈ TB := tb4 138 rfl rfl
theorem tw_4_139 : Cond.code yX6_back cX6_back 3 none ∈ TB := tb4 139 rfl rfl
theorem tw_4_140 : Cond.methodLink "GemCutLaw" 92 yX6_cut ∈ TB := tb4 140 rfl rfl
theorem tw_4_141 : Cond.instanceMethod yX6_cut ∈ TB := tb4 141 rfl rfl
theorem tw_4_142 : Cond.selects "GemCutModel" yX6_cut yX6_cut ∈ TB := tb4 142 rfl rfl
theorem tw_4_143 : Cond.code yX6_cut cX6_cut 7 (some FieldType.int) ∈ TB := tb4 143 rfl rfl
theorem tw_4_144 : Cond.methodLink "GemCutModel" 121 yX6_put ∈ TB := tb4 144 rfl rfl
theorem tw_4_146 : Cond.instanceMethod yX6_put ∈ TB := tb4 146 rfl rfl
theorem tw_4_147 : Cond.code yX6_put cX6_put 7 none ∈ TB := tb4 147 rfl rfl
theorem tw_4_148 : Cond.methodLink "GemCutModel" 125 yX6_spend ∈ TB := tb4 148 rfl rfl
theorem tw_4_150 : Cond.instanceMethod yX6_spend ∈ TB := tb4 150 rfl rfl
theorem tw_4_151 : Cond.code yX6_spend cX6_spend 2 none ∈ TB := tb4 151 rfl rfl
theorem tw_4_152 : Cond.methodLink "GemCutLaw" 96 yX6_polish ∈ TB := tb4 152 rfl rfl
theorem tw_4_153 : Cond.instanceMethod yX6_polish ∈ TB := tb4 153 rfl rfl
theorem tw_4_154 : Cond.selects "GemCutModel" yX6_polish yX6_polish ∈ TB := tb4 154 rfl rfl
theorem tw_4_155 : Cond.code yX6_polish cX6_polish 4 (some FieldType.int) ∈ TB := tb4 155 rfl rfl
theorem tw_4_156 : Cond.methodLink "GemCutModel" 134 yX6_isPlane ∈ TB := tb4 156 rfl rfl
theorem tw_4_158 : Cond.instanceMethod yX6_isPlane ∈ TB := tb4 158 rfl rfl
theorem tw_4_159 : Cond.code yX6_isPlane cX6_isPlane 3 (some FieldType.boolean) ∈ TB := tb4 159 rfl rfl
theorem tw_4_160 : Cond.methodLink "GemCutModel" 137 yX6_touch ∈ TB := tb4 160 rfl rfl
theorem tw_4_162 : Cond.instanceMethod yX6_touch ∈ TB := tb4 162 rfl rfl
theorem tw_4_163 : Cond.code yX6_touch cX6_touch 6 (some FieldType.int) ∈ TB := tb4 163 rfl rfl
theorem tw_4_164 : Cond.methodLink "GemCutModel" 128 yX6_pl ∈ TB := tb4 164 rfl rfl
theorem tw_4_166 : Cond.instanceMethod yX6_pl ∈ TB := tb4 166 rfl rfl
theorem tw_4_167 : Cond.code yX6_pl cX6_pl 4 (some FieldType.int) ∈ TB := tb4 167 rfl rfl
theorem tw_4_168 : Cond.methodLink "GemCutModel" 131 ⟨"java/lang/Math", "max", "(II)I"⟩ ∈ TB := tb4 168 rfl rfl
theorem tw_4_169 : Cond.methodLink "GemCutLaw" 100 yX6_dress ∈ TB := tb4 169 rfl rfl
theorem tw_4_170 : Cond.instanceMethod yX6_dress ∈ TB := tb4 170 rfl rfl
theorem tw_4_171 : Cond.selects "GemCutModel" yX6_dress yX6_dress ∈ TB := tb4 171 rfl rfl
theorem tw_4_172 : Cond.code yX6_dress cX6_dress 2 (some FieldType.int) ∈ TB := tb4 172 rfl rfl
theorem tw_4_173 : Cond.methodLink "GemCutLaw" 103 yX6_stone ∈ TB := tb4 173 rfl rfl
theorem tw_4_174 : Cond.instanceMethod yX6_stone ∈ TB := tb4 174 rfl rfl
theorem tw_4_175 : Cond.selects "GemCutModel" yX6_stone yX6_stone ∈ TB := tb4 175 rfl rfl
theorem tw_4_176 : Cond.code yX6_stone cX6_stone 3 (some FieldType.int) ∈ TB := tb4 176 rfl rfl
theorem tw_4_177 : Cond.methodLink "GemCutModel" 156 yX6_stoneTold ∈ TB := tb4 177 rfl rfl
theorem tw_4_179 : Cond.instanceMethod yX6_stoneTold ∈ TB := tb4 179 rfl rfl
theorem tw_4_180 : Cond.code yX6_stoneTold cX6_stoneTold 5 (some FieldType.int) ∈ TB := tb4 180 rfl rfl
theorem tw_4_181 : Cond.methodLink "GemCutModel" 143 yX6_facets ∈ TB := tb4 181 rfl rfl
theorem tw_4_183 : Cond.instanceMethod yX6_facets ∈ TB := tb4 183 rfl rfl
theorem tw_4_184 : Cond.code yX6_facets cX6_facets 5 (some FieldType.int) ∈ TB := tb4 184 rfl rfl
theorem tw_4_185 : Cond.methodLink "GemCutModel" 140 yX6_isFacet ∈ TB := tb4 185 rfl rfl
theorem tw_4_187 : Cond.instanceMethod yX6_isFacet ∈ TB := tb4 187 rfl rfl
theorem tw_4_188 : Cond.code yX6_isFacet cX6_isFacet 3 (some FieldType.boolean) ∈ TB := tb4 188 rfl rfl
theorem tw_4_189 : Cond.methodLink "GemCutModel" 147 yX6_pairs ∈ TB := tb4 189 rfl rfl
theorem tw_4_191 : Cond.instanceMethod yX6_pairs ∈ TB := tb4 191 rfl rfl
theorem tw_4_192 : Cond.code yX6_pairs cX6_pairs 7 (some FieldType.int) ∈ TB := tb4 192 rfl rfl
theorem tw_4_193 : Cond.methodLink "GemCutModel" 150 yX6_flawsIn ∈ TB := tb4 193 rfl rfl
theorem tw_4_195 : Cond.instanceMethod yX6_flawsIn ∈ TB := tb4 195 rfl rfl
theorem tw_4_196 : Cond.code yX6_flawsIn cX6_flawsIn 5 (some FieldType.int) ∈ TB := tb4 196 rfl rfl
theorem tw_4_197 : Cond.methodLink "GemCutModel" 153 yX6_worth ∈ TB := tb4 197 rfl rfl
theorem tw_4_199 : Cond.instanceMethod yX6_worth ∈ TB := tb4 199 rfl rfl
theorem tw_4_200 : Cond.code yX6_worth cX6_worth 6 (some FieldType.int) ∈ TB := tb4 200 rfl rfl
theorem tw_4_201 : Cond.methodLink "GemCutLaw" 106 yX6_plane ∈ TB := tb4 201 rfl rfl
theorem tw_4_202 : Cond.instanceMethod yX6_plane ∈ TB := tb4 202 rfl rfl
theorem tw_4_203 : Cond.selects "GemCutModel" yX6_plane yX6_plane ∈ TB := tb4 203 rfl rfl
theorem tw_4_204 : Cond.code yX6_plane cX6_plane 4 (some FieldType.int) ∈ TB := tb4 204 rfl rfl
theorem tw_4_205 : Cond.methodLink "GemCutModel" 159 yX6_planeTold ∈ TB := tb4 205 rfl rfl
theorem tw_4_207 : Cond.instanceMethod yX6_planeTold ∈ TB := tb4 207 rfl rfl
theorem tw_4_208 : Cond.code yX6_planeTold cX6_planeTold 4 (some FieldType.int) ∈ TB := tb4 208 rfl rfl
theorem tw_4_209 : Cond.methodLink "GemCutLaw" 109 yX6_angle ∈ TB := tb4 209 rfl rfl
theorem tw_4_210 : Cond.instanceMethod yX6_angle ∈ TB := tb4 210 rfl rfl
theorem tw_4_211 : Cond.selects "GemCutModel" yX6_angle yX6_angle ∈ TB := tb4 211 rfl rfl
theorem tw_4_212 : Cond.code yX6_angle cX6_angle 6 (some FieldType.int) ∈ TB := tb4 212 rfl rfl
theorem tw_4_213 : Cond.methodLink "GemCutModel" 162 yX6_product ∈ TB := tb4 213 rfl rfl
theorem tw_4_215 : Cond.instanceMethod yX6_product ∈ TB := tb4 215 rfl rfl
theorem tw_4_216 : Cond.code yX6_product cX6_product 6 (some FieldType.int) ∈ TB := tb4 216 rfl rfl
theorem tw_4_217 : Cond.methodLink "GemCutLaw" 113 yX6_count ∈ TB := tb4 217 rfl rfl
theorem tw_4_218 : Cond.instanceMethod yX6_count ∈ TB := tb4 218 rfl rfl
theorem tw_4_219 : Cond.selects "GemCutModel" yX6_count yX6_count ∈ TB := tb4 219 rfl rfl
theorem tw_4_220 : Cond.code yX6_count cX6_count 2 (some FieldType.int) ∈ TB := tb4 220 rfl rfl
theorem tw_4_221 : Cond.methodLink "GemCutModel" 165 yX6_counted ∈ TB := tb4 221 rfl rfl
theorem tw_4_223 : Cond.instanceMethod yX6_counted ∈ TB := tb4 223 rfl rfl
theorem tw_4_224 : Cond.code yX6_counted cX6_counted 4 (some FieldType.int) ∈ TB := tb4 224 rfl rfl
theorem tw_4_225 : Cond.methodLink "GemCutLaw" 117 yX6_would ∈ TB := tb4 225 rfl rfl
theorem tw_4_226 : Cond.instanceMethod yX6_would ∈ TB := tb4 226 rfl rfl
theorem tw_4_227 : Cond.selects "GemCutModel" yX6_would yX6_would ∈ TB := tb4 227 rfl rfl
theorem tw_4_228 : Cond.code yX6_would cX6_would 7 (some FieldType.int) ∈ TB := tb4 228 rfl rfl
theorem tw_4_229 : Cond.methodLink "GemCutModel" 168 yX6_look ∈ TB := tb4 229 rfl rfl
theorem tw_4_231 : Cond.instanceMethod yX6_look ∈ TB := tb4 231 rfl rfl
theorem tw_4_232 : Cond.code yX6_look cX6_look 9 (some FieldType.int) ∈ TB := tb4 232 rfl rfl
theorem tw_4_233 : Cond.methodLink "GemCutLaw" 121 yX6_depth ∈ TB := tb4 233 rfl rfl
theorem tw_4_234 : Cond.instanceMethod yX6_depth ∈ TB := tb4 234 rfl rfl
theorem tw_4_235 : Cond.selects "GemCutModel" yX6_depth yX6_depth ∈ TB := tb4 235 rfl rfl
theorem tw_4_236 : Cond.code yX6_depth cX6_depth 9 (some FieldType.int) ∈ TB := tb4 236 rfl rfl
theorem tw_4_237 : Cond.methodLink "GemCutModel" 171 yX6_end ∈ TB := tb4 237 rfl rfl
theorem tw_4_239 : Cond.instanceMethod yX6_end ∈ TB := tb4 239 rfl rfl
theorem tw_5_0 : Cond.code yX6_end cX6_end 11 (some FieldType.int) ∈ TB := tb5 0 rfl rfl
theorem tw_5_1 : Cond.methodLink "GemCutLaw" 124 yX6_rid ∈ TB := tb5 1 rfl rfl
theorem tw_5_2 : Cond.instanceMethod yX6_rid ∈ TB := tb5 2 rfl rfl
theorem tw_5_3 : Cond.selects "GemCutModel" yX6_rid yX6_rid ∈ TB := tb5 3 rfl rfl
theorem tw_5_4 : Cond.code yX6_rid cX6_rid 13 (some FieldType.int) ∈ TB := tb5 4 rfl rfl
theorem tw_5_5 : Cond.methodLink "GemCutLaw" 129 yX6_kept ∈ TB := tb5 5 rfl rfl
theorem tw_5_6 : Cond.instanceMethod yX6_kept ∈ TB := tb5 6 rfl rfl
theorem tw_5_7 : Cond.selects "GemCutModel" yX6_kept yX6_kept ∈ TB := tb5 7 rfl rfl
theorem tw_5_8 : Cond.code yX6_kept cX6_kept 1 (some FieldType.double) ∈ TB := tb5 8 rfl rfl
theorem tw_5_9 : Cond.methodLink "GemCutLaw" 134 yX6_digest ∈ TB := tb5 9 rfl rfl
theorem tw_5_10 : Cond.instanceMethod yX6_digest ∈ TB := tb5 10 rfl rfl
theorem tw_5_11 : Cond.selects "GemCutModel" yX6_digest yX6_digest ∈ TB := tb5 11 rfl rfl
theorem tw_5_12 : Cond.code yX6_digest cX6_digest 6 (some FieldType.long) ∈ TB := tb5 12 rfl rfl
theorem tw_5_13 : Cond.constantLong "GemCutModel" 175 (577) ∈ TB := tb5 13 rfl rfl
theorem tw_5_14 : Cond.constantLong "GemCutModel" 177 (31) ∈ TB := tb5 14 rfl rfl
theorem tws_1_0 : Cond.selects "GemCut" yX5_beginRough yX5_beginRough ∈ TB := tbs1 (n := 6) 0 rfl
theorem tws_1_1 : Cond.selects "GemCut" yX5_survey yX5_survey ∈ TB := tbs1 (n := 6) 1 rfl
theorem tws_1_2 : Cond.selects "GemCut" yX5_surveyCell yX5_surveyCell ∈ TB := tbs1 (n := 6) 2 rfl
theorem tws_1_3 : Cond.selects "GemCut" yX5_cellsOfStones yX5_cellsOfStones ∈ TB := tbs1 (n := 6) 3 rfl
theorem tws_1_4 : Cond.selects "GemCut" yX5_tellCount yX5_tellCount ∈ TB := tbs1 (n := 6) 4 rfl
theorem tws_1_5 : Cond.selects "GemCut" yX5_stonesLeft yX5_stonesLeft ∈ TB := tbs1 (n := 6) 5 rfl
theorem tws_1_6 : Cond.selects "GemCut" yX5_worthOfStones yX5_worthOfStones ∈ TB := tbs1 (n := 6) 6 rfl
theorem tws_1_7 : Cond.selects "GemCut" yX5_worthOf yX5_worthOf ∈ TB := tbs1 (n := 6) 7 rfl
theorem tws_1_8 : Cond.selects "GemCut" yX5_addStone yX5_addStone ∈ TB := tbs1 (n := 6) 8 rfl
theorem tws_1_9 : Cond.selects "GemCut" yX5_tellOfStone yX5_tellOfStone ∈ TB := tbs1 (n := 6) 9 rfl
theorem tws_1_10 : Cond.selects "GemCut" yX5_flawsOfState yX5_flawsOfState ∈ TB := tbs1 (n := 6) 10 rfl
theorem tws_1_11 : Cond.selects "GemCut" yX5_tellOfFlaw yX5_tellOfFlaw ∈ TB := tbs1 (n := 6) 11 rfl
theorem tws_1_13 : Cond.selects "GemCut" yX5_wantCell yX5_wantCell ∈ TB := tbs1 (n := 6) 13 rfl
theorem tws_1_14 : Cond.selects "GemCut" yX5_wantFlaw yX5_wantFlaw ∈ TB := tbs1 (n := 6) 14 rfl
theorem tws_1_15 : Cond.selects "GemCut" yX5_wantStone yX5_wantStone ∈ TB := tbs1 (n := 6) 15 rfl
theorem tws_2_0 : Cond.selects "GemCut$Trial" yX4_levelCell yX4_levelCell ∈ TB := tbs2 (n := 6) 0 rfl
theorem tws_2_1 : Cond.selects "GemCut" yX5_spend yX5_spend ∈ TB := tbs2 (n := 6) 1 rfl
theorem tws_2_2 : Cond.selects "GemCut" yX5_wantPlane yX5_wantPlane ∈ TB := tbs2 (n := 6) 2 rfl
theorem tws_2_3 : Cond.selects "GemCut$Trial" yX4_lowerFloors yX4_lowerFloors ∈ TB := tbs2 (n := 6) 3 rfl
theorem tws_2_4 : Cond.selects "GemCut$Trial" yX4_laterOpposites yX4_laterOpposites ∈ TB := tbs2 (n := 6) 4 rfl
theorem tws_2_5 : Cond.selects "GemCut$Trial" yX4_isWithin yX4_isWithin ∈ TB := tbs2 (n := 6) 5 rfl
theorem tws_2_6 : Cond.selects "GemCut$Trial" yX4_lowestOf yX4_lowestOf ∈ TB := tbs2 (n := 6) 6 rfl
theorem tws_2_7 : Cond.selects "GemCutModel" yX6_begin yX6_begin ∈ TB := tbs2 (n := 12) 7 rfl
theorem tws_2_8 : Cond.selects "GemCutModel" yX6_isCell yX6_isCell ∈ TB := tbs2 (n := 12) 8 rfl
theorem tws_2_9 : Cond.selects "GemCutModel" yX6_fail yX6_fail ∈ TB := tbs2 (n := 12) 9 rfl
theorem tws_2_10 : Cond.selects "GemCutModel" yX6_isStone yX6_isStone ∈ TB := tbs2 (n := 12) 10 rfl
theorem tws_2_11 : Cond.selects "GemCutModel" yX6_flawTold yX6_flawTold ∈ TB := tbs2 (n := 12) 11 rfl
theorem tws_2_12 : Cond.selects "GemCutModel" yX6_flawCells yX6_flawCells ∈ TB := tbs2 (n := 12) 12 rfl
theorem tws_2_13 : Cond.selects "GemCutModel" yX6_isFlawed yX6_isFlawed ∈ TB := tbs2 (n := 12) 13 rfl
theorem tws_2_14 : Cond.selects "GemCutModel" yX6_fl yX6_fl ∈ TB := tbs2 (n := 12) 14 rfl
theorem tws_2_15 : Cond.selects "GemCutModel" yX6_isSurface yX6_isSurface ∈ TB := tbs2 (n := 12) 15 rfl
theorem tws_3_0 : Cond.selects "GemCutModel" yX6_isOf yX6_isOf ∈ TB := tbs3 (n := 12) 0 rfl
theorem tws_3_1 : Cond.selects "GemCutModel" yX6_weight yX6_weight ∈ TB := tbs3 (n := 12) 1 rfl
theorem tws_3_2 : Cond.selects "GemCutModel" yX6_turn yX6_turn ∈ TB := tbs3 (n := 12) 2 rfl
theorem tws_3_3 : Cond.selects "GemCutModel" yX6_back yX6_back ∈ TB := tbs3 (n := 12) 3 rfl
theorem tws_3_4 : Cond.selects "GemCutModel" yX6_put yX6_put ∈ TB := tbs3 (n := 12) 4 rfl
theorem tws_3_5 : Cond.selects "GemCutModel" yX6_spend yX6_spend ∈ TB := tbs3 (n := 12) 5 rfl
theorem tws_3_6 : Cond.selects "GemCutModel" yX6_isPlane yX6_isPlane ∈ TB := tbs3 (n := 12) 6 rfl
theorem tws_3_7 : Cond.selects "GemCutModel" yX6_touch yX6_touch ∈ TB := tbs3 (n := 12) 7 rfl
theorem tws_3_8 : Cond.selects "GemCutModel" yX6_pl yX6_pl ∈ TB := tbs3 (n := 12) 8 rfl
theorem tws_3_9 : Cond.selects "GemCutModel" yX6_stoneTold yX6_stoneTold ∈ TB := tbs3 (n := 12) 9 rfl
theorem tws_3_10 : Cond.selects "GemCutModel" yX6_facets yX6_facets ∈ TB := tbs3 (n := 12) 10 rfl
theorem tws_3_11 : Cond.selects "GemCutModel" yX6_isFacet yX6_isFacet ∈ TB := tbs3 (n := 12) 11 rfl
theorem tws_3_12 : Cond.selects "GemCutModel" yX6_pairs yX6_pairs ∈ TB := tbs3 (n := 12) 12 rfl
theorem tws_3_13 : Cond.selects "GemCutModel" yX6_flawsIn yX6_flawsIn ∈ TB := tbs3 (n := 12) 13 rfl
theorem tws_3_14 : Cond.selects "GemCutModel" yX6_worth yX6_worth ∈ TB := tbs3 (n := 12) 14 rfl
theorem tws_3_15 : Cond.selects "GemCutModel" yX6_planeTold yX6_planeTold ∈ TB := tbs3 (n := 12) 15 rfl
theorem tws_4_0 : Cond.selects "GemCutModel" yX6_product yX6_product ∈ TB := tbs4 (n := 12) 0 rfl
theorem tws_4_1 : Cond.selects "GemCutModel" yX6_counted yX6_counted ∈ TB := tbs4 (n := 12) 1 rfl
theorem tws_4_2 : Cond.selects "GemCutModel" yX6_look yX6_look ∈ TB := tbs4 (n := 12) 2 rfl
theorem tws_4_3 : Cond.selects "GemCutModel" yX6_end yX6_end ∈ TB := tbs4 (n := 12) 3 rfl
theorem iw_X0 : ∀ w ∈ u_ws RX0 TX0 5, w ∈ TB := by
  intro w h
  obtain ⟨k, hk, rfl⟩ := List.mem_map.mp h
  have hk := List.mem_range.mp hk
  match k, hk with
  | 0, _ => exact tw_1_46
  | 1, _ => exact tw_1_48
  | 2, _ => exact tw_1_50
  | 3, _ => exact tw_1_52
  | 4, _ => exact tw_1_54
theorem iw_X1 : ∀ w ∈ u_ws RX1 TX1 7, w ∈ TB := by
  intro w h
  obtain ⟨k, hk, rfl⟩ := List.mem_map.mp h
  have hk := List.mem_range.mp hk
  match k, hk with
  | 0, _ => exact tw_1_124
  | 1, _ => exact tw_1_126
  | 2, _ => exact tw_1_128
  | 3, _ => exact tw_1_130
  | 4, _ => exact tw_1_132
  | 5, _ => exact tw_1_134
  | 6, _ => exact tw_1_136
theorem iw_X2 : ∀ w ∈ u_ws RX2 TX2 7, w ∈ TB := by
  intro w h
  obtain ⟨k, hk, rfl⟩ := List.mem_map.mp h
  have hk := List.mem_range.mp hk
  match k, hk with
  | 0, _ => exact tw_1_82
  | 1, _ => exact tw_1_84
  | 2, _ => exact tw_1_86
  | 3, _ => exact tw_1_88
  | 4, _ => exact tw_1_90
  | 5, _ => exact tw_1_92
  | 6, _ => exact tw_1_94
theorem iw_X3 : ∀ w ∈ u_ws RX3 TX3 5, w ∈ TB := by
  intro w h
  obtain ⟨k, hk, rfl⟩ := List.mem_map.mp h
  have hk := List.mem_range.mp hk
  match k, hk with
  | 0, _ => exact tw_1_153
  | 1, _ => exact tw_1_155
  | 2, _ => exact tw_1_157
  | 3, _ => exact tw_1_159
  | 4, _ => exact tw_1_161
theorem iw_X4 : ∀ w ∈ u_ws RX4 TX4 6, w ∈ TB := by
  intro w h
  obtain ⟨k, hk, rfl⟩ := List.mem_map.mp h
  have hk := List.mem_range.mp hk
  match k, hk with
  | 0, _ => exact tw_1_178
  | 1, _ => exact tw_1_180
  | 2, _ => exact tw_1_182
  | 3, _ => exact tw_1_184
  | 4, _ => exact tw_1_186
  | 5, _ => exact tw_1_188
theorem iw_X5 : ∀ w ∈ u_ws RX5 TX5 6, w ∈ TB := by
  intro w h
  obtain ⟨k, hk, rfl⟩ := List.mem_map.mp h
  have hk := List.mem_range.mp hk
  match k, hk with
  | 0, _ => exact tw_2_17
  | 1, _ => exact tw_2_19
  | 2, _ => exact tw_2_21
  | 3, _ => exact tw_2_23
  | 4, _ => exact tw_2_25
  | 5, _ => exact tw_2_27
theorem iw_X6 : ∀ w ∈ u_ws RX6 TX6 12, w ∈ TB := by
  intro w h
  obtain ⟨k, hk, rfl⟩ := List.mem_map.mp h
  have hk := List.mem_range.mp hk
  match k, hk with
  | 0, _ => exact tw_4_34
  | 1, _ => exact tw_4_36
  | 2, _ => exact tw_4_38
  | 3, _ => exact tw_4_40
  | 4, _ => exact tw_4_42
  | 5, _ => exact tw_4_44
  | 6, _ => exact tw_4_46
  | 7, _ => exact tw_4_48
  | 8, _ => exact tw_4_50
  | 9, _ => exact tw_4_52
  | 10, _ => exact tw_4_54
  | 11, _ => exact tw_4_56
/-- words that hold through a run but are not in TB: links to nest mates, declared methods -/
def NWn : List Cond := [Cond.methodLinkNest "GemCut$Rough" 25 yX0_init "GemCut", Cond.methodLinkNest "GemCut$Stone" 21 yX1_init "GemCut", Cond.methodLinkNest "GemCut$Trial" 11 yX1_init "GemCut", Cond.methodLinkNest "GemCut$Trial" 153 yX5_worthBy "GemCut"]
def NWd : List Cond := [Cond.declares ⟨"java/lang/RuntimeException", "<init>", "()V"⟩, Cond.declares ⟨"java/lang/RuntimeException", "<init>", "(Ljava/lang/String;)V"⟩, Cond.declares ⟨"java/lang/Exception", "<init>", "()V"⟩, Cond.declares ⟨"java/lang/Exception", "<init>", "(Ljava/lang/String;)V"⟩, Cond.declares ⟨"java/lang/Throwable", "<init>", "()V"⟩, Cond.declares ⟨"java/lang/Throwable", "<init>", "(Ljava/lang/String;)V"⟩]
/-- the texts of the exceptions: class, entry, text -/
def SRl : List (String × Nat × String) := [(RX5, 44, "a side of the rough is not 1 to 10"), (RX5, 221, "there is no such cell in the rough"), (RX5, 56, "radius is not 0 to 3, or severity is not 1 to 9"), (RX5, 64, "there are 10 flaws"), (RX5, 224, "there is no such flaw"), (RX5, 226, "there is no such stone"), (RX5, 230, "there is no such what"), (RX5, 235, "p, q or r is not -3 to 3, or all are 0"), (RX5, 237, "d is not -100 to 100"), (RX5, 108, "there are 8 stones, or one of the two would be empty"), (RX5, 125, "it keeps 16 planes, or the wheel has not enough turns"), (RX5, 228, "the stone keeps no such plane"), (RX5, 154, "it is no facet now, or polished, or the wheel has not enough turns"), (RX5, 182, "nothing is left of the stone")]
def gN (U : State) : Prop := (∀ w ∈ NWn, va_Nw w U) ∧ (∀ w ∈ NWd, va_Nw w U) ∧ ∀ q ∈ SRl, ∃ a, vk_R q.1 q.2.1 q.2.2 a U
theorem gN.warm {s U : State} (hW : s.WarmedH U.vm) (h : gN s) : gN U := by
  refine ⟨fun w hw => ?_, fun w hw => ?_, fun q hq => ?_⟩
  · have h1 : ∃ a i x h, w = .methodLinkNest a i x h := by
      simp only [NWn, List.mem_cons, List.not_mem_nil, or_false] at hw
      rcases hw with rfl|rfl|rfl|rfl <;> exact ⟨_, _, _, _, rfl⟩
    have h2 := h.1 w hw
    obtain ⟨a, i, x, h3, rfl⟩ := h1
    exact va_Nw.warmM hW h2
  · have h1 : ∃ x, w = .declares x := by
      simp only [NWd, List.mem_cons, List.not_mem_nil, or_false] at hw
      rcases hw with rfl|rfl|rfl|rfl|rfl|rfl <;> exact ⟨_, rfl⟩
    have h2 := h.2.1 w hw
    obtain ⟨x, rfl⟩ := h1
    exact va_Nw.warmD hW h2
  · obtain ⟨a, ha⟩ := h.2.2 q hq
    exact ⟨a, vk_R.warm hW ha⟩
theorem gN.same {u U : State} (h : u.vm = U.vm) (hz : gN u) : gN U := by
  refine ⟨fun w hw => ?_, fun w hw => ?_, fun q hq => ?_⟩
  · have h1 : w.onTables = true := by
      simp only [NWn, List.mem_cons, List.not_mem_nil, or_false] at hw
      rcases hw with rfl|rfl|rfl|rfl <;> rfl
    exact va_Nw.same h1 h (hz.1 w hw)
  · have h1 : w.onTables = true := by
      simp only [NWd, List.mem_cons, List.not_mem_nil, or_false] at hw
      rcases hw with rfl|rfl|rfl|rfl|rfl|rfl <;> rfl
    exact va_Nw.same h1 h (hz.2.1 w hw)
  · obtain ⟨a, ha⟩ := hz.2.2 q hq
    exact ⟨a, vk_R.same h.symm ha⟩
