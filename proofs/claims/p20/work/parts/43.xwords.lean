theorem tx_1_56 : Cond.superclass "GemCut$Flaw" "java/lang/Object" ∈ TB := tb1 56 rfl rfl
theorem tx_1_96 : Cond.superclass "GemCut$Rough" "java/lang/Object" ∈ TB := tb1 96 rfl rfl
theorem tx_1_138 : Cond.superclass "GemCut$Plane" "java/lang/Object" ∈ TB := tb1 138 rfl rfl
theorem tx_1_163 : Cond.superclass "GemCut$Stone" "java/lang/Object" ∈ TB := tb1 163 rfl rfl
theorem tx_1_190 : Cond.superclass "GemCut$Trial" "java/lang/Object" ∈ TB := tb1 190 rfl rfl
theorem tx_2_29 : Cond.superclass "GemCut" "java/lang/Object" ∈ TB := tb2 29 rfl rfl
theorem tx_2_61 : Cond.superclass "java/lang/Throwable" "java/lang/Object" ∈ TB := tb2 61 rfl rfl
theorem tx_2_74 : Cond.codeSync ⟨"java/lang/Throwable", "fillInStackTrace", "()Ljava/lang/Throwable;"⟩ prog_18_method_18_code 1 (some (FieldType.object "java/lang/Throwable")) ∈ TB := tb2 74 rfl rfl
theorem tx_2_105 : Cond.superclass "java/lang/IndexOutOfBoundsException" "java/lang/RuntimeException" ∈ TB := tb2 105 rfl rfl
theorem tx_2_159 : Cond.superclass "java/lang/IllegalArgumentException" "java/lang/RuntimeException" ∈ TB := tb2 159 rfl rfl
theorem tx_2_209 : Cond.superclass "java/lang/IllegalStateException" "java/lang/RuntimeException" ∈ TB := tb2 209 rfl rfl
theorem tx_3_204 : Cond.superclass "GemCutLaw$Sim" "java/lang/Object" ∈ TB := tb3 204 rfl rfl
set_option maxRecDepth 100000 in
set_option maxHeartbeats 4000000 in
theorem at_iae : ∀ w ∈ (vx_atS "GemCut" 46 "java/lang/IllegalArgumentException" ["java/lang/RuntimeException", "java/lang/Exception"]).filter goodWord, w ∈ TB := by
  intro w hw
  have hg := (List.mem_filter.mp hw).2
  have h3 := (List.mem_filter.mp (List.mem_filter.mp hw).1).1
  have hn := (List.mem_filter.mp (List.mem_filter.mp hw).1).2
  simp only [Bundle.ownAtoms, Bundle.throwableAtoms, Bundle.throwableSAtoms, Bundle.chainSAtoms, Bundle.passSAtoms, List.mem_append, List.mem_cons, List.not_mem_nil, or_false, List.cons_append, List.nil_append, or_assoc] at h3
  rcases h3 with rfl | rfl | rfl | rfl | rfl | rfl | rfl | rfl | rfl | rfl | rfl | rfl | rfl | rfl | rfl | rfl | rfl | rfl | rfl | rfl | rfl | rfl | rfl | rfl | rfl | rfl | rfl | rfl | rfl | rfl | rfl | rfl | rfl | rfl | rfl | rfl | rfl | rfl | rfl | rfl | rfl | rfl | rfl | rfl | rfl | rfl | rfl | rfl | rfl | rfl | rfl | rfl | rfl | rfl | rfl | rfl | rfl <;> first
  | exact tx_1_56
  | exact tx_1_96
  | exact tx_1_138
  | exact tx_1_163
  | exact tx_1_190
  | exact tx_2_29
  | exact tx_2_61
  | exact tx_2_74
  | exact tx_2_105
  | exact tx_2_159
  | exact tx_2_209
  | exact tx_3_204
  | exact tw_1_7
  | exact tw_1_8
  | exact tw_1_9
  | exact tw_1_10
  | exact tw_1_12
  | exact tw_1_13
  | exact tw_1_21
  | exact tw_1_22
  | exact tw_1_23
  | exact tw_1_29
  | exact tw_1_36
  | exact tw_1_103
  | exact tw_1_110
  | exact tw_1_169
  | exact tw_2_39
  | exact tw_2_40
  | exact tw_2_48
  | exact tw_2_49
  | exact tw_2_50
  | exact tw_2_51
  | exact tw_2_52
  | exact tw_2_53
  | exact tw_2_54
  | exact tw_2_55
  | exact tw_2_56
  | exact tw_2_57
  | exact tw_2_58
  | exact tw_2_59
  | exact tw_2_60
  | exact tw_2_62
  | exact tw_2_63
  | exact tw_2_64
  | exact tw_2_65
  | exact tw_2_67
  | exact tw_2_69
  | exact tw_2_70
  | exact tw_2_72
  | exact tw_2_73
  | exact tw_2_75
  | exact tw_2_77
  | exact tw_2_78
  | exact tw_2_79
  | exact tw_2_81
  | exact tw_2_82
  | exact tw_2_83
  | exact tw_2_84
  | exact tw_2_85
  | exact tw_2_86
  | exact tw_2_87
  | exact tw_2_88
  | exact tw_2_89
  | exact tw_2_90
  | exact tw_2_91
  | exact tw_2_92
  | exact tw_2_94
  | exact tw_2_95
  | exact tw_2_96
  | exact tw_2_97
  | exact tw_2_102
  | exact tw_2_144
  | exact tw_2_145
  | exact tw_2_147
  | exact tw_2_148
  | exact tw_2_149
  | exact tw_2_150
  | exact tw_2_151
  | exact tw_2_152
  | exact tw_2_154
  | exact tw_2_155
  | exact tw_2_156
  | exact tw_2_157
  | exact tw_2_158
  | exact tw_2_194
  | exact tw_2_195
  | exact tw_2_197
  | exact tw_2_198
  | exact tw_2_199
  | exact tw_2_200
  | exact tw_2_201
  | exact tw_2_202
  | exact tw_2_204
  | exact tw_2_205
  | exact tw_2_206
  | exact tw_2_207
  | exact tw_2_208
  | exact tw_3_182
  | (exfalso; revert hg; decide)
  | (exfalso; revert hn; simp [vx_no])
set_option maxRecDepth 100000 in
set_option maxHeartbeats 4000000 in
theorem at_ioo : ∀ w ∈ (vx_atS "GemCut" 223 "java/lang/IndexOutOfBoundsException" ["java/lang/RuntimeException", "java/lang/Exception"]).filter goodWord, w ∈ TB := by
  intro w hw
  have hg := (List.mem_filter.mp hw).2
  have h3 := (List.mem_filter.mp (List.mem_filter.mp hw).1).1
  have hn := (List.mem_filter.mp (List.mem_filter.mp hw).1).2
  simp only [Bundle.ownAtoms, Bundle.throwableAtoms, Bundle.throwableSAtoms, Bundle.chainSAtoms, Bundle.passSAtoms, List.mem_append, List.mem_cons, List.not_mem_nil, or_false, List.cons_append, List.nil_append, or_assoc] at h3
  rcases h3 with rfl | rfl | rfl | rfl | rfl | rfl | rfl | rfl | rfl | rfl | rfl | rfl | rfl | rfl | rfl | rfl | rfl | rfl | rfl | rfl | rfl | rfl | rfl | rfl | rfl | rfl | rfl | rfl | rfl | rfl | rfl | rfl | rfl | rfl | rfl | rfl | rfl | rfl | rfl | rfl | rfl | rfl | rfl | rfl | rfl | rfl | rfl | rfl | rfl | rfl | rfl | rfl | rfl | rfl | rfl | rfl | rfl <;> first
  | exact tx_1_56
  | exact tx_1_96
  | exact tx_1_138
  | exact tx_1_163
  | exact tx_1_190
  | exact tx_2_29
  | exact tx_2_61
  | exact tx_2_74
  | exact tx_2_105
  | exact tx_2_159
  | exact tx_2_209
  | exact tx_3_204
  | exact tw_1_7
  | exact tw_1_8
  | exact tw_1_9
  | exact tw_1_10
  | exact tw_1_12
  | exact tw_1_13
  | exact tw_1_21
  | exact tw_1_22
  | exact tw_1_23
  | exact tw_1_29
  | exact tw_1_36
  | exact tw_1_103
  | exact tw_1_110
  | exact tw_1_169
  | exact tw_2_39
  | exact tw_2_40
  | exact tw_2_48
  | exact tw_2_49
  | exact tw_2_50
  | exact tw_2_51
  | exact tw_2_52
  | exact tw_2_53
  | exact tw_2_54
  | exact tw_2_55
  | exact tw_2_56
  | exact tw_2_57
  | exact tw_2_58
  | exact tw_2_59
  | exact tw_2_60
  | exact tw_2_62
  | exact tw_2_63
  | exact tw_2_64
  | exact tw_2_65
  | exact tw_2_67
  | exact tw_2_69
  | exact tw_2_70
  | exact tw_2_72
  | exact tw_2_73
  | exact tw_2_75
  | exact tw_2_77
  | exact tw_2_78
  | exact tw_2_79
  | exact tw_2_81
  | exact tw_2_82
  | exact tw_2_83
  | exact tw_2_84
  | exact tw_2_85
  | exact tw_2_86
  | exact tw_2_87
  | exact tw_2_88
  | exact tw_2_89
  | exact tw_2_90
  | exact tw_2_91
  | exact tw_2_92
  | exact tw_2_94
  | exact tw_2_95
  | exact tw_2_96
  | exact tw_2_97
  | exact tw_2_102
  | exact tw_2_144
  | exact tw_2_145
  | exact tw_2_147
  | exact tw_2_148
  | exact tw_2_149
  | exact tw_2_150
  | exact tw_2_151
  | exact tw_2_152
  | exact tw_2_154
  | exact tw_2_155
  | exact tw_2_156
  | exact tw_2_157
  | exact tw_2_158
  | exact tw_2_194
  | exact tw_2_195
  | exact tw_2_197
  | exact tw_2_198
  | exact tw_2_199
  | exact tw_2_200
  | exact tw_2_201
  | exact tw_2_202
  | exact tw_2_204
  | exact tw_2_205
  | exact tw_2_206
  | exact tw_2_207
  | exact tw_2_208
  | exact tw_3_182
  | (exfalso; revert hg; decide)
  | (exfalso; revert hn; simp [vx_no])
set_option maxRecDepth 100000 in
set_option maxHeartbeats 4000000 in
theorem at_ise : ∀ w ∈ (vx_atS "GemCut" 66 "java/lang/IllegalStateException" ["java/lang/RuntimeException", "java/lang/Exception"]).filter goodWord, w ∈ TB := by
  intro w hw
  have hg := (List.mem_filter.mp hw).2
  have h3 := (List.mem_filter.mp (List.mem_filter.mp hw).1).1
  have hn := (List.mem_filter.mp (List.mem_filter.mp hw).1).2
  simp only [Bundle.ownAtoms, Bundle.throwableAtoms, Bundle.throwableSAtoms, Bundle.chainSAtoms, Bundle.passSAtoms, List.mem_append, List.mem_cons, List.not_mem_nil, or_false, List.cons_append, List.nil_append, or_assoc] at h3
  rcases h3 with rfl | rfl | rfl | rfl | rfl | rfl | rfl | rfl | rfl | rfl | rfl | rfl | rfl | rfl | rfl | rfl | rfl | rfl | rfl | rfl | rfl | rfl | rfl | rfl | rfl | rfl | rfl | rfl | rfl | rfl | rfl | rfl | rfl | rfl | rfl | rfl | rfl | rfl | rfl | rfl | rfl | rfl | rfl | rfl | rfl | rfl | rfl | rfl | rfl | rfl | rfl | rfl | rfl | rfl | rfl | rfl | rfl <;> first
  | exact tx_1_56
  | exact tx_1_96
  | exact tx_1_138
  | exact tx_1_163
  | exact tx_1_190
  | exact tx_2_29
  | exact tx_2_61
  | exact tx_2_74
  | exact tx_2_105
  | exact tx_2_159
  | exact tx_2_209
  | exact tx_3_204
  | exact tw_1_7
  | exact tw_1_8
  | exact tw_1_9
  | exact tw_1_10
  | exact tw_1_12
  | exact tw_1_13
  | exact tw_1_21
  | exact tw_1_22
  | exact tw_1_23
  | exact tw_1_29
  | exact tw_1_36
  | exact tw_1_103
  | exact tw_1_110
  | exact tw_1_169
  | exact tw_2_39
  | exact tw_2_40
  | exact tw_2_48
  | exact tw_2_49
  | exact tw_2_50
  | exact tw_2_51
  | exact tw_2_52
  | exact tw_2_53
  | exact tw_2_54
  | exact tw_2_55
  | exact tw_2_56
  | exact tw_2_57
  | exact tw_2_58
  | exact tw_2_59
  | exact tw_2_60
  | exact tw_2_62
  | exact tw_2_63
  | exact tw_2_64
  | exact tw_2_65
  | exact tw_2_67
  | exact tw_2_69
  | exact tw_2_70
  | exact tw_2_72
  | exact tw_2_73
  | exact tw_2_75
  | exact tw_2_77
  | exact tw_2_78
  | exact tw_2_79
  | exact tw_2_81
  | exact tw_2_82
  | exact tw_2_83
  | exact tw_2_84
  | exact tw_2_85
  | exact tw_2_86
  | exact tw_2_87
  | exact tw_2_88
  | exact tw_2_89
  | exact tw_2_90
  | exact tw_2_91
  | exact tw_2_92
  | exact tw_2_94
  | exact tw_2_95
  | exact tw_2_96
  | exact tw_2_97
  | exact tw_2_102
  | exact tw_2_144
  | exact tw_2_145
  | exact tw_2_147
  | exact tw_2_148
  | exact tw_2_149
  | exact tw_2_150
  | exact tw_2_151
  | exact tw_2_152
  | exact tw_2_154
  | exact tw_2_155
  | exact tw_2_156
  | exact tw_2_157
  | exact tw_2_158
  | exact tw_2_194
  | exact tw_2_195
  | exact tw_2_197
  | exact tw_2_198
  | exact tw_2_199
  | exact tw_2_200
  | exact tw_2_201
  | exact tw_2_202
  | exact tw_2_204
  | exact tw_2_205
  | exact tw_2_206
  | exact tw_2_207
  | exact tw_2_208
  | exact tw_3_182
  | (exfalso; revert hg; decide)
  | (exfalso; revert hn; simp [vx_no])
