theorem tx_1_56 : Cond.superclass "GemCut$Flaw" "java/lang/Object" ∈ TB := tb1 56 rfl rfl
theorem tx_1_96 : Cond.superclass "GemCut$Rough" "java/lang/Object" ∈ TB := tb1 96 rfl rfl
theorem tx_1_138 : Cond.superclass "GemCut$Plane" "java/lang/Object" ∈ TB := tb1 138 rfl rfl
theorem tx_1_163 : Cond.superclass "GemCut$Stone" "java/lang/Object" ∈ TB := tb1 163 rfl rfl
theorem tx_1_190 : Cond.superclass "GemCut$Trial" "java/lang/Object" ∈ TB := tb1 190 rfl rfl
theorem tx_2_29 : Cond.superclass "GemCut" "java/lang/Object" ∈ TB := tb2 29 rfl rfl
theorem tx_2_148 : Cond.superclass "java/lang/Throwable" "java/lang/Object" ∈ TB := tb2 148 rfl rfl
theorem tx_2_161 : Cond.codeSync ⟨"java/lang/Throwable", "fillInStackTrace", "()Ljava/lang/Throwable;"⟩ prog_17_method_18_code 1 (some (FieldType.object "java/lang/Throwable")) ∈ TB := tb2 161 rfl rfl
theorem tx_2_192 : Cond.superclass "java/lang/IllegalArgumentException" "java/lang/RuntimeException" ∈ TB := tb2 192 rfl rfl
theorem tx_2_223 : Cond.superclass "java/lang/IndexOutOfBoundsException" "java/lang/RuntimeException" ∈ TB := tb2 223 rfl rfl
theorem tx_3_0 : Cond.superclass "java/lang/IllegalStateException" "java/lang/RuntimeException" ∈ TB := tb3 0 rfl rfl
theorem tx_4_58 : Cond.superclass "GemCutModel" "java/lang/Object" ∈ TB := tb4 58 rfl rfl
set_option maxRecDepth 100000 in
set_option maxHeartbeats 4000000 in
theorem at_iae : ∀ w ∈ (vx_atS "GemCut" 46 "java/lang/IllegalArgumentException" ["java/lang/RuntimeException", "java/lang/Exception"]).filter goodWord, w ∈ TB := by
  intro w hw
  have hg := (List.mem_filter.mp hw).2
  have h3 := (List.mem_filter.mp (List.mem_filter.mp hw).1).1
  have hn := (List.mem_filter.mp (List.mem_filter.mp hw).1).2
  simp only [Bundle.ownAtoms, Bundle.throwableAtoms, Bundle.throwableSAtoms, Bundle.chainSAtoms, Bundle.passSAtoms, List.mem_append, List.mem_cons, List.not_mem_nil, or_false, List.cons_append, List.nil_append, or_assoc] at h3
  rcases h3 with rfl | rfl | rfl | rfl | rfl | rfl | rfl | rfl | rfl | rfl | rfl | rfl | rfl | rfl | rfl | rfl | rfl | rfl | rfl | rfl | rfl | rfl | rfl | rfl | rfl | rfl | rfl | rfl | rfl | rfl | rfl | rfl | rfl | rfl | rfl | rfl | rfl | rfl | rfl | rfl | rfl | rfl | rfl | rfl | rfl | rfl | rfl | rfl | rfl | rfl | rfl | rfl | rfl | rfl | rfl | rfl | rfl <;> first
  | exact tx_1_56
  | exact tx_1_96
  | exact tx_1_138
  | exact tx_1_163
  | exact tx_1_190
  | exact tx_2_29
  | exact tx_2_148
  | exact tx_2_161
  | exact tx_2_192
  | exact tx_2_223
  | exact tx_3_0
  | exact tx_4_58
  | exact tw_1_8
  | exact tw_1_9
  | exact tw_1_10
  | exact tw_1_11
  | exact tw_1_12
  | exact tw_1_13
  | exact tw_1_21
  | exact tw_1_22
  | exact tw_1_23
  | exact tw_1_29
  | exact tw_1_36
  | exact tw_1_103
  | exact tw_1_110
  | exact tw_1_169
  | exact tw_2_118
  | exact tw_2_126
  | exact tw_2_127
  | exact tw_2_135
  | exact tw_2_136
  | exact tw_2_137
  | exact tw_2_138
  | exact tw_2_139
  | exact tw_2_140
  | exact tw_2_141
  | exact tw_2_142
  | exact tw_2_143
  | exact tw_2_144
  | exact tw_2_145
  | exact tw_2_146
  | exact tw_2_147
  | exact tw_2_149
  | exact tw_2_150
  | exact tw_2_151
  | exact tw_2_152
  | exact tw_2_154
  | exact tw_2_156
  | exact tw_2_157
  | exact tw_2_159
  | exact tw_2_160
  | exact tw_2_162
  | exact tw_2_164
  | exact tw_2_165
  | exact tw_2_166
  | exact tw_2_168
  | exact tw_2_169
  | exact tw_2_170
  | exact tw_2_171
  | exact tw_2_172
  | exact tw_2_173
  | exact tw_2_174
  | exact tw_2_175
  | exact tw_2_176
  | exact tw_2_177
  | exact tw_2_178
  | exact tw_2_179
  | exact tw_2_181
  | exact tw_2_182
  | exact tw_2_183
  | exact tw_2_184
  | exact tw_2_189
  | exact tw_2_197
  | exact tw_2_198
  | exact tw_2_208
  | exact tw_2_209
  | exact tw_2_211
  | exact tw_2_212
  | exact tw_2_213
  | exact tw_2_214
  | exact tw_2_215
  | exact tw_2_216
  | exact tw_2_218
  | exact tw_2_219
  | exact tw_2_220
  | exact tw_2_221
  | exact tw_2_222
  | exact tw_2_225
  | exact tw_2_226
  | exact tw_2_228
  | exact tw_2_229
  | exact tw_2_230
  | exact tw_2_231
  | exact tw_2_232
  | exact tw_2_233
  | exact tw_2_235
  | exact tw_2_236
  | exact tw_2_237
  | exact tw_2_238
  | exact tw_2_239
  | exact tw_4_10
  | (exfalso; revert hg; decide)
  | (exfalso; revert hn; simp [vx_no])
set_option maxRecDepth 100000 in
set_option maxHeartbeats 4000000 in
theorem at_ioo : ∀ w ∈ (vx_atS "GemCut" 223 "java/lang/IndexOutOfBoundsException" ["java/lang/RuntimeException", "java/lang/Exception"]).filter goodWord, w ∈ TB := by
  intro w hw
  have hg := (List.mem_filter.mp hw).2
  have h3 := (List.mem_filter.mp (List.mem_filter.mp hw).1).1
  have hn := (List.mem_filter.mp (List.mem_filter.mp hw).1).2
  simp only [Bundle.ownAtoms, Bundle.throwableAtoms, Bundle.throwableSAtoms, Bundle.chainSAtoms, Bundle.passSAtoms, List.mem_append, List.mem_cons, List.not_mem_nil, or_false, List.cons_append, List.nil_append, or_assoc] at h3
  rcases h3 with rfl | rfl | rfl | rfl | rfl | rfl | rfl | rfl | rfl | rfl | rfl | rfl | rfl | rfl | rfl | rfl | rfl | rfl | rfl | rfl | rfl | rfl | rfl | rfl | rfl | rfl | rfl | rfl | rfl | rfl | rfl | rfl | rfl | rfl | rfl | rfl | rfl | rfl | rfl | rfl | rfl | rfl | rfl | rfl | rfl | rfl | rfl | rfl | rfl | rfl | rfl | rfl | rfl | rfl | rfl | rfl | rfl <;> first
  | exact tx_1_56
  | exact tx_1_96
  | exact tx_1_138
  | exact tx_1_163
  | exact tx_1_190
  | exact tx_2_29
  | exact tx_2_148
  | exact tx_2_161
  | exact tx_2_192
  | exact tx_2_223
  | exact tx_3_0
  | exact tx_4_58
  | exact tw_1_8
  | exact tw_1_9
  | exact tw_1_10
  | exact tw_1_11
  | exact tw_1_12
  | exact tw_1_13
  | exact tw_1_21
  | exact tw_1_22
  | exact tw_1_23
  | exact tw_1_29
  | exact tw_1_36
  | exact tw_1_103
  | exact tw_1_110
  | exact tw_1_169
  | exact tw_2_118
  | exact tw_2_126
  | exact tw_2_127
  | exact tw_2_135
  | exact tw_2_136
  | exact tw_2_137
  | exact tw_2_138
  | exact tw_2_139
  | exact tw_2_140
  | exact tw_2_141
  | exact tw_2_142
  | exact tw_2_143
  | exact tw_2_144
  | exact tw_2_145
  | exact tw_2_146
  | exact tw_2_147
  | exact tw_2_149
  | exact tw_2_150
  | exact tw_2_151
  | exact tw_2_152
  | exact tw_2_154
  | exact tw_2_156
  | exact tw_2_157
  | exact tw_2_159
  | exact tw_2_160
  | exact tw_2_162
  | exact tw_2_164
  | exact tw_2_165
  | exact tw_2_166
  | exact tw_2_168
  | exact tw_2_169
  | exact tw_2_170
  | exact tw_2_171
  | exact tw_2_172
  | exact tw_2_173
  | exact tw_2_174
  | exact tw_2_175
  | exact tw_2_176
  | exact tw_2_177
  | exact tw_2_178
  | exact tw_2_179
  | exact tw_2_181
  | exact tw_2_182
  | exact tw_2_183
  | exact tw_2_184
  | exact tw_2_189
  | exact tw_2_197
  | exact tw_2_198
  | exact tw_2_208
  | exact tw_2_209
  | exact tw_2_211
  | exact tw_2_212
  | exact tw_2_213
  | exact tw_2_214
  | exact tw_2_215
  | exact tw_2_216
  | exact tw_2_218
  | exact tw_2_219
  | exact tw_2_220
  | exact tw_2_221
  | exact tw_2_222
  | exact tw_2_225
  | exact tw_2_226
  | exact tw_2_228
  | exact tw_2_229
  | exact tw_2_230
  | exact tw_2_231
  | exact tw_2_232
  | exact tw_2_233
  | exact tw_2_235
  | exact tw_2_236
  | exact tw_2_237
  | exact tw_2_238
  | exact tw_2_239
  | exact tw_4_10
  | (exfalso; revert hg; decide)
  | (exfalso; revert hn; simp [vx_no])
set_option maxRecDepth 100000 in
set_option maxHeartbeats 4000000 in
theorem at_ise : ∀ w ∈ (vx_atS "GemCut" 66 "java/lang/IllegalStateException" ["java/lang/RuntimeException", "java/lang/Exception"]).filter goodWord, w ∈ TB := by
  intro w hw
  have hg := (List.mem_filter.mp hw).2
  have h3 := (List.mem_filter.mp (List.mem_filter.mp hw).1).1
  have hn := (List.mem_filter.mp (List.mem_filter.mp hw).1).2
  simp only [Bundle.ownAtoms, Bundle.throwableAtoms, Bundle.throwableSAtoms, Bundle.chainSAtoms, Bundle.passSAtoms, List.mem_append, List.mem_cons, List.not_mem_nil, or_false, List.cons_append, List.nil_append, or_assoc] at h3
  rcases h3 with rfl | rfl | rfl | rfl | rfl | rfl | rfl | rfl | rfl | rfl | rfl | rfl | rfl | rfl | rfl | rfl | rfl | rfl | rfl | rfl | rfl | rfl | rfl | rfl | rfl | rfl | rfl | rfl | rfl | rfl | rfl | rfl | rfl | rfl | rfl | rfl | rfl | rfl | rfl | rfl | rfl | rfl | rfl | rfl | rfl | rfl | rfl | rfl | rfl | rfl | rfl | rfl | rfl | rfl | rfl | rfl | rfl <;> first
  | exact tx_1_56
  | exact tx_1_96
  | exact tx_1_138
  | exact tx_1_163
  | exact tx_1_190
  | exact tx_2_29
  | exact tx_2_148
  | exact tx_2_161
  | exact tx_2_192
  | exact tx_2_223
  | exact tx_3_0
  | exact tx_4_58
  | exact tw_1_8
  | exact tw_1_9
  | exact tw_1_10
  | exact tw_1_11
  | exact tw_1_12
  | exact tw_1_13
  | exact tw_1_21
  | exact tw_1_22
  | exact tw_1_23
  | exact tw_1_29
  | exact tw_1_36
  | exact tw_1_103
  | exact tw_1_110
  | exact tw_1_169
  | exact tw_2_118
  | exact tw_2_126
  | exact tw_2_127
  | exact tw_2_135
  | exact tw_2_136
  | exact tw_2_137
  | exact tw_2_138
  | exact tw_2_139
  | exact tw_2_140
  | exact tw_2_141
  | exact tw_2_142
  | exact tw_2_143
  | exact tw_2_144
  | exact tw_2_145
  | exact tw_2_146
  | exact tw_2_147
  | exact tw_2_149
  | exact tw_2_150
  | exact tw_2_151
  | exact tw_2_152
  | exact tw_2_154
  | exact tw_2_156
  | exact tw_2_157
  | exact tw_2_159
  | exact tw_2_160
  | exact tw_2_162
  | exact tw_2_164
  | exact tw_2_165
  | exact tw_2_166
  | exact tw_2_168
  | exact tw_2_169
  | exact tw_2_170
  | exact tw_2_171
  | exact tw_2_172
  | exact tw_2_173
  | exact tw_2_174
  | exact tw_2_175
  | exact tw_2_176
  | exact tw_2_177
  | exact tw_2_178
  | exact tw_2_179
  | exact tw_2_181
  | exact tw_2_182
  | exact tw_2_183
  | exact tw_2_184
  | exact tw_2_189
  | exact tw_2_197
  | exact tw_2_198
  | exact tw_2_208
  | exact tw_2_209
  | exact tw_2_211
  | exact tw_2_212
  | exact tw_2_213
  | exact tw_2_214
  | exact tw_2_215
  | exact tw_2_216
  | exact tw_2_218
  | exact tw_2_219
  | exact tw_2_220
  | exact tw_2_221
  | exact tw_2_222
  | exact tw_2_225
  | exact tw_2_226
  | exact tw_2_228
  | exact tw_2_229
  | exact tw_2_230
  | exact tw_2_231
  | exact tw_2_232
  | exact tw_2_233
  | exact tw_2_235
  | exact tw_2_236
  | exact tw_2_237
  | exact tw_2_238
  | exact tw_2_239
  | exact tw_4_10
  | (exfalso; revert hg; decide)
  | (exfalso; revert hn; simp [vx_no])
