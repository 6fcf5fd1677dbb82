/-! ===== all of them ===== -/
theorem okq_0 : ∀ k, k < 28 → (z_cds.getD (0 + k) []).all (fun q => z_okI (0 + k) q.1 q.2) = true := by
  intro k hk
  match k, hk with
  | 0, _ => exact ok_0
  | 1, _ => exact ok_1
  | 2, _ => exact ok_2
  | 3, _ => exact ok_3
  | 4, _ => exact ok_4
  | 5, _ => exact ok_5
  | 6, _ => exact ok_6
  | 7, _ => exact ok_7
  | 8, _ => exact ok_8
  | 9, _ => exact ok_9
  | 10, _ => exact ok_10
  | 11, _ => exact ok_11
  | 12, _ => exact ok_12
  | 13, _ => exact ok_13
  | 14, _ => exact ok_14
  | 15, _ => exact ok_15
  | 16, _ => exact ok_16
  | 17, _ => exact ok_17
  | 18, _ => exact ok_18
  | 19, _ => exact ok_19
  | 20, _ => exact ok_20
  | 21, _ => exact ok_21
  | 22, _ => exact ok_22
  | 23, _ => exact ok_23
  | 24, _ => exact ok_24
  | 25, _ => exact ok_25
  | 26, _ => exact ok_26
  | 27, _ => exact ok_27
  | k + 28, hk => exact absurd hk (by omega)
theorem okq_28 : ∀ k, k < 28 → (z_cds.getD (28 + k) []).all (fun q => z_okI (28 + k) q.1 q.2) = true := by
  intro k hk
  match k, hk with
  | 0, _ => exact ok_28
  | 1, _ => exact ok_29
  | 2, _ => exact ok_30
  | 3, _ => exact ok_31
  | 4, _ => exact ok_32
  | 5, _ => exact ok_33
  | 6, _ => exact ok_34
  | 7, _ => exact ok_35
  | 8, _ => exact ok_36
  | 9, _ => exact ok_37
  | 10, _ => exact ok_38
  | 11, _ => exact ok_39
  | 12, _ => exact ok_40
  | 13, _ => exact ok_41
  | 14, _ => exact ok_42
  | 15, _ => exact ok_43
  | 16, _ => exact ok_44
  | 17, _ => exact ok_45
  | 18, _ => exact ok_46
  | 19, _ => exact ok_47
  | 20, _ => exact ok_48
  | 21, _ => exact ok_49
  | 22, _ => exact ok_50
  | 23, _ => exact ok_51
  | 24, _ => exact ok_52
  | 25, _ => exact ok_53
  | 26, _ => exact ok_54
  | 27, _ => exact ok_55
  | k + 28, hk => exact absurd hk (by omega)
theorem okq_56 : ∀ k, k < 28 → (z_cds.getD (56 + k) []).all (fun q => z_okI (56 + k) q.1 q.2) = true := by
  intro k hk
  match k, hk with
  | 0, _ => exact ok_56
  | 1, _ => exact ok_57
  | 2, _ => exact ok_58
  | 3, _ => exact ok_59
  | 4, _ => exact ok_60
  | 5, _ => exact ok_61
  | 6, _ => exact ok_62
  | 7, _ => exact ok_63
  | 8, _ => exact ok_64
  | 9, _ => exact ok_65
  | 10, _ => exact ok_66
  | 11, _ => exact ok_67
  | 12, _ => exact ok_68
  | 13, _ => exact ok_69
  | 14, _ => exact ok_70
  | 15, _ => exact ok_71
  | 16, _ => exact ok_72
  | 17, _ => exact ok_73
  | 18, _ => exact ok_74
  | 19, _ => exact ok_75
  | 20, _ => exact ok_76
  | 21, _ => exact ok_77
  | 22, _ => exact ok_78
  | 23, _ => exact ok_79
  | 24, _ => exact ok_80
  | 25, _ => exact ok_81
  | 26, _ => exact ok_82
  | 27, _ => exact ok_83
  | k + 28, hk => exact absurd hk (by omega)
theorem okq_84 : ∀ k, k < 28 → (z_cds.getD (84 + k) []).all (fun q => z_okI (84 + k) q.1 q.2) = true := by
  intro k hk
  match k, hk with
  | 0, _ => exact ok_84
  | 1, _ => exact ok_85
  | 2, _ => exact ok_86
  | 3, _ => exact ok_87
  | 4, _ => exact ok_88
  | 5, _ => exact ok_89
  | 6, _ => exact ok_90
  | 7, _ => exact ok_91
  | 8, _ => exact ok_92
  | 9, _ => exact ok_93
  | 10, _ => exact ok_94
  | 11, _ => exact ok_95
  | 12, _ => exact ok_96
  | 13, _ => exact ok_97
  | 14, _ => exact ok_98
  | 15, _ => exact ok_99
  | 16, _ => exact ok_100
  | 17, _ => exact ok_101
  | 18, _ => exact ok_102
  | 19, _ => exact ok_103
  | 20, _ => exact ok_104
  | 21, _ => exact ok_105
  | 22, _ => exact ok_106
  | 23, _ => exact ok_107
  | 24, _ => exact ok_108
  | 25, _ => exact ok_109
  | 26, _ => exact ok_110
  | 27, _ => exact ok_111
  | k + 28, hk => exact absurd hk (by omega)
theorem okq_112 : ∀ k, k < 28 → (z_cds.getD (112 + k) []).all (fun q => z_okI (112 + k) q.1 q.2) = true := by
  intro k hk
  match k, hk with
  | 0, _ => exact ok_112
  | 1, _ => exact ok_113
  | 2, _ => exact ok_114
  | 3, _ => exact ok_115
  | 4, _ => exact ok_116
  | 5, _ => exact ok_117
  | 6, _ => exact ok_118
  | 7, _ => exact ok_119
  | 8, _ => exact ok_120
  | 9, _ => exact ok_121
  | 10, _ => exact ok_122
  | 11, _ => exact ok_123
  | 12, _ => exact ok_124
  | 13, _ => exact ok_125
  | 14, _ => exact ok_126
  | 15, _ => exact ok_127
  | 16, _ => exact ok_128
  | 17, _ => exact ok_129
  | 18, _ => exact ok_130
  | 19, _ => exact ok_131
  | 20, _ => exact ok_132
  | 21, _ => exact ok_133
  | 22, _ => exact ok_134
  | 23, _ => exact ok_135
  | 24, _ => exact ok_136
  | 25, _ => exact ok_137
  | 26, _ => exact ok_138
  | 27, _ => exact ok_139
  | k + 28, hk => exact absurd hk (by omega)
theorem okq_140 : ∀ k, k < 28 → (z_cds.getD (140 + k) []).all (fun q => z_okI (140 + k) q.1 q.2) = true := by
  intro k hk
  match k, hk with
  | 0, _ => exact ok_140
  | 1, _ => exact ok_141
  | 2, _ => exact ok_142
  | 3, _ => exact ok_143
  | 4, _ => exact ok_144
  | 5, _ => exact ok_145
  | 6, _ => exact ok_146
  | 7, _ => exact ok_147
  | 8, _ => exact ok_148
  | 9, _ => exact ok_149
  | 10, _ => exact ok_150
  | 11, _ => exact ok_151
  | 12, _ => exact ok_152
  | 13, _ => exact ok_153
  | 14, _ => exact ok_154
  | 15, _ => exact ok_155
  | 16, _ => exact ok_156
  | 17, _ => exact ok_157
  | 18, _ => exact ok_158
  | 19, _ => exact ok_159
  | 20, _ => exact ok_160
  | 21, _ => exact ok_161
  | 22, _ => exact ok_162
  | 23, _ => exact ok_163
  | 24, _ => exact ok_164
  | 25, _ => exact ok_165
  | 26, _ => exact ok_166
  | 27, _ => exact ok_167
  | k + 28, hk => exact absurd hk (by omega)
theorem okq_168 : ∀ k, k < 28 → (z_cds.getD (168 + k) []).all (fun q => z_okI (168 + k) q.1 q.2) = true := by
  intro k hk
  match k, hk with
  | 0, _ => exact ok_168
  | 1, _ => exact ok_169
  | 2, _ => exact ok_170
  | 3, _ => exact ok_171
  | 4, _ => exact ok_172
  | 5, _ => exact ok_173
  | 6, _ => exact ok_174
  | 7, _ => exact ok_175
  | 8, _ => exact ok_176
  | 9, _ => exact ok_177
  | 10, _ => exact ok_178
  | 11, _ => exact ok_179
  | 12, _ => exact ok_180
  | 13, _ => exact ok_181
  | 14, _ => exact ok_182
  | 15, _ => exact ok_183
  | 16, _ => exact ok_184
  | 17, _ => exact ok_185
  | 18, _ => exact ok_186
  | 19, _ => exact ok_187
  | 20, _ => exact ok_188
  | 21, _ => exact ok_189
  | 22, _ => exact ok_190
  | 23, _ => exact ok_191
  | 24, _ => exact ok_192
  | 25, _ => exact ok_193
  | 26, _ => exact ok_194
  | 27, _ => exact ok_195
  | k + 28, hk => exact absurd hk (by omega)
theorem okq_196 : ∀ k, k < 28 → (z_cds.getD (196 + k) []).all (fun q => z_okI (196 + k) q.1 q.2) = true := by
  intro k hk
  match k, hk with
  | 0, _ => exact ok_196
  | 1, _ => exact ok_197
  | 2, _ => exact ok_198
  | 3, _ => exact ok_199
  | 4, _ => exact ok_200
  | 5, _ => exact ok_201
  | 6, _ => exact ok_202
  | 7, _ => exact ok_203
  | 8, _ => exact ok_204
  | 9, _ => exact ok_205
  | 10, _ => exact ok_206
  | 11, _ => exact ok_207
  | 12, _ => exact ok_208
  | 13, _ => exact ok_209
  | 14, _ => exact ok_210
  | 15, _ => exact ok_211
  | 16, _ => exact ok_212
  | 17, _ => exact ok_213
  | 18, _ => exact ok_214
  | 19, _ => exact ok_215
  | 20, _ => exact ok_216
  | 21, _ => exact ok_217
  | 22, _ => exact ok_218
  | 23, _ => exact ok_219
  | 24, _ => exact ok_220
  | 25, _ => exact ok_221
  | 26, _ => exact ok_222
  | 27, _ => exact ok_223
  | k + 28, hk => exact absurd hk (by omega)
theorem okq_224 : ∀ k, k < 27 → (z_cds.getD (224 + k) []).all (fun q => z_okI (224 + k) q.1 q.2) = true := by
  intro k hk
  match k, hk with
  | 0, _ => exact ok_224
  | 1, _ => exact ok_225
  | 2, _ => exact ok_226
  | 3, _ => exact ok_227
  | 4, _ => exact ok_228
  | 5, _ => exact ok_229
  | 6, _ => exact ok_230
  | 7, _ => exact ok_231
  | 8, _ => exact ok_232
  | 9, _ => exact ok_233
  | 10, _ => exact ok_234
  | 11, _ => exact ok_235
  | 12, _ => exact ok_236
  | 13, _ => exact ok_237
  | 14, _ => exact ok_238
  | 15, _ => exact ok_239
  | 16, _ => exact ok_240
  | 17, _ => exact ok_241
  | 18, _ => exact ok_242
  | 19, _ => exact ok_243
  | 20, _ => exact ok_244
  | 21, _ => exact ok_245
  | 22, _ => exact ok_246
  | 23, _ => exact ok_247
  | 24, _ => exact ok_248
  | 25, _ => exact ok_249
  | 26, _ => exact ok_250
  | k + 27, hk => exact absurd hk (by omega)
theorem ok_all (y : Nat) (hy : y < 251) : (z_cds.getD y []).all (fun q => z_okI y q.1 q.2) = true := by
  by_cases h0 : y < 28
  · obtain ⟨k, rfl⟩ : ∃ k, y = 0 + k := ⟨y - 0, by omega⟩
    exact okq_0 k (by omega)
  by_cases h28 : y < 56
  · obtain ⟨k, rfl⟩ : ∃ k, y = 28 + k := ⟨y - 28, by omega⟩
    exact okq_28 k (by omega)
  by_cases h56 : y < 84
  · obtain ⟨k, rfl⟩ : ∃ k, y = 56 + k := ⟨y - 56, by omega⟩
    exact okq_56 k (by omega)
  by_cases h84 : y < 112
  · obtain ⟨k, rfl⟩ : ∃ k, y = 84 + k := ⟨y - 84, by omega⟩
    exact okq_84 k (by omega)
  by_cases h112 : y < 140
  · obtain ⟨k, rfl⟩ : ∃ k, y = 112 + k := ⟨y - 112, by omega⟩
    exact okq_112 k (by omega)
  by_cases h140 : y < 168
  · obtain ⟨k, rfl⟩ : ∃ k, y = 140 + k := ⟨y - 140, by omega⟩
    exact okq_140 k (by omega)
  by_cases h168 : y < 196
  · obtain ⟨k, rfl⟩ : ∃ k, y = 168 + k := ⟨y - 168, by omega⟩
    exact okq_168 k (by omega)
  by_cases h196 : y < 224
  · obtain ⟨k, rfl⟩ : ∃ k, y = 196 + k := ⟨y - 196, by omega⟩
    exact okq_196 k (by omega)
  obtain ⟨k, rfl⟩ : ∃ k, y = 224 + k := ⟨y - 224, by omega⟩
  exact okq_224 k (by omega)
theorem z_lookup_mem {α : Type} {pc : Nat} {v : α} : ∀ (l : List (Nat × α)), l.lookup pc = some v → (pc, v) ∈ l := by
  intro l
  induction l with
  | nil => intro h; cases h
  | cons q r ih =>
    intro h
    obtain ⟨k, x⟩ := q
    rw [List.lookup_cons] at h
    cases hb : (pc == k) with
    | true =>
      rw [hb] at h
      have e : pc = k := by simpa using hb
      cases h
      rw [e]
      exact List.mem_cons_self
    | false =>
      rw [hb] at h
      exact List.mem_cons_of_mem _ (ih h)
theorem z_allok_ok : z_allok := by
  intro y hy pc it h
  exact List.all_eq_true.mp (ok_all y hy) (pc, it) (z_lookup_mem _ h)
