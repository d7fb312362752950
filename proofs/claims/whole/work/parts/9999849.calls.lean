/-! ===== all programs: what the small machine does, the real one does ===== -/
theorem wk_269 : wChk 269 = true := by decide +kernel
theorem wk_270 : wChk 270 = true := by decide +kernel
theorem wk_271 : wChk 271 = true := by decide +kernel
theorem wk_272 : wChk 272 = true := by decide +kernel
theorem wk_273 : wChk 273 = true := by decide +kernel
theorem wk_274 : wChk 274 = true := by decide +kernel
theorem wk_275 : wChk 275 = true := by decide +kernel
theorem wk_276 : wChk 276 = true := by decide +kernel
theorem wk_277 : wChk 277 = true := by decide +kernel
theorem wk_278 : wChk 278 = true := by decide +kernel
theorem wk_279 : wChk 279 = true := by decide +kernel
theorem wk_280 : wChk 280 = true := by decide +kernel
theorem wk_281 : wChk 281 = true := by decide +kernel
theorem wk_282 : wChk 282 = true := by decide +kernel
theorem wk_283 : wChk 283 = true := by decide +kernel
theorem wk_284 : wChk 284 = true := by decide +kernel
theorem wk_285 : wChk 285 = true := by decide +kernel
theorem wk_286 : wChk 286 = true := by decide +kernel
theorem wk_287 : wChk 287 = true := by decide +kernel
theorem wk_288 : wChk 288 = true := by decide +kernel
theorem wk_289 : wChk 289 = true := by decide +kernel
theorem wk_290 : wChk 290 = true := by decide +kernel
theorem wk_291 : wChk 291 = true := by decide +kernel
theorem wk_292 : wChk 292 = true := by decide +kernel
theorem wk_293 : wChk 293 = true := by decide +kernel
theorem wk_294 : wChk 294 = true := by decide +kernel
theorem wk_295 : wChk 295 = true := by decide +kernel
theorem wk_296 : wChk 296 = true := by decide +kernel
theorem wk_297 : wChk 297 = true := by decide +kernel
theorem wk_298 : wChk 298 = true := by decide +kernel
theorem wk_299 : wChk 299 = true := by decide +kernel
theorem wk_300 : wChk 300 = true := by decide +kernel
def hhI (y : Nat) : Bool := match mI y with
  | some q => (hhOf q.1).isSome
  | none => false
theorem hh_lo : (List.range 269).all (fun y => !hhI y) = true := by decide +kernel
theorem hh_hi : (List.range' 269 32).all hhI = true := by decide +kernel
theorem mI_lt {y : Nat} {q : CI} (hq : mI y = some q) : y < 301 := by
  have : ∃ x, mWL[y]? = some x := by
    unfold mI at hq
    split at hq
    · rename_i h; exact ⟨_, h⟩
    · cases hq
  obtain ⟨x, hx⟩ := this
  have := (List.getElem?_eq_some_iff.mp hx).1
  rwa [show mWL.length = 301 by decide +kernel] at this
theorem ck_tab : ∀ y, y < 269 → mChk y = true := by
  intro y hy
  match y, hy with
  | 0, _ => exact ck_0
  | 1, _ => exact ck_1
  | 2, _ => exact ck_2
  | 3, _ => exact ck_3
  | 4, _ => exact ck_4
  | 5, _ => exact ck_5
  | 6, _ => exact ck_6
  | 7, _ => exact ck_7
  | 8, _ => exact ck_8
  | 9, _ => exact ck_9
  | 10, _ => exact ck_10
  | 11, _ => exact ck_11
  | 12, _ => exact ck_12
  | 13, _ => exact ck_13
  | 14, _ => exact ck_14
  | 15, _ => exact ck_15
  | 16, _ => exact ck_16
  | 17, _ => exact ck_17
  | 18, _ => exact ck_18
  | 19, _ => exact ck_19
  | 20, _ => exact ck_20
  | 21, _ => exact ck_21
  | 22, _ => exact ck_22
  | 23, _ => exact ck_23
  | 24, _ => exact ck_24
  | 25, _ => exact ck_25
  | 26, _ => exact ck_26
  | 27, _ => exact ck_27
  | 28, _ => exact ck_28
  | 29, _ => exact ck_29
  | 30, _ => exact ck_30
  | 31, _ => exact ck_31
  | 32, _ => exact ck_32
  | 33, _ => exact ck_33
  | 34, _ => exact ck_34
  | 35, _ => exact ck_35
  | 36, _ => exact ck_36
  | 37, _ => exact ck_37
  | 38, _ => exact ck_38
  | 39, _ => exact ck_39
  | 40, _ => exact ck_40
  | 41, _ => exact ck_41
  | 42, _ => exact ck_42
  | 43, _ => exact ck_43
  | 44, _ => exact ck_44
  | 45, _ => exact ck_45
  | 46, _ => exact ck_46
  | 47, _ => exact ck_47
  | 48, _ => exact ck_48
  | 49, _ => exact ck_49
  | 50, _ => exact ck_50
  | 51, _ => exact ck_51
  | 52, _ => exact ck_52
  | 53, _ => exact ck_53
  | 54, _ => exact ck_54
  | 55, _ => exact ck_55
  | 56, _ => exact ck_56
  | 57, _ => exact ck_57
  | 58, _ => exact ck_58
  | 59, _ => exact ck_59
  | 60, _ => exact ck_60
  | 61, _ => exact ck_61
  | 62, _ => exact ck_62
  | 63, _ => exact ck_63
  | 64, _ => exact ck_64
  | 65, _ => exact ck_65
  | 66, _ => exact ck_66
  | 67, _ => exact ck_67
  | 68, _ => exact ck_68
  | 69, _ => exact ck_69
  | 70, _ => exact ck_70
  | 71, _ => exact ck_71
  | 72, _ => exact ck_72
  | 73, _ => exact ck_73
  | 74, _ => exact ck_74
  | 75, _ => exact ck_75
  | 76, _ => exact ck_76
  | 77, _ => exact ck_77
  | 78, _ => exact ck_78
  | 79, _ => exact ck_79
  | 80, _ => exact ck_80
  | 81, _ => exact ck_81
  | 82, _ => exact ck_82
  | 83, _ => exact ck_83
  | 84, _ => exact ck_84
  | 85, _ => exact ck_85
  | 86, _ => exact ck_86
  | 87, _ => exact ck_87
  | 88, _ => exact ck_88
  | 89, _ => exact ck_89
  | 90, _ => exact ck_90
  | 91, _ => exact ck_91
  | 92, _ => exact ck_92
  | 93, _ => exact ck_93
  | 94, _ => exact ck_94
  | 95, _ => exact ck_95
  | 96, _ => exact ck_96
  | 97, _ => exact ck_97
  | 98, _ => exact ck_98
  | 99, _ => exact ck_99
  | 100, _ => exact ck_100
  | 101, _ => exact ck_101
  | 102, _ => exact ck_102
  | 103, _ => exact ck_103
  | 104, _ => exact ck_104
  | 105, _ => exact ck_105
  | 106, _ => exact ck_106
  | 107, _ => exact ck_107
  | 108, _ => exact ck_108
  | 109, _ => exact ck_109
  | 110, _ => exact ck_110
  | 111, _ => exact ck_111
  | 112, _ => exact ck_112
  | 113, _ => exact ck_113
  | 114, _ => exact ck_114
  | 115, _ => exact ck_115
  | 116, _ => exact ck_116
  | 117, _ => exact ck_117
  | 118, _ => exact ck_118
  | 119, _ => exact ck_119
  | 120, _ => exact ck_120
  | 121, _ => exact ck_121
  | 122, _ => exact ck_122
  | 123, _ => exact ck_123
  | 124, _ => exact ck_124
  | 125, _ => exact ck_125
  | 126, _ => exact ck_126
  | 127, _ => exact ck_127
  | 128, _ => exact ck_128
  | 129, _ => exact ck_129
  | 130, _ => exact ck_130
  | 131, _ => exact ck_131
  | 132, _ => exact ck_132
  | 133, _ => exact ck_133
  | 134, _ => exact ck_134
  | 135, _ => exact ck_135
  | 136, _ => exact ck_136
  | 137, _ => exact ck_137
  | 138, _ => exact ck_138
  | 139, _ => exact ck_139
  | 140, _ => exact ck_140
  | 141, _ => exact ck_141
  | 142, _ => exact ck_142
  | 143, _ => exact ck_143
  | 144, _ => exact ck_144
  | 145, _ => exact ck_145
  | 146, _ => exact ck_146
  | 147, _ => exact ck_147
  | 148, _ => exact ck_148
  | 149, _ => exact ck_149
  | 150, _ => exact ck_150
  | 151, _ => exact ck_151
  | 152, _ => exact ck_152
  | 153, _ => exact ck_153
  | 154, _ => exact ck_154
  | 155, _ => exact ck_155
  | 156, _ => exact ck_156
  | 157, _ => exact ck_157
  | 158, _ => exact ck_158
  | 159, _ => exact ck_159
  | 160, _ => exact ck_160
  | 161, _ => exact ck_161
  | 162, _ => exact ck_162
  | 163, _ => exact ck_163
  | 164, _ => exact ck_164
  | 165, _ => exact ck_165
  | 166, _ => exact ck_166
  | 167, _ => exact ck_167
  | 168, _ => exact ck_168
  | 169, _ => exact ck_169
  | 170, _ => exact ck_170
  | 171, _ => exact ck_171
  | 172, _ => exact ck_172
  | 173, _ => exact ck_173
  | 174, _ => exact ck_174
  | 175, _ => exact ck_175
  | 176, _ => exact ck_176
  | 177, _ => exact ck_177
  | 178, _ => exact ck_178
  | 179, _ => exact ck_179
  | 180, _ => exact ck_180
  | 181, _ => exact ck_181
  | 182, _ => exact ck_182
  | 183, _ => exact ck_183
  | 184, _ => exact ck_184
  | 185, _ => exact ck_185
  | 186, _ => exact ck_186
  | 187, _ => exact ck_187
  | 188, _ => exact ck_188
  | 189, _ => exact ck_189
  | 190, _ => exact ck_190
  | 191, _ => exact ck_191
  | 192, _ => exact ck_192
  | 193, _ => exact ck_193
  | 194, _ => exact ck_194
  | 195, _ => exact ck_195
  | 196, _ => exact ck_196
  | 197, _ => exact ck_197
  | 198, _ => exact ck_198
  | 199, _ => exact ck_199
  | 200, _ => exact ck_200
  | 201, _ => exact ck_201
  | 202, _ => exact ck_202
  | 203, _ => exact ck_203
  | 204, _ => exact ck_204
  | 205, _ => exact ck_205
  | 206, _ => exact ck_206
  | 207, _ => exact ck_207
  | 208, _ => exact ck_208
  | 209, _ => exact ck_209
  | 210, _ => exact ck_210
  | 211, _ => exact ck_211
  | 212, _ => exact ck_212
  | 213, _ => exact ck_213
  | 214, _ => exact ck_214
  | 215, _ => exact ck_215
  | 216, _ => exact ck_216
  | 217, _ => exact ck_217
  | 218, _ => exact ck_218
  | 219, _ => exact ck_219
  | 220, _ => exact ck_220
  | 221, _ => exact ck_221
  | 222, _ => exact ck_222
  | 223, _ => exact ck_223
  | 224, _ => exact ck_224
  | 225, _ => exact ck_225
  | 226, _ => exact ck_226
  | 227, _ => exact ck_227
  | 228, _ => exact ck_228
  | 229, _ => exact ck_229
  | 230, _ => exact ck_230
  | 231, _ => exact ck_231
  | 232, _ => exact ck_232
  | 233, _ => exact ck_233
  | 234, _ => exact ck_234
  | 235, _ => exact ck_235
  | 236, _ => exact ck_236
  | 237, _ => exact ck_237
  | 238, _ => exact ck_238
  | 239, _ => exact ck_239
  | 240, _ => exact ck_240
  | 241, _ => exact ck_241
  | 242, _ => exact ck_242
  | 243, _ => exact ck_243
  | 244, _ => exact ck_244
  | 245, _ => exact ck_245
  | 246, _ => exact ck_246
  | 247, _ => exact ck_247
  | 248, _ => exact ck_248
  | 249, _ => exact ck_249
  | 250, _ => exact ck_250
  | 251, _ => exact ck_251
  | 252, _ => exact ck_252
  | 253, _ => exact ck_253
  | 254, _ => exact ck_254
  | 255, _ => exact ck_255
  | 256, _ => exact ck_256
  | 257, _ => exact ck_257
  | 258, _ => exact ck_258
  | 259, _ => exact ck_259
  | 260, _ => exact ck_260
  | 261, _ => exact ck_261
  | 262, _ => exact ck_262
  | 263, _ => exact ck_263
  | 264, _ => exact ck_264
  | 265, _ => exact ck_265
  | 266, _ => exact ck_266
  | 267, _ => exact ck_267
  | 268, _ => exact ck_268
  | y + 269, hy => omega
theorem wk_tab : ∀ y, 269 ≤ y → y < 301 → wChk y = true := by
  intro y h1 hy
  match y, h1, hy with
  | 269, _, _ => exact wk_269
  | 270, _, _ => exact wk_270
  | 271, _, _ => exact wk_271
  | 272, _, _ => exact wk_272
  | 273, _, _ => exact wk_273
  | 274, _, _ => exact wk_274
  | 275, _, _ => exact wk_275
  | 276, _, _ => exact wk_276
  | 277, _, _ => exact wk_277
  | 278, _, _ => exact wk_278
  | 279, _, _ => exact wk_279
  | 280, _, _ => exact wk_280
  | 281, _, _ => exact wk_281
  | 282, _, _ => exact wk_282
  | 283, _, _ => exact wk_283
  | 284, _, _ => exact wk_284
  | 285, _, _ => exact wk_285
  | 286, _, _ => exact wk_286
  | 287, _, _ => exact wk_287
  | 288, _, _ => exact wk_288
  | 289, _, _ => exact wk_289
  | 290, _, _ => exact wk_290
  | 291, _, _ => exact wk_291
  | 292, _, _ => exact wk_292
  | 293, _, _ => exact wk_293
  | 294, _, _ => exact wk_294
  | 295, _, _ => exact wk_295
  | 296, _, _ => exact wk_296
  | 297, _, _ => exact wk_297
  | 298, _, _ => exact wk_298
  | 299, _, _ => exact wk_299
  | 300, _, _ => exact wk_300
  | y + 301, _, hy => omega
theorem hchk_all (y : Nat) (h : ∃ q, mI y = some q ∧ hhOf q.1 = none) : mChk y = true := by
  obtain ⟨q, hq, hn⟩ := h
  have hl := mI_lt hq
  by_cases h1 : y < 269
  · exact ck_tab y h1
  · have h2 := List.all_eq_true.mp hh_hi y (List.mem_range'_1.mpr (by omega))
    unfold hhI at h2
    rw [hq] at h2
    simp only [hn] at h2
    cases h2
theorem hwk_all (y : Nat) (h : ∃ q hh, mI y = some q ∧ hhOf q.1 = some hh) : wChk y = true := by
  obtain ⟨q, hh, hq, hn⟩ := h
  have hl := mI_lt hq
  by_cases h1 : 269 ≤ y
  · exact wk_tab y h1 hl
  · have h2 := List.all_eq_true.mp hh_lo y (List.mem_range.mpr (by omega))
    unfold hhI at h2
    rw [hq] at h2
    simp only [hn] at h2
    cases h2
/-- every call of the small machine is one of the real machine -/
theorem calls_ok {l : Launch} {G : GG} (hG : GOK G) (hst : l.stackTraces = false) : ∀ (n d : Nat), CallsOK l G mI thP (d + 1) (callB PP (run PP n) (d + 1)) :=
  all_mc hG hst (jsOK hst G) hchk_all (wr_mc hG hst (jsOK hst G) hwk_all)
