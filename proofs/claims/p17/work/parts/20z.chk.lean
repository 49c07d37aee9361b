/-! Printed by wip/v2/gen9.py: the checks together. -/
theorem zkC_all : ∀ md, 0 < md → md ≤ 281 → (ztb ((zm_pos md).1 / 1000))[(zm_pos md).1 % 1000]? = some (zmk_hd md (zm_nfo md).1) ∧ goodWord (zmk_hd md (zm_nfo md).1) = true
  | 0, h, _ => absurd h (by decide)
  | 1, _, _ => zkC_1
  | 2, _, _ => zkC_2
  | 3, _, _ => zkC_3
  | 4, _, _ => zkC_4
  | 5, _, _ => zkC_5
  | 6, _, _ => zkC_6
  | 7, _, _ => zkC_7
  | 8, _, _ => zkC_8
  | 9, _, _ => zkC_9
  | 10, _, _ => zkC_10
  | 11, _, _ => zkC_11
  | 12, _, _ => zkC_12
  | 13, _, _ => zkC_13
  | 14, _, _ => zkC_14
  | 15, _, _ => zkC_15
  | 16, _, _ => zkC_16
  | 17, _, _ => zkC_17
  | 18, _, _ => zkC_18
  | 19, _, _ => zkC_19
  | 20, _, _ => zkC_20
  | 21, _, _ => zkC_21
  | 22, _, _ => zkC_22
  | 23, _, _ => zkC_23
  | 24, _, _ => zkC_24
  | 25, _, _ => zkC_25
  | 26, _, _ => zkC_26
  | 27, _, _ => zkC_27
  | 28, _, _ => zkC_28
  | 29, _, _ => zkC_29
  | 30, _, _ => zkC_30
  | 31, _, _ => zkC_31
  | 32, _, _ => zkC_32
  | 33, _, _ => zkC_33
  | 34, _, _ => zkC_34
  | 35, _, _ => zkC_35
  | 36, _, _ => zkC_36
  | 37, _, _ => zkC_37
  | 38, _, _ => zkC_38
  | 39, _, _ => zkC_39
  | 40, _, _ => zkC_40
  | 41, _, _ => zkC_41
  | 42, _, _ => zkC_42
  | 43, _, _ => zkC_43
  | 44, _, _ => zkC_44
  | 45, _, _ => zkC_45
  | 46, _, _ => zkC_46
  | 47, _, _ => zkC_47
  | 48, _, _ => zkC_48
  | 49, _, _ => zkC_49
  | 50, _, _ => zkC_50
  | 51, _, _ => zkC_51
  | 52, _, _ => zkC_52
  | 53, _, _ => zkC_53
  | 54, _, _ => zkC_54
  | 55, _, _ => zkC_55
  | 56, _, _ => zkC_56
  | 57, _, _ => zkC_57
  | 58, _, _ => zkC_58
  | 59, _, _ => zkC_59
  | 60, _, _ => zkC_60
  | 61, _, _ => zkC_61
  | 62, _, _ => zkC_62
  | 63, _, _ => zkC_63
  | 64, _, _ => zkC_64
  | 65, _, _ => zkC_65
  | 66, _, _ => zkC_66
  | 67, _, _ => zkC_67
  | 68, _, _ => zkC_68
  | 69, _, _ => zkC_69
  | 70, _, _ => zkC_70
  | 71, _, _ => zkC_71
  | 72, _, _ => zkC_72
  | 73, _, _ => zkC_73
  | 74, _, _ => zkC_74
  | 75, _, _ => zkC_75
  | 76, _, _ => zkC_76
  | 77, _, _ => zkC_77
  | 78, _, _ => zkC_78
  | 79, _, _ => zkC_79
  | 80, _, _ => zkC_80
  | 81, _, _ => zkC_81
  | 82, _, _ => zkC_82
  | 83, _, _ => zkC_83
  | 84, _, _ => zkC_84
  | 85, _, _ => zkC_85
  | 86, _, _ => zkC_86
  | 87, _, _ => zkC_87
  | 88, _, _ => zkC_88
  | 89, _, _ => zkC_89
  | 90, _, _ => zkC_90
  | 91, _, _ => zkC_91
  | 92, _, _ => zkC_92
  | 93, _, _ => zkC_93
  | 94, _, _ => zkC_94
  | 95, _, _ => zkC_95
  | 96, _, _ => zkC_96
  | 97, _, _ => zkC_97
  | 98, _, _ => zkC_98
  | 99, _, _ => zkC_99
  | 100, _, _ => zkC_100
  | 101, _, _ => zkC_101
  | 102, _, _ => zkC_102
  | 103, _, _ => zkC_103
  | 104, _, _ => zkC_104
  | 105, _, _ => zkC_105
  | 106, _, _ => zkC_106
  | 107, _, _ => zkC_107
  | 108, _, _ => zkC_108
  | 109, _, _ => zkC_109
  | 110, _, _ => zkC_110
  | 111, _, _ => zkC_111
  | 112, _, _ => zkC_112
  | 113, _, _ => zkC_113
  | 114, _, _ => zkC_114
  | 115, _, _ => zkC_115
  | 116, _, _ => zkC_116
  | 117, _, _ => zkC_117
  | 118, _, _ => zkC_118
  | 119, _, _ => zkC_119
  | 120, _, _ => zkC_120
  | 121, _, _ => zkC_121
  | 122, _, _ => zkC_122
  | 123, _, _ => zkC_123
  | 124, _, _ => zkC_124
  | 125, _, _ => zkC_125
  | 126, _, _ => zkC_126
  | 127, _, _ => zkC_127
  | 128, _, _ => zkC_128
  | 129, _, _ => zkC_129
  | 130, _, _ => zkC_130
  | 131, _, _ => zkC_131
  | 132, _, _ => zkC_132
  | 133, _, _ => zkC_133
  | 134, _, _ => zkC_134
  | 135, _, _ => zkC_135
  | 136, _, _ => zkC_136
  | 137, _, _ => zkC_137
  | 138, _, _ => zkC_138
  | 139, _, _ => zkC_139
  | 140, _, _ => zkC_140
  | 141, _, _ => zkC_141
  | 142, _, _ => zkC_142
  | 143, _, _ => zkC_143
  | 144, _, _ => zkC_144
  | 145, _, _ => zkC_145
  | 146, _, _ => zkC_146
  | 147, _, _ => zkC_147
  | 148, _, _ => zkC_148
  | 149, _, _ => zkC_149
  | 150, _, _ => zkC_150
  | 151, _, _ => zkC_151
  | 152, _, _ => zkC_152
  | 153, _, _ => zkC_153
  | 154, _, _ => zkC_154
  | 155, _, _ => zkC_155
  | 156, _, _ => zkC_156
  | 157, _, _ => zkC_157
  | 158, _, _ => zkC_158
  | 159, _, _ => zkC_159
  | 160, _, _ => zkC_160
  | 161, _, _ => zkC_161
  | 162, _, _ => zkC_162
  | 163, _, _ => zkC_163
  | 164, _, _ => zkC_164
  | 165, _, _ => zkC_165
  | 166, _, _ => zkC_166
  | 167, _, _ => zkC_167
  | 168, _, _ => zkC_168
  | 169, _, _ => zkC_169
  | 170, _, _ => zkC_170
  | 171, _, _ => zkC_171
  | 172, _, _ => zkC_172
  | 173, _, _ => zkC_173
  | 174, _, _ => zkC_174
  | 175, _, _ => zkC_175
  | 176, _, _ => zkC_176
  | 177, _, _ => zkC_177
  | 178, _, _ => zkC_178
  | 179, _, _ => zkC_179
  | 180, _, _ => zkC_180
  | 181, _, _ => zkC_181
  | 182, _, _ => zkC_182
  | 183, _, _ => zkC_183
  | 184, _, _ => zkC_184
  | 185, _, _ => zkC_185
  | 186, _, _ => zkC_186
  | 187, _, _ => zkC_187
  | 188, _, _ => zkC_188
  | 189, _, _ => zkC_189
  | 190, _, _ => zkC_190
  | 191, _, _ => zkC_191
  | 192, _, _ => zkC_192
  | 193, _, _ => zkC_193
  | 194, _, _ => zkC_194
  | 195, _, _ => zkC_195
  | 196, _, _ => zkC_196
  | 197, _, _ => zkC_197
  | 198, _, _ => zkC_198
  | 199, _, _ => zkC_199
  | 200, _, _ => zkC_200
  | 201, _, _ => zkC_201
  | 202, _, _ => zkC_202
  | 203, _, _ => zkC_203
  | 204, _, _ => zkC_204
  | 205, _, _ => zkC_205
  | 206, _, _ => zkC_206
  | 207, _, _ => zkC_207
  | 208, _, _ => zkC_208
  | 209, _, _ => zkC_209
  | 210, _, _ => zkC_210
  | 211, _, _ => zkC_211
  | 212, _, _ => zkC_212
  | 213, _, _ => zkC_213
  | 214, _, _ => zkC_214
  | 215, _, _ => zkC_215
  | 216, _, _ => zkC_216
  | 217, _, _ => zkC_217
  | 218, _, _ => zkC_218
  | 219, _, _ => zkC_219
  | 220, _, _ => zkC_220
  | 221, _, _ => zkC_221
  | 222, _, _ => zkC_222
  | 223, _, _ => zkC_223
  | 224, _, _ => zkC_224
  | 225, _, _ => zkC_225
  | 226, _, _ => zkC_226
  | 227, _, _ => zkC_227
  | 228, _, _ => zkC_228
  | 229, _, _ => zkC_229
  | 230, _, _ => zkC_230
  | 231, _, _ => zkC_231
  | 232, _, _ => zkC_232
  | 233, _, _ => zkC_233
  | 234, _, _ => zkC_234
  | 235, _, _ => zkC_235
  | 236, _, _ => zkC_236
  | 237, _, _ => zkC_237
  | 238, _, _ => zkC_238
  | 239, _, _ => zkC_239
  | 240, _, _ => zkC_240
  | 241, _, _ => zkC_241
  | 242, _, _ => zkC_242
  | 243, _, _ => zkC_243
  | 244, _, _ => zkC_244
  | 245, _, _ => zkC_245
  | 246, _, _ => zkC_246
  | 247, _, _ => zkC_247
  | 248, _, _ => zkC_248
  | 249, _, _ => zkC_249
  | 250, _, _ => zkC_250
  | 251, _, _ => zkC_251
  | 252, _, _ => zkC_252
  | 253, _, _ => zkC_253
  | 254, _, _ => zkC_254
  | 255, _, _ => zkC_255
  | 256, _, _ => zkC_256
  | 257, _, _ => zkC_257
  | 258, _, _ => zkC_258
  | 259, _, _ => zkC_259
  | 260, _, _ => zkC_260
  | 261, _, _ => zkC_261
  | 262, _, _ => zkC_262
  | 263, _, _ => zkC_263
  | 264, _, _ => zkC_264
  | 265, _, _ => zkC_265
  | 266, _, _ => zkC_266
  | 267, _, _ => zkC_267
  | 268, _, _ => zkC_268
  | 269, _, _ => zkC_269
  | 270, _, _ => zkC_270
  | 271, _, _ => zkC_271
  | 272, _, _ => zkC_272
  | 273, _, _ => zkC_273
  | 274, _, _ => zkC_274
  | 275, _, _ => zkC_275
  | 276, _, _ => zkC_276
  | 277, _, _ => zkC_277
  | 278, _, _ => zkC_278
  | 279, _, _ => zkC_279
  | 280, _, _ => zkC_280
  | 281, _, _ => zkC_281
  | n + 282, _, h => absurd h (by omega)
theorem zmok3_all : ∀ mid, mid ≤ 281 → zmok3 mid = true := by
  intro mid h
  by_cases a0 : mid < 71
  · exact zall_to zk_3_0 mid (by omega) (by omega)
  by_cases a71 : mid < 142
  · exact zall_to zk_3_71 mid (by omega) (by omega)
  by_cases a142 : mid < 213
  · exact zall_to zk_3_142 mid (by omega) (by omega)
  exact zall_to zk_3_213 mid (by omega) (by omega)
theorem zmkA_all : ∀ mid, 0 < mid → mid ≤ 281 → zmkA mid = true := by
  intro mid h0 h
  by_cases a1 : mid < 72
  · exact zall_to zk_mA_1 mid (by omega) (by omega)
  by_cases a72 : mid < 143
  · exact zall_to zk_mA_72 mid (by omega) (by omega)
  by_cases a143 : mid < 214
  · exact zall_to zk_mA_143 mid (by omega) (by omega)
  exact zall_to zk_mA_214 mid (by omega) (by omega)
theorem zmkB_all : ∀ mid, 0 < mid → mid ≤ 281 → zmkB mid = true := by
  intro mid h0 h
  by_cases a1 : mid < 72
  · exact zall_to zk_mB_1 mid (by omega) (by omega)
  by_cases a72 : mid < 143
  · exact zall_to zk_mB_72 mid (by omega) (by omega)
  by_cases a143 : mid < 214
  · exact zall_to zk_mB_143 mid (by omega) (by omega)
  exact zall_to zk_mB_214 mid (by omega) (by omega)
theorem zmkD_all : ∀ mid, 0 < mid → mid ≤ 281 → zmkD mid = true := by
  intro mid h0 h
  by_cases a1 : mid < 48
  · exact zall_to zk_mD_1 mid (by omega) (by omega)
  by_cases a48 : mid < 95
  · exact zall_to zk_mD_48 mid (by omega) (by omega)
  by_cases a95 : mid < 142
  · exact zall_to zk_mD_95 mid (by omega) (by omega)
  by_cases a142 : mid < 189
  · exact zall_to zk_mD_142 mid (by omega) (by omega)
  by_cases a189 : mid < 236
  · exact zall_to zk_mD_189 mid (by omega) (by omega)
  exact zall_to zk_mD_236 mid (by omega) (by omega)
theorem zmk_all : ∀ md, 0 < md → md ≤ 281 → zmk md = true := fun md h1 h2 => zmk_of (zmkA_all md h1 h2) (zmkB_all md h1 h2) (zmkD_all md h1 h2) (zkC_all md h1 h2).1 (zkC_all md h1 h2).2
theorem zmok2_all : ∀ mid, mid ≤ 281 → zmok2 mid = true := by
  intro mid h
  by_cases a0 : mid < 1
  · exact zall_to zk_2_0 mid (by omega) (by omega)
  by_cases a1 : mid < 41
  · exact zall_to zk_2_1 mid (by omega) (by omega)
  by_cases a41 : mid < 81
  · exact zall_to zk_2_41 mid (by omega) (by omega)
  by_cases a81 : mid < 121
  · exact zall_to zk_2_81 mid (by omega) (by omega)
  by_cases a121 : mid < 161
  · exact zall_to zk_2_121 mid (by omega) (by omega)
  by_cases a161 : mid < 201
  · exact zall_to zk_2_161 mid (by omega) (by omega)
  by_cases a201 : mid < 241
  · exact zall_to zk_2_201 mid (by omega) (by omega)
  by_cases a241 : mid < 281
  · exact zall_to zk_2_241 mid (by omega) (by omega)
  exact zall_to zk_2_281 mid (by omega) (by omega)
theorem zmok_all : ∀ mid, mid ≤ 281 → zmok mid = true
  | 0, _ => zk_m0
  | 1, _ => zk_m1
  | 2, _ => zk_m2
  | 3, _ => zk_m3
  | 4, _ => zk_m4
  | 5, _ => zk_m5
  | 6, _ => zk_m6
  | 7, _ => zk_m7
  | 8, _ => zk_m8
  | 9, _ => zk_m9
  | 10, _ => zk_m10
  | 11, _ => zk_m11
  | 12, _ => zk_m12
  | 13, _ => zk_m13
  | 14, _ => zk_m14
  | 15, _ => zk_m15
  | 16, _ => zk_m16
  | 17, _ => zk_m17
  | 18, _ => zk_m18
  | 19, _ => zk_m19
  | 20, _ => zk_m20
  | 21, _ => zk_m21
  | 22, _ => zk_m22
  | 23, _ => zk_m23
  | 24, _ => zk_m24
  | 25, _ => zk_m25
  | 26, _ => zk_m26
  | 27, _ => zk_m27
  | 28, _ => zk_m28
  | 29, _ => zk_m29
  | 30, _ => zk_m30
  | 31, _ => zk_m31
  | 32, _ => zk_m32
  | 33, _ => zk_m33
  | 34, _ => zk_m34
  | 35, _ => zk_m35
  | 36, _ => zk_m36
  | 37, _ => zk_m37
  | 38, _ => zk_m38
  | 39, _ => zk_m39
  | 40, _ => zk_m40
  | 41, _ => zk_m41
  | 42, _ => zk_m42
  | 43, _ => zk_m43
  | 44, _ => zk_m44
  | 45, _ => zk_m45
  | 46, _ => zk_m46
  | 47, _ => zk_m47
  | 48, _ => zk_m48
  | 49, _ => zk_m49
  | 50, _ => zk_m50
  | 51, _ => zk_m51
  | 52, _ => zk_m52
  | 53, _ => zk_m53
  | 54, _ => zk_m54
  | 55, _ => zk_m55
  | 56, _ => zk_m56
  | 57, _ => zk_m57
  | 58, _ => zk_m58
  | 59, _ => zk_m59
  | 60, _ => zk_m60
  | 61, _ => zk_m61
  | 62, _ => zk_m62
  | 63, _ => zk_m63
  | 64, _ => zk_m64
  | 65, _ => zk_m65
  | 66, _ => zk_m66
  | 67, _ => zk_m67
  | 68, _ => zk_m68
  | 69, _ => zk_m69
  | 70, _ => zk_m70
  | 71, _ => zk_m71
  | 72, _ => zk_m72
  | 73, _ => zk_m73
  | 74, _ => zk_m74
  | 75, _ => zk_m75
  | 76, _ => zk_m76
  | 77, _ => zk_m77
  | 78, _ => zk_m78
  | 79, _ => zk_m79
  | 80, _ => zk_m80
  | 81, _ => zk_m81
  | 82, _ => zk_m82
  | 83, _ => zk_m83
  | 84, _ => zk_m84
  | 85, _ => zk_m85
  | 86, _ => zk_m86
  | 87, _ => zk_m87
  | 88, _ => zk_m88
  | 89, _ => zk_m89
  | 90, _ => zk_m90
  | 91, _ => zk_m91
  | 92, _ => zk_m92
  | 93, _ => zk_m93
  | 94, _ => zk_m94
  | 95, _ => zk_m95
  | 96, _ => zk_m96
  | 97, _ => zk_m97
  | 98, _ => zk_m98
  | 99, _ => zk_m99
  | 100, _ => zk_m100
  | 101, _ => zk_m101
  | 102, _ => zk_m102
  | 103, _ => zk_m103
  | 104, _ => zk_m104
  | 105, _ => zk_m105
  | 106, _ => zk_m106
  | 107, _ => zk_m107
  | 108, _ => zk_m108
  | 109, _ => zk_m109
  | 110, _ => zk_m110
  | 111, _ => zk_m111
  | 112, _ => zk_m112
  | 113, _ => zk_m113
  | 114, _ => zk_m114
  | 115, _ => zk_m115
  | 116, _ => zk_m116
  | 117, _ => zk_m117
  | 118, _ => zk_m118
  | 119, _ => zk_m119
  | 120, _ => zk_m120
  | 121, _ => zk_m121
  | 122, _ => zk_m122
  | 123, _ => zk_m123
  | 124, _ => zk_m124
  | 125, _ => zk_m125
  | 126, _ => zk_m126
  | 127, _ => zk_m127
  | 128, _ => zk_m128
  | 129, _ => zk_m129
  | 130, _ => zk_m130
  | 131, _ => zk_m131
  | 132, _ => zk_m132
  | 133, _ => zk_m133
  | 134, _ => zk_m134
  | 135, _ => zk_m135
  | 136, _ => zk_m136
  | 137, _ => zk_m137
  | 138, _ => zk_m138
  | 139, _ => zk_m139
  | 140, _ => zk_m140
  | 141, _ => zk_m141
  | 142, _ => zk_m142
  | 143, _ => zk_m143
  | 144, _ => zk_m144
  | 145, _ => zk_m145
  | 146, _ => zk_m146
  | 147, _ => zk_m147
  | 148, _ => zk_m148
  | 149, _ => zk_m149
  | 150, _ => zk_m150
  | 151, _ => zk_m151
  | 152, _ => zk_m152
  | 153, _ => zk_m153
  | 154, _ => zk_m154
  | 155, _ => zk_m155
  | 156, _ => zk_m156
  | 157, _ => zk_m157
  | 158, _ => zk_m158
  | 159, _ => zk_m159
  | 160, _ => zk_m160
  | 161, _ => zk_m161
  | 162, _ => zk_m162
  | 163, _ => zk_m163
  | 164, _ => zk_m164
  | 165, _ => zk_m165
  | 166, _ => zk_m166
  | 167, _ => zk_m167
  | 168, _ => zk_m168
  | 169, _ => zk_m169
  | 170, _ => zk_m170
  | 171, _ => zk_m171
  | 172, _ => zk_m172
  | 173, _ => zk_m173
  | 174, _ => zk_m174
  | 175, _ => zk_m175
  | 176, _ => zk_m176
  | 177, _ => zk_m177
  | 178, _ => zk_m178
  | 179, _ => zk_m179
  | 180, _ => zk_m180
  | 181, _ => zk_m181
  | 182, _ => zk_m182
  | 183, _ => zk_m183
  | 184, _ => zk_m184
  | 185, _ => zk_m185
  | 186, _ => zk_m186
  | 187, _ => zk_m187
  | 188, _ => zk_m188
  | 189, _ => zk_m189
  | 190, _ => zk_m190
  | 191, _ => zk_m191
  | 192, _ => zk_m192
  | 193, _ => zk_m193
  | 194, _ => zk_m194
  | 195, _ => zk_m195
  | 196, _ => zk_m196
  | 197, _ => zk_m197
  | 198, _ => zk_m198
  | 199, _ => zk_m199
  | 200, _ => zk_m200
  | 201, _ => zk_m201
  | 202, _ => zk_m202
  | 203, _ => zk_m203
  | 204, _ => zk_m204
  | 205, _ => zk_m205
  | 206, _ => zk_m206
  | 207, _ => zk_m207
  | 208, _ => zk_m208
  | 209, _ => zk_m209
  | 210, _ => zk_m210
  | 211, _ => zk_m211
  | 212, _ => zk_m212
  | 213, _ => zk_m213
  | 214, _ => zk_m214
  | 215, _ => zk_m215
  | 216, _ => zk_m216
  | 217, _ => zk_m217
  | 218, _ => zk_m218
  | 219, _ => zk_m219
  | 220, _ => zk_m220
  | 221, _ => zk_m221
  | 222, _ => zk_m222
  | 223, _ => zk_m223
  | 224, _ => zk_m224
  | 225, _ => zk_m225
  | 226, _ => zk_m226
  | 227, _ => zk_m227
  | 228, _ => zk_m228
  | 229, _ => zk_m229
  | 230, _ => zk_m230
  | 231, _ => zk_m231
  | 232, _ => zk_m232
  | 233, _ => zk_m233
  | 234, _ => zk_m234
  | 235, _ => zk_m235
  | 236, _ => zk_m236
  | 237, _ => zk_m237
  | 238, _ => zk_m238
  | 239, _ => zk_m239
  | 240, _ => zk_m240
  | 241, _ => zk_m241
  | 242, _ => zk_m242
  | 243, _ => zk_m243
  | 244, _ => zk_m244
  | 245, _ => zk_m245
  | 246, _ => zk_m246
  | 247, _ => zk_m247
  | 248, _ => zk_m248
  | 249, _ => zk_m249
  | 250, _ => zk_m250
  | 251, _ => zk_m251
  | 252, _ => zk_m252
  | 253, _ => zk_m253
  | 254, _ => zk_m254
  | 255, _ => zk_m255
  | 256, _ => zk_m256
  | 257, _ => zk_m257
  | 258, _ => zk_m258
  | 259, _ => zk_m259
  | 260, _ => zk_m260
  | 261, _ => zk_m261
  | 262, _ => zk_m262
  | 263, _ => zk_m263
  | 264, _ => zk_m264
  | 265, _ => zk_m265
  | 266, _ => zk_m266
  | 267, _ => zk_m267
  | 268, _ => zk_m268
  | 269, _ => zk_m269
  | 270, _ => zk_m270
  | 271, _ => zk_m271
  | 272, _ => zk_m272
  | 273, _ => zk_m273
  | 274, _ => zk_m274
  | 275, _ => zk_m275
  | 276, _ => zk_m276
  | 277, _ => zk_m277
  | 278, _ => zk_m278
  | 279, _ => zk_m279
  | 280, _ => zk_m280
  | 281, _ => zk_m281
  | n + 282, h => absurd h (by omega)
theorem zAll_ok : zAll := ⟨fun E h => zall_to zk_thr E (by omega) (by omega), zmok_all, zmok2_all, zmok3_all, zmk_all⟩
