/-! Printed by wip/v2/gen8.py: the law's pictures and places. -/
noncomputable def zop_16 : ZO := (60, 256, (zn (some (1, 1)) z0 z0))
noncomputable def zop_17 : ZO := (60, 272, z0)
noncomputable def zop_63 : ZO := (2, 21, (zn (some (3, 2)) (zn (some (3, 3)) (zn (some (3, 70)) (zn (some (3, 72)) (zn (some (0, 4294967295)) z0 z0) z0) (zn (some (0, 0)) (zn (some (0, 0)) z0 z0) z0)) (zn (some (3, 71)) (zn (some (0, 0)) (zn (some (0, 0)) z0 z0) z0) (zn (some (0, 0)) z0 z0))) (zn (some (3, 64)) (zn (some (0, 0)) (zn (some (3, 73)) (zn (some (3, 74)) z0 z0) z0) (zn (some (0, 0)) (zn (some (5, 8246337208320)) z0 z0) z0)) (zn (some (0, 0)) (zn (some (0, 0)) (zn (some (3, 75)) z0 z0) z0) (zn (some (0, 0)) z0 z0)))))
noncomputable def zop_64 : ZO := (8, 13, (zn (some (3, 65)) (zn (some (3, 66)) (zn (some (3, 68)) (zn (some (0, 0)) z0 z0) (zn (some (0, 0)) z0 z0)) (zn (some (0, 0)) (zn (some (0, 0)) z0 z0) z0)) (zn (some (3, 67)) (zn (some (3, 69)) (zn (some (0, 0)) z0 z0) (zn (some (0, 0)) z0 z0)) (zn (some (0, 0)) (zn (some (0, 0)) z0 z0) z0))))
noncomputable def zop_65 : ZO := (60, 40000, z0)
noncomputable def zop_66 : ZO := (50, 40000, z0)
noncomputable def zop_67 : ZO := (60, 200000, z0)
noncomputable def zop_68 : ZO := (50, 900, z0)
noncomputable def zop_69 : ZO := (50, 20000, z0)
noncomputable def zop_70 : ZO := (60, 200000, z0)
noncomputable def zop_73 : ZO := (60, 4, z0)
noncomputable def zop_74 : ZO := (51, 20000, z0)
noncomputable def zHp : ZH := (zn (some zcb_0) (zn (some zcb_1) (zn (some zcb_3) (zn (some zcb_7) (zn (some zcb_15) (zn (some zcb_31) (zn (some zop_63) (zn (some zcb_127) (zn (some zcb_255) z0 z0) z0) (zn (some zcb_191) z0 z0)) (zn (some zcb_95) (zn (some zcb_159) z0 z0) (zn (some zcb_223) z0 z0))) (zn (some zcb_47) (zn (some zcb_79) (zn (some zcb_143) z0 z0) (zn (some zcb_207) z0 z0)) (zn (some zcb_111) (zn (some zcb_175) z0 z0) (zn (some zcb_239) z0 z0)))) (zn (some zcb_23) (zn (some zcb_39) (zn (some zcb_71) (zn (some zcb_135) (zn (some zcb_263) z0 z0) z0) (zn (some zcb_199) z0 z0)) (zn (some zcb_103) (zn (some zcb_167) z0 z0) (zn (some zcb_231) z0 z0))) (zn (some zcb_55) (zn (some zcb_87) (zn (some zcb_151) z0 z0) (zn (some zcb_215) z0 z0)) (zn (some zcb_119) (zn (some zcb_183) z0 z0) (zn (some zcb_247) z0 z0))))) (zn (some zcb_11) (zn (some zcb_19) (zn (some zcb_35) (zn (some zop_67) (zn (some zcb_131) (zn (some zcb_259) z0 z0) z0) (zn (some zcb_195) z0 z0)) (zn (some zcb_99) (zn (some zcb_163) z0 z0) (zn (some zcb_227) z0 z0))) (zn (some zcb_51) (zn (some zcb_83) (zn (some zcb_147) z0 z0) (zn (some zcb_211) z0 z0)) (zn (some zcb_115) (zn (some zcb_179) z0 z0) (zn (some zcb_243) z0 z0)))) (zn (some zcb_27) (zn (some zcb_43) (zn (some zcb_75) (zn (some zcb_139) z0 z0) (zn (some zcb_203) z0 z0)) (zn (some zcb_107) (zn (some zcb_171) z0 z0) (zn (some zcb_235) z0 z0))) (zn (some zcb_59) (zn (some zcb_91) (zn (some zcb_155) z0 z0) (zn (some zcb_219) z0 z0)) (zn (some zcb_123) (zn (some zcb_187) z0 z0) (zn (some zcb_251) z0 z0)))))) (zn (some zcb_5) (zn (some zcb_9) (zn (some zop_17) (zn (some zcb_33) (zn (some zop_65) (zn (some zcb_129) (zn (some zcb_257) z0 z0) z0) (zn (some zcb_193) z0 z0)) (zn (some zcb_97) (zn (some zcb_161) z0 z0) (zn (some zcb_225) z0 z0))) (zn (some zcb_49) (zn (some zcb_81) (zn (some zcb_145) z0 z0) (zn (some zcb_209) z0 z0)) (zn (some zcb_113) (zn (some zcb_177) z0 z0) (zn (some zcb_241) z0 z0)))) (zn (some zcb_25) (zn (some zcb_41) (zn (some zop_73) (zn (some zcb_137) z0 z0) (zn (some zcb_201) z0 z0)) (zn (some zcb_105) (zn (some zcb_169) z0 z0) (zn (some zcb_233) z0 z0))) (zn (some zcb_57) (zn (some zcb_89) (zn (some zcb_153) z0 z0) (zn (some zcb_217) z0 z0)) (zn (some zcb_121) (zn (some zcb_185) z0 z0) (zn (some zcb_249) z0 z0))))) (zn (some zcb_13) (zn (some zcb_21) (zn (some zcb_37) (zn (some zop_69) (zn (some zcb_133) (zn (some zcb_261) z0 z0) z0) (zn (some zcb_197) z0 z0)) (zn (some zcb_101) (zn (some zcb_165) z0 z0) (zn (some zcb_229) z0 z0))) (zn (some zcb_53) (zn (some zcb_85) (zn (some zcb_149) z0 z0) (zn (some zcb_213) z0 z0)) (zn (some zcb_117) (zn (some zcb_181) z0 z0) (zn (some zcb_245) z0 z0)))) (zn (some zcb_29) (zn (some zcb_45) (zn (some zcb_77) (zn (some zcb_141) z0 z0) (zn (some zcb_205) z0 z0)) (zn (some zcb_109) (zn (some zcb_173) z0 z0) (zn (some zcb_237) z0 z0))) (zn (some zcb_61) (zn (some zcb_93) (zn (some zcb_157) z0 z0) (zn (some zcb_221) z0 z0)) (zn (some zcb_125) (zn (some zcb_189) z0 z0) (zn (some zcb_253) z0 z0))))))) (zn (some zcb_2) (zn (some zcb_4) (zn (some zcb_8) (zn (some zop_16) (zn (some zcb_32) (zn (some zop_64) (zn (some zcb_128) (zn (some zcb_256) z0 z0) z0) (zn (some zcb_192) z0 z0)) (zn (some zcb_96) (zn (some zcb_160) z0 z0) (zn (some zcb_224) z0 z0))) (zn (some zcb_48) (zn (some zcb_80) (zn (some zcb_144) z0 z0) (zn (some zcb_208) z0 z0)) (zn (some zcb_112) (zn (some zcb_176) z0 z0) (zn (some zcb_240) z0 z0)))) (zn (some zcb_24) (zn (some zcb_40) (zn (some zcb_72) (zn (some zcb_136) (zn (some zcb_264) z0 z0) z0) (zn (some zcb_200) z0 z0)) (zn (some zcb_104) (zn (some zcb_168) z0 z0) (zn (some zcb_232) z0 z0))) (zn (some zcb_56) (zn (some zcb_88) (zn (some zcb_152) z0 z0) (zn (some zcb_216) z0 z0)) (zn (some zcb_120) (zn (some zcb_184) z0 z0) (zn (some zcb_248) z0 z0))))) (zn (some zcb_12) (zn (some zcb_20) (zn (some zcb_36) (zn (some zop_68) (zn (some zcb_132) (zn (some zcb_260) z0 z0) z0) (zn (some zcb_196) z0 z0)) (zn (some zcb_100) (zn (some zcb_164) z0 z0) (zn (some zcb_228) z0 z0))) (zn (some zcb_52) (zn (some zcb_84) (zn (some zcb_148) z0 z0) (zn (some zcb_212) z0 z0)) (zn (some zcb_116) (zn (some zcb_180) z0 z0) (zn (some zcb_244) z0 z0)))) (zn (some zcb_28) (zn (some zcb_44) (zn (some zcb_76) (zn (some zcb_140) z0 z0) (zn (some zcb_204) z0 z0)) (zn (some zcb_108) (zn (some zcb_172) z0 z0) (zn (some zcb_236) z0 z0))) (zn (some zcb_60) (zn (some zcb_92) (zn (some zcb_156) z0 z0) (zn (some zcb_220) z0 z0)) (zn (some zcb_124) (zn (some zcb_188) z0 z0) (zn (some zcb_252) z0 z0)))))) (zn (some zcb_6) (zn (some zcb_10) (zn (some zcb_18) (zn (some zcb_34) (zn (some zop_66) (zn (some zcb_130) (zn (some zcb_258) z0 z0) z0) (zn (some zcb_194) z0 z0)) (zn (some zcb_98) (zn (some zcb_162) z0 z0) (zn (some zcb_226) z0 z0))) (zn (some zcb_50) (zn (some zcb_82) (zn (some zcb_146) z0 z0) (zn (some zcb_210) z0 z0)) (zn (some zcb_114) (zn (some zcb_178) z0 z0) (zn (some zcb_242) z0 z0)))) (zn (some zcb_26) (zn (some zcb_42) (zn (some zop_74) (zn (some zcb_138) z0 z0) (zn (some zcb_202) z0 z0)) (zn (some zcb_106) (zn (some zcb_170) z0 z0) (zn (some zcb_234) z0 z0))) (zn (some zcb_58) (zn (some zcb_90) (zn (some zcb_154) z0 z0) (zn (some zcb_218) z0 z0)) (zn (some zcb_122) (zn (some zcb_186) z0 z0) (zn (some zcb_250) z0 z0))))) (zn (some zcb_14) (zn (some zcb_22) (zn (some zcb_38) (zn (some zop_70) (zn (some zcb_134) (zn (some zcb_262) z0 z0) z0) (zn (some zcb_198) z0 z0)) (zn (some zcb_102) (zn (some zcb_166) z0 z0) (zn (some zcb_230) z0 z0))) (zn (some zcb_54) (zn (some zcb_86) (zn (some zcb_150) z0 z0) (zn (some zcb_214) z0 z0)) (zn (some zcb_118) (zn (some zcb_182) z0 z0) (zn (some zcb_246) z0 z0)))) (zn (some zcb_30) (zn (some zcb_46) (zn (some zcb_78) (zn (some zcb_142) z0 z0) (zn (some zcb_206) z0 z0)) (zn (some zcb_110) (zn (some zcb_174) z0 z0) (zn (some zcb_238) z0 z0))) (zn (some zcb_62) (zn (some zcb_94) (zn (some zcb_158) z0 z0) (zn (some zcb_222) z0 z0)) (zn (some zcb_126) (zn (some zcb_190) z0 z0) (zn (some zcb_254) z0 z0))))))))
noncomputable def zof_16 : ZO := (1122, 256, z0)
noncomputable def zof_17 : ZO := (1126, 272, z0)
noncomputable def zof_63 : ZO := (2, 21, (zn (some (3, 2)) (zn (some (3, 3)) (zn (some (3, 70)) (zn (some (3, 72)) (zn (some (0, 4294967295)) z0 z0) z0) (zn (some (0, 0)) (zn (some (6, 0)) z0 z0) z0)) (zn (some (3, 71)) (zn (some (6, 0)) (zn (some (5, 225949639507968)) z0 z0) z0) (zn (some (6, 0)) z0 z0))) (zn (some (3, 64)) (zn (some (6, 0)) (zn (some (3, 73)) (zn (some (3, 74)) z0 z0) z0) (zn (some (6, 0)) (zn (some (6, 0)) z0 z0) z0)) (zn (some (0, 0)) (zn (some (0, 2)) (zn (some (3, 75)) z0 z0) z0) (zn (some (0, 0)) z0 z0)))))
noncomputable def zof_64 : ZO := (8, 13, (zn (some (3, 65)) (zn (some (3, 66)) (zn (some (3, 68)) (zn (some (6, 0)) z0 z0) (zn (some (5, 235845244157952)) z0 z0)) (zn (some (6, 0)) (zn (some (5, 233646220902400)) z0 z0) z0)) (zn (some (3, 67)) (zn (some (3, 69)) (zn (some (6, 0)) z0 z0) (zn (some (6, 0)) z0 z0)) (zn (some (6, 0)) (zn (some (5, 234745732530176)) z0 z0) z0))))
noncomputable def zof_65 : ZO := (1090, 40000, z0)
noncomputable def zof_66 : ZO := (1092, 40000, z0)
noncomputable def zof_67 : ZO := (1098, 200000, z0)
noncomputable def zof_68 : ZO := (1100, 900, z0)
noncomputable def zof_69 : ZO := (1104, 20000, z0)
noncomputable def zof_70 : ZO := (1086, 200000, z0)
noncomputable def zof_73 : ZO := (1118, 4, z0)
noncomputable def zof_74 : ZO := (1109, 20000, z0)
noncomputable def zof_75 : ZO := (1112, 1000, z0)
noncomputable def zHf : ZH := (zn (some zcb_0) (zn (some zcb_1) (zn (some zcb_3) (zn (some zcb_7) (zn (some zcb_15) (zn (some zcb_31) (zn (some zof_63) (zn (some zcb_127) (zn (some zcb_255) z0 z0) z0) (zn (some zcb_191) z0 z0)) (zn (some zcb_95) (zn (some zcb_159) z0 z0) (zn (some zcb_223) z0 z0))) (zn (some zcb_47) (zn (some zcb_79) (zn (some zcb_143) z0 z0) (zn (some zcb_207) z0 z0)) (zn (some zcb_111) (zn (some zcb_175) z0 z0) (zn (some zcb_239) z0 z0)))) (zn (some zcb_23) (zn (some zcb_39) (zn (some zcb_71) (zn (some zcb_135) (zn (some zcb_263) z0 z0) z0) (zn (some zcb_199) z0 z0)) (zn (some zcb_103) (zn (some zcb_167) z0 z0) (zn (some zcb_231) z0 z0))) (zn (some zcb_55) (zn (some zcb_87) (zn (some zcb_151) z0 z0) (zn (some zcb_215) z0 z0)) (zn (some zcb_119) (zn (some zcb_183) z0 z0) (zn (some zcb_247) z0 z0))))) (zn (some zcb_11) (zn (some zcb_19) (zn (some zcb_35) (zn (some zof_67) (zn (some zcb_131) (zn (some zcb_259) z0 z0) z0) (zn (some zcb_195) z0 z0)) (zn (some zcb_99) (zn (some zcb_163) z0 z0) (zn (some zcb_227) z0 z0))) (zn (some zcb_51) (zn (some zcb_83) (zn (some zcb_147) z0 z0) (zn (some zcb_211) z0 z0)) (zn (some zcb_115) (zn (some zcb_179) z0 z0) (zn (some zcb_243) z0 z0)))) (zn (some zcb_27) (zn (some zcb_43) (zn (some zof_75) (zn (some zcb_139) z0 z0) (zn (some zcb_203) z0 z0)) (zn (some zcb_107) (zn (some zcb_171) z0 z0) (zn (some zcb_235) z0 z0))) (zn (some zcb_59) (zn (some zcb_91) (zn (some zcb_155) z0 z0) (zn (some zcb_219) z0 z0)) (zn (some zcb_123) (zn (some zcb_187) z0 z0) (zn (some zcb_251) z0 z0)))))) (zn (some zcb_5) (zn (some zcb_9) (zn (some zof_17) (zn (some zcb_33) (zn (some zof_65) (zn (some zcb_129) (zn (some zcb_257) z0 z0) z0) (zn (some zcb_193) z0 z0)) (zn (some zcb_97) (zn (some zcb_161) z0 z0) (zn (some zcb_225) z0 z0))) (zn (some zcb_49) (zn (some zcb_81) (zn (some zcb_145) z0 z0) (zn (some zcb_209) z0 z0)) (zn (some zcb_113) (zn (some zcb_177) z0 z0) (zn (some zcb_241) z0 z0)))) (zn (some zcb_25) (zn (some zcb_41) (zn (some zof_73) (zn (some zcb_137) z0 z0) (zn (some zcb_201) z0 z0)) (zn (some zcb_105) (zn (some zcb_169) z0 z0) (zn (some zcb_233) z0 z0))) (zn (some zcb_57) (zn (some zcb_89) (zn (some zcb_153) z0 z0) (zn (some zcb_217) z0 z0)) (zn (some zcb_121) (zn (some zcb_185) z0 z0) (zn (some zcb_249) z0 z0))))) (zn (some zcb_13) (zn (some zcb_21) (zn (some zcb_37) (zn (some zof_69) (zn (some zcb_133) (zn (some zcb_261) z0 z0) z0) (zn (some zcb_197) z0 z0)) (zn (some zcb_101) (zn (some zcb_165) z0 z0) (zn (some zcb_229) z0 z0))) (zn (some zcb_53) (zn (some zcb_85) (zn (some zcb_149) z0 z0) (zn (some zcb_213) z0 z0)) (zn (some zcb_117) (zn (some zcb_181) z0 z0) (zn (some zcb_245) z0 z0)))) (zn (some zcb_29) (zn (some zcb_45) (zn (some zcb_77) (zn (some zcb_141) z0 z0) (zn (some zcb_205) z0 z0)) (zn (some zcb_109) (zn (some zcb_173) z0 z0) (zn (some zcb_237) z0 z0))) (zn (some zcb_61) (zn (some zcb_93) (zn (some zcb_157) z0 z0) (zn (some zcb_221) z0 z0)) (zn (some zcb_125) (zn (some zcb_189) z0 z0) (zn (some zcb_253) z0 z0))))))) (zn (some zcb_2) (zn (some zcb_4) (zn (some zcb_8) (zn (some zof_16) (zn (some zcb_32) (zn (some zof_64) (zn (some zcb_128) (zn (some zcb_256) z0 z0) z0) (zn (some zcb_192) z0 z0)) (zn (some zcb_96) (zn (some zcb_160) z0 z0) (zn (some zcb_224) z0 z0))) (zn (some zcb_48) (zn (some zcb_80) (zn (some zcb_144) z0 z0) (zn (some zcb_208) z0 z0)) (zn (some zcb_112) (zn (some zcb_176) z0 z0) (zn (some zcb_240) z0 z0)))) (zn (some zcb_24) (zn (some zcb_40) (zn (some zcb_72) (zn (some zcb_136) (zn (some zcb_264) z0 z0) z0) (zn (some zcb_200) z0 z0)) (zn (some zcb_104) (zn (some zcb_168) z0 z0) (zn (some zcb_232) z0 z0))) (zn (some zcb_56) (zn (some zcb_88) (zn (some zcb_152) z0 z0) (zn (some zcb_216) z0 z0)) (zn (some zcb_120) (zn (some zcb_184) z0 z0) (zn (some zcb_248) z0 z0))))) (zn (some zcb_12) (zn (some zcb_20) (zn (some zcb_36) (zn (some zof_68) (zn (some zcb_132) (zn (some zcb_260) z0 z0) z0) (zn (some zcb_196) z0 z0)) (zn (some zcb_100) (zn (some zcb_164) z0 z0) (zn (some zcb_228) z0 z0))) (zn (some zcb_52) (zn (some zcb_84) (zn (some zcb_148) z0 z0) (zn (some zcb_212) z0 z0)) (zn (some zcb_116) (zn (some zcb_180) z0 z0) (zn (some zcb_244) z0 z0)))) (zn (some zcb_28) (zn (some zcb_44) (zn (some zcb_76) (zn (some zcb_140) z0 z0) (zn (some zcb_204) z0 z0)) (zn (some zcb_108) (zn (some zcb_172) z0 z0) (zn (some zcb_236) z0 z0))) (zn (some zcb_60) (zn (some zcb_92) (zn (some zcb_156) z0 z0) (zn (some zcb_220) z0 z0)) (zn (some zcb_124) (zn (some zcb_188) z0 z0) (zn (some zcb_252) z0 z0)))))) (zn (some zcb_6) (zn (some zcb_10) (zn (some zcb_18) (zn (some zcb_34) (zn (some zof_66) (zn (some zcb_130) (zn (some zcb_258) z0 z0) z0) (zn (some zcb_194) z0 z0)) (zn (some zcb_98) (zn (some zcb_162) z0 z0) (zn (some zcb_226) z0 z0))) (zn (some zcb_50) (zn (some zcb_82) (zn (some zcb_146) z0 z0) (zn (some zcb_210) z0 z0)) (zn (some zcb_114) (zn (some zcb_178) z0 z0) (zn (some zcb_242) z0 z0)))) (zn (some zcb_26) (zn (some zcb_42) (zn (some zof_74) (zn (some zcb_138) z0 z0) (zn (some zcb_202) z0 z0)) (zn (some zcb_106) (zn (some zcb_170) z0 z0) (zn (some zcb_234) z0 z0))) (zn (some zcb_58) (zn (some zcb_90) (zn (some zcb_154) z0 z0) (zn (some zcb_218) z0 z0)) (zn (some zcb_122) (zn (some zcb_186) z0 z0) (zn (some zcb_250) z0 z0))))) (zn (some zcb_14) (zn (some zcb_22) (zn (some zcb_38) (zn (some zof_70) (zn (some zcb_134) (zn (some zcb_262) z0 z0) z0) (zn (some zcb_198) z0 z0)) (zn (some zcb_102) (zn (some zcb_166) z0 z0) (zn (some zcb_230) z0 z0))) (zn (some zcb_54) (zn (some zcb_86) (zn (some zcb_150) z0 z0) (zn (some zcb_214) z0 z0)) (zn (some zcb_118) (zn (some zcb_182) z0 z0) (zn (some zcb_246) z0 z0)))) (zn (some zcb_30) (zn (some zcb_46) (zn (some zcb_78) (zn (some zcb_142) z0 z0) (zn (some zcb_206) z0 z0)) (zn (some zcb_110) (zn (some zcb_174) z0 z0) (zn (some zcb_238) z0 z0))) (zn (some zcb_62) (zn (some zcb_94) (zn (some zcb_158) z0 z0) (zn (some zcb_222) z0 z0)) (zn (some zcb_126) (zn (some zcb_190) z0 z0) (zn (some zcb_254) z0 z0))))))))
def zCp : ZCn := ([(7, 63, 20)], [(258, 75), (262, 264)])
def zCf : ZCn := ([(205, 63, 17), (212, 64, 9), (213, 64, 10), (214, 64, 11)], [(271, 70), (272, 65), (273, 66), (274, 67), (275, 68), (276, 69), (277, 74), (278, 75), (279, 73), (280, 16), (281, 17), (262, 264)])
theorem zCp_1 : zcnB zCp zHp = true := by decide +kernel
theorem zCp_2 : zcfB zCp zHp = true := by decide +kernel
theorem zCp_3 : zCok zCp := by unfold zCok; decide +kernel
theorem zCf_1 : zcnB zCf zHf = true := by decide +kernel
theorem zCf_2 : zcfB zCf zHf = true := by decide +kernel
theorem zCf_3 : zCok zCf := by unfold zCok; decide +kernel
def zlpc (q : Nat) : Nat := match q with
  | 0 => 916
  | 1 => 1006
  | 2 => 1074
  | 3 => 1084
  | _ => 1144
noncomputable def zlL (q : Nat) : ZL := match q with
  | 0 => [some (4, 0), some (3, 0), some (5, 19241453486080), some (3, 264), some (5, 20340965113856), none, none]
  | 1 => [none, some (3, 0), some (5, 19241453486080), some (3, 264), none, none, none]
  | 2 => [none, some (3, 0), some (5, 19241453486080), some (3, 264), some (5, 20340965113856), none, none]
  | 3 => [none, some (3, 0), some (5, 19241453486080), some (3, 264), some (5, 20340965113856), some (5, 21440476741632), none]
  | _ => [none, some (3, 0), some (5, 19241453486080), some (3, 264), some (5, 22539988369408), some (5, 21440476741632), none]
noncomputable def zlC (q : Nat) : ZCn := match q with
  | 0 => zCp
  | _ => zCf
noncomputable def zlH (q : Nat) : ZH := match q with
  | 0 => zHp
  | _ => zHf
def zlqc (q : Nat) : Nat := match q with
  | 0 => 265
  | 1 => 265
  | _ => 266
def zlqs (q : Nat) : Nat := match q with
  | 0 => 666221
  | 1 => 666221
  | _ => 666227
theorem zlc_1 (q : Nat) : zcnB (zlC q) (zlH q) = true := match q with
  | 0 => zCp_1
  | _ + 1 => zCf_1
theorem zlc_2 (q : Nat) : zcfB (zlC q) (zlH q) = true := match q with
  | 0 => zCp_2
  | _ + 1 => zCf_2
theorem zlc_3 (q : Nat) : zCok (zlC q) := match q with
  | 0 => zCp_3
  | _ + 1 => zCf_3
theorem zlc_4 (q : Nat) : zlqc q ≤ 300 ∧ zlqs q ≤ 700000 := match q with
  | 0 => ⟨by decide, by decide⟩
  | 1 => ⟨by decide, by decide⟩
  | _ + 2 => ⟨show 266 ≤ 300 by decide, show 666227 ≤ 700000 by decide⟩
theorem zLrc {σ σ' : Nat → Int} {a b : Option ZV} {A B : ZL} (h : zLr1 σ σ' a b) (t : zLr σ σ' A B) : zLr σ σ' (a :: A) (b :: B) := ⟨h, t⟩
theorem zLrn {σ σ' : Nat → Int} {A : ZL} : zLr σ σ' A [] := by cases A <;> exact True.intro
theorem zb0v (f : Nat → Int) (q : Nat) : zvn f (5, q * 1099511627776 + 549755813888) = f q := zd_b0 f q
theorem zb0w {σ : Nat → Int} {v : ZV} {E : Int} (f' : Nat → Int) (q : Nat) (h : zvn σ v = E) (hE : f' q = E) : zvn σ v = zvn f' (5, q * 1099511627776 + 549755813888) := h.trans (hE.symm.trans (zb0v f' q).symm)
noncomputable def zlbB (pa pb : Nat) (N : ZN) (fu : Nat) (LAb LBb : ZL) (fi ff : List ZV) (ky : List ZKy) : Bool :=
  @Option.rec ZH (fun _ => Bool) false (fun h0 => @Option.rec ZH (fun _ => Bool) false (fun h1 =>
    zpcB (0, zlpc pb, LBb) [] N fu 45 0 (zlpc pa) LAb (h0, 265, zlqc pa, zlqs pa) (7777778, none, (h1, 265, zlqc pb, zlqs pb)))
    (zwr (zwF (zlC pb) ff ++ zwK1 (zlC pb) ky) (zlH pb))) (zwr (zwF (zlC pa) fi ++ zwK0 (zlC pa) ky) (zlH pa))
theorem zlbB_ok {pa pb : Nat} {N : ZN} {fu : Nat} {LAb LBb : ZL} {fi ff : List ZV} {ky : List ZKy} (h : zlbB pa pb N fu LAb LBb fi ff ky = true) : ∃ h0 h1 : ZH, zwr (zwF (zlC pa) fi ++ zwK0 (zlC pa) ky) (zlH pa) = some h0 ∧ zwr (zwF (zlC pb) ff ++ zwK1 (zlC pb) ky) (zlH pb) = some h1 ∧ zpcB (0, zlpc pb, LBb) [] N fu 45 0 (zlpc pa) LAb (h0, 265, zlqc pa, zlqs pa) (7777778, none, (h1, 265, zlqc pb, zlqs pb)) = true := by
  unfold zlbB at h
  cases e0 : zwr (zwF (zlC pa) fi ++ zwK0 (zlC pa) ky) (zlH pa) with
  | none =>
    rw [e0] at h
    exact absurd (show false = true from h) (by decide)
  | some h0 =>
    rw [e0] at h
    cases e1 : zwr (zwF (zlC pb) ff ++ zwK1 (zlC pb) ky) (zlH pb) with
    | none =>
      rw [e1] at h
      exact absurd (show false = true from h) (by decide)
    | some h1 =>
      rw [e1] at h
      exact ⟨h0, h1, rfl, rfl, h⟩
noncomputable def zlbE (pa : Nat) (N : ZN) (fu : Nat) (LAb : ZL) (fi : List ZV) (ky : List ZKy) : Bool :=
  @Option.rec ZH (fun _ => Bool) false (fun h0 => @Option.rec ZRes (fun _ => Bool) false (fun r => zif (Nat.beq r.1 0) (zif (zo_eqb zv_eqb r.2.1 (some (0, 1))) (zif (Nat.ble r.2.2.2.2.1 300) (Nat.ble r.2.2.2.2.2 700000) false) false) false) (zrunM (0, 9999, []) [] N fu 45 0 (zlpc pa) LAb [] (h0, 265, zlqc pa, zlqs pa))) (zwr (zwF (zlC pa) fi ++ zwK0 (zlC pa) ky) (zlH pa))
theorem zlbE_ok {pa : Nat} {N : ZN} {fu : Nat} {LAb : ZL} {fi : List ZV} {ky : List ZKy} (h : zlbE pa N fu LAb fi ky = true) : ∃ (h0 : ZH) (G : ZG), zwr (zwF (zlC pa) fi ++ zwK0 (zlC pa) ky) (zlH pa) = some h0 ∧ zrunM (0, 9999, []) [] N fu 45 0 (zlpc pa) LAb [] (h0, 265, zlqc pa, zlqs pa) = some (0, some (0, 1), G) ∧ G.2.2.1 ≤ 300 ∧ G.2.2.2 ≤ 700000 := by
  unfold zlbE at h
  cases e0 : zwr (zwF (zlC pa) fi ++ zwK0 (zlC pa) ky) (zlH pa) with
  | none =>
    rw [e0] at h
    exact absurd (show false = true from h) (by decide)
  | some h0 =>
    rw [e0] at h
    have h : @Option.rec ZRes (fun _ => Bool) false (fun r => zif (Nat.beq r.1 0) (zif (zo_eqb zv_eqb r.2.1 (some (0, 1))) (zif (Nat.ble r.2.2.2.2.1 300) (Nat.ble r.2.2.2.2.2 700000) false) false) false) (zrunM (0, 9999, []) [] N fu 45 0 (zlpc pa) LAb [] (h0, 265, zlqc pa, zlqs pa)) = true := h
    cases e1 : zrunM (0, 9999, []) [] N fu 45 0 (zlpc pa) LAb [] (h0, 265, zlqc pa, zlqs pa) with
    | none =>
      rw [e1] at h
      exact absurd (show false = true from h) (by decide)
    | some r =>
      rw [e1] at h
      obtain ⟨k1, k2⟩ := zif_and (show zif (Nat.beq r.1 0) (zif (zo_eqb zv_eqb r.2.1 (some (0, 1))) (zif (Nat.ble r.2.2.2.2.1 300) (Nat.ble r.2.2.2.2.2 700000) false) false) false = true from h)
      obtain ⟨k2, k3⟩ := zif_and k2
      obtain ⟨k3, k4⟩ := zif_and k3
      exact ⟨h0, r.2.2, rfl, e1.trans (congrArg some (Prod.ext (zb_eq k1) (Prod.ext (zo_eqb_ok (fun _ _ => zv_eqb_ok) k2) rfl))), zl_le k3, zl_le k4⟩
/-- the law's frame at a place, with the fields f and the rows g -/
def zLat (B0 : Nat) (X : ZX) (ad0 : Nat → Nat) (n0 : Nat) (p : Program) (l : Launch) (e : Env) (R : Room) (s : State) (m : MethodId) (args : Array Value) (below : List Frame) (meth : Method) (c : Code) (Q : State → Prop) (q : Nat) (f : Nat → Int) (g : Nat → Int → Int) : Prop :=
  zHd B0 (zXS X (zSg' f g)) ad0 n0 p l e R s m args below meth c Q (zm_nfo 0).1 (zlpc q) (zlL q) [] (zlH q, 265, zlqc q, zlqs q)
def zGdL (Ls : Nat) (xs : Nat → Int32) (A : Nat → (Nat → Int) → (Nat → Int → Int) → Prop) : Prop := ∃ (B0 : Nat) (X : ZX) (ad0 : Nat → Nat) (n0 : Nat) (p : Program) (l : Launch) (e : Env) (R : Room) (s : State) (m : MethodId) (args : Array Value) (below : List Frame) (meth : Method) (c : Code) (Q : State → Prop), zFr B0 Ls X 0 45 p l R s m args meth c ∧ X.2.2.2.1 = xs ∧ (300 ≤ R.cells ∧ 700000 ≤ R.slots) ∧ A = zLat B0 X ad0 n0 p l e R s m args below meth c Q
def zGdF (Ls : Nat) (xs : Nat → Int32) (A : Nat → (Nat → Int) → (Nat → Int → Int) → Prop) (AE : Prop) : Prop := ∃ (B0 : Nat) (X : ZX) (ad0 : Nat → Nat) (n0 : Nat) (p : Program) (l : Launch) (e : Env) (R : Room) (s : State) (m : MethodId) (args : Array Value) (below : List Frame) (meth : Method) (c : Code) (Q : State → Prop), zFr B0 Ls X 0 45 p l R s m args meth c ∧ X.2.2.2.1 = xs ∧ (300 ≤ R.cells ∧ 700000 ≤ R.slots) ∧ A = zLat B0 X ad0 n0 p l e R s m args below meth c Q ∧
  AE = ∀ (S : ZSg) (G : ZG) (pcR : Nat) (L' : ZL) (kd rty : Nat), zc_ret (zm_cc 0) (zm_ret 0) pcR kd rty = true → zrsk kd rty (some (0, 1)) = true → G.2.2.1 ≤ 300 → G.2.2.2 ≤ 700000 → zHd B0 (zXS X S) ad0 n0 p l e R s m args below meth c Q (zm_nfo 0).1 pcR L' [(0, 1)] G
def zToL (Ls : Nat) (xs : Nat → Int32) (pa : Nat) (f : Nat → Int) (g : Nat → Int → Int) (pb : Nat) (f' : Nat → Int) (g' : Nat → Int → Int) : Prop := ∀ A, zGdL Ls xs A → A pb f' g' → A pa f g
def zToF (Ls : Nat) (xs : Nat → Int32) (f : Nat → Int) (g : Nat → Int → Int) : Prop := ∀ A AE, zGdF Ls xs A AE → AE → A 4 f g
theorem zGdF_L {Ls : Nat} {xs : Nat → Int32} {A : Nat → (Nat → Int) → (Nat → Int → Int) → Prop} {AE : Prop} (H : zGdF Ls xs A AE) : zGdL Ls xs A := by
  obtain ⟨B0, X, ad0, n0, p, l, e, R, s, m, args, below, meth, c, Q, h1, h2, h3, h4, -⟩ := H
  exact ⟨B0, X, ad0, n0, p, l, e, R, s, m, args, below, meth, c, Q, h1, h2, h3, h4⟩
theorem zToL_trans {Ls : Nat} {xs : Nat → Int32} {pa pb pc : Nat} {f f' f'' : Nat → Int} {g g' g'' : Nat → Int → Int} (h1 : zToL Ls xs pa f g pb f' g') (h2 : zToL Ls xs pb f' g' pc f'' g'') : zToL Ls xs pa f g pc f'' g'' := fun A H h => h1 A H (h2 A H h)
/-- an operation of the law's block -/
def zopL (Ls : Nat) (xs : Nat → Int32) (rg : List (Nat × Nat × Nat)) (σ : Nat → Int) (q : Nat × ZV × ZV × ZV) : Prop := (zopB rg q = true ∧ zopZ q.1 (zvn σ q.2.1) (zvn σ q.2.2.1) (zvn σ q.2.2.2)) ∨ ∀ X : ZX, zsg X = σ → X.2.2.2.1 = xs → zopd X Ls q.1 q.2.1 q.2.2.1 q.2.2.2
section ZR
variable {Ls : Nat} {xs : Nat → Int32} {rg : List (Nat × Nat × Nat)} {σ : Nat → Int} {x y r : ZV} {x' y' r' : Int}
theorem zopR2 (h1 : zisi x = true) (h2 : zisi y = true) (h3 : zisi r = true) (e1 : zvn σ x = x') (e2 : zvn σ y = y') (e3 : zvn σ r = r') (h : r' = (Int32.ofInt x' * Int32.ofInt y').toInt) : zopL Ls xs rg σ (2, x, y, r) := Or.inr fun X hs _ => by
  show zvi X r = zvi X x * zvi X y
  rw [zvn_i h1, zvn_i h2, zvn_i h3, hs, e1, e2, e3, h, Int32.ofInt_toInt]
theorem zopR3 (h1 : zisi x = true) (h2 : zisi y = true) (h3 : zisi r = true) (e1 : zvn σ x = x') (e2 : zvn σ y = y') (e3 : zvn σ r = r') (h : r' = (Int32.ofInt x' &&& Int32.ofInt y').toInt) : zopL Ls xs rg σ (3, x, y, r) := Or.inr fun X hs _ => by
  show zvi X r = zvi X x &&& zvi X y
  rw [zvn_i h1, zvn_i h2, zvn_i h3, hs, e1, e2, e3, h, Int32.ofInt_toInt]
theorem zopR7 (h1 : zisi x = true) (h2 : zisi y = true) (h3 : zisi r = true) (e1 : zvn σ x = x') (e2 : zvn σ y = y') (e3 : zvn σ r = r') (h : r' = (Int32.ofInt x' >>> (Int32.ofInt y' &&& 31)).toInt) : zopL Ls xs rg σ (7, x, y, r) := Or.inr fun X hs _ => by
  show zvi X r = zvi X x >>> (zvi X y &&& 31)
  rw [zvn_i h1, zvn_i h2, zvn_i h3, hs, e1, e2, e3, h, Int32.ofInt_toInt]
theorem zopR90 (h1 : zisi x = true) (h3 : zisi r = true) (e1 : zvn σ x = x') (e3 : zvn σ r = r') (h : ∃ j : Nat, j < Ls ∧ Ls ≤ 2147483647 ∧ x' = j ∧ r' = (xs j).toInt) : zopL Ls xs rg σ (90, x, y, r) := Or.inr fun X hs hx => by
  obtain ⟨j, a, b, c, d⟩ := h
  exact ⟨j, a, b, by rw [zvn_i h1, hs, e1, c]; rfl, by rw [zvn_i h3, hs, e3, d, Int32.ofInt_toInt, hx]⟩
theorem zopR91 (h3 : zisi r = true) (e3 : zvn σ r = r') (h : r' = (nI Ls).toInt) : zopL Ls xs rg σ (91, x, y, r) := Or.inr fun X hs _ => by
  show zvi X r = nI Ls
  rw [zvn_i h3, hs, e3, h, Int32.ofInt_toInt]
end ZR
theorem zand255' : ∀ n : Nat, n < 128 → ((n : Nat) : Int) = (Int32.ofInt (n : Nat) &&& Int32.ofInt 255).toInt := by decide +kernel
theorem zand255 {x : Int} (h : 0 ≤ x) (h' : x ≤ 127) : x = (Int32.ofInt x &&& Int32.ofInt 255).toInt := by
  have := zand255' x.toNat (by omega)
  rw [show ((x.toNat : Nat) : Int) = x by omega] at this
  exact this
theorem zNok_L {X : ZX} {Ls : Nat} {xs : Nat → Int32} {rg : List (Nat × Nat × Nat)} {cm : List (ZV × ZV × Nat)} {op : List (Nat × ZV × ZV × ZV)} {ky : List ZKy} (hx : X.2.2.2.1 = xs) (h : zNok X Ls (zmkN rg cm [] ky)) (hop : ∀ q ∈ op, zopL Ls xs rg (zsg X) q) : zNok X Ls (zmkN rg cm op ky) := by
  have hN0 : zNok X Ls (zN0 rg) := ⟨h.1, fun _ hq => (by cases hq), fun _ hq => (by cases hq), fun _ hq => (by cases hq), h.2.2.2.2⟩
  refine ⟨h.1, h.2.1, fun q hq => ?_, h.2.2.2.1, h.2.2.2.2⟩
  rcases hop q hq with ⟨h1, h2⟩ | h1
  · exact zopd_of hN0 h1 h2
  · exact h1 X rfl hx
theorem zblkL_a {C : ZCn} {h : ZH} {fi : List ZV} {ky : List ZKy} (hL : zblkL C h fi fi ky = true) : C.1.length = fi.length ∧ (∀ v ∈ fi, zisi v = true) ∧ zkyA C ky ∧ zkyT h C ky = true := by
  obtain ⟨l1, hL⟩ := zif_and hL
  obtain ⟨-, hL⟩ := zif_and hL
  obtain ⟨l3, hL⟩ := zif_and hL
  obtain ⟨-, hL⟩ := zif_and hL
  obtain ⟨l5, l6⟩ := zif_and hL
  exact ⟨zb_eq l1, fun v hv => List.all_eq_true.mp l3 v hv, fun q hq => by
    obtain ⟨c9, k1, k2⟩ := List.any_eq_true.mp (List.all_eq_true.mp l5 q hq)
    exact ⟨c9, k1, zb_eq k2⟩, l6⟩
theorem zlawA {Ls : Nat} {xs : Nat → Int32} {A : Nat → (Nat → Int) → (Nat → Int → Int) → Prop} {pa pb fu : Nat} {rg : List (Nat × Nat × Nat)} {cm : List (ZV × ZV × Nat)} {op : List (Nat × ZV × ZV × ZV)} {ky : List ZKy} {fi ff : List ZV} {w : List (Nat × ZV × ZV)} {LAb LBb : ZL}
    (hA : zAll) (H : zGdL Ls xs A) (hb : zlbB pa pb (zmkN rg cm op ky) fu LAb LBb fi ff ky = true) (hl : zblkL (zlC pa) (zlH pa) fi fi ky = true) (hm : zblkL (zlC pb) (zlH pb) ff ff ky = true) (hst : zstB (zlC pa) (zlH pa) rg cm [] ky [] = true) (hwf : w.all (fun q => zfitB rg q.2.2) = true) (hw : zwkf ky = w)
    (as : List (Nat × Int)) (σ : Nat → Int) (hσ : σ = zas as) (f f' : Nat → Int) (g : Nat → Int → Int) (hbd : zBd g) (hrg : zRgs rg as) (hF : zFis σ f (zlC pa).1 fi) (hF' : zFis σ f' (zlC pb).1 ff) (hLA : zLr f σ (zlL pa) LAb) (hLB : zLr σ f' LBb (zlL pb))
    (hcm : zEv (fun q => zcmd q.2.2 (zvn σ q.1) (zvn σ q.2.1)) cm) (hop : zEv (fun q => zopL Ls xs rg σ q) op) (hK : zEv (fun q => g q.1 (zvn σ q.2.2.1) = zvn σ q.2.2.2.1) ky)
    (go : zBd (fun a j => zupd σ w a j (g a j)) → A pb f' (fun a j => zupd σ w a j (g a j))) : A pa f g := by
  obtain ⟨B0, X, ad0, n0, p, l, e, R, s, m, args, below, meth, c, Q, F, hx, ⟨R1, R2⟩, rfl⟩ := H
  obtain ⟨kv, n1, n2, n3, n4, n5⟩ := zblock_pre X Ls hst hwf hw as σ hσ f' g hbd hrg hcm True.intro (sp := []) True.intro hK
  have hN := zNok_L (op := op) (X := zXS X (σ, fun a j => g a (j : Int), kv)) hx n1 (zEv_ok _ _ hop)
  obtain ⟨h0, h1, w0, w1, hr⟩ := zlbB_ok hb
  obtain ⟨a1, a2, a3, a4⟩ := zblkL_a hl
  obtain ⟨b1, b2, b3, b4⟩ := zblkL_a hm
  obtain ⟨c1, c2⟩ := zlc_4 pb
  have k := zstretch (hk := (0, zlpc pb, LBb)) (B0 := B0) (ad0 := ad0) (n0 := n0) (e := e) (below := below) (Q := Q) hA hN (fun q hq => by cases hq) hr (zFr_shift F) (Nat.le_trans c1 R1) (Nat.le_trans c2 R2) (fun ad hag H locs ls sv hW hS hLc hT => go n5 ad hag H locs ls sv (zout_block (n := 265) (zlc_3 pb) (zlc_1 pb) (zlc_2 pb) b1 b2 b3 b4 w1 (zFis_ok _ _ hF') n3 n4 hW) hS (zLc_re hLB hLc) hT)
  exact fun ad hag H locs ls sv hW hS hLc hT => k ad hag H locs ls sv (zin_block (n := 265) (S := zSg' f g) (S' := (σ, fun a j => g a (j : Int), kv)) (zlc_3 pa) (zlc_1 pa) (zlc_2 pa) a1 a2 a3 a4 w0 rfl (fun q hq => (zFis_ok _ _ hF q hq).symm) n2 hW) hS (zLc_re hLA hLc) hT
theorem zlawA_E {Ls : Nat} {xs : Nat → Int32} {A : Nat → (Nat → Int) → (Nat → Int → Int) → Prop} {AE : Prop} {fu : Nat} {rg : List (Nat × Nat × Nat)} {cm : List (ZV × ZV × Nat)} {op : List (Nat × ZV × ZV × ZV)} {ky : List ZKy} {fi : List ZV} {w : List (Nat × ZV × ZV)} {LAb : ZL}
    (hA : zAll) (H : zGdF Ls xs A AE) (hb : zlbE 4 (zmkN rg cm op ky) fu LAb fi ky = true) (hl : zblkL (zlC 4) (zlH 4) fi fi ky = true) (hst : zstB (zlC 4) (zlH 4) rg cm [] ky [] = true) (hwf : w.all (fun q => zfitB rg q.2.2) = true) (hw : zwkf ky = w)
    (as : List (Nat × Int)) (σ : Nat → Int) (hσ : σ = zas as) (f : Nat → Int) (g : Nat → Int → Int) (hbd : zBd g) (hrg : zRgs rg as) (hF : zFis σ f (zlC 4).1 fi) (hLA : zLr f σ (zlL 4) LAb)
    (hcm : zEv (fun q => zcmd q.2.2 (zvn σ q.1) (zvn σ q.2.1)) cm) (hop : zEv (fun q => zopL Ls xs rg σ q) op) (hK : zEv (fun q => g q.1 (zvn σ q.2.2.1) = zvn σ q.2.2.2.1) ky) (go : AE) : A 4 f g := by
  obtain ⟨B0, X, ad0, n0, p, l, e, R, s, m, args, below, meth, c, Q, F, hx, ⟨R1, R2⟩, rfl, rfl⟩ := H
  obtain ⟨kv, n1, n2, n3, n4, n5⟩ := zblock_pre X Ls hst hwf hw as σ hσ f g hbd hrg hcm True.intro (sp := []) True.intro hK
  have hN := zNok_L (op := op) (X := zXS X (σ, fun a j => g a (j : Int), kv)) hx n1 (zEv_ok _ _ hop)
  obtain ⟨h0, G, w0, hr, g1, g2⟩ := zlbE_ok hb
  obtain ⟨a1, a2, a3, a4⟩ := zblkL_a hl
  obtain ⟨-, -, -, k4⟩ := zrunM_ok (B0 := B0) hA hN (fun q hq => by cases hq) fu 45 0 _ _ _ _ _ hr
  have k := k4 ad0 n0 p l e R s m args below meth c Q (zFr_shift F) (Nat.le_trans g1 R1) (Nat.le_trans g2 R2) ⟨fun _ pcR L' kd rty z1 z2 => go _ G pcR L' kd rty z1 z2 g1 g2, fun z => absurd rfl z, fun _ z => absurd (show 0 = 7777778 from z) (by decide)⟩
  exact fun ad hag H locs ls sv hW hS hLc hT => k ad hag H locs ls sv (zin_block (n := 265) (S := zSg' f g) (S' := (σ, fun a j => g a (j : Int), kv)) (zlc_3 4) (zlc_1 4) (zlc_2 4) a1 a2 a3 a4 w0 rfl (fun q hq => (zFis_ok _ _ hF q hq).symm) n2 hW) hS (zLc_re hLA hLc) hT

