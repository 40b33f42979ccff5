theorem dX13_readClock_17 : decode cX13_readClock 17 = .ok (.istore_n 3, 1) := by decide +kernel
theorem dX13_readClock_18 : decode cX13_readClock 18 = .ok (.aload_n 0, 1) := by decide +kernel
theorem dX13_readClock_19 : decode cX13_readClock 19 = .ok (.getfield 13, 3) := by decide +kernel
theorem dX13_readClock_22 : decode cX13_readClock 22 = .ok (.iload_n 1, 1) := by decide +kernel
theorem dX13_readClock_23 : decode cX13_readClock 23 = .ok (.iconst 2, 1) := by decide +kernel
theorem dX13_readClock_24 : decode cX13_readClock 24 = .ok (.iadd, 1) := by decide +kernel
theorem dX13_readClock_25 : decode cX13_readClock 25 = .ok (.sipush 256, 3) := by decide +kernel
theorem dX13_readClock_28 : decode cX13_readClock 28 = .ok (.iload_n 2, 1) := by decide +kernel
theorem dX13_readClock_29 : decode cX13_readClock 29 = .ok (.imul, 1) := by decide +kernel
theorem dX13_readClock_30 : decode cX13_readClock 30 = .ok (.iload_n 3, 1) := by decide +kernel
theorem dX13_readClock_31 : decode cX13_readClock 31 = .ok (.iadd, 1) := by decide +kernel
theorem dX13_readClock_32 : decode cX13_readClock 32 = .ok (.iastore, 1) := by decide +kernel
theorem dX13_readClock_33 : decode cX13_readClock 33 = .ok (.return_, 1) := by decide +kernel
theorem dX13_readFlag_0 : decode cX13_readFlag 0 = .ok (.aload_n 0, 1) := by decide +kernel
theorem dX13_readFlag_1 : decode cX13_readFlag 1 = .ok (.aload_n 2, 1) := by decide +kernel
theorem dX13_readFlag_2 : decode cX13_readFlag 2 = .ok (.invokevirtual 552, 3) := by decide +kernel
theorem dX13_readFlag_5 : decode cX13_readFlag 5 = .ok (.istore_n 3, 1) := by decide +kernel
theorem dX13_readFlag_6 : decode cX13_readFlag 6 = .ok (.aload_n 0, 1) := by decide +kernel
theorem dX13_readFlag_7 : decode cX13_readFlag 7 = .ok (.getfield 13, 3) := by decide +kernel
theorem dX13_readFlag_10 : decode cX13_readFlag 10 = .ok (.iload_n 1, 1) := by decide +kernel
theorem dX13_readFlag_11 : decode cX13_readFlag 11 = .ok (.iload_n 3, 1) := by decide +kernel
theorem dX13_readFlag_12 : decode cX13_readFlag 12 = .ok (.ifCond .eq 7, 3) := by decide +kernel
theorem dX13_readFlag_15 : decode cX13_readFlag 15 = .ok (.iconst 1, 1) := by decide +kernel
theorem dX13_readFlag_16 : decode cX13_readFlag 16 = .ok (.goto 9, 3) := by decide +kernel
theorem dX13_readFlag_19 : decode cX13_readFlag 19 = .ok (.aload_n 0, 1) := by decide +kernel
theorem dX13_readFlag_20 : decode cX13_readFlag 20 = .ok (.getfield 13, 3) := by decide +kernel
theorem dX13_readFlag_23 : decode cX13_readFlag 23 = .ok (.iload_n 1, 1) := by decide +kernel
theorem dX13_readFlag_24 : decode cX13_readFlag 24 = .ok (.iaload, 1) := by decide +kernel
theorem dX13_readFlag_25 : decode cX13_readFlag 25 = .ok (.iastore, 1) := by decide +kernel
theorem dX13_readFlag_26 : decode cX13_readFlag 26 = .ok (.iload_n 3, 1) := by decide +kernel
theorem dX13_readFlag_27 : decode cX13_readFlag 27 = .ok (.ireturn, 1) := by decide +kernel
theorem dX13_readSetting_0 : decode cX13_readSetting 0 = .ok (.aload_n 0, 1) := by decide +kernel
theorem dX13_readSetting_1 : decode cX13_readSetting 1 = .ok (.ldc 139, 2) := by decide +kernel
theorem dX13_readSetting_3 : decode cX13_readSetting 3 = .ok (.invokevirtual 552, 3) := by decide +kernel
theorem dX13_readSetting_6 : decode cX13_readSetting 6 = .ok (.ifCond .eq 11, 3) := by decide +kernel
theorem dX13_readSetting_9 : decode cX13_readSetting 9 = .ok (.aload_n 0, 1) := by decide +kernel
theorem dX13_readSetting_10 : decode cX13_readSetting 10 = .ok (.iload_n 1, 1) := by decide +kernel
theorem dX13_readSetting_11 : decode cX13_readSetting 11 = .ok (.invokevirtual 555, 3) := by decide +kernel
theorem dX13_readSetting_14 : decode cX13_readSetting 14 = .ok (.goto 247, 3) := by decide +kernel
theorem dX13_readSetting_17 : decode cX13_readSetting 17 = .ok (.aload_n 0, 1) := by decide +kernel
theorem dX13_readSetting_18 : decode cX13_readSetting 18 = .ok (.ldc 141, 2) := by decide +kernel
theorem dX13_readSetting_20 : decode cX13_readSetting 20 = .ok (.invokevirtual 552, 3) := by decide +kernel
theorem dX13_readSetting_23 : decode cX13_readSetting 23 = .ok (.ifCond .eq 20, 3) := by decide +kernel
theorem dX13_readSetting_26 : decode cX13_readSetting 26 = .ok (.aload_n 0, 1) := by decide +kernel
theorem dX13_readSetting_27 : decode cX13_readSetting 27 = .ok (.iload_n 1, 1) := by decide +kernel
theorem dX13_readSetting_28 : decode cX13_readSetting 28 = .ok (.iconst 3, 1) := by decide +kernel
theorem dX13_readSetting_29 : decode cX13_readSetting 29 = .ok (.iadd, 1) := by decide +kernel
theorem dX13_readSetting_30 : decode cX13_readSetting 30 = .ok (.invokevirtual 558, 3) := by decide +kernel
theorem dX13_readSetting_33 : decode cX13_readSetting 33 = .ok (.aload_n 0, 1) := by decide +kernel
theorem dX13_readSetting_34 : decode cX13_readSetting 34 = .ok (.iload_n 1, 1) := by decide +kernel
theorem dX13_readSetting_35 : decode cX13_readSetting 35 = .ok (.iconst 4, 1) := by decide +kernel
theorem dX13_readSetting_36 : decode cX13_readSetting 36 = .ok (.iadd, 1) := by decide +kernel
theorem dX13_readSetting_37 : decode cX13_readSetting 37 = .ok (.invokevirtual 558, 3) := by decide +kernel
theorem dX13_readSetting_40 : decode cX13_readSetting 40 = .ok (.goto 221, 3) := by decide +kernel
theorem dX13_readSetting_43 : decode cX13_readSetting 43 = .ok (.aload_n 0, 1) := by decide +kernel
theorem dX13_readSetting_44 : decode cX13_readSetting 44 = .ok (.ldc 143, 2) := by decide +kernel
theorem dX13_readSetting_46 : decode cX13_readSetting 46 = .ok (.invokevirtual 512, 3) := by decide +kernel
theorem dX13_readSetting_49 : decode cX13_readSetting 49 = .ok (.ifCond .eq 15, 3) := by decide +kernel
theorem dX13_readSetting_52 : decode cX13_readSetting 52 = .ok (.aload_n 0, 1) := by decide +kernel
theorem dX13_readSetting_53 : decode cX13_readSetting 53 = .ok (.iload_n 1, 1) := by decide +kernel
theorem dX13_readSetting_54 : decode cX13_readSetting 54 = .ok (.iconst 5, 1) := by decide +kernel
theorem dX13_readSetting_55 : decode cX13_readSetting 55 = .ok (.iadd, 1) := by decide +kernel
theorem dX13_readSetting_56 : decode cX13_readSetting 56 = .ok (.bipush 16, 2) := by decide +kernel
theorem dX13_readSetting_58 : decode cX13_readSetting 58 = .ok (.invokevirtual 561, 3) := by decide +kernel
theorem dX13_readSetting_61 : decode cX13_readSetting 61 = .ok (.goto 200, 3) := by decide +kernel
theorem dX13_readSetting_64 : decode cX13_readSetting 64 = .ok (.aload_n 0, 1) := by decide +kernel
theorem dX13_readSetting_65 : decode cX13_readSetting 65 = .ok (.ldc 145, 2) := by decide +kernel
theorem dX13_readSetting_67 : decode cX13_readSetting 67 = .ok (.invokevirtual 512, 3) := by decide +kernel
theorem dX13_readSetting_70 : decode cX13_readSetting 70 = .ok (.ifCond .eq 15, 3) := by decide +kernel
theorem dX13_readSetting_73 : decode cX13_readSetting 73 = .ok (.aload_n 0, 1) := by decide +kernel
theorem dX13_readSetting_74 : decode cX13_readSetting 74 = .ok (.iload_n 1, 1) := by decide +kernel
theorem dX13_readSetting_75 : decode cX13_readSetting 75 = .ok (.bipush 7, 2) := by decide +kernel
theorem dX13_readSetting_77 : decode cX13_readSetting 77 = .ok (.iadd, 1) := by decide +kernel
theorem dX13_readSetting_78 : decode cX13_readSetting 78 = .ok (.iconst 5, 1) := by decide +kernel
theorem dX13_readSetting_79 : decode cX13_readSetting 79 = .ok (.invokevirtual 561, 3) := by decide +kernel
theorem dX13_readSetting_82 : decode cX13_readSetting 82 = .ok (.goto 179, 3) := by decide +kernel
theorem dX13_readSetting_85 : decode cX13_readSetting 85 = .ok (.aload_n 0, 1) := by decide +kernel
theorem dX13_readSetting_86 : decode cX13_readSetting 86 = .ok (.ldc 147, 2) := by decide +kernel
theorem dX13_readSetting_88 : decode cX13_readSetting 88 = .ok (.invokevirtual 512, 3) := by decide +kernel
theorem dX13_readSetting_91 : decode cX13_readSetting 91 = .ok (.ifCond .eq 15, 3) := by decide +kernel
theorem dX13_readSetting_94 : decode cX13_readSetting 94 = .ok (.aload_n 0, 1) := by decide +kernel
theorem dX13_readSetting_95 : decode cX13_readSetting 95 = .ok (.iload_n 1, 1) := by decide +kernel
theorem dX13_readSetting_96 : decode cX13_readSetting 96 = .ok (.bipush 9, 2) := by decide +kernel
theorem dX13_readSetting_98 : decode cX13_readSetting 98 = .ok (.iadd, 1) := by decide +kernel
theorem dX13_readSetting_99 : decode cX13_readSetting 99 = .ok (.iconst 4, 1) := by decide +kernel
theorem dX13_readSetting_100 : decode cX13_readSetting 100 = .ok (.invokevirtual 561, 3) := by decide +kernel
theorem dX13_readSetting_103 : decode cX13_readSetting 103 = .ok (.goto 158, 3) := by decide +kernel
theorem dX13_readSetting_106 : decode cX13_readSetting 106 = .ok (.aload_n 0, 1) := by decide +kernel
theorem dX13_readSetting_107 : decode cX13_readSetting 107 = .ok (.ldc 149, 2) := by decide +kernel
theorem dX13_readSetting_109 : decode cX13_readSetting 109 = .ok (.invokevirtual 552, 3) := by decide +kernel
theorem dX13_readSetting_112 : decode cX13_readSetting 112 = .ok (.ifCond .eq 17, 3) := by decide +kernel
theorem dX13_readSetting_115 : decode cX13_readSetting 115 = .ok (.aload_n 0, 1) := by decide +kernel
theorem dX13_readSetting_116 : decode cX13_readSetting 116 = .ok (.iload_n 1, 1) := by decide +kernel
theorem dX13_readSetting_117 : decode cX13_readSetting 117 = .ok (.bipush 11, 2) := by decide +kernel
theorem dX13_readSetting_119 : decode cX13_readSetting 119 = .ok (.iadd, 1) := by decide +kernel
theorem dX13_readSetting_120 : decode cX13_readSetting 120 = .ok (.iconst 0, 1) := by decide +kernel
theorem dX13_readSetting_121 : decode cX13_readSetting 121 = .ok (.bipush 15, 2) := by decide +kernel
theorem dX13_readSetting_123 : decode cX13_readSetting 123 = .ok (.invokevirtual 549, 3) := by decide +kernel
theorem dX13_readSetting_126 : decode cX13_readSetting 126 = .ok (.goto 135, 3) := by decide +kernel
theorem dX13_readSetting_129 : decode cX13_readSetting 129 = .ok (.aload_n 0, 1) := by decide +kernel
theorem dX13_readSetting_130 : decode cX13_readSetting 130 = .ok (.ldc 151, 2) := by decide +kernel
theorem dX13_readSetting_132 : decode cX13_readSetting 132 = .ok (.invokevirtual 552, 3) := by decide +kernel
theorem dX13_readSetting_135 : decode cX13_readSetting 135 = .ok (.ifCond .eq 17, 3) := by decide +kernel
theorem dX13_readSetting_138 : decode cX13_readSetting 138 = .ok (.aload_n 0, 1) := by decide +kernel
theorem dX13_readSetting_139 : decode cX13_readSetting 139 = .ok (.iload_n 1, 1) := by decide +kernel
theorem dX13_readSetting_140 : decode cX13_readSetting 140 = .ok (.bipush 12, 2) := by decide +kernel
theorem dX13_readSetting_142 : decode cX13_readSetting 142 = .ok (.iadd, 1) := by decide +kernel
theorem dX13_readSetting_143 : decode cX13_readSetting 143 = .ok (.iconst 0, 1) := by decide +kernel
theorem dX13_readSetting_144 : decode cX13_readSetting 144 = .ok (.bipush 15, 2) := by decide +kernel
theorem dX13_readSetting_146 : decode cX13_readSetting 146 = .ok (.invokevirtual 549, 3) := by decide +kernel
theorem dX13_readSetting_149 : decode cX13_readSetting 149 = .ok (.goto 112, 3) := by decide +kernel
theorem dX13_readSetting_152 : decode cX13_readSetting 152 = .ok (.aload_n 0, 1) := by decide +kernel
theorem dX13_readSetting_153 : decode cX13_readSetting 153 = .ok (.ldc 157, 2) := by decide +kernel
theorem dX13_readSetting_155 : decode cX13_readSetting 155 = .ok (.invokevirtual 512, 3) := by decide +kernel
theorem dX13_readSetting_158 : decode cX13_readSetting 158 = .ok (.ifCond .eq 14, 3) := by decide +kernel
theorem dX13_readSetting_161 : decode cX13_readSetting 161 = .ok (.aload_n 0, 1) := by decide +kernel
theorem dX13_readSetting_162 : decode cX13_readSetting 162 = .ok (.iload_n 1, 1) := by decide +kernel
theorem dX13_readSetting_163 : decode cX13_readSetting 163 = .ok (.bipush 15, 2) := by decide +kernel
theorem dX13_readSetting_165 : decode cX13_readSetting 165 = .ok (.iadd, 1) := by decide +kernel
theorem dX13_readSetting_166 : decode cX13_readSetting 166 = .ok (.invokevirtual 564, 3) := by decide +kernel
theorem dX13_readSetting_169 : decode cX13_readSetting 169 = .ok (.goto 92, 3) := by decide +kernel
theorem dX13_readSetting_172 : decode cX13_readSetting 172 = .ok (.aload_n 0, 1) := by decide +kernel
theorem dX13_readSetting_173 : decode cX13_readSetting 173 = .ok (.ldc 159, 2) := by decide +kernel
theorem dX13_readSetting_175 : decode cX13_readSetting 175 = .ok (.invokevirtual 512, 3) := by decide +kernel
theorem dX13_readSetting_178 : decode cX13_readSetting 178 = .ok (.ifCond .eq 14, 3) := by decide +kernel
theorem dX13_readSetting_181 : decode cX13_readSetting 181 = .ok (.aload_n 0, 1) := by decide +kernel
theorem dX13_readSetting_182 : decode cX13_readSetting 182 = .ok (.iload_n 1, 1) := by decide +kernel
theorem dX13_readSetting_183 : decode cX13_readSetting 183 = .ok (.bipush 17, 2) := by decide +kernel
theorem dX13_readSetting_185 : decode cX13_readSetting 185 = .ok (.iadd, 1) := by decide +kernel
theorem dX13_readSetting_186 : decode cX13_readSetting 186 = .ok (.invokevirtual 564, 3) := by decide +kernel
theorem dX13_readSetting_189 : decode cX13_readSetting 189 = .ok (.goto 72, 3) := by decide +kernel
theorem dX13_readSetting_192 : decode cX13_readSetting 192 = .ok (.aload_n 0, 1) := by decide +kernel
theorem dX13_readSetting_193 : decode cX13_readSetting 193 = .ok (.ldc 161, 2) := by decide +kernel
theorem dX13_readSetting_195 : decode cX13_readSetting 195 = .ok (.invokevirtual 512, 3) := by decide +kernel
theorem dX13_readSetting_198 : decode cX13_readSetting 198 = .ok (.ifCond .eq 13, 3) := by decide +kernel
theorem dX13_readSetting_201 : decode cX13_readSetting 201 = .ok (.aload_n 0, 1) := by decide +kernel
theorem dX13_readSetting_202 : decode cX13_readSetting 202 = .ok (.iload_n 1, 1) := by decide +kernel
theorem dX13_readSetting_203 : decode cX13_readSetting 203 = .ok (.bipush 8, 2) := by decide +kernel
theorem dX13_readSetting_205 : decode cX13_readSetting 205 = .ok (.invokevirtual 567, 3) := by decide +kernel
theorem dX13_readSetting_208 : decode cX13_readSetting 208 = .ok (.goto 53, 3) := by decide +kernel
theorem dX13_readSetting_211 : decode cX13_readSetting 211 = .ok (.aload_n 0, 1) := by decide +kernel
theorem dX13_readSetting_212 : decode cX13_readSetting 212 = .ok (.ldc 163, 2) := by decide +kernel
theorem dX13_readSetting_214 : decode cX13_readSetting 214 = .ok (.invokevirtual 512, 3) := by decide +kernel
theorem dX13_readSetting_217 : decode cX13_readSetting 217 = .ok (.ifCond .eq 12, 3) := by decide +kernel
theorem dX13_readSetting_220 : decode cX13_readSetting 220 = .ok (.aload_n 0, 1) := by decide +kernel
theorem dX13_readSetting_221 : decode cX13_readSetting 221 = .ok (.iload_n 1, 1) := by decide +kernel
theorem dX13_readSetting_222 : decode cX13_readSetting 222 = .ok (.iconst 0, 1) := by decide +kernel
theorem dX13_readSetting_223 : decode cX13_readSetting 223 = .ok (.invokevirtual 567, 3) := by decide +kernel
theorem dX13_readSetting_226 : decode cX13_readSetting 226 = .ok (.goto 35, 3) := by decide +kernel
theorem dX13_readSetting_229 : decode cX13_readSetting 229 = .ok (.aload_n 0, 1) := by decide +kernel
theorem dX13_readSetting_230 : decode cX13_readSetting 230 = .ok (.iload_n 1, 1) := by decide +kernel
theorem dX13_readSetting_231 : decode cX13_readSetting 231 = .ok (.bipush 13, 2) := by decide +kernel
theorem dX13_readSetting_233 : decode cX13_readSetting 233 = .ok (.iadd, 1) := by decide +kernel
theorem dX13_readSetting_234 : decode cX13_readSetting 234 = .ok (.ldc 153, 2) := by decide +kernel
theorem dX13_readSetting_236 : decode cX13_readSetting 236 = .ok (.invokevirtual 570, 3) := by decide +kernel
theorem dX13_readSetting_239 : decode cX13_readSetting 239 = .ok (.ifCond .ne 16, 3) := by decide +kernel
theorem dX13_readSetting_242 : decode cX13_readSetting 242 = .ok (.aload_n 0, 1) := by decide +kernel
theorem dX13_readSetting_243 : decode cX13_readSetting 243 = .ok (.iload_n 1, 1) := by decide +kernel
theorem dX13_readSetting_244 : decode cX13_readSetting 244 = .ok (.bipush 14, 2) := by decide +kernel
theorem dX13_readSetting_246 : decode cX13_readSetting 246 = .ok (.iadd, 1) := by decide +kernel
theorem dX13_readSetting_247 : decode cX13_readSetting 247 = .ok (.ldc 155, 2) := by decide +kernel
theorem dX13_readSetting_249 : decode cX13_readSetting 249 = .ok (.invokevirtual 570, 3) := by decide +kernel
theorem dX13_readSetting_252 : decode cX13_readSetting 252 = .ok (.ifCond .eq 7, 3) := by decide +kernel
theorem dX13_readSetting_255 : decode cX13_readSetting 255 = .ok (.iconst 1, 1) := by decide +kernel
theorem dX13_readSetting_256 : decode cX13_readSetting 256 = .ok (.goto 4, 3) := by decide +kernel
theorem dX13_readSetting_259 : decode cX13_readSetting 259 = .ok (.iconst 0, 1) := by decide +kernel
theorem dX13_readSetting_260 : decode cX13_readSetting 260 = .ok (.ireturn, 1) := by decide +kernel
theorem dX13_readSetting_261 : decode cX13_readSetting 261 = .ok (.aload_n 0, 1) := by decide +kernel
theorem dX13_readSetting_262 : decode cX13_readSetting 262 = .ok (.getfield 490, 3) := by decide +kernel
theorem dX13_readSetting_265 : decode cX13_readSetting 265 = .ok (.ifCond .ne 7, 3) := by decide +kernel
theorem dX13_readSetting_268 : decode cX13_readSetting 268 = .ok (.iconst 1, 1) := by decide +kernel
theorem dX13_readSetting_269 : decode cX13_readSetting 269 = .ok (.goto 4, 3) := by decide +kernel
theorem dX13_readSetting_272 : decode cX13_readSetting 272 = .ok (.iconst 0, 1) := by decide +kernel
theorem dX13_readSetting_273 : decode cX13_readSetting 273 = .ok (.ireturn, 1) := by decide +kernel
theorem dX13_readEngine_0 : decode cX13_readEngine 0 = .ok (.aload_n 0, 1) := by decide +kernel
theorem dX13_readEngine_1 : decode cX13_readEngine 1 = .ok (.aload_n 0, 1) := by decide +kernel
theorem dX13_readEngine_2 : decode cX13_readEngine 2 = .ok (.getfield 490, 3) := by decide +kernel
theorem dX13_readEngine_5 : decode cX13_readEngine 5 = .ok (.ifCond .ne 11, 3) := by decide +kernel
theorem dX13_readEngine_8 : decode cX13_readEngine 8 = .ok (.aload_n 0, 1) := by decide +kernel
theorem dX13_readEngine_9 : decode cX13_readEngine 9 = .ok (.getfield 481, 3) := by decide +kernel
theorem dX13_readEngine_12 : decode cX13_readEngine 12 = .ok (.iconst 2, 1) := by decide +kernel
theorem dX13_readEngine_13 : decode cX13_readEngine 13 = .ok (.if_icmp .ne 7, 3) := by decide +kernel
theorem dX13_readEngine_16 : decode cX13_readEngine 16 = .ok (.iconst 1, 1) := by decide +kernel
theorem dX13_readEngine_17 : decode cX13_readEngine 17 = .ok (.goto 4, 3) := by decide +kernel
theorem dX13_readEngine_20 : decode cX13_readEngine 20 = .ok (.iconst 0, 1) := by decide +kernel
theorem dX13_readEngine_21 : decode cX13_readEngine 21 = .ok (.iconst 1, 1) := by decide +kernel
theorem dX13_readEngine_22 : decode cX13_readEngine 22 = .ok (.invokevirtual 516, 3) := by decide +kernel
theorem dX13_readEngine_25 : decode cX13_readEngine 25 = .ok (.aload_n 0, 1) := by decide +kernel
theorem dX13_readEngine_26 : decode cX13_readEngine 26 = .ok (.aload_n 0, 1) := by decide +kernel
theorem dX13_readEngine_27 : decode cX13_readEngine 27 = .ok (.getfield 490, 3) := by decide +kernel
theorem dX13_readEngine_30 : decode cX13_readEngine 30 = .ok (.ifCond .ne 15, 3) := by decide +kernel
theorem dX13_readEngine_33 : decode cX13_readEngine 33 = .ok (.aload_n 0, 1) := by decide +kernel
theorem dX13_readEngine_34 : decode cX13_readEngine 34 = .ok (.invokevirtual 526, 3) := by decide +kernel
theorem dX13_readEngine_37 : decode cX13_readEngine 37 = .ok (.iconst 0, 1) := by decide +kernel
theorem dX13_readEngine_38 : decode cX13_readEngine 38 = .ok (.iconst 3, 1) := by decide +kernel
theorem dX13_readEngine_39 : decode cX13_readEngine 39 = .ok (.invokestatic 245, 3) := by decide +kernel
theorem dX13_readEngine_42 : decode cX13_readEngine 42 = .ok (.ifCond .eq 7, 3) := by decide +kernel
theorem dX13_readEngine_45 : decode cX13_readEngine 45 = .ok (.iconst 1, 1) := by decide +kernel
theorem dX13_readEngine_46 : decode cX13_readEngine 46 = .ok (.goto 4, 3) := by decide +kernel
theorem dX13_readEngine_49 : decode cX13_readEngine 49 = .ok (.iconst 0, 1) := by decide +kernel
theorem dX13_readEngine_50 : decode cX13_readEngine 50 = .ok (.iconst 2, 1) := by decide +kernel
theorem dX13_readEngine_51 : decode cX13_readEngine 51 = .ok (.invokevirtual 516, 3) := by decide +kernel
theorem dX13_readEngine_54 : decode cX13_readEngine 54 = .ok (.sipush 476, 3) := by decide +kernel
theorem dX13_readEngine_57 : decode cX13_readEngine 57 = .ok (.bipush 21, 2) := by decide +kernel
theorem dX13_readEngine_59 : decode cX13_readEngine 59 = .ok (.aload_n 0, 1) := by decide +kernel
theorem dX13_readEngine_60 : decode cX13_readEngine 60 = .ok (.getfield 490, 3) := by decide +kernel
theorem dX13_readEngine_63 : decode cX13_readEngine 63 = .ok (.ifCond .ne 10, 3) := by decide +kernel
theorem dX13_readEngine_66 : decode cX13_readEngine 66 = .ok (.aload_n 0, 1) := by decide +kernel
theorem dX13_readEngine_67 : decode cX13_readEngine 67 = .ok (.invokevirtual 526, 3) := by decide +kernel
theorem dX13_readEngine_70 : decode cX13_readEngine 70 = .ok (.goto 4, 3) := by decide +kernel
theorem dX13_readEngine_73 : decode cX13_readEngine 73 = .ok (.iconst 0, 1) := by decide +kernel
theorem dX13_readEngine_74 : decode cX13_readEngine 74 = .ok (.imul, 1) := by decide +kernel
theorem dX13_readEngine_75 : decode cX13_readEngine 75 = .ok (.iadd, 1) := by decide +kernel
theorem dX13_readEngine_76 : decode cX13_readEngine 76 = .ok (.istore_n 1, 1) := by decide +kernel
theorem dX13_readEngine_77 : decode cX13_readEngine 77 = .ok (.aload_n 0, 1) := by decide +kernel
theorem dX13_readEngine_78 : decode cX13_readEngine 78 = .ok (.aload_n 0, 1) := by decide +kernel
theorem dX13_readEngine_79 : decode cX13_readEngine 79 = .ok (.getfield 490, 3) := by decide +kernel
theorem dX13_readEngine_82 : decode cX13_readEngine 82 = .ok (.ifCond .ne 14, 3) := by decide +kernel
theorem dX13_readEngine_85 : decode cX13_readEngine 85 = .ok (.aload_n 0, 1) := by decide +kernel
theorem dX13_readEngine_86 : decode cX13_readEngine 86 = .ok (.getfield 13, 3) := by decide +kernel
theorem dX13_readEngine_89 : decode cX13_readEngine 89 = .ok (.iload_n 1, 1) := by decide +kernel
theorem dX13_readEngine_90 : decode cX13_readEngine 90 = .ok (.iconst 0, 1) := by decide +kernel
theorem dX13_readEngine_91 : decode cX13_readEngine 91 = .ok (.iadd, 1) := by decide +kernel
theorem dX13_readEngine_92 : decode cX13_readEngine 92 = .ok (.iaload, 1) := by decide +kernel
theorem dX13_readEngine_93 : decode cX13_readEngine 93 = .ok (.ifCond .ne 7, 3) := by decide +kernel
theorem dX13_readEngine_96 : decode cX13_readEngine 96 = .ok (.iconst 1, 1) := by decide +kernel
theorem dX13_readEngine_97 : decode cX13_readEngine 97 = .ok (.goto 4, 3) := by decide +kernel
theorem dX13_readEngine_100 : decode cX13_readEngine 100 = .ok (.iconst 0, 1) := by decide +kernel
theorem dX13_readEngine_101 : decode cX13_readEngine 101 = .ok (.iconst 4, 1) := by decide +kernel
theorem dX13_readEngine_102 : decode cX13_readEngine 102 = .ok (.invokevirtual 516, 3) := by decide +kernel
theorem dX13_readEngine_105 : decode cX13_readEngine 105 = .ok (.aload_n 0, 1) := by decide +kernel
theorem dX13_readEngine_106 : decode cX13_readEngine 106 = .ok (.invokevirtual 520, 3) := by decide +kernel
theorem dX13_readEngine_109 : decode cX13_readEngine 109 = .ok (.aload_n 0, 1) := by decide +kernel
theorem dX13_readEngine_110 : decode cX13_readEngine 110 = .ok (.getfield 490, 3) := by decide +kernel
theorem dX13_readEngine_113 : decode cX13_readEngine 113 = .ok (.ifCond .eq 4, 3) := by decide +kernel
theorem dX13_readEngine_116 : decode cX13_readEngine 116 = .ok (.return_, 1) := by decide +kernel
theorem dX13_readEngine_117 : decode cX13_readEngine 117 = .ok (.aload_n 0, 1) := by decide +kernel
theorem dX13_readEngine_118 : decode cX13_readEngine 118 = .ok (.getfield 13, 3) := by decide +kernel
theorem dX13_readEngine_121 : decode cX13_readEngine 121 = .ok (.iload_n 1, 1) := by decide +kernel
theorem dX13_readEngine_122 : decode cX13_readEngine 122 = .ok (.iconst 0, 1) := by decide +kernel
theorem dX13_readEngine_123 : decode cX13_readEngine 123 = .ok (.iadd, 1) := by decide +kernel
theorem dX13_readEngine_124 : decode cX13_readEngine 124 = .ok (.iconst 1, 1) := by decide +kernel
theorem dX13_readEngine_125 : decode cX13_readEngine 125 = .ok (.iastore, 1) := by decide +kernel
theorem dX13_readEngine_126 : decode cX13_readEngine 126 = .ok (.aload_n 0, 1) := by decide +kernel
theorem dX13_readEngine_127 : decode cX13_readEngine 127 = .ok (.getfield 13, 3) := by decide +kernel
theorem dX13_readEngine_130 : decode cX13_readEngine 130 = .ok (.iload_n 1, 1) := by decide +kernel
theorem dX13_readEngine_131 : decode cX13_readEngine 131 = .ok (.iconst 2, 1) := by decide +kernel
theorem dX13_readEngine_132 : decode cX13_readEngine 132 = .ok (.iadd, 1) := by decide +kernel
theorem dX13_readEngine_133 : decode cX13_readEngine 133 = .ok (.sipush 256, 3) := by decide +kernel
theorem dX13_readEngine_136 : decode cX13_readEngine 136 = .ok (.iastore, 1) := by decide +kernel
theorem dX13_readEngine_137 : decode cX13_readEngine 137 = .ok (.aload_n 0, 1) := by decide +kernel
theorem dX13_readEngine_138 : decode cX13_readEngine 138 = .ok (.getfield 13, 3) := by decide +kernel
theorem dX13_readEngine_141 : decode cX13_readEngine 141 = .ok (.iload_n 1, 1) := by decide +kernel
theorem dX13_readEngine_142 : decode cX13_readEngine 142 = .ok (.iconst 4, 1) := by decide +kernel
theorem dX13_readEngine_143 : decode cX13_readEngine 143 = .ok (.iadd, 1) := by decide +kernel
theorem dX13_readEngine_144 : decode cX13_readEngine 144 = .ok (.iconst (-1), 1) := by decide +kernel
theorem dX13_readEngine_145 : decode cX13_readEngine 145 = .ok (.iastore, 1) := by decide +kernel
theorem dX13_readEngine_146 : decode cX13_readEngine 146 = .ok (.aload_n 0, 1) := by decide +kernel
theorem dX13_readEngine_147 : decode cX13_readEngine 147 = .ok (.getfield 13, 3) := by decide +kernel
theorem dX13_readEngine_150 : decode cX13_readEngine 150 = .ok (.iload_n 1, 1) := by decide +kernel
theorem dX13_readEngine_151 : decode cX13_readEngine 151 = .ok (.bipush 15, 2) := by decide +kernel
theorem dX13_readEngine_153 : decode cX13_readEngine 153 = .ok (.iadd, 1) := by decide +kernel
theorem dX13_readEngine_154 : decode cX13_readEngine 154 = .ok (.bipush 32, 2) := by decide +kernel
theorem dX13_readEngine_156 : decode cX13_readEngine 156 = .ok (.iastore, 1) := by decide +kernel
theorem dX13_readEngine_157 : decode cX13_readEngine 157 = .ok (.aload_n 0, 1) := by decide +kernel
theorem dX13_readEngine_158 : decode cX13_readEngine 158 = .ok (.getfield 13, 3) := by decide +kernel
theorem dX13_readEngine_161 : decode cX13_readEngine 161 = .ok (.iload_n 1, 1) := by decide +kernel
theorem dX13_readEngine_162 : decode cX13_readEngine 162 = .ok (.bipush 17, 2) := by decide +kernel
theorem dX13_readEngine_164 : decode cX13_readEngine 164 = .ok (.iadd, 1) := by decide +kernel
theorem dX13_readEngine_165 : decode cX13_readEngine 165 = .ok (.bipush 32, 2) := by decide +kernel
theorem dX13_readEngine_167 : decode cX13_readEngine 167 = .ok (.iastore, 1) := by decide +kernel
theorem dX13_readEngine_168 : decode cX13_readEngine 168 = .ok (.aload_n 0, 1) := by decide +kernel
theorem dX13_readEngine_169 : decode cX13_readEngine 169 = .ok (.getfield 13, 3) := by decide +kernel
theorem dX13_readEngine_172 : decode cX13_readEngine 172 = .ok (.iload_n 1, 1) := by decide +kernel
theorem dX13_readEngine_173 : decode cX13_readEngine 173 = .ok (.bipush 19, 2) := by decide +kernel
theorem dX13_readEngine_175 : decode cX13_readEngine 175 = .ok (.iadd, 1) := by decide +kernel
theorem dX13_readEngine_176 : decode cX13_readEngine 176 = .ok (.iconst 4, 1) := by decide +kernel
theorem dX13_readEngine_177 : decode cX13_readEngine 177 = .ok (.iastore, 1) := by decide +kernel
theorem dX13_readEngine_178 : decode cX13_readEngine 178 = .ok (.aload_n 0, 1) := by decide +kernel
theorem dX13_readEngine_179 : decode cX13_readEngine 179 = .ok (.getfield 13, 3) := by decide +kernel
theorem dX13_readEngine_182 : decode cX13_readEngine 182 = .ok (.iload_n 1, 1) := by decide +kernel
theorem dX13_readEngine_183 : decode cX13_readEngine 183 = .ok (.bipush 20, 2) := by decide +kernel
theorem dX13_readEngine_185 : decode cX13_readEngine 185 = .ok (.iadd, 1) := by decide +kernel
theorem dX13_readEngine_186 : decode cX13_readEngine 186 = .ok (.iconst 4, 1) := by decide +kernel
theorem dX13_readEngine_187 : decode cX13_readEngine 187 = .ok (.iastore, 1) := by decide +kernel
theorem dX13_readEngine_188 : decode cX13_readEngine 188 = .ok (.aload_n 0, 1) := by decide +kernel
theorem dX13_readEngine_189 : decode cX13_readEngine 189 = .ok (.ldc 131, 2) := by decide +kernel
theorem dX13_readEngine_191 : decode cX13_readEngine 191 = .ok (.invokevirtual 574, 3) := by decide +kernel
theorem dX13_readEngine_194 : decode cX13_readEngine 194 = .ok (.aload_n 0, 1) := by decide +kernel
theorem dX13_readEngine_195 : decode cX13_readEngine 195 = .ok (.iload_n 1, 1) := by decide +kernel
theorem dX13_readEngine_196 : decode cX13_readEngine 196 = .ok (.iconst 1, 1) := by decide +kernel
theorem dX13_readEngine_197 : decode cX13_readEngine 197 = .ok (.iadd, 1) := by decide +kernel
theorem dX13_readEngine_198 : decode cX13_readEngine 198 = .ok (.invokevirtual 558, 3) := by decide +kernel
theorem dX13_readEngine_201 : decode cX13_readEngine 201 = .ok (.aload_n 0, 1) := by decide +kernel
theorem dX13_readEngine_202 : decode cX13_readEngine 202 = .ok (.iload_n 1, 1) := by decide +kernel
theorem dX13_readEngine_203 : decode cX13_readEngine 203 = .ok (.invokevirtual 578, 3) := by decide +kernel
theorem dX13_readEngine_206 : decode cX13_readEngine 206 = .ok (.ifCond .eq 15, 3) := by decide +kernel
theorem dX13_readEngine_209 : decode cX13_readEngine 209 = .ok (.aload_n 0, 1) := by decide +kernel
theorem dX13_readEngine_210 : decode cX13_readEngine 210 = .ok (.getfield 13, 3) := by decide +kernel
theorem dX13_readEngine_213 : decode cX13_readEngine 213 = .ok (.iload_n 1, 1) := by decide +kernel
theorem dX13_readEngine_214 : decode cX13_readEngine 214 = .ok (.iconst 0, 1) := by decide +kernel
theorem dX13_readEngine_215 : decode cX13_readEngine 215 = .ok (.iadd, 1) := by decide +kernel
theorem dX13_readEngine_216 : decode cX13_readEngine 216 = .ok (.iconst 1, 1) := by decide +kernel
theorem dX13_readEngine_217 : decode cX13_readEngine 217 = .ok (.iastore, 1) := by decide +kernel
theorem dX13_readEngine_218 : decode cX13_readEngine 218 = .ok (.goto (-17), 3) := by decide +kernel
theorem dX13_readEngine_221 : decode cX13_readEngine 221 = .ok (.return_, 1) := by decide +kernel
theorem dX13_readLevel_0 : decode cX13_readLevel 0 = .ok (.aload_n 0, 1) := by decide +kernel
theorem dX13_readLevel_1 : decode cX13_readLevel 1 = .ok (.iconst 0, 1) := by decide +kernel
theorem dX13_readLevel_2 : decode cX13_readLevel 2 = .ok (.bipush 15, 2) := by decide +kernel
theorem dX13_readLevel_4 : decode cX13_readLevel 4 = .ok (.invokevirtual 546, 3) := by decide +kernel
theorem dX13_readLevel_7 : decode cX13_readLevel 7 = .ok (.istore_n 1, 1) := by decide +kernel
theorem dX13_readLevel_8 : decode cX13_readLevel 8 = .ok (.aload_n 0, 1) := by decide +kernel
theorem dX13_readLevel_9 : decode cX13_readLevel 9 = .ok (.iconst 4, 1) := by decide +kernel
theorem dX13_readLevel_10 : decode cX13_readLevel 10 = .ok (.bipush 6, 2) := by decide +kernel
theorem dX13_readLevel_12 : decode cX13_readLevel 12 = .ok (.iload_n 1, 1) := by decide +kernel
theorem dX13_readLevel_13 : decode cX13_readLevel 13 = .ok (.imul, 1) := by decide +kernel
theorem dX13_readLevel_14 : decode cX13_readLevel 14 = .ok (.iadd, 1) := by decide +kernel
theorem dX13_readLevel_15 : decode cX13_readLevel 15 = .ok (.iconst 2, 1) := by decide +kernel
theorem dX13_readLevel_16 : decode cX13_readLevel 16 = .ok (.iadd, 1) := by decide +kernel
theorem dX13_readLevel_17 : decode cX13_readLevel 17 = .ok (.iconst 0, 1) := by decide +kernel
theorem dX13_readLevel_18 : decode cX13_readLevel 18 = .ok (.iconst 1, 1) := by decide +kernel
theorem dX13_readLevel_19 : decode cX13_readLevel 19 = .ok (.invokevirtual 549, 3) := by decide +kernel
theorem dX13_readLevel_22 : decode cX13_readLevel 22 = .ok (.return_, 1) := by decide +kernel
theorem dX13_readPlace_0 : decode cX13_readPlace 0 = .ok (.aload_n 0, 1) := by decide +kernel
theorem dX13_readPlace_1 : decode cX13_readPlace 1 = .ok (.aload_n 0, 1) := by decide +kernel
theorem dX13_readPlace_2 : decode cX13_readPlace 2 = .ok (.getfield 126, 3) := by decide +kernel
theorem dX13_readPlace_5 : decode cX13_readPlace 5 = .ok (.invokevirtual 529, 3) := by decide +kernel
theorem dX13_readPlace_8 : decode cX13_readPlace 8 = .ok (.istore_n 3, 1) := by decide +kernel
theorem dX13_readPlace_9 : decode cX13_readPlace 9 = .ok (.aload_n 0, 1) := by decide +kernel
theorem dX13_readPlace_10 : decode cX13_readPlace 10 = .ok (.aload_n 0, 1) := by decide +kernel
theorem dX13_readPlace_11 : decode cX13_readPlace 11 = .ok (.getfield 490, 3) := by decide +kernel
theorem dX13_readPlace_14 : decode cX13_readPlace 14 = .ok (.ifCond .ne 17, 3) := by decide +kernel
theorem dX13_readPlace_17 : decode cX13_readPlace 17 = .ok (.iload_n 3, 1) := by decide +kernel
theorem dX13_readPlace_18 : decode cX13_readPlace 18 = .ok (.iconst (-1), 1) := by decide +kernel
theorem dX13_readPlace_19 : decode cX13_readPlace 19 = .ok (.if_icmp .eq 16, 3) := by decide +kernel
theorem dX13_readPlace_22 : decode cX13_readPlace 22 = .ok (.iload_n 2, 1) := by decide +kernel
theorem dX13_readPlace_23 : decode cX13_readPlace 23 = .ok (.iload_n 3, 1) := by decide +kernel
theorem dX13_readPlace_24 : decode cX13_readPlace 24 = .ok (.ishr, 1) := by decide +kernel
theorem dX13_readPlace_25 : decode cX13_readPlace 25 = .ok (.iconst 1, 1) := by decide +kernel
theorem dX13_readPlace_26 : decode cX13_readPlace 26 = .ok (.iand, 1) := by decide +kernel
theorem dX13_readPlace_27 : decode cX13_readPlace 27 = .ok (.iconst 1, 1) := by decide +kernel
theorem dX13_readPlace_28 : decode cX13_readPlace 28 = .ok (.if_icmp .ne 7, 3) := by decide +kernel
theorem dX13_readPlace_31 : decode cX13_readPlace 31 = .ok (.iconst 1, 1) := by decide +kernel
theorem dX13_readPlace_32 : decode cX13_readPlace 32 = .ok (.goto 4, 3) := by decide +kernel
theorem dX13_readPlace_35 : decode cX13_readPlace 35 = .ok (.iconst 0, 1) := by decide +kernel
theorem dX13_readPlace_36 : decode cX13_readPlace 36 = .ok (.iconst 1, 1) := by decide +kernel
theorem dX13_readPlace_37 : decode cX13_readPlace 37 = .ok (.invokevirtual 516, 3) := by decide +kernel
theorem dX13_readPlace_40 : decode cX13_readPlace 40 = .ok (.aload_n 0, 1) := by decide +kernel
theorem dX13_readPlace_41 : decode cX13_readPlace 41 = .ok (.getfield 490, 3) := by decide +kernel
theorem dX13_readPlace_44 : decode cX13_readPlace 44 = .ok (.ifCond .ne 10, 3) := by decide +kernel
theorem dX13_readPlace_47 : decode cX13_readPlace 47 = .ok (.aload_n 0, 1) := by decide +kernel
theorem dX13_readPlace_48 : decode cX13_readPlace 48 = .ok (.getfield 13, 3) := by decide +kernel
theorem dX13_readPlace_51 : decode cX13_readPlace 51 = .ok (.iload_n 1, 1) := by decide +kernel
theorem dX13_readPlace_52 : decode cX13_readPlace 52 = .ok (.iload_n 3, 1) := by decide +kernel
theorem dX13_readPlace_53 : decode cX13_readPlace 53 = .ok (.iastore, 1) := by decide +kernel
theorem dX13_readPlace_54 : decode cX13_readPlace 54 = .ok (.aload_n 0, 1) := by decide +kernel
theorem dX13_readPlace_55 : decode cX13_readPlace 55 = .ok (.invokevirtual 520, 3) := by decide +kernel
theorem dX13_readPlace_58 : decode cX13_readPlace 58 = .ok (.return_, 1) := by decide +kernel
theorem dX13_readJump_0 : decode cX13_readJump 0 = .ok (.aload_n 0, 1) := by decide +kernel
theorem dX13_readJump_1 : decode cX13_readJump 1 = .ok (.aload_n 0, 1) := by decide +kernel
theorem dX13_readJump_2 : decode cX13_readJump 2 = .ok (.getfield 105, 3) := by decide +kernel
theorem dX13_readJump_5 : decode cX13_readJump 5 = .ok (.invokevirtual 529, 3) := by decide +kernel
theorem dX13_readJump_8 : decode cX13_readJump 8 = .ok (.istore_n 2, 1) := by decide +kernel
theorem dX13_readJump_9 : decode cX13_readJump 9 = .ok (.iload_n 2, 1) := by decide +kernel
theorem dX13_readJump_10 : decode cX13_readJump 10 = .ok (.iconst (-1), 1) := by decide +kernel
theorem dX13_readJump_11 : decode cX13_readJump 11 = .ok (.if_icmp .eq 16, 3) := by decide +kernel
theorem dX13_readJump_14 : decode cX13_readJump 14 = .ok (.aload_n 0, 1) := by decide +kernel
theorem dX13_readJump_15 : decode cX13_readJump 15 = .ok (.getfield 13, 3) := by decide +kernel
theorem dX13_readJump_18 : decode cX13_readJump 18 = .ok (.iload_n 1, 1) := by decide +kernel
theorem dX13_readJump_19 : decode cX13_readJump 19 = .ok (.iconst 1, 1) := by decide +kernel
theorem dX13_readJump_20 : decode cX13_readJump 20 = .ok (.iadd, 1) := by decide +kernel
theorem dX13_readJump_21 : decode cX13_readJump 21 = .ok (.iload_n 2, 1) := by decide +kernel
theorem dX13_readJump_22 : decode cX13_readJump 22 = .ok (.iastore, 1) := by decide +kernel
theorem dX13_readJump_23 : decode cX13_readJump 23 = .ok (.aload_n 0, 1) := by decide +kernel
theorem dX13_readJump_24 : decode cX13_readJump 24 = .ok (.invokevirtual 496, 3) := by decide +kernel
theorem dX13_readJump_27 : decode cX13_readJump 27 = .ok (.aload_n 0, 1) := by decide +kernel
theorem dX13_readJump_28 : decode cX13_readJump 28 = .ok (.iload_n 1, 1) := by decide +kernel
theorem dX13_readJump_29 : decode cX13_readJump 29 = .ok (.iconst 2, 1) := by decide +kernel
theorem dX13_readJump_30 : decode cX13_readJump 30 = .ok (.iadd, 1) := by decide +kernel
theorem dX13_readJump_31 : decode cX13_readJump 31 = .ok (.invokevirtual 558, 3) := by decide +kernel
theorem dX13_readJump_34 : decode cX13_readJump 34 = .ok (.return_, 1) := by decide +kernel
theorem dX13_readWait_0 : decode cX13_readWait 0 = .ok (.aload_n 0, 1) := by decide +kernel
theorem dX13_readWait_1 : decode cX13_readWait 1 = .ok (.iload_n 1, 1) := by decide +kernel
theorem dX13_readWait_2 : decode cX13_readWait 2 = .ok (.iconst 1, 1) := by decide +kernel
theorem dX13_readWait_3 : decode cX13_readWait 3 = .ok (.iadd, 1) := by decide +kernel
theorem dX13_readWait_4 : decode cX13_readWait 4 = .ok (.iconst 0, 1) := by decide +kernel
theorem dX13_readWait_5 : decode cX13_readWait 5 = .ok (.iconst 1, 1) := by decide +kernel
theorem dX13_readWait_6 : decode cX13_readWait 6 = .ok (.invokevirtual 549, 3) := by decide +kernel
theorem dX13_readWait_9 : decode cX13_readWait 9 = .ok (.aload_n 0, 1) := by decide +kernel
theorem dX13_readWait_10 : decode cX13_readWait 10 = .ok (.ldc 165, 2) := by decide +kernel
theorem dX13_readWait_12 : decode cX13_readWait 12 = .ok (.invokevirtual 552, 3) := by decide +kernel
theorem dX13_readWait_15 : decode cX13_readWait 15 = .ok (.istore_n 2, 1) := by decide +kernel
theorem dX13_readWait_16 : decode cX13_readWait 16 = .ok (.iload_n 2, 1) := by decide +kernel
theorem dX13_readWait_17 : decode cX13_readWait 17 = .ok (.ifCond .ne 9, 3) := by decide +kernel
theorem dX13_readWait_20 : decode cX13_readWait 20 = .ok (.aload_n 0, 1) := by decide +kernel
theorem dX13_readWait_21 : decode cX13_readWait 21 = .ok (.ldc 101, 2) := by decide +kernel
theorem dX13_readWait_23 : decode cX13_readWait 23 = .ok (.invokevirtual 574, 3) := by decide +kernel
theorem dX13_readWait_26 : decode cX13_readWait 26 = .ok (.aload_n 0, 1) := by decide +kernel
theorem dX13_readWait_27 : decode cX13_readWait 27 = .ok (.getfield 13, 3) := by decide +kernel
theorem dX13_readWait_30 : decode cX13_readWait 30 = .ok (.iload_n 1, 1) := by decide +kernel
theorem dX13_readWait_31 : decode cX13_readWait 31 = .ok (.iconst 2, 1) := by decide +kernel
theorem dX13_readWait_32 : decode cX13_readWait 32 = .ok (.iadd, 1) := by decide +kernel
theorem dX13_readWait_33 : decode cX13_readWait 33 = .ok (.iload_n 2, 1) := by decide +kernel
theorem dX13_readWait_34 : decode cX13_readWait 34 = .ok (.ifCond .eq 7, 3) := by decide +kernel
theorem dX13_readWait_37 : decode cX13_readWait 37 = .ok (.iconst 1, 1) := by decide +kernel
theorem dX13_readWait_38 : decode cX13_readWait 38 = .ok (.goto 4, 3) := by decide +kernel
theorem dX13_readWait_41 : decode cX13_readWait 41 = .ok (.iconst 0, 1) := by decide +kernel
theorem dX13_readWait_42 : decode cX13_readWait 42 = .ok (.iastore, 1) := by decide +kernel
theorem dX13_readWait_43 : decode cX13_readWait 43 = .ok (.aload_n 0, 1) := by decide +kernel
theorem dX13_readWait_44 : decode cX13_readWait 44 = .ok (.iload_n 1, 1) := by decide +kernel
theorem dX13_readWait_45 : decode cX13_readWait 45 = .ok (.iconst 3, 1) := by decide +kernel
theorem dX13_readWait_46 : decode cX13_readWait 46 = .ok (.iadd, 1) := by decide +kernel
theorem dX13_readWait_47 : decode cX13_readWait 47 = .ok (.iconst 0, 1) := by decide +kernel
theorem dX13_readWait_48 : decode cX13_readWait 48 = .ok (.iload_n 2, 1) := by decide +kernel
theorem dX13_readWait_49 : decode cX13_readWait 49 = .ok (.ifCond .eq 8, 3) := by decide +kernel
theorem dX13_readWait_52 : decode cX13_readWait 52 = .ok (.bipush 7, 2) := by decide +kernel
theorem dX13_readWait_54 : decode cX13_readWait 54 = .ok (.goto 5, 3) := by decide +kernel
theorem dX13_readWait_57 : decode cX13_readWait 57 = .ok (.bipush 15, 2) := by decide +kernel
theorem dX13_readWait_59 : decode cX13_readWait 59 = .ok (.invokevirtual 549, 3) := by decide +kernel
theorem dX13_readWait_62 : decode cX13_readWait 62 = .ok (.return_, 1) := by decide +kernel
theorem dX13_readMove_0 : decode cX13_readMove 0 = .ok (.aload_n 0, 1) := by decide +kernel
theorem dX13_readMove_1 : decode cX13_readMove 1 = .ok (.iload_n 1, 1) := by decide +kernel
theorem dX13_readMove_2 : decode cX13_readMove 2 = .ok (.iconst 1, 1) := by decide +kernel
theorem dX13_readMove_3 : decode cX13_readMove 3 = .ok (.iadd, 1) := by decide +kernel
theorem dX13_readMove_4 : decode cX13_readMove 4 = .ok (.sipush 311, 3) := by decide +kernel
theorem dX13_readMove_7 : decode cX13_readMove 7 = .ok (.invokevirtual 581, 3) := by decide +kernel
theorem dX13_readMove_10 : decode cX13_readMove 10 = .ok (.aload_n 0, 1) := by decide +kernel
theorem dX13_readMove_11 : decode cX13_readMove 11 = .ok (.getfield 13, 3) := by decide +kernel
theorem dX13_readMove_14 : decode cX13_readMove 14 = .ok (.iload_n 1, 1) := by decide +kernel
theorem dX13_readMove_15 : decode cX13_readMove 15 = .ok (.iconst 2, 1) := by decide +kernel
theorem dX13_readMove_16 : decode cX13_readMove 16 = .ok (.iadd, 1) := by decide +kernel
theorem dX13_readMove_17 : decode cX13_readMove 17 = .ok (.aload_n 0, 1) := by decide +kernel
theorem dX13_readMove_18 : decode cX13_readMove 18 = .ok (.ldc 173, 2) := by decide +kernel
theorem dX13_readMove_20 : decode cX13_readMove 20 = .ok (.invokevirtual 552, 3) := by decide +kernel
theorem dX13_readMove_23 : decode cX13_readMove 23 = .ok (.ifCond .eq 7, 3) := by decide +kernel
theorem dX13_readMove_26 : decode cX13_readMove 26 = .ok (.iconst 1, 1) := by decide +kernel
theorem dX13_readMove_27 : decode cX13_readMove 27 = .ok (.goto 17, 3) := by decide +kernel
theorem dX13_readMove_30 : decode cX13_readMove 30 = .ok (.aload_n 0, 1) := by decide +kernel
theorem dX13_readMove_31 : decode cX13_readMove 31 = .ok (.ldc 175, 2) := by decide +kernel
theorem dX13_readMove_33 : decode cX13_readMove 33 = .ok (.invokevirtual 552, 3) := by decide +kernel
theorem dX13_readMove_36 : decode cX13_readMove 36 = .ok (.ifCond .eq 7, 3) := by decide +kernel
theorem dX13_readMove_39 : decode cX13_readMove 39 = .ok (.iconst 2, 1) := by decide +kernel
theorem dX13_readMove_40 : decode cX13_readMove 40 = .ok (.goto 4, 3) := by decide +kernel
theorem dX13_readMove_43 : decode cX13_readMove 43 = .ok (.iconst 0, 1) := by decide +kernel
theorem dX13_readMove_44 : decode cX13_readMove 44 = .ok (.iastore, 1) := by decide +kernel
theorem dX13_readMove_45 : decode cX13_readMove 45 = .ok (.aload_n 0, 1) := by decide +kernel
theorem dX13_readMove_46 : decode cX13_readMove 46 = .ok (.iload_n 1, 1) := by decide +kernel
theorem dX13_readMove_47 : decode cX13_readMove 47 = .ok (.iconst 3, 1) := by decide +kernel
theorem dX13_readMove_48 : decode cX13_readMove 48 = .ok (.iadd, 1) := by decide +kernel
theorem dX13_readMove_49 : decode cX13_readMove 49 = .ok (.bipush 127, 2) := by decide +kernel
theorem dX13_readMove_51 : decode cX13_readMove 51 = .ok (.invokevirtual 581, 3) := by decide +kernel
theorem dX13_readMove_54 : decode cX13_readMove 54 = .ok (.return_, 1) := by decide +kernel
theorem dX13_readAccess_0 : decode cX13_readAccess 0 = .ok (.aload_n 0, 1) := by decide +kernel
theorem dX13_readAccess_1 : decode cX13_readAccess 1 = .ok (.iload_n 1, 1) := by decide +kernel
theorem dX13_readAccess_2 : decode cX13_readAccess 2 = .ok (.iconst 1, 1) := by decide +kernel
theorem dX13_readAccess_3 : decode cX13_readAccess 3 = .ok (.iadd, 1) := by decide +kernel
theorem dX13_readAccess_4 : decode cX13_readAccess 4 = .ok (.iload_n 2, 1) := by decide +kernel
theorem dX13_readAccess_5 : decode cX13_readAccess 5 = .ok (.invokevirtual 581, 3) := by decide +kernel
theorem dX13_readAccess_8 : decode cX13_readAccess 8 = .ok (.aload_n 0, 1) := by decide +kernel
theorem dX13_readAccess_9 : decode cX13_readAccess 9 = .ok (.ldc 110, 2) := by decide +kernel
theorem dX13_readAccess_11 : decode cX13_readAccess 11 = .ok (.invokevirtual 552, 3) := by decide +kernel
theorem dX13_readAccess_14 : decode cX13_readAccess 14 = .ok (.ifCond .eq 16, 3) := by decide +kernel
theorem dX13_readAccess_17 : decode cX13_readAccess 17 = .ok (.aload_n 0, 1) := by decide +kernel
theorem dX13_readAccess_18 : decode cX13_readAccess 18 = .ok (.getfield 13, 3) := by decide +kernel
theorem dX13_readAccess_21 : decode cX13_readAccess 21 = .ok (.iload_n 1, 1) := by decide +kernel
theorem dX13_readAccess_22 : decode cX13_readAccess 22 = .ok (.iconst 2, 1) := by decide +kernel
theorem dX13_readAccess_23 : decode cX13_readAccess 23 = .ok (.iadd, 1) := by decide +kernel
theorem dX13_readAccess_24 : decode cX13_readAccess 24 = .ok (.bipush 16, 2) := by decide +kernel
theorem dX13_readAccess_26 : decode cX13_readAccess 26 = .ok (.iastore, 1) := by decide +kernel
theorem dX13_readAccess_27 : decode cX13_readAccess 27 = .ok (.goto 35, 3) := by decide +kernel
theorem dX13_readAccess_30 : decode cX13_readAccess 30 = .ok (.aload_n 0, 1) := by decide +kernel
theorem dX13_readAccess_31 : decode cX13_readAccess 31 = .ok (.ldc 112, 2) := by decide +kernel
theorem dX13_readAccess_33 : decode cX13_readAccess 33 = .ok (.invokevirtual 552, 3) := by decide +kernel
theorem dX13_readAccess_36 : decode cX13_readAccess 36 = .ok (.ifCond .eq 16, 3) := by decide +kernel
theorem dX13_readAccess_39 : decode cX13_readAccess 39 = .ok (.aload_n 0, 1) := by decide +kernel
theorem dX13_readAccess_40 : decode cX13_readAccess 40 = .ok (.getfield 13, 3) := by decide +kernel
theorem dX13_readAccess_43 : decode cX13_readAccess 43 = .ok (.iload_n 1, 1) := by decide +kernel
theorem dX13_readAccess_44 : decode cX13_readAccess 44 = .ok (.iconst 2, 1) := by decide +kernel
theorem dX13_readAccess_45 : decode cX13_readAccess 45 = .ok (.iadd, 1) := by decide +kernel
theorem dX13_readAccess_46 : decode cX13_readAccess 46 = .ok (.bipush 17, 2) := by decide +kernel
theorem dX13_readAccess_48 : decode cX13_readAccess 48 = .ok (.iastore, 1) := by decide +kernel
theorem dX13_readAccess_49 : decode cX13_readAccess 49 = .ok (.goto 13, 3) := by decide +kernel
theorem dX13_readAccess_52 : decode cX13_readAccess 52 = .ok (.aload_n 0, 1) := by decide +kernel
theorem dX13_readAccess_53 : decode cX13_readAccess 53 = .ok (.iload_n 1, 1) := by decide +kernel
theorem dX13_readAccess_54 : decode cX13_readAccess 54 = .ok (.iconst 2, 1) := by decide +kernel
theorem dX13_readAccess_55 : decode cX13_readAccess 55 = .ok (.iadd, 1) := by decide +kernel
theorem dX13_readAccess_56 : decode cX13_readAccess 56 = .ok (.iconst 0, 1) := by decide +kernel
theorem dX13_readAccess_57 : decode cX13_readAccess 57 = .ok (.bipush 15, 2) := by decide +kernel
theorem dX13_readAccess_59 : decode cX13_readAccess 59 = .ok (.invokevirtual 549, 3) := by decide +kernel
theorem dX13_readAccess_62 : decode cX13_readAccess 62 = .ok (.return_, 1) := by decide +kernel
theorem dX13_readQueueing_0 : decode cX13_readQueueing 0 = .ok (.aload_n 0, 1) := by decide +kernel
theorem dX13_readQueueing_1 : decode cX13_readQueueing 1 = .ok (.getfield 13, 3) := by decide +kernel
theorem dX13_readQueueing_4 : decode cX13_readQueueing 4 = .ok (.iload_n 1, 1) := by decide +kernel
theorem dX13_readQueueing_5 : decode cX13_readQueueing 5 = .ok (.iconst 1, 1) := by decide +kernel
theorem dX13_readQueueing_6 : decode cX13_readQueueing 6 = .ok (.iadd, 1) := by decide +kernel
theorem dX13_readQueueing_7 : decode cX13_readQueueing 7 = .ok (.aload_n 0, 1) := by decide +kernel
theorem dX13_readQueueing_8 : decode cX13_readQueueing 8 = .ok (.aload_n 2, 1) := by decide +kernel
theorem dX13_readQueueing_9 : decode cX13_readQueueing 9 = .ok (.invokevirtual 552, 3) := by decide +kernel
theorem dX13_readQueueing_12 : decode cX13_readQueueing 12 = .ok (.ifCond .eq 7, 3) := by decide +kernel
theorem dX13_readQueueing_15 : decode cX13_readQueueing 15 = .ok (.iconst 1, 1) := by decide +kernel
theorem dX13_readQueueing_16 : decode cX13_readQueueing 16 = .ok (.goto 4, 3) := by decide +kernel
theorem dX13_readQueueing_19 : decode cX13_readQueueing 19 = .ok (.iconst 0, 1) := by decide +kernel
theorem dX13_readQueueing_20 : decode cX13_readQueueing 20 = .ok (.iastore, 1) := by decide +kernel
theorem dX13_readQueueing_21 : decode cX13_readQueueing 21 = .ok (.aload_n 0, 1) := by decide +kernel
theorem dX13_readQueueing_22 : decode cX13_readQueueing 22 = .ok (.getfield 13, 3) := by decide +kernel
theorem dX13_readQueueing_25 : decode cX13_readQueueing 25 = .ok (.iload_n 1, 1) := by decide +kernel
theorem dX13_readQueueing_26 : decode cX13_readQueueing 26 = .ok (.iconst 2, 1) := by decide +kernel
theorem dX13_readQueueing_27 : decode cX13_readQueueing 27 = .ok (.iadd, 1) := by decide +kernel
theorem dX13_readQueueing_28 : decode cX13_readQueueing 28 = .ok (.aload_n 0, 1) := by decide +kernel
theorem dX13_readQueueing_29 : decode cX13_readQueueing 29 = .ok (.ldc 169, 2) := by decide +kernel
theorem dX13_readQueueing_31 : decode cX13_readQueueing 31 = .ok (.invokevirtual 552, 3) := by decide +kernel
theorem dX13_readQueueing_34 : decode cX13_readQueueing 34 = .ok (.ifCond .eq 7, 3) := by decide +kernel
theorem dX13_readQueueing_37 : decode cX13_readQueueing 37 = .ok (.iconst 1, 1) := by decide +kernel
theorem dX13_readQueueing_38 : decode cX13_readQueueing 38 = .ok (.goto 4, 3) := by decide +kernel
theorem dX13_readQueueing_41 : decode cX13_readQueueing 41 = .ok (.iconst 0, 1) := by decide +kernel
theorem dX13_readQueueing_42 : decode cX13_readQueueing 42 = .ok (.iastore, 1) := by decide +kernel
theorem dX13_readQueueing_43 : decode cX13_readQueueing 43 = .ok (.return_, 1) := by decide +kernel
theorem dX13_readOperands_0 : decode cX13_readOperands 0 = .ok (.iload_n 2, 1) := by decide +kernel
theorem dX13_readOperands_1 : decode cX13_readOperands 1 = .ok (.tableswitch 187 0 12 #[67, 75, 83, 83, 116, 126, 136, 187, 187, 187, 144, 167, 177], 67) := by decide +kernel
theorem dX13_readOperands_68 : decode cX13_readOperands 68 = .ok (.aload_n 0, 1) := by decide +kernel
theorem dX13_readOperands_69 : decode cX13_readOperands 69 = .ok (.iload_n 1, 1) := by decide +kernel
theorem dX13_readOperands_70 : decode cX13_readOperands 70 = .ok (.invokevirtual 584, 3) := by decide +kernel
theorem dX13_readOperands_73 : decode cX13_readOperands 73 = .ok (.goto 125, 3) := by decide +kernel
theorem dX13_readOperands_76 : decode cX13_readOperands 76 = .ok (.aload_n 0, 1) := by decide +kernel
theorem dX13_readOperands_77 : decode cX13_readOperands 77 = .ok (.iload_n 1, 1) := by decide +kernel
theorem dX13_readOperands_78 : decode cX13_readOperands 78 = .ok (.invokevirtual 587, 3) := by decide +kernel
theorem dX13_readOperands_81 : decode cX13_readOperands 81 = .ok (.goto 117, 3) := by decide +kernel
theorem dX13_readOperands_84 : decode cX13_readOperands 84 = .ok (.aload_n 0, 1) := by decide +kernel
theorem dX13_readOperands_85 : decode cX13_readOperands 85 = .ok (.iload_n 1, 1) := by decide +kernel
theorem dX13_readOperands_86 : decode cX13_readOperands 86 = .ok (.iconst 1, 1) := by decide +kernel
theorem dX13_readOperands_87 : decode cX13_readOperands 87 = .ok (.iadd, 1) := by decide +kernel
theorem dX13_readOperands_88 : decode cX13_readOperands 88 = .ok (.iload_n 2, 1) := by decide +kernel
theorem dX13_readOperands_89 : decode cX13_readOperands 89 = .ok (.iconst 2, 1) := by decide +kernel
theorem dX13_readOperands_90 : decode cX13_readOperands 90 = .ok (.if_icmp .ne 8, 3) := by decide +kernel
theorem dX13_readOperands_93 : decode cX13_readOperands 93 = .ok (.bipush 63, 2) := by decide +kernel
theorem dX13_readOperands_95 : decode cX13_readOperands 95 = .ok (.goto 6, 3) := by decide +kernel
theorem dX13_readOperands_98 : decode cX13_readOperands 98 = .ok (.sipush 415, 3) := by decide +kernel
theorem dX13_readOperands_101 : decode cX13_readOperands 101 = .ok (.invokevirtual 581, 3) := by decide +kernel
theorem dX13_readOperands_104 : decode cX13_readOperands 104 = .ok (.aload_n 0, 1) := by decide +kernel
theorem dX13_readOperands_105 : decode cX13_readOperands 105 = .ok (.iload_n 1, 1) := by decide +kernel
theorem dX13_readOperands_106 : decode cX13_readOperands 106 = .ok (.iconst 2, 1) := by decide +kernel
theorem dX13_readOperands_107 : decode cX13_readOperands 107 = .ok (.iadd, 1) := by decide +kernel
theorem dX13_readOperands_108 : decode cX13_readOperands 108 = .ok (.iconst 1, 1) := by decide +kernel
theorem dX13_readOperands_109 : decode cX13_readOperands 109 = .ok (.bipush 32, 2) := by decide +kernel
theorem dX13_readOperands_111 : decode cX13_readOperands 111 = .ok (.invokevirtual 549, 3) := by decide +kernel
theorem dX13_readOperands_114 : decode cX13_readOperands 114 = .ok (.goto 84, 3) := by decide +kernel
theorem dX13_readOperands_117 : decode cX13_readOperands 117 = .ok (.aload_n 0, 1) := by decide +kernel
theorem dX13_readOperands_118 : decode cX13_readOperands 118 = .ok (.iload_n 1, 1) := by decide +kernel
theorem dX13_readOperands_119 : decode cX13_readOperands 119 = .ok (.ldc 167, 2) := by decide +kernel
theorem dX13_readOperands_121 : decode cX13_readOperands 121 = .ok (.invokevirtual 590, 3) := by decide +kernel
theorem dX13_readOperands_124 : decode cX13_readOperands 124 = .ok (.goto 74, 3) := by decide +kernel
theorem dX13_readOperands_127 : decode cX13_readOperands 127 = .ok (.aload_n 0, 1) := by decide +kernel
theorem dX13_readOperands_128 : decode cX13_readOperands 128 = .ok (.iload_n 1, 1) := by decide +kernel
theorem dX13_readOperands_129 : decode cX13_readOperands 129 = .ok (.ldc 171, 2) := by decide +kernel
theorem dX13_readOperands_131 : decode cX13_readOperands 131 = .ok (.invokevirtual 590, 3) := by decide +kernel
theorem dX13_readOperands_134 : decode cX13_readOperands 134 = .ok (.goto 64, 3) := by decide +kernel
theorem dX13_readOperands_137 : decode cX13_readOperands 137 = .ok (.aload_n 0, 1) := by decide +kernel
theorem dX13_readOperands_138 : decode cX13_readOperands 138 = .ok (.iload_n 1, 1) := by decide +kernel
theorem dX13_readOperands_139 : decode cX13_readOperands 139 = .ok (.invokevirtual 594, 3) := by decide +kernel
theorem dX13_readOperands_142 : decode cX13_readOperands 142 = .ok (.goto 56, 3) := by decide +kernel
theorem dX13_readOperands_145 : decode cX13_readOperands 145 = .ok (.aload_n 0, 1) := by decide +kernel
theorem dX13_readOperands_146 : decode cX13_readOperands 146 = .ok (.iload_n 1, 1) := by decide +kernel
theorem dX13_readOperands_147 : decode cX13_readOperands 147 = .ok (.iconst 1, 1) := by decide +kernel
theorem dX13_readOperands_148 : decode cX13_readOperands 148 = .ok (.iadd, 1) := by decide +kernel
theorem dX13_readOperands_149 : decode cX13_readOperands 149 = .ok (.sipush 135, 3) := by decide +kernel
theorem dX13_readOperands_152 : decode cX13_readOperands 152 = .ok (.invokevirtual 581, 3) := by decide +kernel
theorem dX13_readOperands_155 : decode cX13_readOperands 155 = .ok (.aload_n 0, 1) := by decide +kernel
theorem dX13_readOperands_156 : decode cX13_readOperands 156 = .ok (.iload_n 1, 1) := by decide +kernel
theorem dX13_readOperands_157 : decode cX13_readOperands 157 = .ok (.iconst 2, 1) := by decide +kernel
theorem dX13_readOperands_158 : decode cX13_readOperands 158 = .ok (.iadd, 1) := by decide +kernel
theorem dX13_readOperands_159 : decode cX13_readOperands 159 = .ok (.iconst 0, 1) := by decide +kernel
theorem dX13_readOperands_160 : decode cX13_readOperands 160 = .ok (.bipush 31, 2) := by decide +kernel
theorem dX13_readOperands_162 : decode cX13_readOperands 162 = .ok (.invokevirtual 549, 3) := by decide +kernel
theorem dX13_readOperands_165 : decode cX13_readOperands 165 = .ok (.goto 33, 3) := by decide +kernel
theorem dX13_readOperands_168 : decode cX13_readOperands 168 = .ok (.aload_n 0, 1) := by decide +kernel
theorem dX13_readOperands_169 : decode cX13_readOperands 169 = .ok (.iload_n 1, 1) := by decide +kernel
theorem dX13_readOperands_170 : decode cX13_readOperands 170 = .ok (.bipush 38, 2) := by decide +kernel
theorem dX13_readOperands_172 : decode cX13_readOperands 172 = .ok (.invokevirtual 597, 3) := by decide +kernel
theorem dX13_readOperands_175 : decode cX13_readOperands 175 = .ok (.goto 23, 3) := by decide +kernel
theorem dX13_readOperands_178 : decode cX13_readOperands 178 = .ok (.aload_n 0, 1) := by decide +kernel
theorem dX13_readOperands_179 : decode cX13_readOperands 179 = .ok (.iload_n 1, 1) := by decide +kernel
theorem dX13_readOperands_180 : decode cX13_readOperands 180 = .ok (.bipush 22, 2) := by decide +kernel
theorem dX13_readOperands_182 : decode cX13_readOperands 182 = .ok (.invokevirtual 597, 3) := by decide +kernel
theorem dX13_readOperands_185 : decode cX13_readOperands 185 = .ok (.goto 13, 3) := by decide +kernel
theorem dX13_readOperands_188 : decode cX13_readOperands 188 = .ok (.aload_n 0, 1) := by decide +kernel
theorem dX13_readOperands_189 : decode cX13_readOperands 189 = .ok (.iload_n 1, 1) := by decide +kernel
theorem dX13_readOperands_190 : decode cX13_readOperands 190 = .ok (.iconst 1, 1) := by decide +kernel
theorem dX13_readOperands_191 : decode cX13_readOperands 191 = .ok (.iadd, 1) := by decide +kernel
theorem dX13_readOperands_192 : decode cX13_readOperands 192 = .ok (.iconst 0, 1) := by decide +kernel
theorem dX13_readOperands_193 : decode cX13_readOperands 193 = .ok (.bipush 7, 2) := by decide +kernel
theorem dX13_readOperands_195 : decode cX13_readOperands 195 = .ok (.invokevirtual 549, 3) := by decide +kernel
theorem dX13_readOperands_198 : decode cX13_readOperands 198 = .ok (.return_, 1) := by decide +kernel
theorem dX13_readLabel_0 : decode cX13_readLabel 0 = .ok (.aload_n 0, 1) := by decide +kernel
theorem dX13_readLabel_1 : decode cX13_readLabel 1 = .ok (.getfield 13, 3) := by decide +kernel
theorem dX13_readLabel_4 : decode cX13_readLabel 4 = .ok (.iconst 0, 1) := by decide +kernel
theorem dX13_readLabel_5 : decode cX13_readLabel 5 = .ok (.iaload, 1) := by decide +kernel
theorem dX13_readLabel_6 : decode cX13_readLabel 6 = .ok (.istore_n 1, 1) := by decide +kernel
theorem dX13_readLabel_7 : decode cX13_readLabel 7 = .ok (.aload_n 0, 1) := by decide +kernel
theorem dX13_readLabel_8 : decode cX13_readLabel 8 = .ok (.getfield 478, 3) := by decide +kernel
theorem dX13_readLabel_11 : decode cX13_readLabel 11 = .ok (.istore_n 2, 1) := by decide +kernel
theorem dX13_readLabel_12 : decode cX13_readLabel 12 = .ok (.aload_n 0, 1) := by decide +kernel
theorem dX13_readLabel_13 : decode cX13_readLabel 13 = .ok (.invokevirtual 536, 3) := by decide +kernel
theorem dX13_readLabel_16 : decode cX13_readLabel 16 = .ok (.ifCond .eq 15, 3) := by decide +kernel
theorem dX13_readLabel_19 : decode cX13_readLabel 19 = .ok (.aload_n 0, 1) := by decide +kernel
theorem dX13_readLabel_20 : decode cX13_readLabel 20 = .ok (.getfield 475, 3) := by decide +kernel
theorem dX13_readLabel_23 : decode cX13_readLabel 23 = .ok (.aload_n 0, 1) := by decide +kernel
theorem dX13_readLabel_24 : decode cX13_readLabel 24 = .ok (.getfield 478, 3) := by decide +kernel
theorem dX13_readLabel_27 : decode cX13_readLabel 27 = .ok (.isub, 1) := by decide +kernel
theorem dX13_readLabel_28 : decode cX13_readLabel 28 = .ok (.goto 4, 3) := by decide +kernel
theorem dX13_readLabel_31 : decode cX13_readLabel 31 = .ok (.iconst 0, 1) := by decide +kernel
theorem dX13_readLabel_32 : decode cX13_readLabel 32 = .ok (.istore_n 3, 1) := by decide +kernel
theorem dX13_readLabel_33 : decode cX13_readLabel 33 = .ok (.iload_n 3, 1) := by decide +kernel
theorem dX13_readLabel_34 : decode cX13_readLabel 34 = .ok (.ifCond .le 34, 3) := by decide +kernel
theorem dX13_readLabel_37 : decode cX13_readLabel 37 = .ok (.aload_n 0, 1) := by decide +kernel
theorem dX13_readLabel_38 : decode cX13_readLabel 38 = .ok (.aload_n 0, 1) := by decide +kernel
theorem dX13_readLabel_39 : decode cX13_readLabel 39 = .ok (.iload_n 2, 1) := by decide +kernel
theorem dX13_readLabel_40 : decode cX13_readLabel 40 = .ok (.iload_n 3, 1) := by decide +kernel
theorem dX13_readLabel_41 : decode cX13_readLabel 41 = .ok (.iload_n 1, 1) := by decide +kernel
theorem dX13_readLabel_42 : decode cX13_readLabel 42 = .ok (.invokevirtual 543, 3) := by decide +kernel
theorem dX13_readLabel_45 : decode cX13_readLabel 45 = .ok (.iconst (-1), 1) := by decide +kernel
theorem dX13_readLabel_46 : decode cX13_readLabel 46 = .ok (.if_icmp .ne 7, 3) := by decide +kernel
theorem dX13_readLabel_49 : decode cX13_readLabel 49 = .ok (.iconst 1, 1) := by decide +kernel
theorem dX13_readLabel_50 : decode cX13_readLabel 50 = .ok (.goto 4, 3) := by decide +kernel
theorem dX13_readLabel_53 : decode cX13_readLabel 53 = .ok (.iconst 0, 1) := by decide +kernel
theorem dX13_readLabel_54 : decode cX13_readLabel 54 = .ok (.iconst 4, 1) := by decide +kernel
theorem dX13_readLabel_55 : decode cX13_readLabel 55 = .ok (.invokevirtual 516, 3) := by decide +kernel
theorem dX13_readLabel_58 : decode cX13_readLabel 58 = .ok (.aload_n 0, 1) := by decide +kernel
theorem dX13_readLabel_59 : decode cX13_readLabel 59 = .ok (.invokevirtual 520, 3) := by decide +kernel
theorem dX13_readLabel_62 : decode cX13_readLabel 62 = .ok (.aload_n 0, 1) := by decide +kernel
theorem dX13_readLabel_63 : decode cX13_readLabel 63 = .ok (.bipush 58, 2) := by decide +kernel
theorem dX13_readLabel_65 : decode cX13_readLabel 65 = .ok (.invokevirtual 600, 3) := by decide +kernel
theorem dX13_readLabel_68 : decode cX13_readLabel 68 = .ok (.iload_n 1, 1) := by decide +kernel
theorem dX13_readLabel_69 : decode cX13_readLabel 69 = .ok (.bipush 32, 2) := by decide +kernel
theorem dX13_readLabel_71 : decode cX13_readLabel 71 = .ok (.if_icmp .ge 17, 3) := by decide +kernel
theorem dX13_readLabel_74 : decode cX13_readLabel 74 = .ok (.aload_n 0, 1) := by decide +kernel
theorem dX13_readLabel_75 : decode cX13_readLabel 75 = .ok (.getfield 198, 3) := by decide +kernel
theorem dX13_readLabel_78 : decode cX13_readLabel 78 = .ok (.iload_n 1, 1) := by decide +kernel
theorem dX13_readLabel_79 : decode cX13_readLabel 79 = .ok (.iload_n 2, 1) := by decide +kernel
theorem dX13_readLabel_80 : decode cX13_readLabel 80 = .ok (.iastore, 1) := by decide +kernel
theorem dX13_readLabel_81 : decode cX13_readLabel 81 = .ok (.aload_n 0, 1) := by decide +kernel
theorem dX13_readLabel_82 : decode cX13_readLabel 82 = .ok (.getfield 201, 3) := by decide +kernel
theorem dX13_readLabel_85 : decode cX13_readLabel 85 = .ok (.iload_n 1, 1) := by decide +kernel
theorem dX13_readLabel_86 : decode cX13_readLabel 86 = .ok (.iload_n 3, 1) := by decide +kernel
theorem dX13_readLabel_87 : decode cX13_readLabel 87 = .ok (.iastore, 1) := by decide +kernel
theorem dX13_readLabel_88 : decode cX13_readLabel 88 = .ok (.return_, 1) := by decide +kernel
theorem dX13_readInstruction_0 : decode cX13_readInstruction 0 = .ok (.aload_n 0, 1) := by decide +kernel
theorem dX13_readInstruction_1 : decode cX13_readInstruction 1 = .ok (.invokevirtual 603, 3) := by decide +kernel
theorem dX13_readInstruction_4 : decode cX13_readInstruction 4 = .ok (.aload_n 0, 1) := by decide +kernel
theorem dX13_readInstruction_5 : decode cX13_readInstruction 5 = .ok (.aload_n 0, 1) := by decide +kernel
theorem dX13_readInstruction_6 : decode cX13_readInstruction 6 = .ok (.getfield 85, 3) := by decide +kernel
theorem dX13_readInstruction_9 : decode cX13_readInstruction 9 = .ok (.invokevirtual 529, 3) := by decide +kernel
theorem dX13_readInstruction_12 : decode cX13_readInstruction 12 = .ok (.istore_n 1, 1) := by decide +kernel
theorem dX13_readInstruction_13 : decode cX13_readInstruction 13 = .ok (.aload_n 0, 1) := by decide +kernel
theorem dX13_readInstruction_14 : decode cX13_readInstruction 14 = .ok (.aload_n 0, 1) := by decide +kernel
theorem dX13_readInstruction_15 : decode cX13_readInstruction 15 = .ok (.getfield 490, 3) := by decide +kernel
theorem dX13_readInstruction_18 : decode cX13_readInstruction 18 = .ok (.ifCond .ne 8, 3) := by decide +kernel
theorem dX13_readInstruction_21 : decode cX13_readInstruction 21 = .ok (.iload_n 1, 1) := by decide +kernel
theorem dX13_readInstruction_22 : decode cX13_readInstruction 22 = .ok (.iconst (-1), 1) := by decide +kernel
theorem dX13_readInstruction_23 : decode cX13_readInstruction 23 = .ok (.if_icmp .eq 7, 3) := by decide +kernel
theorem dX13_readInstruction_26 : decode cX13_readInstruction 26 = .ok (.iconst 1, 1) := by decide +kernel
theorem dX13_readInstruction_27 : decode cX13_readInstruction 27 = .ok (.goto 4, 3) := by decide +kernel
theorem dX13_readInstruction_30 : decode cX13_readInstruction 30 = .ok (.iconst 0, 1) := by decide +kernel
theorem dX13_readInstruction_31 : decode cX13_readInstruction 31 = .ok (.iconst 1, 1) := by decide +kernel
theorem dX13_readInstruction_32 : decode cX13_readInstruction 32 = .ok (.invokevirtual 516, 3) := by decide +kernel
theorem dX13_readInstruction_35 : decode cX13_readInstruction 35 = .ok (.aload_n 0, 1) := by decide +kernel
theorem dX13_readInstruction_36 : decode cX13_readInstruction 36 = .ok (.aload_n 0, 1) := by decide +kernel
theorem dX13_readInstruction_37 : decode cX13_readInstruction 37 = .ok (.getfield 490, 3) := by decide +kernel
theorem dX13_readInstruction_40 : decode cX13_readInstruction 40 = .ok (.ifCond .ne 14, 3) := by decide +kernel
theorem dX13_readInstruction_43 : decode cX13_readInstruction 43 = .ok (.aload_n 0, 1) := by decide +kernel
theorem dX13_readInstruction_44 : decode cX13_readInstruction 44 = .ok (.getfield 13, 3) := by decide +kernel
theorem dX13_readInstruction_47 : decode cX13_readInstruction 47 = .ok (.iconst 0, 1) := by decide +kernel
theorem dX13_readInstruction_48 : decode cX13_readInstruction 48 = .ok (.iaload, 1) := by decide +kernel
theorem dX13_readInstruction_49 : decode cX13_readInstruction 49 = .ok (.bipush 32, 2) := by decide +kernel
theorem dX13_readInstruction_51 : decode cX13_readInstruction 51 = .ok (.if_icmp .ge 7, 3) := by decide +kernel
theorem dX13_readInstruction_54 : decode cX13_readInstruction 54 = .ok (.iconst 1, 1) := by decide +kernel
theorem dX13_readInstruction_55 : decode cX13_readInstruction 55 = .ok (.goto 4, 3) := by decide +kernel
theorem dX13_readInstruction_58 : decode cX13_readInstruction 58 = .ok (.iconst 0, 1) := by decide +kernel
theorem dX13_readInstruction_59 : decode cX13_readInstruction 59 = .ok (.iconst 3, 1) := by decide +kernel
theorem dX13_readInstruction_60 : decode cX13_readInstruction 60 = .ok (.invokevirtual 516, 3) := by decide +kernel
theorem dX13_readInstruction_63 : decode cX13_readInstruction 63 = .ok (.aload_n 0, 1) := by decide +kernel
theorem dX13_readInstruction_64 : decode cX13_readInstruction 64 = .ok (.invokevirtual 520, 3) := by decide +kernel
theorem dX13_readInstruction_67 : decode cX13_readInstruction 67 = .ok (.aload_n 0, 1) := by decide +kernel
theorem dX13_readInstruction_68 : decode cX13_readInstruction 68 = .ok (.getfield 490, 3) := by decide +kernel
theorem dX13_readInstruction_71 : decode cX13_readInstruction 71 = .ok (.ifCond .eq 4, 3) := by decide +kernel
theorem dX13_readInstruction_74 : decode cX13_readInstruction 74 = .ok (.return_, 1) := by decide +kernel
theorem dX13_readInstruction_75 : decode cX13_readInstruction 75 = .ok (.sipush 284, 3) := by decide +kernel
theorem dX13_readInstruction_78 : decode cX13_readInstruction 78 = .ok (.bipush 6, 2) := by decide +kernel
theorem dX13_readInstruction_80 : decode cX13_readInstruction 80 = .ok (.aload_n 0, 1) := by decide +kernel
theorem dX13_readInstruction_81 : decode cX13_readInstruction 81 = .ok (.getfield 13, 3) := by decide +kernel
theorem dX13_readInstruction_84 : decode cX13_readInstruction 84 = .ok (.iconst 0, 1) := by decide +kernel
theorem dX13_readInstruction_85 : decode cX13_readInstruction 85 = .ok (.iaload, 1) := by decide +kernel
theorem dX13_readInstruction_86 : decode cX13_readInstruction 86 = .ok (.imul, 1) := by decide +kernel
theorem dX13_readInstruction_87 : decode cX13_readInstruction 87 = .ok (.iadd, 1) := by decide +kernel
theorem dX13_readInstruction_88 : decode cX13_readInstruction 88 = .ok (.istore_n 2, 1) := by decide +kernel
theorem dX13_readInstruction_89 : decode cX13_readInstruction 89 = .ok (.aload_n 0, 1) := by decide +kernel
theorem dX13_readInstruction_90 : decode cX13_readInstruction 90 = .ok (.getfield 13, 3) := by decide +kernel
theorem dX13_readInstruction_93 : decode cX13_readInstruction 93 = .ok (.iload_n 2, 1) := by decide +kernel
theorem dX13_readInstruction_94 : decode cX13_readInstruction 94 = .ok (.iconst 0, 1) := by decide +kernel
theorem dX13_readInstruction_95 : decode cX13_readInstruction 95 = .ok (.iadd, 1) := by decide +kernel
theorem dX13_readInstruction_96 : decode cX13_readInstruction 96 = .ok (.iload_n 1, 1) := by decide +kernel
theorem dX13_readInstruction_97 : decode cX13_readInstruction 97 = .ok (.iastore, 1) := by decide +kernel
theorem dX13_readInstruction_98 : decode cX13_readInstruction 98 = .ok (.aload_n 0, 1) := by decide +kernel
theorem dX13_readInstruction_99 : decode cX13_readInstruction 99 = .ok (.getfield 13, 3) := by decide +kernel
theorem dX13_readInstruction_102 : decode cX13_readInstruction 102 = .ok (.iload_n 2, 1) := by decide +kernel
theorem dX13_readInstruction_103 : decode cX13_readInstruction 103 = .ok (.iconst 4, 1) := by decide +kernel
theorem dX13_readInstruction_104 : decode cX13_readInstruction 104 = .ok (.iadd, 1) := by decide +kernel
theorem dX13_readInstruction_105 : decode cX13_readInstruction 105 = .ok (.iconst (-1), 1) := by decide +kernel
theorem dX13_readInstruction_106 : decode cX13_readInstruction 106 = .ok (.iastore, 1) := by decide +kernel
theorem dX13_readInstruction_107 : decode cX13_readInstruction 107 = .ok (.aload_n 0, 1) := by decide +kernel
theorem dX13_readInstruction_108 : decode cX13_readInstruction 108 = .ok (.iload_n 2, 1) := by decide +kernel
theorem dX13_readInstruction_109 : decode cX13_readInstruction 109 = .ok (.iload_n 1, 1) := by decide +kernel
theorem dX13_readInstruction_110 : decode cX13_readInstruction 110 = .ok (.invokevirtual 606, 3) := by decide +kernel
theorem dX13_readInstruction_113 : decode cX13_readInstruction 113 = .ok (.aload_n 0, 1) := by decide +kernel
theorem dX13_readInstruction_114 : decode cX13_readInstruction 114 = .ok (.ldc 135, 2) := by decide +kernel
theorem dX13_readInstruction_116 : decode cX13_readInstruction 116 = .ok (.invokevirtual 552, 3) := by decide +kernel
theorem dX13_readInstruction_119 : decode cX13_readInstruction 119 = .ok (.ifCond .eq 13, 3) := by decide +kernel
theorem dX13_readInstruction_122 : decode cX13_readInstruction 122 = .ok (.aload_n 0, 1) := by decide +kernel
theorem dX13_readInstruction_123 : decode cX13_readInstruction 123 = .ok (.iload_n 2, 1) := by decide +kernel
theorem dX13_readInstruction_124 : decode cX13_readInstruction 124 = .ok (.iconst 4, 1) := by decide +kernel
theorem dX13_readInstruction_125 : decode cX13_readInstruction 125 = .ok (.iadd, 1) := by decide +kernel
theorem dX13_readInstruction_126 : decode cX13_readInstruction 126 = .ok (.iconst 0, 1) := by decide +kernel
theorem dX13_readInstruction_127 : decode cX13_readInstruction 127 = .ok (.bipush 15, 2) := by decide +kernel
theorem dX13_readInstruction_129 : decode cX13_readInstruction 129 = .ok (.invokevirtual 549, 3) := by decide +kernel
theorem dX13_readInstruction_132 : decode cX13_readInstruction 132 = .ok (.aload_n 0, 1) := by decide +kernel
theorem dX13_readInstruction_133 : decode cX13_readInstruction 133 = .ok (.ldc 137, 2) := by decide +kernel
theorem dX13_readInstruction_135 : decode cX13_readInstruction 135 = .ok (.invokevirtual 552, 3) := by decide +kernel
theorem dX13_readInstruction_138 : decode cX13_readInstruction 138 = .ok (.ifCond .eq 13, 3) := by decide +kernel
theorem dX13_readInstruction_141 : decode cX13_readInstruction 141 = .ok (.aload_n 0, 1) := by decide +kernel
theorem dX13_readInstruction_142 : decode cX13_readInstruction 142 = .ok (.iload_n 2, 1) := by decide +kernel
theorem dX13_readInstruction_143 : decode cX13_readInstruction 143 = .ok (.iconst 5, 1) := by decide +kernel
theorem dX13_readInstruction_144 : decode cX13_readInstruction 144 = .ok (.iadd, 1) := by decide +kernel
theorem dX13_readInstruction_145 : decode cX13_readInstruction 145 = .ok (.iconst 0, 1) := by decide +kernel
theorem dX13_readInstruction_146 : decode cX13_readInstruction 146 = .ok (.bipush 31, 2) := by decide +kernel
theorem dX13_readInstruction_148 : decode cX13_readInstruction 148 = .ok (.invokevirtual 549, 3) := by decide +kernel
theorem dX13_readInstruction_151 : decode cX13_readInstruction 151 = .ok (.aload_n 0, 1) := by decide +kernel
theorem dX13_readInstruction_152 : decode cX13_readInstruction 152 = .ok (.getfield 13, 3) := by decide +kernel
theorem dX13_readInstruction_155 : decode cX13_readInstruction 155 = .ok (.iconst 0, 1) := by decide +kernel
theorem dX13_readInstruction_156 : decode cX13_readInstruction 156 = .ok (.dup2, 1) := by decide +kernel
theorem dX13_readInstruction_157 : decode cX13_readInstruction 157 = .ok (.iaload, 1) := by decide +kernel
theorem dX13_readInstruction_158 : decode cX13_readInstruction 158 = .ok (.iconst 1, 1) := by decide +kernel
theorem dX13_readInstruction_159 : decode cX13_readInstruction 159 = .ok (.iadd, 1) := by decide +kernel
theorem dX13_readInstruction_160 : decode cX13_readInstruction 160 = .ok (.iastore, 1) := by decide +kernel
theorem dX13_readInstruction_161 : decode cX13_readInstruction 161 = .ok (.return_, 1) := by decide +kernel
theorem dX13_readClause_0 : decode cX13_readClause 0 = .ok (.aload_n 0, 1) := by decide +kernel
theorem dX13_readClause_1 : decode cX13_readClause 1 = .ok (.ldc 129, 2) := by decide +kernel
theorem dX13_readClause_3 : decode cX13_readClause 3 = .ok (.invokevirtual 552, 3) := by decide +kernel
theorem dX13_readClause_6 : decode cX13_readClause 6 = .ok (.ifCond .eq 10, 3) := by decide +kernel
theorem dX13_readClause_9 : decode cX13_readClause 9 = .ok (.aload_n 0, 1) := by decide +kernel
theorem dX13_readClause_10 : decode cX13_readClause 10 = .ok (.invokevirtual 609, 3) := by decide +kernel
theorem dX13_readClause_13 : decode cX13_readClause 13 = .ok (.goto 23, 3) := by decide +kernel
theorem dX13_readClause_16 : decode cX13_readClause 16 = .ok (.aload_n 0, 1) := by decide +kernel
theorem dX13_readClause_17 : decode cX13_readClause 17 = .ok (.ldc 133, 2) := by decide +kernel
theorem dX13_readClause_19 : decode cX13_readClause 19 = .ok (.invokevirtual 552, 3) := by decide +kernel
theorem dX13_readClause_22 : decode cX13_readClause 22 = .ok (.ifCond .eq 10, 3) := by decide +kernel
theorem dX13_readClause_25 : decode cX13_readClause 25 = .ok (.aload_n 0, 1) := by decide +kernel
theorem dX13_readClause_26 : decode cX13_readClause 26 = .ok (.invokevirtual 612, 3) := by decide +kernel
theorem dX13_readClause_29 : decode cX13_readClause 29 = .ok (.goto 7, 3) := by decide +kernel
theorem dX13_readClause_32 : decode cX13_readClause 32 = .ok (.aload_n 0, 1) := by decide +kernel
theorem dX13_readClause_33 : decode cX13_readClause 33 = .ok (.invokevirtual 615, 3) := by decide +kernel
theorem dX13_readClause_36 : decode cX13_readClause 36 = .ok (.aload_n 0, 1) := by decide +kernel
theorem dX13_readClause_37 : decode cX13_readClause 37 = .ok (.bipush 59, 2) := by decide +kernel
theorem dX13_readClause_39 : decode cX13_readClause 39 = .ok (.invokevirtual 600, 3) := by decide +kernel
theorem dX13_readClause_42 : decode cX13_readClause 42 = .ok (.return_, 1) := by decide +kernel
theorem dX13_load_0 : decode cX13_load 0 = .ok (.aload_n 0, 1) := by decide +kernel
theorem dX13_load_1 : decode cX13_load 1 = .ok (.iconst 0, 1) := by decide +kernel
theorem dX13_load_2 : decode cX13_load 2 = .ok (.putfield 231, 3) := by decide +kernel
theorem dX13_load_5 : decode cX13_load 5 = .ok (.iload_n 1, 1) := by decide +kernel
theorem dX13_load_6 : decode cX13_load 6 = .ok (.iconst 0, 1) := by decide +kernel
theorem dX13_load_7 : decode cX13_load 7 = .ok (.aload_n 0, 1) := by decide +kernel
theorem dX13_load_8 : decode cX13_load 8 = .ok (.getfield 466, 3) := by decide +kernel
theorem dX13_load_11 : decode cX13_load 11 = .ok (.invokestatic 245, 3) := by decide +kernel
theorem dX13_load_14 : decode cX13_load 14 = .ok (.ifCond .ne 9, 3) := by decide +kernel
theorem dX13_load_17 : decode cX13_load 17 = .ok (.aload_n 0, 1) := by decide +kernel
theorem dX13_load_18 : decode cX13_load 18 = .ok (.iconst 1, 1) := by decide +kernel
theorem dX13_load_19 : decode cX13_load 19 = .ok (.invokevirtual 259, 3) := by decide +kernel
theorem dX13_load_22 : decode cX13_load 22 = .ok (.ireturn, 1) := by decide +kernel
theorem dX13_load_23 : decode cX13_load 23 = .ok (.aload_n 0, 1) := by decide +kernel
theorem dX13_load_24 : decode cX13_load 24 = .ok (.getfield 13, 3) := by decide +kernel
theorem dX13_load_27 : decode cX13_load 27 = .ok (.invokestatic 228, 3) := by decide +kernel
theorem dX13_load_30 : decode cX13_load 30 = .ok (.aload_n 0, 1) := by decide +kernel
theorem dX13_load_31 : decode cX13_load 31 = .ok (.iconst 0, 1) := by decide +kernel
theorem dX13_load_32 : decode cX13_load 32 = .ok (.putfield 540, 3) := by decide +kernel
theorem dX13_load_35 : decode cX13_load 35 = .ok (.aload_n 0, 1) := by decide +kernel
theorem dX13_load_36 : decode cX13_load 36 = .ok (.iload_n 1, 1) := by decide +kernel
theorem dX13_load_37 : decode cX13_load 37 = .ok (.invokevirtual 618, 3) := by decide +kernel
theorem dX13_load_40 : decode cX13_load 40 = .ok (.aload_n 0, 1) := by decide +kernel
theorem dX13_load_41 : decode cX13_load 41 = .ok (.getfield 490, 3) := by decide +kernel
theorem dX13_load_44 : decode cX13_load 44 = .ok (.ifCond .ne 17, 3) := by decide +kernel
theorem dX13_load_47 : decode cX13_load 47 = .ok (.aload_n 0, 1) := by decide +kernel
theorem dX13_load_48 : decode cX13_load 48 = .ok (.getfield 481, 3) := by decide +kernel
theorem dX13_load_51 : decode cX13_load 51 = .ok (.ifCond .eq 10, 3) := by decide +kernel
theorem dX13_load_54 : decode cX13_load 54 = .ok (.aload_n 0, 1) := by decide +kernel
theorem dX13_load_55 : decode cX13_load 55 = .ok (.invokevirtual 621, 3) := by decide +kernel
theorem dX13_load_58 : decode cX13_load 58 = .ok (.goto (-18), 3) := by decide +kernel
theorem dX13_load_61 : decode cX13_load 61 = .ok (.aload_n 0, 1) := by decide +kernel
theorem dX13_load_62 : decode cX13_load 62 = .ok (.invokevirtual 624, 3) := by decide +kernel
theorem dX13_load_65 : decode cX13_load 65 = .ok (.aload_n 0, 1) := by decide +kernel
theorem dX13_load_66 : decode cX13_load 66 = .ok (.invokevirtual 627, 3) := by decide +kernel
theorem dX13_load_69 : decode cX13_load 69 = .ok (.ifCond .eq 11, 3) := by decide +kernel
theorem dX13_load_72 : decode cX13_load 72 = .ok (.bipush (-10), 2) := by decide +kernel
theorem dX13_load_74 : decode cX13_load 74 = .ok (.aload_n 0, 1) := by decide +kernel
theorem dX13_load_75 : decode cX13_load 75 = .ok (.getfield 490, 3) := by decide +kernel
theorem dX13_load_78 : decode cX13_load 78 = .ok (.isub, 1) := by decide +kernel
theorem dX13_load_79 : decode cX13_load 79 = .ok (.ireturn, 1) := by decide +kernel
theorem dX13_load_80 : decode cX13_load 80 = .ok (.aload_n 0, 1) := by decide +kernel
theorem dX13_load_81 : decode cX13_load 81 = .ok (.getfield 13, 3) := by decide +kernel
theorem dX13_load_84 : decode cX13_load 84 = .ok (.iconst 0, 1) := by decide +kernel
theorem dX13_load_85 : decode cX13_load 85 = .ok (.aload_n 0, 1) := by decide +kernel
theorem dX13_load_86 : decode cX13_load 86 = .ok (.getfield 9, 3) := by decide +kernel
theorem dX13_load_89 : decode cX13_load 89 = .ok (.iconst 0, 1) := by decide +kernel
theorem dX13_load_90 : decode cX13_load 90 = .ok (.invokestatic 441, 3) := by decide +kernel
theorem dX13_load_93 : decode cX13_load 93 = .ok (.iconst 0, 1) := by decide +kernel
theorem dX13_load_94 : decode cX13_load 94 = .ok (.istore_n 2, 1) := by decide +kernel
theorem dX13_load_95 : decode cX13_load 95 = .ok (.iload_n 2, 1) := by decide +kernel
theorem dX13_load_96 : decode cX13_load 96 = .ok (.bipush 16, 2) := by decide +kernel
theorem dX13_load_98 : decode cX13_load 98 = .ok (.if_icmp .ge 20, 3) := by decide +kernel
theorem dX13_load_101 : decode cX13_load 101 = .ok (.aload_n 0, 1) := by decide +kernel
theorem dX13_load_102 : decode cX13_load 102 = .ok (.iload_n 2, 1) := by decide +kernel
theorem dX13_load_103 : decode cX13_load 103 = .ok (.iconst 3, 1) := by decide +kernel
theorem dX13_load_104 : decode cX13_load 104 = .ok (.aload_n 0, 1) := by decide +kernel
theorem dX13_load_105 : decode cX13_load 105 = .ok (.iload_n 2, 1) := by decide +kernel
theorem dX13_load_106 : decode cX13_load 106 = .ok (.invokevirtual 262, 3) := by decide +kernel
theorem dX13_load_109 : decode cX13_load 109 = .ok (.invokevirtual 284, 3) := by decide +kernel
theorem dX13_load_112 : decode cX13_load 112 = .ok (.iinc 2 1, 3) := by decide +kernel
theorem dX13_load_115 : decode cX13_load 115 = .ok (.goto (-20), 3) := by decide +kernel
theorem dX13_load_118 : decode cX13_load 118 = .ok (.iconst 0, 1) := by decide +kernel
theorem dX13_load_119 : decode cX13_load 119 = .ok (.istore_n 2, 1) := by decide +kernel
theorem dX13_load_120 : decode cX13_load 120 = .ok (.iload_n 2, 1) := by decide +kernel
theorem dX13_load_121 : decode cX13_load 121 = .ok (.iconst 4, 1) := by decide +kernel
theorem dX13_load_122 : decode cX13_load 122 = .ok (.if_icmp .ge 31, 3) := by decide +kernel
theorem dX13_load_125 : decode cX13_load 125 = .ok (.aload_n 0, 1) := by decide +kernel
theorem dX13_load_126 : decode cX13_load 126 = .ok (.iload_n 2, 1) := by decide +kernel
theorem dX13_load_127 : decode cX13_load 127 = .ok (.iconst 0, 1) := by decide +kernel
theorem dX13_load_128 : decode cX13_load 128 = .ok (.invokevirtual 249, 3) := by decide +kernel
theorem dX13_load_131 : decode cX13_load 131 = .ok (.iconst 1, 1) := by decide +kernel
theorem dX13_load_132 : decode cX13_load 132 = .ok (.if_icmp .ne 15, 3) := by decide +kernel
theorem dX13_load_135 : decode cX13_load 135 = .ok (.aload_n 0, 1) := by decide +kernel
theorem dX13_load_136 : decode cX13_load 136 = .ok (.iload_n 2, 1) := by decide +kernel
theorem dX13_load_137 : decode cX13_load 137 = .ok (.invokevirtual 427, 3) := by decide +kernel
theorem dX13_load_140 : decode cX13_load 140 = .ok (.aload_n 0, 1) := by decide +kernel
theorem dX13_load_141 : decode cX13_load 141 = .ok (.iload_n 2, 1) := by decide +kernel
theorem dX13_load_142 : decode cX13_load 142 = .ok (.iconst 0, 1) := by decide +kernel
theorem dX13_load_143 : decode cX13_load 143 = .ok (.iconst 1, 1) := by decide +kernel
theorem dX13_load_144 : decode cX13_load 144 = .ok (.invokevirtual 282, 3) := by decide +kernel
theorem dX13_load_147 : decode cX13_load 147 = .ok (.iinc 2 1, 3) := by decide +kernel
theorem dX13_load_150 : decode cX13_load 150 = .ok (.goto (-30), 3) := by decide +kernel
theorem dX13_load_153 : decode cX13_load 153 = .ok (.aload_n 0, 1) := by decide +kernel
theorem dX13_load_154 : decode cX13_load 154 = .ok (.iconst 0, 1) := by decide +kernel
theorem dX13_load_155 : decode cX13_load 155 = .ok (.putfield 459, 3) := by decide +kernel
theorem dX13_load_158 : decode cX13_load 158 = .ok (.aload_n 0, 1) := by decide +kernel
theorem dX13_load_159 : decode cX13_load 159 = .ok (.iconst 0, 1) := by decide +kernel
theorem dX13_load_160 : decode cX13_load 160 = .ok (.putfield 462, 3) := by decide +kernel
theorem dX13_load_163 : decode cX13_load 163 = .ok (.aload_n 0, 1) := by decide +kernel
theorem dX13_load_164 : decode cX13_load 164 = .ok (.getfield 9, 3) := by decide +kernel
theorem dX13_load_167 : decode cX13_load 167 = .ok (.iconst 0, 1) := by decide +kernel
theorem dX13_load_168 : decode cX13_load 168 = .ok (.iaload, 1) := by decide +kernel
theorem dX13_load_169 : decode cX13_load 169 = .ok (.ireturn, 1) := by decide +kernel
theorem dX13_write__0 : decode cX13_write_ 0 = .ok (.aload_n 0, 1) := by decide +kernel
theorem dX13_write__1 : decode cX13_write_ 1 = .ok (.getfield 630, 3) := by decide +kernel
theorem dX13_write__4 : decode cX13_write_ 4 = .ok (.ifCond .le 24, 3) := by decide +kernel
theorem dX13_write__7 : decode cX13_write_ 7 = .ok (.aload_n 0, 1) := by decide +kernel
theorem dX13_write__8 : decode cX13_write_ 8 = .ok (.getfield 213, 3) := by decide +kernel
theorem dX13_write__11 : decode cX13_write_ 11 = .ok (.aload_n 0, 1) := by decide +kernel
theorem dX13_write__12 : decode cX13_write_ 12 = .ok (.getfield 630, 3) := by decide +kernel
theorem dX13_write__15 : decode cX13_write_ 15 = .ok (.bipush 32, 2) := by decide +kernel
theorem dX13_write__17 : decode cX13_write_ 17 = .ok (.iastore, 1) := by decide +kernel
theorem dX13_write__18 : decode cX13_write_ 18 = .ok (.aload_n 0, 1) := by decide +kernel
theorem dX13_write__19 : decode cX13_write_ 19 = .ok (.dup, 1) := by decide +kernel
theorem dX13_write__20 : decode cX13_write_ 20 = .ok (.getfield 630, 3) := by decide +kernel
theorem dX13_write__23 : decode cX13_write_ 23 = .ok (.iconst 1, 1) := by decide +kernel
theorem dX13_write__24 : decode cX13_write_ 24 = .ok (.iadd, 1) := by decide +kernel
theorem dX13_write__25 : decode cX13_write_ 25 = .ok (.putfield 630, 3) := by decide +kernel
theorem dX13_write__28 : decode cX13_write_ 28 = .ok (.iconst 0, 1) := by decide +kernel
theorem dX13_write__29 : decode cX13_write_ 29 = .ok (.istore_n 2, 1) := by decide +kernel
theorem dX13_write__30 : decode cX13_write_ 30 = .ok (.iload_n 2, 1) := by decide +kernel
theorem dX13_write__31 : decode cX13_write_ 31 = .ok (.aload_n 1, 1) := by decide +kernel
theorem dX13_write__32 : decode cX13_write_ 32 = .ok (.invokevirtual 505, 3) := by decide +kernel
theorem dX13_write__35 : decode cX13_write_ 35 = .ok (.if_icmp .ge 33, 3) := by decide +kernel
theorem dX13_write__38 : decode cX13_write_ 38 = .ok (.aload_n 0, 1) := by decide +kernel
theorem dX13_write__39 : decode cX13_write_ 39 = .ok (.getfield 213, 3) := by decide +kernel
theorem dX13_write__42 : decode cX13_write_ 42 = .ok (.aload_n 0, 1) := by decide +kernel
theorem dX13_write__43 : decode cX13_write_ 43 = .ok (.getfield 630, 3) := by decide +kernel
theorem dX13_write__46 : decode cX13_write_ 46 = .ok (.aload_n 1, 1) := by decide +kernel
theorem dX13_write__47 : decode cX13_write_ 47 = .ok (.iload_n 2, 1) := by decide +kernel
theorem dX13_write__48 : decode cX13_write_ 48 = .ok (.invokevirtual 508, 3) := by decide +kernel
theorem dX13_write__51 : decode cX13_write_ 51 = .ok (.iastore, 1) := by decide +kernel
theorem dX13_write__52 : decode cX13_write_ 52 = .ok (.aload_n 0, 1) := by decide +kernel
theorem dX13_write__53 : decode cX13_write_ 53 = .ok (.dup, 1) := by decide +kernel
theorem dX13_write__54 : decode cX13_write_ 54 = .ok (.getfield 630, 3) := by decide +kernel
theorem dX13_write__57 : decode cX13_write_ 57 = .ok (.iconst 1, 1) := by decide +kernel
theorem dX13_write__58 : decode cX13_write_ 58 = .ok (.iadd, 1) := by decide +kernel
theorem dX13_write__59 : decode cX13_write_ 59 = .ok (.putfield 630, 3) := by decide +kernel
theorem dX13_write__62 : decode cX13_write_ 62 = .ok (.iinc 2 1, 3) := by decide +kernel
theorem dX13_write__65 : decode cX13_write_ 65 = .ok (.goto (-35), 3) := by decide +kernel
theorem dX13_write__68 : decode cX13_write_ 68 = .ok (.return_, 1) := by decide +kernel
theorem dX13_digits_0 : decode cX13_digits 0 = .ok (.iload_n 1, 1) := by decide +kernel
theorem dX13_digits_1 : decode cX13_digits 1 = .ok (.bipush 9, 2) := by decide +kernel
theorem dX13_digits_3 : decode cX13_digits 3 = .ok (.if_icmp .le 11, 3) := by decide +kernel
theorem dX13_digits_6 : decode cX13_digits 6 = .ok (.aload_n 0, 1) := by decide +kernel
theorem dX13_digits_7 : decode cX13_digits 7 = .ok (.iload_n 1, 1) := by decide +kernel
theorem dX13_digits_8 : decode cX13_digits 8 = .ok (.bipush 10, 2) := by decide +kernel
theorem dX13_digits_10 : decode cX13_digits 10 = .ok (.idiv, 1) := by decide +kernel
theorem dX13_digits_11 : decode cX13_digits 11 = .ok (.invokevirtual 633, 3) := by decide +kernel
theorem dX13_digits_14 : decode cX13_digits 14 = .ok (.aload_n 0, 1) := by decide +kernel
theorem dX13_digits_15 : decode cX13_digits 15 = .ok (.getfield 213, 3) := by decide +kernel
theorem dX13_digits_18 : decode cX13_digits 18 = .ok (.aload_n 0, 1) := by decide +kernel
theorem dX13_digits_19 : decode cX13_digits 19 = .ok (.getfield 630, 3) := by decide +kernel
theorem dX13_digits_22 : decode cX13_digits 22 = .ok (.bipush 48, 2) := by decide +kernel
theorem dX13_digits_24 : decode cX13_digits 24 = .ok (.iload_n 1, 1) := by decide +kernel
theorem dX13_digits_25 : decode cX13_digits 25 = .ok (.bipush 10, 2) := by decide +kernel
theorem dX13_digits_27 : decode cX13_digits 27 = .ok (.irem, 1) := by decide +kernel
theorem dX13_digits_28 : decode cX13_digits 28 = .ok (.iadd, 1) := by decide +kernel
theorem dX13_digits_29 : decode cX13_digits 29 = .ok (.iastore, 1) := by decide +kernel
theorem dX13_digits_30 : decode cX13_digits 30 = .ok (.aload_n 0, 1) := by decide +kernel
theorem dX13_digits_31 : decode cX13_digits 31 = .ok (.dup, 1) := by decide +kernel
theorem dX13_digits_32 : decode cX13_digits 32 = .ok (.getfield 630, 3) := by decide +kernel
theorem dX13_digits_35 : decode cX13_digits 35 = .ok (.iconst 1, 1) := by decide +kernel
theorem dX13_digits_36 : decode cX13_digits 36 = .ok (.iadd, 1) := by decide +kernel
theorem dX13_digits_37 : decode cX13_digits 37 = .ok (.putfield 630, 3) := by decide +kernel
theorem dX13_digits_40 : decode cX13_digits 40 = .ok (.return_, 1) := by decide +kernel
theorem dX13_writeNumber_0 : decode cX13_writeNumber 0 = .ok (.aload_n 0, 1) := by decide +kernel
theorem dX13_writeNumber_1 : decode cX13_writeNumber 1 = .ok (.ldc 89, 2) := by decide +kernel
theorem dX13_writeNumber_3 : decode cX13_writeNumber 3 = .ok (.invokevirtual 636, 3) := by decide +kernel
theorem dX13_writeNumber_6 : decode cX13_writeNumber 6 = .ok (.aload_n 0, 1) := by decide +kernel
theorem dX13_writeNumber_7 : decode cX13_writeNumber 7 = .ok (.iload_n 1, 1) := by decide +kernel
theorem dX13_writeNumber_8 : decode cX13_writeNumber 8 = .ok (.invokevirtual 633, 3) := by decide +kernel
theorem dX13_writeNumber_11 : decode cX13_writeNumber 11 = .ok (.return_, 1) := by decide +kernel
theorem dX13_writeIf_0 : decode cX13_writeIf 0 = .ok (.iload_n 1, 1) := by decide +kernel
theorem dX13_writeIf_1 : decode cX13_writeIf 1 = .ok (.ifCond .eq 8, 3) := by decide +kernel
theorem dX13_writeIf_4 : decode cX13_writeIf 4 = .ok (.aload_n 0, 1) := by decide +kernel
theorem dX13_writeIf_5 : decode cX13_writeIf 5 = .ok (.aload_n 2, 1) := by decide +kernel
theorem dX13_writeIf_6 : decode cX13_writeIf 6 = .ok (.invokevirtual 636, 3) := by decide +kernel
theorem dX13_writeIf_9 : decode cX13_writeIf 9 = .ok (.return_, 1) := by decide +kernel
theorem dX13_writeAccess_0 : decode cX13_writeAccess 0 = .ok (.aload_n 0, 1) := by decide +kernel
theorem dX13_writeAccess_1 : decode cX13_writeAccess 1 = .ok (.aload_n 0, 1) := by decide +kernel
theorem dX13_writeAccess_2 : decode cX13_writeAccess 2 = .ok (.getfield 126, 3) := by decide +kernel
theorem dX13_writeAccess_5 : decode cX13_writeAccess 5 = .ok (.aload_n 0, 1) := by decide +kernel
theorem dX13_writeAccess_6 : decode cX13_writeAccess 6 = .ok (.iload_n 1, 1) := by decide +kernel
theorem dX13_writeAccess_7 : decode cX13_writeAccess 7 = .ok (.iconst 1, 1) := by decide +kernel
theorem dX13_writeAccess_8 : decode cX13_writeAccess 8 = .ok (.invokevirtual 242, 3) := by decide +kernel
theorem dX13_writeAccess_11 : decode cX13_writeAccess 11 = .ok (.aaload, 1) := by decide +kernel
theorem dX13_writeAccess_12 : decode cX13_writeAccess 12 = .ok (.invokevirtual 636, 3) := by decide +kernel
theorem dX13_writeAccess_15 : decode cX13_writeAccess 15 = .ok (.aload_n 0, 1) := by decide +kernel
theorem dX13_writeAccess_16 : decode cX13_writeAccess 16 = .ok (.iload_n 1, 1) := by decide +kernel
theorem dX13_writeAccess_17 : decode cX13_writeAccess 17 = .ok (.iconst 2, 1) := by decide +kernel
theorem dX13_writeAccess_18 : decode cX13_writeAccess 18 = .ok (.invokevirtual 242, 3) := by decide +kernel
theorem dX13_writeAccess_21 : decode cX13_writeAccess 21 = .ok (.istore_n 2, 1) := by decide +kernel
theorem dX13_writeAccess_22 : decode cX13_writeAccess 22 = .ok (.iload_n 2, 1) := by decide +kernel
theorem dX13_writeAccess_23 : decode cX13_writeAccess 23 = .ok (.bipush 16, 2) := by decide +kernel
theorem dX13_writeAccess_25 : decode cX13_writeAccess 25 = .ok (.if_icmp .ge 11, 3) := by decide +kernel
theorem dX13_writeAccess_28 : decode cX13_writeAccess 28 = .ok (.aload_n 0, 1) := by decide +kernel
theorem dX13_writeAccess_29 : decode cX13_writeAccess 29 = .ok (.iload_n 2, 1) := by decide +kernel
theorem dX13_writeAccess_30 : decode cX13_writeAccess 30 = .ok (.invokevirtual 638, 3) := by decide +kernel
theorem dX13_writeAccess_33 : decode cX13_writeAccess 33 = .ok (.goto 20, 3) := by decide +kernel
theorem dX13_writeAccess_36 : decode cX13_writeAccess 36 = .ok (.aload_n 0, 1) := by decide +kernel
theorem dX13_writeAccess_37 : decode cX13_writeAccess 37 = .ok (.iload_n 2, 1) := by decide +kernel
theorem dX13_writeAccess_38 : decode cX13_writeAccess 38 = .ok (.bipush 16, 2) := by decide +kernel
theorem dX13_writeAccess_40 : decode cX13_writeAccess 40 = .ok (.if_icmp .ne 8, 3) := by decide +kernel
theorem dX13_writeAccess_43 : decode cX13_writeAccess 43 = .ok (.ldc 110, 2) := by decide +kernel
theorem dX13_writeAccess_45 : decode cX13_writeAccess 45 = .ok (.goto 5, 3) := by decide +kernel
theorem dX13_writeAccess_48 : decode cX13_writeAccess 48 = .ok (.ldc 112, 2) := by decide +kernel
theorem dX13_writeAccess_50 : decode cX13_writeAccess 50 = .ok (.invokevirtual 636, 3) := by decide +kernel
theorem dX13_writeAccess_53 : decode cX13_writeAccess 53 = .ok (.return_, 1) := by decide +kernel
theorem dX13_writeOperands_0 : decode cX13_writeOperands 0 = .ok (.aload_n 0, 1) := by decide +kernel
theorem dX13_writeOperands_1 : decode cX13_writeOperands 1 = .ok (.iload_n 1, 1) := by decide +kernel
theorem dX13_writeOperands_2 : decode cX13_writeOperands 2 = .ok (.iconst 1, 1) := by decide +kernel
theorem dX13_writeOperands_3 : decode cX13_writeOperands 3 = .ok (.invokevirtual 242, 3) := by decide +kernel
theorem dX13_writeOperands_6 : decode cX13_writeOperands 6 = .ok (.istore_n 3, 1) := by decide +kernel
theorem dX13_writeOperands_7 : decode cX13_writeOperands 7 = .ok (.aload_n 0, 1) := by decide +kernel
theorem dX13_writeOperands_8 : decode cX13_writeOperands 8 = .ok (.iload_n 1, 1) := by decide +kernel
theorem dX13_writeOperands_9 : decode cX13_writeOperands 9 = .ok (.iconst 2, 1) := by decide +kernel
theorem dX13_writeOperands_10 : decode cX13_writeOperands 10 = .ok (.invokevirtual 242, 3) := by decide +kernel
theorem dX13_writeOperands_13 : decode cX13_writeOperands 13 = .ok (.istore 4, 2) := by decide +kernel
theorem dX13_writeOperands_15 : decode cX13_writeOperands 15 = .ok (.iload_n 2, 1) := by decide +kernel
theorem dX13_writeOperands_16 : decode cX13_writeOperands 16 = .ok (.tableswitch 259 0 12 #[68, 96, 232, 232, 131, 131, 177, 259, 259, 259, 232, 251, 251], 68) := by decide +kernel
theorem dX13_writeOperands_84 : decode cX13_writeOperands 84 = .ok (.aload_n 0, 1) := by decide +kernel
theorem dX13_writeOperands_85 : decode cX13_writeOperands 85 = .ok (.iload_n 3, 1) := by decide +kernel
theorem dX13_writeOperands_86 : decode cX13_writeOperands 86 = .ok (.ifCond .le 7, 3) := by decide +kernel
theorem dX13_writeOperands_89 : decode cX13_writeOperands 89 = .ok (.iconst 1, 1) := by decide +kernel
theorem dX13_writeOperands_90 : decode cX13_writeOperands 90 = .ok (.goto 4, 3) := by decide +kernel
theorem dX13_writeOperands_93 : decode cX13_writeOperands 93 = .ok (.iconst 0, 1) := by decide +kernel
theorem dX13_writeOperands_94 : decode cX13_writeOperands 94 = .ok (.aload_n 0, 1) := by decide +kernel
theorem dX13_writeOperands_95 : decode cX13_writeOperands 95 = .ok (.getfield 105, 3) := by decide +kernel
theorem dX13_writeOperands_98 : decode cX13_writeOperands 98 = .ok (.iload_n 3, 1) := by decide +kernel
theorem dX13_writeOperands_99 : decode cX13_writeOperands 99 = .ok (.aaload, 1) := by decide +kernel
theorem dX13_writeOperands_100 : decode cX13_writeOperands 100 = .ok (.invokevirtual 641, 3) := by decide +kernel
theorem dX13_writeOperands_103 : decode cX13_writeOperands 103 = .ok (.aload_n 0, 1) := by decide +kernel
theorem dX13_writeOperands_104 : decode cX13_writeOperands 104 = .ok (.iload 4, 2) := by decide +kernel
theorem dX13_writeOperands_106 : decode cX13_writeOperands 106 = .ok (.invokevirtual 638, 3) := by decide +kernel
theorem dX13_writeOperands_109 : decode cX13_writeOperands 109 = .ok (.goto 171, 3) := by decide +kernel
theorem dX13_writeOperands_112 : decode cX13_writeOperands 112 = .ok (.aload_n 0, 1) := by decide +kernel
theorem dX13_writeOperands_113 : decode cX13_writeOperands 113 = .ok (.iload_n 3, 1) := by decide +kernel
theorem dX13_writeOperands_114 : decode cX13_writeOperands 114 = .ok (.invokevirtual 638, 3) := by decide +kernel
theorem dX13_writeOperands_117 : decode cX13_writeOperands 117 = .ok (.aload_n 0, 1) := by decide +kernel
theorem dX13_writeOperands_118 : decode cX13_writeOperands 118 = .ok (.iload 4, 2) := by decide +kernel
theorem dX13_writeOperands_120 : decode cX13_writeOperands 120 = .ok (.iconst 1, 1) := by decide +kernel
theorem dX13_writeOperands_121 : decode cX13_writeOperands 121 = .ok (.if_icmp .ne 8, 3) := by decide +kernel
theorem dX13_writeOperands_124 : decode cX13_writeOperands 124 = .ok (.ldc 165, 2) := by decide +kernel
theorem dX13_writeOperands_126 : decode cX13_writeOperands 126 = .ok (.goto 5, 3) := by decide +kernel
theorem dX13_writeOperands_129 : decode cX13_writeOperands 129 = .ok (.ldc 101, 2) := by decide +kernel
theorem dX13_writeOperands_131 : decode cX13_writeOperands 131 = .ok (.invokevirtual 636, 3) := by decide +kernel
theorem dX13_writeOperands_134 : decode cX13_writeOperands 134 = .ok (.aload_n 0, 1) := by decide +kernel
theorem dX13_writeOperands_135 : decode cX13_writeOperands 135 = .ok (.aload_n 0, 1) := by decide +kernel
theorem dX13_writeOperands_136 : decode cX13_writeOperands 136 = .ok (.iload_n 1, 1) := by decide +kernel
theorem dX13_writeOperands_137 : decode cX13_writeOperands 137 = .ok (.iconst 3, 1) := by decide +kernel
theorem dX13_writeOperands_138 : decode cX13_writeOperands 138 = .ok (.invokevirtual 242, 3) := by decide +kernel
theorem dX13_writeOperands_141 : decode cX13_writeOperands 141 = .ok (.invokevirtual 638, 3) := by decide +kernel
theorem dX13_writeOperands_144 : decode cX13_writeOperands 144 = .ok (.goto 136, 3) := by decide +kernel
theorem dX13_writeOperands_147 : decode cX13_writeOperands 147 = .ok (.aload_n 0, 1) := by decide +kernel
theorem dX13_writeOperands_148 : decode cX13_writeOperands 148 = .ok (.iload_n 3, 1) := by decide +kernel
theorem dX13_writeOperands_149 : decode cX13_writeOperands 149 = .ok (.iconst 1, 1) := by decide +kernel
theorem dX13_writeOperands_150 : decode cX13_writeOperands 150 = .ok (.if_icmp .ne 7, 3) := by decide +kernel
theorem dX13_writeOperands_153 : decode cX13_writeOperands 153 = .ok (.iconst 1, 1) := by decide +kernel
theorem dX13_writeOperands_154 : decode cX13_writeOperands 154 = .ok (.goto 4, 3) := by decide +kernel
theorem dX13_writeOperands_157 : decode cX13_writeOperands 157 = .ok (.iconst 0, 1) := by decide +kernel
theorem dX13_writeOperands_158 : decode cX13_writeOperands 158 = .ok (.iload_n 2, 1) := by decide +kernel
theorem dX13_writeOperands_159 : decode cX13_writeOperands 159 = .ok (.iconst 4, 1) := by decide +kernel
theorem dX13_writeOperands_160 : decode cX13_writeOperands 160 = .ok (.if_icmp .ne 8, 3) := by decide +kernel
theorem dX13_writeOperands_163 : decode cX13_writeOperands 163 = .ok (.ldc 167, 2) := by decide +kernel
theorem dX13_writeOperands_165 : decode cX13_writeOperands 165 = .ok (.goto 5, 3) := by decide +kernel
theorem dX13_writeOperands_168 : decode cX13_writeOperands 168 = .ok (.ldc 171, 2) := by decide +kernel
theorem dX13_writeOperands_170 : decode cX13_writeOperands 170 = .ok (.invokevirtual 641, 3) := by decide +kernel
theorem dX13_writeOperands_173 : decode cX13_writeOperands 173 = .ok (.aload_n 0, 1) := by decide +kernel
theorem dX13_writeOperands_174 : decode cX13_writeOperands 174 = .ok (.iload 4, 2) := by decide +kernel
theorem dX13_writeOperands_176 : decode cX13_writeOperands 176 = .ok (.iconst 1, 1) := by decide +kernel
theorem dX13_writeOperands_177 : decode cX13_writeOperands 177 = .ok (.if_icmp .ne 7, 3) := by decide +kernel
theorem dX13_writeOperands_180 : decode cX13_writeOperands 180 = .ok (.iconst 1, 1) := by decide +kernel
theorem dX13_writeOperands_181 : decode cX13_writeOperands 181 = .ok (.goto 4, 3) := by decide +kernel
theorem dX13_writeOperands_184 : decode cX13_writeOperands 184 = .ok (.iconst 0, 1) := by decide +kernel
theorem dX13_writeOperands_185 : decode cX13_writeOperands 185 = .ok (.ldc 169, 2) := by decide +kernel
theorem dX13_writeOperands_187 : decode cX13_writeOperands 187 = .ok (.invokevirtual 641, 3) := by decide +kernel
theorem dX13_writeOperands_190 : decode cX13_writeOperands 190 = .ok (.goto 90, 3) := by decide +kernel
theorem dX13_writeOperands_193 : decode cX13_writeOperands 193 = .ok (.aload_n 0, 1) := by decide +kernel
theorem dX13_writeOperands_194 : decode cX13_writeOperands 194 = .ok (.aload_n 0, 1) := by decide +kernel
theorem dX13_writeOperands_195 : decode cX13_writeOperands 195 = .ok (.getfield 126, 3) := by decide +kernel
theorem dX13_writeOperands_198 : decode cX13_writeOperands 198 = .ok (.iload_n 3, 1) := by decide +kernel
theorem dX13_writeOperands_199 : decode cX13_writeOperands 199 = .ok (.aaload, 1) := by decide +kernel
theorem dX13_writeOperands_200 : decode cX13_writeOperands 200 = .ok (.invokevirtual 636, 3) := by decide +kernel
theorem dX13_writeOperands_203 : decode cX13_writeOperands 203 = .ok (.aload_n 0, 1) := by decide +kernel
theorem dX13_writeOperands_204 : decode cX13_writeOperands 204 = .ok (.iload 4, 2) := by decide +kernel
theorem dX13_writeOperands_206 : decode cX13_writeOperands 206 = .ok (.ifCond .le 7, 3) := by decide +kernel
theorem dX13_writeOperands_209 : decode cX13_writeOperands 209 = .ok (.iconst 1, 1) := by decide +kernel
theorem dX13_writeOperands_210 : decode cX13_writeOperands 210 = .ok (.goto 4, 3) := by decide +kernel
theorem dX13_writeOperands_213 : decode cX13_writeOperands 213 = .ok (.iconst 0, 1) := by decide +kernel
theorem dX13_writeOperands_214 : decode cX13_writeOperands 214 = .ok (.iload 4, 2) := by decide +kernel
theorem dX13_writeOperands_216 : decode cX13_writeOperands 216 = .ok (.iconst 1, 1) := by decide +kernel
theorem dX13_writeOperands_217 : decode cX13_writeOperands 217 = .ok (.if_icmp .ne 8, 3) := by decide +kernel
theorem dX13_writeOperands_220 : decode cX13_writeOperands 220 = .ok (.ldc 173, 2) := by decide +kernel
theorem dX13_writeOperands_222 : decode cX13_writeOperands 222 = .ok (.goto 5, 3) := by decide +kernel
theorem dX13_writeOperands_225 : decode cX13_writeOperands 225 = .ok (.ldc 175, 2) := by decide +kernel
theorem dX13_writeOperands_227 : decode cX13_writeOperands 227 = .ok (.invokevirtual 641, 3) := by decide +kernel
theorem dX13_writeOperands_230 : decode cX13_writeOperands 230 = .ok (.aload_n 0, 1) := by decide +kernel
theorem dX13_writeOperands_231 : decode cX13_writeOperands 231 = .ok (.aload_n 0, 1) := by decide +kernel
theorem dX13_writeOperands_232 : decode cX13_writeOperands 232 = .ok (.getfield 126, 3) := by decide +kernel
theorem dX13_writeOperands_235 : decode cX13_writeOperands 235 = .ok (.aload_n 0, 1) := by decide +kernel
theorem dX13_writeOperands_236 : decode cX13_writeOperands 236 = .ok (.iload_n 1, 1) := by decide +kernel
theorem dX13_writeOperands_237 : decode cX13_writeOperands 237 = .ok (.iconst 3, 1) := by decide +kernel
theorem dX13_writeOperands_238 : decode cX13_writeOperands 238 = .ok (.invokevirtual 242, 3) := by decide +kernel
theorem dX13_writeOperands_241 : decode cX13_writeOperands 241 = .ok (.aaload, 1) := by decide +kernel
theorem dX13_writeOperands_242 : decode cX13_writeOperands 242 = .ok (.invokevirtual 636, 3) := by decide +kernel
theorem dX13_writeOperands_245 : decode cX13_writeOperands 245 = .ok (.goto 35, 3) := by decide +kernel
theorem dX13_writeOperands_248 : decode cX13_writeOperands 248 = .ok (.aload_n 0, 1) := by decide +kernel
theorem dX13_writeOperands_249 : decode cX13_writeOperands 249 = .ok (.aload_n 0, 1) := by decide +kernel
theorem dX13_writeOperands_250 : decode cX13_writeOperands 250 = .ok (.getfield 126, 3) := by decide +kernel
theorem dX13_writeOperands_253 : decode cX13_writeOperands 253 = .ok (.iload_n 3, 1) := by decide +kernel
theorem dX13_writeOperands_254 : decode cX13_writeOperands 254 = .ok (.aaload, 1) := by decide +kernel
theorem dX13_writeOperands_255 : decode cX13_writeOperands 255 = .ok (.invokevirtual 636, 3) := by decide +kernel
theorem dX13_writeOperands_258 : decode cX13_writeOperands 258 = .ok (.aload_n 0, 1) := by decide +kernel
theorem dX13_writeOperands_259 : decode cX13_writeOperands 259 = .ok (.iload 4, 2) := by decide +kernel
theorem dX13_writeOperands_261 : decode cX13_writeOperands 261 = .ok (.invokevirtual 638, 3) := by decide +kernel
theorem dX13_writeOperands_264 : decode cX13_writeOperands 264 = .ok (.goto 16, 3) := by decide +kernel
theorem dX13_writeOperands_267 : decode cX13_writeOperands 267 = .ok (.aload_n 0, 1) := by decide +kernel
theorem dX13_writeOperands_268 : decode cX13_writeOperands 268 = .ok (.iload_n 1, 1) := by decide +kernel
theorem dX13_writeOperands_269 : decode cX13_writeOperands 269 = .ok (.invokevirtual 645, 3) := by decide +kernel
theorem dX13_writeOperands_272 : decode cX13_writeOperands 272 = .ok (.goto 8, 3) := by decide +kernel
theorem dX13_writeOperands_275 : decode cX13_writeOperands 275 = .ok (.aload_n 0, 1) := by decide +kernel
theorem dX13_writeOperands_276 : decode cX13_writeOperands 276 = .ok (.iload_n 3, 1) := by decide +kernel
theorem dX13_writeOperands_277 : decode cX13_writeOperands 277 = .ok (.invokevirtual 638, 3) := by decide +kernel
theorem dX13_writeOperands_280 : decode cX13_writeOperands 280 = .ok (.return_, 1) := by decide +kernel
theorem dX13_format_0 : decode cX13_format 0 = .ok (.aload_n 0, 1) := by decide +kernel
theorem dX13_format_1 : decode cX13_format 1 = .ok (.iconst 0, 1) := by decide +kernel
theorem dX13_format_2 : decode cX13_format 2 = .ok (.putfield 231, 3) := by decide +kernel
theorem dX13_format_5 : decode cX13_format 5 = .ok (.iload_n 1, 1) := by decide +kernel
theorem dX13_format_6 : decode cX13_format 6 = .ok (.iconst 0, 1) := by decide +kernel
theorem dX13_format_7 : decode cX13_format 7 = .ok (.aload_n 0, 1) := by decide +kernel
theorem dX13_format_8 : decode cX13_format 8 = .ok (.getfield 9, 3) := by decide +kernel
theorem dX13_format_11 : decode cX13_format 11 = .ok (.iconst 0, 1) := by decide +kernel
theorem dX13_format_12 : decode cX13_format 12 = .ok (.iaload, 1) := by decide +kernel
theorem dX13_format_13 : decode cX13_format 13 = .ok (.iconst 1, 1) := by decide +kernel
theorem dX13_format_14 : decode cX13_format 14 = .ok (.isub, 1) := by decide +kernel
theorem dX13_format_15 : decode cX13_format 15 = .ok (.invokestatic 245, 3) := by decide +kernel
theorem dX13_format_18 : decode cX13_format 18 = .ok (.ifCond .ne 9, 3) := by decide +kernel
theorem dX13_format_21 : decode cX13_format 21 = .ok (.aload_n 0, 1) := by decide +kernel
theorem dX13_format_22 : decode cX13_format 22 = .ok (.iconst 1, 1) := by decide +kernel
theorem dX13_format_23 : decode cX13_format 23 = .ok (.invokevirtual 259, 3) := by decide +kernel
theorem dX13_format_26 : decode cX13_format 26 = .ok (.ireturn, 1) := by decide +kernel
theorem dX13_format_27 : decode cX13_format 27 = .ok (.aload_n 0, 1) := by decide +kernel
theorem dX13_format_28 : decode cX13_format 28 = .ok (.iconst 0, 1) := by decide +kernel
theorem dX13_format_29 : decode cX13_format 29 = .ok (.putfield 630, 3) := by decide +kernel
theorem dX13_format_32 : decode cX13_format 32 = .ok (.aload_n 0, 1) := by decide +kernel
theorem dX13_format_33 : decode cX13_format 33 = .ok (.iload_n 1, 1) := by decide +kernel
theorem dX13_format_34 : decode cX13_format 34 = .ok (.iconst 0, 1) := by decide +kernel
theorem dX13_format_35 : decode cX13_format 35 = .ok (.invokevirtual 242, 3) := by decide +kernel
theorem dX13_format_38 : decode cX13_format 38 = .ok (.istore_n 2, 1) := by decide +kernel
theorem dX13_format_39 : decode cX13_format 39 = .ok (.aload_n 0, 1) := by decide +kernel
theorem dX13_format_40 : decode cX13_format 40 = .ok (.aload_n 0, 1) := by decide +kernel
theorem dX13_format_41 : decode cX13_format 41 = .ok (.getfield 85, 3) := by decide +kernel
theorem dX13_format_44 : decode cX13_format 44 = .ok (.iload_n 2, 1) := by decide +kernel
theorem dX13_format_45 : decode cX13_format 45 = .ok (.aaload, 1) := by decide +kernel
theorem dX13_format_46 : decode cX13_format 46 = .ok (.invokevirtual 636, 3) := by decide +kernel
theorem dX13_format_49 : decode cX13_format 49 = .ok (.aload_n 0, 1) := by decide +kernel
theorem dX13_format_50 : decode cX13_format 50 = .ok (.iload_n 1, 1) := by decide +kernel
theorem dX13_format_51 : decode cX13_format 51 = .ok (.iload_n 2, 1) := by decide +kernel
theorem dX13_format_52 : decode cX13_format 52 = .ok (.invokevirtual 648, 3) := by decide +kernel
theorem dX13_format_55 : decode cX13_format 55 = .ok (.aload_n 0, 1) := by decide +kernel
theorem dX13_format_56 : decode cX13_format 56 = .ok (.iload_n 1, 1) := by decide +kernel
theorem dX13_format_57 : decode cX13_format 57 = .ok (.iconst 4, 1) := by decide +kernel
theorem dX13_format_58 : decode cX13_format 58 = .ok (.invokevirtual 242, 3) := by decide +kernel
theorem dX13_format_61 : decode cX13_format 61 = .ok (.iconst (-1), 1) := by decide +kernel
theorem dX13_format_62 : decode cX13_format 62 = .ok (.if_icmp .eq 19, 3) := by decide +kernel
theorem dX13_format_65 : decode cX13_format 65 = .ok (.aload_n 0, 1) := by decide +kernel
theorem dX13_format_66 : decode cX13_format 66 = .ok (.ldc 135, 2) := by decide +kernel
theorem dX13_format_68 : decode cX13_format 68 = .ok (.invokevirtual 636, 3) := by decide +kernel
theorem dX13_format_71 : decode cX13_format 71 = .ok (.aload_n 0, 1) := by decide +kernel
theorem dX13_format_72 : decode cX13_format 72 = .ok (.aload_n 0, 1) := by decide +kernel
theorem dX13_format_73 : decode cX13_format 73 = .ok (.iload_n 1, 1) := by decide +kernel
theorem dX13_format_74 : decode cX13_format 74 = .ok (.iconst 4, 1) := by decide +kernel
theorem dX13_format_75 : decode cX13_format 75 = .ok (.invokevirtual 242, 3) := by decide +kernel
theorem dX13_format_78 : decode cX13_format 78 = .ok (.invokevirtual 638, 3) := by decide +kernel
theorem dX13_format_81 : decode cX13_format 81 = .ok (.aload_n 0, 1) := by decide +kernel
theorem dX13_format_82 : decode cX13_format 82 = .ok (.iload_n 1, 1) := by decide +kernel
theorem dX13_format_83 : decode cX13_format 83 = .ok (.iconst 5, 1) := by decide +kernel
theorem dX13_format_84 : decode cX13_format 84 = .ok (.invokevirtual 242, 3) := by decide +kernel
theorem dX13_format_87 : decode cX13_format 87 = .ok (.ifCond .le 19, 3) := by decide +kernel
theorem dX13_format_90 : decode cX13_format 90 = .ok (.aload_n 0, 1) := by decide +kernel
theorem dX13_format_91 : decode cX13_format 91 = .ok (.ldc 137, 2) := by decide +kernel
theorem dX13_format_93 : decode cX13_format 93 = .ok (.invokevirtual 636, 3) := by decide +kernel
theorem dX13_format_96 : decode cX13_format 96 = .ok (.aload_n 0, 1) := by decide +kernel
theorem dX13_format_97 : decode cX13_format 97 = .ok (.aload_n 0, 1) := by decide +kernel
theorem dX13_format_98 : decode cX13_format 98 = .ok (.iload_n 1, 1) := by decide +kernel
theorem dX13_format_99 : decode cX13_format 99 = .ok (.iconst 5, 1) := by decide +kernel
theorem dX13_format_100 : decode cX13_format 100 = .ok (.invokevirtual 242, 3) := by decide +kernel
theorem dX13_format_103 : decode cX13_format 103 = .ok (.invokevirtual 638, 3) := by decide +kernel
theorem dX13_format_106 : decode cX13_format 106 = .ok (.aload_n 0, 1) := by decide +kernel
theorem dX13_format_107 : decode cX13_format 107 = .ok (.getfield 630, 3) := by decide +kernel
theorem dX13_format_110 : decode cX13_format 110 = .ok (.ireturn, 1) := by decide +kernel
theorem dX13_formattedByte_0 : decode cX13_formattedByte 0 = .ok (.aload_n 0, 1) := by decide +kernel
theorem dX13_formattedByte_1 : decode cX13_formattedByte 1 = .ok (.iconst 0, 1) := by decide +kernel
theorem dX13_formattedByte_2 : decode cX13_formattedByte 2 = .ok (.putfield 231, 3) := by decide +kernel
theorem dX13_formattedByte_5 : decode cX13_formattedByte 5 = .ok (.iload_n 1, 1) := by decide +kernel
theorem dX13_formattedByte_6 : decode cX13_formattedByte 6 = .ok (.iconst 0, 1) := by decide +kernel
theorem dX13_formattedByte_7 : decode cX13_formattedByte 7 = .ok (.aload_n 0, 1) := by decide +kernel
theorem dX13_formattedByte_8 : decode cX13_formattedByte 8 = .ok (.getfield 630, 3) := by decide +kernel
theorem dX13_formattedByte_11 : decode cX13_formattedByte 11 = .ok (.iconst 1, 1) := by decide +kernel
theorem dX13_formattedByte_12 : decode cX13_formattedByte 12 = .ok (.isub, 1) := by decide +kernel
theorem dX13_formattedByte_13 : decode cX13_formattedByte 13 = .ok (.invokestatic 245, 3) := by decide +kernel
theorem dX13_formattedByte_16 : decode cX13_formattedByte 16 = .ok (.ifCond .eq 12, 3) := by decide +kernel
theorem dX13_formattedByte_19 : decode cX13_formattedByte 19 = .ok (.aload_n 0, 1) := by decide +kernel
theorem dX13_formattedByte_20 : decode cX13_formattedByte 20 = .ok (.getfield 213, 3) := by decide +kernel
theorem dX13_formattedByte_23 : decode cX13_formattedByte 23 = .ok (.iload_n 1, 1) := by decide +kernel
theorem dX13_formattedByte_24 : decode cX13_formattedByte 24 = .ok (.iaload, 1) := by decide +kernel
theorem dX13_formattedByte_25 : decode cX13_formattedByte 25 = .ok (.goto 4, 3) := by decide +kernel
theorem dX13_formattedByte_28 : decode cX13_formattedByte 28 = .ok (.iconst (-1), 1) := by decide +kernel
theorem dX13_formattedByte_29 : decode cX13_formattedByte 29 = .ok (.ireturn, 1) := by decide +kernel
theorem dX13_emit_0 : decode cX13_emit 0 = .ok (.aload_n 0, 1) := by decide +kernel
theorem dX13_emit_1 : decode cX13_emit 1 = .ok (.getfield 490, 3) := by decide +kernel
theorem dX13_emit_4 : decode cX13_emit 4 = .ok (.ifCond .ne 23, 3) := by decide +kernel
theorem dX13_emit_7 : decode cX13_emit 7 = .ok (.aload_n 0, 1) := by decide +kernel
theorem dX13_emit_8 : decode cX13_emit 8 = .ok (.getfield 222, 3) := by decide +kernel
theorem dX13_emit_11 : decode cX13_emit 11 = .ok (.aload_n 0, 1) := by decide +kernel
theorem dX13_emit_12 : decode cX13_emit 12 = .ok (.getfield 651, 3) := by decide +kernel
theorem dX13_emit_15 : decode cX13_emit 15 = .ok (.iload_n 1, 1) := by decide +kernel
theorem dX13_emit_16 : decode cX13_emit 16 = .ok (.iastore, 1) := by decide +kernel
theorem dX13_emit_17 : decode cX13_emit 17 = .ok (.aload_n 0, 1) := by decide +kernel
theorem dX13_emit_18 : decode cX13_emit 18 = .ok (.dup, 1) := by decide +kernel
theorem dX13_emit_19 : decode cX13_emit 19 = .ok (.getfield 651, 3) := by decide +kernel
theorem dX13_emit_22 : decode cX13_emit 22 = .ok (.iconst 1, 1) := by decide +kernel
theorem dX13_emit_23 : decode cX13_emit 23 = .ok (.iadd, 1) := by decide +kernel
theorem dX13_emit_24 : decode cX13_emit 24 = .ok (.putfield 651, 3) := by decide +kernel
theorem dX13_emit_27 : decode cX13_emit 27 = .ok (.return_, 1) := by decide +kernel
theorem dX13_enter_0 : decode cX13_enter 0 = .ok (.aload_n 0, 1) := by decide +kernel
theorem dX13_enter_1 : decode cX13_enter 1 = .ok (.aload_n 0, 1) := by decide +kernel
theorem dX13_enter_2 : decode cX13_enter 2 = .ok (.getfield 493, 3) := by decide +kernel
theorem dX13_enter_5 : decode cX13_enter 5 = .ok (.bipush 6, 2) := by decide +kernel
theorem dX13_enter_7 : decode cX13_enter 7 = .ok (.if_icmp .ge 7, 3) := by decide +kernel
theorem dX13_enter_10 : decode cX13_enter 10 = .ok (.iconst 1, 1) := by decide +kernel
theorem dX13_enter_11 : decode cX13_enter 11 = .ok (.goto 4, 3) := by decide +kernel
theorem dX13_enter_14 : decode cX13_enter 14 = .ok (.iconst 0, 1) := by decide +kernel
theorem dX13_enter_15 : decode cX13_enter 15 = .ok (.iconst 3, 1) := by decide +kernel
theorem dX13_enter_16 : decode cX13_enter 16 = .ok (.invokevirtual 516, 3) := by decide +kernel
theorem dX13_enter_19 : decode cX13_enter 19 = .ok (.aload_n 0, 1) := by decide +kernel
theorem dX13_enter_20 : decode cX13_enter 20 = .ok (.dup, 1) := by decide +kernel
theorem dX13_enter_21 : decode cX13_enter 21 = .ok (.getfield 493, 3) := by decide +kernel
theorem dX13_enter_24 : decode cX13_enter 24 = .ok (.iconst 1, 1) := by decide +kernel
theorem dX13_enter_25 : decode cX13_enter 25 = .ok (.iadd, 1) := by decide +kernel
theorem dX13_enter_26 : decode cX13_enter 26 = .ok (.putfield 493, 3) := by decide +kernel
theorem dX13_enter_29 : decode cX13_enter 29 = .ok (.aload_n 0, 1) := by decide +kernel
theorem dX13_enter_30 : decode cX13_enter 30 = .ok (.invokevirtual 520, 3) := by decide +kernel
theorem dX13_enter_33 : decode cX13_enter 33 = .ok (.return_, 1) := by decide +kernel
theorem dX13_compileValue_0 : decode cX13_compileValue 0 = .ok (.aload_n 0, 1) := by decide +kernel
theorem dX13_compileValue_1 : decode cX13_compileValue 1 = .ok (.getfield 490, 3) := by decide +kernel
theorem dX13_compileValue_4 : decode cX13_compileValue 4 = .ok (.ifCond .ne 11, 3) := by decide +kernel
theorem dX13_compileValue_7 : decode cX13_compileValue 7 = .ok (.aload_n 0, 1) := by decide +kernel
theorem dX13_compileValue_8 : decode cX13_compileValue 8 = .ok (.getfield 481, 3) := by decide +kernel
theorem dX13_compileValue_11 : decode cX13_compileValue 11 = .ok (.iconst 2, 1) := by decide +kernel
theorem dX13_compileValue_12 : decode cX13_compileValue 12 = .ok (.if_icmp .ne 16, 3) := by decide +kernel
theorem dX13_compileValue_15 : decode cX13_compileValue 15 = .ok (.aload_n 0, 1) := by decide +kernel
theorem dX13_compileValue_16 : decode cX13_compileValue 16 = .ok (.aload_n 0, 1) := by decide +kernel
theorem dX13_compileValue_17 : decode cX13_compileValue 17 = .ok (.iconst 0, 1) := by decide +kernel
theorem dX13_compileValue_18 : decode cX13_compileValue 18 = .ok (.ldc_w 654, 3) := by decide +kernel
theorem dX13_compileValue_21 : decode cX13_compileValue 21 = .ok (.invokevirtual 546, 3) := by decide +kernel
theorem dX13_compileValue_24 : decode cX13_compileValue 24 = .ok (.invokevirtual 655, 3) := by decide +kernel
theorem dX13_compileValue_27 : decode cX13_compileValue 27 = .ok (.return_, 1) := by decide +kernel
theorem dX13_compileValue_28 : decode cX13_compileValue 28 = .ok (.aload_n 0, 1) := by decide +kernel
theorem dX13_compileValue_29 : decode cX13_compileValue 29 = .ok (.aload_n 0, 1) := by decide +kernel
theorem dX13_compileValue_30 : decode cX13_compileValue 30 = .ok (.getfield 216, 3) := by decide +kernel
theorem dX13_compileValue_33 : decode cX13_compileValue 33 = .ok (.invokevirtual 529, 3) := by decide +kernel
theorem dX13_compileValue_36 : decode cX13_compileValue 36 = .ok (.istore_n 1, 1) := by decide +kernel
theorem dX13_compileValue_37 : decode cX13_compileValue 37 = .ok (.aload_n 0, 1) := by decide +kernel
theorem dX13_compileValue_38 : decode cX13_compileValue 38 = .ok (.iload_n 1, 1) := by decide +kernel
theorem dX13_compileValue_39 : decode cX13_compileValue 39 = .ok (.iconst (-1), 1) := by decide +kernel
theorem dX13_compileValue_40 : decode cX13_compileValue 40 = .ok (.if_icmp .eq 7, 3) := by decide +kernel
theorem dX13_compileValue_43 : decode cX13_compileValue 43 = .ok (.iconst 1, 1) := by decide +kernel
theorem dX13_compileValue_44 : decode cX13_compileValue 44 = .ok (.goto 4, 3) := by decide +kernel
theorem dX13_compileValue_47 : decode cX13_compileValue 47 = .ok (.iconst 0, 1) := by decide +kernel
theorem dX13_compileValue_48 : decode cX13_compileValue 48 = .ok (.iconst 1, 1) := by decide +kernel
theorem dX13_compileValue_49 : decode cX13_compileValue 49 = .ok (.invokevirtual 516, 3) := by decide +kernel
theorem dX13_compileValue_52 : decode cX13_compileValue 52 = .ok (.aload_n 0, 1) := by decide +kernel
theorem dX13_compileValue_53 : decode cX13_compileValue 53 = .ok (.iconst (-1), 1) := by decide +kernel
theorem dX13_compileValue_54 : decode cX13_compileValue 54 = .ok (.iload_n 1, 1) := by decide +kernel
theorem dX13_compileValue_55 : decode cX13_compileValue 55 = .ok (.isub, 1) := by decide +kernel
theorem dX13_compileValue_56 : decode cX13_compileValue 56 = .ok (.invokevirtual 655, 3) := by decide +kernel
theorem dX13_compileValue_59 : decode cX13_compileValue 59 = .ok (.aload_n 0, 1) := by decide +kernel
theorem dX13_compileValue_60 : decode cX13_compileValue 60 = .ok (.invokevirtual 520, 3) := by decide +kernel
theorem dX13_compileValue_63 : decode cX13_compileValue 63 = .ok (.return_, 1) := by decide +kernel
theorem dX13_compileFactor_0 : decode cX13_compileFactor 0 = .ok (.aload_n 0, 1) := by decide +kernel
theorem dX13_compileFactor_1 : decode cX13_compileFactor 1 = .ok (.ldc 173, 2) := by decide +kernel
theorem dX13_compileFactor_3 : decode cX13_compileFactor 3 = .ok (.invokevirtual 512, 3) := by decide +kernel
theorem dX13_compileFactor_6 : decode cX13_compileFactor 6 = .ok (.ifCond .eq 37, 3) := by decide +kernel
theorem dX13_compileFactor_9 : decode cX13_compileFactor 9 = .ok (.aload_n 0, 1) := by decide +kernel
theorem dX13_compileFactor_10 : decode cX13_compileFactor 10 = .ok (.invokevirtual 658, 3) := by decide +kernel
theorem dX13_compileFactor_13 : decode cX13_compileFactor 13 = .ok (.aload_n 0, 1) := by decide +kernel
theorem dX13_compileFactor_14 : decode cX13_compileFactor 14 = .ok (.getfield 490, 3) := by decide +kernel
theorem dX13_compileFactor_17 : decode cX13_compileFactor 17 = .ok (.ifCond .ne 7, 3) := by decide +kernel
theorem dX13_compileFactor_20 : decode cX13_compileFactor 20 = .ok (.aload_n 0, 1) := by decide +kernel
theorem dX13_compileFactor_21 : decode cX13_compileFactor 21 = .ok (.invokevirtual 661, 3) := by decide +kernel
theorem dX13_compileFactor_24 : decode cX13_compileFactor 24 = .ok (.aload_n 0, 1) := by decide +kernel
theorem dX13_compileFactor_25 : decode cX13_compileFactor 25 = .ok (.bipush (-23), 2) := by decide +kernel
theorem dX13_compileFactor_27 : decode cX13_compileFactor 27 = .ok (.invokevirtual 655, 3) := by decide +kernel
theorem dX13_compileFactor_30 : decode cX13_compileFactor 30 = .ok (.aload_n 0, 1) := by decide +kernel
theorem dX13_compileFactor_31 : decode cX13_compileFactor 31 = .ok (.dup, 1) := by decide +kernel
theorem dX13_compileFactor_32 : decode cX13_compileFactor 32 = .ok (.getfield 493, 3) := by decide +kernel
theorem dX13_compileFactor_35 : decode cX13_compileFactor 35 = .ok (.iconst 1, 1) := by decide +kernel
theorem dX13_compileFactor_36 : decode cX13_compileFactor 36 = .ok (.isub, 1) := by decide +kernel
theorem dX13_compileFactor_37 : decode cX13_compileFactor 37 = .ok (.putfield 493, 3) := by decide +kernel
theorem dX13_compileFactor_40 : decode cX13_compileFactor 40 = .ok (.goto 119, 3) := by decide +kernel
theorem dX13_compileFactor_43 : decode cX13_compileFactor 43 = .ok (.aload_n 0, 1) := by decide +kernel
theorem dX13_compileFactor_44 : decode cX13_compileFactor 44 = .ok (.bipush 40, 2) := by decide +kernel
theorem dX13_compileFactor_46 : decode cX13_compileFactor 46 = .ok (.invokevirtual 523, 3) := by decide +kernel
theorem dX13_compileFactor_49 : decode cX13_compileFactor 49 = .ok (.ifCond .eq 37, 3) := by decide +kernel
theorem dX13_compileFactor_52 : decode cX13_compileFactor 52 = .ok (.aload_n 0, 1) := by decide +kernel
theorem dX13_compileFactor_53 : decode cX13_compileFactor 53 = .ok (.invokevirtual 658, 3) := by decide +kernel
theorem dX13_compileFactor_56 : decode cX13_compileFactor 56 = .ok (.aload_n 0, 1) := by decide +kernel
theorem dX13_compileFactor_57 : decode cX13_compileFactor 57 = .ok (.getfield 490, 3) := by decide +kernel
theorem dX13_compileFactor_60 : decode cX13_compileFactor 60 = .ok (.ifCond .ne 7, 3) := by decide +kernel
theorem dX13_compileFactor_63 : decode cX13_compileFactor 63 = .ok (.aload_n 0, 1) := by decide +kernel
theorem dX13_compileFactor_64 : decode cX13_compileFactor 64 = .ok (.invokevirtual 664, 3) := by decide +kernel
theorem dX13_compileFactor_67 : decode cX13_compileFactor 67 = .ok (.aload_n 0, 1) := by decide +kernel
theorem dX13_compileFactor_68 : decode cX13_compileFactor 68 = .ok (.bipush 41, 2) := by decide +kernel
theorem dX13_compileFactor_70 : decode cX13_compileFactor 70 = .ok (.invokevirtual 600, 3) := by decide +kernel
theorem dX13_compileFactor_73 : decode cX13_compileFactor 73 = .ok (.aload_n 0, 1) := by decide +kernel
theorem dX13_compileFactor_74 : decode cX13_compileFactor 74 = .ok (.dup, 1) := by decide +kernel
theorem dX13_compileFactor_75 : decode cX13_compileFactor 75 = .ok (.getfield 493, 3) := by decide +kernel
theorem dX13_compileFactor_78 : decode cX13_compileFactor 78 = .ok (.iconst 1, 1) := by decide +kernel
theorem dX13_compileFactor_79 : decode cX13_compileFactor 79 = .ok (.isub, 1) := by decide +kernel
theorem dX13_compileFactor_80 : decode cX13_compileFactor 80 = .ok (.putfield 493, 3) := by decide +kernel
theorem dX13_compileFactor_83 : decode cX13_compileFactor 83 = .ok (.goto 76, 3) := by decide +kernel
theorem dX13_compileFactor_86 : decode cX13_compileFactor 86 = .ok (.aload_n 0, 1) := by decide +kernel
theorem dX13_compileFactor_87 : decode cX13_compileFactor 87 = .ok (.invokevirtual 667, 3) := by decide +kernel
theorem dX13_compileFactor_90 : decode cX13_compileFactor 90 = .ok (.aload_n 0, 1) := by decide +kernel
theorem dX13_compileFactor_91 : decode cX13_compileFactor 91 = .ok (.bipush 60, 2) := by decide +kernel
theorem dX13_compileFactor_93 : decode cX13_compileFactor 93 = .ok (.invokevirtual 523, 3) := by decide +kernel
theorem dX13_compileFactor_96 : decode cX13_compileFactor 96 = .ok (.ifCond .eq 8, 3) := by decide +kernel
theorem dX13_compileFactor_99 : decode cX13_compileFactor 99 = .ok (.bipush (-20), 2) := by decide +kernel
theorem dX13_compileFactor_101 : decode cX13_compileFactor 101 = .ok (.goto 19, 3) := by decide +kernel
theorem dX13_compileFactor_104 : decode cX13_compileFactor 104 = .ok (.aload_n 0, 1) := by decide +kernel
theorem dX13_compileFactor_105 : decode cX13_compileFactor 105 = .ok (.bipush 61, 2) := by decide +kernel
theorem dX13_compileFactor_107 : decode cX13_compileFactor 107 = .ok (.invokevirtual 523, 3) := by decide +kernel
theorem dX13_compileFactor_110 : decode cX13_compileFactor 110 = .ok (.ifCond .eq 8, 3) := by decide +kernel
theorem dX13_compileFactor_113 : decode cX13_compileFactor 113 = .ok (.bipush (-21), 2) := by decide +kernel
theorem dX13_compileFactor_115 : decode cX13_compileFactor 115 = .ok (.goto 5, 3) := by decide +kernel
theorem dX13_compileFactor_118 : decode cX13_compileFactor 118 = .ok (.bipush (-22), 2) := by decide +kernel
theorem dX13_compileFactor_120 : decode cX13_compileFactor 120 = .ok (.istore_n 1, 1) := by decide +kernel
theorem dX13_compileFactor_121 : decode cX13_compileFactor 121 = .ok (.aload_n 0, 1) := by decide +kernel
theorem dX13_compileFactor_122 : decode cX13_compileFactor 122 = .ok (.iload_n 1, 1) := by decide +kernel
theorem dX13_compileFactor_123 : decode cX13_compileFactor 123 = .ok (.bipush (-22), 2) := by decide +kernel
theorem dX13_compileFactor_125 : decode cX13_compileFactor 125 = .ok (.if_icmp .ne 12, 3) := by decide +kernel
theorem dX13_compileFactor_128 : decode cX13_compileFactor 128 = .ok (.aload_n 0, 1) := by decide +kernel
theorem dX13_compileFactor_129 : decode cX13_compileFactor 129 = .ok (.bipush 62, 2) := by decide +kernel
theorem dX13_compileFactor_131 : decode cX13_compileFactor 131 = .ok (.invokevirtual 523, 3) := by decide +kernel
theorem dX13_compileFactor_134 : decode cX13_compileFactor 134 = .ok (.ifCond .eq 7, 3) := by decide +kernel
theorem dX13_compileFactor_137 : decode cX13_compileFactor 137 = .ok (.iconst 1, 1) := by decide +kernel
theorem dX13_compileFactor_138 : decode cX13_compileFactor 138 = .ok (.goto 4, 3) := by decide +kernel
theorem dX13_compileFactor_141 : decode cX13_compileFactor 141 = .ok (.iconst 0, 1) := by decide +kernel
theorem dX13_compileFactor_142 : decode cX13_compileFactor 142 = .ok (.iconst 1, 1) := by decide +kernel
theorem dX13_compileFactor_143 : decode cX13_compileFactor 143 = .ok (.invokevirtual 516, 3) := by decide +kernel
theorem dX13_compileFactor_146 : decode cX13_compileFactor 146 = .ok (.aload_n 0, 1) := by decide +kernel
theorem dX13_compileFactor_147 : decode cX13_compileFactor 147 = .ok (.invokevirtual 520, 3) := by decide +kernel
theorem dX13_compileFactor_150 : decode cX13_compileFactor 150 = .ok (.aload_n 0, 1) := by decide +kernel
theorem dX13_compileFactor_151 : decode cX13_compileFactor 151 = .ok (.invokevirtual 667, 3) := by decide +kernel
theorem dX13_compileFactor_154 : decode cX13_compileFactor 154 = .ok (.aload_n 0, 1) := by decide +kernel
theorem dX13_compileFactor_155 : decode cX13_compileFactor 155 = .ok (.iload_n 1, 1) := by decide +kernel
theorem dX13_compileFactor_156 : decode cX13_compileFactor 156 = .ok (.invokevirtual 655, 3) := by decide +kernel
theorem dX13_compileFactor_159 : decode cX13_compileFactor 159 = .ok (.return_, 1) := by decide +kernel
theorem dX13_compileConjunction_0 : decode cX13_compileConjunction 0 = .ok (.aload_n 0, 1) := by decide +kernel
theorem dX13_compileConjunction_1 : decode cX13_compileConjunction 1 = .ok (.invokevirtual 661, 3) := by decide +kernel
theorem dX13_compileConjunction_4 : decode cX13_compileConjunction 4 = .ok (.aload_n 0, 1) := by decide +kernel
theorem dX13_compileConjunction_5 : decode cX13_compileConjunction 5 = .ok (.ldc 183, 2) := by decide +kernel
theorem dX13_compileConjunction_7 : decode cX13_compileConjunction 7 = .ok (.invokevirtual 552, 3) := by decide +kernel
theorem dX13_compileConjunction_10 : decode cX13_compileConjunction 10 = .ok (.ifCond .eq 16, 3) := by decide +kernel
theorem dX13_compileConjunction_13 : decode cX13_compileConjunction 13 = .ok (.aload_n 0, 1) := by decide +kernel
theorem dX13_compileConjunction_14 : decode cX13_compileConjunction 14 = .ok (.invokevirtual 661, 3) := by decide +kernel
theorem dX13_compileConjunction_17 : decode cX13_compileConjunction 17 = .ok (.aload_n 0, 1) := by decide +kernel
theorem dX13_compileConjunction_18 : decode cX13_compileConjunction 18 = .ok (.bipush (-24), 2) := by decide +kernel
theorem dX13_compileConjunction_20 : decode cX13_compileConjunction 20 = .ok (.invokevirtual 655, 3) := by decide +kernel
theorem dX13_compileConjunction_23 : decode cX13_compileConjunction 23 = .ok (.goto (-19), 3) := by decide +kernel
theorem dX13_compileConjunction_26 : decode cX13_compileConjunction 26 = .ok (.return_, 1) := by decide +kernel
theorem dX13_compileTest_0 : decode cX13_compileTest 0 = .ok (.aload_n 0, 1) := by decide +kernel
theorem dX13_compileTest_1 : decode cX13_compileTest 1 = .ok (.invokevirtual 670, 3) := by decide +kernel
theorem dX13_compileTest_4 : decode cX13_compileTest 4 = .ok (.aload_n 0, 1) := by decide +kernel
theorem dX13_compileTest_5 : decode cX13_compileTest 5 = .ok (.ldc 181, 2) := by decide +kernel
theorem dX13_compileTest_7 : decode cX13_compileTest 7 = .ok (.invokevirtual 552, 3) := by decide +kernel
theorem dX13_compileTest_10 : decode cX13_compileTest 10 = .ok (.ifCond .eq 16, 3) := by decide +kernel
theorem dX13_compileTest_13 : decode cX13_compileTest 13 = .ok (.aload_n 0, 1) := by decide +kernel
theorem dX13_compileTest_14 : decode cX13_compileTest 14 = .ok (.invokevirtual 670, 3) := by decide +kernel
theorem dX13_compileTest_17 : decode cX13_compileTest 17 = .ok (.aload_n 0, 1) := by decide +kernel
theorem dX13_compileTest_18 : decode cX13_compileTest 18 = .ok (.bipush (-25), 2) := by decide +kernel
theorem dX13_compileTest_20 : decode cX13_compileTest 20 = .ok (.invokevirtual 655, 3) := by decide +kernel
theorem dX13_compileTest_23 : decode cX13_compileTest 23 = .ok (.goto (-19), 3) := by decide +kernel
theorem dX13_compileTest_26 : decode cX13_compileTest 26 = .ok (.return_, 1) := by decide +kernel
theorem dX13_operate_0 : decode cX13_operate 0 = .ok (.iload_n 0, 1) := by decide +kernel
theorem dX13_operate_1 : decode cX13_operate 1 = .ok (.tableswitch 72 (-24) (-20) #[68, 72, 57, 46, 35], 35) := by decide +kernel
theorem dX13_operate_36 : decode cX13_operate 36 = .ok (.iload_n 1, 1) := by decide +kernel
theorem dX13_operate_37 : decode cX13_operate 37 = .ok (.iload_n 2, 1) := by decide +kernel
theorem dX13_operate_38 : decode cX13_operate 38 = .ok (.if_icmp .ge 7, 3) := by decide +kernel
theorem dX13_operate_41 : decode cX13_operate 41 = .ok (.iconst 1, 1) := by decide +kernel
theorem dX13_operate_42 : decode cX13_operate 42 = .ok (.goto 4, 3) := by decide +kernel
theorem dX13_operate_45 : decode cX13_operate 45 = .ok (.iconst 0, 1) := by decide +kernel
theorem dX13_operate_46 : decode cX13_operate 46 = .ok (.ireturn, 1) := by decide +kernel
theorem dX13_operate_47 : decode cX13_operate 47 = .ok (.iload_n 1, 1) := by decide +kernel
theorem dX13_operate_48 : decode cX13_operate 48 = .ok (.iload_n 2, 1) := by decide +kernel
theorem dX13_operate_49 : decode cX13_operate 49 = .ok (.if_icmp .ne 7, 3) := by decide +kernel
theorem dX13_operate_52 : decode cX13_operate 52 = .ok (.iconst 1, 1) := by decide +kernel
theorem dX13_operate_53 : decode cX13_operate 53 = .ok (.goto 4, 3) := by decide +kernel
theorem dX13_operate_56 : decode cX13_operate 56 = .ok (.iconst 0, 1) := by decide +kernel
theorem dX13_operate_57 : decode cX13_operate 57 = .ok (.ireturn, 1) := by decide +kernel
theorem dX13_operate_58 : decode cX13_operate 58 = .ok (.iload_n 1, 1) := by decide +kernel
theorem dX13_operate_59 : decode cX13_operate 59 = .ok (.iload_n 2, 1) := by decide +kernel
theorem dX13_operate_60 : decode cX13_operate 60 = .ok (.if_icmp .le 7, 3) := by decide +kernel
theorem dX13_operate_63 : decode cX13_operate 63 = .ok (.iconst 1, 1) := by decide +kernel
theorem dX13_operate_64 : decode cX13_operate 64 = .ok (.goto 4, 3) := by decide +kernel
theorem dX13_operate_67 : decode cX13_operate 67 = .ok (.iconst 0, 1) := by decide +kernel
theorem dX13_operate_68 : decode cX13_operate 68 = .ok (.ireturn, 1) := by decide +kernel
theorem dX13_operate_69 : decode cX13_operate 69 = .ok (.iload_n 1, 1) := by decide +kernel
theorem dX13_operate_70 : decode cX13_operate 70 = .ok (.iload_n 2, 1) := by decide +kernel
theorem dX13_operate_71 : decode cX13_operate 71 = .ok (.iand, 1) := by decide +kernel
theorem dX13_operate_72 : decode cX13_operate 72 = .ok (.ireturn, 1) := by decide +kernel
theorem dX13_operate_73 : decode cX13_operate 73 = .ok (.iload_n 1, 1) := by decide +kernel
theorem dX13_operate_74 : decode cX13_operate 74 = .ok (.iload_n 2, 1) := by decide +kernel
theorem dX13_operate_75 : decode cX13_operate 75 = .ok (.ior, 1) := by decide +kernel
theorem dX13_operate_76 : decode cX13_operate 76 = .ok (.ireturn, 1) := by decide +kernel
theorem dX13_property_0 : decode cX13_property 0 = .ok (.iload_n 2, 1) := by decide +kernel
theorem dX13_property_1 : decode cX13_property 1 = .ok (.ifCond .ne 7, 3) := by decide +kernel
theorem dX13_property_4 : decode cX13_property 4 = .ok (.iload_n 1, 1) := by decide +kernel
theorem dX13_property_5 : decode cX13_property 5 = .ok (.goto 14, 3) := by decide +kernel
theorem dX13_property_8 : decode cX13_property 8 = .ok (.aload_n 0, 1) := by decide +kernel
theorem dX13_property_9 : decode cX13_property 9 = .ok (.iload_n 1, 1) := by decide +kernel
theorem dX13_property_10 : decode cX13_property 10 = .ok (.aload_n 0, 1) := by decide +kernel
theorem dX13_property_11 : decode cX13_property 11 = .ok (.getfield 219, 3) := by decide +kernel
theorem dX13_property_14 : decode cX13_property 14 = .ok (.iload_n 2, 1) := by decide +kernel
theorem dX13_property_15 : decode cX13_property 15 = .ok (.iaload, 1) := by decide +kernel
theorem dX13_property_16 : decode cX13_property 16 = .ok (.invokevirtual 238, 3) := by decide +kernel
theorem dX13_property_19 : decode cX13_property 19 = .ok (.ireturn, 1) := by decide +kernel
theorem dX13_holdsFor_0 : decode cX13_holdsFor 0 = .ok (.iconst 0, 1) := by decide +kernel
theorem dX13_holdsFor_1 : decode cX13_holdsFor 1 = .ok (.istore_n 2, 1) := by decide +kernel
theorem dX13_holdsFor_2 : decode cX13_holdsFor 2 = .ok (.iconst 0, 1) := by decide +kernel
theorem dX13_holdsFor_3 : decode cX13_holdsFor 3 = .ok (.istore_n 3, 1) := by decide +kernel
theorem dX13_holdsFor_4 : decode cX13_holdsFor 4 = .ok (.iload_n 3, 1) := by decide +kernel
theorem dX13_holdsFor_5 : decode cX13_holdsFor 5 = .ok (.aload_n 0, 1) := by decide +kernel
theorem dX13_holdsFor_6 : decode cX13_holdsFor 6 = .ok (.getfield 651, 3) := by decide +kernel
theorem dX13_holdsFor_9 : decode cX13_holdsFor 9 = .ok (.if_icmp .ge 113, 3) := by decide +kernel
theorem dX13_holdsFor_12 : decode cX13_holdsFor 12 = .ok (.aload_n 0, 1) := by decide +kernel
theorem dX13_holdsFor_13 : decode cX13_holdsFor 13 = .ok (.getfield 222, 3) := by decide +kernel
theorem dX13_holdsFor_16 : decode cX13_holdsFor 16 = .ok (.iload_n 3, 1) := by decide +kernel
theorem dX13_holdsFor_17 : decode cX13_holdsFor 17 = .ok (.iaload, 1) := by decide +kernel
theorem dX13_holdsFor_18 : decode cX13_holdsFor 18 = .ok (.istore 4, 2) := by decide +kernel
theorem dX13_holdsFor_20 : decode cX13_holdsFor 20 = .ok (.iload 4, 2) := by decide +kernel
theorem dX13_holdsFor_22 : decode cX13_holdsFor 22 = .ok (.bipush (-23), 2) := by decide +kernel
theorem dX13_holdsFor_24 : decode cX13_holdsFor 24 = .ok (.if_icmp .ne 24, 3) := by decide +kernel
theorem dX13_holdsFor_27 : decode cX13_holdsFor 27 = .ok (.aload_n 0, 1) := by decide +kernel
theorem dX13_holdsFor_28 : decode cX13_holdsFor 28 = .ok (.getfield 225, 3) := by decide +kernel
theorem dX13_holdsFor_31 : decode cX13_holdsFor 31 = .ok (.iload_n 2, 1) := by decide +kernel
theorem dX13_holdsFor_32 : decode cX13_holdsFor 32 = .ok (.iconst 1, 1) := by decide +kernel
theorem dX13_holdsFor_33 : decode cX13_holdsFor 33 = .ok (.isub, 1) := by decide +kernel
theorem dX13_holdsFor_34 : decode cX13_holdsFor 34 = .ok (.iconst 1, 1) := by decide +kernel
theorem dX13_holdsFor_35 : decode cX13_holdsFor 35 = .ok (.aload_n 0, 1) := by decide +kernel
theorem dX13_holdsFor_36 : decode cX13_holdsFor 36 = .ok (.getfield 225, 3) := by decide +kernel
theorem dX13_holdsFor_39 : decode cX13_holdsFor 39 = .ok (.iload_n 2, 1) := by decide +kernel
theorem dX13_holdsFor_40 : decode cX13_holdsFor 40 = .ok (.iconst 1, 1) := by decide +kernel
theorem dX13_holdsFor_41 : decode cX13_holdsFor 41 = .ok (.isub, 1) := by decide +kernel
theorem dX13_holdsFor_42 : decode cX13_holdsFor 42 = .ok (.iaload, 1) := by decide +kernel
theorem dX13_holdsFor_43 : decode cX13_holdsFor 43 = .ok (.isub, 1) := by decide +kernel
theorem dX13_holdsFor_44 : decode cX13_holdsFor 44 = .ok (.iastore, 1) := by decide +kernel
theorem dX13_holdsFor_45 : decode cX13_holdsFor 45 = .ok (.goto 71, 3) := by decide +kernel
theorem dX13_holdsFor_48 : decode cX13_holdsFor 48 = .ok (.iload 4, 2) := by decide +kernel
theorem dX13_holdsFor_50 : decode cX13_holdsFor 50 = .ok (.bipush (-20), 2) := by decide +kernel
theorem dX13_holdsFor_52 : decode cX13_holdsFor 52 = .ok (.if_icmp .le 34, 3) := by decide +kernel
theorem dX13_holdsFor_55 : decode cX13_holdsFor 55 = .ok (.aload_n 0, 1) := by decide +kernel
theorem dX13_holdsFor_56 : decode cX13_holdsFor 56 = .ok (.getfield 225, 3) := by decide +kernel
theorem dX13_holdsFor_59 : decode cX13_holdsFor 59 = .ok (.iload_n 2, 1) := by decide +kernel
theorem dX13_holdsFor_60 : decode cX13_holdsFor 60 = .ok (.iload 4, 2) := by decide +kernel
theorem dX13_holdsFor_62 : decode cX13_holdsFor 62 = .ok (.ifCond .lt 8, 3) := by decide +kernel
theorem dX13_holdsFor_65 : decode cX13_holdsFor 65 = .ok (.iload 4, 2) := by decide +kernel
theorem dX13_holdsFor_67 : decode cX13_holdsFor 67 = .ok (.goto 12, 3) := by decide +kernel
theorem dX13_holdsFor_70 : decode cX13_holdsFor 70 = .ok (.aload_n 0, 1) := by decide +kernel
theorem dX13_holdsFor_71 : decode cX13_holdsFor 71 = .ok (.iload_n 1, 1) := by decide +kernel
theorem dX13_holdsFor_72 : decode cX13_holdsFor 72 = .ok (.iconst (-1), 1) := by decide +kernel
theorem dX13_holdsFor_73 : decode cX13_holdsFor 73 = .ok (.iload 4, 2) := by decide +kernel
theorem dX13_holdsFor_75 : decode cX13_holdsFor 75 = .ok (.isub, 1) := by decide +kernel
theorem dX13_holdsFor_76 : decode cX13_holdsFor 76 = .ok (.invokevirtual 673, 3) := by decide +kernel
theorem dX13_holdsFor_79 : decode cX13_holdsFor 79 = .ok (.iastore, 1) := by decide +kernel
theorem dX13_holdsFor_80 : decode cX13_holdsFor 80 = .ok (.iinc 2 1, 3) := by decide +kernel
theorem dX13_holdsFor_83 : decode cX13_holdsFor 83 = .ok (.goto 33, 3) := by decide +kernel
theorem dX13_holdsFor_86 : decode cX13_holdsFor 86 = .ok (.iinc 2 (-1), 3) := by decide +kernel
theorem dX13_holdsFor_89 : decode cX13_holdsFor 89 = .ok (.aload_n 0, 1) := by decide +kernel
theorem dX13_holdsFor_90 : decode cX13_holdsFor 90 = .ok (.getfield 225, 3) := by decide +kernel
theorem dX13_holdsFor_93 : decode cX13_holdsFor 93 = .ok (.iload_n 2, 1) := by decide +kernel
theorem dX13_holdsFor_94 : decode cX13_holdsFor 94 = .ok (.iconst 1, 1) := by decide +kernel
theorem dX13_holdsFor_95 : decode cX13_holdsFor 95 = .ok (.isub, 1) := by decide +kernel
theorem dX13_holdsFor_96 : decode cX13_holdsFor 96 = .ok (.iload 4, 2) := by decide +kernel
theorem dX13_holdsFor_98 : decode cX13_holdsFor 98 = .ok (.aload_n 0, 1) := by decide +kernel
theorem dX13_holdsFor_99 : decode cX13_holdsFor 99 = .ok (.getfield 225, 3) := by decide +kernel
theorem dX13_holdsFor_102 : decode cX13_holdsFor 102 = .ok (.iload_n 2, 1) := by decide +kernel
theorem dX13_holdsFor_103 : decode cX13_holdsFor 103 = .ok (.iconst 1, 1) := by decide +kernel
theorem dX13_holdsFor_104 : decode cX13_holdsFor 104 = .ok (.isub, 1) := by decide +kernel
theorem dX13_holdsFor_105 : decode cX13_holdsFor 105 = .ok (.iaload, 1) := by decide +kernel
theorem dX13_holdsFor_106 : decode cX13_holdsFor 106 = .ok (.aload_n 0, 1) := by decide +kernel
theorem dX13_holdsFor_107 : decode cX13_holdsFor 107 = .ok (.getfield 225, 3) := by decide +kernel
theorem dX13_holdsFor_110 : decode cX13_holdsFor 110 = .ok (.iload_n 2, 1) := by decide +kernel
theorem dX13_holdsFor_111 : decode cX13_holdsFor 111 = .ok (.iaload, 1) := by decide +kernel
theorem dX13_holdsFor_112 : decode cX13_holdsFor 112 = .ok (.invokestatic 676, 3) := by decide +kernel
theorem dX13_holdsFor_115 : decode cX13_holdsFor 115 = .ok (.iastore, 1) := by decide +kernel
theorem dX13_holdsFor_116 : decode cX13_holdsFor 116 = .ok (.iinc 3 1, 3) := by decide +kernel
theorem dX13_holdsFor_119 : decode cX13_holdsFor 119 = .ok (.goto (-115), 3) := by decide +kernel
theorem dX13_holdsFor_122 : decode cX13_holdsFor 122 = .ok (.aload_n 0, 1) := by decide +kernel
theorem dX13_holdsFor_123 : decode cX13_holdsFor 123 = .ok (.getfield 225, 3) := by decide +kernel
theorem dX13_holdsFor_126 : decode cX13_holdsFor 126 = .ok (.iconst 0, 1) := by decide +kernel
theorem dX13_holdsFor_127 : decode cX13_holdsFor 127 = .ok (.iaload, 1) := by decide +kernel
theorem dX13_holdsFor_128 : decode cX13_holdsFor 128 = .ok (.iconst 1, 1) := by decide +kernel
theorem dX13_holdsFor_129 : decode cX13_holdsFor 129 = .ok (.if_icmp .ne 7, 3) := by decide +kernel
theorem dX13_holdsFor_132 : decode cX13_holdsFor 132 = .ok (.iconst 1, 1) := by decide +kernel
theorem dX13_holdsFor_133 : decode cX13_holdsFor 133 = .ok (.goto 4, 3) := by decide +kernel
theorem dX13_holdsFor_136 : decode cX13_holdsFor 136 = .ok (.iconst 0, 1) := by decide +kernel
theorem dX13_holdsFor_137 : decode cX13_holdsFor 137 = .ok (.ireturn, 1) := by decide +kernel
theorem dX13_query_0 : decode cX13_query 0 = .ok (.aload_n 0, 1) := by decide +kernel
theorem dX13_query_1 : decode cX13_query 1 = .ok (.iconst 0, 1) := by decide +kernel
theorem dX13_query_2 : decode cX13_query 2 = .ok (.putfield 231, 3) := by decide +kernel
theorem dX13_query_5 : decode cX13_query 5 = .ok (.iload_n 1, 1) := by decide +kernel
theorem dX13_query_6 : decode cX13_query 6 = .ok (.iconst 0, 1) := by decide +kernel
theorem dX13_query_7 : decode cX13_query 7 = .ok (.aload_n 0, 1) := by decide +kernel
theorem dX13_query_8 : decode cX13_query 8 = .ok (.getfield 466, 3) := by decide +kernel
theorem dX13_query_11 : decode cX13_query 11 = .ok (.sipush 200, 3) := by decide +kernel
theorem dX13_query_14 : decode cX13_query 14 = .ok (.invokestatic 387, 3) := by decide +kernel
theorem dX13_query_17 : decode cX13_query 17 = .ok (.invokestatic 245, 3) := by decide +kernel
theorem dX13_query_20 : decode cX13_query 20 = .ok (.ifCond .ne 9, 3) := by decide +kernel
theorem dX13_query_23 : decode cX13_query 23 = .ok (.aload_n 0, 1) := by decide +kernel
theorem dX13_query_24 : decode cX13_query 24 = .ok (.iconst 1, 1) := by decide +kernel
theorem dX13_query_25 : decode cX13_query 25 = .ok (.invokevirtual 259, 3) := by decide +kernel
theorem dX13_query_28 : decode cX13_query 28 = .ok (.ireturn, 1) := by decide +kernel
theorem dX13_query_29 : decode cX13_query 29 = .ok (.aload_n 0, 1) := by decide +kernel
theorem dX13_query_30 : decode cX13_query 30 = .ok (.iconst 0, 1) := by decide +kernel
theorem dX13_query_31 : decode cX13_query 31 = .ok (.putfield 651, 3) := by decide +kernel
theorem dX13_query_34 : decode cX13_query 34 = .ok (.aload_n 0, 1) := by decide +kernel
theorem dX13_query_35 : decode cX13_query 35 = .ok (.iload_n 1, 1) := by decide +kernel
theorem dX13_query_36 : decode cX13_query 36 = .ok (.invokevirtual 618, 3) := by decide +kernel
theorem dX13_query_39 : decode cX13_query 39 = .ok (.aload_n 0, 1) := by decide +kernel
theorem dX13_query_40 : decode cX13_query 40 = .ok (.ldc 179, 2) := by decide +kernel
theorem dX13_query_42 : decode cX13_query 42 = .ok (.invokevirtual 512, 3) := by decide +kernel
theorem dX13_query_45 : decode cX13_query 45 = .ok (.istore_n 2, 1) := by decide +kernel
theorem dX13_query_46 : decode cX13_query 46 = .ok (.aload_n 0, 1) := by decide +kernel
theorem dX13_query_47 : decode cX13_query 47 = .ok (.iload_n 2, 1) := by decide +kernel
theorem dX13_query_48 : decode cX13_query 48 = .ok (.ifCond .ne 12, 3) := by decide +kernel
theorem dX13_query_51 : decode cX13_query 51 = .ok (.aload_n 0, 1) := by decide +kernel
theorem dX13_query_52 : decode cX13_query 52 = .ok (.ldc 177, 2) := by decide +kernel
theorem dX13_query_54 : decode cX13_query 54 = .ok (.invokevirtual 512, 3) := by decide +kernel
theorem dX13_query_57 : decode cX13_query 57 = .ok (.ifCond .eq 7, 3) := by decide +kernel
theorem dX13_query_60 : decode cX13_query 60 = .ok (.iconst 1, 1) := by decide +kernel
theorem dX13_query_61 : decode cX13_query 61 = .ok (.goto 4, 3) := by decide +kernel
theorem dX13_query_64 : decode cX13_query 64 = .ok (.iconst 0, 1) := by decide +kernel
theorem dX13_query_65 : decode cX13_query 65 = .ok (.iconst 1, 1) := by decide +kernel
theorem dX13_query_66 : decode cX13_query 66 = .ok (.invokevirtual 516, 3) := by decide +kernel
theorem dX13_query_69 : decode cX13_query 69 = .ok (.aload_n 0, 1) := by decide +kernel
theorem dX13_query_70 : decode cX13_query 70 = .ok (.invokevirtual 520, 3) := by decide +kernel
theorem dX13_query_73 : decode cX13_query 73 = .ok (.aload_n 0, 1) := by decide +kernel
theorem dX13_query_74 : decode cX13_query 74 = .ok (.invokevirtual 664, 3) := by decide +kernel
theorem dX13_query_77 : decode cX13_query 77 = .ok (.aload_n 0, 1) := by decide +kernel
theorem dX13_query_78 : decode cX13_query 78 = .ok (.aload_n 0, 1) := by decide +kernel
theorem dX13_query_79 : decode cX13_query 79 = .ok (.getfield 490, 3) := by decide +kernel
theorem dX13_query_82 : decode cX13_query 82 = .ok (.ifCond .ne 10, 3) := by decide +kernel
theorem dX13_query_85 : decode cX13_query 85 = .ok (.aload_n 0, 1) := by decide +kernel
theorem dX13_query_86 : decode cX13_query 86 = .ok (.getfield 481, 3) := by decide +kernel
theorem dX13_query_89 : decode cX13_query 89 = .ok (.ifCond .ne 7, 3) := by decide +kernel
theorem dX13_query_92 : decode cX13_query 92 = .ok (.iconst 1, 1) := by decide +kernel
theorem dX13_query_93 : decode cX13_query 93 = .ok (.goto 4, 3) := by decide +kernel
theorem dX13_query_96 : decode cX13_query 96 = .ok (.iconst 0, 1) := by decide +kernel
theorem dX13_query_97 : decode cX13_query 97 = .ok (.iconst 1, 1) := by decide +kernel
theorem dX13_query_98 : decode cX13_query 98 = .ok (.invokevirtual 516, 3) := by decide +kernel
theorem dX13_query_101 : decode cX13_query 101 = .ok (.aload_n 0, 1) := by decide +kernel
theorem dX13_query_102 : decode cX13_query 102 = .ok (.invokevirtual 627, 3) := by decide +kernel
theorem dX13_query_105 : decode cX13_query 105 = .ok (.ifCond .eq 12, 3) := by decide +kernel
theorem dX13_query_108 : decode cX13_query 108 = .ok (.ldc_w 679, 3) := by decide +kernel
theorem dX13_query_111 : decode cX13_query 111 = .ok (.aload_n 0, 1) := by decide +kernel
theorem dX13_query_112 : decode cX13_query 112 = .ok (.getfield 490, 3) := by decide +kernel
theorem dX13_query_115 : decode cX13_query 115 = .ok (.isub, 1) := by decide +kernel
theorem dX13_query_116 : decode cX13_query 116 = .ok (.ireturn, 1) := by decide +kernel
theorem dX13_query_117 : decode cX13_query 117 = .ok (.iconst 0, 1) := by decide +kernel
theorem dX13_query_118 : decode cX13_query 118 = .ok (.istore_n 3, 1) := by decide +kernel
theorem dX13_query_119 : decode cX13_query 119 = .ok (.iconst 0, 1) := by decide +kernel
theorem dX13_query_120 : decode cX13_query 120 = .ok (.istore 4, 2) := by decide +kernel
theorem dX13_query_122 : decode cX13_query 122 = .ok (.iload 4, 2) := by decide +kernel
theorem dX13_query_124 : decode cX13_query 124 = .ok (.iconst 4, 1) := by decide +kernel
theorem dX13_query_125 : decode cX13_query 125 = .ok (.if_icmp .ge 41, 3) := by decide +kernel
theorem dX13_query_128 : decode cX13_query 128 = .ok (.aload_n 0, 1) := by decide +kernel
theorem dX13_query_129 : decode cX13_query 129 = .ok (.iload 4, 2) := by decide +kernel
theorem dX13_query_131 : decode cX13_query 131 = .ok (.iconst 0, 1) := by decide +kernel
theorem dX13_query_132 : decode cX13_query 132 = .ok (.invokevirtual 249, 3) := by decide +kernel
theorem dX13_query_135 : decode cX13_query 135 = .ok (.ifCond .eq 25, 3) := by decide +kernel
theorem dX13_query_138 : decode cX13_query 138 = .ok (.aload_n 0, 1) := by decide +kernel
theorem dX13_query_139 : decode cX13_query 139 = .ok (.iload 4, 2) := by decide +kernel
theorem dX13_query_141 : decode cX13_query 141 = .ok (.invokevirtual 680, 3) := by decide +kernel
theorem dX13_query_144 : decode cX13_query 144 = .ok (.ifCond .ne 6, 3) := by decide +kernel
theorem dX13_query_147 : decode cX13_query 147 = .ok (.goto 13, 3) := by decide +kernel
theorem dX13_query_150 : decode cX13_query 150 = .ok (.iload_n 2, 1) := by decide +kernel
theorem dX13_query_151 : decode cX13_query 151 = .ok (.ifCond .eq 6, 3) := by decide +kernel
theorem dX13_query_154 : decode cX13_query 154 = .ok (.iload 4, 2) := by decide +kernel
theorem dX13_query_156 : decode cX13_query 156 = .ok (.ireturn, 1) := by decide +kernel
theorem dX13_query_157 : decode cX13_query 157 = .ok (.iinc 3 1, 3) := by decide +kernel
theorem dX13_query_160 : decode cX13_query 160 = .ok (.iinc 4 1, 3) := by decide +kernel
theorem dX13_query_163 : decode cX13_query 163 = .ok (.goto (-41), 3) := by decide +kernel
theorem dX13_query_166 : decode cX13_query 166 = .ok (.iload_n 2, 1) := by decide +kernel
theorem dX13_query_167 : decode cX13_query 167 = .ok (.ifCond .eq 7, 3) := by decide +kernel
theorem dX13_query_170 : decode cX13_query 170 = .ok (.iconst (-1), 1) := by decide +kernel
theorem dX13_query_171 : decode cX13_query 171 = .ok (.goto 4, 3) := by decide +kernel
theorem dX13_query_174 : decode cX13_query 174 = .ok (.iload_n 3, 1) := by decide +kernel
theorem dX13_query_175 : decode cX13_query 175 = .ok (.ireturn, 1) := by decide +kernel
theorem dJ5_init_d00df_0 : decode cJ5_init_d00df 0 = .ok (.aload_n 0, 1) := by decide +kernel
theorem dJ5_init_d00df_1 : decode cJ5_init_d00df 1 = .ok (.invokespecial 3, 3) := by decide +kernel
theorem dJ5_init_d00df_4 : decode cJ5_init_d00df 4 = .ok (.getstatic 18, 3) := by decide +kernel
theorem dJ5_init_d00df_7 : decode cJ5_init_d00df 7 = .ok (.ifCond .eq 18, 3) := by decide +kernel
theorem dJ5_init_d00df_10 : decode cJ5_init_d00df 10 = .ok (.aload_n 0, 1) := by decide +kernel
theorem dJ5_init_d00df_11 : decode cJ5_init_d00df 11 = .ok (.iload_n 1, 1) := by decide +kernel
theorem dJ5_init_d00df_12 : decode cJ5_init_d00df 12 = .ok (.newarray .byte, 2) := by decide +kernel
theorem dJ5_init_d00df_14 : decode cJ5_init_d00df 14 = .ok (.putfield 15, 3) := by decide +kernel
theorem dJ5_init_d00df_17 : decode cJ5_init_d00df 17 = .ok (.aload_n 0, 1) := by decide +kernel
theorem dJ5_init_d00df_18 : decode cJ5_init_d00df 18 = .ok (.iconst 0, 1) := by decide +kernel
theorem dJ5_init_d00df_19 : decode cJ5_init_d00df 19 = .ok (.putfield 22, 3) := by decide +kernel
theorem dJ5_init_d00df_22 : decode cJ5_init_d00df 22 = .ok (.goto 16, 3) := by decide +kernel
theorem dJ5_init_d00df_25 : decode cJ5_init_d00df 25 = .ok (.aload_n 0, 1) := by decide +kernel
theorem dJ5_init_d00df_26 : decode cJ5_init_d00df 26 = .ok (.iload_n 1, 1) := by decide +kernel
theorem dJ5_init_d00df_27 : decode cJ5_init_d00df 27 = .ok (.invokestatic 26, 3) := by decide +kernel
theorem dJ5_init_d00df_30 : decode cJ5_init_d00df 30 = .ok (.putfield 15, 3) := by decide +kernel
theorem dJ5_init_d00df_33 : decode cJ5_init_d00df 33 = .ok (.aload_n 0, 1) := by decide +kernel
theorem dJ5_init_d00df_34 : decode cJ5_init_d00df 34 = .ok (.iconst 1, 1) := by decide +kernel
theorem dJ5_init_d00df_35 : decode cJ5_init_d00df 35 = .ok (.putfield 22, 3) := by decide +kernel
theorem dJ5_init_d00df_38 : decode cJ5_init_d00df 38 = .ok (.return_, 1) := by decide +kernel
theorem dJ5_length_8abf5_0 : decode cJ5_length_8abf5 0 = .ok (.aload_n 0, 1) := by decide +kernel
theorem dJ5_length_8abf5_1 : decode cJ5_length_8abf5 1 = .ok (.getfield 79, 3) := by decide +kernel
theorem dJ5_length_8abf5_4 : decode cJ5_length_8abf5 4 = .ok (.ireturn, 1) := by decide +kernel
theorem dJ5_ensureCapacityInternal_d00df_0 : decode cJ5_ensureCapacityInternal_d00df 0 = .ok (.aload_n 0, 1) := by decide +kernel
theorem dJ5_ensureCapacityInternal_d00df_1 : decode cJ5_ensureCapacityInternal_d00df 1 = .ok (.getfield 15, 3) := by decide +kernel
theorem dJ5_ensureCapacityInternal_d00df_4 : decode cJ5_ensureCapacityInternal_d00df 4 = .ok (.arraylength, 1) := by decide +kernel
theorem dJ5_ensureCapacityInternal_d00df_5 : decode cJ5_ensureCapacityInternal_d00df 5 = .ok (.aload_n 0, 1) := by decide +kernel
theorem dJ5_ensureCapacityInternal_d00df_6 : decode cJ5_ensureCapacityInternal_d00df 6 = .ok (.getfield 22, 3) := by decide +kernel
theorem dJ5_ensureCapacityInternal_d00df_9 : decode cJ5_ensureCapacityInternal_d00df 9 = .ok (.ishr, 1) := by decide +kernel
theorem dJ5_ensureCapacityInternal_d00df_10 : decode cJ5_ensureCapacityInternal_d00df 10 = .ok (.istore_n 2, 1) := by decide +kernel
theorem dJ5_ensureCapacityInternal_d00df_11 : decode cJ5_ensureCapacityInternal_d00df 11 = .ok (.iload_n 1, 1) := by decide +kernel
theorem dJ5_ensureCapacityInternal_d00df_12 : decode cJ5_ensureCapacityInternal_d00df 12 = .ok (.iload_n 2, 1) := by decide +kernel
theorem dJ5_ensureCapacityInternal_d00df_13 : decode cJ5_ensureCapacityInternal_d00df 13 = .ok (.isub, 1) := by decide +kernel
theorem dJ5_ensureCapacityInternal_d00df_14 : decode cJ5_ensureCapacityInternal_d00df 14 = .ok (.ifCond .le 24, 3) := by decide +kernel
theorem dJ5_ensureCapacityInternal_d00df_17 : decode cJ5_ensureCapacityInternal_d00df 17 = .ok (.aload_n 0, 1) := by decide +kernel
theorem dJ5_ensureCapacityInternal_d00df_18 : decode cJ5_ensureCapacityInternal_d00df 18 = .ok (.aload_n 0, 1) := by decide +kernel
theorem dJ5_ensureCapacityInternal_d00df_19 : decode cJ5_ensureCapacityInternal_d00df 19 = .ok (.getfield 15, 3) := by decide +kernel
theorem dJ5_ensureCapacityInternal_d00df_22 : decode cJ5_ensureCapacityInternal_d00df 22 = .ok (.aload_n 0, 1) := by decide +kernel
theorem dJ5_ensureCapacityInternal_d00df_23 : decode cJ5_ensureCapacityInternal_d00df 23 = .ok (.iload_n 1, 1) := by decide +kernel
theorem dJ5_ensureCapacityInternal_d00df_24 : decode cJ5_ensureCapacityInternal_d00df 24 = .ok (.invokevirtual 104, 3) := by decide +kernel
theorem dJ5_ensureCapacityInternal_d00df_27 : decode cJ5_ensureCapacityInternal_d00df 27 = .ok (.aload_n 0, 1) := by decide +kernel
theorem dJ5_ensureCapacityInternal_d00df_28 : decode cJ5_ensureCapacityInternal_d00df 28 = .ok (.getfield 22, 3) := by decide +kernel
theorem dJ5_ensureCapacityInternal_d00df_31 : decode cJ5_ensureCapacityInternal_d00df 31 = .ok (.ishl, 1) := by decide +kernel
theorem dJ5_ensureCapacityInternal_d00df_32 : decode cJ5_ensureCapacityInternal_d00df 32 = .ok (.invokestatic 108, 3) := by decide +kernel
theorem dJ5_ensureCapacityInternal_d00df_35 : decode cJ5_ensureCapacityInternal_d00df 35 = .ok (.putfield 15, 3) := by decide +kernel
theorem dJ5_ensureCapacityInternal_d00df_38 : decode cJ5_ensureCapacityInternal_d00df 38 = .ok (.return_, 1) := by decide +kernel
theorem dJ5_newCapacity_0f7a4_0 : decode cJ5_newCapacity_0f7a4 0 = .ok (.aload_n 0, 1) := by decide +kernel
theorem dJ5_newCapacity_0f7a4_1 : decode cJ5_newCapacity_0f7a4 1 = .ok (.getfield 15, 3) := by decide +kernel
theorem dJ5_newCapacity_0f7a4_4 : decode cJ5_newCapacity_0f7a4 4 = .ok (.arraylength, 1) := by decide +kernel
theorem dJ5_newCapacity_0f7a4_5 : decode cJ5_newCapacity_0f7a4 5 = .ok (.istore_n 2, 1) := by decide +kernel
theorem dJ5_newCapacity_0f7a4_6 : decode cJ5_newCapacity_0f7a4 6 = .ok (.iload_n 1, 1) := by decide +kernel
theorem dJ5_newCapacity_0f7a4_7 : decode cJ5_newCapacity_0f7a4 7 = .ok (.aload_n 0, 1) := by decide +kernel
theorem dJ5_newCapacity_0f7a4_8 : decode cJ5_newCapacity_0f7a4 8 = .ok (.getfield 22, 3) := by decide +kernel
theorem dJ5_newCapacity_0f7a4_11 : decode cJ5_newCapacity_0f7a4 11 = .ok (.ishl, 1) := by decide +kernel
theorem dJ5_newCapacity_0f7a4_12 : decode cJ5_newCapacity_0f7a4 12 = .ok (.istore_n 3, 1) := by decide +kernel
theorem dJ5_newCapacity_0f7a4_13 : decode cJ5_newCapacity_0f7a4 13 = .ok (.iload_n 3, 1) := by decide +kernel
theorem dJ5_newCapacity_0f7a4_14 : decode cJ5_newCapacity_0f7a4 14 = .ok (.iload_n 2, 1) := by decide +kernel
theorem dJ5_newCapacity_0f7a4_15 : decode cJ5_newCapacity_0f7a4 15 = .ok (.isub, 1) := by decide +kernel
theorem dJ5_newCapacity_0f7a4_16 : decode cJ5_newCapacity_0f7a4 16 = .ok (.istore 4, 2) := by decide +kernel
theorem dJ5_newCapacity_0f7a4_18 : decode cJ5_newCapacity_0f7a4 18 = .ok (.iload_n 2, 1) := by decide +kernel
theorem dJ5_newCapacity_0f7a4_19 : decode cJ5_newCapacity_0f7a4 19 = .ok (.iload 4, 2) := by decide +kernel
theorem dJ5_newCapacity_0f7a4_21 : decode cJ5_newCapacity_0f7a4 21 = .ok (.iload_n 2, 1) := by decide +kernel
theorem dJ5_newCapacity_0f7a4_22 : decode cJ5_newCapacity_0f7a4 22 = .ok (.iconst 2, 1) := by decide +kernel
theorem dJ5_newCapacity_0f7a4_23 : decode cJ5_newCapacity_0f7a4 23 = .ok (.aload_n 0, 1) := by decide +kernel
theorem dJ5_newCapacity_0f7a4_24 : decode cJ5_newCapacity_0f7a4 24 = .ok (.getfield 22, 3) := by decide +kernel
theorem dJ5_newCapacity_0f7a4_27 : decode cJ5_newCapacity_0f7a4 27 = .ok (.ishl, 1) := by decide +kernel
theorem dJ5_newCapacity_0f7a4_28 : decode cJ5_newCapacity_0f7a4 28 = .ok (.iadd, 1) := by decide +kernel
theorem dJ5_newCapacity_0f7a4_29 : decode cJ5_newCapacity_0f7a4 29 = .ok (.invokestatic 114, 3) := by decide +kernel
theorem dJ5_newCapacity_0f7a4_32 : decode cJ5_newCapacity_0f7a4 32 = .ok (.istore 5, 2) := by decide +kernel
theorem dJ5_newCapacity_0f7a4_34 : decode cJ5_newCapacity_0f7a4 34 = .ok (.iload 5, 2) := by decide +kernel
theorem dJ5_newCapacity_0f7a4_36 : decode cJ5_newCapacity_0f7a4 36 = .ok (.ldc 39, 2) := by decide +kernel
theorem dJ5_newCapacity_0f7a4_38 : decode cJ5_newCapacity_0f7a4 38 = .ok (.if_icmp .ne 13, 3) := by decide +kernel
theorem dJ5_newCapacity_0f7a4_41 : decode cJ5_newCapacity_0f7a4 41 = .ok (.new 120, 3) := by decide +kernel
theorem dJ5_newCapacity_0f7a4_44 : decode cJ5_newCapacity_0f7a4 44 = .ok (.dup, 1) := by decide +kernel
theorem dJ5_newCapacity_0f7a4_45 : decode cJ5_newCapacity_0f7a4 45 = .ok (.ldc 122, 2) := by decide +kernel
theorem dJ5_newCapacity_0f7a4_47 : decode cJ5_newCapacity_0f7a4 47 = .ok (.invokespecial 124, 3) := by decide +kernel
theorem dJ5_newCapacity_0f7a4_50 : decode cJ5_newCapacity_0f7a4 50 = .ok (.athrow, 1) := by decide +kernel
theorem dJ5_newCapacity_0f7a4_51 : decode cJ5_newCapacity_0f7a4 51 = .ok (.iload 5, 2) := by decide +kernel
theorem dJ5_newCapacity_0f7a4_53 : decode cJ5_newCapacity_0f7a4 53 = .ok (.aload_n 0, 1) := by decide +kernel
theorem dJ5_newCapacity_0f7a4_54 : decode cJ5_newCapacity_0f7a4 54 = .ok (.getfield 22, 3) := by decide +kernel
theorem dJ5_newCapacity_0f7a4_57 : decode cJ5_newCapacity_0f7a4 57 = .ok (.ishr, 1) := by decide +kernel
theorem dJ5_newCapacity_0f7a4_58 : decode cJ5_newCapacity_0f7a4 58 = .ok (.ireturn, 1) := by decide +kernel
theorem dJ5_inflate_da8c8_0 : decode cJ5_inflate_da8c8 0 = .ok (.aload_n 0, 1) := by decide +kernel
theorem dJ5_inflate_da8c8_1 : decode cJ5_inflate_da8c8 1 = .ok (.invokevirtual 83, 3) := by decide +kernel
theorem dJ5_inflate_da8c8_4 : decode cJ5_inflate_da8c8 4 = .ok (.ifCond .ne 4, 3) := by decide +kernel
theorem dJ5_inflate_da8c8_7 : decode cJ5_inflate_da8c8 7 = .ok (.return_, 1) := by decide +kernel
theorem dJ5_inflate_da8c8_8 : decode cJ5_inflate_da8c8 8 = .ok (.aload_n 0, 1) := by decide +kernel
theorem dJ5_inflate_da8c8_9 : decode cJ5_inflate_da8c8 9 = .ok (.getfield 15, 3) := by decide +kernel
theorem dJ5_inflate_da8c8_12 : decode cJ5_inflate_da8c8 12 = .ok (.arraylength, 1) := by decide +kernel
theorem dJ5_inflate_da8c8_13 : decode cJ5_inflate_da8c8 13 = .ok (.invokestatic 26, 3) := by decide +kernel
theorem dJ5_inflate_da8c8_16 : decode cJ5_inflate_da8c8 16 = .ok (.astore_n 1, 1) := by decide +kernel
theorem dJ5_inflate_da8c8_17 : decode cJ5_inflate_da8c8 17 = .ok (.aload_n 0, 1) := by decide +kernel
theorem dJ5_inflate_da8c8_18 : decode cJ5_inflate_da8c8 18 = .ok (.getfield 15, 3) := by decide +kernel
theorem dJ5_inflate_da8c8_21 : decode cJ5_inflate_da8c8 21 = .ok (.iconst 0, 1) := by decide +kernel
theorem dJ5_inflate_da8c8_22 : decode cJ5_inflate_da8c8 22 = .ok (.aload_n 1, 1) := by decide +kernel
theorem dJ5_inflate_da8c8_23 : decode cJ5_inflate_da8c8 23 = .ok (.iconst 0, 1) := by decide +kernel
theorem dJ5_inflate_da8c8_24 : decode cJ5_inflate_da8c8 24 = .ok (.aload_n 0, 1) := by decide +kernel
theorem dJ5_inflate_da8c8_25 : decode cJ5_inflate_da8c8 25 = .ok (.getfield 79, 3) := by decide +kernel
theorem dJ5_inflate_da8c8_28 : decode cJ5_inflate_da8c8 28 = .ok (.invokestatic 125, 3) := by decide +kernel
theorem dJ5_inflate_da8c8_31 : decode cJ5_inflate_da8c8 31 = .ok (.aload_n 0, 1) := by decide +kernel
theorem dJ5_inflate_da8c8_32 : decode cJ5_inflate_da8c8 32 = .ok (.aload_n 1, 1) := by decide +kernel
theorem dJ5_inflate_da8c8_33 : decode cJ5_inflate_da8c8 33 = .ok (.putfield 15, 3) := by decide +kernel
theorem dJ5_inflate_da8c8_36 : decode cJ5_inflate_da8c8 36 = .ok (.aload_n 0, 1) := by decide +kernel
theorem dJ5_inflate_da8c8_37 : decode cJ5_inflate_da8c8 37 = .ok (.iconst 1, 1) := by decide +kernel
theorem dJ5_inflate_da8c8_38 : decode cJ5_inflate_da8c8 38 = .ok (.putfield 22, 3) := by decide +kernel
theorem dJ5_inflate_da8c8_41 : decode cJ5_inflate_da8c8 41 = .ok (.return_, 1) := by decide +kernel
theorem dJ5_setLength_d00df_0 : decode cJ5_setLength_d00df 0 = .ok (.iload_n 1, 1) := by decide +kernel
theorem dJ5_setLength_d00df_1 : decode cJ5_setLength_d00df 1 = .ok (.ifCond .ge 12, 3) := by decide +kernel
theorem dJ5_setLength_d00df_4 : decode cJ5_setLength_d00df 4 = .ok (.new 129, 3) := by decide +kernel
theorem dJ5_setLength_d00df_7 : decode cJ5_setLength_d00df 7 = .ok (.dup, 1) := by decide +kernel
theorem dJ5_setLength_d00df_8 : decode cJ5_setLength_d00df 8 = .ok (.iload_n 1, 1) := by decide +kernel
theorem dJ5_setLength_d00df_9 : decode cJ5_setLength_d00df 9 = .ok (.invokespecial 131, 3) := by decide +kernel
theorem dJ5_setLength_d00df_12 : decode cJ5_setLength_d00df 12 = .ok (.athrow, 1) := by decide +kernel
theorem dJ5_setLength_d00df_13 : decode cJ5_setLength_d00df 13 = .ok (.aload_n 0, 1) := by decide +kernel
theorem dJ5_setLength_d00df_14 : decode cJ5_setLength_d00df 14 = .ok (.iload_n 1, 1) := by decide +kernel
theorem dJ5_setLength_d00df_15 : decode cJ5_setLength_d00df 15 = .ok (.invokevirtual 100, 3) := by decide +kernel
theorem dJ5_setLength_d00df_18 : decode cJ5_setLength_d00df 18 = .ok (.aload_n 0, 1) := by decide +kernel
theorem dJ5_setLength_d00df_19 : decode cJ5_setLength_d00df 19 = .ok (.getfield 79, 3) := by decide +kernel
theorem dJ5_setLength_d00df_22 : decode cJ5_setLength_d00df 22 = .ok (.iload_n 1, 1) := by decide +kernel
theorem dJ5_setLength_d00df_23 : decode cJ5_setLength_d00df 23 = .ok (.if_icmp .ge 40, 3) := by decide +kernel
theorem dJ5_setLength_d00df_26 : decode cJ5_setLength_d00df 26 = .ok (.aload_n 0, 1) := by decide +kernel
theorem dJ5_setLength_d00df_27 : decode cJ5_setLength_d00df 27 = .ok (.invokevirtual 83, 3) := by decide +kernel
theorem dJ5_setLength_d00df_30 : decode cJ5_setLength_d00df 30 = .ok (.ifCond .eq 18, 3) := by decide +kernel
theorem dJ5_setLength_d00df_33 : decode cJ5_setLength_d00df 33 = .ok (.aload_n 0, 1) := by decide +kernel
theorem dJ5_setLength_d00df_34 : decode cJ5_setLength_d00df 34 = .ok (.getfield 15, 3) := by decide +kernel
theorem dJ5_setLength_d00df_37 : decode cJ5_setLength_d00df 37 = .ok (.aload_n 0, 1) := by decide +kernel
theorem dJ5_setLength_d00df_38 : decode cJ5_setLength_d00df 38 = .ok (.getfield 79, 3) := by decide +kernel
theorem dJ5_setLength_d00df_41 : decode cJ5_setLength_d00df 41 = .ok (.iload_n 1, 1) := by decide +kernel
theorem dJ5_setLength_d00df_42 : decode cJ5_setLength_d00df 42 = .ok (.invokestatic 133, 3) := by decide +kernel
theorem dJ5_setLength_d00df_45 : decode cJ5_setLength_d00df 45 = .ok (.goto 31, 3) := by decide +kernel
theorem dJ5_setLength_d00df_48 : decode cJ5_setLength_d00df 48 = .ok (.aload_n 0, 1) := by decide +kernel
theorem dJ5_setLength_d00df_49 : decode cJ5_setLength_d00df 49 = .ok (.getfield 15, 3) := by decide +kernel
theorem dJ5_setLength_d00df_52 : decode cJ5_setLength_d00df 52 = .ok (.aload_n 0, 1) := by decide +kernel
theorem dJ5_setLength_d00df_53 : decode cJ5_setLength_d00df 53 = .ok (.getfield 79, 3) := by decide +kernel
theorem dJ5_setLength_d00df_56 : decode cJ5_setLength_d00df 56 = .ok (.iload_n 1, 1) := by decide +kernel
theorem dJ5_setLength_d00df_57 : decode cJ5_setLength_d00df 57 = .ok (.invokestatic 137, 3) := by decide +kernel
theorem dJ5_setLength_d00df_60 : decode cJ5_setLength_d00df 60 = .ok (.goto 16, 3) := by decide +kernel
theorem dJ5_setLength_d00df_63 : decode cJ5_setLength_d00df 63 = .ok (.aload_n 0, 1) := by decide +kernel
theorem dJ5_setLength_d00df_64 : decode cJ5_setLength_d00df 64 = .ok (.getfield 79, 3) := by decide +kernel
theorem dJ5_setLength_d00df_67 : decode cJ5_setLength_d00df 67 = .ok (.iload_n 1, 1) := by decide +kernel
theorem dJ5_setLength_d00df_68 : decode cJ5_setLength_d00df 68 = .ok (.if_icmp .le 8, 3) := by decide +kernel
theorem dJ5_setLength_d00df_71 : decode cJ5_setLength_d00df 71 = .ok (.aload_n 0, 1) := by decide +kernel
theorem dJ5_setLength_d00df_72 : decode cJ5_setLength_d00df 72 = .ok (.iconst 1, 1) := by decide +kernel
theorem dJ5_setLength_d00df_73 : decode cJ5_setLength_d00df 73 = .ok (.putfield 73, 3) := by decide +kernel
theorem dJ5_setLength_d00df_76 : decode cJ5_setLength_d00df 76 = .ok (.aload_n 0, 1) := by decide +kernel
theorem dJ5_setLength_d00df_77 : decode cJ5_setLength_d00df 77 = .ok (.iload_n 1, 1) := by decide +kernel
theorem dJ5_setLength_d00df_78 : decode cJ5_setLength_d00df 78 = .ok (.putfield 79, 3) := by decide +kernel
theorem dJ5_setLength_d00df_81 : decode cJ5_setLength_d00df 81 = .ok (.return_, 1) := by decide +kernel
theorem dJ5_charAt_5068e_0 : decode cJ5_charAt_5068e 0 = .ok (.aload_n 0, 1) := by decide +kernel
theorem dJ5_charAt_5068e_1 : decode cJ5_charAt_5068e 1 = .ok (.getfield 22, 3) := by decide +kernel
theorem dJ5_charAt_5068e_4 : decode cJ5_charAt_5068e 4 = .ok (.istore_n 2, 1) := by decide +kernel
theorem dJ5_charAt_5068e_5 : decode cJ5_charAt_5068e 5 = .ok (.aload_n 0, 1) := by decide +kernel
theorem dJ5_charAt_5068e_6 : decode cJ5_charAt_5068e 6 = .ok (.getfield 15, 3) := by decide +kernel
theorem dJ5_charAt_5068e_9 : decode cJ5_charAt_5068e 9 = .ok (.astore_n 3, 1) := by decide +kernel
theorem dJ5_charAt_5068e_10 : decode cJ5_charAt_5068e 10 = .ok (.aload_n 0, 1) := by decide +kernel
theorem dJ5_charAt_5068e_11 : decode cJ5_charAt_5068e 11 = .ok (.getfield 79, 3) := by decide +kernel
theorem dJ5_charAt_5068e_14 : decode cJ5_charAt_5068e 14 = .ok (.aload_n 3, 1) := by decide +kernel
theorem dJ5_charAt_5068e_15 : decode cJ5_charAt_5068e 15 = .ok (.arraylength, 1) := by decide +kernel
theorem dJ5_charAt_5068e_16 : decode cJ5_charAt_5068e 16 = .ok (.iload_n 2, 1) := by decide +kernel
theorem dJ5_charAt_5068e_17 : decode cJ5_charAt_5068e 17 = .ok (.ishr, 1) := by decide +kernel
theorem dJ5_charAt_5068e_18 : decode cJ5_charAt_5068e 18 = .ok (.invokestatic 138, 3) := by decide +kernel
theorem dJ5_charAt_5068e_21 : decode cJ5_charAt_5068e 21 = .ok (.istore 4, 2) := by decide +kernel
theorem dJ5_charAt_5068e_23 : decode cJ5_charAt_5068e 23 = .ok (.iload_n 1, 1) := by decide +kernel
theorem dJ5_charAt_5068e_24 : decode cJ5_charAt_5068e 24 = .ok (.iload 4, 2) := by decide +kernel
theorem dJ5_charAt_5068e_26 : decode cJ5_charAt_5068e 26 = .ok (.invokestatic 144, 3) := by decide +kernel
theorem dJ5_charAt_5068e_29 : decode cJ5_charAt_5068e 29 = .ok (.iload_n 2, 1) := by decide +kernel
theorem dJ5_charAt_5068e_30 : decode cJ5_charAt_5068e 30 = .ok (.ifCond .ne 12, 3) := by decide +kernel
theorem dJ5_charAt_5068e_33 : decode cJ5_charAt_5068e 33 = .ok (.aload_n 3, 1) := by decide +kernel
theorem dJ5_charAt_5068e_34 : decode cJ5_charAt_5068e 34 = .ok (.iload_n 1, 1) := by decide +kernel
theorem dJ5_charAt_5068e_35 : decode cJ5_charAt_5068e 35 = .ok (.baload, 1) := by decide +kernel
theorem dJ5_charAt_5068e_36 : decode cJ5_charAt_5068e 36 = .ok (.sipush 255, 3) := by decide +kernel
theorem dJ5_charAt_5068e_39 : decode cJ5_charAt_5068e 39 = .ok (.iand, 1) := by decide +kernel
theorem dJ5_charAt_5068e_40 : decode cJ5_charAt_5068e 40 = .ok (.i2c, 1) := by decide +kernel
theorem dJ5_charAt_5068e_41 : decode cJ5_charAt_5068e 41 = .ok (.ireturn, 1) := by decide +kernel
theorem dJ5_charAt_5068e_42 : decode cJ5_charAt_5068e 42 = .ok (.aload_n 3, 1) := by decide +kernel
theorem dJ5_charAt_5068e_43 : decode cJ5_charAt_5068e 43 = .ok (.iload_n 1, 1) := by decide +kernel
theorem dJ5_charAt_5068e_44 : decode cJ5_charAt_5068e 44 = .ok (.invokestatic 148, 3) := by decide +kernel
theorem dJ5_charAt_5068e_47 : decode cJ5_charAt_5068e 47 = .ok (.ireturn, 1) := by decide +kernel
theorem dJ5_append_cf1ce_0 : decode cJ5_append_cf1ce 0 = .ok (.aload_n 1, 1) := by decide +kernel
theorem dJ5_append_cf1ce_1 : decode cJ5_append_cf1ce 1 = .ok (.ifnonnull 8, 3) := by decide +kernel
theorem dJ5_append_cf1ce_4 : decode cJ5_append_cf1ce 4 = .ok (.aload_n 0, 1) := by decide +kernel
theorem dJ5_append_cf1ce_5 : decode cJ5_append_cf1ce 5 = .ok (.invokevirtual 204, 3) := by decide +kernel
theorem dJ5_append_cf1ce_8 : decode cJ5_append_cf1ce 8 = .ok (.areturn, 1) := by decide +kernel
theorem dJ5_append_cf1ce_9 : decode cJ5_append_cf1ce 9 = .ok (.aload_n 1, 1) := by decide +kernel
theorem dJ5_append_cf1ce_10 : decode cJ5_append_cf1ce 10 = .ok (.invokevirtual 32, 3) := by decide +kernel
theorem dJ5_append_cf1ce_13 : decode cJ5_append_cf1ce 13 = .ok (.istore_n 2, 1) := by decide +kernel
theorem dJ5_append_cf1ce_14 : decode cJ5_append_cf1ce 14 = .ok (.aload_n 0, 1) := by decide +kernel
theorem dJ5_append_cf1ce_15 : decode cJ5_append_cf1ce 15 = .ok (.aload_n 0, 1) := by decide +kernel
theorem dJ5_append_cf1ce_16 : decode cJ5_append_cf1ce 16 = .ok (.getfield 79, 3) := by decide +kernel
theorem dJ5_append_cf1ce_19 : decode cJ5_append_cf1ce 19 = .ok (.iload_n 2, 1) := by decide +kernel
theorem dJ5_append_cf1ce_20 : decode cJ5_append_cf1ce 20 = .ok (.iadd, 1) := by decide +kernel
theorem dJ5_append_cf1ce_21 : decode cJ5_append_cf1ce 21 = .ok (.invokevirtual 100, 3) := by decide +kernel
theorem dJ5_append_cf1ce_24 : decode cJ5_append_cf1ce 24 = .ok (.aload_n 0, 1) := by decide +kernel
theorem dJ5_append_cf1ce_25 : decode cJ5_append_cf1ce 25 = .ok (.aload_n 0, 1) := by decide +kernel
theorem dJ5_append_cf1ce_26 : decode cJ5_append_cf1ce 26 = .ok (.getfield 79, 3) := by decide +kernel
theorem dJ5_append_cf1ce_29 : decode cJ5_append_cf1ce 29 = .ok (.aload_n 1, 1) := by decide +kernel
theorem dJ5_append_cf1ce_30 : decode cJ5_append_cf1ce 30 = .ok (.invokevirtual 208, 3) := by decide +kernel
theorem dJ5_append_cf1ce_33 : decode cJ5_append_cf1ce 33 = .ok (.aload_n 0, 1) := by decide +kernel
theorem dJ5_append_cf1ce_34 : decode cJ5_append_cf1ce 34 = .ok (.dup, 1) := by decide +kernel
theorem dJ5_append_cf1ce_35 : decode cJ5_append_cf1ce 35 = .ok (.getfield 79, 3) := by decide +kernel
theorem dJ5_append_cf1ce_38 : decode cJ5_append_cf1ce 38 = .ok (.iload_n 2, 1) := by decide +kernel
theorem dJ5_append_cf1ce_39 : decode cJ5_append_cf1ce 39 = .ok (.iadd, 1) := by decide +kernel
theorem dJ5_append_cf1ce_40 : decode cJ5_append_cf1ce 40 = .ok (.putfield 79, 3) := by decide +kernel
theorem dJ5_append_cf1ce_43 : decode cJ5_append_cf1ce 43 = .ok (.aload_n 0, 1) := by decide +kernel
theorem dJ5_append_cf1ce_44 : decode cJ5_append_cf1ce 44 = .ok (.areturn, 1) := by decide +kernel
theorem dJ5_appendNull_278bc_0 : decode cJ5_appendNull_278bc 0 = .ok (.aload_n 0, 1) := by decide +kernel
theorem dJ5_appendNull_278bc_1 : decode cJ5_appendNull_278bc 1 = .ok (.aload_n 0, 1) := by decide +kernel
theorem dJ5_appendNull_278bc_2 : decode cJ5_appendNull_278bc 2 = .ok (.getfield 79, 3) := by decide +kernel
theorem dJ5_appendNull_278bc_5 : decode cJ5_appendNull_278bc 5 = .ok (.iconst 4, 1) := by decide +kernel
theorem dJ5_appendNull_278bc_6 : decode cJ5_appendNull_278bc 6 = .ok (.iadd, 1) := by decide +kernel
theorem dJ5_appendNull_278bc_7 : decode cJ5_appendNull_278bc 7 = .ok (.invokevirtual 100, 3) := by decide +kernel
theorem dJ5_appendNull_278bc_10 : decode cJ5_appendNull_278bc 10 = .ok (.aload_n 0, 1) := by decide +kernel
theorem dJ5_appendNull_278bc_11 : decode cJ5_appendNull_278bc 11 = .ok (.getfield 79, 3) := by decide +kernel
theorem dJ5_appendNull_278bc_14 : decode cJ5_appendNull_278bc 14 = .ok (.istore_n 1, 1) := by decide +kernel
theorem dJ5_appendNull_278bc_15 : decode cJ5_appendNull_278bc 15 = .ok (.aload_n 0, 1) := by decide +kernel
theorem dJ5_appendNull_278bc_16 : decode cJ5_appendNull_278bc 16 = .ok (.getfield 15, 3) := by decide +kernel
theorem dJ5_appendNull_278bc_19 : decode cJ5_appendNull_278bc 19 = .ok (.astore_n 2, 1) := by decide +kernel
theorem dJ5_appendNull_278bc_20 : decode cJ5_appendNull_278bc 20 = .ok (.aload_n 0, 1) := by decide +kernel
theorem dJ5_appendNull_278bc_21 : decode cJ5_appendNull_278bc 21 = .ok (.invokevirtual 83, 3) := by decide +kernel
theorem dJ5_appendNull_278bc_24 : decode cJ5_appendNull_278bc 24 = .ok (.ifCond .eq 38, 3) := by decide +kernel
theorem dJ5_appendNull_278bc_27 : decode cJ5_appendNull_278bc 27 = .ok (.aload_n 2, 1) := by decide +kernel
theorem dJ5_appendNull_278bc_28 : decode cJ5_appendNull_278bc 28 = .ok (.iload_n 1, 1) := by decide +kernel
theorem dJ5_appendNull_278bc_29 : decode cJ5_appendNull_278bc 29 = .ok (.iinc 1 1, 3) := by decide +kernel
theorem dJ5_appendNull_278bc_32 : decode cJ5_appendNull_278bc 32 = .ok (.bipush 110, 2) := by decide +kernel
theorem dJ5_appendNull_278bc_34 : decode cJ5_appendNull_278bc 34 = .ok (.bastore, 1) := by decide +kernel
theorem dJ5_appendNull_278bc_35 : decode cJ5_appendNull_278bc 35 = .ok (.aload_n 2, 1) := by decide +kernel
theorem dJ5_appendNull_278bc_36 : decode cJ5_appendNull_278bc 36 = .ok (.iload_n 1, 1) := by decide +kernel
theorem dJ5_appendNull_278bc_37 : decode cJ5_appendNull_278bc 37 = .ok (.iinc 1 1, 3) := by decide +kernel
theorem dJ5_appendNull_278bc_40 : decode cJ5_appendNull_278bc 40 = .ok (.bipush 117, 2) := by decide +kernel
theorem dJ5_appendNull_278bc_42 : decode cJ5_appendNull_278bc 42 = .ok (.bastore, 1) := by decide +kernel
theorem dJ5_appendNull_278bc_43 : decode cJ5_appendNull_278bc 43 = .ok (.aload_n 2, 1) := by decide +kernel
theorem dJ5_appendNull_278bc_44 : decode cJ5_appendNull_278bc 44 = .ok (.iload_n 1, 1) := by decide +kernel
theorem dJ5_appendNull_278bc_45 : decode cJ5_appendNull_278bc 45 = .ok (.iinc 1 1, 3) := by decide +kernel
theorem dJ5_appendNull_278bc_48 : decode cJ5_appendNull_278bc 48 = .ok (.bipush 108, 2) := by decide +kernel
theorem dJ5_appendNull_278bc_50 : decode cJ5_appendNull_278bc 50 = .ok (.bastore, 1) := by decide +kernel
theorem dJ5_appendNull_278bc_51 : decode cJ5_appendNull_278bc 51 = .ok (.aload_n 2, 1) := by decide +kernel
theorem dJ5_appendNull_278bc_52 : decode cJ5_appendNull_278bc 52 = .ok (.iload_n 1, 1) := by decide +kernel
theorem dJ5_appendNull_278bc_53 : decode cJ5_appendNull_278bc 53 = .ok (.iinc 1 1, 3) := by decide +kernel
theorem dJ5_appendNull_278bc_56 : decode cJ5_appendNull_278bc 56 = .ok (.bipush 108, 2) := by decide +kernel
theorem dJ5_appendNull_278bc_58 : decode cJ5_appendNull_278bc 58 = .ok (.bastore, 1) := by decide +kernel
theorem dJ5_appendNull_278bc_59 : decode cJ5_appendNull_278bc 59 = .ok (.goto 17, 3) := by decide +kernel
theorem dJ5_appendNull_278bc_62 : decode cJ5_appendNull_278bc 62 = .ok (.aload_n 2, 1) := by decide +kernel
theorem dJ5_appendNull_278bc_63 : decode cJ5_appendNull_278bc 63 = .ok (.iload_n 1, 1) := by decide +kernel
theorem dJ5_appendNull_278bc_64 : decode cJ5_appendNull_278bc 64 = .ok (.bipush 110, 2) := by decide +kernel
theorem dJ5_appendNull_278bc_66 : decode cJ5_appendNull_278bc 66 = .ok (.bipush 117, 2) := by decide +kernel
theorem dJ5_appendNull_278bc_68 : decode cJ5_appendNull_278bc 68 = .ok (.bipush 108, 2) := by decide +kernel
theorem dJ5_appendNull_278bc_70 : decode cJ5_appendNull_278bc 70 = .ok (.bipush 108, 2) := by decide +kernel
theorem dJ5_appendNull_278bc_72 : decode cJ5_appendNull_278bc 72 = .ok (.invokestatic 226, 3) := by decide +kernel
theorem dJ5_appendNull_278bc_75 : decode cJ5_appendNull_278bc 75 = .ok (.istore_n 1, 1) := by decide +kernel
theorem dJ5_appendNull_278bc_76 : decode cJ5_appendNull_278bc 76 = .ok (.aload_n 0, 1) := by decide +kernel
theorem dJ5_appendNull_278bc_77 : decode cJ5_appendNull_278bc 77 = .ok (.iload_n 1, 1) := by decide +kernel
theorem dJ5_appendNull_278bc_78 : decode cJ5_appendNull_278bc 78 = .ok (.putfield 79, 3) := by decide +kernel
theorem dJ5_appendNull_278bc_81 : decode cJ5_appendNull_278bc 81 = .ok (.aload_n 0, 1) := by decide +kernel
theorem dJ5_appendNull_278bc_82 : decode cJ5_appendNull_278bc 82 = .ok (.areturn, 1) := by decide +kernel
theorem dJ5_append_3fe6f_0 : decode cJ5_append_3fe6f 0 = .ok (.aload_n 0, 1) := by decide +kernel
theorem dJ5_append_3fe6f_1 : decode cJ5_append_3fe6f 1 = .ok (.aload_n 0, 1) := by decide +kernel
theorem dJ5_append_3fe6f_2 : decode cJ5_append_3fe6f 2 = .ok (.getfield 79, 3) := by decide +kernel
theorem dJ5_append_3fe6f_5 : decode cJ5_append_3fe6f 5 = .ok (.iconst 1, 1) := by decide +kernel
theorem dJ5_append_3fe6f_6 : decode cJ5_append_3fe6f 6 = .ok (.iadd, 1) := by decide +kernel
theorem dJ5_append_3fe6f_7 : decode cJ5_append_3fe6f 7 = .ok (.invokevirtual 100, 3) := by decide +kernel
theorem dJ5_append_3fe6f_10 : decode cJ5_append_3fe6f 10 = .ok (.aload_n 0, 1) := by decide +kernel
theorem dJ5_append_3fe6f_11 : decode cJ5_append_3fe6f 11 = .ok (.invokevirtual 83, 3) := by decide +kernel
theorem dJ5_append_3fe6f_14 : decode cJ5_append_3fe6f 14 = .ok (.ifCond .eq 31, 3) := by decide +kernel
theorem dJ5_append_3fe6f_17 : decode cJ5_append_3fe6f 17 = .ok (.iload_n 1, 1) := by decide +kernel
theorem dJ5_append_3fe6f_18 : decode cJ5_append_3fe6f 18 = .ok (.invokestatic 191, 3) := by decide +kernel
theorem dJ5_append_3fe6f_21 : decode cJ5_append_3fe6f 21 = .ok (.ifCond .eq 24, 3) := by decide +kernel
theorem dJ5_append_3fe6f_24 : decode cJ5_append_3fe6f 24 = .ok (.aload_n 0, 1) := by decide +kernel
theorem dJ5_append_3fe6f_25 : decode cJ5_append_3fe6f 25 = .ok (.getfield 15, 3) := by decide +kernel
theorem dJ5_append_3fe6f_28 : decode cJ5_append_3fe6f 28 = .ok (.aload_n 0, 1) := by decide +kernel
theorem dJ5_append_3fe6f_29 : decode cJ5_append_3fe6f 29 = .ok (.dup, 1) := by decide +kernel
theorem dJ5_append_3fe6f_30 : decode cJ5_append_3fe6f 30 = .ok (.getfield 79, 3) := by decide +kernel
theorem dJ5_append_3fe6f_33 : decode cJ5_append_3fe6f 33 = .ok (.dup_x1, 1) := by decide +kernel
theorem dJ5_append_3fe6f_34 : decode cJ5_append_3fe6f 34 = .ok (.iconst 1, 1) := by decide +kernel
theorem dJ5_append_3fe6f_35 : decode cJ5_append_3fe6f 35 = .ok (.iadd, 1) := by decide +kernel
theorem dJ5_append_3fe6f_36 : decode cJ5_append_3fe6f 36 = .ok (.putfield 79, 3) := by decide +kernel
theorem dJ5_append_3fe6f_39 : decode cJ5_append_3fe6f 39 = .ok (.iload_n 1, 1) := by decide +kernel
theorem dJ5_append_3fe6f_40 : decode cJ5_append_3fe6f 40 = .ok (.i2b, 1) := by decide +kernel
theorem dJ5_append_3fe6f_41 : decode cJ5_append_3fe6f 41 = .ok (.bastore, 1) := by decide +kernel
theorem dJ5_append_3fe6f_42 : decode cJ5_append_3fe6f 42 = .ok (.goto 33, 3) := by decide +kernel
theorem dJ5_append_3fe6f_45 : decode cJ5_append_3fe6f 45 = .ok (.aload_n 0, 1) := by decide +kernel
theorem dJ5_append_3fe6f_46 : decode cJ5_append_3fe6f 46 = .ok (.invokevirtual 83, 3) := by decide +kernel
theorem dJ5_append_3fe6f_49 : decode cJ5_append_3fe6f 49 = .ok (.ifCond .eq 7, 3) := by decide +kernel
theorem dJ5_append_3fe6f_52 : decode cJ5_append_3fe6f 52 = .ok (.aload_n 0, 1) := by decide +kernel
theorem dJ5_append_3fe6f_53 : decode cJ5_append_3fe6f 53 = .ok (.invokevirtual 195, 3) := by decide +kernel
theorem dJ5_append_3fe6f_56 : decode cJ5_append_3fe6f 56 = .ok (.aload_n 0, 1) := by decide +kernel
theorem dJ5_append_3fe6f_57 : decode cJ5_append_3fe6f 57 = .ok (.getfield 15, 3) := by decide +kernel
theorem dJ5_append_3fe6f_60 : decode cJ5_append_3fe6f 60 = .ok (.aload_n 0, 1) := by decide +kernel
theorem dJ5_append_3fe6f_61 : decode cJ5_append_3fe6f 61 = .ok (.dup, 1) := by decide +kernel
theorem dJ5_append_3fe6f_62 : decode cJ5_append_3fe6f 62 = .ok (.getfield 79, 3) := by decide +kernel
theorem dJ5_append_3fe6f_65 : decode cJ5_append_3fe6f 65 = .ok (.dup_x1, 1) := by decide +kernel
theorem dJ5_append_3fe6f_66 : decode cJ5_append_3fe6f 66 = .ok (.iconst 1, 1) := by decide +kernel
theorem dJ5_append_3fe6f_67 : decode cJ5_append_3fe6f 67 = .ok (.iadd, 1) := by decide +kernel
theorem dJ5_append_3fe6f_68 : decode cJ5_append_3fe6f 68 = .ok (.putfield 79, 3) := by decide +kernel
theorem dJ5_append_3fe6f_71 : decode cJ5_append_3fe6f 71 = .ok (.iload_n 1, 1) := by decide +kernel
theorem dJ5_append_3fe6f_72 : decode cJ5_append_3fe6f 72 = .ok (.invokestatic 197, 3) := by decide +kernel
theorem dJ5_append_3fe6f_75 : decode cJ5_append_3fe6f 75 = .ok (.aload_n 0, 1) := by decide +kernel
theorem dJ5_append_3fe6f_76 : decode cJ5_append_3fe6f 76 = .ok (.areturn, 1) := by decide +kernel
theorem dJ5_append_c97b9_0 : decode cJ5_append_c97b9 0 = .ok (.aload_n 0, 1) := by decide +kernel
theorem dJ5_append_c97b9_1 : decode cJ5_append_c97b9 1 = .ok (.getfield 79, 3) := by decide +kernel
theorem dJ5_append_c97b9_4 : decode cJ5_append_c97b9 4 = .ok (.istore_n 2, 1) := by decide +kernel
theorem dJ5_append_c97b9_5 : decode cJ5_append_c97b9 5 = .ok (.iload_n 2, 1) := by decide +kernel
theorem dJ5_append_c97b9_6 : decode cJ5_append_c97b9 6 = .ok (.iload_n 1, 1) := by decide +kernel
theorem dJ5_append_c97b9_7 : decode cJ5_append_c97b9 7 = .ok (.invokestatic 245, 3) := by decide +kernel
theorem dJ5_append_c97b9_10 : decode cJ5_append_c97b9 10 = .ok (.iadd, 1) := by decide +kernel
theorem dJ5_append_c97b9_11 : decode cJ5_append_c97b9 11 = .ok (.istore_n 3, 1) := by decide +kernel
theorem dJ5_append_c97b9_12 : decode cJ5_append_c97b9 12 = .ok (.aload_n 0, 1) := by decide +kernel
theorem dJ5_append_c97b9_13 : decode cJ5_append_c97b9 13 = .ok (.iload_n 3, 1) := by decide +kernel
theorem dJ5_append_c97b9_14 : decode cJ5_append_c97b9 14 = .ok (.invokevirtual 100, 3) := by decide +kernel
theorem dJ5_append_c97b9_17 : decode cJ5_append_c97b9 17 = .ok (.aload_n 0, 1) := by decide +kernel
theorem dJ5_append_c97b9_18 : decode cJ5_append_c97b9 18 = .ok (.invokevirtual 83, 3) := by decide +kernel
theorem dJ5_append_c97b9_21 : decode cJ5_append_c97b9 21 = .ok (.ifCond .eq 16, 3) := by decide +kernel
theorem dJ5_append_c97b9_24 : decode cJ5_append_c97b9 24 = .ok (.iload_n 1, 1) := by decide +kernel
theorem dJ5_append_c97b9_25 : decode cJ5_append_c97b9 25 = .ok (.iload_n 3, 1) := by decide +kernel
theorem dJ5_append_c97b9_26 : decode cJ5_append_c97b9 26 = .ok (.aload_n 0, 1) := by decide +kernel
theorem dJ5_append_c97b9_27 : decode cJ5_append_c97b9 27 = .ok (.getfield 15, 3) := by decide +kernel
theorem dJ5_append_c97b9_30 : decode cJ5_append_c97b9 30 = .ok (.invokestatic 248, 3) := by decide +kernel
theorem dJ5_append_c97b9_33 : decode cJ5_append_c97b9 33 = .ok (.pop, 1) := by decide +kernel
theorem dJ5_append_c97b9_34 : decode cJ5_append_c97b9 34 = .ok (.goto 14, 3) := by decide +kernel
theorem dJ5_append_c97b9_37 : decode cJ5_append_c97b9 37 = .ok (.iload_n 1, 1) := by decide +kernel
theorem dJ5_append_c97b9_38 : decode cJ5_append_c97b9 38 = .ok (.iload_n 2, 1) := by decide +kernel
theorem dJ5_append_c97b9_39 : decode cJ5_append_c97b9 39 = .ok (.iload_n 3, 1) := by decide +kernel
theorem dJ5_append_c97b9_40 : decode cJ5_append_c97b9 40 = .ok (.aload_n 0, 1) := by decide +kernel
theorem dJ5_append_c97b9_41 : decode cJ5_append_c97b9 41 = .ok (.getfield 15, 3) := by decide +kernel
theorem dJ5_append_c97b9_44 : decode cJ5_append_c97b9 44 = .ok (.invokestatic 251, 3) := by decide +kernel
theorem dJ5_append_c97b9_47 : decode cJ5_append_c97b9 47 = .ok (.pop, 1) := by decide +kernel
theorem dJ5_append_c97b9_48 : decode cJ5_append_c97b9 48 = .ok (.aload_n 0, 1) := by decide +kernel
theorem dJ5_append_c97b9_49 : decode cJ5_append_c97b9 49 = .ok (.iload_n 3, 1) := by decide +kernel
theorem dJ5_append_c97b9_50 : decode cJ5_append_c97b9 50 = .ok (.putfield 79, 3) := by decide +kernel
theorem dJ5_append_c97b9_53 : decode cJ5_append_c97b9 53 = .ok (.aload_n 0, 1) := by decide +kernel
theorem dJ5_append_c97b9_54 : decode cJ5_append_c97b9 54 = .ok (.areturn, 1) := by decide +kernel
theorem dJ5_getValue_6d5f1_0 : decode cJ5_getValue_6d5f1 0 = .ok (.aload_n 0, 1) := by decide +kernel
theorem dJ5_getValue_6d5f1_1 : decode cJ5_getValue_6d5f1 1 = .ok (.getfield 15, 3) := by decide +kernel
theorem dJ5_getValue_6d5f1_4 : decode cJ5_getValue_6d5f1 4 = .ok (.areturn, 1) := by decide +kernel
theorem dJ5_isLatin1_aae02_0 : decode cJ5_isLatin1_aae02 0 = .ok (.getstatic 18, 3) := by decide +kernel
theorem dJ5_isLatin1_aae02_3 : decode cJ5_isLatin1_aae02 3 = .ok (.ifCond .eq 14, 3) := by decide +kernel
theorem dJ5_isLatin1_aae02_6 : decode cJ5_isLatin1_aae02 6 = .ok (.aload_n 0, 1) := by decide +kernel
theorem dJ5_isLatin1_aae02_7 : decode cJ5_isLatin1_aae02 7 = .ok (.getfield 22, 3) := by decide +kernel
theorem dJ5_isLatin1_aae02_10 : decode cJ5_isLatin1_aae02 10 = .ok (.ifCond .ne 7, 3) := by decide +kernel
theorem dJ5_isLatin1_aae02_13 : decode cJ5_isLatin1_aae02 13 = .ok (.iconst 1, 1) := by decide +kernel
theorem dJ5_isLatin1_aae02_14 : decode cJ5_isLatin1_aae02 14 = .ok (.goto 4, 3) := by decide +kernel
theorem dJ5_isLatin1_aae02_17 : decode cJ5_isLatin1_aae02 17 = .ok (.iconst 0, 1) := by decide +kernel
theorem dJ5_isLatin1_aae02_18 : decode cJ5_isLatin1_aae02 18 = .ok (.ireturn, 1) := by decide +kernel
theorem dJ5_inflateIfNeededFor_a7421_0 : decode cJ5_inflateIfNeededFor_a7421 0 = .ok (.getstatic 18, 3) := by decide +kernel
theorem dJ5_inflateIfNeededFor_a7421_3 : decode cJ5_inflateIfNeededFor_a7421 3 = .ok (.ifCond .eq 18, 3) := by decide +kernel
theorem dJ5_inflateIfNeededFor_a7421_6 : decode cJ5_inflateIfNeededFor_a7421 6 = .ok (.aload_n 0, 1) := by decide +kernel
theorem dJ5_inflateIfNeededFor_a7421_7 : decode cJ5_inflateIfNeededFor_a7421 7 = .ok (.getfield 22, 3) := by decide +kernel
theorem dJ5_inflateIfNeededFor_a7421_10 : decode cJ5_inflateIfNeededFor_a7421 10 = .ok (.aload_n 1, 1) := by decide +kernel
theorem dJ5_inflateIfNeededFor_a7421_11 : decode cJ5_inflateIfNeededFor_a7421 11 = .ok (.invokevirtual 40, 3) := by decide +kernel
theorem dJ5_inflateIfNeededFor_a7421_14 : decode cJ5_inflateIfNeededFor_a7421 14 = .ok (.if_icmp .eq 7, 3) := by decide +kernel
theorem dJ5_inflateIfNeededFor_a7421_17 : decode cJ5_inflateIfNeededFor_a7421 17 = .ok (.aload_n 0, 1) := by decide +kernel
theorem dJ5_inflateIfNeededFor_a7421_18 : decode cJ5_inflateIfNeededFor_a7421 18 = .ok (.invokevirtual 195, 3) := by decide +kernel
theorem dJ5_inflateIfNeededFor_a7421_21 : decode cJ5_inflateIfNeededFor_a7421 21 = .ok (.return_, 1) := by decide +kernel
theorem dJ5_putStringAt_47b60_0 : decode cJ5_putStringAt_47b60 0 = .ok (.aload_n 0, 1) := by decide +kernel
theorem dJ5_putStringAt_47b60_1 : decode cJ5_putStringAt_47b60 1 = .ok (.aload_n 2, 1) := by decide +kernel
theorem dJ5_putStringAt_47b60_2 : decode cJ5_putStringAt_47b60 2 = .ok (.invokevirtual 397, 3) := by decide +kernel
theorem dJ5_putStringAt_47b60_5 : decode cJ5_putStringAt_47b60 5 = .ok (.aload_n 2, 1) := by decide +kernel
theorem dJ5_putStringAt_47b60_6 : decode cJ5_putStringAt_47b60 6 = .ok (.aload_n 0, 1) := by decide +kernel
theorem dJ5_putStringAt_47b60_7 : decode cJ5_putStringAt_47b60 7 = .ok (.getfield 15, 3) := by decide +kernel
theorem dJ5_putStringAt_47b60_10 : decode cJ5_putStringAt_47b60 10 = .ok (.iload_n 1, 1) := by decide +kernel
theorem dJ5_putStringAt_47b60_11 : decode cJ5_putStringAt_47b60 11 = .ok (.aload_n 0, 1) := by decide +kernel
theorem dJ5_putStringAt_47b60_12 : decode cJ5_putStringAt_47b60 12 = .ok (.getfield 22, 3) := by decide +kernel
theorem dJ5_putStringAt_47b60_15 : decode cJ5_putStringAt_47b60 15 = .ok (.invokevirtual 399, 3) := by decide +kernel
theorem dJ5_putStringAt_47b60_18 : decode cJ5_putStringAt_47b60 18 = .ok (.return_, 1) := by decide +kernel
theorem dJx29ce0_ordinal_8abf5_0 : decode cJx29ce0_ordinal_8abf5 0 = .ok (.aload_n 0, 1) := by decide +kernel
theorem dJx29ce0_ordinal_8abf5_1 : decode cJx29ce0_ordinal_8abf5 1 = .ok (.getfield 7, 3) := by decide +kernel
theorem dJx29ce0_ordinal_8abf5_4 : decode cJx29ce0_ordinal_8abf5 4 = .ok (.ireturn, 1) := by decide +kernel
theorem dJ6_getChars_ba4f3_0 : decode cJ6_getChars_ba4f3 0 = .ok (.iload_n 1, 1) := by decide +kernel
theorem dJ6_getChars_ba4f3_1 : decode cJ6_getChars_ba4f3 1 = .ok (.istore 5, 2) := by decide +kernel
theorem dJ6_getChars_ba4f3_3 : decode cJ6_getChars_ba4f3 3 = .ok (.iload_n 0, 1) := by decide +kernel
theorem dJ6_getChars_ba4f3_4 : decode cJ6_getChars_ba4f3 4 = .ok (.ifCond .ge 7, 3) := by decide +kernel
theorem dJ6_getChars_ba4f3_7 : decode cJ6_getChars_ba4f3 7 = .ok (.iconst 1, 1) := by decide +kernel
theorem dJ6_getChars_ba4f3_8 : decode cJ6_getChars_ba4f3 8 = .ok (.goto 4, 3) := by decide +kernel
theorem dJ6_getChars_ba4f3_11 : decode cJ6_getChars_ba4f3 11 = .ok (.iconst 0, 1) := by decide +kernel
theorem dJ6_getChars_ba4f3_12 : decode cJ6_getChars_ba4f3 12 = .ok (.istore 6, 2) := by decide +kernel
theorem dJ6_getChars_ba4f3_14 : decode cJ6_getChars_ba4f3 14 = .ok (.iload 6, 2) := by decide +kernel
theorem dJ6_getChars_ba4f3_16 : decode cJ6_getChars_ba4f3 16 = .ok (.ifCond .ne 6, 3) := by decide +kernel
theorem dJ6_getChars_ba4f3_19 : decode cJ6_getChars_ba4f3 19 = .ok (.iload_n 0, 1) := by decide +kernel
theorem dJ6_getChars_ba4f3_20 : decode cJ6_getChars_ba4f3 20 = .ok (.ineg, 1) := by decide +kernel
theorem dJ6_getChars_ba4f3_21 : decode cJ6_getChars_ba4f3 21 = .ok (.istore_n 0, 1) := by decide +kernel
theorem dJ6_getChars_ba4f3_22 : decode cJ6_getChars_ba4f3 22 = .ok (.iload_n 0, 1) := by decide +kernel
theorem dJ6_getChars_ba4f3_23 : decode cJ6_getChars_ba4f3 23 = .ok (.bipush (-100), 2) := by decide +kernel
theorem dJ6_getChars_ba4f3_25 : decode cJ6_getChars_ba4f3 25 = .ok (.if_icmp .gt 47, 3) := by decide +kernel
theorem dJ6_getChars_ba4f3_28 : decode cJ6_getChars_ba4f3 28 = .ok (.iload_n 0, 1) := by decide +kernel
theorem dJ6_getChars_ba4f3_29 : decode cJ6_getChars_ba4f3 29 = .ok (.bipush 100, 2) := by decide +kernel
theorem dJ6_getChars_ba4f3_31 : decode cJ6_getChars_ba4f3 31 = .ok (.idiv, 1) := by decide +kernel
theorem dJ6_getChars_ba4f3_32 : decode cJ6_getChars_ba4f3 32 = .ok (.istore_n 3, 1) := by decide +kernel
theorem dJ6_getChars_ba4f3_33 : decode cJ6_getChars_ba4f3 33 = .ok (.iload_n 3, 1) := by decide +kernel
theorem dJ6_getChars_ba4f3_34 : decode cJ6_getChars_ba4f3 34 = .ok (.bipush 100, 2) := by decide +kernel
theorem dJ6_getChars_ba4f3_36 : decode cJ6_getChars_ba4f3 36 = .ok (.imul, 1) := by decide +kernel
theorem dJ6_getChars_ba4f3_37 : decode cJ6_getChars_ba4f3 37 = .ok (.iload_n 0, 1) := by decide +kernel
theorem dJ6_getChars_ba4f3_38 : decode cJ6_getChars_ba4f3 38 = .ok (.isub, 1) := by decide +kernel
theorem dJ6_getChars_ba4f3_39 : decode cJ6_getChars_ba4f3 39 = .ok (.istore 4, 2) := by decide +kernel
theorem dJ6_getChars_ba4f3_41 : decode cJ6_getChars_ba4f3 41 = .ok (.iload_n 3, 1) := by decide +kernel
theorem dJ6_getChars_ba4f3_42 : decode cJ6_getChars_ba4f3 42 = .ok (.istore_n 0, 1) := by decide +kernel
theorem dJ6_getChars_ba4f3_43 : decode cJ6_getChars_ba4f3 43 = .ok (.aload_n 2, 1) := by decide +kernel
theorem dJ6_getChars_ba4f3_44 : decode cJ6_getChars_ba4f3 44 = .ok (.iinc 5 (-1), 3) := by decide +kernel
theorem dJ6_getChars_ba4f3_47 : decode cJ6_getChars_ba4f3 47 = .ok (.iload 5, 2) := by decide +kernel
theorem dJ6_getChars_ba4f3_49 : decode cJ6_getChars_ba4f3 49 = .ok (.getstatic 83, 3) := by decide +kernel
theorem dJ6_getChars_ba4f3_52 : decode cJ6_getChars_ba4f3 52 = .ok (.iload 4, 2) := by decide +kernel
theorem dJ6_getChars_ba4f3_54 : decode cJ6_getChars_ba4f3 54 = .ok (.baload, 1) := by decide +kernel
theorem dJ6_getChars_ba4f3_55 : decode cJ6_getChars_ba4f3 55 = .ok (.bastore, 1) := by decide +kernel
theorem dJ6_getChars_ba4f3_56 : decode cJ6_getChars_ba4f3 56 = .ok (.aload_n 2, 1) := by decide +kernel
theorem dJ6_getChars_ba4f3_57 : decode cJ6_getChars_ba4f3 57 = .ok (.iinc 5 (-1), 3) := by decide +kernel
theorem dJ6_getChars_ba4f3_60 : decode cJ6_getChars_ba4f3 60 = .ok (.iload 5, 2) := by decide +kernel
theorem dJ6_getChars_ba4f3_62 : decode cJ6_getChars_ba4f3 62 = .ok (.getstatic 87, 3) := by decide +kernel
theorem dJ6_getChars_ba4f3_65 : decode cJ6_getChars_ba4f3 65 = .ok (.iload 4, 2) := by decide +kernel
theorem dJ6_getChars_ba4f3_67 : decode cJ6_getChars_ba4f3 67 = .ok (.baload, 1) := by decide +kernel
theorem dJ6_getChars_ba4f3_68 : decode cJ6_getChars_ba4f3 68 = .ok (.bastore, 1) := by decide +kernel
theorem dJ6_getChars_ba4f3_69 : decode cJ6_getChars_ba4f3 69 = .ok (.goto (-47), 3) := by decide +kernel
theorem dJ6_getChars_ba4f3_72 : decode cJ6_getChars_ba4f3 72 = .ok (.aload_n 2, 1) := by decide +kernel
theorem dJ6_getChars_ba4f3_73 : decode cJ6_getChars_ba4f3 73 = .ok (.iinc 5 (-1), 3) := by decide +kernel
theorem dJ6_getChars_ba4f3_76 : decode cJ6_getChars_ba4f3 76 = .ok (.iload 5, 2) := by decide +kernel
theorem dJ6_getChars_ba4f3_78 : decode cJ6_getChars_ba4f3 78 = .ok (.getstatic 83, 3) := by decide +kernel
theorem dJ6_getChars_ba4f3_81 : decode cJ6_getChars_ba4f3 81 = .ok (.iload_n 0, 1) := by decide +kernel
theorem dJ6_getChars_ba4f3_82 : decode cJ6_getChars_ba4f3 82 = .ok (.ineg, 1) := by decide +kernel
theorem dJ6_getChars_ba4f3_83 : decode cJ6_getChars_ba4f3 83 = .ok (.baload, 1) := by decide +kernel
theorem dJ6_getChars_ba4f3_84 : decode cJ6_getChars_ba4f3 84 = .ok (.bastore, 1) := by decide +kernel
theorem dJ6_getChars_ba4f3_85 : decode cJ6_getChars_ba4f3 85 = .ok (.iload_n 0, 1) := by decide +kernel
theorem dJ6_getChars_ba4f3_86 : decode cJ6_getChars_ba4f3 86 = .ok (.bipush (-9), 2) := by decide +kernel
theorem dJ6_getChars_ba4f3_88 : decode cJ6_getChars_ba4f3 88 = .ok (.if_icmp .ge 16, 3) := by decide +kernel
theorem dJ6_getChars_ba4f3_91 : decode cJ6_getChars_ba4f3 91 = .ok (.aload_n 2, 1) := by decide +kernel
theorem dJ6_getChars_ba4f3_92 : decode cJ6_getChars_ba4f3 92 = .ok (.iinc 5 (-1), 3) := by decide +kernel
theorem dJ6_getChars_ba4f3_95 : decode cJ6_getChars_ba4f3 95 = .ok (.iload 5, 2) := by decide +kernel
theorem dJ6_getChars_ba4f3_97 : decode cJ6_getChars_ba4f3 97 = .ok (.getstatic 87, 3) := by decide +kernel
theorem dJ6_getChars_ba4f3_100 : decode cJ6_getChars_ba4f3 100 = .ok (.iload_n 0, 1) := by decide +kernel
theorem dJ6_getChars_ba4f3_101 : decode cJ6_getChars_ba4f3 101 = .ok (.ineg, 1) := by decide +kernel
theorem dJ6_getChars_ba4f3_102 : decode cJ6_getChars_ba4f3 102 = .ok (.baload, 1) := by decide +kernel
theorem dJ6_getChars_ba4f3_103 : decode cJ6_getChars_ba4f3 103 = .ok (.bastore, 1) := by decide +kernel
theorem dJ6_getChars_ba4f3_104 : decode cJ6_getChars_ba4f3 104 = .ok (.iload 6, 2) := by decide +kernel
theorem dJ6_getChars_ba4f3_106 : decode cJ6_getChars_ba4f3 106 = .ok (.ifCond .eq 12, 3) := by decide +kernel
theorem dJ6_getChars_ba4f3_109 : decode cJ6_getChars_ba4f3 109 = .ok (.aload_n 2, 1) := by decide +kernel
theorem dJ6_getChars_ba4f3_110 : decode cJ6_getChars_ba4f3 110 = .ok (.iinc 5 (-1), 3) := by decide +kernel
theorem dJ6_getChars_ba4f3_113 : decode cJ6_getChars_ba4f3 113 = .ok (.iload 5, 2) := by decide +kernel
theorem dJ6_getChars_ba4f3_115 : decode cJ6_getChars_ba4f3 115 = .ok (.bipush 45, 2) := by decide +kernel
theorem dJ6_getChars_ba4f3_117 : decode cJ6_getChars_ba4f3 117 = .ok (.bastore, 1) := by decide +kernel
theorem dJ6_getChars_ba4f3_118 : decode cJ6_getChars_ba4f3 118 = .ok (.iload 5, 2) := by decide +kernel
theorem dJ6_getChars_ba4f3_120 : decode cJ6_getChars_ba4f3 120 = .ok (.ireturn, 1) := by decide +kernel
theorem dJ6_stringSize_0f7a4_0 : decode cJ6_stringSize_0f7a4 0 = .ok (.iconst 1, 1) := by decide +kernel
theorem dJ6_stringSize_0f7a4_1 : decode cJ6_stringSize_0f7a4 1 = .ok (.istore_n 1, 1) := by decide +kernel
theorem dJ6_stringSize_0f7a4_2 : decode cJ6_stringSize_0f7a4 2 = .ok (.iload_n 0, 1) := by decide +kernel
theorem dJ6_stringSize_0f7a4_3 : decode cJ6_stringSize_0f7a4 3 = .ok (.ifCond .lt 8, 3) := by decide +kernel
theorem dJ6_stringSize_0f7a4_6 : decode cJ6_stringSize_0f7a4 6 = .ok (.iconst 0, 1) := by decide +kernel
theorem dJ6_stringSize_0f7a4_7 : decode cJ6_stringSize_0f7a4 7 = .ok (.istore_n 1, 1) := by decide +kernel
theorem dJ6_stringSize_0f7a4_8 : decode cJ6_stringSize_0f7a4 8 = .ok (.iload_n 0, 1) := by decide +kernel
theorem dJ6_stringSize_0f7a4_9 : decode cJ6_stringSize_0f7a4 9 = .ok (.ineg, 1) := by decide +kernel
theorem dJ6_stringSize_0f7a4_10 : decode cJ6_stringSize_0f7a4 10 = .ok (.istore_n 0, 1) := by decide +kernel
theorem dJ6_stringSize_0f7a4_11 : decode cJ6_stringSize_0f7a4 11 = .ok (.bipush (-10), 2) := by decide +kernel
theorem dJ6_stringSize_0f7a4_13 : decode cJ6_stringSize_0f7a4 13 = .ok (.istore_n 2, 1) := by decide +kernel
theorem dJ6_stringSize_0f7a4_14 : decode cJ6_stringSize_0f7a4 14 = .ok (.iconst 1, 1) := by decide +kernel
theorem dJ6_stringSize_0f7a4_15 : decode cJ6_stringSize_0f7a4 15 = .ok (.istore_n 3, 1) := by decide +kernel
theorem dJ6_stringSize_0f7a4_16 : decode cJ6_stringSize_0f7a4 16 = .ok (.iload_n 3, 1) := by decide +kernel
theorem dJ6_stringSize_0f7a4_17 : decode cJ6_stringSize_0f7a4 17 = .ok (.bipush 10, 2) := by decide +kernel
theorem dJ6_stringSize_0f7a4_19 : decode cJ6_stringSize_0f7a4 19 = .ok (.if_icmp .ge 23, 3) := by decide +kernel
theorem dJ6_stringSize_0f7a4_22 : decode cJ6_stringSize_0f7a4 22 = .ok (.iload_n 0, 1) := by decide +kernel
theorem dJ6_stringSize_0f7a4_23 : decode cJ6_stringSize_0f7a4 23 = .ok (.iload_n 2, 1) := by decide +kernel
theorem dJ6_stringSize_0f7a4_24 : decode cJ6_stringSize_0f7a4 24 = .ok (.if_icmp .le 7, 3) := by decide +kernel
theorem dJ6_stringSize_0f7a4_27 : decode cJ6_stringSize_0f7a4 27 = .ok (.iload_n 3, 1) := by decide +kernel
theorem dJ6_stringSize_0f7a4_28 : decode cJ6_stringSize_0f7a4 28 = .ok (.iload_n 1, 1) := by decide +kernel
theorem dJ6_stringSize_0f7a4_29 : decode cJ6_stringSize_0f7a4 29 = .ok (.iadd, 1) := by decide +kernel
theorem dJ6_stringSize_0f7a4_30 : decode cJ6_stringSize_0f7a4 30 = .ok (.ireturn, 1) := by decide +kernel
theorem dJ6_stringSize_0f7a4_31 : decode cJ6_stringSize_0f7a4 31 = .ok (.bipush 10, 2) := by decide +kernel
theorem dJ6_stringSize_0f7a4_33 : decode cJ6_stringSize_0f7a4 33 = .ok (.iload_n 2, 1) := by decide +kernel
theorem dJ6_stringSize_0f7a4_34 : decode cJ6_stringSize_0f7a4 34 = .ok (.imul, 1) := by decide +kernel
theorem dJ6_stringSize_0f7a4_35 : decode cJ6_stringSize_0f7a4 35 = .ok (.istore_n 2, 1) := by decide +kernel
theorem dJ6_stringSize_0f7a4_36 : decode cJ6_stringSize_0f7a4 36 = .ok (.iinc 3 1, 3) := by decide +kernel
theorem dJ6_stringSize_0f7a4_39 : decode cJ6_stringSize_0f7a4 39 = .ok (.goto (-23), 3) := by decide +kernel
theorem dJ6_stringSize_0f7a4_42 : decode cJ6_stringSize_0f7a4 42 = .ok (.bipush 10, 2) := by decide +kernel
theorem dJ6_stringSize_0f7a4_44 : decode cJ6_stringSize_0f7a4 44 = .ok (.iload_n 1, 1) := by decide +kernel
theorem dJ6_stringSize_0f7a4_45 : decode cJ6_stringSize_0f7a4 45 = .ok (.iadd, 1) := by decide +kernel
theorem dJ6_stringSize_0f7a4_46 : decode cJ6_stringSize_0f7a4 46 = .ok (.ireturn, 1) := by decide +kernel
theorem dJ6_bitCount_0f7a4_0 : decode cJ6_bitCount_0f7a4 0 = .ok (.iload_n 0, 1) := by decide +kernel
theorem dJ6_bitCount_0f7a4_1 : decode cJ6_bitCount_0f7a4 1 = .ok (.iload_n 0, 1) := by decide +kernel
theorem dJ6_bitCount_0f7a4_2 : decode cJ6_bitCount_0f7a4 2 = .ok (.iconst 1, 1) := by decide +kernel
theorem dJ6_bitCount_0f7a4_3 : decode cJ6_bitCount_0f7a4 3 = .ok (.iushr, 1) := by decide +kernel
theorem dJ6_bitCount_0f7a4_4 : decode cJ6_bitCount_0f7a4 4 = .ok (.ldc_w 265, 3) := by decide +kernel
theorem dJ6_bitCount_0f7a4_7 : decode cJ6_bitCount_0f7a4 7 = .ok (.iand, 1) := by decide +kernel
theorem dJ6_bitCount_0f7a4_8 : decode cJ6_bitCount_0f7a4 8 = .ok (.isub, 1) := by decide +kernel
theorem dJ6_bitCount_0f7a4_9 : decode cJ6_bitCount_0f7a4 9 = .ok (.istore_n 0, 1) := by decide +kernel
theorem dJ6_bitCount_0f7a4_10 : decode cJ6_bitCount_0f7a4 10 = .ok (.iload_n 0, 1) := by decide +kernel
theorem dJ6_bitCount_0f7a4_11 : decode cJ6_bitCount_0f7a4 11 = .ok (.ldc_w 266, 3) := by decide +kernel
theorem dJ6_bitCount_0f7a4_14 : decode cJ6_bitCount_0f7a4 14 = .ok (.iand, 1) := by decide +kernel
theorem dJ6_bitCount_0f7a4_15 : decode cJ6_bitCount_0f7a4 15 = .ok (.iload_n 0, 1) := by decide +kernel
theorem dJ6_bitCount_0f7a4_16 : decode cJ6_bitCount_0f7a4 16 = .ok (.iconst 2, 1) := by decide +kernel
theorem dJ6_bitCount_0f7a4_17 : decode cJ6_bitCount_0f7a4 17 = .ok (.iushr, 1) := by decide +kernel
theorem dJ6_bitCount_0f7a4_18 : decode cJ6_bitCount_0f7a4 18 = .ok (.ldc_w 266, 3) := by decide +kernel
theorem dJ6_bitCount_0f7a4_21 : decode cJ6_bitCount_0f7a4 21 = .ok (.iand, 1) := by decide +kernel
theorem dJ6_bitCount_0f7a4_22 : decode cJ6_bitCount_0f7a4 22 = .ok (.iadd, 1) := by decide +kernel
theorem dJ6_bitCount_0f7a4_23 : decode cJ6_bitCount_0f7a4 23 = .ok (.istore_n 0, 1) := by decide +kernel
theorem dJ6_bitCount_0f7a4_24 : decode cJ6_bitCount_0f7a4 24 = .ok (.iload_n 0, 1) := by decide +kernel
theorem dJ6_bitCount_0f7a4_25 : decode cJ6_bitCount_0f7a4 25 = .ok (.iload_n 0, 1) := by decide +kernel
theorem dJ6_bitCount_0f7a4_26 : decode cJ6_bitCount_0f7a4 26 = .ok (.iconst 4, 1) := by decide +kernel
theorem dJ6_bitCount_0f7a4_27 : decode cJ6_bitCount_0f7a4 27 = .ok (.iushr, 1) := by decide +kernel
theorem dJ6_bitCount_0f7a4_28 : decode cJ6_bitCount_0f7a4 28 = .ok (.iadd, 1) := by decide +kernel
theorem dJ6_bitCount_0f7a4_29 : decode cJ6_bitCount_0f7a4 29 = .ok (.ldc_w 267, 3) := by decide +kernel
theorem dJ6_bitCount_0f7a4_32 : decode cJ6_bitCount_0f7a4 32 = .ok (.iand, 1) := by decide +kernel
theorem dJ6_bitCount_0f7a4_33 : decode cJ6_bitCount_0f7a4 33 = .ok (.istore_n 0, 1) := by decide +kernel
theorem dJ6_bitCount_0f7a4_34 : decode cJ6_bitCount_0f7a4 34 = .ok (.iload_n 0, 1) := by decide +kernel
theorem dJ6_bitCount_0f7a4_35 : decode cJ6_bitCount_0f7a4 35 = .ok (.iload_n 0, 1) := by decide +kernel
theorem dJ6_bitCount_0f7a4_36 : decode cJ6_bitCount_0f7a4 36 = .ok (.bipush 8, 2) := by decide +kernel
theorem dJ6_bitCount_0f7a4_38 : decode cJ6_bitCount_0f7a4 38 = .ok (.iushr, 1) := by decide +kernel
theorem dJ6_bitCount_0f7a4_39 : decode cJ6_bitCount_0f7a4 39 = .ok (.iadd, 1) := by decide +kernel
theorem dJ6_bitCount_0f7a4_40 : decode cJ6_bitCount_0f7a4 40 = .ok (.istore_n 0, 1) := by decide +kernel
theorem dJ6_bitCount_0f7a4_41 : decode cJ6_bitCount_0f7a4 41 = .ok (.iload_n 0, 1) := by decide +kernel
theorem dJ6_bitCount_0f7a4_42 : decode cJ6_bitCount_0f7a4 42 = .ok (.iload_n 0, 1) := by decide +kernel
theorem dJ6_bitCount_0f7a4_43 : decode cJ6_bitCount_0f7a4 43 = .ok (.bipush 16, 2) := by decide +kernel
theorem dJ6_bitCount_0f7a4_45 : decode cJ6_bitCount_0f7a4 45 = .ok (.iushr, 1) := by decide +kernel
theorem dJ6_bitCount_0f7a4_46 : decode cJ6_bitCount_0f7a4 46 = .ok (.iadd, 1) := by decide +kernel
theorem dJ6_bitCount_0f7a4_47 : decode cJ6_bitCount_0f7a4 47 = .ok (.istore_n 0, 1) := by decide +kernel
theorem dJ6_bitCount_0f7a4_48 : decode cJ6_bitCount_0f7a4 48 = .ok (.iload_n 0, 1) := by decide +kernel
theorem dJ6_bitCount_0f7a4_49 : decode cJ6_bitCount_0f7a4 49 = .ok (.bipush 63, 2) := by decide +kernel
theorem dJ6_bitCount_0f7a4_51 : decode cJ6_bitCount_0f7a4 51 = .ok (.iand, 1) := by decide +kernel
theorem dJ6_bitCount_0f7a4_52 : decode cJ6_bitCount_0f7a4 52 = .ok (.ireturn, 1) := by decide +kernel
theorem dJ6_reverse_0f7a4_0 : decode cJ6_reverse_0f7a4 0 = .ok (.iload_n 0, 1) := by decide +kernel
theorem dJ6_reverse_0f7a4_1 : decode cJ6_reverse_0f7a4 1 = .ok (.ldc_w 265, 3) := by decide +kernel
theorem dJ6_reverse_0f7a4_4 : decode cJ6_reverse_0f7a4 4 = .ok (.iand, 1) := by decide +kernel
theorem dJ6_reverse_0f7a4_5 : decode cJ6_reverse_0f7a4 5 = .ok (.iconst 1, 1) := by decide +kernel
theorem dJ6_reverse_0f7a4_6 : decode cJ6_reverse_0f7a4 6 = .ok (.ishl, 1) := by decide +kernel
theorem dJ6_reverse_0f7a4_7 : decode cJ6_reverse_0f7a4 7 = .ok (.iload_n 0, 1) := by decide +kernel
theorem dJ6_reverse_0f7a4_8 : decode cJ6_reverse_0f7a4 8 = .ok (.iconst 1, 1) := by decide +kernel
theorem dJ6_reverse_0f7a4_9 : decode cJ6_reverse_0f7a4 9 = .ok (.iushr, 1) := by decide +kernel
theorem dJ6_reverse_0f7a4_10 : decode cJ6_reverse_0f7a4 10 = .ok (.ldc_w 265, 3) := by decide +kernel
theorem dJ6_reverse_0f7a4_13 : decode cJ6_reverse_0f7a4 13 = .ok (.iand, 1) := by decide +kernel
theorem dJ6_reverse_0f7a4_14 : decode cJ6_reverse_0f7a4 14 = .ok (.ior, 1) := by decide +kernel
theorem dJ6_reverse_0f7a4_15 : decode cJ6_reverse_0f7a4 15 = .ok (.istore_n 0, 1) := by decide +kernel
theorem dJ6_reverse_0f7a4_16 : decode cJ6_reverse_0f7a4 16 = .ok (.iload_n 0, 1) := by decide +kernel
theorem dJ6_reverse_0f7a4_17 : decode cJ6_reverse_0f7a4 17 = .ok (.ldc_w 266, 3) := by decide +kernel
theorem dJ6_reverse_0f7a4_20 : decode cJ6_reverse_0f7a4 20 = .ok (.iand, 1) := by decide +kernel
theorem dJ6_reverse_0f7a4_21 : decode cJ6_reverse_0f7a4 21 = .ok (.iconst 2, 1) := by decide +kernel
theorem dJ6_reverse_0f7a4_22 : decode cJ6_reverse_0f7a4 22 = .ok (.ishl, 1) := by decide +kernel
theorem dJ6_reverse_0f7a4_23 : decode cJ6_reverse_0f7a4 23 = .ok (.iload_n 0, 1) := by decide +kernel
theorem dJ6_reverse_0f7a4_24 : decode cJ6_reverse_0f7a4 24 = .ok (.iconst 2, 1) := by decide +kernel
theorem dJ6_reverse_0f7a4_25 : decode cJ6_reverse_0f7a4 25 = .ok (.iushr, 1) := by decide +kernel
theorem dJ6_reverse_0f7a4_26 : decode cJ6_reverse_0f7a4 26 = .ok (.ldc_w 266, 3) := by decide +kernel
theorem dJ6_reverse_0f7a4_29 : decode cJ6_reverse_0f7a4 29 = .ok (.iand, 1) := by decide +kernel
theorem dJ6_reverse_0f7a4_30 : decode cJ6_reverse_0f7a4 30 = .ok (.ior, 1) := by decide +kernel
theorem dJ6_reverse_0f7a4_31 : decode cJ6_reverse_0f7a4 31 = .ok (.istore_n 0, 1) := by decide +kernel
theorem dJ6_reverse_0f7a4_32 : decode cJ6_reverse_0f7a4 32 = .ok (.iload_n 0, 1) := by decide +kernel
theorem dJ6_reverse_0f7a4_33 : decode cJ6_reverse_0f7a4 33 = .ok (.ldc_w 267, 3) := by decide +kernel
theorem dJ6_reverse_0f7a4_36 : decode cJ6_reverse_0f7a4 36 = .ok (.iand, 1) := by decide +kernel
theorem dJ6_reverse_0f7a4_37 : decode cJ6_reverse_0f7a4 37 = .ok (.iconst 4, 1) := by decide +kernel
theorem dJ6_reverse_0f7a4_38 : decode cJ6_reverse_0f7a4 38 = .ok (.ishl, 1) := by decide +kernel
theorem dJ6_reverse_0f7a4_39 : decode cJ6_reverse_0f7a4 39 = .ok (.iload_n 0, 1) := by decide +kernel
theorem dJ6_reverse_0f7a4_40 : decode cJ6_reverse_0f7a4 40 = .ok (.iconst 4, 1) := by decide +kernel
theorem dJ6_reverse_0f7a4_41 : decode cJ6_reverse_0f7a4 41 = .ok (.iushr, 1) := by decide +kernel
theorem dJ6_reverse_0f7a4_42 : decode cJ6_reverse_0f7a4 42 = .ok (.ldc_w 267, 3) := by decide +kernel
theorem dJ6_reverse_0f7a4_45 : decode cJ6_reverse_0f7a4 45 = .ok (.iand, 1) := by decide +kernel
theorem dJ6_reverse_0f7a4_46 : decode cJ6_reverse_0f7a4 46 = .ok (.ior, 1) := by decide +kernel
theorem dJ6_reverse_0f7a4_47 : decode cJ6_reverse_0f7a4 47 = .ok (.istore_n 0, 1) := by decide +kernel
theorem dJ6_reverse_0f7a4_48 : decode cJ6_reverse_0f7a4 48 = .ok (.iload_n 0, 1) := by decide +kernel
theorem dJ6_reverse_0f7a4_49 : decode cJ6_reverse_0f7a4 49 = .ok (.invokestatic 268, 3) := by decide +kernel
theorem dJ6_reverse_0f7a4_52 : decode cJ6_reverse_0f7a4 52 = .ok (.ireturn, 1) := by decide +kernel
theorem dJ6_reverseBytes_0f7a4_0 : decode cJ6_reverseBytes_0f7a4 0 = .ok (.iload_n 0, 1) := by decide +kernel
theorem dJ6_reverseBytes_0f7a4_1 : decode cJ6_reverseBytes_0f7a4 1 = .ok (.bipush 24, 2) := by decide +kernel
theorem dJ6_reverseBytes_0f7a4_3 : decode cJ6_reverseBytes_0f7a4 3 = .ok (.ishl, 1) := by decide +kernel
theorem dJ6_reverseBytes_0f7a4_4 : decode cJ6_reverseBytes_0f7a4 4 = .ok (.iload_n 0, 1) := by decide +kernel
theorem dJ6_reverseBytes_0f7a4_5 : decode cJ6_reverseBytes_0f7a4 5 = .ok (.ldc_w 274, 3) := by decide +kernel
theorem dJ6_reverseBytes_0f7a4_8 : decode cJ6_reverseBytes_0f7a4 8 = .ok (.iand, 1) := by decide +kernel
theorem dJ6_reverseBytes_0f7a4_9 : decode cJ6_reverseBytes_0f7a4 9 = .ok (.bipush 8, 2) := by decide +kernel
theorem dJ6_reverseBytes_0f7a4_11 : decode cJ6_reverseBytes_0f7a4 11 = .ok (.ishl, 1) := by decide +kernel
theorem dJ6_reverseBytes_0f7a4_12 : decode cJ6_reverseBytes_0f7a4 12 = .ok (.ior, 1) := by decide +kernel
theorem dJ6_reverseBytes_0f7a4_13 : decode cJ6_reverseBytes_0f7a4 13 = .ok (.iload_n 0, 1) := by decide +kernel
theorem dJ6_reverseBytes_0f7a4_14 : decode cJ6_reverseBytes_0f7a4 14 = .ok (.bipush 8, 2) := by decide +kernel
theorem dJ6_reverseBytes_0f7a4_16 : decode cJ6_reverseBytes_0f7a4 16 = .ok (.iushr, 1) := by decide +kernel
theorem dJ6_reverseBytes_0f7a4_17 : decode cJ6_reverseBytes_0f7a4 17 = .ok (.ldc_w 274, 3) := by decide +kernel
theorem dJ6_reverseBytes_0f7a4_20 : decode cJ6_reverseBytes_0f7a4 20 = .ok (.iand, 1) := by decide +kernel
theorem dJ6_reverseBytes_0f7a4_21 : decode cJ6_reverseBytes_0f7a4 21 = .ok (.ior, 1) := by decide +kernel
theorem dJ6_reverseBytes_0f7a4_22 : decode cJ6_reverseBytes_0f7a4 22 = .ok (.iload_n 0, 1) := by decide +kernel
theorem dJ6_reverseBytes_0f7a4_23 : decode cJ6_reverseBytes_0f7a4 23 = .ok (.bipush 24, 2) := by decide +kernel
theorem dJ6_reverseBytes_0f7a4_25 : decode cJ6_reverseBytes_0f7a4 25 = .ok (.iushr, 1) := by decide +kernel
theorem dJ6_reverseBytes_0f7a4_26 : decode cJ6_reverseBytes_0f7a4 26 = .ok (.ior, 1) := by decide +kernel
theorem dJ6_reverseBytes_0f7a4_27 : decode cJ6_reverseBytes_0f7a4 27 = .ok (.ireturn, 1) := by decide +kernel
theorem dJ9_abs_067f4_0 : decode cJ9_abs_067f4 0 = .ok (.lload_n 0, 1) := by decide +kernel
theorem dJ9_abs_067f4_1 : decode cJ9_abs_067f4 1 = .ok (.lconst 0, 1) := by decide +kernel
theorem dJ9_abs_067f4_2 : decode cJ9_abs_067f4 2 = .ok (.lcmp, 1) := by decide +kernel
theorem dJ9_abs_067f4_3 : decode cJ9_abs_067f4 3 = .ok (.ifCond .ge 8, 3) := by decide +kernel
theorem dJ9_abs_067f4_6 : decode cJ9_abs_067f4 6 = .ok (.lload_n 0, 1) := by decide +kernel
theorem dJ9_abs_067f4_7 : decode cJ9_abs_067f4 7 = .ok (.lneg, 1) := by decide +kernel
theorem dJ9_abs_067f4_8 : decode cJ9_abs_067f4 8 = .ok (.goto 4, 3) := by decide +kernel
theorem dJ9_abs_067f4_11 : decode cJ9_abs_067f4 11 = .ok (.lload_n 0, 1) := by decide +kernel
theorem dJ9_abs_067f4_12 : decode cJ9_abs_067f4 12 = .ok (.lreturn, 1) := by decide +kernel
theorem dJ9_max_7cf53_0 : decode cJ9_max_7cf53 0 = .ok (.iload_n 0, 1) := by decide +kernel
theorem dJ9_max_7cf53_1 : decode cJ9_max_7cf53 1 = .ok (.iload_n 1, 1) := by decide +kernel
theorem dJ9_max_7cf53_2 : decode cJ9_max_7cf53 2 = .ok (.if_icmp .lt 7, 3) := by decide +kernel
theorem dJ9_max_7cf53_5 : decode cJ9_max_7cf53 5 = .ok (.iload_n 0, 1) := by decide +kernel
theorem dJ9_max_7cf53_6 : decode cJ9_max_7cf53 6 = .ok (.goto 4, 3) := by decide +kernel
theorem dJ9_max_7cf53_9 : decode cJ9_max_7cf53 9 = .ok (.iload_n 1, 1) := by decide +kernel
theorem dJ9_max_7cf53_10 : decode cJ9_max_7cf53 10 = .ok (.ireturn, 1) := by decide +kernel
theorem dJ9_max_f86c9_0 : decode cJ9_max_f86c9 0 = .ok (.lload_n 0, 1) := by decide +kernel
theorem dJ9_max_f86c9_1 : decode cJ9_max_f86c9 1 = .ok (.lload_n 2, 1) := by decide +kernel
theorem dJ9_max_f86c9_2 : decode cJ9_max_f86c9 2 = .ok (.lcmp, 1) := by decide +kernel
theorem dJ9_max_f86c9_3 : decode cJ9_max_f86c9 3 = .ok (.ifCond .lt 7, 3) := by decide +kernel
theorem dJ9_max_f86c9_6 : decode cJ9_max_f86c9 6 = .ok (.lload_n 0, 1) := by decide +kernel
theorem dJ9_max_f86c9_7 : decode cJ9_max_f86c9 7 = .ok (.goto 4, 3) := by decide +kernel
theorem dJ9_max_f86c9_10 : decode cJ9_max_f86c9 10 = .ok (.lload_n 2, 1) := by decide +kernel
theorem dJ9_max_f86c9_11 : decode cJ9_max_f86c9 11 = .ok (.lreturn, 1) := by decide +kernel
theorem dJ9_min_7cf53_0 : decode cJ9_min_7cf53 0 = .ok (.iload_n 0, 1) := by decide +kernel
theorem dJ9_min_7cf53_1 : decode cJ9_min_7cf53 1 = .ok (.iload_n 1, 1) := by decide +kernel
theorem dJ9_min_7cf53_2 : decode cJ9_min_7cf53 2 = .ok (.if_icmp .gt 7, 3) := by decide +kernel
theorem dJ9_min_7cf53_5 : decode cJ9_min_7cf53 5 = .ok (.iload_n 0, 1) := by decide +kernel
theorem dJ9_min_7cf53_6 : decode cJ9_min_7cf53 6 = .ok (.goto 4, 3) := by decide +kernel
theorem dJ9_min_7cf53_9 : decode cJ9_min_7cf53 9 = .ok (.iload_n 1, 1) := by decide +kernel
theorem dJ9_min_7cf53_10 : decode cJ9_min_7cf53 10 = .ok (.ireturn, 1) := by decide +kernel
theorem dJ9_min_f86c9_0 : decode cJ9_min_f86c9 0 = .ok (.lload_n 0, 1) := by decide +kernel
theorem dJ9_min_f86c9_1 : decode cJ9_min_f86c9 1 = .ok (.lload_n 2, 1) := by decide +kernel
theorem dJ9_min_f86c9_2 : decode cJ9_min_f86c9 2 = .ok (.lcmp, 1) := by decide +kernel
theorem dJ9_min_f86c9_3 : decode cJ9_min_f86c9 3 = .ok (.ifCond .gt 7, 3) := by decide +kernel
theorem dJ9_min_f86c9_6 : decode cJ9_min_f86c9 6 = .ok (.lload_n 0, 1) := by decide +kernel
theorem dJ9_min_f86c9_7 : decode cJ9_min_f86c9 7 = .ok (.goto 4, 3) := by decide +kernel
theorem dJ9_min_f86c9_10 : decode cJ9_min_f86c9 10 = .ok (.lload_n 2, 1) := by decide +kernel
theorem dJ9_min_f86c9_11 : decode cJ9_min_f86c9 11 = .ok (.lreturn, 1) := by decide +kernel
theorem dJ0_init_81219_0 : decode cJ0_init_81219 0 = .ok (.aload_n 0, 1) := by decide +kernel
theorem dJ0_init_81219_1 : decode cJ0_init_81219 1 = .ok (.aload_n 1, 1) := by decide +kernel
theorem dJ0_init_81219_2 : decode cJ0_init_81219 2 = .ok (.aconst_null, 1) := by decide +kernel
theorem dJ0_init_81219_3 : decode cJ0_init_81219 3 = .ok (.invokespecial 489, 3) := by decide +kernel
theorem dJ0_init_81219_6 : decode cJ0_init_81219 6 = .ok (.return_, 1) := by decide +kernel
theorem dJ0_length_8abf5_0 : decode cJ0_length_8abf5 0 = .ok (.aload_n 0, 1) := by decide +kernel
theorem dJ0_length_8abf5_1 : decode cJ0_length_8abf5 1 = .ok (.getfield 9, 3) := by decide +kernel
theorem dJ0_length_8abf5_4 : decode cJ0_length_8abf5 4 = .ok (.arraylength, 1) := by decide +kernel
theorem dJ0_length_8abf5_5 : decode cJ0_length_8abf5 5 = .ok (.aload_n 0, 1) := by decide +kernel
theorem dJ0_length_8abf5_6 : decode cJ0_length_8abf5 6 = .ok (.invokevirtual 335, 3) := by decide +kernel
theorem dJ0_length_8abf5_9 : decode cJ0_length_8abf5 9 = .ok (.ishr, 1) := by decide +kernel
theorem dJ0_length_8abf5_10 : decode cJ0_length_8abf5 10 = .ok (.ireturn, 1) := by decide +kernel
theorem dJ0_charAt_5068e_0 : decode cJ0_charAt_5068e 0 = .ok (.aload_n 0, 1) := by decide +kernel
theorem dJ0_charAt_5068e_1 : decode cJ0_charAt_5068e 1 = .ok (.invokevirtual 492, 3) := by decide +kernel
theorem dJ0_charAt_5068e_4 : decode cJ0_charAt_5068e 4 = .ok (.ifCond .eq 12, 3) := by decide +kernel
theorem dJ0_charAt_5068e_7 : decode cJ0_charAt_5068e 7 = .ok (.aload_n 0, 1) := by decide +kernel
theorem dJ0_charAt_5068e_8 : decode cJ0_charAt_5068e 8 = .ok (.getfield 9, 3) := by decide +kernel
theorem dJ0_charAt_5068e_11 : decode cJ0_charAt_5068e 11 = .ok (.iload_n 1, 1) := by decide +kernel
theorem dJ0_charAt_5068e_12 : decode cJ0_charAt_5068e 12 = .ok (.invokestatic 495, 3) := by decide +kernel
theorem dJ0_charAt_5068e_15 : decode cJ0_charAt_5068e 15 = .ok (.ireturn, 1) := by decide +kernel
theorem dJ0_charAt_5068e_16 : decode cJ0_charAt_5068e 16 = .ok (.aload_n 0, 1) := by decide +kernel
theorem dJ0_charAt_5068e_17 : decode cJ0_charAt_5068e 17 = .ok (.getfield 9, 3) := by decide +kernel
theorem dJ0_charAt_5068e_20 : decode cJ0_charAt_5068e 20 = .ok (.iload_n 1, 1) := by decide +kernel
theorem dJ0_charAt_5068e_21 : decode cJ0_charAt_5068e 21 = .ok (.invokestatic 498, 3) := by decide +kernel
theorem dJ0_charAt_5068e_24 : decode cJ0_charAt_5068e 24 = .ok (.ireturn, 1) := by decide +kernel
theorem dJ0_getBytes_840e7_0 : decode cJ0_getBytes_840e7 0 = .ok (.aload_n 0, 1) := by decide +kernel
theorem dJ0_getBytes_840e7_1 : decode cJ0_getBytes_840e7 1 = .ok (.invokevirtual 335, 3) := by decide +kernel
theorem dJ0_getBytes_840e7_4 : decode cJ0_getBytes_840e7 4 = .ok (.iload_n 3, 1) := by decide +kernel
theorem dJ0_getBytes_840e7_5 : decode cJ0_getBytes_840e7 5 = .ok (.if_icmp .ne 23, 3) := by decide +kernel
theorem dJ0_getBytes_840e7_8 : decode cJ0_getBytes_840e7 8 = .ok (.aload_n 0, 1) := by decide +kernel
theorem dJ0_getBytes_840e7_9 : decode cJ0_getBytes_840e7 9 = .ok (.getfield 9, 3) := by decide +kernel
theorem dJ0_getBytes_840e7_12 : decode cJ0_getBytes_840e7 12 = .ok (.iconst 0, 1) := by decide +kernel
theorem dJ0_getBytes_840e7_13 : decode cJ0_getBytes_840e7 13 = .ok (.aload_n 1, 1) := by decide +kernel
theorem dJ0_getBytes_840e7_14 : decode cJ0_getBytes_840e7 14 = .ok (.iload_n 2, 1) := by decide +kernel
theorem dJ0_getBytes_840e7_15 : decode cJ0_getBytes_840e7 15 = .ok (.iload_n 3, 1) := by decide +kernel
theorem dJ0_getBytes_840e7_16 : decode cJ0_getBytes_840e7 16 = .ok (.ishl, 1) := by decide +kernel
theorem dJ0_getBytes_840e7_17 : decode cJ0_getBytes_840e7 17 = .ok (.aload_n 0, 1) := by decide +kernel
theorem dJ0_getBytes_840e7_18 : decode cJ0_getBytes_840e7 18 = .ok (.getfield 9, 3) := by decide +kernel
theorem dJ0_getBytes_840e7_21 : decode cJ0_getBytes_840e7 21 = .ok (.arraylength, 1) := by decide +kernel
theorem dJ0_getBytes_840e7_22 : decode cJ0_getBytes_840e7 22 = .ok (.invokestatic 212, 3) := by decide +kernel
theorem dJ0_getBytes_840e7_25 : decode cJ0_getBytes_840e7 25 = .ok (.goto 18, 3) := by decide +kernel
theorem dJ0_getBytes_840e7_28 : decode cJ0_getBytes_840e7 28 = .ok (.aload_n 0, 1) := by decide +kernel
theorem dJ0_getBytes_840e7_29 : decode cJ0_getBytes_840e7 29 = .ok (.getfield 9, 3) := by decide +kernel
theorem dJ0_getBytes_840e7_32 : decode cJ0_getBytes_840e7 32 = .ok (.iconst 0, 1) := by decide +kernel
theorem dJ0_getBytes_840e7_33 : decode cJ0_getBytes_840e7 33 = .ok (.aload_n 1, 1) := by decide +kernel
theorem dJ0_getBytes_840e7_34 : decode cJ0_getBytes_840e7 34 = .ok (.iload_n 2, 1) := by decide +kernel
theorem dJ0_getBytes_840e7_35 : decode cJ0_getBytes_840e7 35 = .ok (.aload_n 0, 1) := by decide +kernel
theorem dJ0_getBytes_840e7_36 : decode cJ0_getBytes_840e7 36 = .ok (.getfield 9, 3) := by decide +kernel
theorem dJ0_getBytes_840e7_39 : decode cJ0_getBytes_840e7 39 = .ok (.arraylength, 1) := by decide +kernel
theorem dJ0_getBytes_840e7_40 : decode cJ0_getBytes_840e7 40 = .ok (.invokestatic 106, 3) := by decide +kernel
theorem dJ0_getBytes_840e7_43 : decode cJ0_getBytes_840e7 43 = .ok (.return_, 1) := by decide +kernel
theorem dJ0_init_db425_0 : decode cJ0_init_db425 0 = .ok (.aload_n 0, 1) := by decide +kernel
theorem dJ0_init_db425_1 : decode cJ0_init_db425 1 = .ok (.invokespecial 1, 3) := by decide +kernel
theorem dJ0_init_db425_4 : decode cJ0_init_db425 4 = .ok (.aload_n 1, 1) := by decide +kernel
theorem dJ0_init_db425_5 : decode cJ0_init_db425 5 = .ok (.invokevirtual 552, 3) := by decide +kernel
theorem dJ0_init_db425_8 : decode cJ0_init_db425 8 = .ok (.astore_n 3, 1) := by decide +kernel
theorem dJ0_init_db425_9 : decode cJ0_init_db425 9 = .ok (.aload_n 1, 1) := by decide +kernel
theorem dJ0_init_db425_10 : decode cJ0_init_db425 10 = .ok (.invokevirtual 549, 3) := by decide +kernel
theorem dJ0_init_db425_13 : decode cJ0_init_db425 13 = .ok (.istore 4, 2) := by decide +kernel
theorem dJ0_init_db425_15 : decode cJ0_init_db425 15 = .ok (.aload_n 1, 1) := by decide +kernel
theorem dJ0_init_db425_16 : decode cJ0_init_db425 16 = .ok (.invokevirtual 1047, 3) := by decide +kernel
theorem dJ0_init_db425_19 : decode cJ0_init_db425 19 = .ok (.ifCond .eq 22, 3) := by decide +kernel
theorem dJ0_init_db425_22 : decode cJ0_init_db425 22 = .ok (.aload_n 0, 1) := by decide +kernel
theorem dJ0_init_db425_23 : decode cJ0_init_db425 23 = .ok (.iconst 0, 1) := by decide +kernel
theorem dJ0_init_db425_24 : decode cJ0_init_db425 24 = .ok (.putfield 15, 3) := by decide +kernel
theorem dJ0_init_db425_27 : decode cJ0_init_db425 27 = .ok (.aload_n 0, 1) := by decide +kernel
theorem dJ0_init_db425_28 : decode cJ0_init_db425 28 = .ok (.aload_n 3, 1) := by decide +kernel
theorem dJ0_init_db425_29 : decode cJ0_init_db425 29 = .ok (.iconst 0, 1) := by decide +kernel
theorem dJ0_init_db425_30 : decode cJ0_init_db425 30 = .ok (.iload 4, 2) := by decide +kernel
theorem dJ0_init_db425_32 : decode cJ0_init_db425 32 = .ok (.invokestatic 54, 3) := by decide +kernel
theorem dJ0_init_db425_35 : decode cJ0_init_db425 35 = .ok (.putfield 9, 3) := by decide +kernel
theorem dJ0_init_db425_38 : decode cJ0_init_db425 38 = .ok (.goto 59, 3) := by decide +kernel
theorem dJ0_init_db425_41 : decode cJ0_init_db425 41 = .ok (.getstatic 38, 3) := by decide +kernel
theorem dJ0_init_db425_44 : decode cJ0_init_db425 44 = .ok (.ifCond .eq 35, 3) := by decide +kernel
theorem dJ0_init_db425_47 : decode cJ0_init_db425 47 = .ok (.aload_n 1, 1) := by decide +kernel
theorem dJ0_init_db425_48 : decode cJ0_init_db425 48 = .ok (.getfield 1048, 3) := by decide +kernel
theorem dJ0_init_db425_51 : decode cJ0_init_db425 51 = .ok (.ifCond .eq 28, 3) := by decide +kernel
theorem dJ0_init_db425_54 : decode cJ0_init_db425 54 = .ok (.aload_n 0, 1) := by decide +kernel
theorem dJ0_init_db425_55 : decode cJ0_init_db425 55 = .ok (.aload_n 3, 1) := by decide +kernel
theorem dJ0_init_db425_56 : decode cJ0_init_db425 56 = .ok (.iconst 0, 1) := by decide +kernel
theorem dJ0_init_db425_57 : decode cJ0_init_db425 57 = .ok (.iload 4, 2) := by decide +kernel
theorem dJ0_init_db425_59 : decode cJ0_init_db425 59 = .ok (.invokestatic 1051, 3) := by decide +kernel
theorem dJ0_init_db425_62 : decode cJ0_init_db425 62 = .ok (.putfield 9, 3) := by decide +kernel
theorem dJ0_init_db425_65 : decode cJ0_init_db425 65 = .ok (.aload_n 0, 1) := by decide +kernel
theorem dJ0_init_db425_66 : decode cJ0_init_db425 66 = .ok (.aload_n 0, 1) := by decide +kernel
theorem dJ0_init_db425_67 : decode cJ0_init_db425 67 = .ok (.getfield 9, 3) := by decide +kernel
theorem dJ0_init_db425_70 : decode cJ0_init_db425 70 = .ok (.iload 4, 2) := by decide +kernel
theorem dJ0_init_db425_72 : decode cJ0_init_db425 72 = .ok (.invokestatic 47, 3) := by decide +kernel
theorem dJ0_init_db425_75 : decode cJ0_init_db425 75 = .ok (.putfield 15, 3) := by decide +kernel
theorem dJ0_init_db425_78 : decode cJ0_init_db425 78 = .ok (.return_, 1) := by decide +kernel
theorem dJ0_init_db425_79 : decode cJ0_init_db425 79 = .ok (.aload_n 0, 1) := by decide +kernel
theorem dJ0_init_db425_80 : decode cJ0_init_db425 80 = .ok (.iconst 1, 1) := by decide +kernel
theorem dJ0_init_db425_81 : decode cJ0_init_db425 81 = .ok (.putfield 15, 3) := by decide +kernel
theorem dJ0_init_db425_84 : decode cJ0_init_db425 84 = .ok (.aload_n 0, 1) := by decide +kernel
theorem dJ0_init_db425_85 : decode cJ0_init_db425 85 = .ok (.aload_n 3, 1) := by decide +kernel
theorem dJ0_init_db425_86 : decode cJ0_init_db425 86 = .ok (.iconst 0, 1) := by decide +kernel
theorem dJ0_init_db425_87 : decode cJ0_init_db425 87 = .ok (.iload 4, 2) := by decide +kernel
theorem dJ0_init_db425_89 : decode cJ0_init_db425 89 = .ok (.iconst 1, 1) := by decide +kernel
theorem dJ0_init_db425_90 : decode cJ0_init_db425 90 = .ok (.ishl, 1) := by decide +kernel
theorem dJ0_init_db425_91 : decode cJ0_init_db425 91 = .ok (.invokestatic 54, 3) := by decide +kernel
theorem dJ0_init_db425_94 : decode cJ0_init_db425 94 = .ok (.putfield 9, 3) := by decide +kernel
theorem dJ0_init_db425_97 : decode cJ0_init_db425 97 = .ok (.return_, 1) := by decide +kernel
theorem dJ0_coder_7d493_0 : decode cJ0_coder_7d493 0 = .ok (.getstatic 38, 3) := by decide +kernel
theorem dJ0_coder_7d493_3 : decode cJ0_coder_7d493 3 = .ok (.ifCond .eq 10, 3) := by decide +kernel
theorem dJ0_coder_7d493_6 : decode cJ0_coder_7d493 6 = .ok (.aload_n 0, 1) := by decide +kernel
theorem dJ0_coder_7d493_7 : decode cJ0_coder_7d493 7 = .ok (.getfield 15, 3) := by decide +kernel
theorem dJ0_coder_7d493_10 : decode cJ0_coder_7d493 10 = .ok (.goto 4, 3) := by decide +kernel
theorem dJ0_coder_7d493_13 : decode cJ0_coder_7d493 13 = .ok (.iconst 1, 1) := by decide +kernel
theorem dJ0_coder_7d493_14 : decode cJ0_coder_7d493 14 = .ok (.ireturn, 1) := by decide +kernel
theorem dJ0_isLatin1_aae02_0 : decode cJ0_isLatin1_aae02 0 = .ok (.getstatic 38, 3) := by decide +kernel
theorem dJ0_isLatin1_aae02_3 : decode cJ0_isLatin1_aae02 3 = .ok (.ifCond .eq 14, 3) := by decide +kernel
theorem dJ0_isLatin1_aae02_6 : decode cJ0_isLatin1_aae02 6 = .ok (.aload_n 0, 1) := by decide +kernel
theorem dJ0_isLatin1_aae02_7 : decode cJ0_isLatin1_aae02 7 = .ok (.getfield 15, 3) := by decide +kernel
theorem dJ0_isLatin1_aae02_10 : decode cJ0_isLatin1_aae02 10 = .ok (.ifCond .ne 7, 3) := by decide +kernel
theorem dJ0_isLatin1_aae02_13 : decode cJ0_isLatin1_aae02 13 = .ok (.iconst 1, 1) := by decide +kernel
theorem dJ0_isLatin1_aae02_14 : decode cJ0_isLatin1_aae02 14 = .ok (.goto 4, 3) := by decide +kernel
theorem dJ0_isLatin1_aae02_17 : decode cJ0_isLatin1_aae02 17 = .ok (.iconst 0, 1) := by decide +kernel
theorem dJ0_isLatin1_aae02_18 : decode cJ0_isLatin1_aae02 18 = .ok (.ireturn, 1) := by decide +kernel
theorem dJ0_checkIndex_df160_0 : decode cJ0_checkIndex_df160 0 = .ok (.iload_n 0, 1) := by decide +kernel
theorem dJ0_checkIndex_df160_1 : decode cJ0_checkIndex_df160 1 = .ok (.iload_n 1, 1) := by decide +kernel
theorem dJ0_checkIndex_df160_2 : decode cJ0_checkIndex_df160 2 = .ok (.getstatic 1053, 3) := by decide +kernel
theorem dJ0_checkIndex_df160_5 : decode cJ0_checkIndex_df160 5 = .ok (.invokestatic 1059, 3) := by decide +kernel
theorem dJ0_checkIndex_df160_8 : decode cJ0_checkIndex_df160 8 = .ok (.pop, 1) := by decide +kernel
theorem dJ0_checkIndex_df160_9 : decode cJ0_checkIndex_df160 9 = .ok (.return_, 1) := by decide +kernel
theorem dJ0_checkBoundsOffCount_cabcc_0 : decode cJ0_checkBoundsOffCount_cabcc 0 = .ok (.iload_n 0, 1) := by decide +kernel
theorem dJ0_checkBoundsOffCount_cabcc_1 : decode cJ0_checkBoundsOffCount_cabcc 1 = .ok (.iload_n 1, 1) := by decide +kernel
theorem dJ0_checkBoundsOffCount_cabcc_2 : decode cJ0_checkBoundsOffCount_cabcc 2 = .ok (.iload_n 2, 1) := by decide +kernel
theorem dJ0_checkBoundsOffCount_cabcc_3 : decode cJ0_checkBoundsOffCount_cabcc 3 = .ok (.getstatic 1053, 3) := by decide +kernel
theorem dJ0_checkBoundsOffCount_cabcc_6 : decode cJ0_checkBoundsOffCount_cabcc 6 = .ok (.invokestatic 1065, 3) := by decide +kernel
theorem dJ0_checkBoundsOffCount_cabcc_9 : decode cJ0_checkBoundsOffCount_cabcc 9 = .ok (.ireturn, 1) := by decide +kernel
theorem dJ0_checkBoundsBeginEnd_23922_0 : decode cJ0_checkBoundsBeginEnd_23922 0 = .ok (.iload_n 0, 1) := by decide +kernel
theorem dJ0_checkBoundsBeginEnd_23922_1 : decode cJ0_checkBoundsBeginEnd_23922 1 = .ok (.iload_n 1, 1) := by decide +kernel
theorem dJ0_checkBoundsBeginEnd_23922_2 : decode cJ0_checkBoundsBeginEnd_23922 2 = .ok (.iload_n 2, 1) := by decide +kernel
theorem dJ0_checkBoundsBeginEnd_23922_3 : decode cJ0_checkBoundsBeginEnd_23922 3 = .ok (.getstatic 1053, 3) := by decide +kernel
theorem dJ0_checkBoundsBeginEnd_23922_6 : decode cJ0_checkBoundsBeginEnd_23922 6 = .ok (.invokestatic 1062, 3) := by decide +kernel
theorem dJ0_checkBoundsBeginEnd_23922_9 : decode cJ0_checkBoundsBeginEnd_23922 9 = .ok (.pop, 1) := by decide +kernel
theorem dJ0_checkBoundsBeginEnd_23922_10 : decode cJ0_checkBoundsBeginEnd_23922 10 = .ok (.return_, 1) := by decide +kernel
theorem dJ4_init_da8c8_0 : decode cJ4_init_da8c8 0 = .ok (.aload_n 0, 1) := by decide +kernel
theorem dJ4_init_da8c8_1 : decode cJ4_init_da8c8 1 = .ok (.bipush 16, 2) := by decide +kernel
theorem dJ4_init_da8c8_3 : decode cJ4_init_da8c8 3 = .ok (.invokespecial 1, 3) := by decide +kernel
theorem dJ4_init_da8c8_6 : decode cJ4_init_da8c8 6 = .ok (.return_, 1) := by decide +kernel
theorem dJ4_append_15ec4_0 : decode cJ4_append_15ec4 0 = .ok (.aload_n 0, 1) := by decide +kernel
theorem dJ4_append_15ec4_1 : decode cJ4_append_15ec4 1 = .ok (.aload_n 1, 1) := by decide +kernel
theorem dJ4_append_15ec4_2 : decode cJ4_append_15ec4 2 = .ok (.invokespecial 29, 3) := by decide +kernel
theorem dJ4_append_15ec4_5 : decode cJ4_append_15ec4 5 = .ok (.pop, 1) := by decide +kernel
theorem dJ4_append_15ec4_6 : decode cJ4_append_15ec4 6 = .ok (.aload_n 0, 1) := by decide +kernel
theorem dJ4_append_15ec4_7 : decode cJ4_append_15ec4 7 = .ok (.areturn, 1) := by decide +kernel
theorem dJ4_append_cf468_0 : decode cJ4_append_cf468 0 = .ok (.aload_n 0, 1) := by decide +kernel
theorem dJ4_append_cf468_1 : decode cJ4_append_cf468 1 = .ok (.iload_n 1, 1) := by decide +kernel
theorem dJ4_append_cf468_2 : decode cJ4_append_cf468 2 = .ok (.invokespecial 50, 3) := by decide +kernel
theorem dJ4_append_cf468_5 : decode cJ4_append_cf468 5 = .ok (.pop, 1) := by decide +kernel
theorem dJ4_append_cf468_6 : decode cJ4_append_cf468 6 = .ok (.aload_n 0, 1) := by decide +kernel
theorem dJ4_append_cf468_7 : decode cJ4_append_cf468 7 = .ok (.areturn, 1) := by decide +kernel
theorem dJ4_append_bf812_0 : decode cJ4_append_bf812 0 = .ok (.aload_n 0, 1) := by decide +kernel
theorem dJ4_append_bf812_1 : decode cJ4_append_bf812 1 = .ok (.iload_n 1, 1) := by decide +kernel
theorem dJ4_append_bf812_2 : decode cJ4_append_bf812 2 = .ok (.invokespecial 53, 3) := by decide +kernel
theorem dJ4_append_bf812_5 : decode cJ4_append_bf812 5 = .ok (.pop, 1) := by decide +kernel
theorem dJ4_append_bf812_6 : decode cJ4_append_bf812 6 = .ok (.aload_n 0, 1) := by decide +kernel
theorem dJ4_append_bf812_7 : decode cJ4_append_bf812 7 = .ok (.areturn, 1) := by decide +kernel
theorem dJ4_toString_0e30d_0 : decode cJ4_toString_0e30d 0 = .ok (.new 18, 3) := by decide +kernel
theorem dJ4_toString_0e30d_3 : decode cJ4_toString_0e30d 3 = .ok (.dup, 1) := by decide +kernel
theorem dJ4_toString_0e30d_4 : decode cJ4_toString_0e30d 4 = .ok (.aload_n 0, 1) := by decide +kernel
theorem dJ4_toString_0e30d_5 : decode cJ4_toString_0e30d 5 = .ok (.invokespecial 137, 3) := by decide +kernel
theorem dJ4_toString_0e30d_8 : decode cJ4_toString_0e30d 8 = .ok (.areturn, 1) := by decide +kernel
theorem dJ4_charAt_5068e_0 : decode cJ4_charAt_5068e 0 = .ok (.aload_n 0, 1) := by decide +kernel
theorem dJ4_charAt_5068e_1 : decode cJ4_charAt_5068e 1 = .ok (.iload_n 1, 1) := by decide +kernel
theorem dJ4_charAt_5068e_2 : decode cJ4_charAt_5068e 2 = .ok (.invokespecial 329, 3) := by decide +kernel
theorem dJ4_charAt_5068e_5 : decode cJ4_charAt_5068e 5 = .ok (.ireturn, 1) := by decide +kernel
theorem dJ4_setLength_d00df_0 : decode cJ4_setLength_d00df 0 = .ok (.aload_n 0, 1) := by decide +kernel
theorem dJ4_setLength_d00df_1 : decode cJ4_setLength_d00df 1 = .ok (.iload_n 1, 1) := by decide +kernel
theorem dJ4_setLength_d00df_2 : decode cJ4_setLength_d00df 2 = .ok (.invokespecial 333, 3) := by decide +kernel
theorem dJ4_setLength_d00df_5 : decode cJ4_setLength_d00df 5 = .ok (.return_, 1) := by decide +kernel
theorem dJ4_length_8abf5_0 : decode cJ4_length_8abf5 0 = .ok (.aload_n 0, 1) := by decide +kernel
theorem dJ4_length_8abf5_1 : decode cJ4_length_8abf5 1 = .ok (.invokespecial 343, 3) := by decide +kernel
theorem dJ4_length_8abf5_4 : decode cJ4_length_8abf5 4 = .ok (.ireturn, 1) := by decide +kernel
theorem dJ1_charAt_3b067_0 : decode cJ1_charAt_3b067 0 = .ok (.iload_n 1, 1) := by decide +kernel
theorem dJ1_charAt_3b067_1 : decode cJ1_charAt_3b067 1 = .ok (.aload_n 0, 1) := by decide +kernel
theorem dJ1_charAt_3b067_2 : decode cJ1_charAt_3b067 2 = .ok (.arraylength, 1) := by decide +kernel
theorem dJ1_charAt_3b067_3 : decode cJ1_charAt_3b067 3 = .ok (.invokestatic 9, 3) := by decide +kernel
theorem dJ1_charAt_3b067_6 : decode cJ1_charAt_3b067 6 = .ok (.aload_n 0, 1) := by decide +kernel
theorem dJ1_charAt_3b067_7 : decode cJ1_charAt_3b067 7 = .ok (.iload_n 1, 1) := by decide +kernel
theorem dJ1_charAt_3b067_8 : decode cJ1_charAt_3b067 8 = .ok (.baload, 1) := by decide +kernel
theorem dJ1_charAt_3b067_9 : decode cJ1_charAt_3b067 9 = .ok (.sipush 255, 3) := by decide +kernel
theorem dJ1_charAt_3b067_12 : decode cJ1_charAt_3b067 12 = .ok (.iand, 1) := by decide +kernel
theorem dJ1_charAt_3b067_13 : decode cJ1_charAt_3b067 13 = .ok (.i2c, 1) := by decide +kernel
theorem dJ1_charAt_3b067_14 : decode cJ1_charAt_3b067 14 = .ok (.ireturn, 1) := by decide +kernel
theorem dJ1_canEncode_fc78d_0 : decode cJ1_canEncode_fc78d 0 = .ok (.iload_n 0, 1) := by decide +kernel
theorem dJ1_canEncode_fc78d_1 : decode cJ1_canEncode_fc78d 1 = .ok (.sipush 255, 3) := by decide +kernel
theorem dJ1_canEncode_fc78d_4 : decode cJ1_canEncode_fc78d 4 = .ok (.if_icmp .gt 7, 3) := by decide +kernel
theorem dJ1_canEncode_fc78d_7 : decode cJ1_canEncode_fc78d 7 = .ok (.iconst 1, 1) := by decide +kernel
theorem dJ1_canEncode_fc78d_8 : decode cJ1_canEncode_fc78d 8 = .ok (.goto 4, 3) := by decide +kernel
theorem dJ1_canEncode_fc78d_11 : decode cJ1_canEncode_fc78d 11 = .ok (.iconst 0, 1) := by decide +kernel
theorem dJ1_canEncode_fc78d_12 : decode cJ1_canEncode_fc78d 12 = .ok (.ireturn, 1) := by decide +kernel
theorem dJ1_fillNull_b72d1_0 : decode cJ1_fillNull_b72d1 0 = .ok (.aload_n 0, 1) := by decide +kernel
theorem dJ1_fillNull_b72d1_1 : decode cJ1_fillNull_b72d1 1 = .ok (.iload_n 1, 1) := by decide +kernel
theorem dJ1_fillNull_b72d1_2 : decode cJ1_fillNull_b72d1 2 = .ok (.iload_n 2, 1) := by decide +kernel
theorem dJ1_fillNull_b72d1_3 : decode cJ1_fillNull_b72d1 3 = .ok (.iconst 0, 1) := by decide +kernel
theorem dJ1_fillNull_b72d1_4 : decode cJ1_fillNull_b72d1 4 = .ok (.invokestatic 236, 3) := by decide +kernel
theorem dJ1_fillNull_b72d1_7 : decode cJ1_fillNull_b72d1 7 = .ok (.return_, 1) := by decide +kernel
theorem dJ1_inflate_0e8fd_0 : decode cJ1_inflate_0e8fd 0 = .ok (.aload_n 0, 1) := by decide +kernel
theorem dJ1_inflate_0e8fd_1 : decode cJ1_inflate_0e8fd 1 = .ok (.iload_n 1, 1) := by decide +kernel
theorem dJ1_inflate_0e8fd_2 : decode cJ1_inflate_0e8fd 2 = .ok (.aload_n 2, 1) := by decide +kernel
theorem dJ1_inflate_0e8fd_3 : decode cJ1_inflate_0e8fd 3 = .ok (.iload_n 3, 1) := by decide +kernel
theorem dJ1_inflate_0e8fd_4 : decode cJ1_inflate_0e8fd 4 = .ok (.iload 4, 2) := by decide +kernel
theorem dJ1_inflate_0e8fd_6 : decode cJ1_inflate_0e8fd 6 = .ok (.invokestatic 240, 3) := by decide +kernel
theorem dJ1_inflate_0e8fd_9 : decode cJ1_inflate_0e8fd 9 = .ok (.return_, 1) := by decide +kernel
theorem dJ2_newBytesFor_77867_0 : decode cJ2_newBytesFor_77867 0 = .ok (.iload_n 0, 1) := by decide +kernel
theorem dJ2_newBytesFor_77867_1 : decode cJ2_newBytesFor_77867 1 = .ok (.invokestatic 11, 3) := by decide +kernel
theorem dJ2_newBytesFor_77867_4 : decode cJ2_newBytesFor_77867 4 = .ok (.newarray .byte, 2) := by decide +kernel
theorem dJ2_newBytesFor_77867_6 : decode cJ2_newBytesFor_77867 6 = .ok (.areturn, 1) := by decide +kernel
theorem dJ2_newBytesLength_0f7a4_0 : decode cJ2_newBytesLength_0f7a4 0 = .ok (.iload_n 0, 1) := by decide +kernel
theorem dJ2_newBytesLength_0f7a4_1 : decode cJ2_newBytesLength_0f7a4 1 = .ok (.ifCond .ge 11, 3) := by decide +kernel
theorem dJ2_newBytesLength_0f7a4_4 : decode cJ2_newBytesLength_0f7a4 4 = .ok (.new 17, 3) := by decide +kernel
theorem dJ2_newBytesLength_0f7a4_7 : decode cJ2_newBytesLength_0f7a4 7 = .ok (.dup, 1) := by decide +kernel
theorem dJ2_newBytesLength_0f7a4_8 : decode cJ2_newBytesLength_0f7a4 8 = .ok (.invokespecial 19, 3) := by decide +kernel
theorem dJ2_newBytesLength_0f7a4_11 : decode cJ2_newBytesLength_0f7a4 11 = .ok (.athrow, 1) := by decide +kernel
theorem dJ2_newBytesLength_0f7a4_12 : decode cJ2_newBytesLength_0f7a4 12 = .ok (.iload_n 0, 1) := by decide +kernel
theorem dJ2_newBytesLength_0f7a4_13 : decode cJ2_newBytesLength_0f7a4 13 = .ok (.ldc 20, 2) := by decide +kernel
theorem dJ2_newBytesLength_0f7a4_15 : decode cJ2_newBytesLength_0f7a4 15 = .ok (.if_icmp .lt 40, 3) := by decide +kernel
theorem dJ2_newBytesLength_0f7a4_18 : decode cJ2_newBytesLength_0f7a4 18 = .ok (.new 21, 3) := by decide +kernel
theorem dJ2_newBytesLength_0f7a4_21 : decode cJ2_newBytesLength_0f7a4 21 = .ok (.dup, 1) := by decide +kernel
theorem dJ2_newBytesLength_0f7a4_22 : decode cJ2_newBytesLength_0f7a4 22 = .ok (.new 23, 3) := by decide +kernel
theorem dJ2_newBytesLength_0f7a4_25 : decode cJ2_newBytesLength_0f7a4 25 = .ok (.dup, 1) := by decide +kernel
theorem dJ2_newBytesLength_0f7a4_26 : decode cJ2_newBytesLength_0f7a4 26 = .ok (.invokespecial 25, 3) := by decide +kernel
theorem dJ2_newBytesLength_0f7a4_29 : decode cJ2_newBytesLength_0f7a4 29 = .ok (.ldc 26, 2) := by decide +kernel
theorem dJ2_newBytesLength_0f7a4_31 : decode cJ2_newBytesLength_0f7a4 31 = .ok (.invokevirtual 28, 3) := by decide +kernel
theorem dJ2_newBytesLength_0f7a4_34 : decode cJ2_newBytesLength_0f7a4 34 = .ok (.iload_n 0, 1) := by decide +kernel
theorem dJ2_newBytesLength_0f7a4_35 : decode cJ2_newBytesLength_0f7a4 35 = .ok (.invokevirtual 32, 3) := by decide +kernel
theorem dJ2_newBytesLength_0f7a4_38 : decode cJ2_newBytesLength_0f7a4 38 = .ok (.ldc 35, 2) := by decide +kernel
theorem dJ2_newBytesLength_0f7a4_40 : decode cJ2_newBytesLength_0f7a4 40 = .ok (.invokevirtual 28, 3) := by decide +kernel
theorem dJ2_newBytesLength_0f7a4_43 : decode cJ2_newBytesLength_0f7a4 43 = .ok (.ldc 20, 2) := by decide +kernel
theorem dJ2_newBytesLength_0f7a4_45 : decode cJ2_newBytesLength_0f7a4 45 = .ok (.invokevirtual 32, 3) := by decide +kernel
theorem dJ2_newBytesLength_0f7a4_48 : decode cJ2_newBytesLength_0f7a4 48 = .ok (.invokevirtual 37, 3) := by decide +kernel
theorem dJ2_newBytesLength_0f7a4_51 : decode cJ2_newBytesLength_0f7a4 51 = .ok (.invokespecial 41, 3) := by decide +kernel
theorem dJ2_newBytesLength_0f7a4_54 : decode cJ2_newBytesLength_0f7a4 54 = .ok (.athrow, 1) := by decide +kernel
theorem dJ2_newBytesLength_0f7a4_55 : decode cJ2_newBytesLength_0f7a4 55 = .ok (.iload_n 0, 1) := by decide +kernel
theorem dJ2_newBytesLength_0f7a4_56 : decode cJ2_newBytesLength_0f7a4 56 = .ok (.iconst 1, 1) := by decide +kernel
theorem dJ2_newBytesLength_0f7a4_57 : decode cJ2_newBytesLength_0f7a4 57 = .ok (.ishl, 1) := by decide +kernel
theorem dJ2_newBytesLength_0f7a4_58 : decode cJ2_newBytesLength_0f7a4 58 = .ok (.ireturn, 1) := by decide +kernel
theorem dJ2_putChar_b72d1_0 : decode cJ2_putChar_b72d1 0 = .ok (.getstatic 44, 3) := by decide +kernel
theorem dJ2_putChar_b72d1_3 : decode cJ2_putChar_b72d1 3 = .ok (.ifCond .ne 25, 3) := by decide +kernel
theorem dJ2_putChar_b72d1_6 : decode cJ2_putChar_b72d1 6 = .ok (.iload_n 1, 1) := by decide +kernel
theorem dJ2_putChar_b72d1_7 : decode cJ2_putChar_b72d1 7 = .ok (.ifCond .lt 11, 3) := by decide +kernel
theorem dJ2_putChar_b72d1_10 : decode cJ2_putChar_b72d1 10 = .ok (.iload_n 1, 1) := by decide +kernel
theorem dJ2_putChar_b72d1_11 : decode cJ2_putChar_b72d1 11 = .ok (.aload_n 0, 1) := by decide +kernel
theorem dJ2_putChar_b72d1_12 : decode cJ2_putChar_b72d1 12 = .ok (.invokestatic 48, 3) := by decide +kernel
theorem dJ2_putChar_b72d1_15 : decode cJ2_putChar_b72d1 15 = .ok (.if_icmp .lt 13, 3) := by decide +kernel
theorem dJ2_putChar_b72d1_18 : decode cJ2_putChar_b72d1 18 = .ok (.new 52, 3) := by decide +kernel
theorem dJ2_putChar_b72d1_21 : decode cJ2_putChar_b72d1 21 = .ok (.dup, 1) := by decide +kernel
theorem dJ2_putChar_b72d1_22 : decode cJ2_putChar_b72d1 22 = .ok (.ldc 54, 2) := by decide +kernel
theorem dJ2_putChar_b72d1_24 : decode cJ2_putChar_b72d1 24 = .ok (.invokespecial 56, 3) := by decide +kernel
theorem dJ2_putChar_b72d1_27 : decode cJ2_putChar_b72d1 27 = .ok (.athrow, 1) := by decide +kernel
theorem dJ2_putChar_b72d1_28 : decode cJ2_putChar_b72d1 28 = .ok (.iload_n 1, 1) := by decide +kernel
theorem dJ2_putChar_b72d1_29 : decode cJ2_putChar_b72d1 29 = .ok (.iconst 1, 1) := by decide +kernel
theorem dJ2_putChar_b72d1_30 : decode cJ2_putChar_b72d1 30 = .ok (.ishl, 1) := by decide +kernel
theorem dJ2_putChar_b72d1_31 : decode cJ2_putChar_b72d1 31 = .ok (.istore_n 1, 1) := by decide +kernel
theorem dJ2_putChar_b72d1_32 : decode cJ2_putChar_b72d1 32 = .ok (.aload_n 0, 1) := by decide +kernel
theorem dJ2_putChar_b72d1_33 : decode cJ2_putChar_b72d1 33 = .ok (.iload_n 1, 1) := by decide +kernel
theorem dJ2_putChar_b72d1_34 : decode cJ2_putChar_b72d1 34 = .ok (.iinc 1 1, 3) := by decide +kernel
theorem dJ2_putChar_b72d1_37 : decode cJ2_putChar_b72d1 37 = .ok (.iload_n 2, 1) := by decide +kernel
theorem dJ2_putChar_b72d1_38 : decode cJ2_putChar_b72d1 38 = .ok (.getstatic 59, 3) := by decide +kernel
theorem dJ2_putChar_b72d1_41 : decode cJ2_putChar_b72d1 41 = .ok (.ishr, 1) := by decide +kernel
theorem dJ2_putChar_b72d1_42 : decode cJ2_putChar_b72d1 42 = .ok (.i2b, 1) := by decide +kernel
theorem dJ2_putChar_b72d1_43 : decode cJ2_putChar_b72d1 43 = .ok (.bastore, 1) := by decide +kernel
theorem dJ2_putChar_b72d1_44 : decode cJ2_putChar_b72d1 44 = .ok (.aload_n 0, 1) := by decide +kernel
theorem dJ2_putChar_b72d1_45 : decode cJ2_putChar_b72d1 45 = .ok (.iload_n 1, 1) := by decide +kernel
theorem dJ2_putChar_b72d1_46 : decode cJ2_putChar_b72d1 46 = .ok (.iload_n 2, 1) := by decide +kernel
theorem dJ2_putChar_b72d1_47 : decode cJ2_putChar_b72d1 47 = .ok (.getstatic 63, 3) := by decide +kernel
theorem dJ2_putChar_b72d1_50 : decode cJ2_putChar_b72d1 50 = .ok (.ishr, 1) := by decide +kernel
theorem dJ2_putChar_b72d1_51 : decode cJ2_putChar_b72d1 51 = .ok (.i2b, 1) := by decide +kernel
theorem dJ2_putChar_b72d1_52 : decode cJ2_putChar_b72d1 52 = .ok (.bastore, 1) := by decide +kernel
theorem dJ2_putChar_b72d1_53 : decode cJ2_putChar_b72d1 53 = .ok (.return_, 1) := by decide +kernel
theorem dJ2_getChar_3b067_0 : decode cJ2_getChar_3b067 0 = .ok (.getstatic 44, 3) := by decide +kernel
theorem dJ2_getChar_3b067_3 : decode cJ2_getChar_3b067 3 = .ok (.ifCond .ne 25, 3) := by decide +kernel
theorem dJ2_getChar_3b067_6 : decode cJ2_getChar_3b067 6 = .ok (.iload_n 1, 1) := by decide +kernel
theorem dJ2_getChar_3b067_7 : decode cJ2_getChar_3b067 7 = .ok (.ifCond .lt 11, 3) := by decide +kernel
theorem dJ2_getChar_3b067_10 : decode cJ2_getChar_3b067 10 = .ok (.iload_n 1, 1) := by decide +kernel
theorem dJ2_getChar_3b067_11 : decode cJ2_getChar_3b067 11 = .ok (.aload_n 0, 1) := by decide +kernel
theorem dJ2_getChar_3b067_12 : decode cJ2_getChar_3b067 12 = .ok (.invokestatic 48, 3) := by decide +kernel
theorem dJ2_getChar_3b067_15 : decode cJ2_getChar_3b067 15 = .ok (.if_icmp .lt 13, 3) := by decide +kernel
theorem dJ2_getChar_3b067_18 : decode cJ2_getChar_3b067 18 = .ok (.new 52, 3) := by decide +kernel
theorem dJ2_getChar_3b067_21 : decode cJ2_getChar_3b067 21 = .ok (.dup, 1) := by decide +kernel
theorem dJ2_getChar_3b067_22 : decode cJ2_getChar_3b067 22 = .ok (.ldc 54, 2) := by decide +kernel
theorem dJ2_getChar_3b067_24 : decode cJ2_getChar_3b067 24 = .ok (.invokespecial 56, 3) := by decide +kernel
theorem dJ2_getChar_3b067_27 : decode cJ2_getChar_3b067 27 = .ok (.athrow, 1) := by decide +kernel
theorem dJ2_getChar_3b067_28 : decode cJ2_getChar_3b067 28 = .ok (.iload_n 1, 1) := by decide +kernel
theorem dJ2_getChar_3b067_29 : decode cJ2_getChar_3b067 29 = .ok (.iconst 1, 1) := by decide +kernel
theorem dJ2_getChar_3b067_30 : decode cJ2_getChar_3b067 30 = .ok (.ishl, 1) := by decide +kernel
theorem dJ2_getChar_3b067_31 : decode cJ2_getChar_3b067 31 = .ok (.istore_n 1, 1) := by decide +kernel
theorem dJ2_getChar_3b067_32 : decode cJ2_getChar_3b067 32 = .ok (.aload_n 0, 1) := by decide +kernel
theorem dJ2_getChar_3b067_33 : decode cJ2_getChar_3b067 33 = .ok (.iload_n 1, 1) := by decide +kernel
theorem dJ2_getChar_3b067_34 : decode cJ2_getChar_3b067 34 = .ok (.iinc 1 1, 3) := by decide +kernel
theorem dJ2_getChar_3b067_37 : decode cJ2_getChar_3b067 37 = .ok (.baload, 1) := by decide +kernel
theorem dJ2_getChar_3b067_38 : decode cJ2_getChar_3b067 38 = .ok (.sipush 255, 3) := by decide +kernel
theorem dJ2_getChar_3b067_41 : decode cJ2_getChar_3b067 41 = .ok (.iand, 1) := by decide +kernel
theorem dJ2_getChar_3b067_42 : decode cJ2_getChar_3b067 42 = .ok (.getstatic 59, 3) := by decide +kernel
theorem dJ2_getChar_3b067_45 : decode cJ2_getChar_3b067 45 = .ok (.ishl, 1) := by decide +kernel
theorem dJ2_getChar_3b067_46 : decode cJ2_getChar_3b067 46 = .ok (.aload_n 0, 1) := by decide +kernel
theorem dJ2_getChar_3b067_47 : decode cJ2_getChar_3b067 47 = .ok (.iload_n 1, 1) := by decide +kernel
theorem dJ2_getChar_3b067_48 : decode cJ2_getChar_3b067 48 = .ok (.baload, 1) := by decide +kernel
theorem dJ2_getChar_3b067_49 : decode cJ2_getChar_3b067 49 = .ok (.sipush 255, 3) := by decide +kernel
theorem dJ2_getChar_3b067_52 : decode cJ2_getChar_3b067 52 = .ok (.iand, 1) := by decide +kernel
theorem dJ2_getChar_3b067_53 : decode cJ2_getChar_3b067 53 = .ok (.getstatic 63, 3) := by decide +kernel
theorem dJ2_getChar_3b067_56 : decode cJ2_getChar_3b067 56 = .ok (.ishl, 1) := by decide +kernel
theorem dJ2_getChar_3b067_57 : decode cJ2_getChar_3b067 57 = .ok (.ior, 1) := by decide +kernel
theorem dJ2_getChar_3b067_58 : decode cJ2_getChar_3b067 58 = .ok (.i2c, 1) := by decide +kernel
theorem dJ2_getChar_3b067_59 : decode cJ2_getChar_3b067 59 = .ok (.ireturn, 1) := by decide +kernel
theorem dJ2_length_9d52b_0 : decode cJ2_length_9d52b 0 = .ok (.aload_n 0, 1) := by decide +kernel
theorem dJ2_length_9d52b_1 : decode cJ2_length_9d52b 1 = .ok (.arraylength, 1) := by decide +kernel
theorem dJ2_length_9d52b_2 : decode cJ2_length_9d52b 2 = .ok (.iconst 1, 1) := by decide +kernel
theorem dJ2_length_9d52b_3 : decode cJ2_length_9d52b 3 = .ok (.ishr, 1) := by decide +kernel
theorem dJ2_length_9d52b_4 : decode cJ2_length_9d52b 4 = .ok (.ireturn, 1) := by decide +kernel
theorem dJ2_coderFromArrayLen_85cad_0 : decode cJ2_coderFromArrayLen_85cad 0 = .ok (.iload_n 1, 1) := by decide +kernel
theorem dJ2_coderFromArrayLen_85cad_1 : decode cJ2_coderFromArrayLen_85cad 1 = .ok (.aload_n 0, 1) := by decide +kernel
theorem dJ2_coderFromArrayLen_85cad_2 : decode cJ2_coderFromArrayLen_85cad 2 = .ok (.arraylength, 1) := by decide +kernel
theorem dJ2_coderFromArrayLen_85cad_3 : decode cJ2_coderFromArrayLen_85cad 3 = .ok (.isub, 1) := by decide +kernel
theorem dJ2_coderFromArrayLen_85cad_4 : decode cJ2_coderFromArrayLen_85cad 4 = .ok (.bipush 31, 2) := by decide +kernel
theorem dJ2_coderFromArrayLen_85cad_6 : decode cJ2_coderFromArrayLen_85cad 6 = .ok (.iushr, 1) := by decide +kernel
theorem dJ2_coderFromArrayLen_85cad_7 : decode cJ2_coderFromArrayLen_85cad 7 = .ok (.i2b, 1) := by decide +kernel
theorem dJ2_coderFromArrayLen_85cad_8 : decode cJ2_coderFromArrayLen_85cad 8 = .ok (.ireturn, 1) := by decide +kernel
theorem dJ2_compress_39247_0 : decode cJ2_compress_39247 0 = .ok (.iload_n 2, 1) := by decide +kernel
theorem dJ2_compress_39247_1 : decode cJ2_compress_39247 1 = .ok (.newarray .byte, 2) := by decide +kernel
theorem dJ2_compress_39247_3 : decode cJ2_compress_39247 3 = .ok (.astore_n 3, 1) := by decide +kernel
theorem dJ2_compress_39247_4 : decode cJ2_compress_39247 4 = .ok (.aload_n 0, 1) := by decide +kernel
theorem dJ2_compress_39247_5 : decode cJ2_compress_39247 5 = .ok (.iload_n 1, 1) := by decide +kernel
theorem dJ2_compress_39247_6 : decode cJ2_compress_39247 6 = .ok (.aload_n 3, 1) := by decide +kernel
theorem dJ2_compress_39247_7 : decode cJ2_compress_39247 7 = .ok (.iconst 0, 1) := by decide +kernel
theorem dJ2_compress_39247_8 : decode cJ2_compress_39247 8 = .ok (.iload_n 2, 1) := by decide +kernel
theorem dJ2_compress_39247_9 : decode cJ2_compress_39247 9 = .ok (.invokestatic 123, 3) := by decide +kernel
theorem dJ2_compress_39247_12 : decode cJ2_compress_39247 12 = .ok (.istore 4, 2) := by decide +kernel
theorem dJ2_compress_39247_14 : decode cJ2_compress_39247 14 = .ok (.iload 4, 2) := by decide +kernel
theorem dJ2_compress_39247_16 : decode cJ2_compress_39247 16 = .ok (.iload_n 2, 1) := by decide +kernel
theorem dJ2_compress_39247_17 : decode cJ2_compress_39247 17 = .ok (.if_icmp .eq 47, 3) := by decide +kernel
theorem dJ2_compress_39247_20 : decode cJ2_compress_39247 20 = .ok (.aload_n 0, 1) := by decide +kernel
theorem dJ2_compress_39247_21 : decode cJ2_compress_39247 21 = .ok (.iload_n 1, 1) := by decide +kernel
theorem dJ2_compress_39247_22 : decode cJ2_compress_39247 22 = .ok (.iconst 1, 1) := by decide +kernel
theorem dJ2_compress_39247_23 : decode cJ2_compress_39247 23 = .ok (.ishl, 1) := by decide +kernel
theorem dJ2_compress_39247_24 : decode cJ2_compress_39247 24 = .ok (.iload_n 1, 1) := by decide +kernel
theorem dJ2_compress_39247_25 : decode cJ2_compress_39247 25 = .ok (.iload_n 2, 1) := by decide +kernel
theorem dJ2_compress_39247_26 : decode cJ2_compress_39247 26 = .ok (.iadd, 1) := by decide +kernel
theorem dJ2_compress_39247_27 : decode cJ2_compress_39247 27 = .ok (.invokestatic 11, 3) := by decide +kernel
theorem dJ2_compress_39247_30 : decode cJ2_compress_39247 30 = .ok (.invokestatic 126, 3) := by decide +kernel
theorem dJ2_compress_39247_33 : decode cJ2_compress_39247 33 = .ok (.astore 5, 2) := by decide +kernel
theorem dJ2_compress_39247_35 : decode cJ2_compress_39247 35 = .ok (.aload 5, 2) := by decide +kernel
theorem dJ2_compress_39247_37 : decode cJ2_compress_39247 37 = .ok (.iload 4, 2) := by decide +kernel
theorem dJ2_compress_39247_39 : decode cJ2_compress_39247 39 = .ok (.invokestatic 71, 3) := by decide +kernel
theorem dJ2_compress_39247_42 : decode cJ2_compress_39247 42 = .ok (.sipush 255, 3) := by decide +kernel
theorem dJ2_compress_39247_45 : decode cJ2_compress_39247 45 = .ok (.if_icmp .gt 16, 3) := by decide +kernel
theorem dJ2_compress_39247_48 : decode cJ2_compress_39247 48 = .ok (.aload 5, 2) := by decide +kernel
theorem dJ2_compress_39247_50 : decode cJ2_compress_39247 50 = .ok (.iconst 0, 1) := by decide +kernel
theorem dJ2_compress_39247_51 : decode cJ2_compress_39247 51 = .ok (.aload_n 3, 1) := by decide +kernel
theorem dJ2_compress_39247_52 : decode cJ2_compress_39247 52 = .ok (.iconst 0, 1) := by decide +kernel
theorem dJ2_compress_39247_53 : decode cJ2_compress_39247 53 = .ok (.iload_n 2, 1) := by decide +kernel
theorem dJ2_compress_39247_54 : decode cJ2_compress_39247 54 = .ok (.invokestatic 123, 3) := by decide +kernel
theorem dJ2_compress_39247_57 : decode cJ2_compress_39247 57 = .ok (.iload_n 2, 1) := by decide +kernel
theorem dJ2_compress_39247_58 : decode cJ2_compress_39247 58 = .ok (.if_icmp .eq 6, 3) := by decide +kernel
theorem dJ2_compress_39247_61 : decode cJ2_compress_39247 61 = .ok (.aload 5, 2) := by decide +kernel
theorem dJ2_compress_39247_63 : decode cJ2_compress_39247 63 = .ok (.areturn, 1) := by decide +kernel
theorem dJ2_compress_39247_64 : decode cJ2_compress_39247 64 = .ok (.aload_n 3, 1) := by decide +kernel
theorem dJ2_compress_39247_65 : decode cJ2_compress_39247 65 = .ok (.areturn, 1) := by decide +kernel
theorem dJ2_compress_5af95_0 : decode cJ2_compress_5af95 0 = .ok (.iload_n 1, 1) := by decide +kernel
theorem dJ2_compress_5af95_1 : decode cJ2_compress_5af95 1 = .ok (.iload 4, 2) := by decide +kernel
theorem dJ2_compress_5af95_3 : decode cJ2_compress_5af95 3 = .ok (.aload_n 0, 1) := by decide +kernel
theorem dJ2_compress_5af95_4 : decode cJ2_compress_5af95 4 = .ok (.invokestatic 173, 3) := by decide +kernel
theorem dJ2_compress_5af95_7 : decode cJ2_compress_5af95 7 = .ok (.iconst 0, 1) := by decide +kernel
theorem dJ2_compress_5af95_8 : decode cJ2_compress_5af95 8 = .ok (.istore 5, 2) := by decide +kernel
theorem dJ2_compress_5af95_10 : decode cJ2_compress_5af95 10 = .ok (.iload 5, 2) := by decide +kernel
theorem dJ2_compress_5af95_12 : decode cJ2_compress_5af95 12 = .ok (.iload 4, 2) := by decide +kernel
theorem dJ2_compress_5af95_14 : decode cJ2_compress_5af95 14 = .ok (.if_icmp .ge 39, 3) := by decide +kernel
theorem dJ2_compress_5af95_17 : decode cJ2_compress_5af95 17 = .ok (.aload_n 0, 1) := by decide +kernel
theorem dJ2_compress_5af95_18 : decode cJ2_compress_5af95 18 = .ok (.iload_n 1, 1) := by decide +kernel
theorem dJ2_compress_5af95_19 : decode cJ2_compress_5af95 19 = .ok (.invokestatic 71, 3) := by decide +kernel
theorem dJ2_compress_5af95_22 : decode cJ2_compress_5af95 22 = .ok (.istore 6, 2) := by decide +kernel
theorem dJ2_compress_5af95_24 : decode cJ2_compress_5af95 24 = .ok (.iload 6, 2) := by decide +kernel
theorem dJ2_compress_5af95_26 : decode cJ2_compress_5af95 26 = .ok (.sipush 255, 3) := by decide +kernel
theorem dJ2_compress_5af95_29 : decode cJ2_compress_5af95 29 = .ok (.if_icmp .le 6, 3) := by decide +kernel
theorem dJ2_compress_5af95_32 : decode cJ2_compress_5af95 32 = .ok (.iload 5, 2) := by decide +kernel
theorem dJ2_compress_5af95_34 : decode cJ2_compress_5af95 34 = .ok (.ireturn, 1) := by decide +kernel
theorem dJ2_compress_5af95_35 : decode cJ2_compress_5af95 35 = .ok (.aload_n 2, 1) := by decide +kernel
theorem dJ2_compress_5af95_36 : decode cJ2_compress_5af95 36 = .ok (.iload_n 3, 1) := by decide +kernel
theorem dJ2_compress_5af95_37 : decode cJ2_compress_5af95 37 = .ok (.iload 6, 2) := by decide +kernel
theorem dJ2_compress_5af95_39 : decode cJ2_compress_5af95 39 = .ok (.i2b, 1) := by decide +kernel
theorem dJ2_compress_5af95_40 : decode cJ2_compress_5af95 40 = .ok (.bastore, 1) := by decide +kernel
theorem dJ2_compress_5af95_41 : decode cJ2_compress_5af95 41 = .ok (.iinc 1 1, 3) := by decide +kernel
theorem dJ2_compress_5af95_44 : decode cJ2_compress_5af95 44 = .ok (.iinc 3 1, 3) := by decide +kernel
theorem dJ2_compress_5af95_47 : decode cJ2_compress_5af95 47 = .ok (.iinc 5 1, 3) := by decide +kernel
theorem dJ2_compress_5af95_50 : decode cJ2_compress_5af95 50 = .ok (.goto (-40), 3) := by decide +kernel
theorem dJ2_compress_5af95_53 : decode cJ2_compress_5af95 53 = .ok (.iload 4, 2) := by decide +kernel
theorem dJ2_compress_5af95_55 : decode cJ2_compress_5af95 55 = .ok (.ireturn, 1) := by decide +kernel
theorem dJ2_fillNull_b72d1_0 : decode cJ2_fillNull_b72d1 0 = .ok (.aload_n 0, 1) := by decide +kernel
theorem dJ2_fillNull_b72d1_1 : decode cJ2_fillNull_b72d1 1 = .ok (.iload_n 1, 1) := by decide +kernel
theorem dJ2_fillNull_b72d1_2 : decode cJ2_fillNull_b72d1 2 = .ok (.iconst 1, 1) := by decide +kernel
theorem dJ2_fillNull_b72d1_3 : decode cJ2_fillNull_b72d1 3 = .ok (.ishl, 1) := by decide +kernel
theorem dJ2_fillNull_b72d1_4 : decode cJ2_fillNull_b72d1 4 = .ok (.iload_n 2, 1) := by decide +kernel
theorem dJ2_fillNull_b72d1_5 : decode cJ2_fillNull_b72d1 5 = .ok (.iconst 1, 1) := by decide +kernel
theorem dJ2_fillNull_b72d1_6 : decode cJ2_fillNull_b72d1 6 = .ok (.ishl, 1) := by decide +kernel
theorem dJ2_fillNull_b72d1_7 : decode cJ2_fillNull_b72d1 7 = .ok (.iconst 0, 1) := by decide +kernel
theorem dJ2_fillNull_b72d1_8 : decode cJ2_fillNull_b72d1 8 = .ok (.invokestatic 380, 3) := by decide +kernel
theorem dJ2_fillNull_b72d1_11 : decode cJ2_fillNull_b72d1 11 = .ok (.return_, 1) := by decide +kernel
theorem dJ2_putCharSB_b72d1_0 : decode cJ2_putCharSB_b72d1 0 = .ok (.iload_n 1, 1) := by decide +kernel
theorem dJ2_putCharSB_b72d1_1 : decode cJ2_putCharSB_b72d1 1 = .ok (.aload_n 0, 1) := by decide +kernel
theorem dJ2_putCharSB_b72d1_2 : decode cJ2_putCharSB_b72d1 2 = .ok (.invokestatic 67, 3) := by decide +kernel
theorem dJ2_putCharSB_b72d1_5 : decode cJ2_putCharSB_b72d1 5 = .ok (.aload_n 0, 1) := by decide +kernel
theorem dJ2_putCharSB_b72d1_6 : decode cJ2_putCharSB_b72d1 6 = .ok (.iload_n 1, 1) := by decide +kernel
theorem dJ2_putCharSB_b72d1_7 : decode cJ2_putCharSB_b72d1 7 = .ok (.iload_n 2, 1) := by decide +kernel
theorem dJ2_putCharSB_b72d1_8 : decode cJ2_putCharSB_b72d1 8 = .ok (.invokestatic 111, 3) := by decide +kernel
theorem dJ2_putCharSB_b72d1_11 : decode cJ2_putCharSB_b72d1 11 = .ok (.return_, 1) := by decide +kernel
theorem dJ2_getChars_46870_0 : decode cJ2_getChars_46870 0 = .ok (.iload_n 1, 1) := by decide +kernel
theorem dJ2_getChars_46870_1 : decode cJ2_getChars_46870 1 = .ok (.iload_n 2, 1) := by decide +kernel
theorem dJ2_getChars_46870_2 : decode cJ2_getChars_46870 2 = .ok (.aload_n 3, 1) := by decide +kernel
theorem dJ2_getChars_46870_3 : decode cJ2_getChars_46870 3 = .ok (.invokestatic 96, 3) := by decide +kernel
theorem dJ2_getChars_46870_6 : decode cJ2_getChars_46870 6 = .ok (.iload_n 0, 1) := by decide +kernel
theorem dJ2_getChars_46870_7 : decode cJ2_getChars_46870 7 = .ok (.iload_n 2, 1) := by decide +kernel
theorem dJ2_getChars_46870_8 : decode cJ2_getChars_46870 8 = .ok (.aload_n 3, 1) := by decide +kernel
theorem dJ2_getChars_46870_9 : decode cJ2_getChars_46870 9 = .ok (.invokestatic 393, 3) := by decide +kernel
theorem dJ2_getChars_46870_12 : decode cJ2_getChars_46870 12 = .ok (.istore 4, 2) := by decide +kernel
theorem dJ2_getChars_46870_14 : decode cJ2_getChars_46870 14 = .ok (.getstatic 44, 3) := by decide +kernel
theorem dJ2_getChars_46870_17 : decode cJ2_getChars_46870 17 = .ok (.ifCond .ne 17, 3) := by decide +kernel
theorem dJ2_getChars_46870_20 : decode cJ2_getChars_46870 20 = .ok (.iload_n 1, 1) := by decide +kernel
theorem dJ2_getChars_46870_21 : decode cJ2_getChars_46870 21 = .ok (.iload 4, 2) := by decide +kernel
theorem dJ2_getChars_46870_23 : decode cJ2_getChars_46870 23 = .ok (.if_icmp .eq 11, 3) := by decide +kernel
theorem dJ2_getChars_46870_26 : decode cJ2_getChars_46870 26 = .ok (.new 52, 3) := by decide +kernel
theorem dJ2_getChars_46870_29 : decode cJ2_getChars_46870 29 = .ok (.dup, 1) := by decide +kernel
theorem dJ2_getChars_46870_30 : decode cJ2_getChars_46870 30 = .ok (.invokespecial 66, 3) := by decide +kernel
theorem dJ2_getChars_46870_33 : decode cJ2_getChars_46870 33 = .ok (.athrow, 1) := by decide +kernel
theorem dJ2_getChars_46870_34 : decode cJ2_getChars_46870 34 = .ok (.iload 4, 2) := by decide +kernel
theorem dJ2_getChars_46870_36 : decode cJ2_getChars_46870 36 = .ok (.ireturn, 1) := by decide +kernel
theorem dJ2_putCharsAt_cd4e5_0 : decode cJ2_putCharsAt_cd4e5 0 = .ok (.iload_n 1, 1) := by decide +kernel
theorem dJ2_putCharsAt_cd4e5_1 : decode cJ2_putCharsAt_cd4e5 1 = .ok (.iconst 4, 1) := by decide +kernel
theorem dJ2_putCharsAt_cd4e5_2 : decode cJ2_putCharsAt_cd4e5 2 = .ok (.iadd, 1) := by decide +kernel
theorem dJ2_putCharsAt_cd4e5_3 : decode cJ2_putCharsAt_cd4e5 3 = .ok (.istore 6, 2) := by decide +kernel
theorem dJ2_putCharsAt_cd4e5_5 : decode cJ2_putCharsAt_cd4e5 5 = .ok (.iload_n 1, 1) := by decide +kernel
theorem dJ2_putCharsAt_cd4e5_6 : decode cJ2_putCharsAt_cd4e5 6 = .ok (.iload 6, 2) := by decide +kernel
theorem dJ2_putCharsAt_cd4e5_8 : decode cJ2_putCharsAt_cd4e5 8 = .ok (.aload_n 0, 1) := by decide +kernel
theorem dJ2_putCharsAt_cd4e5_9 : decode cJ2_putCharsAt_cd4e5 9 = .ok (.invokestatic 96, 3) := by decide +kernel
theorem dJ2_putCharsAt_cd4e5_12 : decode cJ2_putCharsAt_cd4e5 12 = .ok (.aload_n 0, 1) := by decide +kernel
theorem dJ2_putCharsAt_cd4e5_13 : decode cJ2_putCharsAt_cd4e5 13 = .ok (.iload_n 1, 1) := by decide +kernel
theorem dJ2_putCharsAt_cd4e5_14 : decode cJ2_putCharsAt_cd4e5 14 = .ok (.iinc 1 1, 3) := by decide +kernel
theorem dJ2_putCharsAt_cd4e5_17 : decode cJ2_putCharsAt_cd4e5 17 = .ok (.iload_n 2, 1) := by decide +kernel
theorem dJ2_putCharsAt_cd4e5_18 : decode cJ2_putCharsAt_cd4e5 18 = .ok (.invokestatic 111, 3) := by decide +kernel
theorem dJ2_putCharsAt_cd4e5_21 : decode cJ2_putCharsAt_cd4e5 21 = .ok (.aload_n 0, 1) := by decide +kernel
theorem dJ2_putCharsAt_cd4e5_22 : decode cJ2_putCharsAt_cd4e5 22 = .ok (.iload_n 1, 1) := by decide +kernel
theorem dJ2_putCharsAt_cd4e5_23 : decode cJ2_putCharsAt_cd4e5 23 = .ok (.iinc 1 1, 3) := by decide +kernel
theorem dJ2_putCharsAt_cd4e5_26 : decode cJ2_putCharsAt_cd4e5 26 = .ok (.iload_n 3, 1) := by decide +kernel
theorem dJ2_putCharsAt_cd4e5_27 : decode cJ2_putCharsAt_cd4e5 27 = .ok (.invokestatic 111, 3) := by decide +kernel
theorem dJ2_putCharsAt_cd4e5_30 : decode cJ2_putCharsAt_cd4e5 30 = .ok (.aload_n 0, 1) := by decide +kernel
theorem dJ2_putCharsAt_cd4e5_31 : decode cJ2_putCharsAt_cd4e5 31 = .ok (.iload_n 1, 1) := by decide +kernel
theorem dJ2_putCharsAt_cd4e5_32 : decode cJ2_putCharsAt_cd4e5 32 = .ok (.iinc 1 1, 3) := by decide +kernel
theorem dJ2_putCharsAt_cd4e5_35 : decode cJ2_putCharsAt_cd4e5 35 = .ok (.iload 4, 2) := by decide +kernel
theorem dJ2_putCharsAt_cd4e5_37 : decode cJ2_putCharsAt_cd4e5 37 = .ok (.invokestatic 111, 3) := by decide +kernel
theorem dJ2_putCharsAt_cd4e5_40 : decode cJ2_putCharsAt_cd4e5 40 = .ok (.aload_n 0, 1) := by decide +kernel
theorem dJ2_putCharsAt_cd4e5_41 : decode cJ2_putCharsAt_cd4e5 41 = .ok (.iload_n 1, 1) := by decide +kernel
theorem dJ2_putCharsAt_cd4e5_42 : decode cJ2_putCharsAt_cd4e5 42 = .ok (.iinc 1 1, 3) := by decide +kernel
theorem dJ2_putCharsAt_cd4e5_45 : decode cJ2_putCharsAt_cd4e5 45 = .ok (.iload 5, 2) := by decide +kernel
theorem dJ2_putCharsAt_cd4e5_47 : decode cJ2_putCharsAt_cd4e5 47 = .ok (.invokestatic 111, 3) := by decide +kernel
theorem dJ2_putCharsAt_cd4e5_50 : decode cJ2_putCharsAt_cd4e5 50 = .ok (.getstatic 44, 3) := by decide +kernel
theorem dJ2_putCharsAt_cd4e5_53 : decode cJ2_putCharsAt_cd4e5 53 = .ok (.ifCond .ne 17, 3) := by decide +kernel
theorem dJ2_putCharsAt_cd4e5_56 : decode cJ2_putCharsAt_cd4e5 56 = .ok (.iload_n 1, 1) := by decide +kernel
theorem dJ2_putCharsAt_cd4e5_57 : decode cJ2_putCharsAt_cd4e5 57 = .ok (.iload 6, 2) := by decide +kernel
theorem dJ2_putCharsAt_cd4e5_59 : decode cJ2_putCharsAt_cd4e5 59 = .ok (.if_icmp .eq 11, 3) := by decide +kernel
theorem dJ2_putCharsAt_cd4e5_62 : decode cJ2_putCharsAt_cd4e5 62 = .ok (.new 52, 3) := by decide +kernel
theorem dJ2_putCharsAt_cd4e5_65 : decode cJ2_putCharsAt_cd4e5 65 = .ok (.dup, 1) := by decide +kernel
theorem dJ2_putCharsAt_cd4e5_66 : decode cJ2_putCharsAt_cd4e5 66 = .ok (.invokespecial 66, 3) := by decide +kernel
theorem dJ2_putCharsAt_cd4e5_69 : decode cJ2_putCharsAt_cd4e5 69 = .ok (.athrow, 1) := by decide +kernel
theorem dJ2_putCharsAt_cd4e5_70 : decode cJ2_putCharsAt_cd4e5 70 = .ok (.iload 6, 2) := by decide +kernel
theorem dJ2_putCharsAt_cd4e5_72 : decode cJ2_putCharsAt_cd4e5 72 = .ok (.ireturn, 1) := by decide +kernel
theorem dJ2_charAt_3b067_0 : decode cJ2_charAt_3b067 0 = .ok (.iload_n 1, 1) := by decide +kernel
theorem dJ2_charAt_3b067_1 : decode cJ2_charAt_3b067 1 = .ok (.aload_n 0, 1) := by decide +kernel
theorem dJ2_charAt_3b067_2 : decode cJ2_charAt_3b067 2 = .ok (.invokestatic 67, 3) := by decide +kernel
theorem dJ2_charAt_3b067_5 : decode cJ2_charAt_3b067 5 = .ok (.aload_n 0, 1) := by decide +kernel
theorem dJ2_charAt_3b067_6 : decode cJ2_charAt_3b067 6 = .ok (.iload_n 1, 1) := by decide +kernel
theorem dJ2_charAt_3b067_7 : decode cJ2_charAt_3b067 7 = .ok (.invokestatic 71, 3) := by decide +kernel
theorem dJ2_charAt_3b067_10 : decode cJ2_charAt_3b067 10 = .ok (.ireturn, 1) := by decide +kernel
theorem dJ2_inflate_0e8fd_0 : decode cJ2_inflate_0e8fd 0 = .ok (.iload_n 3, 1) := by decide +kernel
theorem dJ2_inflate_0e8fd_1 : decode cJ2_inflate_0e8fd 1 = .ok (.iload 4, 2) := by decide +kernel
theorem dJ2_inflate_0e8fd_3 : decode cJ2_inflate_0e8fd 3 = .ok (.aload_n 2, 1) := by decide +kernel
theorem dJ2_inflate_0e8fd_4 : decode cJ2_inflate_0e8fd 4 = .ok (.invokestatic 173, 3) := by decide +kernel
theorem dJ2_inflate_0e8fd_7 : decode cJ2_inflate_0e8fd 7 = .ok (.iconst 0, 1) := by decide +kernel
theorem dJ2_inflate_0e8fd_8 : decode cJ2_inflate_0e8fd 8 = .ok (.istore 5, 2) := by decide +kernel
theorem dJ2_inflate_0e8fd_10 : decode cJ2_inflate_0e8fd 10 = .ok (.iload 5, 2) := by decide +kernel
theorem dJ2_inflate_0e8fd_12 : decode cJ2_inflate_0e8fd 12 = .ok (.iload 4, 2) := by decide +kernel
theorem dJ2_inflate_0e8fd_14 : decode cJ2_inflate_0e8fd 14 = .ok (.if_icmp .ge 27, 3) := by decide +kernel
theorem dJ2_inflate_0e8fd_17 : decode cJ2_inflate_0e8fd 17 = .ok (.aload_n 2, 1) := by decide +kernel
theorem dJ2_inflate_0e8fd_18 : decode cJ2_inflate_0e8fd 18 = .ok (.iload_n 3, 1) := by decide +kernel
theorem dJ2_inflate_0e8fd_19 : decode cJ2_inflate_0e8fd 19 = .ok (.iinc 3 1, 3) := by decide +kernel
theorem dJ2_inflate_0e8fd_22 : decode cJ2_inflate_0e8fd 22 = .ok (.aload_n 0, 1) := by decide +kernel
theorem dJ2_inflate_0e8fd_23 : decode cJ2_inflate_0e8fd 23 = .ok (.iload_n 1, 1) := by decide +kernel
theorem dJ2_inflate_0e8fd_24 : decode cJ2_inflate_0e8fd 24 = .ok (.iinc 1 1, 3) := by decide +kernel
theorem dJ2_inflate_0e8fd_27 : decode cJ2_inflate_0e8fd 27 = .ok (.baload, 1) := by decide +kernel
theorem dJ2_inflate_0e8fd_28 : decode cJ2_inflate_0e8fd 28 = .ok (.sipush 255, 3) := by decide +kernel
theorem dJ2_inflate_0e8fd_31 : decode cJ2_inflate_0e8fd 31 = .ok (.iand, 1) := by decide +kernel
theorem dJ2_inflate_0e8fd_32 : decode cJ2_inflate_0e8fd 32 = .ok (.invokestatic 111, 3) := by decide +kernel
theorem dJ2_inflate_0e8fd_35 : decode cJ2_inflate_0e8fd 35 = .ok (.iinc 5 1, 3) := by decide +kernel
theorem dJ2_inflate_0e8fd_38 : decode cJ2_inflate_0e8fd 38 = .ok (.goto (-28), 3) := by decide +kernel
theorem dJ2_inflate_0e8fd_41 : decode cJ2_inflate_0e8fd 41 = .ok (.return_, 1) := by decide +kernel
theorem dJ2_getChars_ba4f3_0 : decode cJ2_getChars_ba4f3 0 = .ok (.iload_n 1, 1) := by decide +kernel
theorem dJ2_getChars_ba4f3_1 : decode cJ2_getChars_ba4f3 1 = .ok (.istore 5, 2) := by decide +kernel
theorem dJ2_getChars_ba4f3_3 : decode cJ2_getChars_ba4f3 3 = .ok (.iload_n 0, 1) := by decide +kernel
theorem dJ2_getChars_ba4f3_4 : decode cJ2_getChars_ba4f3 4 = .ok (.ifCond .ge 7, 3) := by decide +kernel
theorem dJ2_getChars_ba4f3_7 : decode cJ2_getChars_ba4f3 7 = .ok (.iconst 1, 1) := by decide +kernel
theorem dJ2_getChars_ba4f3_8 : decode cJ2_getChars_ba4f3 8 = .ok (.goto 4, 3) := by decide +kernel
theorem dJ2_getChars_ba4f3_11 : decode cJ2_getChars_ba4f3 11 = .ok (.iconst 0, 1) := by decide +kernel
theorem dJ2_getChars_ba4f3_12 : decode cJ2_getChars_ba4f3 12 = .ok (.istore 6, 2) := by decide +kernel
theorem dJ2_getChars_ba4f3_14 : decode cJ2_getChars_ba4f3 14 = .ok (.iload 6, 2) := by decide +kernel
theorem dJ2_getChars_ba4f3_16 : decode cJ2_getChars_ba4f3 16 = .ok (.ifCond .ne 6, 3) := by decide +kernel
theorem dJ2_getChars_ba4f3_19 : decode cJ2_getChars_ba4f3 19 = .ok (.iload_n 0, 1) := by decide +kernel
theorem dJ2_getChars_ba4f3_20 : decode cJ2_getChars_ba4f3 20 = .ok (.ineg, 1) := by decide +kernel
theorem dJ2_getChars_ba4f3_21 : decode cJ2_getChars_ba4f3 21 = .ok (.istore_n 0, 1) := by decide +kernel
theorem dJ2_getChars_ba4f3_22 : decode cJ2_getChars_ba4f3 22 = .ok (.iload_n 0, 1) := by decide +kernel
theorem dJ2_getChars_ba4f3_23 : decode cJ2_getChars_ba4f3 23 = .ok (.bipush (-100), 2) := by decide +kernel
theorem dJ2_getChars_ba4f3_25 : decode cJ2_getChars_ba4f3 25 = .ok (.if_icmp .gt 51, 3) := by decide +kernel
theorem dJ2_getChars_ba4f3_28 : decode cJ2_getChars_ba4f3 28 = .ok (.iload_n 0, 1) := by decide +kernel
theorem dJ2_getChars_ba4f3_29 : decode cJ2_getChars_ba4f3 29 = .ok (.bipush 100, 2) := by decide +kernel
theorem dJ2_getChars_ba4f3_31 : decode cJ2_getChars_ba4f3 31 = .ok (.idiv, 1) := by decide +kernel
theorem dJ2_getChars_ba4f3_32 : decode cJ2_getChars_ba4f3 32 = .ok (.istore_n 3, 1) := by decide +kernel
theorem dJ2_getChars_ba4f3_33 : decode cJ2_getChars_ba4f3 33 = .ok (.iload_n 3, 1) := by decide +kernel
theorem dJ2_getChars_ba4f3_34 : decode cJ2_getChars_ba4f3 34 = .ok (.bipush 100, 2) := by decide +kernel
theorem dJ2_getChars_ba4f3_36 : decode cJ2_getChars_ba4f3 36 = .ok (.imul, 1) := by decide +kernel
theorem dJ2_getChars_ba4f3_37 : decode cJ2_getChars_ba4f3 37 = .ok (.iload_n 0, 1) := by decide +kernel
theorem dJ2_getChars_ba4f3_38 : decode cJ2_getChars_ba4f3 38 = .ok (.isub, 1) := by decide +kernel
theorem dJ2_getChars_ba4f3_39 : decode cJ2_getChars_ba4f3 39 = .ok (.istore 4, 2) := by decide +kernel
theorem dJ2_getChars_ba4f3_41 : decode cJ2_getChars_ba4f3 41 = .ok (.iload_n 3, 1) := by decide +kernel
theorem dJ2_getChars_ba4f3_42 : decode cJ2_getChars_ba4f3 42 = .ok (.istore_n 0, 1) := by decide +kernel
theorem dJ2_getChars_ba4f3_43 : decode cJ2_getChars_ba4f3 43 = .ok (.aload_n 2, 1) := by decide +kernel
theorem dJ2_getChars_ba4f3_44 : decode cJ2_getChars_ba4f3 44 = .ok (.iinc 5 (-1), 3) := by decide +kernel
theorem dJ2_getChars_ba4f3_47 : decode cJ2_getChars_ba4f3 47 = .ok (.iload 5, 2) := by decide +kernel
theorem dJ2_getChars_ba4f3_49 : decode cJ2_getChars_ba4f3 49 = .ok (.getstatic 403, 3) := by decide +kernel
theorem dJ2_getChars_ba4f3_52 : decode cJ2_getChars_ba4f3 52 = .ok (.iload 4, 2) := by decide +kernel
theorem dJ2_getChars_ba4f3_54 : decode cJ2_getChars_ba4f3 54 = .ok (.baload, 1) := by decide +kernel
theorem dJ2_getChars_ba4f3_55 : decode cJ2_getChars_ba4f3 55 = .ok (.invokestatic 111, 3) := by decide +kernel
theorem dJ2_getChars_ba4f3_58 : decode cJ2_getChars_ba4f3 58 = .ok (.aload_n 2, 1) := by decide +kernel
theorem dJ2_getChars_ba4f3_59 : decode cJ2_getChars_ba4f3 59 = .ok (.iinc 5 (-1), 3) := by decide +kernel
theorem dJ2_getChars_ba4f3_62 : decode cJ2_getChars_ba4f3 62 = .ok (.iload 5, 2) := by decide +kernel
theorem dJ2_getChars_ba4f3_64 : decode cJ2_getChars_ba4f3 64 = .ok (.getstatic 407, 3) := by decide +kernel
theorem dJ2_getChars_ba4f3_67 : decode cJ2_getChars_ba4f3 67 = .ok (.iload 4, 2) := by decide +kernel
theorem dJ2_getChars_ba4f3_69 : decode cJ2_getChars_ba4f3 69 = .ok (.baload, 1) := by decide +kernel
theorem dJ2_getChars_ba4f3_70 : decode cJ2_getChars_ba4f3 70 = .ok (.invokestatic 111, 3) := by decide +kernel
theorem dJ2_getChars_ba4f3_73 : decode cJ2_getChars_ba4f3 73 = .ok (.goto (-51), 3) := by decide +kernel
theorem dJ2_getChars_ba4f3_76 : decode cJ2_getChars_ba4f3 76 = .ok (.aload_n 2, 1) := by decide +kernel
theorem dJ2_getChars_ba4f3_77 : decode cJ2_getChars_ba4f3 77 = .ok (.iinc 5 (-1), 3) := by decide +kernel
theorem dJ2_getChars_ba4f3_80 : decode cJ2_getChars_ba4f3 80 = .ok (.iload 5, 2) := by decide +kernel
theorem dJ2_getChars_ba4f3_82 : decode cJ2_getChars_ba4f3 82 = .ok (.getstatic 403, 3) := by decide +kernel
theorem dJ2_getChars_ba4f3_85 : decode cJ2_getChars_ba4f3 85 = .ok (.iload_n 0, 1) := by decide +kernel
theorem dJ2_getChars_ba4f3_86 : decode cJ2_getChars_ba4f3 86 = .ok (.ineg, 1) := by decide +kernel
theorem dJ2_getChars_ba4f3_87 : decode cJ2_getChars_ba4f3 87 = .ok (.baload, 1) := by decide +kernel
theorem dJ2_getChars_ba4f3_88 : decode cJ2_getChars_ba4f3 88 = .ok (.invokestatic 111, 3) := by decide +kernel
theorem dJ2_getChars_ba4f3_91 : decode cJ2_getChars_ba4f3 91 = .ok (.iload_n 0, 1) := by decide +kernel
theorem dJ2_getChars_ba4f3_92 : decode cJ2_getChars_ba4f3 92 = .ok (.bipush (-9), 2) := by decide +kernel
theorem dJ2_getChars_ba4f3_94 : decode cJ2_getChars_ba4f3 94 = .ok (.if_icmp .ge 18, 3) := by decide +kernel
theorem dJ2_getChars_ba4f3_97 : decode cJ2_getChars_ba4f3 97 = .ok (.aload_n 2, 1) := by decide +kernel
theorem dJ2_getChars_ba4f3_98 : decode cJ2_getChars_ba4f3 98 = .ok (.iinc 5 (-1), 3) := by decide +kernel
theorem dJ2_getChars_ba4f3_101 : decode cJ2_getChars_ba4f3 101 = .ok (.iload 5, 2) := by decide +kernel
theorem dJ2_getChars_ba4f3_103 : decode cJ2_getChars_ba4f3 103 = .ok (.getstatic 407, 3) := by decide +kernel
theorem dJ2_getChars_ba4f3_106 : decode cJ2_getChars_ba4f3 106 = .ok (.iload_n 0, 1) := by decide +kernel
theorem dJ2_getChars_ba4f3_107 : decode cJ2_getChars_ba4f3 107 = .ok (.ineg, 1) := by decide +kernel
theorem dJ2_getChars_ba4f3_108 : decode cJ2_getChars_ba4f3 108 = .ok (.baload, 1) := by decide +kernel
theorem dJ2_getChars_ba4f3_109 : decode cJ2_getChars_ba4f3 109 = .ok (.invokestatic 111, 3) := by decide +kernel
theorem dJ2_getChars_ba4f3_112 : decode cJ2_getChars_ba4f3 112 = .ok (.iload 6, 2) := by decide +kernel
theorem dJ2_getChars_ba4f3_114 : decode cJ2_getChars_ba4f3 114 = .ok (.ifCond .eq 14, 3) := by decide +kernel
theorem dJ2_getChars_ba4f3_117 : decode cJ2_getChars_ba4f3 117 = .ok (.aload_n 2, 1) := by decide +kernel
theorem dJ2_getChars_ba4f3_118 : decode cJ2_getChars_ba4f3 118 = .ok (.iinc 5 (-1), 3) := by decide +kernel
theorem dJ2_getChars_ba4f3_121 : decode cJ2_getChars_ba4f3 121 = .ok (.iload 5, 2) := by decide +kernel
theorem dJ2_getChars_ba4f3_123 : decode cJ2_getChars_ba4f3 123 = .ok (.bipush 45, 2) := by decide +kernel
theorem dJ2_getChars_ba4f3_125 : decode cJ2_getChars_ba4f3 125 = .ok (.invokestatic 111, 3) := by decide +kernel
theorem dJ2_getChars_ba4f3_128 : decode cJ2_getChars_ba4f3 128 = .ok (.iload 5, 2) := by decide +kernel
theorem dJ2_getChars_ba4f3_130 : decode cJ2_getChars_ba4f3 130 = .ok (.ireturn, 1) := by decide +kernel
theorem dJ2_checkIndex_2214a_0 : decode cJ2_checkIndex_2214a 0 = .ok (.iload_n 0, 1) := by decide +kernel
theorem dJ2_checkIndex_2214a_1 : decode cJ2_checkIndex_2214a 1 = .ok (.aload_n 1, 1) := by decide +kernel
theorem dJ2_checkIndex_2214a_2 : decode cJ2_checkIndex_2214a 2 = .ok (.invokestatic 48, 3) := by decide +kernel
theorem dJ2_checkIndex_2214a_5 : decode cJ2_checkIndex_2214a 5 = .ok (.invokestatic 414, 3) := by decide +kernel
theorem dJ2_checkIndex_2214a_8 : decode cJ2_checkIndex_2214a 8 = .ok (.return_, 1) := by decide +kernel
theorem dJ2_checkBoundsBeginEnd_d044e_0 : decode cJ2_checkBoundsBeginEnd_d044e 0 = .ok (.iload_n 0, 1) := by decide +kernel
theorem dJ2_checkBoundsBeginEnd_d044e_1 : decode cJ2_checkBoundsBeginEnd_d044e 1 = .ok (.iload_n 1, 1) := by decide +kernel
theorem dJ2_checkBoundsBeginEnd_d044e_2 : decode cJ2_checkBoundsBeginEnd_d044e 2 = .ok (.aload_n 2, 1) := by decide +kernel
theorem dJ2_checkBoundsBeginEnd_d044e_3 : decode cJ2_checkBoundsBeginEnd_d044e 3 = .ok (.invokestatic 48, 3) := by decide +kernel
theorem dJ2_checkBoundsBeginEnd_d044e_6 : decode cJ2_checkBoundsBeginEnd_d044e 6 = .ok (.invokestatic 241, 3) := by decide +kernel
theorem dJ2_checkBoundsBeginEnd_d044e_9 : decode cJ2_checkBoundsBeginEnd_d044e 9 = .ok (.return_, 1) := by decide +kernel
theorem dJ2_checkBoundsOffCount_d044e_0 : decode cJ2_checkBoundsOffCount_d044e 0 = .ok (.iload_n 0, 1) := by decide +kernel
theorem dJ2_checkBoundsOffCount_d044e_1 : decode cJ2_checkBoundsOffCount_d044e 1 = .ok (.iload_n 1, 1) := by decide +kernel
theorem dJ2_checkBoundsOffCount_d044e_2 : decode cJ2_checkBoundsOffCount_d044e 2 = .ok (.aload_n 2, 1) := by decide +kernel
theorem dJ2_checkBoundsOffCount_d044e_3 : decode cJ2_checkBoundsOffCount_d044e 3 = .ok (.invokestatic 48, 3) := by decide +kernel
theorem dJ2_checkBoundsOffCount_d044e_6 : decode cJ2_checkBoundsOffCount_d044e 6 = .ok (.invokestatic 419, 3) := by decide +kernel
theorem dJ2_checkBoundsOffCount_d044e_9 : decode cJ2_checkBoundsOffCount_d044e 9 = .ok (.pop, 1) := by decide +kernel
theorem dJ2_checkBoundsOffCount_d044e_10 : decode cJ2_checkBoundsOffCount_d044e 10 = .ok (.return_, 1) := by decide +kernel
theorem dJ7_rangeCheck_23922_0 : decode cJ7_rangeCheck_23922 0 = .ok (.iload_n 1, 1) := by decide +kernel
theorem dJ7_rangeCheck_23922_1 : decode cJ7_rangeCheck_23922 1 = .ok (.iload_n 2, 1) := by decide +kernel
theorem dJ7_rangeCheck_23922_2 : decode cJ7_rangeCheck_23922 2 = .ok (.if_icmp .le 44, 3) := by decide +kernel
theorem dJ7_rangeCheck_23922_5 : decode cJ7_rangeCheck_23922 5 = .ok (.new 43, 3) := by decide +kernel
theorem dJ7_rangeCheck_23922_8 : decode cJ7_rangeCheck_23922 8 = .ok (.dup, 1) := by decide +kernel
theorem dJ7_rangeCheck_23922_9 : decode cJ7_rangeCheck_23922 9 = .ok (.new 45, 3) := by decide +kernel
theorem dJ7_rangeCheck_23922_12 : decode cJ7_rangeCheck_23922 12 = .ok (.dup, 1) := by decide +kernel
theorem dJ7_rangeCheck_23922_13 : decode cJ7_rangeCheck_23922 13 = .ok (.invokespecial 47, 3) := by decide +kernel
theorem dJ7_rangeCheck_23922_16 : decode cJ7_rangeCheck_23922 16 = .ok (.ldc 48, 2) := by decide +kernel
theorem dJ7_rangeCheck_23922_18 : decode cJ7_rangeCheck_23922 18 = .ok (.invokevirtual 50, 3) := by decide +kernel
theorem dJ7_rangeCheck_23922_21 : decode cJ7_rangeCheck_23922 21 = .ok (.iload_n 1, 1) := by decide +kernel
theorem dJ7_rangeCheck_23922_22 : decode cJ7_rangeCheck_23922 22 = .ok (.invokevirtual 54, 3) := by decide +kernel
theorem dJ7_rangeCheck_23922_25 : decode cJ7_rangeCheck_23922 25 = .ok (.ldc 57, 2) := by decide +kernel
theorem dJ7_rangeCheck_23922_27 : decode cJ7_rangeCheck_23922 27 = .ok (.invokevirtual 50, 3) := by decide +kernel
theorem dJ7_rangeCheck_23922_30 : decode cJ7_rangeCheck_23922 30 = .ok (.iload_n 2, 1) := by decide +kernel
theorem dJ7_rangeCheck_23922_31 : decode cJ7_rangeCheck_23922 31 = .ok (.invokevirtual 54, 3) := by decide +kernel
theorem dJ7_rangeCheck_23922_34 : decode cJ7_rangeCheck_23922 34 = .ok (.ldc 59, 2) := by decide +kernel
theorem dJ7_rangeCheck_23922_36 : decode cJ7_rangeCheck_23922 36 = .ok (.invokevirtual 50, 3) := by decide +kernel
theorem dJ7_rangeCheck_23922_39 : decode cJ7_rangeCheck_23922 39 = .ok (.invokevirtual 61, 3) := by decide +kernel
theorem dJ7_rangeCheck_23922_42 : decode cJ7_rangeCheck_23922 42 = .ok (.invokespecial 65, 3) := by decide +kernel
theorem dJ7_rangeCheck_23922_45 : decode cJ7_rangeCheck_23922 45 = .ok (.athrow, 1) := by decide +kernel
theorem dJ7_rangeCheck_23922_46 : decode cJ7_rangeCheck_23922 46 = .ok (.iload_n 1, 1) := by decide +kernel
theorem dJ7_rangeCheck_23922_47 : decode cJ7_rangeCheck_23922 47 = .ok (.ifCond .ge 12, 3) := by decide +kernel
theorem dJ7_rangeCheck_23922_50 : decode cJ7_rangeCheck_23922 50 = .ok (.new 68, 3) := by decide +kernel
theorem dJ7_rangeCheck_23922_53 : decode cJ7_rangeCheck_23922 53 = .ok (.dup, 1) := by decide +kernel
theorem dJ7_rangeCheck_23922_54 : decode cJ7_rangeCheck_23922 54 = .ok (.iload_n 1, 1) := by decide +kernel
theorem dJ7_rangeCheck_23922_55 : decode cJ7_rangeCheck_23922 55 = .ok (.invokespecial 70, 3) := by decide +kernel
theorem dJ7_rangeCheck_23922_58 : decode cJ7_rangeCheck_23922 58 = .ok (.athrow, 1) := by decide +kernel
theorem dJ7_rangeCheck_23922_59 : decode cJ7_rangeCheck_23922 59 = .ok (.iload_n 2, 1) := by decide +kernel
theorem dJ7_rangeCheck_23922_60 : decode cJ7_rangeCheck_23922 60 = .ok (.iload_n 0, 1) := by decide +kernel
theorem dJ7_rangeCheck_23922_61 : decode cJ7_rangeCheck_23922 61 = .ok (.if_icmp .le 12, 3) := by decide +kernel
theorem dJ7_rangeCheck_23922_64 : decode cJ7_rangeCheck_23922 64 = .ok (.new 68, 3) := by decide +kernel
theorem dJ7_rangeCheck_23922_67 : decode cJ7_rangeCheck_23922 67 = .ok (.dup, 1) := by decide +kernel
theorem dJ7_rangeCheck_23922_68 : decode cJ7_rangeCheck_23922 68 = .ok (.iload_n 2, 1) := by decide +kernel
theorem dJ7_rangeCheck_23922_69 : decode cJ7_rangeCheck_23922 69 = .ok (.invokespecial 70, 3) := by decide +kernel
theorem dJ7_rangeCheck_23922_72 : decode cJ7_rangeCheck_23922 72 = .ok (.athrow, 1) := by decide +kernel
theorem dJ7_rangeCheck_23922_73 : decode cJ7_rangeCheck_23922 73 = .ok (.return_, 1) := by decide +kernel
theorem dJ7_fill_eb02e_0 : decode cJ7_fill_eb02e 0 = .ok (.aload_n 0, 1) := by decide +kernel
theorem dJ7_fill_eb02e_1 : decode cJ7_fill_eb02e 1 = .ok (.arraylength, 1) := by decide +kernel
theorem dJ7_fill_eb02e_2 : decode cJ7_fill_eb02e 2 = .ok (.iload_n 1, 1) := by decide +kernel
theorem dJ7_fill_eb02e_3 : decode cJ7_fill_eb02e 3 = .ok (.iload_n 2, 1) := by decide +kernel
theorem dJ7_fill_eb02e_4 : decode cJ7_fill_eb02e 4 = .ok (.invokestatic 13, 3) := by decide +kernel
theorem dJ7_fill_eb02e_7 : decode cJ7_fill_eb02e 7 = .ok (.iload_n 1, 1) := by decide +kernel
theorem dJ7_fill_eb02e_8 : decode cJ7_fill_eb02e 8 = .ok (.istore 4, 2) := by decide +kernel
theorem dJ7_fill_eb02e_10 : decode cJ7_fill_eb02e 10 = .ok (.iload 4, 2) := by decide +kernel
theorem dJ7_fill_eb02e_12 : decode cJ7_fill_eb02e 12 = .ok (.iload_n 2, 1) := by decide +kernel
theorem dJ7_fill_eb02e_13 : decode cJ7_fill_eb02e 13 = .ok (.if_icmp .ge 14, 3) := by decide +kernel
theorem dJ7_fill_eb02e_16 : decode cJ7_fill_eb02e 16 = .ok (.aload_n 0, 1) := by decide +kernel
theorem dJ7_fill_eb02e_17 : decode cJ7_fill_eb02e 17 = .ok (.iload 4, 2) := by decide +kernel
theorem dJ7_fill_eb02e_19 : decode cJ7_fill_eb02e 19 = .ok (.iload_n 3, 1) := by decide +kernel
theorem dJ7_fill_eb02e_20 : decode cJ7_fill_eb02e 20 = .ok (.bastore, 1) := by decide +kernel
theorem dJ7_fill_eb02e_21 : decode cJ7_fill_eb02e 21 = .ok (.iinc 4 1, 3) := by decide +kernel
theorem dJ7_fill_eb02e_24 : decode cJ7_fill_eb02e 24 = .ok (.goto (-14), 3) := by decide +kernel
theorem dJ7_fill_eb02e_27 : decode cJ7_fill_eb02e 27 = .ok (.return_, 1) := by decide +kernel
theorem dJ7_copyOf_9075b_0 : decode cJ7_copyOf_9075b 0 = .ok (.iload_n 1, 1) := by decide +kernel
theorem dJ7_copyOf_9075b_1 : decode cJ7_copyOf_9075b 1 = .ok (.aload_n 0, 1) := by decide +kernel
theorem dJ7_copyOf_9075b_2 : decode cJ7_copyOf_9075b 2 = .ok (.arraylength, 1) := by decide +kernel
theorem dJ7_copyOf_9075b_3 : decode cJ7_copyOf_9075b 3 = .ok (.if_icmp .ne 11, 3) := by decide +kernel
theorem dJ7_copyOf_9075b_6 : decode cJ7_copyOf_9075b 6 = .ok (.aload_n 0, 1) := by decide +kernel
theorem dJ7_copyOf_9075b_7 : decode cJ7_copyOf_9075b 7 = .ok (.invokevirtual 310, 3) := by decide +kernel
theorem dJ7_copyOf_9075b_10 : decode cJ7_copyOf_9075b 10 = .ok (.checkcast 311, 3) := by decide +kernel
theorem dJ7_copyOf_9075b_13 : decode cJ7_copyOf_9075b 13 = .ok (.areturn, 1) := by decide +kernel
theorem dJ7_copyOf_9075b_14 : decode cJ7_copyOf_9075b 14 = .ok (.iload_n 1, 1) := by decide +kernel
theorem dJ7_copyOf_9075b_15 : decode cJ7_copyOf_9075b 15 = .ok (.newarray .byte, 2) := by decide +kernel
theorem dJ7_copyOf_9075b_17 : decode cJ7_copyOf_9075b 17 = .ok (.astore_n 2, 1) := by decide +kernel
theorem dJ7_copyOf_9075b_18 : decode cJ7_copyOf_9075b 18 = .ok (.aload_n 0, 1) := by decide +kernel
theorem dJ7_copyOf_9075b_19 : decode cJ7_copyOf_9075b 19 = .ok (.iconst 0, 1) := by decide +kernel
theorem dJ7_copyOf_9075b_20 : decode cJ7_copyOf_9075b 20 = .ok (.aload_n 2, 1) := by decide +kernel
theorem dJ7_copyOf_9075b_21 : decode cJ7_copyOf_9075b 21 = .ok (.iconst 0, 1) := by decide +kernel
theorem dJ7_copyOf_9075b_22 : decode cJ7_copyOf_9075b 22 = .ok (.aload_n 0, 1) := by decide +kernel
theorem dJ7_copyOf_9075b_23 : decode cJ7_copyOf_9075b 23 = .ok (.arraylength, 1) := by decide +kernel
theorem dJ7_copyOf_9075b_24 : decode cJ7_copyOf_9075b 24 = .ok (.iload_n 1, 1) := by decide +kernel
theorem dJ7_copyOf_9075b_25 : decode cJ7_copyOf_9075b 25 = .ok (.invokestatic 304, 3) := by decide +kernel
theorem dJ7_copyOf_9075b_28 : decode cJ7_copyOf_9075b 28 = .ok (.invokestatic 150, 3) := by decide +kernel
theorem dJ7_copyOf_9075b_31 : decode cJ7_copyOf_9075b 31 = .ok (.aload_n 2, 1) := by decide +kernel
theorem dJ7_copyOf_9075b_32 : decode cJ7_copyOf_9075b 32 = .ok (.areturn, 1) := by decide +kernel
theorem dJ7_checkLength_df160_0 : decode cJ7_checkLength_df160 0 = .ok (.iload_n 1, 1) := by decide +kernel
theorem dJ7_checkLength_df160_1 : decode cJ7_checkLength_df160 1 = .ok (.iload_n 0, 1) := by decide +kernel
theorem dJ7_checkLength_df160_2 : decode cJ7_checkLength_df160 2 = .ok (.if_icmp .ge 35, 3) := by decide +kernel
theorem dJ7_checkLength_df160_5 : decode cJ7_checkLength_df160 5 = .ok (.new 43, 3) := by decide +kernel
theorem dJ7_checkLength_df160_8 : decode cJ7_checkLength_df160 8 = .ok (.dup, 1) := by decide +kernel
theorem dJ7_checkLength_df160_9 : decode cJ7_checkLength_df160 9 = .ok (.new 45, 3) := by decide +kernel
theorem dJ7_checkLength_df160_12 : decode cJ7_checkLength_df160 12 = .ok (.dup, 1) := by decide +kernel
theorem dJ7_checkLength_df160_13 : decode cJ7_checkLength_df160 13 = .ok (.invokespecial 47, 3) := by decide +kernel
theorem dJ7_checkLength_df160_16 : decode cJ7_checkLength_df160 16 = .ok (.iload_n 0, 1) := by decide +kernel
theorem dJ7_checkLength_df160_17 : decode cJ7_checkLength_df160 17 = .ok (.invokevirtual 54, 3) := by decide +kernel
theorem dJ7_checkLength_df160_20 : decode cJ7_checkLength_df160 20 = .ok (.ldc_w 337, 3) := by decide +kernel
theorem dJ7_checkLength_df160_23 : decode cJ7_checkLength_df160 23 = .ok (.invokevirtual 50, 3) := by decide +kernel
theorem dJ7_checkLength_df160_26 : decode cJ7_checkLength_df160 26 = .ok (.iload_n 1, 1) := by decide +kernel
theorem dJ7_checkLength_df160_27 : decode cJ7_checkLength_df160 27 = .ok (.invokevirtual 54, 3) := by decide +kernel
theorem dJ7_checkLength_df160_30 : decode cJ7_checkLength_df160 30 = .ok (.invokevirtual 61, 3) := by decide +kernel
theorem dJ7_checkLength_df160_33 : decode cJ7_checkLength_df160 33 = .ok (.invokespecial 65, 3) := by decide +kernel
theorem dJ7_checkLength_df160_36 : decode cJ7_checkLength_df160 36 = .ok (.athrow, 1) := by decide +kernel
theorem dJ7_checkLength_df160_37 : decode cJ7_checkLength_df160 37 = .ok (.return_, 1) := by decide +kernel
theorem dJ7_copyOfRange_39247_0 : decode cJ7_copyOfRange_39247 0 = .ok (.iload_n 1, 1) := by decide +kernel
theorem dJ7_copyOfRange_39247_1 : decode cJ7_copyOfRange_39247 1 = .ok (.ifCond .ne 9, 3) := by decide +kernel
theorem dJ7_copyOfRange_39247_4 : decode cJ7_copyOfRange_39247 4 = .ok (.iload_n 2, 1) := by decide +kernel
theorem dJ7_copyOfRange_39247_5 : decode cJ7_copyOfRange_39247 5 = .ok (.aload_n 0, 1) := by decide +kernel
theorem dJ7_copyOfRange_39247_6 : decode cJ7_copyOfRange_39247 6 = .ok (.arraylength, 1) := by decide +kernel
theorem dJ7_copyOfRange_39247_7 : decode cJ7_copyOfRange_39247 7 = .ok (.if_icmp .eq 10, 3) := by decide +kernel
theorem dJ7_copyOfRange_39247_10 : decode cJ7_copyOfRange_39247 10 = .ok (.aload_n 0, 1) := by decide +kernel
theorem dJ7_copyOfRange_39247_11 : decode cJ7_copyOfRange_39247 11 = .ok (.iload_n 1, 1) := by decide +kernel
theorem dJ7_copyOfRange_39247_12 : decode cJ7_copyOfRange_39247 12 = .ok (.iload_n 2, 1) := by decide +kernel
theorem dJ7_copyOfRange_39247_13 : decode cJ7_copyOfRange_39247 13 = .ok (.invokestatic 339, 3) := by decide +kernel
theorem dJ7_copyOfRange_39247_16 : decode cJ7_copyOfRange_39247 16 = .ok (.areturn, 1) := by decide +kernel
theorem dJ7_copyOfRange_39247_17 : decode cJ7_copyOfRange_39247 17 = .ok (.aload_n 0, 1) := by decide +kernel
theorem dJ7_copyOfRange_39247_18 : decode cJ7_copyOfRange_39247 18 = .ok (.invokevirtual 310, 3) := by decide +kernel
theorem dJ7_copyOfRange_39247_21 : decode cJ7_copyOfRange_39247 21 = .ok (.checkcast 311, 3) := by decide +kernel
theorem dJ7_copyOfRange_39247_24 : decode cJ7_copyOfRange_39247 24 = .ok (.areturn, 1) := by decide +kernel
theorem dJ7_copyOfRangeByte_39247_0 : decode cJ7_copyOfRangeByte_39247 0 = .ok (.iload_n 1, 1) := by decide +kernel
theorem dJ7_copyOfRangeByte_39247_1 : decode cJ7_copyOfRangeByte_39247 1 = .ok (.iload_n 2, 1) := by decide +kernel
theorem dJ7_copyOfRangeByte_39247_2 : decode cJ7_copyOfRangeByte_39247 2 = .ok (.invokestatic 343, 3) := by decide +kernel
theorem dJ7_copyOfRangeByte_39247_5 : decode cJ7_copyOfRangeByte_39247 5 = .ok (.iload_n 2, 1) := by decide +kernel
theorem dJ7_copyOfRangeByte_39247_6 : decode cJ7_copyOfRangeByte_39247 6 = .ok (.iload_n 1, 1) := by decide +kernel
theorem dJ7_copyOfRangeByte_39247_7 : decode cJ7_copyOfRangeByte_39247 7 = .ok (.isub, 1) := by decide +kernel
theorem dJ7_copyOfRangeByte_39247_8 : decode cJ7_copyOfRangeByte_39247 8 = .ok (.istore_n 3, 1) := by decide +kernel
theorem dJ7_copyOfRangeByte_39247_9 : decode cJ7_copyOfRangeByte_39247 9 = .ok (.iload_n 3, 1) := by decide +kernel
theorem dJ7_copyOfRangeByte_39247_10 : decode cJ7_copyOfRangeByte_39247 10 = .ok (.newarray .byte, 2) := by decide +kernel
theorem dJ7_copyOfRangeByte_39247_12 : decode cJ7_copyOfRangeByte_39247 12 = .ok (.astore 4, 2) := by decide +kernel
theorem dJ7_copyOfRangeByte_39247_14 : decode cJ7_copyOfRangeByte_39247 14 = .ok (.aload_n 0, 1) := by decide +kernel
theorem dJ7_copyOfRangeByte_39247_15 : decode cJ7_copyOfRangeByte_39247 15 = .ok (.iload_n 1, 1) := by decide +kernel
theorem dJ7_copyOfRangeByte_39247_16 : decode cJ7_copyOfRangeByte_39247 16 = .ok (.aload 4, 2) := by decide +kernel
theorem dJ7_copyOfRangeByte_39247_18 : decode cJ7_copyOfRangeByte_39247 18 = .ok (.iconst 0, 1) := by decide +kernel
theorem dJ7_copyOfRangeByte_39247_19 : decode cJ7_copyOfRangeByte_39247 19 = .ok (.aload_n 0, 1) := by decide +kernel
theorem dJ7_copyOfRangeByte_39247_20 : decode cJ7_copyOfRangeByte_39247 20 = .ok (.arraylength, 1) := by decide +kernel
theorem dJ7_copyOfRangeByte_39247_21 : decode cJ7_copyOfRangeByte_39247 21 = .ok (.iload_n 1, 1) := by decide +kernel
theorem dJ7_copyOfRangeByte_39247_22 : decode cJ7_copyOfRangeByte_39247 22 = .ok (.isub, 1) := by decide +kernel
theorem dJ7_copyOfRangeByte_39247_23 : decode cJ7_copyOfRangeByte_39247 23 = .ok (.iload_n 3, 1) := by decide +kernel
theorem dJ7_copyOfRangeByte_39247_24 : decode cJ7_copyOfRangeByte_39247 24 = .ok (.invokestatic 304, 3) := by decide +kernel
theorem dJ7_copyOfRangeByte_39247_27 : decode cJ7_copyOfRangeByte_39247 27 = .ok (.invokestatic 150, 3) := by decide +kernel
theorem dJ7_copyOfRangeByte_39247_30 : decode cJ7_copyOfRangeByte_39247 30 = .ok (.aload 4, 2) := by decide +kernel
theorem dJ7_copyOfRangeByte_39247_32 : decode cJ7_copyOfRangeByte_39247 32 = .ok (.areturn, 1) := by decide +kernel
theorem dJ8_newLength_cabcc_0 : decode cJ8_newLength_cabcc 0 = .ok (.iload_n 0, 1) := by decide +kernel
theorem dJ8_newLength_cabcc_1 : decode cJ8_newLength_cabcc 1 = .ok (.iload_n 1, 1) := by decide +kernel
theorem dJ8_newLength_cabcc_2 : decode cJ8_newLength_cabcc 2 = .ok (.iload_n 2, 1) := by decide +kernel
theorem dJ8_newLength_cabcc_3 : decode cJ8_newLength_cabcc 3 = .ok (.invokestatic 194, 3) := by decide +kernel
theorem dJ8_newLength_cabcc_6 : decode cJ8_newLength_cabcc 6 = .ok (.iadd, 1) := by decide +kernel
theorem dJ8_newLength_cabcc_7 : decode cJ8_newLength_cabcc 7 = .ok (.istore_n 3, 1) := by decide +kernel
theorem dJ8_newLength_cabcc_8 : decode cJ8_newLength_cabcc 8 = .ok (.iconst 0, 1) := by decide +kernel
theorem dJ8_newLength_cabcc_9 : decode cJ8_newLength_cabcc 9 = .ok (.iload_n 3, 1) := by decide +kernel
theorem dJ8_newLength_cabcc_10 : decode cJ8_newLength_cabcc 10 = .ok (.if_icmp .ge 11, 3) := by decide +kernel
theorem dJ8_newLength_cabcc_13 : decode cJ8_newLength_cabcc 13 = .ok (.iload_n 3, 1) := by decide +kernel
theorem dJ8_newLength_cabcc_14 : decode cJ8_newLength_cabcc 14 = .ok (.ldc 200, 2) := by decide +kernel
theorem dJ8_newLength_cabcc_16 : decode cJ8_newLength_cabcc 16 = .ok (.if_icmp .gt 5, 3) := by decide +kernel
theorem dJ8_newLength_cabcc_19 : decode cJ8_newLength_cabcc 19 = .ok (.iload_n 3, 1) := by decide +kernel
theorem dJ8_newLength_cabcc_20 : decode cJ8_newLength_cabcc 20 = .ok (.ireturn, 1) := by decide +kernel
theorem dJ8_newLength_cabcc_21 : decode cJ8_newLength_cabcc 21 = .ok (.iload_n 0, 1) := by decide +kernel
theorem dJ8_newLength_cabcc_22 : decode cJ8_newLength_cabcc 22 = .ok (.iload_n 1, 1) := by decide +kernel
theorem dJ8_newLength_cabcc_23 : decode cJ8_newLength_cabcc 23 = .ok (.invokestatic 201, 3) := by decide +kernel
theorem dJ8_newLength_cabcc_26 : decode cJ8_newLength_cabcc 26 = .ok (.ireturn, 1) := by decide +kernel
theorem dJ8_hugeLength_7cf53_0 : decode cJ8_hugeLength_7cf53 0 = .ok (.iload_n 0, 1) := by decide +kernel
theorem dJ8_hugeLength_7cf53_1 : decode cJ8_hugeLength_7cf53 1 = .ok (.iload_n 1, 1) := by decide +kernel
theorem dJ8_hugeLength_7cf53_2 : decode cJ8_hugeLength_7cf53 2 = .ok (.iadd, 1) := by decide +kernel
theorem dJ8_hugeLength_7cf53_3 : decode cJ8_hugeLength_7cf53 3 = .ok (.istore_n 2, 1) := by decide +kernel
theorem dJ8_hugeLength_7cf53_4 : decode cJ8_hugeLength_7cf53 4 = .ok (.iload_n 2, 1) := by decide +kernel
theorem dJ8_hugeLength_7cf53_5 : decode cJ8_hugeLength_7cf53 5 = .ok (.ifCond .ge 44, 3) := by decide +kernel
theorem dJ8_hugeLength_7cf53_8 : decode cJ8_hugeLength_7cf53 8 = .ok (.new 204, 3) := by decide +kernel
theorem dJ8_hugeLength_7cf53_11 : decode cJ8_hugeLength_7cf53 11 = .ok (.dup, 1) := by decide +kernel
theorem dJ8_hugeLength_7cf53_12 : decode cJ8_hugeLength_7cf53 12 = .ok (.new 89, 3) := by decide +kernel
theorem dJ8_hugeLength_7cf53_15 : decode cJ8_hugeLength_7cf53 15 = .ok (.dup, 1) := by decide +kernel
theorem dJ8_hugeLength_7cf53_16 : decode cJ8_hugeLength_7cf53 16 = .ok (.invokespecial 91, 3) := by decide +kernel
theorem dJ8_hugeLength_7cf53_19 : decode cJ8_hugeLength_7cf53 19 = .ok (.ldc 206, 2) := by decide +kernel
theorem dJ8_hugeLength_7cf53_21 : decode cJ8_hugeLength_7cf53 21 = .ok (.invokevirtual 94, 3) := by decide +kernel
theorem dJ8_hugeLength_7cf53_24 : decode cJ8_hugeLength_7cf53 24 = .ok (.iload_n 0, 1) := by decide +kernel
theorem dJ8_hugeLength_7cf53_25 : decode cJ8_hugeLength_7cf53 25 = .ok (.invokevirtual 98, 3) := by decide +kernel
theorem dJ8_hugeLength_7cf53_28 : decode cJ8_hugeLength_7cf53 28 = .ok (.ldc 208, 2) := by decide +kernel
theorem dJ8_hugeLength_7cf53_30 : decode cJ8_hugeLength_7cf53 30 = .ok (.invokevirtual 94, 3) := by decide +kernel
theorem dJ8_hugeLength_7cf53_33 : decode cJ8_hugeLength_7cf53 33 = .ok (.iload_n 1, 1) := by decide +kernel
theorem dJ8_hugeLength_7cf53_34 : decode cJ8_hugeLength_7cf53 34 = .ok (.invokevirtual 98, 3) := by decide +kernel
theorem dJ8_hugeLength_7cf53_37 : decode cJ8_hugeLength_7cf53 37 = .ok (.ldc 210, 2) := by decide +kernel
theorem dJ8_hugeLength_7cf53_39 : decode cJ8_hugeLength_7cf53 39 = .ok (.invokevirtual 94, 3) := by decide +kernel
theorem dJ8_hugeLength_7cf53_42 : decode cJ8_hugeLength_7cf53 42 = .ok (.invokevirtual 101, 3) := by decide +kernel
theorem dJ8_hugeLength_7cf53_45 : decode cJ8_hugeLength_7cf53 45 = .ok (.invokespecial 212, 3) := by decide +kernel
theorem dJ8_hugeLength_7cf53_48 : decode cJ8_hugeLength_7cf53 48 = .ok (.athrow, 1) := by decide +kernel
theorem dJ8_hugeLength_7cf53_49 : decode cJ8_hugeLength_7cf53 49 = .ok (.iload_n 2, 1) := by decide +kernel
theorem dJ8_hugeLength_7cf53_50 : decode cJ8_hugeLength_7cf53 50 = .ok (.ldc 200, 2) := by decide +kernel
theorem dJ8_hugeLength_7cf53_52 : decode cJ8_hugeLength_7cf53 52 = .ok (.if_icmp .gt 6, 3) := by decide +kernel
theorem dJ8_hugeLength_7cf53_55 : decode cJ8_hugeLength_7cf53 55 = .ok (.ldc 200, 2) := by decide +kernel
theorem dJ8_hugeLength_7cf53_57 : decode cJ8_hugeLength_7cf53 57 = .ok (.ireturn, 1) := by decide +kernel
theorem dJ8_hugeLength_7cf53_58 : decode cJ8_hugeLength_7cf53 58 = .ok (.iload_n 2, 1) := by decide +kernel
theorem dJ8_hugeLength_7cf53_59 : decode cJ8_hugeLength_7cf53 59 = .ok (.ireturn, 1) := by decide +kernel
theorem dJ3_checkIndex_8e157_0 : decode cJ3_checkIndex_8e157 0 = .ok (.iload_n 0, 1) := by decide +kernel
theorem dJ3_checkIndex_8e157_1 : decode cJ3_checkIndex_8e157 1 = .ok (.ifCond .lt 8, 3) := by decide +kernel
theorem dJ3_checkIndex_8e157_4 : decode cJ3_checkIndex_8e157 4 = .ok (.iload_n 0, 1) := by decide +kernel
theorem dJ3_checkIndex_8e157_5 : decode cJ3_checkIndex_8e157 5 = .ok (.iload_n 1, 1) := by decide +kernel
theorem dJ3_checkIndex_8e157_6 : decode cJ3_checkIndex_8e157 6 = .ok (.if_icmp .lt 10, 3) := by decide +kernel
theorem dJ3_checkIndex_8e157_9 : decode cJ3_checkIndex_8e157 9 = .ok (.aload_n 2, 1) := by decide +kernel
theorem dJ3_checkIndex_8e157_10 : decode cJ3_checkIndex_8e157 10 = .ok (.iload_n 0, 1) := by decide +kernel
theorem dJ3_checkIndex_8e157_11 : decode cJ3_checkIndex_8e157 11 = .ok (.iload_n 1, 1) := by decide +kernel
theorem dJ3_checkIndex_8e157_12 : decode cJ3_checkIndex_8e157 12 = .ok (.invokestatic 95, 3) := by decide +kernel
theorem dJ3_checkIndex_8e157_15 : decode cJ3_checkIndex_8e157 15 = .ok (.athrow, 1) := by decide +kernel
theorem dJ3_checkIndex_8e157_16 : decode cJ3_checkIndex_8e157 16 = .ok (.iload_n 0, 1) := by decide +kernel
theorem dJ3_checkIndex_8e157_17 : decode cJ3_checkIndex_8e157 17 = .ok (.ireturn, 1) := by decide +kernel
theorem dJ3_checkFromToIndex_8c36e_0 : decode cJ3_checkFromToIndex_8c36e 0 = .ok (.iload_n 0, 1) := by decide +kernel
theorem dJ3_checkFromToIndex_8c36e_1 : decode cJ3_checkFromToIndex_8c36e 1 = .ok (.ifCond .lt 13, 3) := by decide +kernel
theorem dJ3_checkFromToIndex_8c36e_4 : decode cJ3_checkFromToIndex_8c36e 4 = .ok (.iload_n 0, 1) := by decide +kernel
theorem dJ3_checkFromToIndex_8c36e_5 : decode cJ3_checkFromToIndex_8c36e 5 = .ok (.iload_n 1, 1) := by decide +kernel
theorem dJ3_checkFromToIndex_8c36e_6 : decode cJ3_checkFromToIndex_8c36e 6 = .ok (.if_icmp .gt 8, 3) := by decide +kernel
theorem dJ3_checkFromToIndex_8c36e_9 : decode cJ3_checkFromToIndex_8c36e 9 = .ok (.iload_n 1, 1) := by decide +kernel
theorem dJ3_checkFromToIndex_8c36e_10 : decode cJ3_checkFromToIndex_8c36e 10 = .ok (.iload_n 2, 1) := by decide +kernel
theorem dJ3_checkFromToIndex_8c36e_11 : decode cJ3_checkFromToIndex_8c36e 11 = .ok (.if_icmp .le 11, 3) := by decide +kernel
theorem dJ3_checkFromToIndex_8c36e_14 : decode cJ3_checkFromToIndex_8c36e 14 = .ok (.aload_n 3, 1) := by decide +kernel
theorem dJ3_checkFromToIndex_8c36e_15 : decode cJ3_checkFromToIndex_8c36e 15 = .ok (.iload_n 0, 1) := by decide +kernel
theorem dJ3_checkFromToIndex_8c36e_16 : decode cJ3_checkFromToIndex_8c36e 16 = .ok (.iload_n 1, 1) := by decide +kernel
theorem dJ3_checkFromToIndex_8c36e_17 : decode cJ3_checkFromToIndex_8c36e 17 = .ok (.iload_n 2, 1) := by decide +kernel
theorem dJ3_checkFromToIndex_8c36e_18 : decode cJ3_checkFromToIndex_8c36e 18 = .ok (.invokestatic 99, 3) := by decide +kernel
theorem dJ3_checkFromToIndex_8c36e_21 : decode cJ3_checkFromToIndex_8c36e 21 = .ok (.athrow, 1) := by decide +kernel
theorem dJ3_checkFromToIndex_8c36e_22 : decode cJ3_checkFromToIndex_8c36e 22 = .ok (.iload_n 0, 1) := by decide +kernel
theorem dJ3_checkFromToIndex_8c36e_23 : decode cJ3_checkFromToIndex_8c36e 23 = .ok (.ireturn, 1) := by decide +kernel
theorem dJ3_checkFromIndexSize_8c36e_0 : decode cJ3_checkFromIndexSize_8c36e 0 = .ok (.iload_n 2, 1) := by decide +kernel
theorem dJ3_checkFromIndexSize_8c36e_1 : decode cJ3_checkFromIndexSize_8c36e 1 = .ok (.iload_n 0, 1) := by decide +kernel
theorem dJ3_checkFromIndexSize_8c36e_2 : decode cJ3_checkFromIndexSize_8c36e 2 = .ok (.ior, 1) := by decide +kernel
theorem dJ3_checkFromIndexSize_8c36e_3 : decode cJ3_checkFromIndexSize_8c36e 3 = .ok (.iload_n 1, 1) := by decide +kernel
theorem dJ3_checkFromIndexSize_8c36e_4 : decode cJ3_checkFromIndexSize_8c36e 4 = .ok (.ior, 1) := by decide +kernel
theorem dJ3_checkFromIndexSize_8c36e_5 : decode cJ3_checkFromIndexSize_8c36e 5 = .ok (.ifCond .lt 10, 3) := by decide +kernel
theorem dJ3_checkFromIndexSize_8c36e_8 : decode cJ3_checkFromIndexSize_8c36e 8 = .ok (.iload_n 1, 1) := by decide +kernel
theorem dJ3_checkFromIndexSize_8c36e_9 : decode cJ3_checkFromIndexSize_8c36e 9 = .ok (.iload_n 2, 1) := by decide +kernel
theorem dJ3_checkFromIndexSize_8c36e_10 : decode cJ3_checkFromIndexSize_8c36e 10 = .ok (.iload_n 0, 1) := by decide +kernel
theorem dJ3_checkFromIndexSize_8c36e_11 : decode cJ3_checkFromIndexSize_8c36e 11 = .ok (.isub, 1) := by decide +kernel
theorem dJ3_checkFromIndexSize_8c36e_12 : decode cJ3_checkFromIndexSize_8c36e 12 = .ok (.if_icmp .le 11, 3) := by decide +kernel
theorem dJ3_checkFromIndexSize_8c36e_15 : decode cJ3_checkFromIndexSize_8c36e 15 = .ok (.aload_n 3, 1) := by decide +kernel
theorem dJ3_checkFromIndexSize_8c36e_16 : decode cJ3_checkFromIndexSize_8c36e 16 = .ok (.iload_n 0, 1) := by decide +kernel
theorem dJ3_checkFromIndexSize_8c36e_17 : decode cJ3_checkFromIndexSize_8c36e 17 = .ok (.iload_n 1, 1) := by decide +kernel
theorem dJ3_checkFromIndexSize_8c36e_18 : decode cJ3_checkFromIndexSize_8c36e 18 = .ok (.iload_n 2, 1) := by decide +kernel
theorem dJ3_checkFromIndexSize_8c36e_19 : decode cJ3_checkFromIndexSize_8c36e 19 = .ok (.invokestatic 103, 3) := by decide +kernel
theorem dJ3_checkFromIndexSize_8c36e_22 : decode cJ3_checkFromIndexSize_8c36e 22 = .ok (.athrow, 1) := by decide +kernel
theorem dJ3_checkFromIndexSize_8c36e_23 : decode cJ3_checkFromIndexSize_8c36e 23 = .ok (.iload_n 0, 1) := by decide +kernel
theorem dJ3_checkFromIndexSize_8c36e_24 : decode cJ3_checkFromIndexSize_8c36e 24 = .ok (.ireturn, 1) := by decide +kernel
