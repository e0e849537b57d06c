theorem d_M_setting_284 : decode b_M_setting 284 = .ok (.aload_n 0, 1) := by decide +kernel
theorem d_M_setting_285 : decode b_M_setting 285 = .ok (.getfield 45, 3) := by decide +kernel
theorem d_M_setting_288 : decode b_M_setting 288 = .ok (.bipush 10, 2) := by decide +kernel
theorem d_M_setting_290 : decode b_M_setting 290 = .ok (.iload_n 1, 1) := by decide +kernel
theorem d_M_setting_291 : decode b_M_setting 291 = .ok (.imul, 1) := by decide +kernel
theorem d_M_setting_292 : decode b_M_setting 292 = .ok (.iload_n 2, 1) := by decide +kernel
theorem d_M_setting_293 : decode b_M_setting 293 = .ok (.iadd, 1) := by decide +kernel
theorem d_M_setting_294 : decode b_M_setting 294 = .ok (.bipush 10, 2) := by decide +kernel
theorem d_M_setting_296 : decode b_M_setting 296 = .ok (.isub, 1) := by decide +kernel
theorem d_M_setting_297 : decode b_M_setting 297 = .ok (.iload 8, 2) := by decide +kernel
theorem d_M_setting_299 : decode b_M_setting 299 = .ok (.bastore, 1) := by decide +kernel
theorem d_M_setting_300 : decode b_M_setting 300 = .ok (.dload 6, 2) := by decide +kernel
theorem d_M_setting_302 : decode b_M_setting 302 = .ok (.dreturn, 1) := by decide +kernel
theorem d_M_post_0 : decode b_M_post 0 = .ok (.iload_n 1, 1) := by decide +kernel
theorem d_M_post_1 : decode b_M_post 1 = .ok (.iload_n 2, 1) := by decide +kernel
theorem d_M_post_2 : decode b_M_post 2 = .ok (.invokestatic 103, 3) := by decide +kernel
theorem d_M_post_5 : decode b_M_post 5 = .ok (.ifCond .eq 25, 3) := by decide +kernel
theorem d_M_post_8 : decode b_M_post 8 = .ok (.iload_n 3, 1) := by decide +kernel
theorem d_M_post_9 : decode b_M_post 9 = .ok (.iconst 1, 1) := by decide +kernel
theorem d_M_post_10 : decode b_M_post 10 = .ok (.sipush 1000, 3) := by decide +kernel
theorem d_M_post_13 : decode b_M_post 13 = .ok (.invokestatic 96, 3) := by decide +kernel
theorem d_M_post_16 : decode b_M_post 16 = .ok (.ifCond .eq 14, 3) := by decide +kernel
theorem d_M_post_19 : decode b_M_post 19 = .ok (.iload 4, 2) := by decide +kernel
theorem d_M_post_21 : decode b_M_post 21 = .ok (.iconst 0, 1) := by decide +kernel
theorem d_M_post_22 : decode b_M_post 22 = .ok (.bipush 9, 2) := by decide +kernel
theorem d_M_post_24 : decode b_M_post 24 = .ok (.invokestatic 96, 3) := by decide +kernel
theorem d_M_post_27 : decode b_M_post 27 = .ok (.ifCond .ne 9, 3) := by decide +kernel
theorem d_M_post_30 : decode b_M_post 30 = .ok (.aload_n 0, 1) := by decide +kernel
theorem d_M_post_31 : decode b_M_post 31 = .ok (.iconst 1, 1) := by decide +kernel
theorem d_M_post_32 : decode b_M_post 32 = .ok (.invokevirtual 107, 3) := by decide +kernel
theorem d_M_post_35 : decode b_M_post 35 = .ok (.ireturn, 1) := by decide +kernel
theorem d_M_post_36 : decode b_M_post 36 = .ok (.aload_n 0, 1) := by decide +kernel
theorem d_M_post_37 : decode b_M_post 37 = .ok (.getfield 125, 3) := by decide +kernel
theorem d_M_post_40 : decode b_M_post 40 = .ok (.bipush 40, 2) := by decide +kernel
theorem d_M_post_42 : decode b_M_post 42 = .ok (.if_icmp .ne 9, 3) := by decide +kernel
theorem d_M_post_45 : decode b_M_post 45 = .ok (.aload_n 0, 1) := by decide +kernel
theorem d_M_post_46 : decode b_M_post 46 = .ok (.iconst 2, 1) := by decide +kernel
theorem d_M_post_47 : decode b_M_post 47 = .ok (.invokevirtual 107, 3) := by decide +kernel
theorem d_M_post_50 : decode b_M_post 50 = .ok (.ireturn, 1) := by decide +kernel
theorem d_M_post_51 : decode b_M_post 51 = .ok (.bipush 12, 2) := by decide +kernel
theorem d_M_post_53 : decode b_M_post 53 = .ok (.iload_n 1, 1) := by decide +kernel
theorem d_M_post_54 : decode b_M_post 54 = .ok (.imul, 1) := by decide +kernel
theorem d_M_post_55 : decode b_M_post 55 = .ok (.iload_n 2, 1) := by decide +kernel
theorem d_M_post_56 : decode b_M_post 56 = .ok (.iadd, 1) := by decide +kernel
theorem d_M_post_57 : decode b_M_post 57 = .ok (.istore 5, 2) := by decide +kernel
theorem d_M_post_59 : decode b_M_post 59 = .ok (.aload_n 0, 1) := by decide +kernel
theorem d_M_post_60 : decode b_M_post 60 = .ok (.getfield 125, 3) := by decide +kernel
theorem d_M_post_63 : decode b_M_post 63 = .ok (.istore 6, 2) := by decide +kernel
theorem d_M_post_65 : decode b_M_post 65 = .ok (.aload_n 0, 1) := by decide +kernel
theorem d_M_post_66 : decode b_M_post 66 = .ok (.getfield 32, 3) := by decide +kernel
theorem d_M_post_69 : decode b_M_post 69 = .ok (.iload 5, 2) := by decide +kernel
theorem d_M_post_71 : decode b_M_post 71 = .ok (.baload, 1) := by decide +kernel
theorem d_M_post_72 : decode b_M_post 72 = .ok (.ifCond .ne 23, 3) := by decide +kernel
theorem d_M_post_75 : decode b_M_post 75 = .ok (.aload_n 0, 1) := by decide +kernel
theorem d_M_post_76 : decode b_M_post 76 = .ok (.getfield 7, 3) := by decide +kernel
theorem d_M_post_79 : decode b_M_post 79 = .ok (.iload 5, 2) := by decide +kernel
theorem d_M_post_81 : decode b_M_post 81 = .ok (.iaload, 1) := by decide +kernel
theorem d_M_post_82 : decode b_M_post 82 = .ok (.iconst 1, 1) := by decide +kernel
theorem d_M_post_83 : decode b_M_post 83 = .ok (.if_icmp .eq 18, 3) := by decide +kernel
theorem d_M_post_86 : decode b_M_post 86 = .ok (.aload_n 0, 1) := by decide +kernel
theorem d_M_post_87 : decode b_M_post 87 = .ok (.getfield 39, 3) := by decide +kernel
theorem d_M_post_90 : decode b_M_post 90 = .ok (.iload_n 1, 1) := by decide +kernel
theorem d_M_post_91 : decode b_M_post 91 = .ok (.baload, 1) := by decide +kernel
theorem d_M_post_92 : decode b_M_post 92 = .ok (.ifCond .ne 9, 3) := by decide +kernel
theorem d_M_post_95 : decode b_M_post 95 = .ok (.aload_n 0, 1) := by decide +kernel
theorem d_M_post_96 : decode b_M_post 96 = .ok (.iconst 3, 1) := by decide +kernel
theorem d_M_post_97 : decode b_M_post 97 = .ok (.invokevirtual 107, 3) := by decide +kernel
theorem d_M_post_100 : decode b_M_post 100 = .ok (.ireturn, 1) := by decide +kernel
theorem d_M_post_101 : decode b_M_post 101 = .ok (.aload_n 0, 1) := by decide +kernel
theorem d_M_post_102 : decode b_M_post 102 = .ok (.iconst 0, 1) := by decide +kernel
theorem d_M_post_103 : decode b_M_post 103 = .ok (.putfield 92, 3) := by decide +kernel
theorem d_M_post_106 : decode b_M_post 106 = .ok (.aload_n 0, 1) := by decide +kernel
theorem d_M_post_107 : decode b_M_post 107 = .ok (.getfield 59, 3) := by decide +kernel
theorem d_M_post_110 : decode b_M_post 110 = .ok (.iload 6, 2) := by decide +kernel
theorem d_M_post_112 : decode b_M_post 112 = .ok (.iload_n 1, 1) := by decide +kernel
theorem d_M_post_113 : decode b_M_post 113 = .ok (.iastore, 1) := by decide +kernel
theorem d_M_post_114 : decode b_M_post 114 = .ok (.aload_n 0, 1) := by decide +kernel
theorem d_M_post_115 : decode b_M_post 115 = .ok (.getfield 62, 3) := by decide +kernel
theorem d_M_post_118 : decode b_M_post 118 = .ok (.iload 6, 2) := by decide +kernel
theorem d_M_post_120 : decode b_M_post 120 = .ok (.iload_n 2, 1) := by decide +kernel
theorem d_M_post_121 : decode b_M_post 121 = .ok (.iastore, 1) := by decide +kernel
theorem d_M_post_122 : decode b_M_post 122 = .ok (.aload_n 0, 1) := by decide +kernel
theorem d_M_post_123 : decode b_M_post 123 = .ok (.getfield 65, 3) := by decide +kernel
theorem d_M_post_126 : decode b_M_post 126 = .ok (.iload 6, 2) := by decide +kernel
theorem d_M_post_128 : decode b_M_post 128 = .ok (.iload_n 3, 1) := by decide +kernel
theorem d_M_post_129 : decode b_M_post 129 = .ok (.iastore, 1) := by decide +kernel
theorem d_M_post_130 : decode b_M_post 130 = .ok (.aload_n 0, 1) := by decide +kernel
theorem d_M_post_131 : decode b_M_post 131 = .ok (.dup, 1) := by decide +kernel
theorem d_M_post_132 : decode b_M_post 132 = .ok (.getfield 125, 3) := by decide +kernel
theorem d_M_post_135 : decode b_M_post 135 = .ok (.iconst 1, 1) := by decide +kernel
theorem d_M_post_136 : decode b_M_post 136 = .ok (.iadd, 1) := by decide +kernel
theorem d_M_post_137 : decode b_M_post 137 = .ok (.putfield 125, 3) := by decide +kernel
theorem d_M_post_140 : decode b_M_post 140 = .ok (.aload_n 0, 1) := by decide +kernel
theorem d_M_post_141 : decode b_M_post 141 = .ok (.getfield 7, 3) := by decide +kernel
theorem d_M_post_144 : decode b_M_post 144 = .ok (.iload 5, 2) := by decide +kernel
theorem d_M_post_146 : decode b_M_post 146 = .ok (.iaload, 1) := by decide +kernel
theorem d_M_post_147 : decode b_M_post 147 = .ok (.iconst (-1), 1) := by decide +kernel
theorem d_M_post_148 : decode b_M_post 148 = .ok (.if_icmp .eq 17, 3) := by decide +kernel
theorem d_M_post_151 : decode b_M_post 151 = .ok (.aload_n 0, 1) := by decide +kernel
theorem d_M_post_152 : decode b_M_post 152 = .ok (.getfield 28, 3) := by decide +kernel
theorem d_M_post_155 : decode b_M_post 155 = .ok (.iload 5, 2) := by decide +kernel
theorem d_M_post_157 : decode b_M_post 157 = .ok (.baload, 1) := by decide +kernel
theorem d_M_post_158 : decode b_M_post 158 = .ok (.ifCond .eq 7, 3) := by decide +kernel
theorem d_M_post_161 : decode b_M_post 161 = .ok (.iconst 1, 1) := by decide +kernel
theorem d_M_post_162 : decode b_M_post 162 = .ok (.goto 4, 3) := by decide +kernel
theorem d_M_post_165 : decode b_M_post 165 = .ok (.iconst 0, 1) := by decide +kernel
theorem d_M_post_166 : decode b_M_post 166 = .ok (.istore 7, 2) := by decide +kernel
theorem d_M_post_168 : decode b_M_post 168 = .ok (.iload 7, 2) := by decide +kernel
theorem d_M_post_170 : decode b_M_post 170 = .ok (.ifCond .ne 41, 3) := by decide +kernel
theorem d_M_post_173 : decode b_M_post 173 = .ok (.iload_n 3, 1) := by decide +kernel
theorem d_M_post_174 : decode b_M_post 174 = .ok (.aload_n 0, 1) := by decide +kernel
theorem d_M_post_175 : decode b_M_post 175 = .ok (.getfield 48, 3) := by decide +kernel
theorem d_M_post_178 : decode b_M_post 178 = .ok (.iload_n 1, 1) := by decide +kernel
theorem d_M_post_179 : decode b_M_post 179 = .ok (.iaload, 1) := by decide +kernel
theorem d_M_post_180 : decode b_M_post 180 = .ok (.if_icmp .gt 27, 3) := by decide +kernel
theorem d_M_post_183 : decode b_M_post 183 = .ok (.aload_n 0, 1) := by decide +kernel
theorem d_M_post_184 : decode b_M_post 184 = .ok (.getfield 45, 3) := by decide +kernel
theorem d_M_post_187 : decode b_M_post 187 = .ok (.bipush 10, 2) := by decide +kernel
theorem d_M_post_189 : decode b_M_post 189 = .ok (.iload_n 1, 1) := by decide +kernel
theorem d_M_post_190 : decode b_M_post 190 = .ok (.imul, 1) := by decide +kernel
theorem d_M_post_191 : decode b_M_post 191 = .ok (.iload 4, 2) := by decide +kernel
theorem d_M_post_193 : decode b_M_post 193 = .ok (.iadd, 1) := by decide +kernel
theorem d_M_post_194 : decode b_M_post 194 = .ok (.baload, 1) := by decide +kernel
theorem d_M_post_195 : decode b_M_post 195 = .ok (.ifCond .ne 12, 3) := by decide +kernel
theorem d_M_post_198 : decode b_M_post 198 = .ok (.aload_n 0, 1) := by decide +kernel
theorem d_M_post_199 : decode b_M_post 199 = .ok (.getfield 42, 3) := by decide +kernel
theorem d_M_post_202 : decode b_M_post 202 = .ok (.iload_n 1, 1) := by decide +kernel
theorem d_M_post_203 : decode b_M_post 203 = .ok (.baload, 1) := by decide +kernel
theorem d_M_post_204 : decode b_M_post 204 = .ok (.ifCond .eq 7, 3) := by decide +kernel
theorem d_M_post_207 : decode b_M_post 207 = .ok (.iconst 1, 1) := by decide +kernel
theorem d_M_post_208 : decode b_M_post 208 = .ok (.goto 4, 3) := by decide +kernel
theorem d_M_post_211 : decode b_M_post 211 = .ok (.iconst 0, 1) := by decide +kernel
theorem d_M_post_212 : decode b_M_post 212 = .ok (.istore 8, 2) := by decide +kernel
theorem d_M_post_214 : decode b_M_post 214 = .ok (.aload_n 0, 1) := by decide +kernel
theorem d_M_post_215 : decode b_M_post 215 = .ok (.getfield 68, 3) := by decide +kernel
theorem d_M_post_218 : decode b_M_post 218 = .ok (.iload 6, 2) := by decide +kernel
theorem d_M_post_220 : decode b_M_post 220 = .ok (.iload 8, 2) := by decide +kernel
theorem d_M_post_222 : decode b_M_post 222 = .ok (.ifCond .eq 7, 3) := by decide +kernel
theorem d_M_post_225 : decode b_M_post 225 = .ok (.iconst 0, 1) := by decide +kernel
theorem d_M_post_226 : decode b_M_post 226 = .ok (.goto 4, 3) := by decide +kernel
theorem d_M_post_229 : decode b_M_post 229 = .ok (.iconst 1, 1) := by decide +kernel
theorem d_M_post_230 : decode b_M_post 230 = .ok (.iastore, 1) := by decide +kernel
theorem d_M_post_231 : decode b_M_post 231 = .ok (.iload 8, 2) := by decide +kernel
theorem d_M_post_233 : decode b_M_post 233 = .ok (.ifCond .eq 60, 3) := by decide +kernel
theorem d_M_post_236 : decode b_M_post 236 = .ok (.iconst 0, 1) := by decide +kernel
theorem d_M_post_237 : decode b_M_post 237 = .ok (.istore 9, 2) := by decide +kernel
theorem d_M_post_239 : decode b_M_post 239 = .ok (.iload 9, 2) := by decide +kernel
theorem d_M_post_241 : decode b_M_post 241 = .ok (.bipush 12, 2) := by decide +kernel
theorem d_M_post_243 : decode b_M_post 243 = .ok (.if_icmp .ge 50, 3) := by decide +kernel
theorem d_M_post_246 : decode b_M_post 246 = .ok (.aload_n 0, 1) := by decide +kernel
theorem d_M_post_247 : decode b_M_post 247 = .ok (.getfield 7, 3) := by decide +kernel
theorem d_M_post_250 : decode b_M_post 250 = .ok (.bipush 12, 2) := by decide +kernel
theorem d_M_post_252 : decode b_M_post 252 = .ok (.iload_n 1, 1) := by decide +kernel
theorem d_M_post_253 : decode b_M_post 253 = .ok (.imul, 1) := by decide +kernel
theorem d_M_post_254 : decode b_M_post 254 = .ok (.iload 9, 2) := by decide +kernel
theorem d_M_post_256 : decode b_M_post 256 = .ok (.iadd, 1) := by decide +kernel
theorem d_M_post_257 : decode b_M_post 257 = .ok (.iaload, 1) := by decide +kernel
theorem d_M_post_258 : decode b_M_post 258 = .ok (.iconst (-1), 1) := by decide +kernel
theorem d_M_post_259 : decode b_M_post 259 = .ok (.if_icmp .eq 28, 3) := by decide +kernel
theorem d_M_post_262 : decode b_M_post 262 = .ok (.aload_n 0, 1) := by decide +kernel
theorem d_M_post_263 : decode b_M_post 263 = .ok (.getfield 28, 3) := by decide +kernel
theorem d_M_post_266 : decode b_M_post 266 = .ok (.bipush 12, 2) := by decide +kernel
theorem d_M_post_268 : decode b_M_post 268 = .ok (.iload_n 1, 1) := by decide +kernel
theorem d_M_post_269 : decode b_M_post 269 = .ok (.imul, 1) := by decide +kernel
theorem d_M_post_270 : decode b_M_post 270 = .ok (.iload 9, 2) := by decide +kernel
theorem d_M_post_272 : decode b_M_post 272 = .ok (.iadd, 1) := by decide +kernel
theorem d_M_post_273 : decode b_M_post 273 = .ok (.baload, 1) := by decide +kernel
theorem d_M_post_274 : decode b_M_post 274 = .ok (.ifCond .eq 13, 3) := by decide +kernel
theorem d_M_post_277 : decode b_M_post 277 = .ok (.aload_n 0, 1) := by decide +kernel
theorem d_M_post_278 : decode b_M_post 278 = .ok (.iload 9, 2) := by decide +kernel
theorem d_M_post_280 : decode b_M_post 280 = .ok (.iload_n 1, 1) := by decide +kernel
theorem d_M_post_281 : decode b_M_post 281 = .ok (.iconst 3, 1) := by decide +kernel
theorem d_M_post_282 : decode b_M_post 282 = .ok (.iload 6, 2) := by decide +kernel
theorem d_M_post_284 : decode b_M_post 284 = .ok (.invokevirtual 117, 3) := by decide +kernel
theorem d_M_post_287 : decode b_M_post 287 = .ok (.iinc 9 1, 3) := by decide +kernel
theorem d_M_post_290 : decode b_M_post 290 = .ok (.goto (-51), 3) := by decide +kernel
theorem d_M_post_293 : decode b_M_post 293 = .ok (.iload 8, 2) := by decide +kernel
theorem d_M_post_295 : decode b_M_post 295 = .ok (.ifCond .ne 9, 3) := by decide +kernel
theorem d_M_post_298 : decode b_M_post 298 = .ok (.aload_n 0, 1) := by decide +kernel
theorem d_M_post_299 : decode b_M_post 299 = .ok (.iload 6, 2) := by decide +kernel
theorem d_M_post_301 : decode b_M_post 301 = .ok (.invokevirtual 128, 3) := by decide +kernel
theorem d_M_post_304 : decode b_M_post 304 = .ok (.iload 6, 2) := by decide +kernel
theorem d_M_post_306 : decode b_M_post 306 = .ok (.ireturn, 1) := by decide +kernel
theorem d_M_isLive_0 : decode b_M_isLive 0 = .ok (.bipush 12, 2) := by decide +kernel
theorem d_M_isLive_2 : decode b_M_isLive 2 = .ok (.iload_n 1, 1) := by decide +kernel
theorem d_M_isLive_3 : decode b_M_isLive 3 = .ok (.imul, 1) := by decide +kernel
theorem d_M_isLive_4 : decode b_M_isLive 4 = .ok (.iload_n 2, 1) := by decide +kernel
theorem d_M_isLive_5 : decode b_M_isLive 5 = .ok (.iadd, 1) := by decide +kernel
theorem d_M_isLive_6 : decode b_M_isLive 6 = .ok (.istore 4, 2) := by decide +kernel
theorem d_M_isLive_8 : decode b_M_isLive 8 = .ok (.aload_n 0, 1) := by decide +kernel
theorem d_M_isLive_9 : decode b_M_isLive 9 = .ok (.getfield 7, 3) := by decide +kernel
theorem d_M_isLive_12 : decode b_M_isLive 12 = .ok (.iload 4, 2) := by decide +kernel
theorem d_M_isLive_14 : decode b_M_isLive 14 = .ok (.iaload, 1) := by decide +kernel
theorem d_M_isLive_15 : decode b_M_isLive 15 = .ok (.iconst 1, 1) := by decide +kernel
theorem d_M_isLive_16 : decode b_M_isLive 16 = .ok (.if_icmp .ne 18, 3) := by decide +kernel
theorem d_M_isLive_19 : decode b_M_isLive 19 = .ok (.aload_n 0, 1) := by decide +kernel
theorem d_M_isLive_20 : decode b_M_isLive 20 = .ok (.getfield 13, 3) := by decide +kernel
theorem d_M_isLive_23 : decode b_M_isLive 23 = .ok (.iload 4, 2) := by decide +kernel
theorem d_M_isLive_25 : decode b_M_isLive 25 = .ok (.iaload, 1) := by decide +kernel
theorem d_M_isLive_26 : decode b_M_isLive 26 = .ok (.iload_n 3, 1) := by decide +kernel
theorem d_M_isLive_27 : decode b_M_isLive 27 = .ok (.if_icmp .ne 7, 3) := by decide +kernel
theorem d_M_isLive_30 : decode b_M_isLive 30 = .ok (.iconst 1, 1) := by decide +kernel
theorem d_M_isLive_31 : decode b_M_isLive 31 = .ok (.goto 4, 3) := by decide +kernel
theorem d_M_isLive_34 : decode b_M_isLive 34 = .ok (.iconst 0, 1) := by decide +kernel
theorem d_M_isLive_35 : decode b_M_isLive 35 = .ok (.ireturn, 1) := by decide +kernel
theorem d_M_pass_0 : decode b_M_pass 0 = .ok (.aload_n 0, 1) := by decide +kernel
theorem d_M_pass_1 : decode b_M_pass 1 = .ok (.getfield 59, 3) := by decide +kernel
theorem d_M_pass_4 : decode b_M_pass 4 = .ok (.iload_n 1, 1) := by decide +kernel
theorem d_M_pass_5 : decode b_M_pass 5 = .ok (.iaload, 1) := by decide +kernel
theorem d_M_pass_6 : decode b_M_pass 6 = .ok (.istore_n 2, 1) := by decide +kernel
theorem d_M_pass_7 : decode b_M_pass 7 = .ok (.iconst 0, 1) := by decide +kernel
theorem d_M_pass_8 : decode b_M_pass 8 = .ok (.istore_n 3, 1) := by decide +kernel
theorem d_M_pass_9 : decode b_M_pass 9 = .ok (.iconst 0, 1) := by decide +kernel
theorem d_M_pass_10 : decode b_M_pass 10 = .ok (.istore 4, 2) := by decide +kernel
theorem d_M_pass_12 : decode b_M_pass 12 = .ok (.iconst 0, 1) := by decide +kernel
theorem d_M_pass_13 : decode b_M_pass 13 = .ok (.istore 5, 2) := by decide +kernel
theorem d_M_pass_15 : decode b_M_pass 15 = .ok (.iload 5, 2) := by decide +kernel
theorem d_M_pass_17 : decode b_M_pass 17 = .ok (.bipush 12, 2) := by decide +kernel
theorem d_M_pass_19 : decode b_M_pass 19 = .ok (.if_icmp .ge 53, 3) := by decide +kernel
theorem d_M_pass_22 : decode b_M_pass 22 = .ok (.aload_n 0, 1) := by decide +kernel
theorem d_M_pass_23 : decode b_M_pass 23 = .ok (.iload_n 2, 1) := by decide +kernel
theorem d_M_pass_24 : decode b_M_pass 24 = .ok (.iload 5, 2) := by decide +kernel
theorem d_M_pass_26 : decode b_M_pass 26 = .ok (.iconst 0, 1) := by decide +kernel
theorem d_M_pass_27 : decode b_M_pass 27 = .ok (.invokevirtual 132, 3) := by decide +kernel
theorem d_M_pass_30 : decode b_M_pass 30 = .ok (.ifCond .eq 23, 3) := by decide +kernel
theorem d_M_pass_33 : decode b_M_pass 33 = .ok (.iload 5, 2) := by decide +kernel
theorem d_M_pass_35 : decode b_M_pass 35 = .ok (.aload_n 0, 1) := by decide +kernel
theorem d_M_pass_36 : decode b_M_pass 36 = .ok (.getfield 62, 3) := by decide +kernel
theorem d_M_pass_39 : decode b_M_pass 39 = .ok (.iload_n 1, 1) := by decide +kernel
theorem d_M_pass_40 : decode b_M_pass 40 = .ok (.iaload, 1) := by decide +kernel
theorem d_M_pass_41 : decode b_M_pass 41 = .ok (.if_icmp .eq 12, 3) := by decide +kernel
theorem d_M_pass_44 : decode b_M_pass 44 = .ok (.aload_n 0, 1) := by decide +kernel
theorem d_M_pass_45 : decode b_M_pass 45 = .ok (.iload 5, 2) := by decide +kernel
theorem d_M_pass_47 : decode b_M_pass 47 = .ok (.iload_n 2, 1) := by decide +kernel
theorem d_M_pass_48 : decode b_M_pass 48 = .ok (.iconst 0, 1) := by decide +kernel
theorem d_M_pass_49 : decode b_M_pass 49 = .ok (.iload_n 1, 1) := by decide +kernel
theorem d_M_pass_50 : decode b_M_pass 50 = .ok (.invokevirtual 117, 3) := by decide +kernel
theorem d_M_pass_53 : decode b_M_pass 53 = .ok (.iload 4, 2) := by decide +kernel
theorem d_M_pass_55 : decode b_M_pass 55 = .ok (.aload_n 0, 1) := by decide +kernel
theorem d_M_pass_56 : decode b_M_pass 56 = .ok (.iload_n 2, 1) := by decide +kernel
theorem d_M_pass_57 : decode b_M_pass 57 = .ok (.iload 5, 2) := by decide +kernel
theorem d_M_pass_59 : decode b_M_pass 59 = .ok (.iconst 1, 1) := by decide +kernel
theorem d_M_pass_60 : decode b_M_pass 60 = .ok (.invokevirtual 132, 3) := by decide +kernel
theorem d_M_pass_63 : decode b_M_pass 63 = .ok (.ior, 1) := by decide +kernel
theorem d_M_pass_64 : decode b_M_pass 64 = .ok (.istore 4, 2) := by decide +kernel
theorem d_M_pass_66 : decode b_M_pass 66 = .ok (.iinc 5 1, 3) := by decide +kernel
theorem d_M_pass_69 : decode b_M_pass 69 = .ok (.goto (-54), 3) := by decide +kernel
theorem d_M_pass_72 : decode b_M_pass 72 = .ok (.iload 4, 2) := by decide +kernel
theorem d_M_pass_74 : decode b_M_pass 74 = .ok (.ifCond .ne 4, 3) := by decide +kernel
theorem d_M_pass_77 : decode b_M_pass 77 = .ok (.return_, 1) := by decide +kernel
theorem d_M_pass_78 : decode b_M_pass 78 = .ok (.aload_n 0, 1) := by decide +kernel
theorem d_M_pass_79 : decode b_M_pass 79 = .ok (.getfield 74, 3) := by decide +kernel
theorem d_M_pass_82 : decode b_M_pass 82 = .ok (.bipush 40, 2) := by decide +kernel
theorem d_M_pass_84 : decode b_M_pass 84 = .ok (.iload_n 2, 1) := by decide +kernel
theorem d_M_pass_85 : decode b_M_pass 85 = .ok (.imul, 1) := by decide +kernel
theorem d_M_pass_86 : decode b_M_pass 86 = .ok (.aload_n 0, 1) := by decide +kernel
theorem d_M_pass_87 : decode b_M_pass 87 = .ok (.getfield 71, 3) := by decide +kernel
theorem d_M_pass_90 : decode b_M_pass 90 = .ok (.iload_n 2, 1) := by decide +kernel
theorem d_M_pass_91 : decode b_M_pass 91 = .ok (.iaload, 1) := by decide +kernel
theorem d_M_pass_92 : decode b_M_pass 92 = .ok (.iadd, 1) := by decide +kernel
theorem d_M_pass_93 : decode b_M_pass 93 = .ok (.aload_n 0, 1) := by decide +kernel
theorem d_M_pass_94 : decode b_M_pass 94 = .ok (.getfield 65, 3) := by decide +kernel
theorem d_M_pass_97 : decode b_M_pass 97 = .ok (.iload_n 1, 1) := by decide +kernel
theorem d_M_pass_98 : decode b_M_pass 98 = .ok (.iaload, 1) := by decide +kernel
theorem d_M_pass_99 : decode b_M_pass 99 = .ok (.iastore, 1) := by decide +kernel
theorem d_M_pass_100 : decode b_M_pass 100 = .ok (.aload_n 0, 1) := by decide +kernel
theorem d_M_pass_101 : decode b_M_pass 101 = .ok (.getfield 77, 3) := by decide +kernel
theorem d_M_pass_104 : decode b_M_pass 104 = .ok (.bipush 40, 2) := by decide +kernel
theorem d_M_pass_106 : decode b_M_pass 106 = .ok (.iload_n 2, 1) := by decide +kernel
theorem d_M_pass_107 : decode b_M_pass 107 = .ok (.imul, 1) := by decide +kernel
theorem d_M_pass_108 : decode b_M_pass 108 = .ok (.aload_n 0, 1) := by decide +kernel
theorem d_M_pass_109 : decode b_M_pass 109 = .ok (.getfield 71, 3) := by decide +kernel
theorem d_M_pass_112 : decode b_M_pass 112 = .ok (.iload_n 2, 1) := by decide +kernel
theorem d_M_pass_113 : decode b_M_pass 113 = .ok (.iaload, 1) := by decide +kernel
theorem d_M_pass_114 : decode b_M_pass 114 = .ok (.iadd, 1) := by decide +kernel
theorem d_M_pass_115 : decode b_M_pass 115 = .ok (.aload_n 0, 1) := by decide +kernel
theorem d_M_pass_116 : decode b_M_pass 116 = .ok (.getfield 111, 3) := by decide +kernel
theorem d_M_pass_119 : decode b_M_pass 119 = .ok (.iastore, 1) := by decide +kernel
theorem d_M_pass_120 : decode b_M_pass 120 = .ok (.aload_n 0, 1) := by decide +kernel
theorem d_M_pass_121 : decode b_M_pass 121 = .ok (.getfield 71, 3) := by decide +kernel
theorem d_M_pass_124 : decode b_M_pass 124 = .ok (.iload_n 2, 1) := by decide +kernel
theorem d_M_pass_125 : decode b_M_pass 125 = .ok (.dup2, 1) := by decide +kernel
theorem d_M_pass_126 : decode b_M_pass 126 = .ok (.iaload, 1) := by decide +kernel
theorem d_M_pass_127 : decode b_M_pass 127 = .ok (.iconst 1, 1) := by decide +kernel
theorem d_M_pass_128 : decode b_M_pass 128 = .ok (.iadd, 1) := by decide +kernel
theorem d_M_pass_129 : decode b_M_pass 129 = .ok (.iastore, 1) := by decide +kernel
theorem d_M_pass_130 : decode b_M_pass 130 = .ok (.iconst 0, 1) := by decide +kernel
theorem d_M_pass_131 : decode b_M_pass 131 = .ok (.istore 5, 2) := by decide +kernel
theorem d_M_pass_133 : decode b_M_pass 133 = .ok (.iload 5, 2) := by decide +kernel
theorem d_M_pass_135 : decode b_M_pass 135 = .ok (.aload_n 0, 1) := by decide +kernel
theorem d_M_pass_136 : decode b_M_pass 136 = .ok (.getfield 71, 3) := by decide +kernel
theorem d_M_pass_139 : decode b_M_pass 139 = .ok (.iload_n 2, 1) := by decide +kernel
theorem d_M_pass_140 : decode b_M_pass 140 = .ok (.iaload, 1) := by decide +kernel
theorem d_M_pass_141 : decode b_M_pass 141 = .ok (.if_icmp .ge 24, 3) := by decide +kernel
theorem d_M_pass_144 : decode b_M_pass 144 = .ok (.iload_n 3, 1) := by decide +kernel
theorem d_M_pass_145 : decode b_M_pass 145 = .ok (.aload_n 0, 1) := by decide +kernel
theorem d_M_pass_146 : decode b_M_pass 146 = .ok (.getfield 74, 3) := by decide +kernel
theorem d_M_pass_149 : decode b_M_pass 149 = .ok (.bipush 40, 2) := by decide +kernel
theorem d_M_pass_151 : decode b_M_pass 151 = .ok (.iload_n 2, 1) := by decide +kernel
theorem d_M_pass_152 : decode b_M_pass 152 = .ok (.imul, 1) := by decide +kernel
theorem d_M_pass_153 : decode b_M_pass 153 = .ok (.iload 5, 2) := by decide +kernel
theorem d_M_pass_155 : decode b_M_pass 155 = .ok (.iadd, 1) := by decide +kernel
theorem d_M_pass_156 : decode b_M_pass 156 = .ok (.iaload, 1) := by decide +kernel
theorem d_M_pass_157 : decode b_M_pass 157 = .ok (.iadd, 1) := by decide +kernel
theorem d_M_pass_158 : decode b_M_pass 158 = .ok (.istore_n 3, 1) := by decide +kernel
theorem d_M_pass_159 : decode b_M_pass 159 = .ok (.iinc 5 1, 3) := by decide +kernel
theorem d_M_pass_162 : decode b_M_pass 162 = .ok (.goto (-29), 3) := by decide +kernel
theorem d_M_pass_165 : decode b_M_pass 165 = .ok (.iload_n 3, 1) := by decide +kernel
theorem d_M_pass_166 : decode b_M_pass 166 = .ok (.aload_n 0, 1) := by decide +kernel
theorem d_M_pass_167 : decode b_M_pass 167 = .ok (.getfield 51, 3) := by decide +kernel
theorem d_M_pass_170 : decode b_M_pass 170 = .ok (.iload_n 2, 1) := by decide +kernel
theorem d_M_pass_171 : decode b_M_pass 171 = .ok (.iaload, 1) := by decide +kernel
theorem d_M_pass_172 : decode b_M_pass 172 = .ok (.if_icmp .lt 8, 3) := by decide +kernel
theorem d_M_pass_175 : decode b_M_pass 175 = .ok (.aload_n 0, 1) := by decide +kernel
theorem d_M_pass_176 : decode b_M_pass 176 = .ok (.iload_n 2, 1) := by decide +kernel
theorem d_M_pass_177 : decode b_M_pass 177 = .ok (.invokevirtual 135, 3) := by decide +kernel
theorem d_M_pass_180 : decode b_M_pass 180 = .ok (.return_, 1) := by decide +kernel
theorem d_M_digest_0 : decode b_M_digest 0 = .ok (.iconst 0, 1) := by decide +kernel
theorem d_M_digest_1 : decode b_M_digest 1 = .ok (.istore_n 2, 1) := by decide +kernel
theorem d_M_digest_2 : decode b_M_digest 2 = .ok (.iload_n 2, 1) := by decide +kernel
theorem d_M_digest_3 : decode b_M_digest 3 = .ok (.bipush 12, 2) := by decide +kernel
theorem d_M_digest_5 : decode b_M_digest 5 = .ok (.if_icmp .ge 32, 3) := by decide +kernel
theorem d_M_digest_8 : decode b_M_digest 8 = .ok (.aload_n 0, 1) := by decide +kernel
theorem d_M_digest_9 : decode b_M_digest 9 = .ok (.iload_n 1, 1) := by decide +kernel
theorem d_M_digest_10 : decode b_M_digest 10 = .ok (.iload_n 2, 1) := by decide +kernel
theorem d_M_digest_11 : decode b_M_digest 11 = .ok (.iconst 1, 1) := by decide +kernel
theorem d_M_digest_12 : decode b_M_digest 12 = .ok (.invokevirtual 132, 3) := by decide +kernel
theorem d_M_digest_15 : decode b_M_digest 15 = .ok (.ifCond .eq 16, 3) := by decide +kernel
theorem d_M_digest_18 : decode b_M_digest 18 = .ok (.aload_n 0, 1) := by decide +kernel
theorem d_M_digest_19 : decode b_M_digest 19 = .ok (.iload_n 2, 1) := by decide +kernel
theorem d_M_digest_20 : decode b_M_digest 20 = .ok (.iload_n 1, 1) := by decide +kernel
theorem d_M_digest_21 : decode b_M_digest 21 = .ok (.iconst 1, 1) := by decide +kernel
theorem d_M_digest_22 : decode b_M_digest 22 = .ok (.aload_n 0, 1) := by decide +kernel
theorem d_M_digest_23 : decode b_M_digest 23 = .ok (.getfield 71, 3) := by decide +kernel
theorem d_M_digest_26 : decode b_M_digest 26 = .ok (.iload_n 1, 1) := by decide +kernel
theorem d_M_digest_27 : decode b_M_digest 27 = .ok (.iaload, 1) := by decide +kernel
theorem d_M_digest_28 : decode b_M_digest 28 = .ok (.invokevirtual 117, 3) := by decide +kernel
theorem d_M_digest_31 : decode b_M_digest 31 = .ok (.iinc 2 1, 3) := by decide +kernel
theorem d_M_digest_34 : decode b_M_digest 34 = .ok (.goto (-32), 3) := by decide +kernel
theorem d_M_digest_37 : decode b_M_digest 37 = .ok (.aload_n 0, 1) := by decide +kernel
theorem d_M_digest_38 : decode b_M_digest 38 = .ok (.getfield 71, 3) := by decide +kernel
theorem d_M_digest_41 : decode b_M_digest 41 = .ok (.iload_n 1, 1) := by decide +kernel
theorem d_M_digest_42 : decode b_M_digest 42 = .ok (.iconst 0, 1) := by decide +kernel
theorem d_M_digest_43 : decode b_M_digest 43 = .ok (.iastore, 1) := by decide +kernel
theorem d_M_digest_44 : decode b_M_digest 44 = .ok (.return_, 1) := by decide +kernel
theorem d_M_waiting_0 : decode b_M_waiting 0 = .ok (.iconst 0, 1) := by decide +kernel
theorem d_M_waiting_1 : decode b_M_waiting 1 = .ok (.istore_n 2, 1) := by decide +kernel
theorem d_M_waiting_2 : decode b_M_waiting 2 = .ok (.iconst 0, 1) := by decide +kernel
theorem d_M_waiting_3 : decode b_M_waiting 3 = .ok (.istore_n 3, 1) := by decide +kernel
theorem d_M_waiting_4 : decode b_M_waiting 4 = .ok (.iload_n 3, 1) := by decide +kernel
theorem d_M_waiting_5 : decode b_M_waiting 5 = .ok (.aload_n 0, 1) := by decide +kernel
theorem d_M_waiting_6 : decode b_M_waiting 6 = .ok (.getfield 125, 3) := by decide +kernel
theorem d_M_waiting_9 : decode b_M_waiting 9 = .ok (.if_icmp .ge 22, 3) := by decide +kernel
theorem d_M_waiting_12 : decode b_M_waiting 12 = .ok (.aload_n 0, 1) := by decide +kernel
theorem d_M_waiting_13 : decode b_M_waiting 13 = .ok (.getfield 68, 3) := by decide +kernel
theorem d_M_waiting_16 : decode b_M_waiting 16 = .ok (.iload_n 3, 1) := by decide +kernel
theorem d_M_waiting_17 : decode b_M_waiting 17 = .ok (.iaload, 1) := by decide +kernel
theorem d_M_waiting_18 : decode b_M_waiting 18 = .ok (.iload_n 1, 1) := by decide +kernel
theorem d_M_waiting_19 : decode b_M_waiting 19 = .ok (.if_icmp .ne 6, 3) := by decide +kernel
theorem d_M_waiting_22 : decode b_M_waiting 22 = .ok (.iinc 2 1, 3) := by decide +kernel
theorem d_M_waiting_25 : decode b_M_waiting 25 = .ok (.iinc 3 1, 3) := by decide +kernel
theorem d_M_waiting_28 : decode b_M_waiting 28 = .ok (.goto (-24), 3) := by decide +kernel
theorem d_M_waiting_31 : decode b_M_waiting 31 = .ok (.iload_n 2, 1) := by decide +kernel
theorem d_M_waiting_32 : decode b_M_waiting 32 = .ok (.ireturn, 1) := by decide +kernel
theorem d_M_judge_0 : decode b_M_judge 0 = .ok (.iload_n 1, 1) := by decide +kernel
theorem d_M_judge_1 : decode b_M_judge 1 = .ok (.iconst 0, 1) := by decide +kernel
theorem d_M_judge_2 : decode b_M_judge 2 = .ok (.bipush 11, 2) := by decide +kernel
theorem d_M_judge_4 : decode b_M_judge 4 = .ok (.invokestatic 96, 3) := by decide +kernel
theorem d_M_judge_7 : decode b_M_judge 7 = .ok (.ifCond .eq 12, 3) := by decide +kernel
theorem d_M_judge_10 : decode b_M_judge 10 = .ok (.iload_n 3, 1) := by decide +kernel
theorem d_M_judge_11 : decode b_M_judge 11 = .ok (.iconst 0, 1) := by decide +kernel
theorem d_M_judge_12 : decode b_M_judge 12 = .ok (.iconst 2, 1) := by decide +kernel
theorem d_M_judge_13 : decode b_M_judge 13 = .ok (.invokestatic 96, 3) := by decide +kernel
theorem d_M_judge_16 : decode b_M_judge 16 = .ok (.ifCond .ne 9, 3) := by decide +kernel
theorem d_M_judge_19 : decode b_M_judge 19 = .ok (.aload_n 0, 1) := by decide +kernel
theorem d_M_judge_20 : decode b_M_judge 20 = .ok (.iconst 1, 1) := by decide +kernel
theorem d_M_judge_21 : decode b_M_judge 21 = .ok (.invokevirtual 107, 3) := by decide +kernel
theorem d_M_judge_24 : decode b_M_judge 24 = .ok (.ireturn, 1) := by decide +kernel
theorem d_M_judge_25 : decode b_M_judge 25 = .ok (.iload_n 2, 1) := by decide +kernel
theorem d_M_judge_26 : decode b_M_judge 26 = .ok (.iconst 0, 1) := by decide +kernel
theorem d_M_judge_27 : decode b_M_judge 27 = .ok (.aload_n 0, 1) := by decide +kernel
theorem d_M_judge_28 : decode b_M_judge 28 = .ok (.getfield 125, 3) := by decide +kernel
theorem d_M_judge_31 : decode b_M_judge 31 = .ok (.iconst 1, 1) := by decide +kernel
theorem d_M_judge_32 : decode b_M_judge 32 = .ok (.isub, 1) := by decide +kernel
theorem d_M_judge_33 : decode b_M_judge 33 = .ok (.invokestatic 96, 3) := by decide +kernel
theorem d_M_judge_36 : decode b_M_judge 36 = .ok (.ifCond .eq 12, 3) := by decide +kernel
theorem d_M_judge_39 : decode b_M_judge 39 = .ok (.aload_n 0, 1) := by decide +kernel
theorem d_M_judge_40 : decode b_M_judge 40 = .ok (.getfield 68, 3) := by decide +kernel
theorem d_M_judge_43 : decode b_M_judge 43 = .ok (.iload_n 2, 1) := by decide +kernel
theorem d_M_judge_44 : decode b_M_judge 44 = .ok (.iaload, 1) := by decide +kernel
theorem d_M_judge_45 : decode b_M_judge 45 = .ok (.ifCond .eq 9, 3) := by decide +kernel
theorem d_M_judge_48 : decode b_M_judge 48 = .ok (.aload_n 0, 1) := by decide +kernel
theorem d_M_judge_49 : decode b_M_judge 49 = .ok (.iconst 2, 1) := by decide +kernel
theorem d_M_judge_50 : decode b_M_judge 50 = .ok (.invokevirtual 107, 3) := by decide +kernel
theorem d_M_judge_53 : decode b_M_judge 53 = .ok (.ireturn, 1) := by decide +kernel
theorem d_M_judge_54 : decode b_M_judge 54 = .ok (.bipush 12, 2) := by decide +kernel
theorem d_M_judge_56 : decode b_M_judge 56 = .ok (.aload_n 0, 1) := by decide +kernel
theorem d_M_judge_57 : decode b_M_judge 57 = .ok (.getfield 59, 3) := by decide +kernel
theorem d_M_judge_60 : decode b_M_judge 60 = .ok (.iload_n 2, 1) := by decide +kernel
theorem d_M_judge_61 : decode b_M_judge 61 = .ok (.iaload, 1) := by decide +kernel
theorem d_M_judge_62 : decode b_M_judge 62 = .ok (.imul, 1) := by decide +kernel
theorem d_M_judge_63 : decode b_M_judge 63 = .ok (.iload_n 1, 1) := by decide +kernel
theorem d_M_judge_64 : decode b_M_judge 64 = .ok (.iadd, 1) := by decide +kernel
theorem d_M_judge_65 : decode b_M_judge 65 = .ok (.istore 4, 2) := by decide +kernel
theorem d_M_judge_67 : decode b_M_judge 67 = .ok (.aload_n 0, 1) := by decide +kernel
theorem d_M_judge_68 : decode b_M_judge 68 = .ok (.getfield 7, 3) := by decide +kernel
theorem d_M_judge_71 : decode b_M_judge 71 = .ok (.iload 4, 2) := by decide +kernel
theorem d_M_judge_73 : decode b_M_judge 73 = .ok (.iaload, 1) := by decide +kernel
theorem d_M_judge_74 : decode b_M_judge 74 = .ok (.iconst (-1), 1) := by decide +kernel
theorem d_M_judge_75 : decode b_M_judge 75 = .ok (.if_icmp .eq 13, 3) := by decide +kernel
theorem d_M_judge_78 : decode b_M_judge 78 = .ok (.aload_n 0, 1) := by decide +kernel
theorem d_M_judge_79 : decode b_M_judge 79 = .ok (.getfield 28, 3) := by decide +kernel
theorem d_M_judge_82 : decode b_M_judge 82 = .ok (.iload 4, 2) := by decide +kernel
theorem d_M_judge_84 : decode b_M_judge 84 = .ok (.baload, 1) := by decide +kernel
theorem d_M_judge_85 : decode b_M_judge 85 = .ok (.ifCond .ne 9, 3) := by decide +kernel
theorem d_M_judge_88 : decode b_M_judge 88 = .ok (.aload_n 0, 1) := by decide +kernel
theorem d_M_judge_89 : decode b_M_judge 89 = .ok (.iconst 3, 1) := by decide +kernel
theorem d_M_judge_90 : decode b_M_judge 90 = .ok (.invokevirtual 107, 3) := by decide +kernel
theorem d_M_judge_93 : decode b_M_judge 93 = .ok (.ireturn, 1) := by decide +kernel
theorem d_M_judge_94 : decode b_M_judge 94 = .ok (.aload_n 0, 1) := by decide +kernel
theorem d_M_judge_95 : decode b_M_judge 95 = .ok (.iconst 0, 1) := by decide +kernel
theorem d_M_judge_96 : decode b_M_judge 96 = .ok (.putfield 92, 3) := by decide +kernel
theorem d_M_judge_99 : decode b_M_judge 99 = .ok (.aload_n 0, 1) := by decide +kernel
theorem d_M_judge_100 : decode b_M_judge 100 = .ok (.getfield 68, 3) := by decide +kernel
theorem d_M_judge_103 : decode b_M_judge 103 = .ok (.iload_n 2, 1) := by decide +kernel
theorem d_M_judge_104 : decode b_M_judge 104 = .ok (.iload_n 3, 1) := by decide +kernel
theorem d_M_judge_105 : decode b_M_judge 105 = .ok (.ifCond .ne 7, 3) := by decide +kernel
theorem d_M_judge_108 : decode b_M_judge 108 = .ok (.iconst 1, 1) := by decide +kernel
theorem d_M_judge_109 : decode b_M_judge 109 = .ok (.goto 4, 3) := by decide +kernel
theorem d_M_judge_112 : decode b_M_judge 112 = .ok (.iconst 2, 1) := by decide +kernel
theorem d_M_judge_113 : decode b_M_judge 113 = .ok (.iastore, 1) := by decide +kernel
theorem d_M_judge_114 : decode b_M_judge 114 = .ok (.iload_n 3, 1) := by decide +kernel
theorem d_M_judge_115 : decode b_M_judge 115 = .ok (.ifCond .ne 8, 3) := by decide +kernel
theorem d_M_judge_118 : decode b_M_judge 118 = .ok (.aload_n 0, 1) := by decide +kernel
theorem d_M_judge_119 : decode b_M_judge 119 = .ok (.iload_n 2, 1) := by decide +kernel
theorem d_M_judge_120 : decode b_M_judge 120 = .ok (.invokevirtual 128, 3) := by decide +kernel
theorem d_M_judge_123 : decode b_M_judge 123 = .ok (.iload_n 3, 1) := by decide +kernel
theorem d_M_judge_124 : decode b_M_judge 124 = .ok (.iconst 1, 1) := by decide +kernel
theorem d_M_judge_125 : decode b_M_judge 125 = .ok (.if_icmp .ne 21, 3) := by decide +kernel
theorem d_M_judge_128 : decode b_M_judge 128 = .ok (.aload_n 0, 1) := by decide +kernel
theorem d_M_judge_129 : decode b_M_judge 129 = .ok (.aload_n 0, 1) := by decide +kernel
theorem d_M_judge_130 : decode b_M_judge 130 = .ok (.getfield 62, 3) := by decide +kernel
theorem d_M_judge_133 : decode b_M_judge 133 = .ok (.iload_n 2, 1) := by decide +kernel
theorem d_M_judge_134 : decode b_M_judge 134 = .ok (.iaload, 1) := by decide +kernel
theorem d_M_judge_135 : decode b_M_judge 135 = .ok (.aload_n 0, 1) := by decide +kernel
theorem d_M_judge_136 : decode b_M_judge 136 = .ok (.getfield 59, 3) := by decide +kernel
theorem d_M_judge_139 : decode b_M_judge 139 = .ok (.iload_n 2, 1) := by decide +kernel
theorem d_M_judge_140 : decode b_M_judge 140 = .ok (.iaload, 1) := by decide +kernel
theorem d_M_judge_141 : decode b_M_judge 141 = .ok (.iconst 4, 1) := by decide +kernel
theorem d_M_judge_142 : decode b_M_judge 142 = .ok (.iload_n 2, 1) := by decide +kernel
theorem d_M_judge_143 : decode b_M_judge 143 = .ok (.invokevirtual 117, 3) := by decide +kernel
theorem d_M_judge_146 : decode b_M_judge 146 = .ok (.aload_n 0, 1) := by decide +kernel
theorem d_M_judge_147 : decode b_M_judge 147 = .ok (.iconst 0, 1) := by decide +kernel
theorem d_M_judge_148 : decode b_M_judge 148 = .ok (.invokevirtual 138, 3) := by decide +kernel
theorem d_M_judge_151 : decode b_M_judge 151 = .ok (.ireturn, 1) := by decide +kernel
theorem d_M_bounce_0 : decode b_M_bounce 0 = .ok (.iload_n 1, 1) := by decide +kernel
theorem d_M_bounce_1 : decode b_M_bounce 1 = .ok (.iload_n 2, 1) := by decide +kernel
theorem d_M_bounce_2 : decode b_M_bounce 2 = .ok (.invokestatic 103, 3) := by decide +kernel
theorem d_M_bounce_5 : decode b_M_bounce 5 = .ok (.ifCond .ne 10, 3) := by decide +kernel
theorem d_M_bounce_8 : decode b_M_bounce 8 = .ok (.aload_n 0, 1) := by decide +kernel
theorem d_M_bounce_9 : decode b_M_bounce 9 = .ok (.iconst 1, 1) := by decide +kernel
theorem d_M_bounce_10 : decode b_M_bounce 10 = .ok (.invokevirtual 107, 3) := by decide +kernel
theorem d_M_bounce_13 : decode b_M_bounce 13 = .ok (.i2d, 1) := by decide +kernel
theorem d_M_bounce_14 : decode b_M_bounce 14 = .ok (.dreturn, 1) := by decide +kernel
theorem d_M_bounce_15 : decode b_M_bounce 15 = .ok (.bipush 12, 2) := by decide +kernel
theorem d_M_bounce_17 : decode b_M_bounce 17 = .ok (.iload_n 1, 1) := by decide +kernel
theorem d_M_bounce_18 : decode b_M_bounce 18 = .ok (.imul, 1) := by decide +kernel
theorem d_M_bounce_19 : decode b_M_bounce 19 = .ok (.iload_n 2, 1) := by decide +kernel
theorem d_M_bounce_20 : decode b_M_bounce 20 = .ok (.iadd, 1) := by decide +kernel
theorem d_M_bounce_21 : decode b_M_bounce 21 = .ok (.istore 4, 2) := by decide +kernel
theorem d_M_bounce_23 : decode b_M_bounce 23 = .ok (.aload_n 0, 1) := by decide +kernel
theorem d_M_bounce_24 : decode b_M_bounce 24 = .ok (.getfield 7, 3) := by decide +kernel
theorem d_M_bounce_27 : decode b_M_bounce 27 = .ok (.iload 4, 2) := by decide +kernel
theorem d_M_bounce_29 : decode b_M_bounce 29 = .ok (.iaload, 1) := by decide +kernel
theorem d_M_bounce_30 : decode b_M_bounce 30 = .ok (.iconst (-1), 1) := by decide +kernel
theorem d_M_bounce_31 : decode b_M_bounce 31 = .ok (.if_icmp .ne 10, 3) := by decide +kernel
theorem d_M_bounce_34 : decode b_M_bounce 34 = .ok (.aload_n 0, 1) := by decide +kernel
theorem d_M_bounce_35 : decode b_M_bounce 35 = .ok (.iconst 2, 1) := by decide +kernel
theorem d_M_bounce_36 : decode b_M_bounce 36 = .ok (.invokevirtual 107, 3) := by decide +kernel
theorem d_M_bounce_39 : decode b_M_bounce 39 = .ok (.i2d, 1) := by decide +kernel
theorem d_M_bounce_40 : decode b_M_bounce 40 = .ok (.dreturn, 1) := by decide +kernel
theorem d_M_bounce_41 : decode b_M_bounce 41 = .ok (.aload_n 0, 1) := by decide +kernel
theorem d_M_bounce_42 : decode b_M_bounce 42 = .ok (.getfield 7, 3) := by decide +kernel
theorem d_M_bounce_45 : decode b_M_bounce 45 = .ok (.iload 4, 2) := by decide +kernel
theorem d_M_bounce_47 : decode b_M_bounce 47 = .ok (.iaload, 1) := by decide +kernel
theorem d_M_bounce_48 : decode b_M_bounce 48 = .ok (.iconst 1, 1) := by decide +kernel
theorem d_M_bounce_49 : decode b_M_bounce 49 = .ok (.if_icmp .eq 10, 3) := by decide +kernel
theorem d_M_bounce_52 : decode b_M_bounce 52 = .ok (.aload_n 0, 1) := by decide +kernel
theorem d_M_bounce_53 : decode b_M_bounce 53 = .ok (.iconst 3, 1) := by decide +kernel
theorem d_M_bounce_54 : decode b_M_bounce 54 = .ok (.invokevirtual 107, 3) := by decide +kernel
theorem d_M_bounce_57 : decode b_M_bounce 57 = .ok (.i2d, 1) := by decide +kernel
theorem d_M_bounce_58 : decode b_M_bounce 58 = .ok (.dreturn, 1) := by decide +kernel
theorem d_M_bounce_59 : decode b_M_bounce 59 = .ok (.aload_n 0, 1) := by decide +kernel
theorem d_M_bounce_60 : decode b_M_bounce 60 = .ok (.iconst 0, 1) := by decide +kernel
theorem d_M_bounce_61 : decode b_M_bounce 61 = .ok (.putfield 92, 3) := by decide +kernel
theorem d_M_bounce_64 : decode b_M_bounce 64 = .ok (.aload_n 0, 1) := by decide +kernel
theorem d_M_bounce_65 : decode b_M_bounce 65 = .ok (.getfield 25, 3) := by decide +kernel
theorem d_M_bounce_68 : decode b_M_bounce 68 = .ok (.iload 4, 2) := by decide +kernel
theorem d_M_bounce_70 : decode b_M_bounce 70 = .ok (.iaload, 1) := by decide +kernel
theorem d_M_bounce_71 : decode b_M_bounce 71 = .ok (.aload_n 0, 1) := by decide +kernel
theorem d_M_bounce_72 : decode b_M_bounce 72 = .ok (.getfield 111, 3) := by decide +kernel
theorem d_M_bounce_75 : decode b_M_bounce 75 = .ok (.if_icmp .ne 11, 3) := by decide +kernel
theorem d_M_bounce_78 : decode b_M_bounce 78 = .ok (.aload_n 0, 1) := by decide +kernel
theorem d_M_bounce_79 : decode b_M_bounce 79 = .ok (.getfield 35, 3) := by decide +kernel
theorem d_M_bounce_82 : decode b_M_bounce 82 = .ok (.iload 4, 2) := by decide +kernel
theorem d_M_bounce_84 : decode b_M_bounce 84 = .ok (.daload, 1) := by decide +kernel
theorem d_M_bounce_85 : decode b_M_bounce 85 = .ok (.dreturn, 1) := by decide +kernel
theorem d_M_bounce_86 : decode b_M_bounce 86 = .ok (.aload_n 0, 1) := by decide +kernel
theorem d_M_bounce_87 : decode b_M_bounce 87 = .ok (.getfield 25, 3) := by decide +kernel
theorem d_M_bounce_90 : decode b_M_bounce 90 = .ok (.iload 4, 2) := by decide +kernel
theorem d_M_bounce_92 : decode b_M_bounce 92 = .ok (.aload_n 0, 1) := by decide +kernel
theorem d_M_bounce_93 : decode b_M_bounce 93 = .ok (.getfield 111, 3) := by decide +kernel
theorem d_M_bounce_96 : decode b_M_bounce 96 = .ok (.iastore, 1) := by decide +kernel
theorem d_M_bounce_97 : decode b_M_bounce 97 = .ok (.aload_n 0, 1) := by decide +kernel
theorem d_M_bounce_98 : decode b_M_bounce 98 = .ok (.getfield 35, 3) := by decide +kernel
theorem d_M_bounce_101 : decode b_M_bounce 101 = .ok (.iload 4, 2) := by decide +kernel
theorem d_M_bounce_103 : decode b_M_bounce 103 = .ok (.dup2, 1) := by decide +kernel
theorem d_M_bounce_104 : decode b_M_bounce 104 = .ok (.daload, 1) := by decide +kernel
theorem d_M_bounce_105 : decode b_M_bounce 105 = .ok (.iload_n 3, 1) := by decide +kernel
theorem d_M_bounce_106 : decode b_M_bounce 106 = .ok (.ifCond .eq 7, 3) := by decide +kernel
theorem d_M_bounce_109 : decode b_M_bounce 109 = .ok (.dconst 1, 1) := by decide +kernel
theorem d_M_bounce_110 : decode b_M_bounce 110 = .ok (.goto 6, 3) := by decide +kernel
theorem d_M_bounce_113 : decode b_M_bounce 113 = .ok (.ldc2_w 121, 3) := by decide +kernel
theorem d_M_bounce_116 : decode b_M_bounce 116 = .ok (.dadd, 1) := by decide +kernel
theorem d_M_bounce_117 : decode b_M_bounce 117 = .ok (.dastore, 1) := by decide +kernel
theorem d_M_bounce_118 : decode b_M_bounce 118 = .ok (.aload_n 0, 1) := by decide +kernel
theorem d_M_bounce_119 : decode b_M_bounce 119 = .ok (.getfield 35, 3) := by decide +kernel
theorem d_M_bounce_122 : decode b_M_bounce 122 = .ok (.iload 4, 2) := by decide +kernel
theorem d_M_bounce_124 : decode b_M_bounce 124 = .ok (.daload, 1) := by decide +kernel
theorem d_M_bounce_125 : decode b_M_bounce 125 = .ok (.aload_n 0, 1) := by decide +kernel
theorem d_M_bounce_126 : decode b_M_bounce 126 = .ok (.getfield 56, 3) := by decide +kernel
theorem d_M_bounce_129 : decode b_M_bounce 129 = .ok (.iload_n 1, 1) := by decide +kernel
theorem d_M_bounce_130 : decode b_M_bounce 130 = .ok (.daload, 1) := by decide +kernel
theorem d_M_bounce_131 : decode b_M_bounce 131 = .ok (.dcmp .l, 1) := by decide +kernel
theorem d_M_bounce_132 : decode b_M_bounce 132 = .ok (.ifCond .lt 38, 3) := by decide +kernel
theorem d_M_bounce_135 : decode b_M_bounce 135 = .ok (.aload_n 0, 1) := by decide +kernel
theorem d_M_bounce_136 : decode b_M_bounce 136 = .ok (.getfield 7, 3) := by decide +kernel
theorem d_M_bounce_139 : decode b_M_bounce 139 = .ok (.iload 4, 2) := by decide +kernel
theorem d_M_bounce_141 : decode b_M_bounce 141 = .ok (.iconst 2, 1) := by decide +kernel
theorem d_M_bounce_142 : decode b_M_bounce 142 = .ok (.iastore, 1) := by decide +kernel
theorem d_M_bounce_143 : decode b_M_bounce 143 = .ok (.aload_n 0, 1) := by decide +kernel
theorem d_M_bounce_144 : decode b_M_bounce 144 = .ok (.getfield 16, 3) := by decide +kernel
theorem d_M_bounce_147 : decode b_M_bounce 147 = .ok (.iload 4, 2) := by decide +kernel
theorem d_M_bounce_149 : decode b_M_bounce 149 = .ok (.aload_n 0, 1) := by decide +kernel
theorem d_M_bounce_150 : decode b_M_bounce 150 = .ok (.getfield 111, 3) := by decide +kernel
theorem d_M_bounce_153 : decode b_M_bounce 153 = .ok (.iastore, 1) := by decide +kernel
theorem d_M_bounce_154 : decode b_M_bounce 154 = .ok (.aload_n 0, 1) := by decide +kernel
theorem d_M_bounce_155 : decode b_M_bounce 155 = .ok (.getfield 22, 3) := by decide +kernel
theorem d_M_bounce_158 : decode b_M_bounce 158 = .ok (.iload 4, 2) := by decide +kernel
theorem d_M_bounce_160 : decode b_M_bounce 160 = .ok (.iconst 1, 1) := by decide +kernel
theorem d_M_bounce_161 : decode b_M_bounce 161 = .ok (.iastore, 1) := by decide +kernel
theorem d_M_bounce_162 : decode b_M_bounce 162 = .ok (.aload_n 0, 1) := by decide +kernel
theorem d_M_bounce_163 : decode b_M_bounce 163 = .ok (.iload_n 2, 1) := by decide +kernel
theorem d_M_bounce_164 : decode b_M_bounce 164 = .ok (.iload_n 1, 1) := by decide +kernel
theorem d_M_bounce_165 : decode b_M_bounce 165 = .ok (.iconst 5, 1) := by decide +kernel
theorem d_M_bounce_166 : decode b_M_bounce 166 = .ok (.iconst 1, 1) := by decide +kernel
theorem d_M_bounce_167 : decode b_M_bounce 167 = .ok (.invokevirtual 117, 3) := by decide +kernel
theorem d_M_bounce_170 : decode b_M_bounce 170 = .ok (.aload_n 0, 1) := by decide +kernel
theorem d_M_bounce_171 : decode b_M_bounce 171 = .ok (.getfield 35, 3) := by decide +kernel
theorem d_M_bounce_174 : decode b_M_bounce 174 = .ok (.iload 4, 2) := by decide +kernel
theorem d_M_bounce_176 : decode b_M_bounce 176 = .ok (.daload, 1) := by decide +kernel
theorem d_M_bounce_177 : decode b_M_bounce 177 = .ok (.dreturn, 1) := by decide +kernel
theorem d_M_renew_0 : decode b_M_renew 0 = .ok (.iload_n 1, 1) := by decide +kernel
theorem d_M_renew_1 : decode b_M_renew 1 = .ok (.iload_n 2, 1) := by decide +kernel
theorem d_M_renew_2 : decode b_M_renew 2 = .ok (.invokestatic 103, 3) := by decide +kernel
theorem d_M_renew_5 : decode b_M_renew 5 = .ok (.ifCond .ne 9, 3) := by decide +kernel
theorem d_M_renew_8 : decode b_M_renew 8 = .ok (.aload_n 0, 1) := by decide +kernel
theorem d_M_renew_9 : decode b_M_renew 9 = .ok (.iconst 1, 1) := by decide +kernel
theorem d_M_renew_10 : decode b_M_renew 10 = .ok (.invokevirtual 107, 3) := by decide +kernel
theorem d_M_renew_13 : decode b_M_renew 13 = .ok (.ireturn, 1) := by decide +kernel
theorem d_M_renew_14 : decode b_M_renew 14 = .ok (.bipush 12, 2) := by decide +kernel
theorem d_M_renew_16 : decode b_M_renew 16 = .ok (.iload_n 1, 1) := by decide +kernel
theorem d_M_renew_17 : decode b_M_renew 17 = .ok (.imul, 1) := by decide +kernel
theorem d_M_renew_18 : decode b_M_renew 18 = .ok (.iload_n 2, 1) := by decide +kernel
theorem d_M_renew_19 : decode b_M_renew 19 = .ok (.iadd, 1) := by decide +kernel
theorem d_M_renew_20 : decode b_M_renew 20 = .ok (.istore_n 3, 1) := by decide +kernel
theorem d_M_renew_21 : decode b_M_renew 21 = .ok (.aload_n 0, 1) := by decide +kernel
theorem d_M_renew_22 : decode b_M_renew 22 = .ok (.getfield 7, 3) := by decide +kernel
theorem d_M_renew_25 : decode b_M_renew 25 = .ok (.iload_n 3, 1) := by decide +kernel
theorem d_M_renew_26 : decode b_M_renew 26 = .ok (.iaload, 1) := by decide +kernel
theorem d_M_renew_27 : decode b_M_renew 27 = .ok (.iconst (-1), 1) := by decide +kernel
theorem d_M_renew_28 : decode b_M_renew 28 = .ok (.if_icmp .ne 9, 3) := by decide +kernel
theorem d_M_renew_31 : decode b_M_renew 31 = .ok (.aload_n 0, 1) := by decide +kernel
theorem d_M_renew_32 : decode b_M_renew 32 = .ok (.iconst 2, 1) := by decide +kernel
theorem d_M_renew_33 : decode b_M_renew 33 = .ok (.invokevirtual 107, 3) := by decide +kernel
theorem d_M_renew_36 : decode b_M_renew 36 = .ok (.ireturn, 1) := by decide +kernel
theorem d_M_renew_37 : decode b_M_renew 37 = .ok (.aload_n 0, 1) := by decide +kernel
theorem d_M_renew_38 : decode b_M_renew 38 = .ok (.getfield 7, 3) := by decide +kernel
theorem d_M_renew_41 : decode b_M_renew 41 = .ok (.iload_n 3, 1) := by decide +kernel
theorem d_M_renew_42 : decode b_M_renew 42 = .ok (.iaload, 1) := by decide +kernel
theorem d_M_renew_43 : decode b_M_renew 43 = .ok (.iconst 2, 1) := by decide +kernel
theorem d_M_renew_44 : decode b_M_renew 44 = .ok (.if_icmp .eq 9, 3) := by decide +kernel
theorem d_M_renew_47 : decode b_M_renew 47 = .ok (.aload_n 0, 1) := by decide +kernel
theorem d_M_renew_48 : decode b_M_renew 48 = .ok (.iconst 3, 1) := by decide +kernel
theorem d_M_renew_49 : decode b_M_renew 49 = .ok (.invokevirtual 107, 3) := by decide +kernel
theorem d_M_renew_52 : decode b_M_renew 52 = .ok (.ireturn, 1) := by decide +kernel
theorem d_M_renew_53 : decode b_M_renew 53 = .ok (.aload_n 0, 1) := by decide +kernel
theorem d_M_renew_54 : decode b_M_renew 54 = .ok (.iconst 0, 1) := by decide +kernel
theorem d_M_renew_55 : decode b_M_renew 55 = .ok (.putfield 92, 3) := by decide +kernel
theorem d_M_renew_58 : decode b_M_renew 58 = .ok (.aload_n 0, 1) := by decide +kernel
theorem d_M_renew_59 : decode b_M_renew 59 = .ok (.getfield 7, 3) := by decide +kernel
theorem d_M_renew_62 : decode b_M_renew 62 = .ok (.iload_n 3, 1) := by decide +kernel
theorem d_M_renew_63 : decode b_M_renew 63 = .ok (.iconst 1, 1) := by decide +kernel
theorem d_M_renew_64 : decode b_M_renew 64 = .ok (.iastore, 1) := by decide +kernel
theorem d_M_renew_65 : decode b_M_renew 65 = .ok (.aload_n 0, 1) := by decide +kernel
theorem d_M_renew_66 : decode b_M_renew 66 = .ok (.getfield 16, 3) := by decide +kernel
theorem d_M_renew_69 : decode b_M_renew 69 = .ok (.iload_n 3, 1) := by decide +kernel
theorem d_M_renew_70 : decode b_M_renew 70 = .ok (.aload_n 0, 1) := by decide +kernel
theorem d_M_renew_71 : decode b_M_renew 71 = .ok (.getfield 111, 3) := by decide +kernel
theorem d_M_renew_74 : decode b_M_renew 74 = .ok (.iastore, 1) := by decide +kernel
theorem d_M_renew_75 : decode b_M_renew 75 = .ok (.aload_n 0, 1) := by decide +kernel
theorem d_M_renew_76 : decode b_M_renew 76 = .ok (.getfield 35, 3) := by decide +kernel
theorem d_M_renew_79 : decode b_M_renew 79 = .ok (.iload_n 3, 1) := by decide +kernel
theorem d_M_renew_80 : decode b_M_renew 80 = .ok (.dconst 0, 1) := by decide +kernel
theorem d_M_renew_81 : decode b_M_renew 81 = .ok (.dastore, 1) := by decide +kernel
theorem d_M_renew_82 : decode b_M_renew 82 = .ok (.aload_n 0, 1) := by decide +kernel
theorem d_M_renew_83 : decode b_M_renew 83 = .ok (.getfield 22, 3) := by decide +kernel
theorem d_M_renew_86 : decode b_M_renew 86 = .ok (.iload_n 3, 1) := by decide +kernel
theorem d_M_renew_87 : decode b_M_renew 87 = .ok (.iaload, 1) := by decide +kernel
theorem d_M_renew_88 : decode b_M_renew 88 = .ok (.ireturn, 1) := by decide +kernel
theorem d_M_day_0 : decode b_M_day 0 = .ok (.bipush 12, 2) := by decide +kernel
theorem d_M_day_2 : decode b_M_day 2 = .ok (.iload_n 1, 1) := by decide +kernel
theorem d_M_day_3 : decode b_M_day 3 = .ok (.imul, 1) := by decide +kernel
theorem d_M_day_4 : decode b_M_day 4 = .ok (.iload_n 2, 1) := by decide +kernel
theorem d_M_day_5 : decode b_M_day 5 = .ok (.iadd, 1) := by decide +kernel
theorem d_M_day_6 : decode b_M_day 6 = .ok (.istore_n 3, 1) := by decide +kernel
theorem d_M_day_7 : decode b_M_day 7 = .ok (.aload_n 0, 1) := by decide +kernel
theorem d_M_day_8 : decode b_M_day 8 = .ok (.getfield 7, 3) := by decide +kernel
theorem d_M_day_11 : decode b_M_day 11 = .ok (.iload_n 3, 1) := by decide +kernel
theorem d_M_day_12 : decode b_M_day 12 = .ok (.iaload, 1) := by decide +kernel
theorem d_M_day_13 : decode b_M_day 13 = .ok (.iconst 1, 1) := by decide +kernel
theorem d_M_day_14 : decode b_M_day 14 = .ok (.if_icmp .ne 50, 3) := by decide +kernel
theorem d_M_day_17 : decode b_M_day 17 = .ok (.aload_n 0, 1) := by decide +kernel
theorem d_M_day_18 : decode b_M_day 18 = .ok (.getfield 25, 3) := by decide +kernel
theorem d_M_day_21 : decode b_M_day 21 = .ok (.iload_n 3, 1) := by decide +kernel
theorem d_M_day_22 : decode b_M_day 22 = .ok (.iaload, 1) := by decide +kernel
theorem d_M_day_23 : decode b_M_day 23 = .ok (.aload_n 0, 1) := by decide +kernel
theorem d_M_day_24 : decode b_M_day 24 = .ok (.getfield 111, 3) := by decide +kernel
theorem d_M_day_27 : decode b_M_day 27 = .ok (.iconst 1, 1) := by decide +kernel
theorem d_M_day_28 : decode b_M_day 28 = .ok (.isub, 1) := by decide +kernel
theorem d_M_day_29 : decode b_M_day 29 = .ok (.if_icmp .eq 35, 3) := by decide +kernel
theorem d_M_day_32 : decode b_M_day 32 = .ok (.aload_n 0, 1) := by decide +kernel
theorem d_M_day_33 : decode b_M_day 33 = .ok (.getfield 35, 3) := by decide +kernel
theorem d_M_day_36 : decode b_M_day 36 = .ok (.iload_n 3, 1) := by decide +kernel
theorem d_M_day_37 : decode b_M_day 37 = .ok (.dup2, 1) := by decide +kernel
theorem d_M_day_38 : decode b_M_day 38 = .ok (.daload, 1) := by decide +kernel
theorem d_M_day_39 : decode b_M_day 39 = .ok (.ldc2_w 141, 3) := by decide +kernel
theorem d_M_day_42 : decode b_M_day 42 = .ok (.dmul, 1) := by decide +kernel
theorem d_M_day_43 : decode b_M_day 43 = .ok (.dastore, 1) := by decide +kernel
theorem d_M_day_44 : decode b_M_day 44 = .ok (.aload_n 0, 1) := by decide +kernel
theorem d_M_day_45 : decode b_M_day 45 = .ok (.getfield 35, 3) := by decide +kernel
theorem d_M_day_48 : decode b_M_day 48 = .ok (.iload_n 3, 1) := by decide +kernel
theorem d_M_day_49 : decode b_M_day 49 = .ok (.daload, 1) := by decide +kernel
theorem d_M_day_50 : decode b_M_day 50 = .ok (.ldc2_w 143, 3) := by decide +kernel
theorem d_M_day_53 : decode b_M_day 53 = .ok (.dcmp .g, 1) := by decide +kernel
theorem d_M_day_54 : decode b_M_day 54 = .ok (.ifCond .ge 10, 3) := by decide +kernel
theorem d_M_day_57 : decode b_M_day 57 = .ok (.aload_n 0, 1) := by decide +kernel
theorem d_M_day_58 : decode b_M_day 58 = .ok (.getfield 35, 3) := by decide +kernel
theorem d_M_day_61 : decode b_M_day 61 = .ok (.iload_n 3, 1) := by decide +kernel
theorem d_M_day_62 : decode b_M_day 62 = .ok (.dconst 0, 1) := by decide +kernel
theorem d_M_day_63 : decode b_M_day 63 = .ok (.dastore, 1) := by decide +kernel
theorem d_M_day_64 : decode b_M_day 64 = .ok (.aload_n 0, 1) := by decide +kernel
theorem d_M_day_65 : decode b_M_day 65 = .ok (.getfield 7, 3) := by decide +kernel
theorem d_M_day_68 : decode b_M_day 68 = .ok (.iload_n 3, 1) := by decide +kernel
theorem d_M_day_69 : decode b_M_day 69 = .ok (.iaload, 1) := by decide +kernel
theorem d_M_day_70 : decode b_M_day 70 = .ok (.ifCond .ne 25, 3) := by decide +kernel
theorem d_M_day_73 : decode b_M_day 73 = .ok (.aload_n 0, 1) := by decide +kernel
theorem d_M_day_74 : decode b_M_day 74 = .ok (.getfield 16, 3) := by decide +kernel
theorem d_M_day_77 : decode b_M_day 77 = .ok (.iload_n 3, 1) := by decide +kernel
theorem d_M_day_78 : decode b_M_day 78 = .ok (.iaload, 1) := by decide +kernel
theorem d_M_day_79 : decode b_M_day 79 = .ok (.aload_n 0, 1) := by decide +kernel
theorem d_M_day_80 : decode b_M_day 80 = .ok (.getfield 111, 3) := by decide +kernel
theorem d_M_day_83 : decode b_M_day 83 = .ok (.iconst 5, 1) := by decide +kernel
theorem d_M_day_84 : decode b_M_day 84 = .ok (.isub, 1) := by decide +kernel
theorem d_M_day_85 : decode b_M_day 85 = .ok (.if_icmp .ne 10, 3) := by decide +kernel
theorem d_M_day_88 : decode b_M_day 88 = .ok (.aload_n 0, 1) := by decide +kernel
theorem d_M_day_89 : decode b_M_day 89 = .ok (.getfield 7, 3) := by decide +kernel
theorem d_M_day_92 : decode b_M_day 92 = .ok (.iload_n 3, 1) := by decide +kernel
theorem d_M_day_93 : decode b_M_day 93 = .ok (.iconst (-1), 1) := by decide +kernel
theorem d_M_day_94 : decode b_M_day 94 = .ok (.iastore, 1) := by decide +kernel
theorem d_M_day_95 : decode b_M_day 95 = .ok (.aload_n 0, 1) := by decide +kernel
theorem d_M_day_96 : decode b_M_day 96 = .ok (.getfield 7, 3) := by decide +kernel
theorem d_M_day_99 : decode b_M_day 99 = .ok (.iload_n 3, 1) := by decide +kernel
theorem d_M_day_100 : decode b_M_day 100 = .ok (.iaload, 1) := by decide +kernel
theorem d_M_day_101 : decode b_M_day 101 = .ok (.iconst 2, 1) := by decide +kernel
theorem d_M_day_102 : decode b_M_day 102 = .ok (.if_icmp .ne 19, 3) := by decide +kernel
theorem d_M_day_105 : decode b_M_day 105 = .ok (.aload_n 0, 1) := by decide +kernel
theorem d_M_day_106 : decode b_M_day 106 = .ok (.getfield 111, 3) := by decide +kernel
theorem d_M_day_109 : decode b_M_day 109 = .ok (.aload_n 0, 1) := by decide +kernel
theorem d_M_day_110 : decode b_M_day 110 = .ok (.getfield 16, 3) := by decide +kernel
theorem d_M_day_113 : decode b_M_day 113 = .ok (.iload_n 3, 1) := by decide +kernel
theorem d_M_day_114 : decode b_M_day 114 = .ok (.iaload, 1) := by decide +kernel
theorem d_M_day_115 : decode b_M_day 115 = .ok (.isub, 1) := by decide +kernel
theorem d_M_day_116 : decode b_M_day 116 = .ok (.iconst 3, 1) := by decide +kernel
theorem d_M_day_117 : decode b_M_day 117 = .ok (.irem, 1) := by decide +kernel
theorem d_M_day_118 : decode b_M_day 118 = .ok (.ifCond .eq 4, 3) := by decide +kernel
theorem d_M_day_121 : decode b_M_day 121 = .ok (.return_, 1) := by decide +kernel
theorem d_M_day_122 : decode b_M_day 122 = .ok (.aload_n 0, 1) := by decide +kernel
theorem d_M_day_123 : decode b_M_day 123 = .ok (.getfield 22, 3) := by decide +kernel
theorem d_M_day_126 : decode b_M_day 126 = .ok (.iload_n 3, 1) := by decide +kernel
