theorem d_S_fade_28 : decode b_S_fade 28 = .ok (.dconst 0, 1) := by decide +kernel
theorem d_S_fade_29 : decode b_S_fade 29 = .ok (.goto 4, 3) := by decide +kernel
theorem d_S_fade_32 : decode b_S_fade 32 = .ok (.dload_n 2, 1) := by decide +kernel
theorem d_S_fade_33 : decode b_S_fade 33 = .ok (.putfield 30, 3) := by decide +kernel
theorem d_S_fade_36 : decode b_S_fade 36 = .ok (.return_, 1) := by decide +kernel
theorem d_M_init_0 : decode b_M_init 0 = .ok (.aload_n 0, 1) := by decide +kernel
theorem d_M_init_1 : decode b_M_init 1 = .ok (.invokespecial 1, 3) := by decide +kernel
theorem d_M_init_4 : decode b_M_init 4 = .ok (.aload_n 0, 1) := by decide +kernel
theorem d_M_init_5 : decode b_M_init 5 = .ok (.bipush 36, 2) := by decide +kernel
theorem d_M_init_7 : decode b_M_init 7 = .ok (.newarray .int, 2) := by decide +kernel
theorem d_M_init_9 : decode b_M_init 9 = .ok (.putfield 7, 3) := by decide +kernel
theorem d_M_init_12 : decode b_M_init 12 = .ok (.aload_n 0, 1) := by decide +kernel
theorem d_M_init_13 : decode b_M_init 13 = .ok (.bipush 36, 2) := by decide +kernel
theorem d_M_init_15 : decode b_M_init 15 = .ok (.newarray .int, 2) := by decide +kernel
theorem d_M_init_17 : decode b_M_init 17 = .ok (.putfield 13, 3) := by decide +kernel
theorem d_M_init_20 : decode b_M_init 20 = .ok (.aload_n 0, 1) := by decide +kernel
theorem d_M_init_21 : decode b_M_init 21 = .ok (.bipush 36, 2) := by decide +kernel
theorem d_M_init_23 : decode b_M_init 23 = .ok (.newarray .int, 2) := by decide +kernel
theorem d_M_init_25 : decode b_M_init 25 = .ok (.putfield 16, 3) := by decide +kernel
theorem d_M_init_28 : decode b_M_init 28 = .ok (.aload_n 0, 1) := by decide +kernel
theorem d_M_init_29 : decode b_M_init 29 = .ok (.bipush 36, 2) := by decide +kernel
theorem d_M_init_31 : decode b_M_init 31 = .ok (.newarray .int, 2) := by decide +kernel
theorem d_M_init_33 : decode b_M_init 33 = .ok (.putfield 19, 3) := by decide +kernel
theorem d_M_init_36 : decode b_M_init 36 = .ok (.aload_n 0, 1) := by decide +kernel
theorem d_M_init_37 : decode b_M_init 37 = .ok (.bipush 36, 2) := by decide +kernel
theorem d_M_init_39 : decode b_M_init 39 = .ok (.newarray .int, 2) := by decide +kernel
theorem d_M_init_41 : decode b_M_init 41 = .ok (.putfield 22, 3) := by decide +kernel
theorem d_M_init_44 : decode b_M_init 44 = .ok (.aload_n 0, 1) := by decide +kernel
theorem d_M_init_45 : decode b_M_init 45 = .ok (.bipush 36, 2) := by decide +kernel
theorem d_M_init_47 : decode b_M_init 47 = .ok (.newarray .int, 2) := by decide +kernel
theorem d_M_init_49 : decode b_M_init 49 = .ok (.putfield 25, 3) := by decide +kernel
theorem d_M_init_52 : decode b_M_init 52 = .ok (.aload_n 0, 1) := by decide +kernel
theorem d_M_init_53 : decode b_M_init 53 = .ok (.bipush 36, 2) := by decide +kernel
theorem d_M_init_55 : decode b_M_init 55 = .ok (.newarray .boolean, 2) := by decide +kernel
theorem d_M_init_57 : decode b_M_init 57 = .ok (.putfield 28, 3) := by decide +kernel
theorem d_M_init_60 : decode b_M_init 60 = .ok (.aload_n 0, 1) := by decide +kernel
theorem d_M_init_61 : decode b_M_init 61 = .ok (.bipush 36, 2) := by decide +kernel
theorem d_M_init_63 : decode b_M_init 63 = .ok (.newarray .boolean, 2) := by decide +kernel
theorem d_M_init_65 : decode b_M_init 65 = .ok (.putfield 32, 3) := by decide +kernel
theorem d_M_init_68 : decode b_M_init 68 = .ok (.aload_n 0, 1) := by decide +kernel
theorem d_M_init_69 : decode b_M_init 69 = .ok (.bipush 36, 2) := by decide +kernel
theorem d_M_init_71 : decode b_M_init 71 = .ok (.newarray .double, 2) := by decide +kernel
theorem d_M_init_73 : decode b_M_init 73 = .ok (.putfield 35, 3) := by decide +kernel
theorem d_M_init_76 : decode b_M_init 76 = .ok (.aload_n 0, 1) := by decide +kernel
theorem d_M_init_77 : decode b_M_init 77 = .ok (.iconst 3, 1) := by decide +kernel
theorem d_M_init_78 : decode b_M_init 78 = .ok (.newarray .boolean, 2) := by decide +kernel
theorem d_M_init_80 : decode b_M_init 80 = .ok (.putfield 39, 3) := by decide +kernel
theorem d_M_init_83 : decode b_M_init 83 = .ok (.aload_n 0, 1) := by decide +kernel
theorem d_M_init_84 : decode b_M_init 84 = .ok (.iconst 3, 1) := by decide +kernel
theorem d_M_init_85 : decode b_M_init 85 = .ok (.newarray .boolean, 2) := by decide +kernel
theorem d_M_init_87 : decode b_M_init 87 = .ok (.putfield 42, 3) := by decide +kernel
theorem d_M_init_90 : decode b_M_init 90 = .ok (.aload_n 0, 1) := by decide +kernel
theorem d_M_init_91 : decode b_M_init 91 = .ok (.bipush 30, 2) := by decide +kernel
theorem d_M_init_93 : decode b_M_init 93 = .ok (.newarray .boolean, 2) := by decide +kernel
theorem d_M_init_95 : decode b_M_init 95 = .ok (.putfield 45, 3) := by decide +kernel
theorem d_M_init_98 : decode b_M_init 98 = .ok (.aload_n 0, 1) := by decide +kernel
theorem d_M_init_99 : decode b_M_init 99 = .ok (.iconst 3, 1) := by decide +kernel
theorem d_M_init_100 : decode b_M_init 100 = .ok (.newarray .int, 2) := by decide +kernel
theorem d_M_init_102 : decode b_M_init 102 = .ok (.dup, 1) := by decide +kernel
theorem d_M_init_103 : decode b_M_init 103 = .ok (.iconst 0, 1) := by decide +kernel
theorem d_M_init_104 : decode b_M_init 104 = .ok (.bipush 100, 2) := by decide +kernel
theorem d_M_init_106 : decode b_M_init 106 = .ok (.iastore, 1) := by decide +kernel
theorem d_M_init_107 : decode b_M_init 107 = .ok (.dup, 1) := by decide +kernel
theorem d_M_init_108 : decode b_M_init 108 = .ok (.iconst 1, 1) := by decide +kernel
theorem d_M_init_109 : decode b_M_init 109 = .ok (.bipush 100, 2) := by decide +kernel
theorem d_M_init_111 : decode b_M_init 111 = .ok (.iastore, 1) := by decide +kernel
theorem d_M_init_112 : decode b_M_init 112 = .ok (.dup, 1) := by decide +kernel
theorem d_M_init_113 : decode b_M_init 113 = .ok (.iconst 2, 1) := by decide +kernel
theorem d_M_init_114 : decode b_M_init 114 = .ok (.bipush 100, 2) := by decide +kernel
theorem d_M_init_116 : decode b_M_init 116 = .ok (.iastore, 1) := by decide +kernel
theorem d_M_init_117 : decode b_M_init 117 = .ok (.putfield 48, 3) := by decide +kernel
theorem d_M_init_120 : decode b_M_init 120 = .ok (.aload_n 0, 1) := by decide +kernel
theorem d_M_init_121 : decode b_M_init 121 = .ok (.iconst 3, 1) := by decide +kernel
theorem d_M_init_122 : decode b_M_init 122 = .ok (.newarray .int, 2) := by decide +kernel
theorem d_M_init_124 : decode b_M_init 124 = .ok (.dup, 1) := by decide +kernel
theorem d_M_init_125 : decode b_M_init 125 = .ok (.iconst 0, 1) := by decide +kernel
theorem d_M_init_126 : decode b_M_init 126 = .ok (.sipush 200, 3) := by decide +kernel
theorem d_M_init_129 : decode b_M_init 129 = .ok (.iastore, 1) := by decide +kernel
theorem d_M_init_130 : decode b_M_init 130 = .ok (.dup, 1) := by decide +kernel
theorem d_M_init_131 : decode b_M_init 131 = .ok (.iconst 1, 1) := by decide +kernel
theorem d_M_init_132 : decode b_M_init 132 = .ok (.sipush 200, 3) := by decide +kernel
theorem d_M_init_135 : decode b_M_init 135 = .ok (.iastore, 1) := by decide +kernel
theorem d_M_init_136 : decode b_M_init 136 = .ok (.dup, 1) := by decide +kernel
theorem d_M_init_137 : decode b_M_init 137 = .ok (.iconst 2, 1) := by decide +kernel
theorem d_M_init_138 : decode b_M_init 138 = .ok (.sipush 200, 3) := by decide +kernel
theorem d_M_init_141 : decode b_M_init 141 = .ok (.iastore, 1) := by decide +kernel
theorem d_M_init_142 : decode b_M_init 142 = .ok (.putfield 51, 3) := by decide +kernel
theorem d_M_init_145 : decode b_M_init 145 = .ok (.aload_n 0, 1) := by decide +kernel
theorem d_M_init_146 : decode b_M_init 146 = .ok (.iconst 3, 1) := by decide +kernel
theorem d_M_init_147 : decode b_M_init 147 = .ok (.newarray .double, 2) := by decide +kernel
theorem d_M_init_149 : decode b_M_init 149 = .ok (.dup, 1) := by decide +kernel
theorem d_M_init_150 : decode b_M_init 150 = .ok (.iconst 0, 1) := by decide +kernel
theorem d_M_init_151 : decode b_M_init 151 = .ok (.ldc2_w 54, 3) := by decide +kernel
theorem d_M_init_154 : decode b_M_init 154 = .ok (.dastore, 1) := by decide +kernel
theorem d_M_init_155 : decode b_M_init 155 = .ok (.dup, 1) := by decide +kernel
theorem d_M_init_156 : decode b_M_init 156 = .ok (.iconst 1, 1) := by decide +kernel
theorem d_M_init_157 : decode b_M_init 157 = .ok (.ldc2_w 54, 3) := by decide +kernel
theorem d_M_init_160 : decode b_M_init 160 = .ok (.dastore, 1) := by decide +kernel
theorem d_M_init_161 : decode b_M_init 161 = .ok (.dup, 1) := by decide +kernel
theorem d_M_init_162 : decode b_M_init 162 = .ok (.iconst 2, 1) := by decide +kernel
theorem d_M_init_163 : decode b_M_init 163 = .ok (.ldc2_w 54, 3) := by decide +kernel
theorem d_M_init_166 : decode b_M_init 166 = .ok (.dastore, 1) := by decide +kernel
theorem d_M_init_167 : decode b_M_init 167 = .ok (.putfield 56, 3) := by decide +kernel
theorem d_M_init_170 : decode b_M_init 170 = .ok (.aload_n 0, 1) := by decide +kernel
theorem d_M_init_171 : decode b_M_init 171 = .ok (.bipush 40, 2) := by decide +kernel
theorem d_M_init_173 : decode b_M_init 173 = .ok (.newarray .int, 2) := by decide +kernel
theorem d_M_init_175 : decode b_M_init 175 = .ok (.putfield 59, 3) := by decide +kernel
theorem d_M_init_178 : decode b_M_init 178 = .ok (.aload_n 0, 1) := by decide +kernel
theorem d_M_init_179 : decode b_M_init 179 = .ok (.bipush 40, 2) := by decide +kernel
theorem d_M_init_181 : decode b_M_init 181 = .ok (.newarray .int, 2) := by decide +kernel
theorem d_M_init_183 : decode b_M_init 183 = .ok (.putfield 62, 3) := by decide +kernel
theorem d_M_init_186 : decode b_M_init 186 = .ok (.aload_n 0, 1) := by decide +kernel
theorem d_M_init_187 : decode b_M_init 187 = .ok (.bipush 40, 2) := by decide +kernel
theorem d_M_init_189 : decode b_M_init 189 = .ok (.newarray .int, 2) := by decide +kernel
theorem d_M_init_191 : decode b_M_init 191 = .ok (.putfield 65, 3) := by decide +kernel
theorem d_M_init_194 : decode b_M_init 194 = .ok (.aload_n 0, 1) := by decide +kernel
theorem d_M_init_195 : decode b_M_init 195 = .ok (.bipush 40, 2) := by decide +kernel
theorem d_M_init_197 : decode b_M_init 197 = .ok (.newarray .int, 2) := by decide +kernel
theorem d_M_init_199 : decode b_M_init 199 = .ok (.putfield 68, 3) := by decide +kernel
theorem d_M_init_202 : decode b_M_init 202 = .ok (.aload_n 0, 1) := by decide +kernel
theorem d_M_init_203 : decode b_M_init 203 = .ok (.iconst 3, 1) := by decide +kernel
theorem d_M_init_204 : decode b_M_init 204 = .ok (.newarray .int, 2) := by decide +kernel
theorem d_M_init_206 : decode b_M_init 206 = .ok (.putfield 71, 3) := by decide +kernel
theorem d_M_init_209 : decode b_M_init 209 = .ok (.aload_n 0, 1) := by decide +kernel
theorem d_M_init_210 : decode b_M_init 210 = .ok (.bipush 120, 2) := by decide +kernel
theorem d_M_init_212 : decode b_M_init 212 = .ok (.newarray .int, 2) := by decide +kernel
theorem d_M_init_214 : decode b_M_init 214 = .ok (.putfield 74, 3) := by decide +kernel
theorem d_M_init_217 : decode b_M_init 217 = .ok (.aload_n 0, 1) := by decide +kernel
theorem d_M_init_218 : decode b_M_init 218 = .ok (.bipush 120, 2) := by decide +kernel
theorem d_M_init_220 : decode b_M_init 220 = .ok (.newarray .int, 2) := by decide +kernel
theorem d_M_init_222 : decode b_M_init 222 = .ok (.putfield 77, 3) := by decide +kernel
theorem d_M_init_225 : decode b_M_init 225 = .ok (.aload_n 0, 1) := by decide +kernel
theorem d_M_init_226 : decode b_M_init 226 = .ok (.bipush 60, 2) := by decide +kernel
theorem d_M_init_228 : decode b_M_init 228 = .ok (.newarray .int, 2) := by decide +kernel
theorem d_M_init_230 : decode b_M_init 230 = .ok (.putfield 80, 3) := by decide +kernel
theorem d_M_init_233 : decode b_M_init 233 = .ok (.aload_n 0, 1) := by decide +kernel
theorem d_M_init_234 : decode b_M_init 234 = .ok (.bipush 60, 2) := by decide +kernel
theorem d_M_init_236 : decode b_M_init 236 = .ok (.newarray .int, 2) := by decide +kernel
theorem d_M_init_238 : decode b_M_init 238 = .ok (.putfield 83, 3) := by decide +kernel
theorem d_M_init_241 : decode b_M_init 241 = .ok (.aload_n 0, 1) := by decide +kernel
theorem d_M_init_242 : decode b_M_init 242 = .ok (.bipush 60, 2) := by decide +kernel
theorem d_M_init_244 : decode b_M_init 244 = .ok (.newarray .int, 2) := by decide +kernel
theorem d_M_init_246 : decode b_M_init 246 = .ok (.putfield 86, 3) := by decide +kernel
theorem d_M_init_249 : decode b_M_init 249 = .ok (.aload_n 0, 1) := by decide +kernel
theorem d_M_init_250 : decode b_M_init 250 = .ok (.bipush 60, 2) := by decide +kernel
theorem d_M_init_252 : decode b_M_init 252 = .ok (.newarray .int, 2) := by decide +kernel
theorem d_M_init_254 : decode b_M_init 254 = .ok (.putfield 89, 3) := by decide +kernel
theorem d_M_init_257 : decode b_M_init 257 = .ok (.iconst 0, 1) := by decide +kernel
theorem d_M_init_258 : decode b_M_init 258 = .ok (.istore_n 1, 1) := by decide +kernel
theorem d_M_init_259 : decode b_M_init 259 = .ok (.iload_n 1, 1) := by decide +kernel
theorem d_M_init_260 : decode b_M_init 260 = .ok (.bipush 36, 2) := by decide +kernel
theorem d_M_init_262 : decode b_M_init 262 = .ok (.if_icmp .ge 16, 3) := by decide +kernel
theorem d_M_init_265 : decode b_M_init 265 = .ok (.aload_n 0, 1) := by decide +kernel
theorem d_M_init_266 : decode b_M_init 266 = .ok (.getfield 7, 3) := by decide +kernel
theorem d_M_init_269 : decode b_M_init 269 = .ok (.iload_n 1, 1) := by decide +kernel
theorem d_M_init_270 : decode b_M_init 270 = .ok (.iconst (-1), 1) := by decide +kernel
theorem d_M_init_271 : decode b_M_init 271 = .ok (.iastore, 1) := by decide +kernel
theorem d_M_init_272 : decode b_M_init 272 = .ok (.iinc 1 1, 3) := by decide +kernel
theorem d_M_init_275 : decode b_M_init 275 = .ok (.goto (-16), 3) := by decide +kernel
theorem d_M_init_278 : decode b_M_init 278 = .ok (.return_, 1) := by decide +kernel
theorem d_M_thrown_0 : decode b_M_thrown 0 = .ok (.aload_n 0, 1) := by decide +kernel
theorem d_M_thrown_1 : decode b_M_thrown 1 = .ok (.getfield 92, 3) := by decide +kernel
theorem d_M_thrown_4 : decode b_M_thrown 4 = .ok (.ireturn, 1) := by decide +kernel
theorem d_M_in_0 : decode b_M_in 0 = .ok (.iload_n 0, 1) := by decide +kernel
theorem d_M_in_1 : decode b_M_in 1 = .ok (.iload_n 1, 1) := by decide +kernel
theorem d_M_in_2 : decode b_M_in 2 = .ok (.if_icmp .lt 12, 3) := by decide +kernel
theorem d_M_in_5 : decode b_M_in 5 = .ok (.iload_n 0, 1) := by decide +kernel
theorem d_M_in_6 : decode b_M_in 6 = .ok (.iload_n 2, 1) := by decide +kernel
theorem d_M_in_7 : decode b_M_in 7 = .ok (.if_icmp .gt 7, 3) := by decide +kernel
theorem d_M_in_10 : decode b_M_in 10 = .ok (.iconst 1, 1) := by decide +kernel
theorem d_M_in_11 : decode b_M_in 11 = .ok (.goto 4, 3) := by decide +kernel
theorem d_M_in_14 : decode b_M_in 14 = .ok (.iconst 0, 1) := by decide +kernel
theorem d_M_in_15 : decode b_M_in 15 = .ok (.ireturn, 1) := by decide +kernel
theorem d_M_isPlace_0 : decode b_M_isPlace 0 = .ok (.iload_n 0, 1) := by decide +kernel
theorem d_M_isPlace_1 : decode b_M_isPlace 1 = .ok (.iconst 0, 1) := by decide +kernel
theorem d_M_isPlace_2 : decode b_M_isPlace 2 = .ok (.iconst 2, 1) := by decide +kernel
theorem d_M_isPlace_3 : decode b_M_isPlace 3 = .ok (.invokestatic 96, 3) := by decide +kernel
theorem d_M_isPlace_6 : decode b_M_isPlace 6 = .ok (.ifCond .eq 17, 3) := by decide +kernel
theorem d_M_isPlace_9 : decode b_M_isPlace 9 = .ok (.iload_n 1, 1) := by decide +kernel
theorem d_M_isPlace_10 : decode b_M_isPlace 10 = .ok (.iconst 0, 1) := by decide +kernel
theorem d_M_isPlace_11 : decode b_M_isPlace 11 = .ok (.bipush 11, 2) := by decide +kernel
theorem d_M_isPlace_13 : decode b_M_isPlace 13 = .ok (.invokestatic 96, 3) := by decide +kernel
theorem d_M_isPlace_16 : decode b_M_isPlace 16 = .ok (.ifCond .eq 7, 3) := by decide +kernel
theorem d_M_isPlace_19 : decode b_M_isPlace 19 = .ok (.iconst 1, 1) := by decide +kernel
theorem d_M_isPlace_20 : decode b_M_isPlace 20 = .ok (.goto 4, 3) := by decide +kernel
theorem d_M_isPlace_23 : decode b_M_isPlace 23 = .ok (.iconst 0, 1) := by decide +kernel
theorem d_M_isPlace_24 : decode b_M_isPlace 24 = .ok (.ireturn, 1) := by decide +kernel
theorem d_M_refuse_0 : decode b_M_refuse 0 = .ok (.aload_n 0, 1) := by decide +kernel
theorem d_M_refuse_1 : decode b_M_refuse 1 = .ok (.iload_n 1, 1) := by decide +kernel
theorem d_M_refuse_2 : decode b_M_refuse 2 = .ok (.putfield 92, 3) := by decide +kernel
theorem d_M_refuse_5 : decode b_M_refuse 5 = .ok (.iconst 0, 1) := by decide +kernel
theorem d_M_refuse_6 : decode b_M_refuse 6 = .ok (.ireturn, 1) := by decide +kernel
theorem d_M_send_0 : decode b_M_send 0 = .ok (.aload_n 0, 1) := by decide +kernel
theorem d_M_send_1 : decode b_M_send 1 = .ok (.getfield 100, 3) := by decide +kernel
theorem d_M_send_4 : decode b_M_send 4 = .ok (.bipush 60, 2) := by decide +kernel
theorem d_M_send_6 : decode b_M_send 6 = .ok (.if_icmp .ge 44, 3) := by decide +kernel
theorem d_M_send_9 : decode b_M_send 9 = .ok (.aload_n 0, 1) := by decide +kernel
theorem d_M_send_10 : decode b_M_send 10 = .ok (.getfield 80, 3) := by decide +kernel
theorem d_M_send_13 : decode b_M_send 13 = .ok (.aload_n 0, 1) := by decide +kernel
theorem d_M_send_14 : decode b_M_send 14 = .ok (.getfield 100, 3) := by decide +kernel
theorem d_M_send_17 : decode b_M_send 17 = .ok (.iload_n 1, 1) := by decide +kernel
theorem d_M_send_18 : decode b_M_send 18 = .ok (.iastore, 1) := by decide +kernel
theorem d_M_send_19 : decode b_M_send 19 = .ok (.aload_n 0, 1) := by decide +kernel
theorem d_M_send_20 : decode b_M_send 20 = .ok (.getfield 83, 3) := by decide +kernel
theorem d_M_send_23 : decode b_M_send 23 = .ok (.aload_n 0, 1) := by decide +kernel
theorem d_M_send_24 : decode b_M_send 24 = .ok (.getfield 100, 3) := by decide +kernel
theorem d_M_send_27 : decode b_M_send 27 = .ok (.iload_n 2, 1) := by decide +kernel
theorem d_M_send_28 : decode b_M_send 28 = .ok (.iastore, 1) := by decide +kernel
theorem d_M_send_29 : decode b_M_send 29 = .ok (.aload_n 0, 1) := by decide +kernel
theorem d_M_send_30 : decode b_M_send 30 = .ok (.getfield 86, 3) := by decide +kernel
theorem d_M_send_33 : decode b_M_send 33 = .ok (.aload_n 0, 1) := by decide +kernel
theorem d_M_send_34 : decode b_M_send 34 = .ok (.getfield 100, 3) := by decide +kernel
theorem d_M_send_37 : decode b_M_send 37 = .ok (.iload_n 3, 1) := by decide +kernel
theorem d_M_send_38 : decode b_M_send 38 = .ok (.iastore, 1) := by decide +kernel
theorem d_M_send_39 : decode b_M_send 39 = .ok (.aload_n 0, 1) := by decide +kernel
theorem d_M_send_40 : decode b_M_send 40 = .ok (.getfield 89, 3) := by decide +kernel
theorem d_M_send_43 : decode b_M_send 43 = .ok (.aload_n 0, 1) := by decide +kernel
theorem d_M_send_44 : decode b_M_send 44 = .ok (.getfield 100, 3) := by decide +kernel
theorem d_M_send_47 : decode b_M_send 47 = .ok (.iload 4, 2) := by decide +kernel
theorem d_M_send_49 : decode b_M_send 49 = .ok (.iastore, 1) := by decide +kernel
theorem d_M_send_50 : decode b_M_send 50 = .ok (.aload_n 0, 1) := by decide +kernel
theorem d_M_send_51 : decode b_M_send 51 = .ok (.dup, 1) := by decide +kernel
theorem d_M_send_52 : decode b_M_send 52 = .ok (.getfield 100, 3) := by decide +kernel
theorem d_M_send_55 : decode b_M_send 55 = .ok (.iconst 1, 1) := by decide +kernel
theorem d_M_send_56 : decode b_M_send 56 = .ok (.iadd, 1) := by decide +kernel
theorem d_M_send_57 : decode b_M_send 57 = .ok (.putfield 100, 3) := by decide +kernel
theorem d_M_send_60 : decode b_M_send 60 = .ok (.return_, 1) := by decide +kernel
theorem d_M_ask_0 : decode b_M_ask 0 = .ok (.iload_n 1, 1) := by decide +kernel
theorem d_M_ask_1 : decode b_M_ask 1 = .ok (.iload_n 2, 1) := by decide +kernel
theorem d_M_ask_2 : decode b_M_ask 2 = .ok (.invokestatic 103, 3) := by decide +kernel
theorem d_M_ask_5 : decode b_M_ask 5 = .ok (.ifCond .eq 12, 3) := by decide +kernel
theorem d_M_ask_8 : decode b_M_ask 8 = .ok (.iload_n 3, 1) := by decide +kernel
theorem d_M_ask_9 : decode b_M_ask 9 = .ok (.iconst 0, 1) := by decide +kernel
theorem d_M_ask_10 : decode b_M_ask 10 = .ok (.iconst 2, 1) := by decide +kernel
theorem d_M_ask_11 : decode b_M_ask 11 = .ok (.invokestatic 96, 3) := by decide +kernel
theorem d_M_ask_14 : decode b_M_ask 14 = .ok (.ifCond .ne 9, 3) := by decide +kernel
theorem d_M_ask_17 : decode b_M_ask 17 = .ok (.aload_n 0, 1) := by decide +kernel
theorem d_M_ask_18 : decode b_M_ask 18 = .ok (.iconst 1, 1) := by decide +kernel
theorem d_M_ask_19 : decode b_M_ask 19 = .ok (.invokevirtual 107, 3) := by decide +kernel
theorem d_M_ask_22 : decode b_M_ask 22 = .ok (.ireturn, 1) := by decide +kernel
theorem d_M_ask_23 : decode b_M_ask 23 = .ok (.bipush 12, 2) := by decide +kernel
theorem d_M_ask_25 : decode b_M_ask 25 = .ok (.iload_n 1, 1) := by decide +kernel
theorem d_M_ask_26 : decode b_M_ask 26 = .ok (.imul, 1) := by decide +kernel
theorem d_M_ask_27 : decode b_M_ask 27 = .ok (.iload_n 2, 1) := by decide +kernel
theorem d_M_ask_28 : decode b_M_ask 28 = .ok (.iadd, 1) := by decide +kernel
theorem d_M_ask_29 : decode b_M_ask 29 = .ok (.istore 4, 2) := by decide +kernel
theorem d_M_ask_31 : decode b_M_ask 31 = .ok (.aload_n 0, 1) := by decide +kernel
theorem d_M_ask_32 : decode b_M_ask 32 = .ok (.getfield 7, 3) := by decide +kernel
theorem d_M_ask_35 : decode b_M_ask 35 = .ok (.iload 4, 2) := by decide +kernel
theorem d_M_ask_37 : decode b_M_ask 37 = .ok (.iaload, 1) := by decide +kernel
theorem d_M_ask_38 : decode b_M_ask 38 = .ok (.iconst (-1), 1) := by decide +kernel
theorem d_M_ask_39 : decode b_M_ask 39 = .ok (.if_icmp .eq 9, 3) := by decide +kernel
theorem d_M_ask_42 : decode b_M_ask 42 = .ok (.aload_n 0, 1) := by decide +kernel
theorem d_M_ask_43 : decode b_M_ask 43 = .ok (.iconst 2, 1) := by decide +kernel
theorem d_M_ask_44 : decode b_M_ask 44 = .ok (.invokevirtual 107, 3) := by decide +kernel
theorem d_M_ask_47 : decode b_M_ask 47 = .ok (.ireturn, 1) := by decide +kernel
theorem d_M_ask_48 : decode b_M_ask 48 = .ok (.aload_n 0, 1) := by decide +kernel
theorem d_M_ask_49 : decode b_M_ask 49 = .ok (.getfield 32, 3) := by decide +kernel
theorem d_M_ask_52 : decode b_M_ask 52 = .ok (.iload 4, 2) := by decide +kernel
theorem d_M_ask_54 : decode b_M_ask 54 = .ok (.baload, 1) := by decide +kernel
theorem d_M_ask_55 : decode b_M_ask 55 = .ok (.ifCond .eq 9, 3) := by decide +kernel
theorem d_M_ask_58 : decode b_M_ask 58 = .ok (.aload_n 0, 1) := by decide +kernel
theorem d_M_ask_59 : decode b_M_ask 59 = .ok (.iconst 3, 1) := by decide +kernel
theorem d_M_ask_60 : decode b_M_ask 60 = .ok (.invokevirtual 107, 3) := by decide +kernel
theorem d_M_ask_63 : decode b_M_ask 63 = .ok (.ireturn, 1) := by decide +kernel
theorem d_M_ask_64 : decode b_M_ask 64 = .ok (.aload_n 0, 1) := by decide +kernel
theorem d_M_ask_65 : decode b_M_ask 65 = .ok (.iconst 0, 1) := by decide +kernel
theorem d_M_ask_66 : decode b_M_ask 66 = .ok (.putfield 92, 3) := by decide +kernel
theorem d_M_ask_69 : decode b_M_ask 69 = .ok (.aload_n 0, 1) := by decide +kernel
theorem d_M_ask_70 : decode b_M_ask 70 = .ok (.getfield 7, 3) := by decide +kernel
theorem d_M_ask_73 : decode b_M_ask 73 = .ok (.iload 4, 2) := by decide +kernel
theorem d_M_ask_75 : decode b_M_ask 75 = .ok (.iconst 0, 1) := by decide +kernel
theorem d_M_ask_76 : decode b_M_ask 76 = .ok (.iastore, 1) := by decide +kernel
theorem d_M_ask_77 : decode b_M_ask 77 = .ok (.aload_n 0, 1) := by decide +kernel
theorem d_M_ask_78 : decode b_M_ask 78 = .ok (.getfield 13, 3) := by decide +kernel
theorem d_M_ask_81 : decode b_M_ask 81 = .ok (.iload 4, 2) := by decide +kernel
theorem d_M_ask_83 : decode b_M_ask 83 = .ok (.iload_n 3, 1) := by decide +kernel
theorem d_M_ask_84 : decode b_M_ask 84 = .ok (.iastore, 1) := by decide +kernel
theorem d_M_ask_85 : decode b_M_ask 85 = .ok (.aload_n 0, 1) := by decide +kernel
theorem d_M_ask_86 : decode b_M_ask 86 = .ok (.getfield 16, 3) := by decide +kernel
theorem d_M_ask_89 : decode b_M_ask 89 = .ok (.iload 4, 2) := by decide +kernel
theorem d_M_ask_91 : decode b_M_ask 91 = .ok (.aload_n 0, 1) := by decide +kernel
theorem d_M_ask_92 : decode b_M_ask 92 = .ok (.getfield 111, 3) := by decide +kernel
theorem d_M_ask_95 : decode b_M_ask 95 = .ok (.iastore, 1) := by decide +kernel
theorem d_M_ask_96 : decode b_M_ask 96 = .ok (.aload_n 0, 1) := by decide +kernel
theorem d_M_ask_97 : decode b_M_ask 97 = .ok (.getfield 28, 3) := by decide +kernel
theorem d_M_ask_100 : decode b_M_ask 100 = .ok (.iload 4, 2) := by decide +kernel
theorem d_M_ask_102 : decode b_M_ask 102 = .ok (.iconst 0, 1) := by decide +kernel
theorem d_M_ask_103 : decode b_M_ask 103 = .ok (.bastore, 1) := by decide +kernel
theorem d_M_ask_104 : decode b_M_ask 104 = .ok (.aload_n 0, 1) := by decide +kernel
theorem d_M_ask_105 : decode b_M_ask 105 = .ok (.getfield 35, 3) := by decide +kernel
theorem d_M_ask_108 : decode b_M_ask 108 = .ok (.iload 4, 2) := by decide +kernel
theorem d_M_ask_110 : decode b_M_ask 110 = .ok (.dconst 0, 1) := by decide +kernel
theorem d_M_ask_111 : decode b_M_ask 111 = .ok (.dastore, 1) := by decide +kernel
theorem d_M_ask_112 : decode b_M_ask 112 = .ok (.aload_n 0, 1) := by decide +kernel
theorem d_M_ask_113 : decode b_M_ask 113 = .ok (.getfield 22, 3) := by decide +kernel
theorem d_M_ask_116 : decode b_M_ask 116 = .ok (.iload 4, 2) := by decide +kernel
theorem d_M_ask_118 : decode b_M_ask 118 = .ok (.iconst 0, 1) := by decide +kernel
theorem d_M_ask_119 : decode b_M_ask 119 = .ok (.iastore, 1) := by decide +kernel
theorem d_M_ask_120 : decode b_M_ask 120 = .ok (.aload_n 0, 1) := by decide +kernel
theorem d_M_ask_121 : decode b_M_ask 121 = .ok (.getfield 25, 3) := by decide +kernel
theorem d_M_ask_124 : decode b_M_ask 124 = .ok (.iload 4, 2) := by decide +kernel
theorem d_M_ask_126 : decode b_M_ask 126 = .ok (.iconst (-1), 1) := by decide +kernel
theorem d_M_ask_127 : decode b_M_ask 127 = .ok (.iastore, 1) := by decide +kernel
theorem d_M_ask_128 : decode b_M_ask 128 = .ok (.aload_n 0, 1) := by decide +kernel
theorem d_M_ask_129 : decode b_M_ask 129 = .ok (.getfield 19, 3) := by decide +kernel
theorem d_M_ask_132 : decode b_M_ask 132 = .ok (.iload 4, 2) := by decide +kernel
theorem d_M_ask_134 : decode b_M_ask 134 = .ok (.sipush 1000, 3) := by decide +kernel
theorem d_M_ask_137 : decode b_M_ask 137 = .ok (.aload_n 0, 1) := by decide +kernel
theorem d_M_ask_138 : decode b_M_ask 138 = .ok (.getfield 114, 3) := by decide +kernel
theorem d_M_ask_141 : decode b_M_ask 141 = .ok (.imul, 1) := by decide +kernel
theorem d_M_ask_142 : decode b_M_ask 142 = .ok (.bipush 100, 2) := by decide +kernel
theorem d_M_ask_144 : decode b_M_ask 144 = .ok (.iload_n 1, 1) := by decide +kernel
theorem d_M_ask_145 : decode b_M_ask 145 = .ok (.imul, 1) := by decide +kernel
theorem d_M_ask_146 : decode b_M_ask 146 = .ok (.iadd, 1) := by decide +kernel
theorem d_M_ask_147 : decode b_M_ask 147 = .ok (.iload_n 2, 1) := by decide +kernel
theorem d_M_ask_148 : decode b_M_ask 148 = .ok (.iadd, 1) := by decide +kernel
theorem d_M_ask_149 : decode b_M_ask 149 = .ok (.iastore, 1) := by decide +kernel
theorem d_M_ask_150 : decode b_M_ask 150 = .ok (.aload_n 0, 1) := by decide +kernel
theorem d_M_ask_151 : decode b_M_ask 151 = .ok (.dup, 1) := by decide +kernel
theorem d_M_ask_152 : decode b_M_ask 152 = .ok (.getfield 114, 3) := by decide +kernel
theorem d_M_ask_155 : decode b_M_ask 155 = .ok (.iconst 1, 1) := by decide +kernel
theorem d_M_ask_156 : decode b_M_ask 156 = .ok (.iadd, 1) := by decide +kernel
theorem d_M_ask_157 : decode b_M_ask 157 = .ok (.putfield 114, 3) := by decide +kernel
theorem d_M_ask_160 : decode b_M_ask 160 = .ok (.aload_n 0, 1) := by decide +kernel
theorem d_M_ask_161 : decode b_M_ask 161 = .ok (.iload_n 2, 1) := by decide +kernel
theorem d_M_ask_162 : decode b_M_ask 162 = .ok (.iload_n 1, 1) := by decide +kernel
theorem d_M_ask_163 : decode b_M_ask 163 = .ok (.iconst 2, 1) := by decide +kernel
theorem d_M_ask_164 : decode b_M_ask 164 = .ok (.iconst 0, 1) := by decide +kernel
theorem d_M_ask_165 : decode b_M_ask 165 = .ok (.invokevirtual 117, 3) := by decide +kernel
theorem d_M_ask_168 : decode b_M_ask 168 = .ok (.aload_n 0, 1) := by decide +kernel
theorem d_M_ask_169 : decode b_M_ask 169 = .ok (.getfield 19, 3) := by decide +kernel
theorem d_M_ask_172 : decode b_M_ask 172 = .ok (.iload 4, 2) := by decide +kernel
theorem d_M_ask_174 : decode b_M_ask 174 = .ok (.iaload, 1) := by decide +kernel
theorem d_M_ask_175 : decode b_M_ask 175 = .ok (.ireturn, 1) := by decide +kernel
theorem d_M_confirm_0 : decode b_M_confirm 0 = .ok (.iconst 0, 1) := by decide +kernel
theorem d_M_confirm_1 : decode b_M_confirm 1 = .ok (.istore_n 2, 1) := by decide +kernel
theorem d_M_confirm_2 : decode b_M_confirm 2 = .ok (.iload_n 2, 1) := by decide +kernel
theorem d_M_confirm_3 : decode b_M_confirm 3 = .ok (.bipush 36, 2) := by decide +kernel
theorem d_M_confirm_5 : decode b_M_confirm 5 = .ok (.if_icmp .ge 65, 3) := by decide +kernel
theorem d_M_confirm_8 : decode b_M_confirm 8 = .ok (.aload_n 0, 1) := by decide +kernel
theorem d_M_confirm_9 : decode b_M_confirm 9 = .ok (.getfield 7, 3) := by decide +kernel
theorem d_M_confirm_12 : decode b_M_confirm 12 = .ok (.iload_n 2, 1) := by decide +kernel
theorem d_M_confirm_13 : decode b_M_confirm 13 = .ok (.iaload, 1) := by decide +kernel
theorem d_M_confirm_14 : decode b_M_confirm 14 = .ok (.ifCond .ne 50, 3) := by decide +kernel
theorem d_M_confirm_17 : decode b_M_confirm 17 = .ok (.aload_n 0, 1) := by decide +kernel
theorem d_M_confirm_18 : decode b_M_confirm 18 = .ok (.getfield 19, 3) := by decide +kernel
theorem d_M_confirm_21 : decode b_M_confirm 21 = .ok (.iload_n 2, 1) := by decide +kernel
theorem d_M_confirm_22 : decode b_M_confirm 22 = .ok (.iaload, 1) := by decide +kernel
theorem d_M_confirm_23 : decode b_M_confirm 23 = .ok (.iload_n 1, 1) := by decide +kernel
theorem d_M_confirm_24 : decode b_M_confirm 24 = .ok (.if_icmp .eq 6, 3) := by decide +kernel
theorem d_M_confirm_27 : decode b_M_confirm 27 = .ok (.goto 37, 3) := by decide +kernel
theorem d_M_confirm_30 : decode b_M_confirm 30 = .ok (.aload_n 0, 1) := by decide +kernel
theorem d_M_confirm_31 : decode b_M_confirm 31 = .ok (.iconst 0, 1) := by decide +kernel
theorem d_M_confirm_32 : decode b_M_confirm 32 = .ok (.putfield 92, 3) := by decide +kernel
theorem d_M_confirm_35 : decode b_M_confirm 35 = .ok (.aload_n 0, 1) := by decide +kernel
theorem d_M_confirm_36 : decode b_M_confirm 36 = .ok (.getfield 7, 3) := by decide +kernel
theorem d_M_confirm_39 : decode b_M_confirm 39 = .ok (.iload_n 2, 1) := by decide +kernel
theorem d_M_confirm_40 : decode b_M_confirm 40 = .ok (.iconst 1, 1) := by decide +kernel
theorem d_M_confirm_41 : decode b_M_confirm 41 = .ok (.iastore, 1) := by decide +kernel
theorem d_M_confirm_42 : decode b_M_confirm 42 = .ok (.aload_n 0, 1) := by decide +kernel
theorem d_M_confirm_43 : decode b_M_confirm 43 = .ok (.getfield 16, 3) := by decide +kernel
theorem d_M_confirm_46 : decode b_M_confirm 46 = .ok (.iload_n 2, 1) := by decide +kernel
theorem d_M_confirm_47 : decode b_M_confirm 47 = .ok (.aload_n 0, 1) := by decide +kernel
theorem d_M_confirm_48 : decode b_M_confirm 48 = .ok (.getfield 111, 3) := by decide +kernel
theorem d_M_confirm_51 : decode b_M_confirm 51 = .ok (.iastore, 1) := by decide +kernel
theorem d_M_confirm_52 : decode b_M_confirm 52 = .ok (.aload_n 0, 1) := by decide +kernel
theorem d_M_confirm_53 : decode b_M_confirm 53 = .ok (.getfield 35, 3) := by decide +kernel
theorem d_M_confirm_56 : decode b_M_confirm 56 = .ok (.iload_n 2, 1) := by decide +kernel
theorem d_M_confirm_57 : decode b_M_confirm 57 = .ok (.dconst 0, 1) := by decide +kernel
theorem d_M_confirm_58 : decode b_M_confirm 58 = .ok (.dastore, 1) := by decide +kernel
theorem d_M_confirm_59 : decode b_M_confirm 59 = .ok (.iload_n 2, 1) := by decide +kernel
theorem d_M_confirm_60 : decode b_M_confirm 60 = .ok (.bipush 12, 2) := by decide +kernel
theorem d_M_confirm_62 : decode b_M_confirm 62 = .ok (.irem, 1) := by decide +kernel
theorem d_M_confirm_63 : decode b_M_confirm 63 = .ok (.ireturn, 1) := by decide +kernel
theorem d_M_confirm_64 : decode b_M_confirm 64 = .ok (.iinc 2 1, 3) := by decide +kernel
theorem d_M_confirm_67 : decode b_M_confirm 67 = .ok (.goto (-65), 3) := by decide +kernel
theorem d_M_confirm_70 : decode b_M_confirm 70 = .ok (.aload_n 0, 1) := by decide +kernel
theorem d_M_confirm_71 : decode b_M_confirm 71 = .ok (.iconst 1, 1) := by decide +kernel
theorem d_M_confirm_72 : decode b_M_confirm 72 = .ok (.invokevirtual 107, 3) := by decide +kernel
theorem d_M_confirm_75 : decode b_M_confirm 75 = .ok (.ireturn, 1) := by decide +kernel
theorem d_M_leave_0 : decode b_M_leave 0 = .ok (.iload_n 1, 1) := by decide +kernel
theorem d_M_leave_1 : decode b_M_leave 1 = .ok (.iload_n 2, 1) := by decide +kernel
theorem d_M_leave_2 : decode b_M_leave 2 = .ok (.invokestatic 103, 3) := by decide +kernel
theorem d_M_leave_5 : decode b_M_leave 5 = .ok (.ifCond .ne 9, 3) := by decide +kernel
theorem d_M_leave_8 : decode b_M_leave 8 = .ok (.aload_n 0, 1) := by decide +kernel
theorem d_M_leave_9 : decode b_M_leave 9 = .ok (.iconst 1, 1) := by decide +kernel
theorem d_M_leave_10 : decode b_M_leave 10 = .ok (.invokevirtual 107, 3) := by decide +kernel
theorem d_M_leave_13 : decode b_M_leave 13 = .ok (.ireturn, 1) := by decide +kernel
theorem d_M_leave_14 : decode b_M_leave 14 = .ok (.bipush 12, 2) := by decide +kernel
theorem d_M_leave_16 : decode b_M_leave 16 = .ok (.iload_n 1, 1) := by decide +kernel
theorem d_M_leave_17 : decode b_M_leave 17 = .ok (.imul, 1) := by decide +kernel
theorem d_M_leave_18 : decode b_M_leave 18 = .ok (.iload_n 2, 1) := by decide +kernel
theorem d_M_leave_19 : decode b_M_leave 19 = .ok (.iadd, 1) := by decide +kernel
theorem d_M_leave_20 : decode b_M_leave 20 = .ok (.istore_n 3, 1) := by decide +kernel
theorem d_M_leave_21 : decode b_M_leave 21 = .ok (.aload_n 0, 1) := by decide +kernel
theorem d_M_leave_22 : decode b_M_leave 22 = .ok (.getfield 7, 3) := by decide +kernel
theorem d_M_leave_25 : decode b_M_leave 25 = .ok (.iload_n 3, 1) := by decide +kernel
theorem d_M_leave_26 : decode b_M_leave 26 = .ok (.iaload, 1) := by decide +kernel
theorem d_M_leave_27 : decode b_M_leave 27 = .ok (.istore 4, 2) := by decide +kernel
theorem d_M_leave_29 : decode b_M_leave 29 = .ok (.iload 4, 2) := by decide +kernel
theorem d_M_leave_31 : decode b_M_leave 31 = .ok (.iconst (-1), 1) := by decide +kernel
theorem d_M_leave_32 : decode b_M_leave 32 = .ok (.if_icmp .ne 9, 3) := by decide +kernel
theorem d_M_leave_35 : decode b_M_leave 35 = .ok (.aload_n 0, 1) := by decide +kernel
theorem d_M_leave_36 : decode b_M_leave 36 = .ok (.iconst 2, 1) := by decide +kernel
theorem d_M_leave_37 : decode b_M_leave 37 = .ok (.invokevirtual 107, 3) := by decide +kernel
theorem d_M_leave_40 : decode b_M_leave 40 = .ok (.ireturn, 1) := by decide +kernel
theorem d_M_leave_41 : decode b_M_leave 41 = .ok (.aload_n 0, 1) := by decide +kernel
theorem d_M_leave_42 : decode b_M_leave 42 = .ok (.iconst 0, 1) := by decide +kernel
theorem d_M_leave_43 : decode b_M_leave 43 = .ok (.putfield 92, 3) := by decide +kernel
theorem d_M_leave_46 : decode b_M_leave 46 = .ok (.aload_n 0, 1) := by decide +kernel
theorem d_M_leave_47 : decode b_M_leave 47 = .ok (.getfield 7, 3) := by decide +kernel
theorem d_M_leave_50 : decode b_M_leave 50 = .ok (.iload_n 3, 1) := by decide +kernel
theorem d_M_leave_51 : decode b_M_leave 51 = .ok (.iconst (-1), 1) := by decide +kernel
theorem d_M_leave_52 : decode b_M_leave 52 = .ok (.iastore, 1) := by decide +kernel
theorem d_M_leave_53 : decode b_M_leave 53 = .ok (.iload 4, 2) := by decide +kernel
theorem d_M_leave_55 : decode b_M_leave 55 = .ok (.ireturn, 1) := by decide +kernel
theorem d_M_way_0 : decode b_M_way 0 = .ok (.iload_n 1, 1) := by decide +kernel
theorem d_M_way_1 : decode b_M_way 1 = .ok (.iload_n 2, 1) := by decide +kernel
theorem d_M_way_2 : decode b_M_way 2 = .ok (.invokestatic 103, 3) := by decide +kernel
theorem d_M_way_5 : decode b_M_way 5 = .ok (.ifCond .eq 12, 3) := by decide +kernel
theorem d_M_way_8 : decode b_M_way 8 = .ok (.iload_n 3, 1) := by decide +kernel
theorem d_M_way_9 : decode b_M_way 9 = .ok (.iconst 0, 1) := by decide +kernel
theorem d_M_way_10 : decode b_M_way 10 = .ok (.iconst 2, 1) := by decide +kernel
theorem d_M_way_11 : decode b_M_way 11 = .ok (.invokestatic 96, 3) := by decide +kernel
theorem d_M_way_14 : decode b_M_way 14 = .ok (.ifCond .ne 9, 3) := by decide +kernel
theorem d_M_way_17 : decode b_M_way 17 = .ok (.aload_n 0, 1) := by decide +kernel
theorem d_M_way_18 : decode b_M_way 18 = .ok (.iconst 1, 1) := by decide +kernel
theorem d_M_way_19 : decode b_M_way 19 = .ok (.invokevirtual 107, 3) := by decide +kernel
theorem d_M_way_22 : decode b_M_way 22 = .ok (.ireturn, 1) := by decide +kernel
theorem d_M_way_23 : decode b_M_way 23 = .ok (.bipush 12, 2) := by decide +kernel
theorem d_M_way_25 : decode b_M_way 25 = .ok (.iload_n 1, 1) := by decide +kernel
theorem d_M_way_26 : decode b_M_way 26 = .ok (.imul, 1) := by decide +kernel
theorem d_M_way_27 : decode b_M_way 27 = .ok (.iload_n 2, 1) := by decide +kernel
theorem d_M_way_28 : decode b_M_way 28 = .ok (.iadd, 1) := by decide +kernel
theorem d_M_way_29 : decode b_M_way 29 = .ok (.istore 4, 2) := by decide +kernel
theorem d_M_way_31 : decode b_M_way 31 = .ok (.aload_n 0, 1) := by decide +kernel
theorem d_M_way_32 : decode b_M_way 32 = .ok (.getfield 13, 3) := by decide +kernel
theorem d_M_way_35 : decode b_M_way 35 = .ok (.iload 4, 2) := by decide +kernel
theorem d_M_way_37 : decode b_M_way 37 = .ok (.iaload, 1) := by decide +kernel
theorem d_M_way_38 : decode b_M_way 38 = .ok (.istore 5, 2) := by decide +kernel
theorem d_M_way_40 : decode b_M_way 40 = .ok (.aload_n 0, 1) := by decide +kernel
theorem d_M_way_41 : decode b_M_way 41 = .ok (.getfield 7, 3) := by decide +kernel
theorem d_M_way_44 : decode b_M_way 44 = .ok (.iload 4, 2) := by decide +kernel
theorem d_M_way_46 : decode b_M_way 46 = .ok (.iaload, 1) := by decide +kernel
theorem d_M_way_47 : decode b_M_way 47 = .ok (.iconst (-1), 1) := by decide +kernel
theorem d_M_way_48 : decode b_M_way 48 = .ok (.if_icmp .ne 9, 3) := by decide +kernel
theorem d_M_way_51 : decode b_M_way 51 = .ok (.aload_n 0, 1) := by decide +kernel
theorem d_M_way_52 : decode b_M_way 52 = .ok (.iconst 2, 1) := by decide +kernel
theorem d_M_way_53 : decode b_M_way 53 = .ok (.invokevirtual 107, 3) := by decide +kernel
theorem d_M_way_56 : decode b_M_way 56 = .ok (.ireturn, 1) := by decide +kernel
theorem d_M_way_57 : decode b_M_way 57 = .ok (.aload_n 0, 1) := by decide +kernel
theorem d_M_way_58 : decode b_M_way 58 = .ok (.iconst 0, 1) := by decide +kernel
theorem d_M_way_59 : decode b_M_way 59 = .ok (.putfield 92, 3) := by decide +kernel
theorem d_M_way_62 : decode b_M_way 62 = .ok (.aload_n 0, 1) := by decide +kernel
theorem d_M_way_63 : decode b_M_way 63 = .ok (.getfield 13, 3) := by decide +kernel
theorem d_M_way_66 : decode b_M_way 66 = .ok (.iload 4, 2) := by decide +kernel
theorem d_M_way_68 : decode b_M_way 68 = .ok (.iload_n 3, 1) := by decide +kernel
theorem d_M_way_69 : decode b_M_way 69 = .ok (.iastore, 1) := by decide +kernel
theorem d_M_way_70 : decode b_M_way 70 = .ok (.iload 5, 2) := by decide +kernel
theorem d_M_way_72 : decode b_M_way 72 = .ok (.ireturn, 1) := by decide +kernel
theorem d_M_moderator_0 : decode b_M_moderator 0 = .ok (.aload_n 0, 1) := by decide +kernel
theorem d_M_moderator_1 : decode b_M_moderator 1 = .ok (.iload_n 1, 1) := by decide +kernel
theorem d_M_moderator_2 : decode b_M_moderator 2 = .ok (.iload_n 2, 1) := by decide +kernel
theorem d_M_moderator_3 : decode b_M_moderator 3 = .ok (.invokestatic 103, 3) := by decide +kernel
theorem d_M_moderator_6 : decode b_M_moderator 6 = .ok (.ifCond .ne 7, 3) := by decide +kernel
theorem d_M_moderator_9 : decode b_M_moderator 9 = .ok (.iconst 1, 1) := by decide +kernel
theorem d_M_moderator_10 : decode b_M_moderator 10 = .ok (.goto 41, 3) := by decide +kernel
theorem d_M_moderator_13 : decode b_M_moderator 13 = .ok (.aload_n 0, 1) := by decide +kernel
theorem d_M_moderator_14 : decode b_M_moderator 14 = .ok (.getfield 7, 3) := by decide +kernel
theorem d_M_moderator_17 : decode b_M_moderator 17 = .ok (.bipush 12, 2) := by decide +kernel
theorem d_M_moderator_19 : decode b_M_moderator 19 = .ok (.iload_n 1, 1) := by decide +kernel
theorem d_M_moderator_20 : decode b_M_moderator 20 = .ok (.imul, 1) := by decide +kernel
theorem d_M_moderator_21 : decode b_M_moderator 21 = .ok (.iload_n 2, 1) := by decide +kernel
theorem d_M_moderator_22 : decode b_M_moderator 22 = .ok (.iadd, 1) := by decide +kernel
theorem d_M_moderator_23 : decode b_M_moderator 23 = .ok (.iaload, 1) := by decide +kernel
theorem d_M_moderator_24 : decode b_M_moderator 24 = .ok (.iconst (-1), 1) := by decide +kernel
theorem d_M_moderator_25 : decode b_M_moderator 25 = .ok (.if_icmp .ne 7, 3) := by decide +kernel
theorem d_M_moderator_28 : decode b_M_moderator 28 = .ok (.iconst 2, 1) := by decide +kernel
theorem d_M_moderator_29 : decode b_M_moderator 29 = .ok (.goto 22, 3) := by decide +kernel
theorem d_M_moderator_32 : decode b_M_moderator 32 = .ok (.aload_n 0, 1) := by decide +kernel
theorem d_M_moderator_33 : decode b_M_moderator 33 = .ok (.getfield 7, 3) := by decide +kernel
theorem d_M_moderator_36 : decode b_M_moderator 36 = .ok (.bipush 12, 2) := by decide +kernel
theorem d_M_moderator_38 : decode b_M_moderator 38 = .ok (.iload_n 1, 1) := by decide +kernel
theorem d_M_moderator_39 : decode b_M_moderator 39 = .ok (.imul, 1) := by decide +kernel
theorem d_M_moderator_40 : decode b_M_moderator 40 = .ok (.iload_n 2, 1) := by decide +kernel
theorem d_M_moderator_41 : decode b_M_moderator 41 = .ok (.iadd, 1) := by decide +kernel
theorem d_M_moderator_42 : decode b_M_moderator 42 = .ok (.iaload, 1) := by decide +kernel
theorem d_M_moderator_43 : decode b_M_moderator 43 = .ok (.ifCond .ne 7, 3) := by decide +kernel
theorem d_M_moderator_46 : decode b_M_moderator 46 = .ok (.iconst 3, 1) := by decide +kernel
theorem d_M_moderator_47 : decode b_M_moderator 47 = .ok (.goto 4, 3) := by decide +kernel
theorem d_M_moderator_50 : decode b_M_moderator 50 = .ok (.iconst 0, 1) := by decide +kernel
theorem d_M_moderator_51 : decode b_M_moderator 51 = .ok (.putfield 92, 3) := by decide +kernel
theorem d_M_moderator_54 : decode b_M_moderator 54 = .ok (.aload_n 0, 1) := by decide +kernel
theorem d_M_moderator_55 : decode b_M_moderator 55 = .ok (.getfield 92, 3) := by decide +kernel
theorem d_M_moderator_58 : decode b_M_moderator 58 = .ok (.ifCond .le 5, 3) := by decide +kernel
theorem d_M_moderator_61 : decode b_M_moderator 61 = .ok (.iconst 0, 1) := by decide +kernel
theorem d_M_moderator_62 : decode b_M_moderator 62 = .ok (.ireturn, 1) := by decide +kernel
theorem d_M_moderator_63 : decode b_M_moderator 63 = .ok (.bipush 12, 2) := by decide +kernel
theorem d_M_moderator_65 : decode b_M_moderator 65 = .ok (.iload_n 1, 1) := by decide +kernel
theorem d_M_moderator_66 : decode b_M_moderator 66 = .ok (.imul, 1) := by decide +kernel
theorem d_M_moderator_67 : decode b_M_moderator 67 = .ok (.iload_n 2, 1) := by decide +kernel
theorem d_M_moderator_68 : decode b_M_moderator 68 = .ok (.iadd, 1) := by decide +kernel
theorem d_M_moderator_69 : decode b_M_moderator 69 = .ok (.istore 4, 2) := by decide +kernel
theorem d_M_moderator_71 : decode b_M_moderator 71 = .ok (.aload_n 0, 1) := by decide +kernel
theorem d_M_moderator_72 : decode b_M_moderator 72 = .ok (.getfield 28, 3) := by decide +kernel
theorem d_M_moderator_75 : decode b_M_moderator 75 = .ok (.iload 4, 2) := by decide +kernel
theorem d_M_moderator_77 : decode b_M_moderator 77 = .ok (.baload, 1) := by decide +kernel
theorem d_M_moderator_78 : decode b_M_moderator 78 = .ok (.istore 5, 2) := by decide +kernel
theorem d_M_moderator_80 : decode b_M_moderator 80 = .ok (.aload_n 0, 1) := by decide +kernel
theorem d_M_moderator_81 : decode b_M_moderator 81 = .ok (.getfield 28, 3) := by decide +kernel
theorem d_M_moderator_84 : decode b_M_moderator 84 = .ok (.iload 4, 2) := by decide +kernel
theorem d_M_moderator_86 : decode b_M_moderator 86 = .ok (.iload_n 3, 1) := by decide +kernel
theorem d_M_moderator_87 : decode b_M_moderator 87 = .ok (.bastore, 1) := by decide +kernel
theorem d_M_moderator_88 : decode b_M_moderator 88 = .ok (.iload 5, 2) := by decide +kernel
theorem d_M_moderator_90 : decode b_M_moderator 90 = .ok (.ireturn, 1) := by decide +kernel
theorem d_M_ban_0 : decode b_M_ban 0 = .ok (.aload_n 0, 1) := by decide +kernel
theorem d_M_ban_1 : decode b_M_ban 1 = .ok (.iload_n 1, 1) := by decide +kernel
theorem d_M_ban_2 : decode b_M_ban 2 = .ok (.iload_n 2, 1) := by decide +kernel
theorem d_M_ban_3 : decode b_M_ban 3 = .ok (.invokestatic 103, 3) := by decide +kernel
theorem d_M_ban_6 : decode b_M_ban 6 = .ok (.ifCond .eq 7, 3) := by decide +kernel
theorem d_M_ban_9 : decode b_M_ban 9 = .ok (.iconst 0, 1) := by decide +kernel
theorem d_M_ban_10 : decode b_M_ban 10 = .ok (.goto 4, 3) := by decide +kernel
theorem d_M_ban_13 : decode b_M_ban 13 = .ok (.iconst 1, 1) := by decide +kernel
theorem d_M_ban_14 : decode b_M_ban 14 = .ok (.putfield 92, 3) := by decide +kernel
theorem d_M_ban_17 : decode b_M_ban 17 = .ok (.aload_n 0, 1) := by decide +kernel
theorem d_M_ban_18 : decode b_M_ban 18 = .ok (.getfield 92, 3) := by decide +kernel
theorem d_M_ban_21 : decode b_M_ban 21 = .ok (.ifCond .le 5, 3) := by decide +kernel
theorem d_M_ban_24 : decode b_M_ban 24 = .ok (.iconst 0, 1) := by decide +kernel
theorem d_M_ban_25 : decode b_M_ban 25 = .ok (.ireturn, 1) := by decide +kernel
theorem d_M_ban_26 : decode b_M_ban 26 = .ok (.bipush 12, 2) := by decide +kernel
theorem d_M_ban_28 : decode b_M_ban 28 = .ok (.iload_n 1, 1) := by decide +kernel
theorem d_M_ban_29 : decode b_M_ban 29 = .ok (.imul, 1) := by decide +kernel
theorem d_M_ban_30 : decode b_M_ban 30 = .ok (.iload_n 2, 1) := by decide +kernel
theorem d_M_ban_31 : decode b_M_ban 31 = .ok (.iadd, 1) := by decide +kernel
theorem d_M_ban_32 : decode b_M_ban 32 = .ok (.istore 4, 2) := by decide +kernel
theorem d_M_ban_34 : decode b_M_ban 34 = .ok (.aload_n 0, 1) := by decide +kernel
theorem d_M_ban_35 : decode b_M_ban 35 = .ok (.getfield 32, 3) := by decide +kernel
theorem d_M_ban_38 : decode b_M_ban 38 = .ok (.iload 4, 2) := by decide +kernel
theorem d_M_ban_40 : decode b_M_ban 40 = .ok (.baload, 1) := by decide +kernel
theorem d_M_ban_41 : decode b_M_ban 41 = .ok (.istore 5, 2) := by decide +kernel
theorem d_M_ban_43 : decode b_M_ban 43 = .ok (.aload_n 0, 1) := by decide +kernel
theorem d_M_ban_44 : decode b_M_ban 44 = .ok (.getfield 32, 3) := by decide +kernel
theorem d_M_ban_47 : decode b_M_ban 47 = .ok (.iload 4, 2) := by decide +kernel
theorem d_M_ban_49 : decode b_M_ban 49 = .ok (.iload_n 3, 1) := by decide +kernel
theorem d_M_ban_50 : decode b_M_ban 50 = .ok (.bastore, 1) := by decide +kernel
theorem d_M_ban_51 : decode b_M_ban 51 = .ok (.iload_n 3, 1) := by decide +kernel
theorem d_M_ban_52 : decode b_M_ban 52 = .ok (.ifCond .eq 11, 3) := by decide +kernel
theorem d_M_ban_55 : decode b_M_ban 55 = .ok (.aload_n 0, 1) := by decide +kernel
theorem d_M_ban_56 : decode b_M_ban 56 = .ok (.getfield 7, 3) := by decide +kernel
theorem d_M_ban_59 : decode b_M_ban 59 = .ok (.iload 4, 2) := by decide +kernel
theorem d_M_ban_61 : decode b_M_ban 61 = .ok (.iconst (-1), 1) := by decide +kernel
theorem d_M_ban_62 : decode b_M_ban 62 = .ok (.iastore, 1) := by decide +kernel
theorem d_M_ban_63 : decode b_M_ban 63 = .ok (.iload 5, 2) := by decide +kernel
theorem d_M_ban_65 : decode b_M_ban 65 = .ok (.ireturn, 1) := by decide +kernel
theorem d_M_setting_0 : decode b_M_setting 0 = .ok (.dload_n 3, 1) := by decide +kernel
theorem d_M_setting_1 : decode b_M_setting 1 = .ok (.d2i, 1) := by decide +kernel
theorem d_M_setting_2 : decode b_M_setting 2 = .ok (.istore 5, 2) := by decide +kernel
theorem d_M_setting_4 : decode b_M_setting 4 = .ok (.iload_n 1, 1) := by decide +kernel
theorem d_M_setting_5 : decode b_M_setting 5 = .ok (.iconst 0, 1) := by decide +kernel
theorem d_M_setting_6 : decode b_M_setting 6 = .ok (.iconst 2, 1) := by decide +kernel
theorem d_M_setting_7 : decode b_M_setting 7 = .ok (.invokestatic 96, 3) := by decide +kernel
theorem d_M_setting_10 : decode b_M_setting 10 = .ok (.ifCond .eq 23, 3) := by decide +kernel
theorem d_M_setting_13 : decode b_M_setting 13 = .ok (.iload_n 2, 1) := by decide +kernel
theorem d_M_setting_14 : decode b_M_setting 14 = .ok (.iconst 0, 1) := by decide +kernel
theorem d_M_setting_15 : decode b_M_setting 15 = .ok (.iconst 4, 1) := by decide +kernel
theorem d_M_setting_16 : decode b_M_setting 16 = .ok (.invokestatic 96, 3) := by decide +kernel
theorem d_M_setting_19 : decode b_M_setting 19 = .ok (.ifCond .ne 21, 3) := by decide +kernel
theorem d_M_setting_22 : decode b_M_setting 22 = .ok (.iload_n 2, 1) := by decide +kernel
theorem d_M_setting_23 : decode b_M_setting 23 = .ok (.bipush 10, 2) := by decide +kernel
theorem d_M_setting_25 : decode b_M_setting 25 = .ok (.bipush 19, 2) := by decide +kernel
theorem d_M_setting_27 : decode b_M_setting 27 = .ok (.invokestatic 96, 3) := by decide +kernel
theorem d_M_setting_30 : decode b_M_setting 30 = .ok (.ifCond .ne 10, 3) := by decide +kernel
theorem d_M_setting_33 : decode b_M_setting 33 = .ok (.aload_n 0, 1) := by decide +kernel
theorem d_M_setting_34 : decode b_M_setting 34 = .ok (.iconst 1, 1) := by decide +kernel
theorem d_M_setting_35 : decode b_M_setting 35 = .ok (.invokevirtual 107, 3) := by decide +kernel
theorem d_M_setting_38 : decode b_M_setting 38 = .ok (.i2d, 1) := by decide +kernel
theorem d_M_setting_39 : decode b_M_setting 39 = .ok (.dreturn, 1) := by decide +kernel
theorem d_M_setting_40 : decode b_M_setting 40 = .ok (.iload_n 2, 1) := by decide +kernel
theorem d_M_setting_41 : decode b_M_setting 41 = .ok (.iconst 2, 1) := by decide +kernel
theorem d_M_setting_42 : decode b_M_setting 42 = .ok (.if_icmp .eq 8, 3) := by decide +kernel
theorem d_M_setting_45 : decode b_M_setting 45 = .ok (.iload_n 2, 1) := by decide +kernel
theorem d_M_setting_46 : decode b_M_setting 46 = .ok (.iconst 3, 1) := by decide +kernel
theorem d_M_setting_47 : decode b_M_setting 47 = .ok (.if_icmp .ne 15, 3) := by decide +kernel
theorem d_M_setting_50 : decode b_M_setting 50 = .ok (.iload 5, 2) := by decide +kernel
theorem d_M_setting_52 : decode b_M_setting 52 = .ok (.iconst 1, 1) := by decide +kernel
theorem d_M_setting_53 : decode b_M_setting 53 = .ok (.sipush 1000, 3) := by decide +kernel
theorem d_M_setting_56 : decode b_M_setting 56 = .ok (.invokestatic 96, 3) := by decide +kernel
theorem d_M_setting_59 : decode b_M_setting 59 = .ok (.ifCond .eq 24, 3) := by decide +kernel
theorem d_M_setting_62 : decode b_M_setting 62 = .ok (.iload_n 2, 1) := by decide +kernel
theorem d_M_setting_63 : decode b_M_setting 63 = .ok (.iconst 4, 1) := by decide +kernel
theorem d_M_setting_64 : decode b_M_setting 64 = .ok (.if_icmp .ne 26, 3) := by decide +kernel
theorem d_M_setting_67 : decode b_M_setting 67 = .ok (.dload_n 3, 1) := by decide +kernel
theorem d_M_setting_68 : decode b_M_setting 68 = .ok (.ldc2_w 121, 3) := by decide +kernel
theorem d_M_setting_71 : decode b_M_setting 71 = .ok (.dcmp .l, 1) := by decide +kernel
theorem d_M_setting_72 : decode b_M_setting 72 = .ok (.ifCond .lt 11, 3) := by decide +kernel
theorem d_M_setting_75 : decode b_M_setting 75 = .ok (.dload_n 3, 1) := by decide +kernel
theorem d_M_setting_76 : decode b_M_setting 76 = .ok (.ldc2_w 123, 3) := by decide +kernel
theorem d_M_setting_79 : decode b_M_setting 79 = .ok (.dcmp .g, 1) := by decide +kernel
theorem d_M_setting_80 : decode b_M_setting 80 = .ok (.ifCond .le 10, 3) := by decide +kernel
theorem d_M_setting_83 : decode b_M_setting 83 = .ok (.aload_n 0, 1) := by decide +kernel
theorem d_M_setting_84 : decode b_M_setting 84 = .ok (.iconst 1, 1) := by decide +kernel
theorem d_M_setting_85 : decode b_M_setting 85 = .ok (.invokevirtual 107, 3) := by decide +kernel
theorem d_M_setting_88 : decode b_M_setting 88 = .ok (.i2d, 1) := by decide +kernel
theorem d_M_setting_89 : decode b_M_setting 89 = .ok (.dreturn, 1) := by decide +kernel
theorem d_M_setting_90 : decode b_M_setting 90 = .ok (.aload_n 0, 1) := by decide +kernel
theorem d_M_setting_91 : decode b_M_setting 91 = .ok (.iconst 0, 1) := by decide +kernel
theorem d_M_setting_92 : decode b_M_setting 92 = .ok (.putfield 92, 3) := by decide +kernel
theorem d_M_setting_95 : decode b_M_setting 95 = .ok (.dconst 0, 1) := by decide +kernel
theorem d_M_setting_96 : decode b_M_setting 96 = .ok (.dstore 6, 2) := by decide +kernel
theorem d_M_setting_98 : decode b_M_setting 98 = .ok (.dload_n 3, 1) := by decide +kernel
theorem d_M_setting_99 : decode b_M_setting 99 = .ok (.dconst 0, 1) := by decide +kernel
theorem d_M_setting_100 : decode b_M_setting 100 = .ok (.dcmp .l, 1) := by decide +kernel
theorem d_M_setting_101 : decode b_M_setting 101 = .ok (.ifCond .eq 7, 3) := by decide +kernel
theorem d_M_setting_104 : decode b_M_setting 104 = .ok (.iconst 1, 1) := by decide +kernel
theorem d_M_setting_105 : decode b_M_setting 105 = .ok (.goto 4, 3) := by decide +kernel
theorem d_M_setting_108 : decode b_M_setting 108 = .ok (.iconst 0, 1) := by decide +kernel
theorem d_M_setting_109 : decode b_M_setting 109 = .ok (.istore 8, 2) := by decide +kernel
theorem d_M_setting_111 : decode b_M_setting 111 = .ok (.iload_n 2, 1) := by decide +kernel
theorem d_M_setting_112 : decode b_M_setting 112 = .ok (.tableswitch 148 0 4 #[36, 63, 90, 110, 130], 36) := by decide +kernel
theorem d_M_setting_148 : decode b_M_setting 148 = .ok (.aload_n 0, 1) := by decide +kernel
theorem d_M_setting_149 : decode b_M_setting 149 = .ok (.getfield 39, 3) := by decide +kernel
theorem d_M_setting_152 : decode b_M_setting 152 = .ok (.iload_n 1, 1) := by decide +kernel
theorem d_M_setting_153 : decode b_M_setting 153 = .ok (.baload, 1) := by decide +kernel
theorem d_M_setting_154 : decode b_M_setting 154 = .ok (.ifCond .eq 7, 3) := by decide +kernel
theorem d_M_setting_157 : decode b_M_setting 157 = .ok (.dconst 1, 1) := by decide +kernel
theorem d_M_setting_158 : decode b_M_setting 158 = .ok (.goto 4, 3) := by decide +kernel
theorem d_M_setting_161 : decode b_M_setting 161 = .ok (.dconst 0, 1) := by decide +kernel
theorem d_M_setting_162 : decode b_M_setting 162 = .ok (.dstore 6, 2) := by decide +kernel
theorem d_M_setting_164 : decode b_M_setting 164 = .ok (.aload_n 0, 1) := by decide +kernel
theorem d_M_setting_165 : decode b_M_setting 165 = .ok (.getfield 39, 3) := by decide +kernel
theorem d_M_setting_168 : decode b_M_setting 168 = .ok (.iload_n 1, 1) := by decide +kernel
theorem d_M_setting_169 : decode b_M_setting 169 = .ok (.iload 8, 2) := by decide +kernel
theorem d_M_setting_171 : decode b_M_setting 171 = .ok (.bastore, 1) := by decide +kernel
theorem d_M_setting_172 : decode b_M_setting 172 = .ok (.goto 128, 3) := by decide +kernel
theorem d_M_setting_175 : decode b_M_setting 175 = .ok (.aload_n 0, 1) := by decide +kernel
theorem d_M_setting_176 : decode b_M_setting 176 = .ok (.getfield 42, 3) := by decide +kernel
theorem d_M_setting_179 : decode b_M_setting 179 = .ok (.iload_n 1, 1) := by decide +kernel
theorem d_M_setting_180 : decode b_M_setting 180 = .ok (.baload, 1) := by decide +kernel
theorem d_M_setting_181 : decode b_M_setting 181 = .ok (.ifCond .eq 7, 3) := by decide +kernel
theorem d_M_setting_184 : decode b_M_setting 184 = .ok (.dconst 1, 1) := by decide +kernel
theorem d_M_setting_185 : decode b_M_setting 185 = .ok (.goto 4, 3) := by decide +kernel
theorem d_M_setting_188 : decode b_M_setting 188 = .ok (.dconst 0, 1) := by decide +kernel
theorem d_M_setting_189 : decode b_M_setting 189 = .ok (.dstore 6, 2) := by decide +kernel
theorem d_M_setting_191 : decode b_M_setting 191 = .ok (.aload_n 0, 1) := by decide +kernel
theorem d_M_setting_192 : decode b_M_setting 192 = .ok (.getfield 42, 3) := by decide +kernel
theorem d_M_setting_195 : decode b_M_setting 195 = .ok (.iload_n 1, 1) := by decide +kernel
theorem d_M_setting_196 : decode b_M_setting 196 = .ok (.iload 8, 2) := by decide +kernel
theorem d_M_setting_198 : decode b_M_setting 198 = .ok (.bastore, 1) := by decide +kernel
theorem d_M_setting_199 : decode b_M_setting 199 = .ok (.goto 101, 3) := by decide +kernel
theorem d_M_setting_202 : decode b_M_setting 202 = .ok (.aload_n 0, 1) := by decide +kernel
theorem d_M_setting_203 : decode b_M_setting 203 = .ok (.getfield 48, 3) := by decide +kernel
theorem d_M_setting_206 : decode b_M_setting 206 = .ok (.iload_n 1, 1) := by decide +kernel
theorem d_M_setting_207 : decode b_M_setting 207 = .ok (.iaload, 1) := by decide +kernel
theorem d_M_setting_208 : decode b_M_setting 208 = .ok (.i2d, 1) := by decide +kernel
theorem d_M_setting_209 : decode b_M_setting 209 = .ok (.dstore 6, 2) := by decide +kernel
theorem d_M_setting_211 : decode b_M_setting 211 = .ok (.aload_n 0, 1) := by decide +kernel
theorem d_M_setting_212 : decode b_M_setting 212 = .ok (.getfield 48, 3) := by decide +kernel
theorem d_M_setting_215 : decode b_M_setting 215 = .ok (.iload_n 1, 1) := by decide +kernel
theorem d_M_setting_216 : decode b_M_setting 216 = .ok (.iload 5, 2) := by decide +kernel
theorem d_M_setting_218 : decode b_M_setting 218 = .ok (.iastore, 1) := by decide +kernel
theorem d_M_setting_219 : decode b_M_setting 219 = .ok (.goto 81, 3) := by decide +kernel
theorem d_M_setting_222 : decode b_M_setting 222 = .ok (.aload_n 0, 1) := by decide +kernel
theorem d_M_setting_223 : decode b_M_setting 223 = .ok (.getfield 51, 3) := by decide +kernel
theorem d_M_setting_226 : decode b_M_setting 226 = .ok (.iload_n 1, 1) := by decide +kernel
theorem d_M_setting_227 : decode b_M_setting 227 = .ok (.iaload, 1) := by decide +kernel
theorem d_M_setting_228 : decode b_M_setting 228 = .ok (.i2d, 1) := by decide +kernel
theorem d_M_setting_229 : decode b_M_setting 229 = .ok (.dstore 6, 2) := by decide +kernel
theorem d_M_setting_231 : decode b_M_setting 231 = .ok (.aload_n 0, 1) := by decide +kernel
theorem d_M_setting_232 : decode b_M_setting 232 = .ok (.getfield 51, 3) := by decide +kernel
theorem d_M_setting_235 : decode b_M_setting 235 = .ok (.iload_n 1, 1) := by decide +kernel
theorem d_M_setting_236 : decode b_M_setting 236 = .ok (.iload 5, 2) := by decide +kernel
theorem d_M_setting_238 : decode b_M_setting 238 = .ok (.iastore, 1) := by decide +kernel
theorem d_M_setting_239 : decode b_M_setting 239 = .ok (.goto 61, 3) := by decide +kernel
theorem d_M_setting_242 : decode b_M_setting 242 = .ok (.aload_n 0, 1) := by decide +kernel
theorem d_M_setting_243 : decode b_M_setting 243 = .ok (.getfield 56, 3) := by decide +kernel
theorem d_M_setting_246 : decode b_M_setting 246 = .ok (.iload_n 1, 1) := by decide +kernel
theorem d_M_setting_247 : decode b_M_setting 247 = .ok (.daload, 1) := by decide +kernel
theorem d_M_setting_248 : decode b_M_setting 248 = .ok (.dstore 6, 2) := by decide +kernel
theorem d_M_setting_250 : decode b_M_setting 250 = .ok (.aload_n 0, 1) := by decide +kernel
theorem d_M_setting_251 : decode b_M_setting 251 = .ok (.getfield 56, 3) := by decide +kernel
theorem d_M_setting_254 : decode b_M_setting 254 = .ok (.iload_n 1, 1) := by decide +kernel
theorem d_M_setting_255 : decode b_M_setting 255 = .ok (.dload_n 3, 1) := by decide +kernel
theorem d_M_setting_256 : decode b_M_setting 256 = .ok (.dastore, 1) := by decide +kernel
theorem d_M_setting_257 : decode b_M_setting 257 = .ok (.goto 43, 3) := by decide +kernel
theorem d_M_setting_260 : decode b_M_setting 260 = .ok (.aload_n 0, 1) := by decide +kernel
theorem d_M_setting_261 : decode b_M_setting 261 = .ok (.getfield 45, 3) := by decide +kernel
theorem d_M_setting_264 : decode b_M_setting 264 = .ok (.bipush 10, 2) := by decide +kernel
theorem d_M_setting_266 : decode b_M_setting 266 = .ok (.iload_n 1, 1) := by decide +kernel
theorem d_M_setting_267 : decode b_M_setting 267 = .ok (.imul, 1) := by decide +kernel
theorem d_M_setting_268 : decode b_M_setting 268 = .ok (.iload_n 2, 1) := by decide +kernel
theorem d_M_setting_269 : decode b_M_setting 269 = .ok (.iadd, 1) := by decide +kernel
theorem d_M_setting_270 : decode b_M_setting 270 = .ok (.bipush 10, 2) := by decide +kernel
theorem d_M_setting_272 : decode b_M_setting 272 = .ok (.isub, 1) := by decide +kernel
theorem d_M_setting_273 : decode b_M_setting 273 = .ok (.baload, 1) := by decide +kernel
theorem d_M_setting_274 : decode b_M_setting 274 = .ok (.ifCond .eq 7, 3) := by decide +kernel
theorem d_M_setting_277 : decode b_M_setting 277 = .ok (.dconst 1, 1) := by decide +kernel
theorem d_M_setting_278 : decode b_M_setting 278 = .ok (.goto 4, 3) := by decide +kernel
theorem d_M_setting_281 : decode b_M_setting 281 = .ok (.dconst 0, 1) := by decide +kernel
theorem d_M_setting_282 : decode b_M_setting 282 = .ok (.dstore 6, 2) := by decide +kernel
