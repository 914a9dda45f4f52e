theorem d_Mo_init_99 : decode cc_Mo_init 99 = .ok (.bipush 12, 2) := by decide +kernel
theorem d_Mo_init_101 : decode cc_Mo_init 101 = .ok (.newarray .int, 2) := by decide +kernel
theorem d_Mo_init_103 : decode cc_Mo_init 103 = .ok (.putfield 41, 3) := by decide +kernel
theorem d_Mo_init_106 : decode cc_Mo_init 106 = .ok (.aload_n 0, 1) := by decide +kernel
theorem d_Mo_init_107 : decode cc_Mo_init 107 = .ok (.bipush 12, 2) := by decide +kernel
theorem d_Mo_init_109 : decode cc_Mo_init 109 = .ok (.newarray .int, 2) := by decide +kernel
theorem d_Mo_init_111 : decode cc_Mo_init 111 = .ok (.putfield 44, 3) := by decide +kernel
theorem d_Mo_init_114 : decode cc_Mo_init 114 = .ok (.aload_n 0, 1) := by decide +kernel
theorem d_Mo_init_115 : decode cc_Mo_init 115 = .ok (.sipush 600, 3) := by decide +kernel
theorem d_Mo_init_118 : decode cc_Mo_init 118 = .ok (.newarray .int, 2) := by decide +kernel
theorem d_Mo_init_120 : decode cc_Mo_init 120 = .ok (.putfield 47, 3) := by decide +kernel
theorem d_Mo_init_123 : decode cc_Mo_init 123 = .ok (.aload_n 0, 1) := by decide +kernel
theorem d_Mo_init_124 : decode cc_Mo_init 124 = .ok (.sipush 600, 3) := by decide +kernel
theorem d_Mo_init_127 : decode cc_Mo_init 127 = .ok (.newarray .int, 2) := by decide +kernel
theorem d_Mo_init_129 : decode cc_Mo_init 129 = .ok (.putfield 50, 3) := by decide +kernel
theorem d_Mo_init_132 : decode cc_Mo_init 132 = .ok (.aload_n 0, 1) := by decide +kernel
theorem d_Mo_init_133 : decode cc_Mo_init 133 = .ok (.sipush 600, 3) := by decide +kernel
theorem d_Mo_init_136 : decode cc_Mo_init 136 = .ok (.newarray .int, 2) := by decide +kernel
theorem d_Mo_init_138 : decode cc_Mo_init 138 = .ok (.putfield 53, 3) := by decide +kernel
theorem d_Mo_init_141 : decode cc_Mo_init 141 = .ok (.aload_n 0, 1) := by decide +kernel
theorem d_Mo_init_142 : decode cc_Mo_init 142 = .ok (.sipush 600, 3) := by decide +kernel
theorem d_Mo_init_145 : decode cc_Mo_init 145 = .ok (.newarray .int, 2) := by decide +kernel
theorem d_Mo_init_147 : decode cc_Mo_init 147 = .ok (.putfield 56, 3) := by decide +kernel
theorem d_Mo_init_150 : decode cc_Mo_init 150 = .ok (.aload_n 0, 1) := by decide +kernel
theorem d_Mo_init_151 : decode cc_Mo_init 151 = .ok (.sipush 600, 3) := by decide +kernel
theorem d_Mo_init_154 : decode cc_Mo_init 154 = .ok (.newarray .int, 2) := by decide +kernel
theorem d_Mo_init_156 : decode cc_Mo_init 156 = .ok (.putfield 59, 3) := by decide +kernel
theorem d_Mo_init_159 : decode cc_Mo_init 159 = .ok (.aload_n 0, 1) := by decide +kernel
theorem d_Mo_init_160 : decode cc_Mo_init 160 = .ok (.sipush 600, 3) := by decide +kernel
theorem d_Mo_init_163 : decode cc_Mo_init 163 = .ok (.newarray .int, 2) := by decide +kernel
theorem d_Mo_init_165 : decode cc_Mo_init 165 = .ok (.putfield 62, 3) := by decide +kernel
theorem d_Mo_init_168 : decode cc_Mo_init 168 = .ok (.aload_n 0, 1) := by decide +kernel
theorem d_Mo_init_169 : decode cc_Mo_init 169 = .ok (.sipush 600, 3) := by decide +kernel
theorem d_Mo_init_172 : decode cc_Mo_init 172 = .ok (.newarray .long, 2) := by decide +kernel
theorem d_Mo_init_174 : decode cc_Mo_init 174 = .ok (.putfield 65, 3) := by decide +kernel
theorem d_Mo_init_177 : decode cc_Mo_init 177 = .ok (.aload_n 0, 1) := by decide +kernel
theorem d_Mo_init_178 : decode cc_Mo_init 178 = .ok (.sipush 600, 3) := by decide +kernel
theorem d_Mo_init_181 : decode cc_Mo_init 181 = .ok (.newarray .long, 2) := by decide +kernel
theorem d_Mo_init_183 : decode cc_Mo_init 183 = .ok (.putfield 68, 3) := by decide +kernel
theorem d_Mo_init_186 : decode cc_Mo_init 186 = .ok (.aload_n 0, 1) := by decide +kernel
theorem d_Mo_init_187 : decode cc_Mo_init 187 = .ok (.sipush 2400, 3) := by decide +kernel
theorem d_Mo_init_190 : decode cc_Mo_init 190 = .ok (.newarray .int, 2) := by decide +kernel
theorem d_Mo_init_192 : decode cc_Mo_init 192 = .ok (.putfield 71, 3) := by decide +kernel
theorem d_Mo_init_195 : decode cc_Mo_init 195 = .ok (.aload_n 0, 1) := by decide +kernel
theorem d_Mo_init_196 : decode cc_Mo_init 196 = .ok (.iconst 4, 1) := by decide +kernel
theorem d_Mo_init_197 : decode cc_Mo_init 197 = .ok (.newarray .int, 2) := by decide +kernel
theorem d_Mo_init_199 : decode cc_Mo_init 199 = .ok (.putfield 74, 3) := by decide +kernel
theorem d_Mo_init_202 : decode cc_Mo_init 202 = .ok (.aload_n 0, 1) := by decide +kernel
theorem d_Mo_init_203 : decode cc_Mo_init 203 = .ok (.iconst 4, 1) := by decide +kernel
theorem d_Mo_init_204 : decode cc_Mo_init 204 = .ok (.newarray .int, 2) := by decide +kernel
theorem d_Mo_init_206 : decode cc_Mo_init 206 = .ok (.putfield 77, 3) := by decide +kernel
theorem d_Mo_init_209 : decode cc_Mo_init 209 = .ok (.aload_n 0, 1) := by decide +kernel
theorem d_Mo_init_210 : decode cc_Mo_init 210 = .ok (.iconst 4, 1) := by decide +kernel
theorem d_Mo_init_211 : decode cc_Mo_init 211 = .ok (.newarray .int, 2) := by decide +kernel
theorem d_Mo_init_213 : decode cc_Mo_init 213 = .ok (.putfield 80, 3) := by decide +kernel
theorem d_Mo_init_216 : decode cc_Mo_init 216 = .ok (.aload_n 0, 1) := by decide +kernel
theorem d_Mo_init_217 : decode cc_Mo_init 217 = .ok (.iconst 4, 1) := by decide +kernel
theorem d_Mo_init_218 : decode cc_Mo_init 218 = .ok (.newarray .int, 2) := by decide +kernel
theorem d_Mo_init_220 : decode cc_Mo_init 220 = .ok (.putfield 83, 3) := by decide +kernel
theorem d_Mo_init_223 : decode cc_Mo_init 223 = .ok (.aload_n 0, 1) := by decide +kernel
theorem d_Mo_init_224 : decode cc_Mo_init 224 = .ok (.iconst 4, 1) := by decide +kernel
theorem d_Mo_init_225 : decode cc_Mo_init 225 = .ok (.newarray .int, 2) := by decide +kernel
theorem d_Mo_init_227 : decode cc_Mo_init 227 = .ok (.dup, 1) := by decide +kernel
theorem d_Mo_init_228 : decode cc_Mo_init 228 = .ok (.iconst 0, 1) := by decide +kernel
theorem d_Mo_init_229 : decode cc_Mo_init 229 = .ok (.iconst 0, 1) := by decide +kernel
theorem d_Mo_init_230 : decode cc_Mo_init 230 = .ok (.iastore, 1) := by decide +kernel
theorem d_Mo_init_231 : decode cc_Mo_init 231 = .ok (.dup, 1) := by decide +kernel
theorem d_Mo_init_232 : decode cc_Mo_init 232 = .ok (.iconst 1, 1) := by decide +kernel
theorem d_Mo_init_233 : decode cc_Mo_init 233 = .ok (.iconst 1, 1) := by decide +kernel
theorem d_Mo_init_234 : decode cc_Mo_init 234 = .ok (.iastore, 1) := by decide +kernel
theorem d_Mo_init_235 : decode cc_Mo_init 235 = .ok (.dup, 1) := by decide +kernel
theorem d_Mo_init_236 : decode cc_Mo_init 236 = .ok (.iconst 2, 1) := by decide +kernel
theorem d_Mo_init_237 : decode cc_Mo_init 237 = .ok (.iconst 2, 1) := by decide +kernel
theorem d_Mo_init_238 : decode cc_Mo_init 238 = .ok (.iastore, 1) := by decide +kernel
theorem d_Mo_init_239 : decode cc_Mo_init 239 = .ok (.dup, 1) := by decide +kernel
theorem d_Mo_init_240 : decode cc_Mo_init 240 = .ok (.iconst 3, 1) := by decide +kernel
theorem d_Mo_init_241 : decode cc_Mo_init 241 = .ok (.iconst 3, 1) := by decide +kernel
theorem d_Mo_init_242 : decode cc_Mo_init 242 = .ok (.iastore, 1) := by decide +kernel
theorem d_Mo_init_243 : decode cc_Mo_init 243 = .ok (.putfield 86, 3) := by decide +kernel
theorem d_Mo_init_246 : decode cc_Mo_init 246 = .ok (.aload_n 0, 1) := by decide +kernel
theorem d_Mo_init_247 : decode cc_Mo_init 247 = .ok (.iconst 4, 1) := by decide +kernel
theorem d_Mo_init_248 : decode cc_Mo_init 248 = .ok (.putfield 89, 3) := by decide +kernel
theorem d_Mo_init_251 : decode cc_Mo_init 251 = .ok (.aload_n 0, 1) := by decide +kernel
theorem d_Mo_init_252 : decode cc_Mo_init 252 = .ok (.iload_n 1, 1) := by decide +kernel
theorem d_Mo_init_253 : decode cc_Mo_init 253 = .ok (.iconst 1, 1) := by decide +kernel
theorem d_Mo_init_254 : decode cc_Mo_init 254 = .ok (.if_icmp .ge 7, 3) := by decide +kernel
theorem d_Mo_init_257 : decode cc_Mo_init 257 = .ok (.iconst 1, 1) := by decide +kernel
theorem d_Mo_init_258 : decode cc_Mo_init 258 = .ok (.goto 13, 3) := by decide +kernel
theorem d_Mo_init_261 : decode cc_Mo_init 261 = .ok (.iload_n 1, 1) := by decide +kernel
theorem d_Mo_init_262 : decode cc_Mo_init 262 = .ok (.iconst 4, 1) := by decide +kernel
theorem d_Mo_init_263 : decode cc_Mo_init 263 = .ok (.if_icmp .le 7, 3) := by decide +kernel
theorem d_Mo_init_266 : decode cc_Mo_init 266 = .ok (.iconst 4, 1) := by decide +kernel
theorem d_Mo_init_267 : decode cc_Mo_init 267 = .ok (.goto 4, 3) := by decide +kernel
theorem d_Mo_init_270 : decode cc_Mo_init 270 = .ok (.iload_n 1, 1) := by decide +kernel
theorem d_Mo_init_271 : decode cc_Mo_init 271 = .ok (.putfield 93, 3) := by decide +kernel
theorem d_Mo_init_274 : decode cc_Mo_init 274 = .ok (.return_, 1) := by decide +kernel
theorem d_Mo_job_0 : decode cc_Mo_job 0 = .ok (.aload_n 0, 1) := by decide +kernel
theorem d_Mo_job_1 : decode cc_Mo_job 1 = .ok (.iconst 0, 1) := by decide +kernel
theorem d_Mo_job_2 : decode cc_Mo_job 2 = .ok (.putfield 96, 3) := by decide +kernel
theorem d_Mo_job_5 : decode cc_Mo_job 5 = .ok (.aload_n 0, 1) := by decide +kernel
theorem d_Mo_job_6 : decode cc_Mo_job 6 = .ok (.iload_n 1, 1) := by decide +kernel
theorem d_Mo_job_7 : decode cc_Mo_job 7 = .ok (.invokevirtual 196, 3) := by decide +kernel
theorem d_Mo_job_10 : decode cc_Mo_job 10 = .ok (.ifCond .eq 9, 3) := by decide +kernel
theorem d_Mo_job_13 : decode cc_Mo_job 13 = .ok (.aload_n 0, 1) := by decide +kernel
theorem d_Mo_job_14 : decode cc_Mo_job 14 = .ok (.iconst 1, 1) := by decide +kernel
theorem d_Mo_job_15 : decode cc_Mo_job 15 = .ok (.invokevirtual 110, 3) := by decide +kernel
theorem d_Mo_job_18 : decode cc_Mo_job 18 = .ok (.ireturn, 1) := by decide +kernel
theorem d_Mo_job_19 : decode cc_Mo_job 19 = .ok (.iload_n 2, 1) := by decide +kernel
theorem d_Mo_job_20 : decode cc_Mo_job 20 = .ok (.tableswitch 70 0 4 #[36, 43, 50, 57, 63], 36) := by decide +kernel
theorem d_Mo_job_56 : decode cc_Mo_job 56 = .ok (.aload_n 0, 1) := by decide +kernel
theorem d_Mo_job_57 : decode cc_Mo_job 57 = .ok (.getfield 32, 3) := by decide +kernel
theorem d_Mo_job_60 : decode cc_Mo_job 60 = .ok (.iload_n 1, 1) := by decide +kernel
theorem d_Mo_job_61 : decode cc_Mo_job 61 = .ok (.iaload, 1) := by decide +kernel
theorem d_Mo_job_62 : decode cc_Mo_job 62 = .ok (.ireturn, 1) := by decide +kernel
theorem d_Mo_job_63 : decode cc_Mo_job 63 = .ok (.aload_n 0, 1) := by decide +kernel
theorem d_Mo_job_64 : decode cc_Mo_job 64 = .ok (.getfield 35, 3) := by decide +kernel
theorem d_Mo_job_67 : decode cc_Mo_job 67 = .ok (.iload_n 1, 1) := by decide +kernel
theorem d_Mo_job_68 : decode cc_Mo_job 68 = .ok (.iaload, 1) := by decide +kernel
theorem d_Mo_job_69 : decode cc_Mo_job 69 = .ok (.ireturn, 1) := by decide +kernel
theorem d_Mo_job_70 : decode cc_Mo_job 70 = .ok (.aload_n 0, 1) := by decide +kernel
theorem d_Mo_job_71 : decode cc_Mo_job 71 = .ok (.getfield 38, 3) := by decide +kernel
theorem d_Mo_job_74 : decode cc_Mo_job 74 = .ok (.iload_n 1, 1) := by decide +kernel
theorem d_Mo_job_75 : decode cc_Mo_job 75 = .ok (.iaload, 1) := by decide +kernel
theorem d_Mo_job_76 : decode cc_Mo_job 76 = .ok (.ireturn, 1) := by decide +kernel
theorem d_Mo_job_77 : decode cc_Mo_job 77 = .ok (.aload_n 0, 1) := by decide +kernel
theorem d_Mo_job_78 : decode cc_Mo_job 78 = .ok (.iload_n 1, 1) := by decide +kernel
theorem d_Mo_job_79 : decode cc_Mo_job 79 = .ok (.invokevirtual 199, 3) := by decide +kernel
theorem d_Mo_job_82 : decode cc_Mo_job 82 = .ok (.ireturn, 1) := by decide +kernel
theorem d_Mo_job_83 : decode cc_Mo_job 83 = .ok (.aload_n 0, 1) := by decide +kernel
theorem d_Mo_job_84 : decode cc_Mo_job 84 = .ok (.getfield 20, 3) := by decide +kernel
theorem d_Mo_job_87 : decode cc_Mo_job 87 = .ok (.iload_n 1, 1) := by decide +kernel
theorem d_Mo_job_88 : decode cc_Mo_job 88 = .ok (.iaload, 1) := by decide +kernel
theorem d_Mo_job_89 : decode cc_Mo_job 89 = .ok (.ireturn, 1) := by decide +kernel
theorem d_Mo_job_90 : decode cc_Mo_job 90 = .ok (.aload_n 0, 1) := by decide +kernel
theorem d_Mo_job_91 : decode cc_Mo_job 91 = .ok (.iconst 2, 1) := by decide +kernel
theorem d_Mo_job_92 : decode cc_Mo_job 92 = .ok (.invokevirtual 110, 3) := by decide +kernel
theorem d_Mo_job_95 : decode cc_Mo_job 95 = .ok (.ireturn, 1) := by decide +kernel
theorem d_Mo_join_0 : decode cc_Mo_join 0 = .ok (.aload_n 0, 1) := by decide +kernel
theorem d_Mo_join_1 : decode cc_Mo_join 1 = .ok (.iconst 0, 1) := by decide +kernel
theorem d_Mo_join_2 : decode cc_Mo_join 2 = .ok (.putfield 96, 3) := by decide +kernel
theorem d_Mo_join_5 : decode cc_Mo_join 5 = .ok (.aload_n 0, 1) := by decide +kernel
theorem d_Mo_join_6 : decode cc_Mo_join 6 = .ok (.iload_n 1, 1) := by decide +kernel
theorem d_Mo_join_7 : decode cc_Mo_join 7 = .ok (.invokevirtual 196, 3) := by decide +kernel
theorem d_Mo_join_10 : decode cc_Mo_join 10 = .ok (.ifCond .eq 9, 3) := by decide +kernel
theorem d_Mo_join_13 : decode cc_Mo_join 13 = .ok (.aload_n 0, 1) := by decide +kernel
theorem d_Mo_join_14 : decode cc_Mo_join 14 = .ok (.iconst 1, 1) := by decide +kernel
theorem d_Mo_join_15 : decode cc_Mo_join 15 = .ok (.invokevirtual 110, 3) := by decide +kernel
theorem d_Mo_join_18 : decode cc_Mo_join 18 = .ok (.ireturn, 1) := by decide +kernel
theorem d_Mo_join_19 : decode cc_Mo_join 19 = .ok (.iconst 0, 1) := by decide +kernel
theorem d_Mo_join_20 : decode cc_Mo_join 20 = .ok (.istore_n 2, 1) := by decide +kernel
theorem d_Mo_join_21 : decode cc_Mo_join 21 = .ok (.aload_n 0, 1) := by decide +kernel
theorem d_Mo_join_22 : decode cc_Mo_join 22 = .ok (.getfield 32, 3) := by decide +kernel
theorem d_Mo_join_25 : decode cc_Mo_join 25 = .ok (.iload_n 1, 1) := by decide +kernel
theorem d_Mo_join_26 : decode cc_Mo_join 26 = .ok (.iaload, 1) := by decide +kernel
theorem d_Mo_join_27 : decode cc_Mo_join 27 = .ok (.ifCond .ne 14, 3) := by decide +kernel
theorem d_Mo_join_30 : decode cc_Mo_join 30 = .ok (.aload_n 0, 1) := by decide +kernel
theorem d_Mo_join_31 : decode cc_Mo_join 31 = .ok (.invokevirtual 192, 3) := by decide +kernel
theorem d_Mo_join_34 : decode cc_Mo_join 34 = .ok (.pop, 1) := by decide +kernel
theorem d_Mo_join_35 : decode cc_Mo_join 35 = .ok (.iinc 2 1, 3) := by decide +kernel
theorem d_Mo_join_38 : decode cc_Mo_join 38 = .ok (.goto (-17), 3) := by decide +kernel
theorem d_Mo_join_41 : decode cc_Mo_join 41 = .ok (.aload_n 0, 1) := by decide +kernel
theorem d_Mo_join_42 : decode cc_Mo_join 42 = .ok (.getfield 32, 3) := by decide +kernel
theorem d_Mo_join_45 : decode cc_Mo_join 45 = .ok (.iload_n 1, 1) := by decide +kernel
theorem d_Mo_join_46 : decode cc_Mo_join 46 = .ok (.iaload, 1) := by decide +kernel
theorem d_Mo_join_47 : decode cc_Mo_join 47 = .ok (.iconst 2, 1) := by decide +kernel
theorem d_Mo_join_48 : decode cc_Mo_join 48 = .ok (.if_icmp .ne 11, 3) := by decide +kernel
theorem d_Mo_join_51 : decode cc_Mo_join 51 = .ok (.aload_n 0, 1) := by decide +kernel
theorem d_Mo_join_52 : decode cc_Mo_join 52 = .ok (.iconst 2, 1) := by decide +kernel
theorem d_Mo_join_53 : decode cc_Mo_join 53 = .ok (.invokevirtual 110, 3) := by decide +kernel
theorem d_Mo_join_56 : decode cc_Mo_join 56 = .ok (.goto 4, 3) := by decide +kernel
theorem d_Mo_join_59 : decode cc_Mo_join 59 = .ok (.iload_n 2, 1) := by decide +kernel
theorem d_Mo_join_60 : decode cc_Mo_join 60 = .ok (.ireturn, 1) := by decide +kernel
theorem d_Mo_joined_0 : decode cc_Mo_joined 0 = .ok (.aload_n 0, 1) := by decide +kernel
theorem d_Mo_joined_1 : decode cc_Mo_joined 1 = .ok (.getfield 20, 3) := by decide +kernel
theorem d_Mo_joined_4 : decode cc_Mo_joined 4 = .ok (.iload_n 1, 1) := by decide +kernel
theorem d_Mo_joined_5 : decode cc_Mo_joined 5 = .ok (.iaload, 1) := by decide +kernel
theorem d_Mo_joined_6 : decode cc_Mo_joined 6 = .ok (.iconst 1, 1) := by decide +kernel
theorem d_Mo_joined_7 : decode cc_Mo_joined 7 = .ok (.if_icmp .ne 17, 3) := by decide +kernel
theorem d_Mo_joined_10 : decode cc_Mo_joined 10 = .ok (.lload_n 2, 1) := by decide +kernel
theorem d_Mo_joined_11 : decode cc_Mo_joined 11 = .ok (.lload 4, 2) := by decide +kernel
theorem d_Mo_joined_13 : decode cc_Mo_joined 13 = .ok (.lcmp, 1) := by decide +kernel
theorem d_Mo_joined_14 : decode cc_Mo_joined 14 = .ok (.ifCond .le 7, 3) := by decide +kernel
theorem d_Mo_joined_17 : decode cc_Mo_joined 17 = .ok (.lload_n 2, 1) := by decide +kernel
theorem d_Mo_joined_18 : decode cc_Mo_joined 18 = .ok (.goto 5, 3) := by decide +kernel
theorem d_Mo_joined_21 : decode cc_Mo_joined 21 = .ok (.lload 4, 2) := by decide +kernel
theorem d_Mo_joined_23 : decode cc_Mo_joined 23 = .ok (.lreturn, 1) := by decide +kernel
theorem d_Mo_joined_24 : decode cc_Mo_joined 24 = .ok (.aload_n 0, 1) := by decide +kernel
theorem d_Mo_joined_25 : decode cc_Mo_joined 25 = .ok (.getfield 7, 3) := by decide +kernel
theorem d_Mo_joined_28 : decode cc_Mo_joined 28 = .ok (.aload_n 0, 1) := by decide +kernel
theorem d_Mo_joined_29 : decode cc_Mo_joined 29 = .ok (.getfield 23, 3) := by decide +kernel
theorem d_Mo_joined_32 : decode cc_Mo_joined 32 = .ok (.iload_n 1, 1) := by decide +kernel
theorem d_Mo_joined_33 : decode cc_Mo_joined 33 = .ok (.iaload, 1) := by decide +kernel
theorem d_Mo_joined_34 : decode cc_Mo_joined 34 = .ok (.iaload, 1) := by decide +kernel
theorem d_Mo_joined_35 : decode cc_Mo_joined 35 = .ok (.lload_n 2, 1) := by decide +kernel
theorem d_Mo_joined_36 : decode cc_Mo_joined 36 = .ok (.lload 4, 2) := by decide +kernel
theorem d_Mo_joined_38 : decode cc_Mo_joined 38 = .ok (.ladd, 1) := by decide +kernel
theorem d_Mo_joined_39 : decode cc_Mo_joined 39 = .ok (.invokestatic 122, 3) := by decide +kernel
theorem d_Mo_joined_42 : decode cc_Mo_joined 42 = .ok (.lreturn, 1) := by decide +kernel
theorem d_Mo_kept_0 : decode cc_Mo_kept 0 = .ok (.iload_n 0, 1) := by decide +kernel
theorem d_Mo_kept_1 : decode cc_Mo_kept 1 = .ok (.tableswitch 47 0 3 #[31, 36, 41, 45], 31) := by decide +kernel
theorem d_Mo_kept_32 : decode cc_Mo_kept 32 = .ok (.lload_n 1, 1) := by decide +kernel
theorem d_Mo_kept_33 : decode cc_Mo_kept 33 = .ok (.l2i, 1) := by decide +kernel
theorem d_Mo_kept_34 : decode cc_Mo_kept 34 = .ok (.i2b, 1) := by decide +kernel
theorem d_Mo_kept_35 : decode cc_Mo_kept 35 = .ok (.i2l, 1) := by decide +kernel
theorem d_Mo_kept_36 : decode cc_Mo_kept 36 = .ok (.lreturn, 1) := by decide +kernel
theorem d_Mo_kept_37 : decode cc_Mo_kept 37 = .ok (.lload_n 1, 1) := by decide +kernel
theorem d_Mo_kept_38 : decode cc_Mo_kept 38 = .ok (.l2i, 1) := by decide +kernel
theorem d_Mo_kept_39 : decode cc_Mo_kept 39 = .ok (.i2s, 1) := by decide +kernel
theorem d_Mo_kept_40 : decode cc_Mo_kept 40 = .ok (.i2l, 1) := by decide +kernel
theorem d_Mo_kept_41 : decode cc_Mo_kept 41 = .ok (.lreturn, 1) := by decide +kernel
theorem d_Mo_kept_42 : decode cc_Mo_kept 42 = .ok (.lload_n 1, 1) := by decide +kernel
theorem d_Mo_kept_43 : decode cc_Mo_kept 43 = .ok (.l2i, 1) := by decide +kernel
theorem d_Mo_kept_44 : decode cc_Mo_kept 44 = .ok (.i2l, 1) := by decide +kernel
theorem d_Mo_kept_45 : decode cc_Mo_kept 45 = .ok (.lreturn, 1) := by decide +kernel
theorem d_Mo_kept_46 : decode cc_Mo_kept 46 = .ok (.lload_n 1, 1) := by decide +kernel
theorem d_Mo_kept_47 : decode cc_Mo_kept 47 = .ok (.lreturn, 1) := by decide +kernel
theorem d_Mo_kept_48 : decode cc_Mo_kept 48 = .ok (.lload_n 1, 1) := by decide +kernel
theorem d_Mo_kept_49 : decode cc_Mo_kept 49 = .ok (.ldc2_w 99, 3) := by decide +kernel
theorem d_Mo_kept_52 : decode cc_Mo_kept 52 = .ok (.lcmp, 1) := by decide +kernel
theorem d_Mo_kept_53 : decode cc_Mo_kept 53 = .ok (.ifCond .ge 9, 3) := by decide +kernel
theorem d_Mo_kept_56 : decode cc_Mo_kept 56 = .ok (.ldc2_w 99, 3) := by decide +kernel
theorem d_Mo_kept_59 : decode cc_Mo_kept 59 = .ok (.goto 18, 3) := by decide +kernel
theorem d_Mo_kept_62 : decode cc_Mo_kept 62 = .ok (.lload_n 1, 1) := by decide +kernel
theorem d_Mo_kept_63 : decode cc_Mo_kept 63 = .ok (.ldc2_w 101, 3) := by decide +kernel
theorem d_Mo_kept_66 : decode cc_Mo_kept 66 = .ok (.lcmp, 1) := by decide +kernel
theorem d_Mo_kept_67 : decode cc_Mo_kept 67 = .ok (.ifCond .le 9, 3) := by decide +kernel
theorem d_Mo_kept_70 : decode cc_Mo_kept 70 = .ok (.ldc2_w 101, 3) := by decide +kernel
theorem d_Mo_kept_73 : decode cc_Mo_kept 73 = .ok (.goto 4, 3) := by decide +kernel
theorem d_Mo_kept_76 : decode cc_Mo_kept 76 = .ok (.lload_n 1, 1) := by decide +kernel
theorem d_Mo_kept_77 : decode cc_Mo_kept 77 = .ok (.lreturn, 1) := by decide +kernel
theorem d_Mo_leaf_0 : decode cc_Mo_leaf 0 = .ok (.aload_n 0, 1) := by decide +kernel
theorem d_Mo_leaf_1 : decode cc_Mo_leaf 1 = .ok (.getfield 47, 3) := by decide +kernel
theorem d_Mo_leaf_4 : decode cc_Mo_leaf 4 = .ok (.iload_n 1, 1) := by decide +kernel
theorem d_Mo_leaf_5 : decode cc_Mo_leaf 5 = .ok (.iaload, 1) := by decide +kernel
theorem d_Mo_leaf_6 : decode cc_Mo_leaf 6 = .ok (.istore_n 2, 1) := by decide +kernel
theorem d_Mo_leaf_7 : decode cc_Mo_leaf 7 = .ok (.bipush 24, 2) := by decide +kernel
theorem d_Mo_leaf_9 : decode cc_Mo_leaf 9 = .ok (.aload_n 0, 1) := by decide +kernel
theorem d_Mo_leaf_10 : decode cc_Mo_leaf 10 = .ok (.getfield 23, 3) := by decide +kernel
theorem d_Mo_leaf_13 : decode cc_Mo_leaf 13 = .ok (.iload_n 2, 1) := by decide +kernel
theorem d_Mo_leaf_14 : decode cc_Mo_leaf 14 = .ok (.iaload, 1) := by decide +kernel
theorem d_Mo_leaf_15 : decode cc_Mo_leaf 15 = .ok (.imul, 1) := by decide +kernel
theorem d_Mo_leaf_16 : decode cc_Mo_leaf 16 = .ok (.istore_n 3, 1) := by decide +kernel
theorem d_Mo_leaf_17 : decode cc_Mo_leaf 17 = .ok (.aload_n 0, 1) := by decide +kernel
theorem d_Mo_leaf_18 : decode cc_Mo_leaf 18 = .ok (.getfield 20, 3) := by decide +kernel
theorem d_Mo_leaf_21 : decode cc_Mo_leaf 21 = .ok (.iload_n 2, 1) := by decide +kernel
theorem d_Mo_leaf_22 : decode cc_Mo_leaf 22 = .ok (.iaload, 1) := by decide +kernel
theorem d_Mo_leaf_23 : decode cc_Mo_leaf 23 = .ok (.iconst 2, 1) := by decide +kernel
theorem d_Mo_leaf_24 : decode cc_Mo_leaf 24 = .ok (.if_icmp .lt 23, 3) := by decide +kernel
theorem d_Mo_leaf_27 : decode cc_Mo_leaf 27 = .ok (.aload_n 0, 1) := by decide +kernel
theorem d_Mo_leaf_28 : decode cc_Mo_leaf 28 = .ok (.getfield 20, 3) := by decide +kernel
theorem d_Mo_leaf_31 : decode cc_Mo_leaf 31 = .ok (.iload_n 2, 1) := by decide +kernel
theorem d_Mo_leaf_32 : decode cc_Mo_leaf 32 = .ok (.iaload, 1) := by decide +kernel
theorem d_Mo_leaf_33 : decode cc_Mo_leaf 33 = .ok (.iconst 2, 1) := by decide +kernel
theorem d_Mo_leaf_34 : decode cc_Mo_leaf 34 = .ok (.if_icmp .ne 27, 3) := by decide +kernel
theorem d_Mo_leaf_37 : decode cc_Mo_leaf 37 = .ok (.aload_n 0, 1) := by decide +kernel
theorem d_Mo_leaf_38 : decode cc_Mo_leaf 38 = .ok (.getfield 44, 3) := by decide +kernel
theorem d_Mo_leaf_41 : decode cc_Mo_leaf 41 = .ok (.iload_n 2, 1) := by decide +kernel
theorem d_Mo_leaf_42 : decode cc_Mo_leaf 42 = .ok (.iaload, 1) := by decide +kernel
theorem d_Mo_leaf_43 : decode cc_Mo_leaf 43 = .ok (.iconst 1, 1) := by decide +kernel
theorem d_Mo_leaf_44 : decode cc_Mo_leaf 44 = .ok (.if_icmp .ne 17, 3) := by decide +kernel
theorem d_Mo_leaf_47 : decode cc_Mo_leaf 47 = .ok (.aload_n 0, 1) := by decide +kernel
theorem d_Mo_leaf_48 : decode cc_Mo_leaf 48 = .ok (.getfield 65, 3) := by decide +kernel
theorem d_Mo_leaf_51 : decode cc_Mo_leaf 51 = .ok (.iload_n 1, 1) := by decide +kernel
theorem d_Mo_leaf_52 : decode cc_Mo_leaf 52 = .ok (.aload_n 0, 1) := by decide +kernel
theorem d_Mo_leaf_53 : decode cc_Mo_leaf 53 = .ok (.iload_n 1, 1) := by decide +kernel
theorem d_Mo_leaf_54 : decode cc_Mo_leaf 54 = .ok (.invokevirtual 153, 3) := by decide +kernel
theorem d_Mo_leaf_57 : decode cc_Mo_leaf 57 = .ok (.lastore, 1) := by decide +kernel
theorem d_Mo_leaf_58 : decode cc_Mo_leaf 58 = .ok (.goto 18, 3) := by decide +kernel
theorem d_Mo_leaf_61 : decode cc_Mo_leaf 61 = .ok (.aload_n 0, 1) := by decide +kernel
theorem d_Mo_leaf_62 : decode cc_Mo_leaf 62 = .ok (.getfield 20, 3) := by decide +kernel
theorem d_Mo_leaf_65 : decode cc_Mo_leaf 65 = .ok (.iload_n 2, 1) := by decide +kernel
theorem d_Mo_leaf_66 : decode cc_Mo_leaf 66 = .ok (.iaload, 1) := by decide +kernel
theorem d_Mo_leaf_67 : decode cc_Mo_leaf 67 = .ok (.iconst 2, 1) := by decide +kernel
theorem d_Mo_leaf_68 : decode cc_Mo_leaf 68 = .ok (.if_icmp .ne 8, 3) := by decide +kernel
theorem d_Mo_leaf_71 : decode cc_Mo_leaf 71 = .ok (.aload_n 0, 1) := by decide +kernel
theorem d_Mo_leaf_72 : decode cc_Mo_leaf 72 = .ok (.iload_n 1, 1) := by decide +kernel
theorem d_Mo_leaf_73 : decode cc_Mo_leaf 73 = .ok (.invokevirtual 157, 3) := by decide +kernel
theorem d_Mo_leaf_76 : decode cc_Mo_leaf 76 = .ok (.aload_n 0, 1) := by decide +kernel
theorem d_Mo_leaf_77 : decode cc_Mo_leaf 77 = .ok (.getfield 20, 3) := by decide +kernel
theorem d_Mo_leaf_80 : decode cc_Mo_leaf 80 = .ok (.iload_n 2, 1) := by decide +kernel
theorem d_Mo_leaf_81 : decode cc_Mo_leaf 81 = .ok (.iaload, 1) := by decide +kernel
theorem d_Mo_leaf_82 : decode cc_Mo_leaf 82 = .ok (.iconst 3, 1) := by decide +kernel
theorem d_Mo_leaf_83 : decode cc_Mo_leaf 83 = .ok (.if_icmp .ne 20, 3) := by decide +kernel
theorem d_Mo_leaf_86 : decode cc_Mo_leaf 86 = .ok (.aload_n 0, 1) := by decide +kernel
theorem d_Mo_leaf_87 : decode cc_Mo_leaf 87 = .ok (.iload_n 3, 1) := by decide +kernel
theorem d_Mo_leaf_88 : decode cc_Mo_leaf 88 = .ok (.aload_n 0, 1) := by decide +kernel
theorem d_Mo_leaf_89 : decode cc_Mo_leaf 89 = .ok (.getfield 50, 3) := by decide +kernel
theorem d_Mo_leaf_92 : decode cc_Mo_leaf 92 = .ok (.iload_n 1, 1) := by decide +kernel
theorem d_Mo_leaf_93 : decode cc_Mo_leaf 93 = .ok (.iaload, 1) := by decide +kernel
theorem d_Mo_leaf_94 : decode cc_Mo_leaf 94 = .ok (.aload_n 0, 1) := by decide +kernel
theorem d_Mo_leaf_95 : decode cc_Mo_leaf 95 = .ok (.getfield 53, 3) := by decide +kernel
theorem d_Mo_leaf_98 : decode cc_Mo_leaf 98 = .ok (.iload_n 1, 1) := by decide +kernel
theorem d_Mo_leaf_99 : decode cc_Mo_leaf 99 = .ok (.iaload, 1) := by decide +kernel
theorem d_Mo_leaf_100 : decode cc_Mo_leaf 100 = .ok (.invokevirtual 161, 3) := by decide +kernel
theorem d_Mo_leaf_103 : decode cc_Mo_leaf 103 = .ok (.aload_n 0, 1) := by decide +kernel
theorem d_Mo_leaf_104 : decode cc_Mo_leaf 104 = .ok (.getfield 50, 3) := by decide +kernel
theorem d_Mo_leaf_107 : decode cc_Mo_leaf 107 = .ok (.iload_n 1, 1) := by decide +kernel
theorem d_Mo_leaf_108 : decode cc_Mo_leaf 108 = .ok (.iaload, 1) := by decide +kernel
theorem d_Mo_leaf_109 : decode cc_Mo_leaf 109 = .ok (.istore 4, 2) := by decide +kernel
theorem d_Mo_leaf_111 : decode cc_Mo_leaf 111 = .ok (.iload 4, 2) := by decide +kernel
theorem d_Mo_leaf_113 : decode cc_Mo_leaf 113 = .ok (.aload_n 0, 1) := by decide +kernel
theorem d_Mo_leaf_114 : decode cc_Mo_leaf 114 = .ok (.getfield 53, 3) := by decide +kernel
theorem d_Mo_leaf_117 : decode cc_Mo_leaf 117 = .ok (.iload_n 1, 1) := by decide +kernel
theorem d_Mo_leaf_118 : decode cc_Mo_leaf 118 = .ok (.iaload, 1) := by decide +kernel
theorem d_Mo_leaf_119 : decode cc_Mo_leaf 119 = .ok (.if_icmp .ge 102, 3) := by decide +kernel
theorem d_Mo_leaf_122 : decode cc_Mo_leaf 122 = .ok (.aload_n 0, 1) := by decide +kernel
theorem d_Mo_leaf_123 : decode cc_Mo_leaf 123 = .ok (.getfield 20, 3) := by decide +kernel
theorem d_Mo_leaf_126 : decode cc_Mo_leaf 126 = .ok (.iload_n 2, 1) := by decide +kernel
theorem d_Mo_leaf_127 : decode cc_Mo_leaf 127 = .ok (.iaload, 1) := by decide +kernel
theorem d_Mo_leaf_128 : decode cc_Mo_leaf 128 = .ok (.iconst 3, 1) := by decide +kernel
theorem d_Mo_leaf_129 : decode cc_Mo_leaf 129 = .ok (.if_icmp .le 92, 3) := by decide +kernel
theorem d_Mo_leaf_132 : decode cc_Mo_leaf 132 = .ok (.aload_n 0, 1) := by decide +kernel
theorem d_Mo_leaf_133 : decode cc_Mo_leaf 133 = .ok (.getfield 20, 3) := by decide +kernel
theorem d_Mo_leaf_136 : decode cc_Mo_leaf 136 = .ok (.iload_n 2, 1) := by decide +kernel
theorem d_Mo_leaf_137 : decode cc_Mo_leaf 137 = .ok (.iaload, 1) := by decide +kernel
theorem d_Mo_leaf_138 : decode cc_Mo_leaf 138 = .ok (.iconst 5, 1) := by decide +kernel
theorem d_Mo_leaf_139 : decode cc_Mo_leaf 139 = .ok (.if_icmp .ne 26, 3) := by decide +kernel
theorem d_Mo_leaf_142 : decode cc_Mo_leaf 142 = .ok (.aload_n 0, 1) := by decide +kernel
theorem d_Mo_leaf_143 : decode cc_Mo_leaf 143 = .ok (.getfield 16, 3) := by decide +kernel
theorem d_Mo_leaf_146 : decode cc_Mo_leaf 146 = .ok (.iload_n 3, 1) := by decide +kernel
theorem d_Mo_leaf_147 : decode cc_Mo_leaf 147 = .ok (.iload 4, 2) := by decide +kernel
theorem d_Mo_leaf_149 : decode cc_Mo_leaf 149 = .ok (.iadd, 1) := by decide +kernel
theorem d_Mo_leaf_150 : decode cc_Mo_leaf 150 = .ok (.laload, 1) := by decide +kernel
theorem d_Mo_leaf_151 : decode cc_Mo_leaf 151 = .ok (.lconst 0, 1) := by decide +kernel
theorem d_Mo_leaf_152 : decode cc_Mo_leaf 152 = .ok (.lcmp, 1) := by decide +kernel
theorem d_Mo_leaf_153 : decode cc_Mo_leaf 153 = .ok (.ifCond .ne 12, 3) := by decide +kernel
theorem d_Mo_leaf_156 : decode cc_Mo_leaf 156 = .ok (.aload_n 0, 1) := by decide +kernel
theorem d_Mo_leaf_157 : decode cc_Mo_leaf 157 = .ok (.iload_n 2, 1) := by decide +kernel
theorem d_Mo_leaf_158 : decode cc_Mo_leaf 158 = .ok (.iload 4, 2) := by decide +kernel
theorem d_Mo_leaf_160 : decode cc_Mo_leaf 160 = .ok (.invokevirtual 165, 3) := by decide +kernel
theorem d_Mo_leaf_163 : decode cc_Mo_leaf 163 = .ok (.iconst 0, 1) := by decide +kernel
theorem d_Mo_leaf_164 : decode cc_Mo_leaf 164 = .ok (.ireturn, 1) := by decide +kernel
theorem d_Mo_leaf_165 : decode cc_Mo_leaf 165 = .ok (.aload_n 0, 1) := by decide +kernel
theorem d_Mo_leaf_166 : decode cc_Mo_leaf 166 = .ok (.getfield 16, 3) := by decide +kernel
theorem d_Mo_leaf_169 : decode cc_Mo_leaf 169 = .ok (.iload_n 3, 1) := by decide +kernel
theorem d_Mo_leaf_170 : decode cc_Mo_leaf 170 = .ok (.iload 4, 2) := by decide +kernel
theorem d_Mo_leaf_172 : decode cc_Mo_leaf 172 = .ok (.iadd, 1) := by decide +kernel
theorem d_Mo_leaf_173 : decode cc_Mo_leaf 173 = .ok (.aload_n 0, 1) := by decide +kernel
theorem d_Mo_leaf_174 : decode cc_Mo_leaf 174 = .ok (.getfield 20, 3) := by decide +kernel
theorem d_Mo_leaf_177 : decode cc_Mo_leaf 177 = .ok (.iload_n 2, 1) := by decide +kernel
theorem d_Mo_leaf_178 : decode cc_Mo_leaf 178 = .ok (.iaload, 1) := by decide +kernel
theorem d_Mo_leaf_179 : decode cc_Mo_leaf 179 = .ok (.iconst 4, 1) := by decide +kernel
theorem d_Mo_leaf_180 : decode cc_Mo_leaf 180 = .ok (.if_icmp .ne 20, 3) := by decide +kernel
theorem d_Mo_leaf_183 : decode cc_Mo_leaf 183 = .ok (.aload_n 0, 1) := by decide +kernel
theorem d_Mo_leaf_184 : decode cc_Mo_leaf 184 = .ok (.iload_n 2, 1) := by decide +kernel
theorem d_Mo_leaf_185 : decode cc_Mo_leaf 185 = .ok (.aload_n 0, 1) := by decide +kernel
theorem d_Mo_leaf_186 : decode cc_Mo_leaf 186 = .ok (.getfield 16, 3) := by decide +kernel
theorem d_Mo_leaf_189 : decode cc_Mo_leaf 189 = .ok (.iload_n 3, 1) := by decide +kernel
theorem d_Mo_leaf_190 : decode cc_Mo_leaf 190 = .ok (.iload 4, 2) := by decide +kernel
theorem d_Mo_leaf_192 : decode cc_Mo_leaf 192 = .ok (.iadd, 1) := by decide +kernel
theorem d_Mo_leaf_193 : decode cc_Mo_leaf 193 = .ok (.laload, 1) := by decide +kernel
theorem d_Mo_leaf_194 : decode cc_Mo_leaf 194 = .ok (.invokevirtual 168, 3) := by decide +kernel
theorem d_Mo_leaf_197 : decode cc_Mo_leaf 197 = .ok (.goto 17, 3) := by decide +kernel
theorem d_Mo_leaf_200 : decode cc_Mo_leaf 200 = .ok (.aload_n 0, 1) := by decide +kernel
theorem d_Mo_leaf_201 : decode cc_Mo_leaf 201 = .ok (.iload_n 2, 1) := by decide +kernel
theorem d_Mo_leaf_202 : decode cc_Mo_leaf 202 = .ok (.aload_n 0, 1) := by decide +kernel
theorem d_Mo_leaf_203 : decode cc_Mo_leaf 203 = .ok (.getfield 16, 3) := by decide +kernel
theorem d_Mo_leaf_206 : decode cc_Mo_leaf 206 = .ok (.iload_n 3, 1) := by decide +kernel
theorem d_Mo_leaf_207 : decode cc_Mo_leaf 207 = .ok (.iload 4, 2) := by decide +kernel
theorem d_Mo_leaf_209 : decode cc_Mo_leaf 209 = .ok (.iadd, 1) := by decide +kernel
theorem d_Mo_leaf_210 : decode cc_Mo_leaf 210 = .ok (.laload, 1) := by decide +kernel
theorem d_Mo_leaf_211 : decode cc_Mo_leaf 211 = .ok (.invokevirtual 171, 3) := by decide +kernel
theorem d_Mo_leaf_214 : decode cc_Mo_leaf 214 = .ok (.lastore, 1) := by decide +kernel
theorem d_Mo_leaf_215 : decode cc_Mo_leaf 215 = .ok (.iinc 4 1, 3) := by decide +kernel
theorem d_Mo_leaf_218 : decode cc_Mo_leaf 218 = .ok (.goto (-107), 3) := by decide +kernel
theorem d_Mo_leaf_221 : decode cc_Mo_leaf 221 = .ok (.iconst 1, 1) := by decide +kernel
theorem d_Mo_leaf_222 : decode cc_Mo_leaf 222 = .ok (.ireturn, 1) := by decide +kernel
theorem d_Mo_mapped_0 : decode cc_Mo_mapped 0 = .ok (.aload_n 0, 1) := by decide +kernel
theorem d_Mo_mapped_1 : decode cc_Mo_mapped 1 = .ok (.getfield 7, 3) := by decide +kernel
theorem d_Mo_mapped_4 : decode cc_Mo_mapped 4 = .ok (.aload_n 0, 1) := by decide +kernel
theorem d_Mo_mapped_5 : decode cc_Mo_mapped 5 = .ok (.getfield 23, 3) := by decide +kernel
theorem d_Mo_mapped_8 : decode cc_Mo_mapped 8 = .ok (.iload_n 1, 1) := by decide +kernel
theorem d_Mo_mapped_9 : decode cc_Mo_mapped 9 = .ok (.iaload, 1) := by decide +kernel
theorem d_Mo_mapped_10 : decode cc_Mo_mapped 10 = .ok (.iaload, 1) := by decide +kernel
theorem d_Mo_mapped_11 : decode cc_Mo_mapped 11 = .ok (.istore 4, 2) := by decide +kernel
theorem d_Mo_mapped_13 : decode cc_Mo_mapped 13 = .ok (.iload 4, 2) := by decide +kernel
theorem d_Mo_mapped_15 : decode cc_Mo_mapped 15 = .ok (.aload_n 0, 1) := by decide +kernel
theorem d_Mo_mapped_16 : decode cc_Mo_mapped 16 = .ok (.getfield 26, 3) := by decide +kernel
theorem d_Mo_mapped_19 : decode cc_Mo_mapped 19 = .ok (.iload_n 1, 1) := by decide +kernel
theorem d_Mo_mapped_20 : decode cc_Mo_mapped 20 = .ok (.iaload, 1) := by decide +kernel
theorem d_Mo_mapped_21 : decode cc_Mo_mapped 21 = .ok (.i2l, 1) := by decide +kernel
theorem d_Mo_mapped_22 : decode cc_Mo_mapped 22 = .ok (.lload_n 2, 1) := by decide +kernel
theorem d_Mo_mapped_23 : decode cc_Mo_mapped 23 = .ok (.lmul, 1) := by decide +kernel
theorem d_Mo_mapped_24 : decode cc_Mo_mapped 24 = .ok (.iload 4, 2) := by decide +kernel
theorem d_Mo_mapped_26 : decode cc_Mo_mapped 26 = .ok (.iconst 4, 1) := by decide +kernel
theorem d_Mo_mapped_27 : decode cc_Mo_mapped 27 = .ok (.if_icmp .ge 13, 3) := by decide +kernel
theorem d_Mo_mapped_30 : decode cc_Mo_mapped 30 = .ok (.aload_n 0, 1) := by decide +kernel
theorem d_Mo_mapped_31 : decode cc_Mo_mapped 31 = .ok (.getfield 29, 3) := by decide +kernel
theorem d_Mo_mapped_34 : decode cc_Mo_mapped 34 = .ok (.iload_n 1, 1) := by decide +kernel
theorem d_Mo_mapped_35 : decode cc_Mo_mapped 35 = .ok (.iaload, 1) := by decide +kernel
theorem d_Mo_mapped_36 : decode cc_Mo_mapped 36 = .ok (.i2l, 1) := by decide +kernel
theorem d_Mo_mapped_37 : decode cc_Mo_mapped 37 = .ok (.goto 14, 3) := by decide +kernel
theorem d_Mo_mapped_40 : decode cc_Mo_mapped 40 = .ok (.ldc2_w 141, 3) := by decide +kernel
theorem d_Mo_mapped_43 : decode cc_Mo_mapped 43 = .ok (.aload_n 0, 1) := by decide +kernel
theorem d_Mo_mapped_44 : decode cc_Mo_mapped 44 = .ok (.getfield 29, 3) := by decide +kernel
theorem d_Mo_mapped_47 : decode cc_Mo_mapped 47 = .ok (.iload_n 1, 1) := by decide +kernel
theorem d_Mo_mapped_48 : decode cc_Mo_mapped 48 = .ok (.iaload, 1) := by decide +kernel
theorem d_Mo_mapped_49 : decode cc_Mo_mapped 49 = .ok (.i2l, 1) := by decide +kernel
theorem d_Mo_mapped_50 : decode cc_Mo_mapped 50 = .ok (.lmul, 1) := by decide +kernel
theorem d_Mo_mapped_51 : decode cc_Mo_mapped 51 = .ok (.ladd, 1) := by decide +kernel
theorem d_Mo_mapped_52 : decode cc_Mo_mapped 52 = .ok (.invokestatic 122, 3) := by decide +kernel
theorem d_Mo_mapped_55 : decode cc_Mo_mapped 55 = .ok (.lreturn, 1) := by decide +kernel
theorem d_Mo_noElement_0 : decode cc_Mo_noElement 0 = .ok (.iload_n 1, 1) := by decide +kernel
theorem d_Mo_noElement_1 : decode cc_Mo_noElement 1 = .ok (.iconst 0, 1) := by decide +kernel
theorem d_Mo_noElement_2 : decode cc_Mo_noElement 2 = .ok (.iconst 3, 1) := by decide +kernel
theorem d_Mo_noElement_3 : decode cc_Mo_noElement 3 = .ok (.invokestatic 106, 3) := by decide +kernel
theorem d_Mo_noElement_6 : decode cc_Mo_noElement 6 = .ok (.ifCond .eq 26, 3) := by decide +kernel
theorem d_Mo_noElement_9 : decode cc_Mo_noElement 9 = .ok (.aload_n 0, 1) := by decide +kernel
theorem d_Mo_noElement_10 : decode cc_Mo_noElement 10 = .ok (.getfield 7, 3) := by decide +kernel
theorem d_Mo_noElement_13 : decode cc_Mo_noElement 13 = .ok (.iload_n 1, 1) := by decide +kernel
theorem d_Mo_noElement_14 : decode cc_Mo_noElement 14 = .ok (.iaload, 1) := by decide +kernel
theorem d_Mo_noElement_15 : decode cc_Mo_noElement 15 = .ok (.ifCond .lt 17, 3) := by decide +kernel
theorem d_Mo_noElement_18 : decode cc_Mo_noElement 18 = .ok (.iload_n 2, 1) := by decide +kernel
theorem d_Mo_noElement_19 : decode cc_Mo_noElement 19 = .ok (.ifCond .lt 13, 3) := by decide +kernel
theorem d_Mo_noElement_22 : decode cc_Mo_noElement 22 = .ok (.iload_n 2, 1) := by decide +kernel
theorem d_Mo_noElement_23 : decode cc_Mo_noElement 23 = .ok (.aload_n 0, 1) := by decide +kernel
theorem d_Mo_noElement_24 : decode cc_Mo_noElement 24 = .ok (.getfield 13, 3) := by decide +kernel
theorem d_Mo_noElement_27 : decode cc_Mo_noElement 27 = .ok (.iload_n 1, 1) := by decide +kernel
theorem d_Mo_noElement_28 : decode cc_Mo_noElement 28 = .ok (.iaload, 1) := by decide +kernel
theorem d_Mo_noElement_29 : decode cc_Mo_noElement 29 = .ok (.if_icmp .lt 7, 3) := by decide +kernel
theorem d_Mo_noElement_32 : decode cc_Mo_noElement 32 = .ok (.iconst 1, 1) := by decide +kernel
theorem d_Mo_noElement_33 : decode cc_Mo_noElement 33 = .ok (.goto 4, 3) := by decide +kernel
theorem d_Mo_noElement_36 : decode cc_Mo_noElement 36 = .ok (.iconst 0, 1) := by decide +kernel
theorem d_Mo_noElement_37 : decode cc_Mo_noElement 37 = .ok (.ireturn, 1) := by decide +kernel
theorem d_Mo_noJob_0 : decode cc_Mo_noJob 0 = .ok (.iload_n 1, 1) := by decide +kernel
theorem d_Mo_noJob_1 : decode cc_Mo_noJob 1 = .ok (.ifCond .lt 11, 3) := by decide +kernel
theorem d_Mo_noJob_4 : decode cc_Mo_noJob 4 = .ok (.iload_n 1, 1) := by decide +kernel
theorem d_Mo_noJob_5 : decode cc_Mo_noJob 5 = .ok (.aload_n 0, 1) := by decide +kernel
theorem d_Mo_noJob_6 : decode cc_Mo_noJob 6 = .ok (.getfield 103, 3) := by decide +kernel
theorem d_Mo_noJob_9 : decode cc_Mo_noJob 9 = .ok (.if_icmp .lt 7, 3) := by decide +kernel
theorem d_Mo_noJob_12 : decode cc_Mo_noJob 12 = .ok (.iconst 1, 1) := by decide +kernel
theorem d_Mo_noJob_13 : decode cc_Mo_noJob 13 = .ok (.goto 4, 3) := by decide +kernel
theorem d_Mo_noJob_16 : decode cc_Mo_noJob 16 = .ok (.iconst 0, 1) := by decide +kernel
theorem d_Mo_noJob_17 : decode cc_Mo_noJob 17 = .ok (.ireturn, 1) := by decide +kernel
theorem d_Mo_node_0 : decode cc_Mo_node 0 = .ok (.aload_n 0, 1) := by decide +kernel
theorem d_Mo_node_1 : decode cc_Mo_node 1 = .ok (.getfield 130, 3) := by decide +kernel
theorem d_Mo_node_4 : decode cc_Mo_node 4 = .ok (.istore 5, 2) := by decide +kernel
theorem d_Mo_node_6 : decode cc_Mo_node 6 = .ok (.aload_n 0, 1) := by decide +kernel
theorem d_Mo_node_7 : decode cc_Mo_node 7 = .ok (.dup, 1) := by decide +kernel
theorem d_Mo_node_8 : decode cc_Mo_node 8 = .ok (.getfield 130, 3) := by decide +kernel
theorem d_Mo_node_11 : decode cc_Mo_node 11 = .ok (.iconst 1, 1) := by decide +kernel
theorem d_Mo_node_12 : decode cc_Mo_node 12 = .ok (.iadd, 1) := by decide +kernel
theorem d_Mo_node_13 : decode cc_Mo_node 13 = .ok (.putfield 130, 3) := by decide +kernel
theorem d_Mo_node_16 : decode cc_Mo_node 16 = .ok (.aload_n 0, 1) := by decide +kernel
theorem d_Mo_node_17 : decode cc_Mo_node 17 = .ok (.getfield 47, 3) := by decide +kernel
theorem d_Mo_node_20 : decode cc_Mo_node 20 = .ok (.iload 5, 2) := by decide +kernel
theorem d_Mo_node_22 : decode cc_Mo_node 22 = .ok (.iload_n 1, 1) := by decide +kernel
theorem d_Mo_node_23 : decode cc_Mo_node 23 = .ok (.iastore, 1) := by decide +kernel
theorem d_Mo_node_24 : decode cc_Mo_node 24 = .ok (.aload_n 0, 1) := by decide +kernel
theorem d_Mo_node_25 : decode cc_Mo_node 25 = .ok (.getfield 50, 3) := by decide +kernel
theorem d_Mo_node_28 : decode cc_Mo_node 28 = .ok (.iload 5, 2) := by decide +kernel
theorem d_Mo_node_30 : decode cc_Mo_node 30 = .ok (.iload_n 2, 1) := by decide +kernel
theorem d_Mo_node_31 : decode cc_Mo_node 31 = .ok (.iastore, 1) := by decide +kernel
theorem d_Mo_node_32 : decode cc_Mo_node 32 = .ok (.aload_n 0, 1) := by decide +kernel
theorem d_Mo_node_33 : decode cc_Mo_node 33 = .ok (.getfield 53, 3) := by decide +kernel
theorem d_Mo_node_36 : decode cc_Mo_node 36 = .ok (.iload 5, 2) := by decide +kernel
theorem d_Mo_node_38 : decode cc_Mo_node 38 = .ok (.iload_n 3, 1) := by decide +kernel
theorem d_Mo_node_39 : decode cc_Mo_node 39 = .ok (.iastore, 1) := by decide +kernel
theorem d_Mo_node_40 : decode cc_Mo_node 40 = .ok (.aload_n 0, 1) := by decide +kernel
theorem d_Mo_node_41 : decode cc_Mo_node 41 = .ok (.getfield 56, 3) := by decide +kernel
theorem d_Mo_node_44 : decode cc_Mo_node 44 = .ok (.iload 5, 2) := by decide +kernel
theorem d_Mo_node_46 : decode cc_Mo_node 46 = .ok (.iload 4, 2) := by decide +kernel
theorem d_Mo_node_48 : decode cc_Mo_node 48 = .ok (.iastore, 1) := by decide +kernel
theorem d_Mo_node_49 : decode cc_Mo_node 49 = .ok (.aload_n 0, 1) := by decide +kernel
theorem d_Mo_node_50 : decode cc_Mo_node 50 = .ok (.getfield 59, 3) := by decide +kernel
theorem d_Mo_node_53 : decode cc_Mo_node 53 = .ok (.iload 5, 2) := by decide +kernel
theorem d_Mo_node_55 : decode cc_Mo_node 55 = .ok (.iconst (-1), 1) := by decide +kernel
theorem d_Mo_node_56 : decode cc_Mo_node 56 = .ok (.iastore, 1) := by decide +kernel
theorem d_Mo_node_57 : decode cc_Mo_node 57 = .ok (.aload_n 0, 1) := by decide +kernel
theorem d_Mo_node_58 : decode cc_Mo_node 58 = .ok (.getfield 62, 3) := by decide +kernel
theorem d_Mo_node_61 : decode cc_Mo_node 61 = .ok (.iload 5, 2) := by decide +kernel
theorem d_Mo_node_63 : decode cc_Mo_node 63 = .ok (.iconst 0, 1) := by decide +kernel
theorem d_Mo_node_64 : decode cc_Mo_node 64 = .ok (.iastore, 1) := by decide +kernel
theorem d_Mo_node_65 : decode cc_Mo_node 65 = .ok (.aload_n 0, 1) := by decide +kernel
theorem d_Mo_node_66 : decode cc_Mo_node 66 = .ok (.getfield 68, 3) := by decide +kernel
theorem d_Mo_node_69 : decode cc_Mo_node 69 = .ok (.iload 5, 2) := by decide +kernel
theorem d_Mo_node_71 : decode cc_Mo_node 71 = .ok (.lconst 0, 1) := by decide +kernel
theorem d_Mo_node_72 : decode cc_Mo_node 72 = .ok (.lastore, 1) := by decide +kernel
theorem d_Mo_node_73 : decode cc_Mo_node 73 = .ok (.iload 5, 2) := by decide +kernel
theorem d_Mo_node_75 : decode cc_Mo_node 75 = .ok (.ireturn, 1) := by decide +kernel
theorem d_Mo_order_0 : decode cc_Mo_order 0 = .ok (.iload_n 1, 1) := by decide +kernel
theorem d_Mo_order_1 : decode cc_Mo_order 1 = .ok (.iload_n 2, 1) := by decide +kernel
theorem d_Mo_order_2 : decode cc_Mo_order 2 = .ok (.iadd, 1) := by decide +kernel
theorem d_Mo_order_3 : decode cc_Mo_order 3 = .ok (.iconst 1, 1) := by decide +kernel
theorem d_Mo_order_4 : decode cc_Mo_order 4 = .ok (.iadd, 1) := by decide +kernel
theorem d_Mo_order_5 : decode cc_Mo_order 5 = .ok (.istore 4, 2) := by decide +kernel
theorem d_Mo_order_7 : decode cc_Mo_order 7 = .ok (.iload 4, 2) := by decide +kernel
theorem d_Mo_order_9 : decode cc_Mo_order 9 = .ok (.iload_n 1, 1) := by decide +kernel
theorem d_Mo_order_10 : decode cc_Mo_order 10 = .ok (.iload_n 3, 1) := by decide +kernel
theorem d_Mo_order_11 : decode cc_Mo_order 11 = .ok (.iadd, 1) := by decide +kernel
theorem d_Mo_order_12 : decode cc_Mo_order 12 = .ok (.if_icmp .ge 83, 3) := by decide +kernel
theorem d_Mo_order_15 : decode cc_Mo_order 15 = .ok (.iload 4, 2) := by decide +kernel
theorem d_Mo_order_17 : decode cc_Mo_order 17 = .ok (.istore 5, 2) := by decide +kernel
theorem d_Mo_order_19 : decode cc_Mo_order 19 = .ok (.iload 5, 2) := by decide +kernel
theorem d_Mo_order_21 : decode cc_Mo_order 21 = .ok (.iload_n 1, 1) := by decide +kernel
theorem d_Mo_order_22 : decode cc_Mo_order 22 = .ok (.iload_n 2, 1) := by decide +kernel
theorem d_Mo_order_23 : decode cc_Mo_order 23 = .ok (.iadd, 1) := by decide +kernel
theorem d_Mo_order_24 : decode cc_Mo_order 24 = .ok (.if_icmp .le 65, 3) := by decide +kernel
theorem d_Mo_order_27 : decode cc_Mo_order 27 = .ok (.aload_n 0, 1) := by decide +kernel
theorem d_Mo_order_28 : decode cc_Mo_order 28 = .ok (.getfield 16, 3) := by decide +kernel
theorem d_Mo_order_31 : decode cc_Mo_order 31 = .ok (.iload 5, 2) := by decide +kernel
theorem d_Mo_order_33 : decode cc_Mo_order 33 = .ok (.iconst 1, 1) := by decide +kernel
theorem d_Mo_order_34 : decode cc_Mo_order 34 = .ok (.isub, 1) := by decide +kernel
theorem d_Mo_order_35 : decode cc_Mo_order 35 = .ok (.laload, 1) := by decide +kernel
theorem d_Mo_order_36 : decode cc_Mo_order 36 = .ok (.aload_n 0, 1) := by decide +kernel
theorem d_Mo_order_37 : decode cc_Mo_order 37 = .ok (.getfield 16, 3) := by decide +kernel
theorem d_Mo_order_40 : decode cc_Mo_order 40 = .ok (.iload 5, 2) := by decide +kernel
theorem d_Mo_order_42 : decode cc_Mo_order 42 = .ok (.laload, 1) := by decide +kernel
theorem d_Mo_order_43 : decode cc_Mo_order 43 = .ok (.lcmp, 1) := by decide +kernel
theorem d_Mo_order_44 : decode cc_Mo_order 44 = .ok (.ifCond .le 45, 3) := by decide +kernel
theorem d_Mo_order_47 : decode cc_Mo_order 47 = .ok (.aload_n 0, 1) := by decide +kernel
theorem d_Mo_order_48 : decode cc_Mo_order 48 = .ok (.getfield 16, 3) := by decide +kernel
theorem d_Mo_order_51 : decode cc_Mo_order 51 = .ok (.iload 5, 2) := by decide +kernel
theorem d_Mo_order_53 : decode cc_Mo_order 53 = .ok (.laload, 1) := by decide +kernel
theorem d_Mo_order_54 : decode cc_Mo_order 54 = .ok (.lstore 6, 2) := by decide +kernel
theorem d_Mo_order_56 : decode cc_Mo_order 56 = .ok (.aload_n 0, 1) := by decide +kernel
theorem d_Mo_order_57 : decode cc_Mo_order 57 = .ok (.getfield 16, 3) := by decide +kernel
theorem d_Mo_order_60 : decode cc_Mo_order 60 = .ok (.iload 5, 2) := by decide +kernel
theorem d_Mo_order_62 : decode cc_Mo_order 62 = .ok (.aload_n 0, 1) := by decide +kernel
theorem d_Mo_order_63 : decode cc_Mo_order 63 = .ok (.getfield 16, 3) := by decide +kernel
theorem d_Mo_order_66 : decode cc_Mo_order 66 = .ok (.iload 5, 2) := by decide +kernel
theorem d_Mo_order_68 : decode cc_Mo_order 68 = .ok (.iconst 1, 1) := by decide +kernel
theorem d_Mo_order_69 : decode cc_Mo_order 69 = .ok (.isub, 1) := by decide +kernel
theorem d_Mo_order_70 : decode cc_Mo_order 70 = .ok (.laload, 1) := by decide +kernel
theorem d_Mo_order_71 : decode cc_Mo_order 71 = .ok (.lastore, 1) := by decide +kernel
theorem d_Mo_order_72 : decode cc_Mo_order 72 = .ok (.aload_n 0, 1) := by decide +kernel
theorem d_Mo_order_73 : decode cc_Mo_order 73 = .ok (.getfield 16, 3) := by decide +kernel
theorem d_Mo_order_76 : decode cc_Mo_order 76 = .ok (.iload 5, 2) := by decide +kernel
theorem d_Mo_order_78 : decode cc_Mo_order 78 = .ok (.iconst 1, 1) := by decide +kernel
theorem d_Mo_order_79 : decode cc_Mo_order 79 = .ok (.isub, 1) := by decide +kernel
theorem d_Mo_order_80 : decode cc_Mo_order 80 = .ok (.lload 6, 2) := by decide +kernel
theorem d_Mo_order_82 : decode cc_Mo_order 82 = .ok (.lastore, 1) := by decide +kernel
theorem d_Mo_order_83 : decode cc_Mo_order 83 = .ok (.iinc 5 (-1), 3) := by decide +kernel
theorem d_Mo_order_86 : decode cc_Mo_order 86 = .ok (.goto (-67), 3) := by decide +kernel
theorem d_Mo_order_89 : decode cc_Mo_order 89 = .ok (.iinc 4 1, 3) := by decide +kernel
theorem d_Mo_order_92 : decode cc_Mo_order 92 = .ok (.goto (-85), 3) := by decide +kernel
theorem d_Mo_order_95 : decode cc_Mo_order 95 = .ok (.return_, 1) := by decide +kernel
theorem d_Mo_perform_0 : decode cc_Mo_perform 0 = .ok (.aload_n 0, 1) := by decide +kernel
theorem d_Mo_perform_1 : decode cc_Mo_perform 1 = .ok (.getfield 47, 3) := by decide +kernel
theorem d_Mo_perform_4 : decode cc_Mo_perform 4 = .ok (.iload_n 1, 1) := by decide +kernel
theorem d_Mo_perform_5 : decode cc_Mo_perform 5 = .ok (.iaload, 1) := by decide +kernel
theorem d_Mo_perform_6 : decode cc_Mo_perform 6 = .ok (.istore_n 3, 1) := by decide +kernel
theorem d_Mo_perform_7 : decode cc_Mo_perform 7 = .ok (.aload_n 0, 1) := by decide +kernel
theorem d_Mo_perform_8 : decode cc_Mo_perform 8 = .ok (.getfield 38, 3) := by decide +kernel
theorem d_Mo_perform_11 : decode cc_Mo_perform 11 = .ok (.iload_n 3, 1) := by decide +kernel
theorem d_Mo_perform_12 : decode cc_Mo_perform 12 = .ok (.dup2, 1) := by decide +kernel
theorem d_Mo_perform_13 : decode cc_Mo_perform 13 = .ok (.iaload, 1) := by decide +kernel
theorem d_Mo_perform_14 : decode cc_Mo_perform 14 = .ok (.iconst 1, 1) := by decide +kernel
theorem d_Mo_perform_15 : decode cc_Mo_perform 15 = .ok (.iadd, 1) := by decide +kernel
theorem d_Mo_perform_16 : decode cc_Mo_perform 16 = .ok (.iastore, 1) := by decide +kernel
theorem d_Mo_perform_17 : decode cc_Mo_perform 17 = .ok (.aload_n 0, 1) := by decide +kernel
theorem d_Mo_perform_18 : decode cc_Mo_perform 18 = .ok (.getfield 77, 3) := by decide +kernel
theorem d_Mo_perform_21 : decode cc_Mo_perform 21 = .ok (.iload_n 2, 1) := by decide +kernel
theorem d_Mo_perform_22 : decode cc_Mo_perform 22 = .ok (.dup2, 1) := by decide +kernel
theorem d_Mo_perform_23 : decode cc_Mo_perform 23 = .ok (.iaload, 1) := by decide +kernel
theorem d_Mo_perform_24 : decode cc_Mo_perform 24 = .ok (.iconst 1, 1) := by decide +kernel
theorem d_Mo_perform_25 : decode cc_Mo_perform 25 = .ok (.iadd, 1) := by decide +kernel
theorem d_Mo_perform_26 : decode cc_Mo_perform 26 = .ok (.iastore, 1) := by decide +kernel
theorem d_Mo_perform_27 : decode cc_Mo_perform 27 = .ok (.aload_n 0, 1) := by decide +kernel
theorem d_Mo_perform_28 : decode cc_Mo_perform 28 = .ok (.getfield 44, 3) := by decide +kernel
theorem d_Mo_perform_31 : decode cc_Mo_perform 31 = .ok (.iload_n 3, 1) := by decide +kernel
theorem d_Mo_perform_32 : decode cc_Mo_perform 32 = .ok (.iaload, 1) := by decide +kernel
theorem d_Mo_perform_33 : decode cc_Mo_perform 33 = .ok (.iconst 1, 1) := by decide +kernel
theorem d_Mo_perform_34 : decode cc_Mo_perform 34 = .ok (.if_icmp .ne 31, 3) := by decide +kernel
theorem d_Mo_perform_37 : decode cc_Mo_perform 37 = .ok (.aload_n 0, 1) := by decide +kernel
theorem d_Mo_perform_38 : decode cc_Mo_perform 38 = .ok (.getfield 53, 3) := by decide +kernel
theorem d_Mo_perform_41 : decode cc_Mo_perform 41 = .ok (.iload_n 1, 1) := by decide +kernel
theorem d_Mo_perform_42 : decode cc_Mo_perform 42 = .ok (.iaload, 1) := by decide +kernel
theorem d_Mo_perform_43 : decode cc_Mo_perform 43 = .ok (.aload_n 0, 1) := by decide +kernel
theorem d_Mo_perform_44 : decode cc_Mo_perform 44 = .ok (.getfield 50, 3) := by decide +kernel
theorem d_Mo_perform_47 : decode cc_Mo_perform 47 = .ok (.iload_n 1, 1) := by decide +kernel
theorem d_Mo_perform_48 : decode cc_Mo_perform 48 = .ok (.iaload, 1) := by decide +kernel
theorem d_Mo_perform_49 : decode cc_Mo_perform 49 = .ok (.isub, 1) := by decide +kernel
theorem d_Mo_perform_50 : decode cc_Mo_perform 50 = .ok (.aload_n 0, 1) := by decide +kernel
theorem d_Mo_perform_51 : decode cc_Mo_perform 51 = .ok (.getfield 89, 3) := by decide +kernel
theorem d_Mo_perform_54 : decode cc_Mo_perform 54 = .ok (.if_icmp .le 7, 3) := by decide +kernel
theorem d_Mo_perform_57 : decode cc_Mo_perform 57 = .ok (.iconst 1, 1) := by decide +kernel
theorem d_Mo_perform_58 : decode cc_Mo_perform 58 = .ok (.goto 21, 3) := by decide +kernel
theorem d_Mo_perform_61 : decode cc_Mo_perform 61 = .ok (.iconst 0, 1) := by decide +kernel
theorem d_Mo_perform_62 : decode cc_Mo_perform 62 = .ok (.goto 17, 3) := by decide +kernel
theorem d_Mo_perform_65 : decode cc_Mo_perform 65 = .ok (.aload_n 0, 1) := by decide +kernel
theorem d_Mo_perform_66 : decode cc_Mo_perform 66 = .ok (.getfield 59, 3) := by decide +kernel
theorem d_Mo_perform_69 : decode cc_Mo_perform 69 = .ok (.iload_n 1, 1) := by decide +kernel
theorem d_Mo_perform_70 : decode cc_Mo_perform 70 = .ok (.iaload, 1) := by decide +kernel
theorem d_Mo_perform_71 : decode cc_Mo_perform 71 = .ok (.ifCond .lt 7, 3) := by decide +kernel
theorem d_Mo_perform_74 : decode cc_Mo_perform 74 = .ok (.iconst 1, 1) := by decide +kernel
theorem d_Mo_perform_75 : decode cc_Mo_perform 75 = .ok (.goto 4, 3) := by decide +kernel
theorem d_Mo_perform_78 : decode cc_Mo_perform 78 = .ok (.iconst 0, 1) := by decide +kernel
theorem d_Mo_perform_79 : decode cc_Mo_perform 79 = .ok (.istore 4, 2) := by decide +kernel
theorem d_Mo_perform_81 : decode cc_Mo_perform 81 = .ok (.iload 4, 2) := by decide +kernel
theorem d_Mo_perform_83 : decode cc_Mo_perform 83 = .ok (.ifCond .eq 12, 3) := by decide +kernel
theorem d_Mo_perform_86 : decode cc_Mo_perform 86 = .ok (.aload_n 0, 1) := by decide +kernel
theorem d_Mo_perform_87 : decode cc_Mo_perform 87 = .ok (.iload_n 1, 1) := by decide +kernel
theorem d_Mo_perform_88 : decode cc_Mo_perform 88 = .ok (.iload_n 2, 1) := by decide +kernel
theorem d_Mo_perform_89 : decode cc_Mo_perform 89 = .ok (.invokevirtual 174, 3) := by decide +kernel
theorem d_Mo_perform_92 : decode cc_Mo_perform 92 = .ok (.goto 17, 3) := by decide +kernel
theorem d_Mo_perform_95 : decode cc_Mo_perform 95 = .ok (.aload_n 0, 1) := by decide +kernel
theorem d_Mo_perform_96 : decode cc_Mo_perform 96 = .ok (.iload_n 1, 1) := by decide +kernel
theorem d_Mo_perform_97 : decode cc_Mo_perform 97 = .ok (.invokevirtual 177, 3) := by decide +kernel
theorem d_Mo_perform_100 : decode cc_Mo_perform 100 = .ok (.ifCond .eq 9, 3) := by decide +kernel
theorem d_Mo_perform_103 : decode cc_Mo_perform 103 = .ok (.aload_n 0, 1) := by decide +kernel
theorem d_Mo_perform_104 : decode cc_Mo_perform 104 = .ok (.iload_n 1, 1) := by decide +kernel
theorem d_Mo_perform_105 : decode cc_Mo_perform 105 = .ok (.iload_n 2, 1) := by decide +kernel
theorem d_Mo_perform_106 : decode cc_Mo_perform 106 = .ok (.invokevirtual 180, 3) := by decide +kernel
theorem d_Mo_perform_109 : decode cc_Mo_perform 109 = .ok (.return_, 1) := by decide +kernel
theorem d_Mo_pull_0 : decode cc_Mo_pull 0 = .ok (.aload_n 0, 1) := by decide +kernel
theorem d_Mo_pull_1 : decode cc_Mo_pull 1 = .ok (.getfield 71, 3) := by decide +kernel
theorem d_Mo_pull_4 : decode cc_Mo_pull 4 = .ok (.sipush 600, 3) := by decide +kernel
theorem d_Mo_pull_7 : decode cc_Mo_pull 7 = .ok (.iload_n 1, 1) := by decide +kernel
theorem d_Mo_pull_8 : decode cc_Mo_pull 8 = .ok (.imul, 1) := by decide +kernel
theorem d_Mo_pull_9 : decode cc_Mo_pull 9 = .ok (.iload_n 2, 1) := by decide +kernel
theorem d_Mo_pull_10 : decode cc_Mo_pull 10 = .ok (.iadd, 1) := by decide +kernel
theorem d_Mo_pull_11 : decode cc_Mo_pull 11 = .ok (.iaload, 1) := by decide +kernel
theorem d_Mo_pull_12 : decode cc_Mo_pull 12 = .ok (.istore_n 3, 1) := by decide +kernel
theorem d_Mo_pull_13 : decode cc_Mo_pull 13 = .ok (.aload_n 0, 1) := by decide +kernel
theorem d_Mo_pull_14 : decode cc_Mo_pull 14 = .ok (.getfield 74, 3) := by decide +kernel
theorem d_Mo_pull_17 : decode cc_Mo_pull 17 = .ok (.iload_n 1, 1) := by decide +kernel
theorem d_Mo_pull_18 : decode cc_Mo_pull 18 = .ok (.dup2, 1) := by decide +kernel
theorem d_Mo_pull_19 : decode cc_Mo_pull 19 = .ok (.iaload, 1) := by decide +kernel
theorem d_Mo_pull_20 : decode cc_Mo_pull 20 = .ok (.iconst 1, 1) := by decide +kernel
theorem d_Mo_pull_21 : decode cc_Mo_pull 21 = .ok (.isub, 1) := by decide +kernel
theorem d_Mo_pull_22 : decode cc_Mo_pull 22 = .ok (.iastore, 1) := by decide +kernel
theorem d_Mo_pull_23 : decode cc_Mo_pull 23 = .ok (.iload_n 2, 1) := by decide +kernel
theorem d_Mo_pull_24 : decode cc_Mo_pull 24 = .ok (.istore 4, 2) := by decide +kernel
theorem d_Mo_pull_26 : decode cc_Mo_pull 26 = .ok (.iload 4, 2) := by decide +kernel
theorem d_Mo_pull_28 : decode cc_Mo_pull 28 = .ok (.aload_n 0, 1) := by decide +kernel
theorem d_Mo_pull_29 : decode cc_Mo_pull 29 = .ok (.getfield 74, 3) := by decide +kernel
theorem d_Mo_pull_32 : decode cc_Mo_pull 32 = .ok (.iload_n 1, 1) := by decide +kernel
theorem d_Mo_pull_33 : decode cc_Mo_pull 33 = .ok (.iaload, 1) := by decide +kernel
theorem d_Mo_pull_34 : decode cc_Mo_pull 34 = .ok (.if_icmp .ge 37, 3) := by decide +kernel
theorem d_Mo_pull_37 : decode cc_Mo_pull 37 = .ok (.aload_n 0, 1) := by decide +kernel
theorem d_Mo_pull_38 : decode cc_Mo_pull 38 = .ok (.getfield 71, 3) := by decide +kernel
theorem d_Mo_pull_41 : decode cc_Mo_pull 41 = .ok (.sipush 600, 3) := by decide +kernel
theorem d_Mo_pull_44 : decode cc_Mo_pull 44 = .ok (.iload_n 1, 1) := by decide +kernel
theorem d_Mo_pull_45 : decode cc_Mo_pull 45 = .ok (.imul, 1) := by decide +kernel
theorem d_Mo_pull_46 : decode cc_Mo_pull 46 = .ok (.iload 4, 2) := by decide +kernel
theorem d_Mo_pull_48 : decode cc_Mo_pull 48 = .ok (.iadd, 1) := by decide +kernel
theorem d_Mo_pull_49 : decode cc_Mo_pull 49 = .ok (.aload_n 0, 1) := by decide +kernel
theorem d_Mo_pull_50 : decode cc_Mo_pull 50 = .ok (.getfield 71, 3) := by decide +kernel
theorem d_Mo_pull_53 : decode cc_Mo_pull 53 = .ok (.sipush 600, 3) := by decide +kernel
theorem d_Mo_pull_56 : decode cc_Mo_pull 56 = .ok (.iload_n 1, 1) := by decide +kernel
theorem d_Mo_pull_57 : decode cc_Mo_pull 57 = .ok (.imul, 1) := by decide +kernel
theorem d_Mo_pull_58 : decode cc_Mo_pull 58 = .ok (.iload 4, 2) := by decide +kernel
theorem d_Mo_pull_60 : decode cc_Mo_pull 60 = .ok (.iadd, 1) := by decide +kernel
theorem d_Mo_pull_61 : decode cc_Mo_pull 61 = .ok (.iconst 1, 1) := by decide +kernel
theorem d_Mo_pull_62 : decode cc_Mo_pull 62 = .ok (.iadd, 1) := by decide +kernel
theorem d_Mo_pull_63 : decode cc_Mo_pull 63 = .ok (.iaload, 1) := by decide +kernel
theorem d_Mo_pull_64 : decode cc_Mo_pull 64 = .ok (.iastore, 1) := by decide +kernel
theorem d_Mo_pull_65 : decode cc_Mo_pull 65 = .ok (.iinc 4 1, 3) := by decide +kernel
theorem d_Mo_pull_68 : decode cc_Mo_pull 68 = .ok (.goto (-42), 3) := by decide +kernel
theorem d_Mo_pull_71 : decode cc_Mo_pull 71 = .ok (.iload_n 3, 1) := by decide +kernel
theorem d_Mo_pull_72 : decode cc_Mo_pull 72 = .ok (.ireturn, 1) := by decide +kernel
theorem d_Mo_put_0 : decode cc_Mo_put 0 = .ok (.aload_n 0, 1) := by decide +kernel
theorem d_Mo_put_1 : decode cc_Mo_put 1 = .ok (.getfield 71, 3) := by decide +kernel
theorem d_Mo_put_4 : decode cc_Mo_put 4 = .ok (.sipush 600, 3) := by decide +kernel
theorem d_Mo_put_7 : decode cc_Mo_put 7 = .ok (.iload_n 1, 1) := by decide +kernel
theorem d_Mo_put_8 : decode cc_Mo_put 8 = .ok (.imul, 1) := by decide +kernel
theorem d_Mo_put_9 : decode cc_Mo_put 9 = .ok (.aload_n 0, 1) := by decide +kernel
theorem d_Mo_put_10 : decode cc_Mo_put 10 = .ok (.getfield 74, 3) := by decide +kernel
theorem d_Mo_put_13 : decode cc_Mo_put 13 = .ok (.iload_n 1, 1) := by decide +kernel
theorem d_Mo_put_14 : decode cc_Mo_put 14 = .ok (.iaload, 1) := by decide +kernel
theorem d_Mo_put_15 : decode cc_Mo_put 15 = .ok (.iadd, 1) := by decide +kernel
theorem d_Mo_put_16 : decode cc_Mo_put 16 = .ok (.iload_n 2, 1) := by decide +kernel
theorem d_Mo_put_17 : decode cc_Mo_put 17 = .ok (.iastore, 1) := by decide +kernel
theorem d_Mo_put_18 : decode cc_Mo_put 18 = .ok (.aload_n 0, 1) := by decide +kernel
theorem d_Mo_put_19 : decode cc_Mo_put 19 = .ok (.getfield 74, 3) := by decide +kernel
theorem d_Mo_put_22 : decode cc_Mo_put 22 = .ok (.iload_n 1, 1) := by decide +kernel
theorem d_Mo_put_23 : decode cc_Mo_put 23 = .ok (.dup2, 1) := by decide +kernel
theorem d_Mo_put_24 : decode cc_Mo_put 24 = .ok (.iaload, 1) := by decide +kernel
theorem d_Mo_put_25 : decode cc_Mo_put 25 = .ok (.iconst 1, 1) := by decide +kernel
theorem d_Mo_put_26 : decode cc_Mo_put 26 = .ok (.iadd, 1) := by decide +kernel
theorem d_Mo_put_27 : decode cc_Mo_put 27 = .ok (.iastore, 1) := by decide +kernel
theorem d_Mo_put_28 : decode cc_Mo_put 28 = .ok (.return_, 1) := by decide +kernel
theorem d_Mo_raise_0 : decode cc_Mo_raise 0 = .ok (.aload_n 0, 1) := by decide +kernel
theorem d_Mo_raise_1 : decode cc_Mo_raise 1 = .ok (.iload_n 1, 1) := by decide +kernel
theorem d_Mo_raise_2 : decode cc_Mo_raise 2 = .ok (.putfield 96, 3) := by decide +kernel
theorem d_Mo_raise_5 : decode cc_Mo_raise 5 = .ok (.iconst 0, 1) := by decide +kernel
theorem d_Mo_raise_6 : decode cc_Mo_raise 6 = .ok (.ireturn, 1) := by decide +kernel
theorem d_Mo_reduced_0 : decode cc_Mo_reduced 0 = .ok (.aload_n 0, 1) := by decide +kernel
theorem d_Mo_reduced_1 : decode cc_Mo_reduced 1 = .ok (.getfield 47, 3) := by decide +kernel
theorem d_Mo_reduced_4 : decode cc_Mo_reduced 4 = .ok (.iload_n 1, 1) := by decide +kernel
theorem d_Mo_reduced_5 : decode cc_Mo_reduced 5 = .ok (.iaload, 1) := by decide +kernel
theorem d_Mo_reduced_6 : decode cc_Mo_reduced 6 = .ok (.istore_n 2, 1) := by decide +kernel
theorem d_Mo_reduced_7 : decode cc_Mo_reduced 7 = .ok (.bipush 24, 2) := by decide +kernel
theorem d_Mo_reduced_9 : decode cc_Mo_reduced 9 = .ok (.aload_n 0, 1) := by decide +kernel
theorem d_Mo_reduced_10 : decode cc_Mo_reduced 10 = .ok (.getfield 23, 3) := by decide +kernel
theorem d_Mo_reduced_13 : decode cc_Mo_reduced 13 = .ok (.iload_n 2, 1) := by decide +kernel
theorem d_Mo_reduced_14 : decode cc_Mo_reduced 14 = .ok (.iaload, 1) := by decide +kernel
theorem d_Mo_reduced_15 : decode cc_Mo_reduced 15 = .ok (.imul, 1) := by decide +kernel
theorem d_Mo_reduced_16 : decode cc_Mo_reduced 16 = .ok (.istore_n 3, 1) := by decide +kernel
theorem d_Mo_reduced_17 : decode cc_Mo_reduced 17 = .ok (.aload_n 0, 1) := by decide +kernel
theorem d_Mo_reduced_18 : decode cc_Mo_reduced 18 = .ok (.getfield 16, 3) := by decide +kernel
theorem d_Mo_reduced_21 : decode cc_Mo_reduced 21 = .ok (.iload_n 3, 1) := by decide +kernel
theorem d_Mo_reduced_22 : decode cc_Mo_reduced 22 = .ok (.aload_n 0, 1) := by decide +kernel
theorem d_Mo_reduced_23 : decode cc_Mo_reduced 23 = .ok (.getfield 50, 3) := by decide +kernel
theorem d_Mo_reduced_26 : decode cc_Mo_reduced 26 = .ok (.iload_n 1, 1) := by decide +kernel
theorem d_Mo_reduced_27 : decode cc_Mo_reduced 27 = .ok (.iaload, 1) := by decide +kernel
theorem d_Mo_reduced_28 : decode cc_Mo_reduced 28 = .ok (.iadd, 1) := by decide +kernel
theorem d_Mo_reduced_29 : decode cc_Mo_reduced 29 = .ok (.laload, 1) := by decide +kernel
theorem d_Mo_reduced_30 : decode cc_Mo_reduced 30 = .ok (.lstore 4, 2) := by decide +kernel
