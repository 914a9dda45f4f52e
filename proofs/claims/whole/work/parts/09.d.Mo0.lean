theorem d_Mo_array_0 : decode cc_Mo_array 0 = .ok (.aload_n 0, 1) := by decide +kernel
theorem d_Mo_array_1 : decode cc_Mo_array 1 = .ok (.iconst 0, 1) := by decide +kernel
theorem d_Mo_array_2 : decode cc_Mo_array 2 = .ok (.putfield 96, 3) := by decide +kernel
theorem d_Mo_array_5 : decode cc_Mo_array 5 = .ok (.iload_n 1, 1) := by decide +kernel
theorem d_Mo_array_6 : decode cc_Mo_array 6 = .ok (.iconst 0, 1) := by decide +kernel
theorem d_Mo_array_7 : decode cc_Mo_array 7 = .ok (.iconst 3, 1) := by decide +kernel
theorem d_Mo_array_8 : decode cc_Mo_array 8 = .ok (.invokestatic 106, 3) := by decide +kernel
theorem d_Mo_array_11 : decode cc_Mo_array 11 = .ok (.ifCond .eq 22, 3) := by decide +kernel
theorem d_Mo_array_14 : decode cc_Mo_array 14 = .ok (.iload_n 2, 1) := by decide +kernel
theorem d_Mo_array_15 : decode cc_Mo_array 15 = .ok (.iconst 0, 1) := by decide +kernel
theorem d_Mo_array_16 : decode cc_Mo_array 16 = .ok (.iconst 5, 1) := by decide +kernel
theorem d_Mo_array_17 : decode cc_Mo_array 17 = .ok (.invokestatic 106, 3) := by decide +kernel
theorem d_Mo_array_20 : decode cc_Mo_array 20 = .ok (.ifCond .eq 13, 3) := by decide +kernel
theorem d_Mo_array_23 : decode cc_Mo_array 23 = .ok (.iload_n 3, 1) := by decide +kernel
theorem d_Mo_array_24 : decode cc_Mo_array 24 = .ok (.iconst 1, 1) := by decide +kernel
theorem d_Mo_array_25 : decode cc_Mo_array 25 = .ok (.bipush 24, 2) := by decide +kernel
theorem d_Mo_array_27 : decode cc_Mo_array 27 = .ok (.invokestatic 106, 3) := by decide +kernel
theorem d_Mo_array_30 : decode cc_Mo_array 30 = .ok (.ifCond .ne 9, 3) := by decide +kernel
theorem d_Mo_array_33 : decode cc_Mo_array 33 = .ok (.aload_n 0, 1) := by decide +kernel
theorem d_Mo_array_34 : decode cc_Mo_array 34 = .ok (.iconst 1, 1) := by decide +kernel
theorem d_Mo_array_35 : decode cc_Mo_array 35 = .ok (.invokevirtual 110, 3) := by decide +kernel
theorem d_Mo_array_38 : decode cc_Mo_array 38 = .ok (.ireturn, 1) := by decide +kernel
theorem d_Mo_array_39 : decode cc_Mo_array 39 = .ok (.aload_n 0, 1) := by decide +kernel
theorem d_Mo_array_40 : decode cc_Mo_array 40 = .ok (.iload_n 1, 1) := by decide +kernel
theorem d_Mo_array_41 : decode cc_Mo_array 41 = .ok (.invokevirtual 114, 3) := by decide +kernel
theorem d_Mo_array_44 : decode cc_Mo_array 44 = .ok (.ifCond .eq 9, 3) := by decide +kernel
theorem d_Mo_array_47 : decode cc_Mo_array 47 = .ok (.aload_n 0, 1) := by decide +kernel
theorem d_Mo_array_48 : decode cc_Mo_array 48 = .ok (.iconst 2, 1) := by decide +kernel
theorem d_Mo_array_49 : decode cc_Mo_array 49 = .ok (.invokevirtual 110, 3) := by decide +kernel
theorem d_Mo_array_52 : decode cc_Mo_array 52 = .ok (.ireturn, 1) := by decide +kernel
theorem d_Mo_array_53 : decode cc_Mo_array 53 = .ok (.aload_n 0, 1) := by decide +kernel
theorem d_Mo_array_54 : decode cc_Mo_array 54 = .ok (.getfield 7, 3) := by decide +kernel
theorem d_Mo_array_57 : decode cc_Mo_array 57 = .ok (.iload_n 1, 1) := by decide +kernel
theorem d_Mo_array_58 : decode cc_Mo_array 58 = .ok (.iload_n 2, 1) := by decide +kernel
theorem d_Mo_array_59 : decode cc_Mo_array 59 = .ok (.iastore, 1) := by decide +kernel
theorem d_Mo_array_60 : decode cc_Mo_array 60 = .ok (.aload_n 0, 1) := by decide +kernel
theorem d_Mo_array_61 : decode cc_Mo_array 61 = .ok (.getfield 13, 3) := by decide +kernel
theorem d_Mo_array_64 : decode cc_Mo_array 64 = .ok (.iload_n 1, 1) := by decide +kernel
theorem d_Mo_array_65 : decode cc_Mo_array 65 = .ok (.iload_n 3, 1) := by decide +kernel
theorem d_Mo_array_66 : decode cc_Mo_array 66 = .ok (.iastore, 1) := by decide +kernel
theorem d_Mo_array_67 : decode cc_Mo_array 67 = .ok (.iconst 0, 1) := by decide +kernel
theorem d_Mo_array_68 : decode cc_Mo_array 68 = .ok (.istore 4, 2) := by decide +kernel
theorem d_Mo_array_70 : decode cc_Mo_array 70 = .ok (.iload 4, 2) := by decide +kernel
theorem d_Mo_array_72 : decode cc_Mo_array 72 = .ok (.bipush 24, 2) := by decide +kernel
theorem d_Mo_array_74 : decode cc_Mo_array 74 = .ok (.if_icmp .ge 22, 3) := by decide +kernel
theorem d_Mo_array_77 : decode cc_Mo_array 77 = .ok (.aload_n 0, 1) := by decide +kernel
theorem d_Mo_array_78 : decode cc_Mo_array 78 = .ok (.getfield 16, 3) := by decide +kernel
theorem d_Mo_array_81 : decode cc_Mo_array 81 = .ok (.bipush 24, 2) := by decide +kernel
theorem d_Mo_array_83 : decode cc_Mo_array 83 = .ok (.iload_n 1, 1) := by decide +kernel
theorem d_Mo_array_84 : decode cc_Mo_array 84 = .ok (.imul, 1) := by decide +kernel
theorem d_Mo_array_85 : decode cc_Mo_array 85 = .ok (.iload 4, 2) := by decide +kernel
theorem d_Mo_array_87 : decode cc_Mo_array 87 = .ok (.iadd, 1) := by decide +kernel
theorem d_Mo_array_88 : decode cc_Mo_array 88 = .ok (.lconst 0, 1) := by decide +kernel
theorem d_Mo_array_89 : decode cc_Mo_array 89 = .ok (.lastore, 1) := by decide +kernel
theorem d_Mo_array_90 : decode cc_Mo_array 90 = .ok (.iinc 4 1, 3) := by decide +kernel
theorem d_Mo_array_93 : decode cc_Mo_array 93 = .ok (.goto (-23), 3) := by decide +kernel
theorem d_Mo_array_96 : decode cc_Mo_array 96 = .ok (.iload_n 3, 1) := by decide +kernel
theorem d_Mo_array_97 : decode cc_Mo_array 97 = .ok (.ireturn, 1) := by decide +kernel
theorem d_Mo_begin_0 : decode cc_Mo_begin 0 = .ok (.aload_n 0, 1) := by decide +kernel
theorem d_Mo_begin_1 : decode cc_Mo_begin 1 = .ok (.iconst 0, 1) := by decide +kernel
theorem d_Mo_begin_2 : decode cc_Mo_begin 2 = .ok (.putfield 96, 3) := by decide +kernel
theorem d_Mo_begin_5 : decode cc_Mo_begin 5 = .ok (.iload_n 2, 1) := by decide +kernel
theorem d_Mo_begin_6 : decode cc_Mo_begin 6 = .ok (.iconst 0, 1) := by decide +kernel
theorem d_Mo_begin_7 : decode cc_Mo_begin 7 = .ok (.iconst 3, 1) := by decide +kernel
theorem d_Mo_begin_8 : decode cc_Mo_begin 8 = .ok (.invokestatic 106, 3) := by decide +kernel
theorem d_Mo_begin_11 : decode cc_Mo_begin 11 = .ok (.ifCond .eq 12, 3) := by decide +kernel
theorem d_Mo_begin_14 : decode cc_Mo_begin 14 = .ok (.aload_n 0, 1) := by decide +kernel
theorem d_Mo_begin_15 : decode cc_Mo_begin 15 = .ok (.getfield 7, 3) := by decide +kernel
theorem d_Mo_begin_18 : decode cc_Mo_begin 18 = .ok (.iload_n 2, 1) := by decide +kernel
theorem d_Mo_begin_19 : decode cc_Mo_begin 19 = .ok (.iaload, 1) := by decide +kernel
theorem d_Mo_begin_20 : decode cc_Mo_begin 20 = .ok (.ifCond .ge 9, 3) := by decide +kernel
theorem d_Mo_begin_23 : decode cc_Mo_begin 23 = .ok (.aload_n 0, 1) := by decide +kernel
theorem d_Mo_begin_24 : decode cc_Mo_begin 24 = .ok (.iconst 1, 1) := by decide +kernel
theorem d_Mo_begin_25 : decode cc_Mo_begin 25 = .ok (.invokevirtual 110, 3) := by decide +kernel
theorem d_Mo_begin_28 : decode cc_Mo_begin 28 = .ok (.ireturn, 1) := by decide +kernel
theorem d_Mo_begin_29 : decode cc_Mo_begin 29 = .ok (.iload_n 1, 1) := by decide +kernel
theorem d_Mo_begin_30 : decode cc_Mo_begin 30 = .ok (.iconst 0, 1) := by decide +kernel
theorem d_Mo_begin_31 : decode cc_Mo_begin 31 = .ok (.iconst 5, 1) := by decide +kernel
theorem d_Mo_begin_32 : decode cc_Mo_begin 32 = .ok (.invokestatic 106, 3) := by decide +kernel
theorem d_Mo_begin_35 : decode cc_Mo_begin 35 = .ok (.ifCond .eq 45, 3) := by decide +kernel
theorem d_Mo_begin_38 : decode cc_Mo_begin 38 = .ok (.iload_n 3, 1) := by decide +kernel
theorem d_Mo_begin_39 : decode cc_Mo_begin 39 = .ok (.iconst 0, 1) := by decide +kernel
theorem d_Mo_begin_40 : decode cc_Mo_begin 40 = .ok (.aload_n 0, 1) := by decide +kernel
theorem d_Mo_begin_41 : decode cc_Mo_begin 41 = .ok (.getfield 93, 3) := by decide +kernel
theorem d_Mo_begin_44 : decode cc_Mo_begin 44 = .ok (.iconst 1, 1) := by decide +kernel
theorem d_Mo_begin_45 : decode cc_Mo_begin 45 = .ok (.isub, 1) := by decide +kernel
theorem d_Mo_begin_46 : decode cc_Mo_begin 46 = .ok (.invokestatic 106, 3) := by decide +kernel
theorem d_Mo_begin_49 : decode cc_Mo_begin 49 = .ok (.ifCond .eq 31, 3) := by decide +kernel
theorem d_Mo_begin_52 : decode cc_Mo_begin 52 = .ok (.iload 4, 2) := by decide +kernel
theorem d_Mo_begin_54 : decode cc_Mo_begin 54 = .ok (.sipush (-1000), 3) := by decide +kernel
theorem d_Mo_begin_57 : decode cc_Mo_begin 57 = .ok (.sipush 1000, 3) := by decide +kernel
theorem d_Mo_begin_60 : decode cc_Mo_begin 60 = .ok (.invokestatic 106, 3) := by decide +kernel
theorem d_Mo_begin_63 : decode cc_Mo_begin 63 = .ok (.ifCond .eq 17, 3) := by decide +kernel
theorem d_Mo_begin_66 : decode cc_Mo_begin 66 = .ok (.iload 5, 2) := by decide +kernel
theorem d_Mo_begin_68 : decode cc_Mo_begin 68 = .ok (.sipush (-1000), 3) := by decide +kernel
theorem d_Mo_begin_71 : decode cc_Mo_begin 71 = .ok (.sipush 1000, 3) := by decide +kernel
theorem d_Mo_begin_74 : decode cc_Mo_begin 74 = .ok (.invokestatic 106, 3) := by decide +kernel
theorem d_Mo_begin_77 : decode cc_Mo_begin 77 = .ok (.ifCond .ne 9, 3) := by decide +kernel
theorem d_Mo_begin_80 : decode cc_Mo_begin 80 = .ok (.aload_n 0, 1) := by decide +kernel
theorem d_Mo_begin_81 : decode cc_Mo_begin 81 = .ok (.iconst 2, 1) := by decide +kernel
theorem d_Mo_begin_82 : decode cc_Mo_begin 82 = .ok (.invokevirtual 110, 3) := by decide +kernel
theorem d_Mo_begin_85 : decode cc_Mo_begin 85 = .ok (.ireturn, 1) := by decide +kernel
theorem d_Mo_begin_86 : decode cc_Mo_begin 86 = .ok (.aload_n 0, 1) := by decide +kernel
theorem d_Mo_begin_87 : decode cc_Mo_begin 87 = .ok (.iload_n 2, 1) := by decide +kernel
theorem d_Mo_begin_88 : decode cc_Mo_begin 88 = .ok (.invokevirtual 114, 3) := by decide +kernel
theorem d_Mo_begin_91 : decode cc_Mo_begin 91 = .ok (.ifCond .ne 12, 3) := by decide +kernel
theorem d_Mo_begin_94 : decode cc_Mo_begin 94 = .ok (.aload_n 0, 1) := by decide +kernel
theorem d_Mo_begin_95 : decode cc_Mo_begin 95 = .ok (.getfield 103, 3) := by decide +kernel
theorem d_Mo_begin_98 : decode cc_Mo_begin 98 = .ok (.bipush 12, 2) := by decide +kernel
theorem d_Mo_begin_100 : decode cc_Mo_begin 100 = .ok (.if_icmp .ne 9, 3) := by decide +kernel
theorem d_Mo_begin_103 : decode cc_Mo_begin 103 = .ok (.aload_n 0, 1) := by decide +kernel
theorem d_Mo_begin_104 : decode cc_Mo_begin 104 = .ok (.iconst 3, 1) := by decide +kernel
theorem d_Mo_begin_105 : decode cc_Mo_begin 105 = .ok (.invokevirtual 110, 3) := by decide +kernel
theorem d_Mo_begin_108 : decode cc_Mo_begin 108 = .ok (.ireturn, 1) := by decide +kernel
theorem d_Mo_begin_109 : decode cc_Mo_begin 109 = .ok (.aload_n 0, 1) := by decide +kernel
theorem d_Mo_begin_110 : decode cc_Mo_begin 110 = .ok (.getfield 103, 3) := by decide +kernel
theorem d_Mo_begin_113 : decode cc_Mo_begin 113 = .ok (.istore 6, 2) := by decide +kernel
theorem d_Mo_begin_115 : decode cc_Mo_begin 115 = .ok (.aload_n 0, 1) := by decide +kernel
theorem d_Mo_begin_116 : decode cc_Mo_begin 116 = .ok (.dup, 1) := by decide +kernel
theorem d_Mo_begin_117 : decode cc_Mo_begin 117 = .ok (.getfield 103, 3) := by decide +kernel
theorem d_Mo_begin_120 : decode cc_Mo_begin 120 = .ok (.iconst 1, 1) := by decide +kernel
theorem d_Mo_begin_121 : decode cc_Mo_begin 121 = .ok (.iadd, 1) := by decide +kernel
theorem d_Mo_begin_122 : decode cc_Mo_begin 122 = .ok (.putfield 103, 3) := by decide +kernel
theorem d_Mo_begin_125 : decode cc_Mo_begin 125 = .ok (.aload_n 0, 1) := by decide +kernel
theorem d_Mo_begin_126 : decode cc_Mo_begin 126 = .ok (.getfield 20, 3) := by decide +kernel
theorem d_Mo_begin_129 : decode cc_Mo_begin 129 = .ok (.iload 6, 2) := by decide +kernel
theorem d_Mo_begin_131 : decode cc_Mo_begin 131 = .ok (.iload_n 1, 1) := by decide +kernel
theorem d_Mo_begin_132 : decode cc_Mo_begin 132 = .ok (.iastore, 1) := by decide +kernel
theorem d_Mo_begin_133 : decode cc_Mo_begin 133 = .ok (.aload_n 0, 1) := by decide +kernel
theorem d_Mo_begin_134 : decode cc_Mo_begin 134 = .ok (.getfield 23, 3) := by decide +kernel
theorem d_Mo_begin_137 : decode cc_Mo_begin 137 = .ok (.iload 6, 2) := by decide +kernel
theorem d_Mo_begin_139 : decode cc_Mo_begin 139 = .ok (.iload_n 2, 1) := by decide +kernel
theorem d_Mo_begin_140 : decode cc_Mo_begin 140 = .ok (.iastore, 1) := by decide +kernel
theorem d_Mo_begin_141 : decode cc_Mo_begin 141 = .ok (.aload_n 0, 1) := by decide +kernel
theorem d_Mo_begin_142 : decode cc_Mo_begin 142 = .ok (.getfield 26, 3) := by decide +kernel
theorem d_Mo_begin_145 : decode cc_Mo_begin 145 = .ok (.iload 6, 2) := by decide +kernel
theorem d_Mo_begin_147 : decode cc_Mo_begin 147 = .ok (.iload 4, 2) := by decide +kernel
theorem d_Mo_begin_149 : decode cc_Mo_begin 149 = .ok (.iastore, 1) := by decide +kernel
theorem d_Mo_begin_150 : decode cc_Mo_begin 150 = .ok (.aload_n 0, 1) := by decide +kernel
theorem d_Mo_begin_151 : decode cc_Mo_begin 151 = .ok (.getfield 29, 3) := by decide +kernel
theorem d_Mo_begin_154 : decode cc_Mo_begin 154 = .ok (.iload 6, 2) := by decide +kernel
theorem d_Mo_begin_156 : decode cc_Mo_begin 156 = .ok (.iload 5, 2) := by decide +kernel
theorem d_Mo_begin_158 : decode cc_Mo_begin 158 = .ok (.iastore, 1) := by decide +kernel
theorem d_Mo_begin_159 : decode cc_Mo_begin 159 = .ok (.aload_n 0, 1) := by decide +kernel
theorem d_Mo_begin_160 : decode cc_Mo_begin 160 = .ok (.getfield 35, 3) := by decide +kernel
theorem d_Mo_begin_163 : decode cc_Mo_begin 163 = .ok (.iload 6, 2) := by decide +kernel
theorem d_Mo_begin_165 : decode cc_Mo_begin 165 = .ok (.iconst (-1), 1) := by decide +kernel
theorem d_Mo_begin_166 : decode cc_Mo_begin 166 = .ok (.iastore, 1) := by decide +kernel
theorem d_Mo_begin_167 : decode cc_Mo_begin 167 = .ok (.aload_n 0, 1) := by decide +kernel
theorem d_Mo_begin_168 : decode cc_Mo_begin 168 = .ok (.getfield 44, 3) := by decide +kernel
theorem d_Mo_begin_171 : decode cc_Mo_begin 171 = .ok (.iload 6, 2) := by decide +kernel
theorem d_Mo_begin_173 : decode cc_Mo_begin 173 = .ok (.iconst 1, 1) := by decide +kernel
theorem d_Mo_begin_174 : decode cc_Mo_begin 174 = .ok (.iastore, 1) := by decide +kernel
theorem d_Mo_begin_175 : decode cc_Mo_begin 175 = .ok (.aload_n 0, 1) := by decide +kernel
theorem d_Mo_begin_176 : decode cc_Mo_begin 176 = .ok (.getfield 41, 3) := by decide +kernel
theorem d_Mo_begin_179 : decode cc_Mo_begin 179 = .ok (.iload 6, 2) := by decide +kernel
theorem d_Mo_begin_181 : decode cc_Mo_begin 181 = .ok (.aload_n 0, 1) := by decide +kernel
theorem d_Mo_begin_182 : decode cc_Mo_begin 182 = .ok (.iload 6, 2) := by decide +kernel
theorem d_Mo_begin_184 : decode cc_Mo_begin 184 = .ok (.iconst 0, 1) := by decide +kernel
theorem d_Mo_begin_185 : decode cc_Mo_begin 185 = .ok (.aload_n 0, 1) := by decide +kernel
theorem d_Mo_begin_186 : decode cc_Mo_begin 186 = .ok (.getfield 13, 3) := by decide +kernel
theorem d_Mo_begin_189 : decode cc_Mo_begin 189 = .ok (.iload_n 2, 1) := by decide +kernel
theorem d_Mo_begin_190 : decode cc_Mo_begin 190 = .ok (.iaload, 1) := by decide +kernel
theorem d_Mo_begin_191 : decode cc_Mo_begin 191 = .ok (.iconst (-1), 1) := by decide +kernel
theorem d_Mo_begin_192 : decode cc_Mo_begin 192 = .ok (.invokevirtual 133, 3) := by decide +kernel
theorem d_Mo_begin_195 : decode cc_Mo_begin 195 = .ok (.iastore, 1) := by decide +kernel
theorem d_Mo_begin_196 : decode cc_Mo_begin 196 = .ok (.aload_n 0, 1) := by decide +kernel
theorem d_Mo_begin_197 : decode cc_Mo_begin 197 = .ok (.iload_n 3, 1) := by decide +kernel
theorem d_Mo_begin_198 : decode cc_Mo_begin 198 = .ok (.aload_n 0, 1) := by decide +kernel
theorem d_Mo_begin_199 : decode cc_Mo_begin 199 = .ok (.getfield 41, 3) := by decide +kernel
theorem d_Mo_begin_202 : decode cc_Mo_begin 202 = .ok (.iload 6, 2) := by decide +kernel
theorem d_Mo_begin_204 : decode cc_Mo_begin 204 = .ok (.iaload, 1) := by decide +kernel
theorem d_Mo_begin_205 : decode cc_Mo_begin 205 = .ok (.invokevirtual 137, 3) := by decide +kernel
theorem d_Mo_begin_208 : decode cc_Mo_begin 208 = .ok (.iload 6, 2) := by decide +kernel
theorem d_Mo_begin_210 : decode cc_Mo_begin 210 = .ok (.ireturn, 1) := by decide +kernel
theorem d_Mo_busy_0 : decode cc_Mo_busy 0 = .ok (.iconst 0, 1) := by decide +kernel
theorem d_Mo_busy_1 : decode cc_Mo_busy 1 = .ok (.istore_n 2, 1) := by decide +kernel
theorem d_Mo_busy_2 : decode cc_Mo_busy 2 = .ok (.iload_n 2, 1) := by decide +kernel
theorem d_Mo_busy_3 : decode cc_Mo_busy 3 = .ok (.aload_n 0, 1) := by decide +kernel
theorem d_Mo_busy_4 : decode cc_Mo_busy 4 = .ok (.getfield 103, 3) := by decide +kernel
theorem d_Mo_busy_7 : decode cc_Mo_busy 7 = .ok (.if_icmp .ge 30, 3) := by decide +kernel
theorem d_Mo_busy_10 : decode cc_Mo_busy 10 = .ok (.aload_n 0, 1) := by decide +kernel
theorem d_Mo_busy_11 : decode cc_Mo_busy 11 = .ok (.getfield 23, 3) := by decide +kernel
theorem d_Mo_busy_14 : decode cc_Mo_busy 14 = .ok (.iload_n 2, 1) := by decide +kernel
theorem d_Mo_busy_15 : decode cc_Mo_busy 15 = .ok (.iaload, 1) := by decide +kernel
theorem d_Mo_busy_16 : decode cc_Mo_busy 16 = .ok (.iload_n 1, 1) := by decide +kernel
theorem d_Mo_busy_17 : decode cc_Mo_busy 17 = .ok (.if_icmp .ne 14, 3) := by decide +kernel
theorem d_Mo_busy_20 : decode cc_Mo_busy 20 = .ok (.aload_n 0, 1) := by decide +kernel
theorem d_Mo_busy_21 : decode cc_Mo_busy 21 = .ok (.getfield 32, 3) := by decide +kernel
theorem d_Mo_busy_24 : decode cc_Mo_busy 24 = .ok (.iload_n 2, 1) := by decide +kernel
theorem d_Mo_busy_25 : decode cc_Mo_busy 25 = .ok (.iaload, 1) := by decide +kernel
theorem d_Mo_busy_26 : decode cc_Mo_busy 26 = .ok (.ifCond .ne 5, 3) := by decide +kernel
theorem d_Mo_busy_29 : decode cc_Mo_busy 29 = .ok (.iconst 1, 1) := by decide +kernel
theorem d_Mo_busy_30 : decode cc_Mo_busy 30 = .ok (.ireturn, 1) := by decide +kernel
theorem d_Mo_busy_31 : decode cc_Mo_busy 31 = .ok (.iinc 2 1, 3) := by decide +kernel
theorem d_Mo_busy_34 : decode cc_Mo_busy 34 = .ok (.goto (-32), 3) := by decide +kernel
theorem d_Mo_busy_37 : decode cc_Mo_busy 37 = .ok (.iconst 0, 1) := by decide +kernel
theorem d_Mo_busy_38 : decode cc_Mo_busy 38 = .ok (.ireturn, 1) := by decide +kernel
theorem d_Mo_cancel_0 : decode cc_Mo_cancel 0 = .ok (.aload_n 0, 1) := by decide +kernel
theorem d_Mo_cancel_1 : decode cc_Mo_cancel 1 = .ok (.iconst 0, 1) := by decide +kernel
theorem d_Mo_cancel_2 : decode cc_Mo_cancel 2 = .ok (.putfield 96, 3) := by decide +kernel
theorem d_Mo_cancel_5 : decode cc_Mo_cancel 5 = .ok (.aload_n 0, 1) := by decide +kernel
theorem d_Mo_cancel_6 : decode cc_Mo_cancel 6 = .ok (.iload_n 1, 1) := by decide +kernel
theorem d_Mo_cancel_7 : decode cc_Mo_cancel 7 = .ok (.invokevirtual 196, 3) := by decide +kernel
theorem d_Mo_cancel_10 : decode cc_Mo_cancel 10 = .ok (.ifCond .eq 9, 3) := by decide +kernel
theorem d_Mo_cancel_13 : decode cc_Mo_cancel 13 = .ok (.aload_n 0, 1) := by decide +kernel
theorem d_Mo_cancel_14 : decode cc_Mo_cancel 14 = .ok (.iconst 1, 1) := by decide +kernel
theorem d_Mo_cancel_15 : decode cc_Mo_cancel 15 = .ok (.invokevirtual 110, 3) := by decide +kernel
theorem d_Mo_cancel_18 : decode cc_Mo_cancel 18 = .ok (.ireturn, 1) := by decide +kernel
theorem d_Mo_cancel_19 : decode cc_Mo_cancel 19 = .ok (.aload_n 0, 1) := by decide +kernel
theorem d_Mo_cancel_20 : decode cc_Mo_cancel 20 = .ok (.getfield 32, 3) := by decide +kernel
theorem d_Mo_cancel_23 : decode cc_Mo_cancel 23 = .ok (.iload_n 1, 1) := by decide +kernel
theorem d_Mo_cancel_24 : decode cc_Mo_cancel 24 = .ok (.iaload, 1) := by decide +kernel
theorem d_Mo_cancel_25 : decode cc_Mo_cancel 25 = .ok (.ifCond .eq 9, 3) := by decide +kernel
theorem d_Mo_cancel_28 : decode cc_Mo_cancel 28 = .ok (.aload_n 0, 1) := by decide +kernel
theorem d_Mo_cancel_29 : decode cc_Mo_cancel 29 = .ok (.iconst 2, 1) := by decide +kernel
theorem d_Mo_cancel_30 : decode cc_Mo_cancel 30 = .ok (.invokevirtual 110, 3) := by decide +kernel
theorem d_Mo_cancel_33 : decode cc_Mo_cancel 33 = .ok (.ireturn, 1) := by decide +kernel
theorem d_Mo_cancel_34 : decode cc_Mo_cancel 34 = .ok (.aload_n 0, 1) := by decide +kernel
theorem d_Mo_cancel_35 : decode cc_Mo_cancel 35 = .ok (.iload_n 1, 1) := by decide +kernel
theorem d_Mo_cancel_36 : decode cc_Mo_cancel 36 = .ok (.invokevirtual 199, 3) := by decide +kernel
theorem d_Mo_cancel_39 : decode cc_Mo_cancel 39 = .ok (.istore_n 2, 1) := by decide +kernel
theorem d_Mo_cancel_40 : decode cc_Mo_cancel 40 = .ok (.aload_n 0, 1) := by decide +kernel
theorem d_Mo_cancel_41 : decode cc_Mo_cancel 41 = .ok (.iload_n 1, 1) := by decide +kernel
theorem d_Mo_cancel_42 : decode cc_Mo_cancel 42 = .ok (.iconst (-1), 1) := by decide +kernel
theorem d_Mo_cancel_43 : decode cc_Mo_cancel 43 = .ok (.invokevirtual 165, 3) := by decide +kernel
theorem d_Mo_cancel_46 : decode cc_Mo_cancel 46 = .ok (.iload_n 2, 1) := by decide +kernel
theorem d_Mo_cancel_47 : decode cc_Mo_cancel 47 = .ok (.ireturn, 1) := by decide +kernel
theorem d_Mo_count_0 : decode cc_Mo_count 0 = .ok (.aload_n 0, 1) := by decide +kernel
theorem d_Mo_count_1 : decode cc_Mo_count 1 = .ok (.iconst 0, 1) := by decide +kernel
theorem d_Mo_count_2 : decode cc_Mo_count 2 = .ok (.putfield 96, 3) := by decide +kernel
theorem d_Mo_count_5 : decode cc_Mo_count 5 = .ok (.iload_n 1, 1) := by decide +kernel
theorem d_Mo_count_6 : decode cc_Mo_count 6 = .ok (.tableswitch 50 0 3 #[30, 35, 40, 45], 30) := by decide +kernel
theorem d_Mo_count_36 : decode cc_Mo_count 36 = .ok (.aload_n 0, 1) := by decide +kernel
theorem d_Mo_count_37 : decode cc_Mo_count 37 = .ok (.getfield 103, 3) := by decide +kernel
theorem d_Mo_count_40 : decode cc_Mo_count 40 = .ok (.ireturn, 1) := by decide +kernel
theorem d_Mo_count_41 : decode cc_Mo_count 41 = .ok (.aload_n 0, 1) := by decide +kernel
theorem d_Mo_count_42 : decode cc_Mo_count 42 = .ok (.getfield 186, 3) := by decide +kernel
theorem d_Mo_count_45 : decode cc_Mo_count 45 = .ok (.ireturn, 1) := by decide +kernel
theorem d_Mo_count_46 : decode cc_Mo_count 46 = .ok (.aload_n 0, 1) := by decide +kernel
theorem d_Mo_count_47 : decode cc_Mo_count 47 = .ok (.getfield 183, 3) := by decide +kernel
theorem d_Mo_count_50 : decode cc_Mo_count 50 = .ok (.ireturn, 1) := by decide +kernel
theorem d_Mo_count_51 : decode cc_Mo_count 51 = .ok (.aload_n 0, 1) := by decide +kernel
theorem d_Mo_count_52 : decode cc_Mo_count 52 = .ok (.getfield 93, 3) := by decide +kernel
theorem d_Mo_count_55 : decode cc_Mo_count 55 = .ok (.ireturn, 1) := by decide +kernel
theorem d_Mo_count_56 : decode cc_Mo_count 56 = .ok (.aload_n 0, 1) := by decide +kernel
theorem d_Mo_count_57 : decode cc_Mo_count 57 = .ok (.iconst 1, 1) := by decide +kernel
theorem d_Mo_count_58 : decode cc_Mo_count 58 = .ok (.invokevirtual 110, 3) := by decide +kernel
theorem d_Mo_count_61 : decode cc_Mo_count 61 = .ok (.ireturn, 1) := by decide +kernel
theorem d_Mo_down_0 : decode cc_Mo_down 0 = .ok (.lload_n 0, 1) := by decide +kernel
theorem d_Mo_down_1 : decode cc_Mo_down 1 = .ok (.lload_n 2, 1) := by decide +kernel
theorem d_Mo_down_2 : decode cc_Mo_down 2 = .ok (.ldiv, 1) := by decide +kernel
theorem d_Mo_down_3 : decode cc_Mo_down 3 = .ok (.lload_n 0, 1) := by decide +kernel
theorem d_Mo_down_4 : decode cc_Mo_down 4 = .ok (.lload_n 2, 1) := by decide +kernel
theorem d_Mo_down_5 : decode cc_Mo_down 5 = .ok (.lrem, 1) := by decide +kernel
theorem d_Mo_down_6 : decode cc_Mo_down 6 = .ok (.lconst 0, 1) := by decide +kernel
theorem d_Mo_down_7 : decode cc_Mo_down 7 = .ok (.lcmp, 1) := by decide +kernel
theorem d_Mo_down_8 : decode cc_Mo_down 8 = .ok (.ifCond .eq 32, 3) := by decide +kernel
theorem d_Mo_down_11 : decode cc_Mo_down 11 = .ok (.lload_n 0, 1) := by decide +kernel
theorem d_Mo_down_12 : decode cc_Mo_down 12 = .ok (.lconst 0, 1) := by decide +kernel
theorem d_Mo_down_13 : decode cc_Mo_down 13 = .ok (.lcmp, 1) := by decide +kernel
theorem d_Mo_down_14 : decode cc_Mo_down 14 = .ok (.ifCond .ge 7, 3) := by decide +kernel
theorem d_Mo_down_17 : decode cc_Mo_down 17 = .ok (.iconst 1, 1) := by decide +kernel
theorem d_Mo_down_18 : decode cc_Mo_down 18 = .ok (.goto 4, 3) := by decide +kernel
theorem d_Mo_down_21 : decode cc_Mo_down 21 = .ok (.iconst 0, 1) := by decide +kernel
theorem d_Mo_down_22 : decode cc_Mo_down 22 = .ok (.lload_n 2, 1) := by decide +kernel
theorem d_Mo_down_23 : decode cc_Mo_down 23 = .ok (.lconst 0, 1) := by decide +kernel
theorem d_Mo_down_24 : decode cc_Mo_down 24 = .ok (.lcmp, 1) := by decide +kernel
theorem d_Mo_down_25 : decode cc_Mo_down 25 = .ok (.ifCond .ge 7, 3) := by decide +kernel
theorem d_Mo_down_28 : decode cc_Mo_down 28 = .ok (.iconst 1, 1) := by decide +kernel
theorem d_Mo_down_29 : decode cc_Mo_down 29 = .ok (.goto 4, 3) := by decide +kernel
theorem d_Mo_down_32 : decode cc_Mo_down 32 = .ok (.iconst 0, 1) := by decide +kernel
theorem d_Mo_down_33 : decode cc_Mo_down 33 = .ok (.if_icmp .eq 7, 3) := by decide +kernel
theorem d_Mo_down_36 : decode cc_Mo_down 36 = .ok (.iconst 1, 1) := by decide +kernel
theorem d_Mo_down_37 : decode cc_Mo_down 37 = .ok (.goto 4, 3) := by decide +kernel
theorem d_Mo_down_40 : decode cc_Mo_down 40 = .ok (.iconst 0, 1) := by decide +kernel
theorem d_Mo_down_41 : decode cc_Mo_down 41 = .ok (.i2l, 1) := by decide +kernel
theorem d_Mo_down_42 : decode cc_Mo_down 42 = .ok (.lsub, 1) := by decide +kernel
theorem d_Mo_down_43 : decode cc_Mo_down 43 = .ok (.lreturn, 1) := by decide +kernel
theorem d_Mo_end_0 : decode cc_Mo_end 0 = .ok (.aload_n 0, 1) := by decide +kernel
theorem d_Mo_end_1 : decode cc_Mo_end 1 = .ok (.getfield 32, 3) := by decide +kernel
theorem d_Mo_end_4 : decode cc_Mo_end 4 = .ok (.iload_n 1, 1) := by decide +kernel
theorem d_Mo_end_5 : decode cc_Mo_end 5 = .ok (.iconst 2, 1) := by decide +kernel
theorem d_Mo_end_6 : decode cc_Mo_end 6 = .ok (.iastore, 1) := by decide +kernel
theorem d_Mo_end_7 : decode cc_Mo_end 7 = .ok (.aload_n 0, 1) := by decide +kernel
theorem d_Mo_end_8 : decode cc_Mo_end 8 = .ok (.getfield 35, 3) := by decide +kernel
theorem d_Mo_end_11 : decode cc_Mo_end 11 = .ok (.iload_n 1, 1) := by decide +kernel
theorem d_Mo_end_12 : decode cc_Mo_end 12 = .ok (.iload_n 2, 1) := by decide +kernel
theorem d_Mo_end_13 : decode cc_Mo_end 13 = .ok (.iastore, 1) := by decide +kernel
theorem d_Mo_end_14 : decode cc_Mo_end 14 = .ok (.iconst 0, 1) := by decide +kernel
theorem d_Mo_end_15 : decode cc_Mo_end 15 = .ok (.istore_n 3, 1) := by decide +kernel
theorem d_Mo_end_16 : decode cc_Mo_end 16 = .ok (.iload_n 3, 1) := by decide +kernel
theorem d_Mo_end_17 : decode cc_Mo_end 17 = .ok (.aload_n 0, 1) := by decide +kernel
theorem d_Mo_end_18 : decode cc_Mo_end 18 = .ok (.getfield 93, 3) := by decide +kernel
theorem d_Mo_end_21 : decode cc_Mo_end 21 = .ok (.if_icmp .ge 62, 3) := by decide +kernel
theorem d_Mo_end_24 : decode cc_Mo_end 24 = .ok (.iconst 0, 1) := by decide +kernel
theorem d_Mo_end_25 : decode cc_Mo_end 25 = .ok (.istore 4, 2) := by decide +kernel
theorem d_Mo_end_27 : decode cc_Mo_end 27 = .ok (.iload 4, 2) := by decide +kernel
theorem d_Mo_end_29 : decode cc_Mo_end 29 = .ok (.aload_n 0, 1) := by decide +kernel
theorem d_Mo_end_30 : decode cc_Mo_end 30 = .ok (.getfield 74, 3) := by decide +kernel
theorem d_Mo_end_33 : decode cc_Mo_end 33 = .ok (.iload_n 3, 1) := by decide +kernel
theorem d_Mo_end_34 : decode cc_Mo_end 34 = .ok (.iaload, 1) := by decide +kernel
theorem d_Mo_end_35 : decode cc_Mo_end 35 = .ok (.if_icmp .ge 42, 3) := by decide +kernel
theorem d_Mo_end_38 : decode cc_Mo_end 38 = .ok (.aload_n 0, 1) := by decide +kernel
theorem d_Mo_end_39 : decode cc_Mo_end 39 = .ok (.getfield 47, 3) := by decide +kernel
theorem d_Mo_end_42 : decode cc_Mo_end 42 = .ok (.aload_n 0, 1) := by decide +kernel
theorem d_Mo_end_43 : decode cc_Mo_end 43 = .ok (.getfield 71, 3) := by decide +kernel
theorem d_Mo_end_46 : decode cc_Mo_end 46 = .ok (.sipush 600, 3) := by decide +kernel
theorem d_Mo_end_49 : decode cc_Mo_end 49 = .ok (.iload_n 3, 1) := by decide +kernel
theorem d_Mo_end_50 : decode cc_Mo_end 50 = .ok (.imul, 1) := by decide +kernel
theorem d_Mo_end_51 : decode cc_Mo_end 51 = .ok (.iload 4, 2) := by decide +kernel
theorem d_Mo_end_53 : decode cc_Mo_end 53 = .ok (.iadd, 1) := by decide +kernel
theorem d_Mo_end_54 : decode cc_Mo_end 54 = .ok (.iaload, 1) := by decide +kernel
theorem d_Mo_end_55 : decode cc_Mo_end 55 = .ok (.iaload, 1) := by decide +kernel
theorem d_Mo_end_56 : decode cc_Mo_end 56 = .ok (.iload_n 1, 1) := by decide +kernel
theorem d_Mo_end_57 : decode cc_Mo_end 57 = .ok (.if_icmp .ne 14, 3) := by decide +kernel
theorem d_Mo_end_60 : decode cc_Mo_end 60 = .ok (.aload_n 0, 1) := by decide +kernel
theorem d_Mo_end_61 : decode cc_Mo_end 61 = .ok (.iload_n 3, 1) := by decide +kernel
theorem d_Mo_end_62 : decode cc_Mo_end 62 = .ok (.iload 4, 2) := by decide +kernel
theorem d_Mo_end_64 : decode cc_Mo_end 64 = .ok (.invokevirtual 126, 3) := by decide +kernel
theorem d_Mo_end_67 : decode cc_Mo_end 67 = .ok (.pop, 1) := by decide +kernel
theorem d_Mo_end_68 : decode cc_Mo_end 68 = .ok (.goto (-41), 3) := by decide +kernel
theorem d_Mo_end_71 : decode cc_Mo_end 71 = .ok (.iinc 4 1, 3) := by decide +kernel
theorem d_Mo_end_74 : decode cc_Mo_end 74 = .ok (.goto (-47), 3) := by decide +kernel
theorem d_Mo_end_77 : decode cc_Mo_end 77 = .ok (.iinc 3 1, 3) := by decide +kernel
theorem d_Mo_end_80 : decode cc_Mo_end 80 = .ok (.goto (-64), 3) := by decide +kernel
theorem d_Mo_end_83 : decode cc_Mo_end 83 = .ok (.return_, 1) := by decide +kernel
theorem d_Mo_finished_0 : decode cc_Mo_finished 0 = .ok (.iload_n 1, 1) := by decide +kernel
theorem d_Mo_finished_1 : decode cc_Mo_finished 1 = .ok (.istore_n 3, 1) := by decide +kernel
theorem d_Mo_finished_2 : decode cc_Mo_finished 2 = .ok (.aload_n 0, 1) := by decide +kernel
theorem d_Mo_finished_3 : decode cc_Mo_finished 3 = .ok (.getfield 47, 3) := by decide +kernel
theorem d_Mo_finished_6 : decode cc_Mo_finished 6 = .ok (.iload_n 1, 1) := by decide +kernel
theorem d_Mo_finished_7 : decode cc_Mo_finished 7 = .ok (.iaload, 1) := by decide +kernel
theorem d_Mo_finished_8 : decode cc_Mo_finished 8 = .ok (.istore 4, 2) := by decide +kernel
theorem d_Mo_finished_10 : decode cc_Mo_finished 10 = .ok (.aload_n 0, 1) := by decide +kernel
theorem d_Mo_finished_11 : decode cc_Mo_finished 11 = .ok (.getfield 56, 3) := by decide +kernel
theorem d_Mo_finished_14 : decode cc_Mo_finished 14 = .ok (.iload_n 3, 1) := by decide +kernel
theorem d_Mo_finished_15 : decode cc_Mo_finished 15 = .ok (.iaload, 1) := by decide +kernel
theorem d_Mo_finished_16 : decode cc_Mo_finished 16 = .ok (.ifCond .lt 129, 3) := by decide +kernel
theorem d_Mo_finished_19 : decode cc_Mo_finished 19 = .ok (.aload_n 0, 1) := by decide +kernel
theorem d_Mo_finished_20 : decode cc_Mo_finished 20 = .ok (.getfield 56, 3) := by decide +kernel
theorem d_Mo_finished_23 : decode cc_Mo_finished 23 = .ok (.iload_n 3, 1) := by decide +kernel
theorem d_Mo_finished_24 : decode cc_Mo_finished 24 = .ok (.iaload, 1) := by decide +kernel
theorem d_Mo_finished_25 : decode cc_Mo_finished 25 = .ok (.istore_n 3, 1) := by decide +kernel
theorem d_Mo_finished_26 : decode cc_Mo_finished 26 = .ok (.aload_n 0, 1) := by decide +kernel
theorem d_Mo_finished_27 : decode cc_Mo_finished 27 = .ok (.getfield 62, 3) := by decide +kernel
theorem d_Mo_finished_30 : decode cc_Mo_finished 30 = .ok (.iload_n 3, 1) := by decide +kernel
theorem d_Mo_finished_31 : decode cc_Mo_finished 31 = .ok (.dup2, 1) := by decide +kernel
theorem d_Mo_finished_32 : decode cc_Mo_finished 32 = .ok (.iaload, 1) := by decide +kernel
theorem d_Mo_finished_33 : decode cc_Mo_finished 33 = .ok (.iconst 1, 1) := by decide +kernel
theorem d_Mo_finished_34 : decode cc_Mo_finished 34 = .ok (.iadd, 1) := by decide +kernel
theorem d_Mo_finished_35 : decode cc_Mo_finished 35 = .ok (.iastore, 1) := by decide +kernel
theorem d_Mo_finished_36 : decode cc_Mo_finished 36 = .ok (.aload_n 0, 1) := by decide +kernel
theorem d_Mo_finished_37 : decode cc_Mo_finished 37 = .ok (.getfield 62, 3) := by decide +kernel
theorem d_Mo_finished_40 : decode cc_Mo_finished 40 = .ok (.iload_n 3, 1) := by decide +kernel
theorem d_Mo_finished_41 : decode cc_Mo_finished 41 = .ok (.iaload, 1) := by decide +kernel
theorem d_Mo_finished_42 : decode cc_Mo_finished 42 = .ok (.iconst 2, 1) := by decide +kernel
theorem d_Mo_finished_43 : decode cc_Mo_finished 43 = .ok (.if_icmp .ge 4, 3) := by decide +kernel
theorem d_Mo_finished_46 : decode cc_Mo_finished 46 = .ok (.return_, 1) := by decide +kernel
theorem d_Mo_finished_47 : decode cc_Mo_finished 47 = .ok (.aload_n 0, 1) := by decide +kernel
theorem d_Mo_finished_48 : decode cc_Mo_finished 48 = .ok (.getfield 44, 3) := by decide +kernel
theorem d_Mo_finished_51 : decode cc_Mo_finished 51 = .ok (.iload 4, 2) := by decide +kernel
theorem d_Mo_finished_53 : decode cc_Mo_finished 53 = .ok (.iaload, 1) := by decide +kernel
theorem d_Mo_finished_54 : decode cc_Mo_finished 54 = .ok (.iconst 1, 1) := by decide +kernel
theorem d_Mo_finished_55 : decode cc_Mo_finished 55 = .ok (.if_icmp .ne 50, 3) := by decide +kernel
theorem d_Mo_finished_58 : decode cc_Mo_finished 58 = .ok (.aload_n 0, 1) := by decide +kernel
theorem d_Mo_finished_59 : decode cc_Mo_finished 59 = .ok (.getfield 20, 3) := by decide +kernel
theorem d_Mo_finished_62 : decode cc_Mo_finished 62 = .ok (.iload 4, 2) := by decide +kernel
theorem d_Mo_finished_64 : decode cc_Mo_finished 64 = .ok (.iaload, 1) := by decide +kernel
theorem d_Mo_finished_65 : decode cc_Mo_finished 65 = .ok (.iconst 3, 1) := by decide +kernel
theorem d_Mo_finished_66 : decode cc_Mo_finished 66 = .ok (.if_icmp .ge 39, 3) := by decide +kernel
theorem d_Mo_finished_69 : decode cc_Mo_finished 69 = .ok (.aload_n 0, 1) := by decide +kernel
theorem d_Mo_finished_70 : decode cc_Mo_finished 70 = .ok (.getfield 65, 3) := by decide +kernel
theorem d_Mo_finished_73 : decode cc_Mo_finished 73 = .ok (.iload_n 3, 1) := by decide +kernel
theorem d_Mo_finished_74 : decode cc_Mo_finished 74 = .ok (.aload_n 0, 1) := by decide +kernel
theorem d_Mo_finished_75 : decode cc_Mo_finished 75 = .ok (.iload 4, 2) := by decide +kernel
theorem d_Mo_finished_77 : decode cc_Mo_finished 77 = .ok (.aload_n 0, 1) := by decide +kernel
theorem d_Mo_finished_78 : decode cc_Mo_finished 78 = .ok (.getfield 65, 3) := by decide +kernel
theorem d_Mo_finished_81 : decode cc_Mo_finished 81 = .ok (.aload_n 0, 1) := by decide +kernel
theorem d_Mo_finished_82 : decode cc_Mo_finished 82 = .ok (.getfield 59, 3) := by decide +kernel
theorem d_Mo_finished_85 : decode cc_Mo_finished 85 = .ok (.iload_n 3, 1) := by decide +kernel
theorem d_Mo_finished_86 : decode cc_Mo_finished 86 = .ok (.iaload, 1) := by decide +kernel
theorem d_Mo_finished_87 : decode cc_Mo_finished 87 = .ok (.laload, 1) := by decide +kernel
theorem d_Mo_finished_88 : decode cc_Mo_finished 88 = .ok (.aload_n 0, 1) := by decide +kernel
theorem d_Mo_finished_89 : decode cc_Mo_finished 89 = .ok (.getfield 65, 3) := by decide +kernel
theorem d_Mo_finished_92 : decode cc_Mo_finished 92 = .ok (.aload_n 0, 1) := by decide +kernel
theorem d_Mo_finished_93 : decode cc_Mo_finished 93 = .ok (.getfield 59, 3) := by decide +kernel
theorem d_Mo_finished_96 : decode cc_Mo_finished 96 = .ok (.iload_n 3, 1) := by decide +kernel
theorem d_Mo_finished_97 : decode cc_Mo_finished 97 = .ok (.iaload, 1) := by decide +kernel
theorem d_Mo_finished_98 : decode cc_Mo_finished 98 = .ok (.iconst 1, 1) := by decide +kernel
theorem d_Mo_finished_99 : decode cc_Mo_finished 99 = .ok (.iadd, 1) := by decide +kernel
theorem d_Mo_finished_100 : decode cc_Mo_finished 100 = .ok (.laload, 1) := by decide +kernel
theorem d_Mo_finished_101 : decode cc_Mo_finished 101 = .ok (.invokevirtual 149, 3) := by decide +kernel
theorem d_Mo_finished_104 : decode cc_Mo_finished 104 = .ok (.lastore, 1) := by decide +kernel
theorem d_Mo_finished_105 : decode cc_Mo_finished 105 = .ok (.aload_n 0, 1) := by decide +kernel
theorem d_Mo_finished_106 : decode cc_Mo_finished 106 = .ok (.getfield 20, 3) := by decide +kernel
theorem d_Mo_finished_109 : decode cc_Mo_finished 109 = .ok (.iload 4, 2) := by decide +kernel
theorem d_Mo_finished_111 : decode cc_Mo_finished 111 = .ok (.iaload, 1) := by decide +kernel
theorem d_Mo_finished_112 : decode cc_Mo_finished 112 = .ok (.iconst 3, 1) := by decide +kernel
theorem d_Mo_finished_113 : decode cc_Mo_finished 113 = .ok (.if_icmp .ne (-103), 3) := by decide +kernel
theorem d_Mo_finished_116 : decode cc_Mo_finished 116 = .ok (.aload_n 0, 1) := by decide +kernel
theorem d_Mo_finished_117 : decode cc_Mo_finished 117 = .ok (.bipush 24, 2) := by decide +kernel
theorem d_Mo_finished_119 : decode cc_Mo_finished 119 = .ok (.aload_n 0, 1) := by decide +kernel
theorem d_Mo_finished_120 : decode cc_Mo_finished 120 = .ok (.getfield 23, 3) := by decide +kernel
theorem d_Mo_finished_123 : decode cc_Mo_finished 123 = .ok (.iload 4, 2) := by decide +kernel
theorem d_Mo_finished_125 : decode cc_Mo_finished 125 = .ok (.iaload, 1) := by decide +kernel
theorem d_Mo_finished_126 : decode cc_Mo_finished 126 = .ok (.imul, 1) := by decide +kernel
theorem d_Mo_finished_127 : decode cc_Mo_finished 127 = .ok (.aload_n 0, 1) := by decide +kernel
theorem d_Mo_finished_128 : decode cc_Mo_finished 128 = .ok (.getfield 50, 3) := by decide +kernel
theorem d_Mo_finished_131 : decode cc_Mo_finished 131 = .ok (.iload_n 3, 1) := by decide +kernel
theorem d_Mo_finished_132 : decode cc_Mo_finished 132 = .ok (.iaload, 1) := by decide +kernel
theorem d_Mo_finished_133 : decode cc_Mo_finished 133 = .ok (.aload_n 0, 1) := by decide +kernel
theorem d_Mo_finished_134 : decode cc_Mo_finished 134 = .ok (.getfield 53, 3) := by decide +kernel
theorem d_Mo_finished_137 : decode cc_Mo_finished 137 = .ok (.iload_n 3, 1) := by decide +kernel
theorem d_Mo_finished_138 : decode cc_Mo_finished 138 = .ok (.iaload, 1) := by decide +kernel
theorem d_Mo_finished_139 : decode cc_Mo_finished 139 = .ok (.invokevirtual 161, 3) := by decide +kernel
theorem d_Mo_finished_142 : decode cc_Mo_finished 142 = .ok (.goto (-132), 3) := by decide +kernel
theorem d_Mo_finished_145 : decode cc_Mo_finished 145 = .ok (.aload_n 0, 1) := by decide +kernel
theorem d_Mo_finished_146 : decode cc_Mo_finished 146 = .ok (.getfield 20, 3) := by decide +kernel
theorem d_Mo_finished_149 : decode cc_Mo_finished 149 = .ok (.iload 4, 2) := by decide +kernel
theorem d_Mo_finished_151 : decode cc_Mo_finished 151 = .ok (.iaload, 1) := by decide +kernel
theorem d_Mo_finished_152 : decode cc_Mo_finished 152 = .ok (.iconst 2, 1) := by decide +kernel
theorem d_Mo_finished_153 : decode cc_Mo_finished 153 = .ok (.if_icmp .ne 14, 3) := by decide +kernel
theorem d_Mo_finished_156 : decode cc_Mo_finished 156 = .ok (.aload_n 0, 1) := by decide +kernel
theorem d_Mo_finished_157 : decode cc_Mo_finished 157 = .ok (.getfield 44, 3) := by decide +kernel
theorem d_Mo_finished_160 : decode cc_Mo_finished 160 = .ok (.iload 4, 2) := by decide +kernel
theorem d_Mo_finished_162 : decode cc_Mo_finished 162 = .ok (.iaload, 1) := by decide +kernel
theorem d_Mo_finished_163 : decode cc_Mo_finished 163 = .ok (.iconst 2, 1) := by decide +kernel
theorem d_Mo_finished_164 : decode cc_Mo_finished 164 = .ok (.if_icmp .ne 12, 3) := by decide +kernel
theorem d_Mo_finished_167 : decode cc_Mo_finished 167 = .ok (.aload_n 0, 1) := by decide +kernel
theorem d_Mo_finished_168 : decode cc_Mo_finished 168 = .ok (.getfield 32, 3) := by decide +kernel
theorem d_Mo_finished_171 : decode cc_Mo_finished 171 = .ok (.iload 4, 2) := by decide +kernel
theorem d_Mo_finished_173 : decode cc_Mo_finished 173 = .ok (.iconst 1, 1) := by decide +kernel
theorem d_Mo_finished_174 : decode cc_Mo_finished 174 = .ok (.iastore, 1) := by decide +kernel
theorem d_Mo_finished_175 : decode cc_Mo_finished 175 = .ok (.return_, 1) := by decide +kernel
theorem d_Mo_finished_176 : decode cc_Mo_finished 176 = .ok (.aload_n 0, 1) := by decide +kernel
theorem d_Mo_finished_177 : decode cc_Mo_finished 177 = .ok (.getfield 44, 3) := by decide +kernel
theorem d_Mo_finished_180 : decode cc_Mo_finished 180 = .ok (.iload 4, 2) := by decide +kernel
theorem d_Mo_finished_182 : decode cc_Mo_finished 182 = .ok (.iconst 2, 1) := by decide +kernel
theorem d_Mo_finished_183 : decode cc_Mo_finished 183 = .ok (.iastore, 1) := by decide +kernel
theorem d_Mo_finished_184 : decode cc_Mo_finished 184 = .ok (.aload_n 0, 1) := by decide +kernel
theorem d_Mo_finished_185 : decode cc_Mo_finished 185 = .ok (.getfield 68, 3) := by decide +kernel
theorem d_Mo_finished_188 : decode cc_Mo_finished 188 = .ok (.iload_n 3, 1) := by decide +kernel
theorem d_Mo_finished_189 : decode cc_Mo_finished 189 = .ok (.lconst 0, 1) := by decide +kernel
theorem d_Mo_finished_190 : decode cc_Mo_finished 190 = .ok (.lastore, 1) := by decide +kernel
theorem d_Mo_finished_191 : decode cc_Mo_finished 191 = .ok (.aload_n 0, 1) := by decide +kernel
theorem d_Mo_finished_192 : decode cc_Mo_finished 192 = .ok (.iload_n 2, 1) := by decide +kernel
theorem d_Mo_finished_193 : decode cc_Mo_finished 193 = .ok (.iload_n 3, 1) := by decide +kernel
theorem d_Mo_finished_194 : decode cc_Mo_finished 194 = .ok (.invokevirtual 137, 3) := by decide +kernel
theorem d_Mo_finished_197 : decode cc_Mo_finished 197 = .ok (.return_, 1) := by decide +kernel
theorem d_Mo_fork_0 : decode cc_Mo_fork 0 = .ok (.aload_n 0, 1) := by decide +kernel
theorem d_Mo_fork_1 : decode cc_Mo_fork 1 = .ok (.getfield 47, 3) := by decide +kernel
theorem d_Mo_fork_4 : decode cc_Mo_fork 4 = .ok (.iload_n 1, 1) := by decide +kernel
theorem d_Mo_fork_5 : decode cc_Mo_fork 5 = .ok (.iaload, 1) := by decide +kernel
theorem d_Mo_fork_6 : decode cc_Mo_fork 6 = .ok (.istore_n 3, 1) := by decide +kernel
theorem d_Mo_fork_7 : decode cc_Mo_fork 7 = .ok (.aload_n 0, 1) := by decide +kernel
theorem d_Mo_fork_8 : decode cc_Mo_fork 8 = .ok (.getfield 50, 3) := by decide +kernel
theorem d_Mo_fork_11 : decode cc_Mo_fork 11 = .ok (.iload_n 1, 1) := by decide +kernel
theorem d_Mo_fork_12 : decode cc_Mo_fork 12 = .ok (.iaload, 1) := by decide +kernel
theorem d_Mo_fork_13 : decode cc_Mo_fork 13 = .ok (.aload_n 0, 1) := by decide +kernel
theorem d_Mo_fork_14 : decode cc_Mo_fork 14 = .ok (.getfield 53, 3) := by decide +kernel
theorem d_Mo_fork_17 : decode cc_Mo_fork 17 = .ok (.iload_n 1, 1) := by decide +kernel
theorem d_Mo_fork_18 : decode cc_Mo_fork 18 = .ok (.iaload, 1) := by decide +kernel
theorem d_Mo_fork_19 : decode cc_Mo_fork 19 = .ok (.iadd, 1) := by decide +kernel
theorem d_Mo_fork_20 : decode cc_Mo_fork 20 = .ok (.iconst 2, 1) := by decide +kernel
theorem d_Mo_fork_21 : decode cc_Mo_fork 21 = .ok (.idiv, 1) := by decide +kernel
theorem d_Mo_fork_22 : decode cc_Mo_fork 22 = .ok (.istore 4, 2) := by decide +kernel
theorem d_Mo_fork_24 : decode cc_Mo_fork 24 = .ok (.aload_n 0, 1) := by decide +kernel
theorem d_Mo_fork_25 : decode cc_Mo_fork 25 = .ok (.getfield 44, 3) := by decide +kernel
theorem d_Mo_fork_28 : decode cc_Mo_fork 28 = .ok (.iload_n 3, 1) := by decide +kernel
theorem d_Mo_fork_29 : decode cc_Mo_fork 29 = .ok (.iaload, 1) := by decide +kernel
theorem d_Mo_fork_30 : decode cc_Mo_fork 30 = .ok (.iconst 1, 1) := by decide +kernel
theorem d_Mo_fork_31 : decode cc_Mo_fork 31 = .ok (.if_icmp .ne 41, 3) := by decide +kernel
theorem d_Mo_fork_34 : decode cc_Mo_fork 34 = .ok (.aload_n 0, 1) := by decide +kernel
theorem d_Mo_fork_35 : decode cc_Mo_fork 35 = .ok (.getfield 59, 3) := by decide +kernel
theorem d_Mo_fork_38 : decode cc_Mo_fork 38 = .ok (.iload_n 1, 1) := by decide +kernel
theorem d_Mo_fork_39 : decode cc_Mo_fork 39 = .ok (.aload_n 0, 1) := by decide +kernel
theorem d_Mo_fork_40 : decode cc_Mo_fork 40 = .ok (.iload_n 3, 1) := by decide +kernel
theorem d_Mo_fork_41 : decode cc_Mo_fork 41 = .ok (.aload_n 0, 1) := by decide +kernel
theorem d_Mo_fork_42 : decode cc_Mo_fork 42 = .ok (.getfield 50, 3) := by decide +kernel
theorem d_Mo_fork_45 : decode cc_Mo_fork 45 = .ok (.iload_n 1, 1) := by decide +kernel
theorem d_Mo_fork_46 : decode cc_Mo_fork 46 = .ok (.iaload, 1) := by decide +kernel
theorem d_Mo_fork_47 : decode cc_Mo_fork 47 = .ok (.iload 4, 2) := by decide +kernel
theorem d_Mo_fork_49 : decode cc_Mo_fork 49 = .ok (.iload_n 1, 1) := by decide +kernel
theorem d_Mo_fork_50 : decode cc_Mo_fork 50 = .ok (.invokevirtual 133, 3) := by decide +kernel
theorem d_Mo_fork_53 : decode cc_Mo_fork 53 = .ok (.iastore, 1) := by decide +kernel
theorem d_Mo_fork_54 : decode cc_Mo_fork 54 = .ok (.aload_n 0, 1) := by decide +kernel
theorem d_Mo_fork_55 : decode cc_Mo_fork 55 = .ok (.iload_n 3, 1) := by decide +kernel
theorem d_Mo_fork_56 : decode cc_Mo_fork 56 = .ok (.iload 4, 2) := by decide +kernel
theorem d_Mo_fork_58 : decode cc_Mo_fork 58 = .ok (.aload_n 0, 1) := by decide +kernel
theorem d_Mo_fork_59 : decode cc_Mo_fork 59 = .ok (.getfield 53, 3) := by decide +kernel
theorem d_Mo_fork_62 : decode cc_Mo_fork 62 = .ok (.iload_n 1, 1) := by decide +kernel
theorem d_Mo_fork_63 : decode cc_Mo_fork 63 = .ok (.iaload, 1) := by decide +kernel
theorem d_Mo_fork_64 : decode cc_Mo_fork 64 = .ok (.iload_n 1, 1) := by decide +kernel
theorem d_Mo_fork_65 : decode cc_Mo_fork 65 = .ok (.invokevirtual 133, 3) := by decide +kernel
theorem d_Mo_fork_68 : decode cc_Mo_fork 68 = .ok (.pop, 1) := by decide +kernel
theorem d_Mo_fork_69 : decode cc_Mo_fork 69 = .ok (.goto 55, 3) := by decide +kernel
theorem d_Mo_fork_72 : decode cc_Mo_fork 72 = .ok (.aload_n 0, 1) := by decide +kernel
theorem d_Mo_fork_73 : decode cc_Mo_fork 73 = .ok (.getfield 68, 3) := by decide +kernel
theorem d_Mo_fork_76 : decode cc_Mo_fork 76 = .ok (.aload_n 0, 1) := by decide +kernel
theorem d_Mo_fork_77 : decode cc_Mo_fork 77 = .ok (.getfield 59, 3) := by decide +kernel
theorem d_Mo_fork_80 : decode cc_Mo_fork 80 = .ok (.iload_n 1, 1) := by decide +kernel
theorem d_Mo_fork_81 : decode cc_Mo_fork 81 = .ok (.iaload, 1) := by decide +kernel
theorem d_Mo_fork_82 : decode cc_Mo_fork 82 = .ok (.aload_n 0, 1) := by decide +kernel
theorem d_Mo_fork_83 : decode cc_Mo_fork 83 = .ok (.getfield 68, 3) := by decide +kernel
theorem d_Mo_fork_86 : decode cc_Mo_fork 86 = .ok (.iload_n 1, 1) := by decide +kernel
theorem d_Mo_fork_87 : decode cc_Mo_fork 87 = .ok (.laload, 1) := by decide +kernel
theorem d_Mo_fork_88 : decode cc_Mo_fork 88 = .ok (.lastore, 1) := by decide +kernel
theorem d_Mo_fork_89 : decode cc_Mo_fork 89 = .ok (.aload_n 0, 1) := by decide +kernel
theorem d_Mo_fork_90 : decode cc_Mo_fork 90 = .ok (.getfield 68, 3) := by decide +kernel
theorem d_Mo_fork_93 : decode cc_Mo_fork 93 = .ok (.aload_n 0, 1) := by decide +kernel
theorem d_Mo_fork_94 : decode cc_Mo_fork 94 = .ok (.getfield 59, 3) := by decide +kernel
theorem d_Mo_fork_97 : decode cc_Mo_fork 97 = .ok (.iload_n 1, 1) := by decide +kernel
theorem d_Mo_fork_98 : decode cc_Mo_fork 98 = .ok (.iaload, 1) := by decide +kernel
theorem d_Mo_fork_99 : decode cc_Mo_fork 99 = .ok (.iconst 1, 1) := by decide +kernel
theorem d_Mo_fork_100 : decode cc_Mo_fork 100 = .ok (.iadd, 1) := by decide +kernel
theorem d_Mo_fork_101 : decode cc_Mo_fork 101 = .ok (.aload_n 0, 1) := by decide +kernel
theorem d_Mo_fork_102 : decode cc_Mo_fork 102 = .ok (.iload_n 3, 1) := by decide +kernel
theorem d_Mo_fork_103 : decode cc_Mo_fork 103 = .ok (.aload_n 0, 1) := by decide +kernel
theorem d_Mo_fork_104 : decode cc_Mo_fork 104 = .ok (.getfield 68, 3) := by decide +kernel
theorem d_Mo_fork_107 : decode cc_Mo_fork 107 = .ok (.iload_n 1, 1) := by decide +kernel
theorem d_Mo_fork_108 : decode cc_Mo_fork 108 = .ok (.laload, 1) := by decide +kernel
theorem d_Mo_fork_109 : decode cc_Mo_fork 109 = .ok (.aload_n 0, 1) := by decide +kernel
theorem d_Mo_fork_110 : decode cc_Mo_fork 110 = .ok (.getfield 65, 3) := by decide +kernel
theorem d_Mo_fork_113 : decode cc_Mo_fork 113 = .ok (.aload_n 0, 1) := by decide +kernel
theorem d_Mo_fork_114 : decode cc_Mo_fork 114 = .ok (.getfield 59, 3) := by decide +kernel
theorem d_Mo_fork_117 : decode cc_Mo_fork 117 = .ok (.iload_n 1, 1) := by decide +kernel
theorem d_Mo_fork_118 : decode cc_Mo_fork 118 = .ok (.iaload, 1) := by decide +kernel
theorem d_Mo_fork_119 : decode cc_Mo_fork 119 = .ok (.laload, 1) := by decide +kernel
theorem d_Mo_fork_120 : decode cc_Mo_fork 120 = .ok (.invokevirtual 149, 3) := by decide +kernel
theorem d_Mo_fork_123 : decode cc_Mo_fork 123 = .ok (.lastore, 1) := by decide +kernel
theorem d_Mo_fork_124 : decode cc_Mo_fork 124 = .ok (.aload_n 0, 1) := by decide +kernel
theorem d_Mo_fork_125 : decode cc_Mo_fork 125 = .ok (.getfield 62, 3) := by decide +kernel
theorem d_Mo_fork_128 : decode cc_Mo_fork 128 = .ok (.iload_n 1, 1) := by decide +kernel
theorem d_Mo_fork_129 : decode cc_Mo_fork 129 = .ok (.iconst 0, 1) := by decide +kernel
theorem d_Mo_fork_130 : decode cc_Mo_fork 130 = .ok (.iastore, 1) := by decide +kernel
theorem d_Mo_fork_131 : decode cc_Mo_fork 131 = .ok (.aload_n 0, 1) := by decide +kernel
theorem d_Mo_fork_132 : decode cc_Mo_fork 132 = .ok (.iload_n 2, 1) := by decide +kernel
theorem d_Mo_fork_133 : decode cc_Mo_fork 133 = .ok (.aload_n 0, 1) := by decide +kernel
theorem d_Mo_fork_134 : decode cc_Mo_fork 134 = .ok (.getfield 59, 3) := by decide +kernel
theorem d_Mo_fork_137 : decode cc_Mo_fork 137 = .ok (.iload_n 1, 1) := by decide +kernel
theorem d_Mo_fork_138 : decode cc_Mo_fork 138 = .ok (.iaload, 1) := by decide +kernel
theorem d_Mo_fork_139 : decode cc_Mo_fork 139 = .ok (.iconst 1, 1) := by decide +kernel
theorem d_Mo_fork_140 : decode cc_Mo_fork 140 = .ok (.iadd, 1) := by decide +kernel
theorem d_Mo_fork_141 : decode cc_Mo_fork 141 = .ok (.invokevirtual 137, 3) := by decide +kernel
theorem d_Mo_fork_144 : decode cc_Mo_fork 144 = .ok (.aload_n 0, 1) := by decide +kernel
theorem d_Mo_fork_145 : decode cc_Mo_fork 145 = .ok (.iload_n 2, 1) := by decide +kernel
theorem d_Mo_fork_146 : decode cc_Mo_fork 146 = .ok (.aload_n 0, 1) := by decide +kernel
theorem d_Mo_fork_147 : decode cc_Mo_fork 147 = .ok (.getfield 59, 3) := by decide +kernel
theorem d_Mo_fork_150 : decode cc_Mo_fork 150 = .ok (.iload_n 1, 1) := by decide +kernel
theorem d_Mo_fork_151 : decode cc_Mo_fork 151 = .ok (.iaload, 1) := by decide +kernel
theorem d_Mo_fork_152 : decode cc_Mo_fork 152 = .ok (.invokevirtual 137, 3) := by decide +kernel
theorem d_Mo_fork_155 : decode cc_Mo_fork 155 = .ok (.return_, 1) := by decide +kernel
theorem d_Mo_get_0 : decode cc_Mo_get 0 = .ok (.aload_n 0, 1) := by decide +kernel
theorem d_Mo_get_1 : decode cc_Mo_get 1 = .ok (.iconst 0, 1) := by decide +kernel
theorem d_Mo_get_2 : decode cc_Mo_get 2 = .ok (.putfield 96, 3) := by decide +kernel
theorem d_Mo_get_5 : decode cc_Mo_get 5 = .ok (.aload_n 0, 1) := by decide +kernel
theorem d_Mo_get_6 : decode cc_Mo_get 6 = .ok (.iload_n 1, 1) := by decide +kernel
theorem d_Mo_get_7 : decode cc_Mo_get 7 = .ok (.iload_n 2, 1) := by decide +kernel
theorem d_Mo_get_8 : decode cc_Mo_get 8 = .ok (.invokevirtual 118, 3) := by decide +kernel
theorem d_Mo_get_11 : decode cc_Mo_get 11 = .ok (.ifCond .eq 12, 3) := by decide +kernel
theorem d_Mo_get_14 : decode cc_Mo_get 14 = .ok (.aload_n 0, 1) := by decide +kernel
theorem d_Mo_get_15 : decode cc_Mo_get 15 = .ok (.iconst 1, 1) := by decide +kernel
theorem d_Mo_get_16 : decode cc_Mo_get 16 = .ok (.invokevirtual 110, 3) := by decide +kernel
theorem d_Mo_get_19 : decode cc_Mo_get 19 = .ok (.i2l, 1) := by decide +kernel
theorem d_Mo_get_20 : decode cc_Mo_get 20 = .ok (.goto 14, 3) := by decide +kernel
theorem d_Mo_get_23 : decode cc_Mo_get 23 = .ok (.aload_n 0, 1) := by decide +kernel
theorem d_Mo_get_24 : decode cc_Mo_get 24 = .ok (.getfield 16, 3) := by decide +kernel
theorem d_Mo_get_27 : decode cc_Mo_get 27 = .ok (.bipush 24, 2) := by decide +kernel
theorem d_Mo_get_29 : decode cc_Mo_get 29 = .ok (.iload_n 1, 1) := by decide +kernel
theorem d_Mo_get_30 : decode cc_Mo_get 30 = .ok (.imul, 1) := by decide +kernel
theorem d_Mo_get_31 : decode cc_Mo_get 31 = .ok (.iload_n 2, 1) := by decide +kernel
theorem d_Mo_get_32 : decode cc_Mo_get 32 = .ok (.iadd, 1) := by decide +kernel
theorem d_Mo_get_33 : decode cc_Mo_get 33 = .ok (.laload, 1) := by decide +kernel
theorem d_Mo_get_34 : decode cc_Mo_get 34 = .ok (.lreturn, 1) := by decide +kernel
theorem d_Mo_grain_0 : decode cc_Mo_grain 0 = .ok (.aload_n 0, 1) := by decide +kernel
theorem d_Mo_grain_1 : decode cc_Mo_grain 1 = .ok (.iconst 0, 1) := by decide +kernel
theorem d_Mo_grain_2 : decode cc_Mo_grain 2 = .ok (.putfield 96, 3) := by decide +kernel
theorem d_Mo_grain_5 : decode cc_Mo_grain 5 = .ok (.iload_n 1, 1) := by decide +kernel
theorem d_Mo_grain_6 : decode cc_Mo_grain 6 = .ok (.iconst 1, 1) := by decide +kernel
theorem d_Mo_grain_7 : decode cc_Mo_grain 7 = .ok (.bipush 24, 2) := by decide +kernel
theorem d_Mo_grain_9 : decode cc_Mo_grain 9 = .ok (.invokestatic 106, 3) := by decide +kernel
theorem d_Mo_grain_12 : decode cc_Mo_grain 12 = .ok (.ifCond .ne 9, 3) := by decide +kernel
theorem d_Mo_grain_15 : decode cc_Mo_grain 15 = .ok (.aload_n 0, 1) := by decide +kernel
theorem d_Mo_grain_16 : decode cc_Mo_grain 16 = .ok (.iconst 1, 1) := by decide +kernel
theorem d_Mo_grain_17 : decode cc_Mo_grain 17 = .ok (.invokevirtual 110, 3) := by decide +kernel
theorem d_Mo_grain_20 : decode cc_Mo_grain 20 = .ok (.ireturn, 1) := by decide +kernel
theorem d_Mo_grain_21 : decode cc_Mo_grain 21 = .ok (.aload_n 0, 1) := by decide +kernel
theorem d_Mo_grain_22 : decode cc_Mo_grain 22 = .ok (.getfield 89, 3) := by decide +kernel
theorem d_Mo_grain_25 : decode cc_Mo_grain 25 = .ok (.istore_n 2, 1) := by decide +kernel
theorem d_Mo_grain_26 : decode cc_Mo_grain 26 = .ok (.aload_n 0, 1) := by decide +kernel
theorem d_Mo_grain_27 : decode cc_Mo_grain 27 = .ok (.iload_n 1, 1) := by decide +kernel
theorem d_Mo_grain_28 : decode cc_Mo_grain 28 = .ok (.putfield 89, 3) := by decide +kernel
theorem d_Mo_grain_31 : decode cc_Mo_grain 31 = .ok (.iload_n 2, 1) := by decide +kernel
theorem d_Mo_grain_32 : decode cc_Mo_grain 32 = .ok (.ireturn, 1) := by decide +kernel
theorem d_Mo_in_0 : decode cc_Mo_in 0 = .ok (.iload_n 0, 1) := by decide +kernel
theorem d_Mo_in_1 : decode cc_Mo_in 1 = .ok (.iload_n 1, 1) := by decide +kernel
theorem d_Mo_in_2 : decode cc_Mo_in 2 = .ok (.if_icmp .lt 12, 3) := by decide +kernel
theorem d_Mo_in_5 : decode cc_Mo_in 5 = .ok (.iload_n 0, 1) := by decide +kernel
theorem d_Mo_in_6 : decode cc_Mo_in 6 = .ok (.iload_n 2, 1) := by decide +kernel
theorem d_Mo_in_7 : decode cc_Mo_in 7 = .ok (.if_icmp .gt 7, 3) := by decide +kernel
theorem d_Mo_in_10 : decode cc_Mo_in 10 = .ok (.iconst 1, 1) := by decide +kernel
theorem d_Mo_in_11 : decode cc_Mo_in 11 = .ok (.goto 4, 3) := by decide +kernel
theorem d_Mo_in_14 : decode cc_Mo_in 14 = .ok (.iconst 0, 1) := by decide +kernel
theorem d_Mo_in_15 : decode cc_Mo_in 15 = .ok (.ireturn, 1) := by decide +kernel
theorem d_Mo_inQueues_0 : decode cc_Mo_inQueues 0 = .ok (.iconst 0, 1) := by decide +kernel
theorem d_Mo_inQueues_1 : decode cc_Mo_inQueues 1 = .ok (.istore_n 2, 1) := by decide +kernel
theorem d_Mo_inQueues_2 : decode cc_Mo_inQueues 2 = .ok (.iconst 0, 1) := by decide +kernel
theorem d_Mo_inQueues_3 : decode cc_Mo_inQueues 3 = .ok (.istore_n 3, 1) := by decide +kernel
theorem d_Mo_inQueues_4 : decode cc_Mo_inQueues 4 = .ok (.iload_n 3, 1) := by decide +kernel
theorem d_Mo_inQueues_5 : decode cc_Mo_inQueues 5 = .ok (.aload_n 0, 1) := by decide +kernel
theorem d_Mo_inQueues_6 : decode cc_Mo_inQueues 6 = .ok (.getfield 93, 3) := by decide +kernel
theorem d_Mo_inQueues_9 : decode cc_Mo_inQueues 9 = .ok (.if_icmp .ge 54, 3) := by decide +kernel
theorem d_Mo_inQueues_12 : decode cc_Mo_inQueues 12 = .ok (.iconst 0, 1) := by decide +kernel
theorem d_Mo_inQueues_13 : decode cc_Mo_inQueues 13 = .ok (.istore 4, 2) := by decide +kernel
theorem d_Mo_inQueues_15 : decode cc_Mo_inQueues 15 = .ok (.iload 4, 2) := by decide +kernel
theorem d_Mo_inQueues_17 : decode cc_Mo_inQueues 17 = .ok (.aload_n 0, 1) := by decide +kernel
theorem d_Mo_inQueues_18 : decode cc_Mo_inQueues 18 = .ok (.getfield 74, 3) := by decide +kernel
theorem d_Mo_inQueues_21 : decode cc_Mo_inQueues 21 = .ok (.iload_n 3, 1) := by decide +kernel
theorem d_Mo_inQueues_22 : decode cc_Mo_inQueues 22 = .ok (.iaload, 1) := by decide +kernel
theorem d_Mo_inQueues_23 : decode cc_Mo_inQueues 23 = .ok (.if_icmp .ge 34, 3) := by decide +kernel
theorem d_Mo_inQueues_26 : decode cc_Mo_inQueues 26 = .ok (.aload_n 0, 1) := by decide +kernel
theorem d_Mo_inQueues_27 : decode cc_Mo_inQueues 27 = .ok (.getfield 47, 3) := by decide +kernel
theorem d_Mo_inQueues_30 : decode cc_Mo_inQueues 30 = .ok (.aload_n 0, 1) := by decide +kernel
theorem d_Mo_inQueues_31 : decode cc_Mo_inQueues 31 = .ok (.getfield 71, 3) := by decide +kernel
theorem d_Mo_inQueues_34 : decode cc_Mo_inQueues 34 = .ok (.sipush 600, 3) := by decide +kernel
theorem d_Mo_inQueues_37 : decode cc_Mo_inQueues 37 = .ok (.iload_n 3, 1) := by decide +kernel
theorem d_Mo_inQueues_38 : decode cc_Mo_inQueues 38 = .ok (.imul, 1) := by decide +kernel
theorem d_Mo_inQueues_39 : decode cc_Mo_inQueues 39 = .ok (.iload 4, 2) := by decide +kernel
theorem d_Mo_inQueues_41 : decode cc_Mo_inQueues 41 = .ok (.iadd, 1) := by decide +kernel
theorem d_Mo_inQueues_42 : decode cc_Mo_inQueues 42 = .ok (.iaload, 1) := by decide +kernel
theorem d_Mo_inQueues_43 : decode cc_Mo_inQueues 43 = .ok (.iaload, 1) := by decide +kernel
theorem d_Mo_inQueues_44 : decode cc_Mo_inQueues 44 = .ok (.iload_n 1, 1) := by decide +kernel
theorem d_Mo_inQueues_45 : decode cc_Mo_inQueues 45 = .ok (.if_icmp .ne 6, 3) := by decide +kernel
theorem d_Mo_inQueues_48 : decode cc_Mo_inQueues 48 = .ok (.iinc 2 1, 3) := by decide +kernel
theorem d_Mo_inQueues_51 : decode cc_Mo_inQueues 51 = .ok (.iinc 4 1, 3) := by decide +kernel
theorem d_Mo_inQueues_54 : decode cc_Mo_inQueues 54 = .ok (.goto (-39), 3) := by decide +kernel
theorem d_Mo_inQueues_57 : decode cc_Mo_inQueues 57 = .ok (.iinc 3 1, 3) := by decide +kernel
theorem d_Mo_inQueues_60 : decode cc_Mo_inQueues 60 = .ok (.goto (-56), 3) := by decide +kernel
theorem d_Mo_inQueues_63 : decode cc_Mo_inQueues 63 = .ok (.iload_n 2, 1) := by decide +kernel
theorem d_Mo_inQueues_64 : decode cc_Mo_inQueues 64 = .ok (.ireturn, 1) := by decide +kernel
theorem d_Mo_init_0 : decode cc_Mo_init 0 = .ok (.aload_n 0, 1) := by decide +kernel
theorem d_Mo_init_1 : decode cc_Mo_init 1 = .ok (.invokespecial 1, 3) := by decide +kernel
theorem d_Mo_init_4 : decode cc_Mo_init 4 = .ok (.aload_n 0, 1) := by decide +kernel
theorem d_Mo_init_5 : decode cc_Mo_init 5 = .ok (.iconst 4, 1) := by decide +kernel
theorem d_Mo_init_6 : decode cc_Mo_init 6 = .ok (.newarray .int, 2) := by decide +kernel
theorem d_Mo_init_8 : decode cc_Mo_init 8 = .ok (.dup, 1) := by decide +kernel
theorem d_Mo_init_9 : decode cc_Mo_init 9 = .ok (.iconst 0, 1) := by decide +kernel
theorem d_Mo_init_10 : decode cc_Mo_init 10 = .ok (.iconst (-1), 1) := by decide +kernel
theorem d_Mo_init_11 : decode cc_Mo_init 11 = .ok (.iastore, 1) := by decide +kernel
theorem d_Mo_init_12 : decode cc_Mo_init 12 = .ok (.dup, 1) := by decide +kernel
theorem d_Mo_init_13 : decode cc_Mo_init 13 = .ok (.iconst 1, 1) := by decide +kernel
theorem d_Mo_init_14 : decode cc_Mo_init 14 = .ok (.iconst (-1), 1) := by decide +kernel
theorem d_Mo_init_15 : decode cc_Mo_init 15 = .ok (.iastore, 1) := by decide +kernel
theorem d_Mo_init_16 : decode cc_Mo_init 16 = .ok (.dup, 1) := by decide +kernel
theorem d_Mo_init_17 : decode cc_Mo_init 17 = .ok (.iconst 2, 1) := by decide +kernel
theorem d_Mo_init_18 : decode cc_Mo_init 18 = .ok (.iconst (-1), 1) := by decide +kernel
theorem d_Mo_init_19 : decode cc_Mo_init 19 = .ok (.iastore, 1) := by decide +kernel
theorem d_Mo_init_20 : decode cc_Mo_init 20 = .ok (.dup, 1) := by decide +kernel
theorem d_Mo_init_21 : decode cc_Mo_init 21 = .ok (.iconst 3, 1) := by decide +kernel
theorem d_Mo_init_22 : decode cc_Mo_init 22 = .ok (.iconst (-1), 1) := by decide +kernel
theorem d_Mo_init_23 : decode cc_Mo_init 23 = .ok (.iastore, 1) := by decide +kernel
theorem d_Mo_init_24 : decode cc_Mo_init 24 = .ok (.putfield 7, 3) := by decide +kernel
theorem d_Mo_init_27 : decode cc_Mo_init 27 = .ok (.aload_n 0, 1) := by decide +kernel
theorem d_Mo_init_28 : decode cc_Mo_init 28 = .ok (.iconst 4, 1) := by decide +kernel
theorem d_Mo_init_29 : decode cc_Mo_init 29 = .ok (.newarray .int, 2) := by decide +kernel
theorem d_Mo_init_31 : decode cc_Mo_init 31 = .ok (.putfield 13, 3) := by decide +kernel
theorem d_Mo_init_34 : decode cc_Mo_init 34 = .ok (.aload_n 0, 1) := by decide +kernel
theorem d_Mo_init_35 : decode cc_Mo_init 35 = .ok (.bipush 96, 2) := by decide +kernel
theorem d_Mo_init_37 : decode cc_Mo_init 37 = .ok (.newarray .long, 2) := by decide +kernel
theorem d_Mo_init_39 : decode cc_Mo_init 39 = .ok (.putfield 16, 3) := by decide +kernel
theorem d_Mo_init_42 : decode cc_Mo_init 42 = .ok (.aload_n 0, 1) := by decide +kernel
theorem d_Mo_init_43 : decode cc_Mo_init 43 = .ok (.bipush 12, 2) := by decide +kernel
theorem d_Mo_init_45 : decode cc_Mo_init 45 = .ok (.newarray .int, 2) := by decide +kernel
theorem d_Mo_init_47 : decode cc_Mo_init 47 = .ok (.putfield 20, 3) := by decide +kernel
theorem d_Mo_init_50 : decode cc_Mo_init 50 = .ok (.aload_n 0, 1) := by decide +kernel
theorem d_Mo_init_51 : decode cc_Mo_init 51 = .ok (.bipush 12, 2) := by decide +kernel
theorem d_Mo_init_53 : decode cc_Mo_init 53 = .ok (.newarray .int, 2) := by decide +kernel
theorem d_Mo_init_55 : decode cc_Mo_init 55 = .ok (.putfield 23, 3) := by decide +kernel
theorem d_Mo_init_58 : decode cc_Mo_init 58 = .ok (.aload_n 0, 1) := by decide +kernel
theorem d_Mo_init_59 : decode cc_Mo_init 59 = .ok (.bipush 12, 2) := by decide +kernel
theorem d_Mo_init_61 : decode cc_Mo_init 61 = .ok (.newarray .int, 2) := by decide +kernel
theorem d_Mo_init_63 : decode cc_Mo_init 63 = .ok (.putfield 26, 3) := by decide +kernel
theorem d_Mo_init_66 : decode cc_Mo_init 66 = .ok (.aload_n 0, 1) := by decide +kernel
theorem d_Mo_init_67 : decode cc_Mo_init 67 = .ok (.bipush 12, 2) := by decide +kernel
theorem d_Mo_init_69 : decode cc_Mo_init 69 = .ok (.newarray .int, 2) := by decide +kernel
theorem d_Mo_init_71 : decode cc_Mo_init 71 = .ok (.putfield 29, 3) := by decide +kernel
theorem d_Mo_init_74 : decode cc_Mo_init 74 = .ok (.aload_n 0, 1) := by decide +kernel
theorem d_Mo_init_75 : decode cc_Mo_init 75 = .ok (.bipush 12, 2) := by decide +kernel
theorem d_Mo_init_77 : decode cc_Mo_init 77 = .ok (.newarray .int, 2) := by decide +kernel
theorem d_Mo_init_79 : decode cc_Mo_init 79 = .ok (.putfield 32, 3) := by decide +kernel
theorem d_Mo_init_82 : decode cc_Mo_init 82 = .ok (.aload_n 0, 1) := by decide +kernel
theorem d_Mo_init_83 : decode cc_Mo_init 83 = .ok (.bipush 12, 2) := by decide +kernel
theorem d_Mo_init_85 : decode cc_Mo_init 85 = .ok (.newarray .int, 2) := by decide +kernel
theorem d_Mo_init_87 : decode cc_Mo_init 87 = .ok (.putfield 35, 3) := by decide +kernel
theorem d_Mo_init_90 : decode cc_Mo_init 90 = .ok (.aload_n 0, 1) := by decide +kernel
theorem d_Mo_init_91 : decode cc_Mo_init 91 = .ok (.bipush 12, 2) := by decide +kernel
theorem d_Mo_init_93 : decode cc_Mo_init 93 = .ok (.newarray .int, 2) := by decide +kernel
theorem d_Mo_init_95 : decode cc_Mo_init 95 = .ok (.putfield 38, 3) := by decide +kernel
theorem d_Mo_init_98 : decode cc_Mo_init 98 = .ok (.aload_n 0, 1) := by decide +kernel
