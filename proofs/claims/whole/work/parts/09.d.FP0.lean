theorem d_FP_array_0 : decode cc_FP_array 0 = .ok (.iload_n 1, 1) := by decide +kernel
theorem d_FP_array_1 : decode cc_FP_array 1 = .ok (.iconst 0, 1) := by decide +kernel
theorem d_FP_array_2 : decode cc_FP_array 2 = .ok (.iconst 3, 1) := by decide +kernel
theorem d_FP_array_3 : decode cc_FP_array 3 = .ok (.invokestatic 44, 3) := by decide +kernel
theorem d_FP_array_6 : decode cc_FP_array 6 = .ok (.ifCond .eq 22, 3) := by decide +kernel
theorem d_FP_array_9 : decode cc_FP_array 9 = .ok (.iload_n 2, 1) := by decide +kernel
theorem d_FP_array_10 : decode cc_FP_array 10 = .ok (.iconst 0, 1) := by decide +kernel
theorem d_FP_array_11 : decode cc_FP_array 11 = .ok (.iconst 5, 1) := by decide +kernel
theorem d_FP_array_12 : decode cc_FP_array 12 = .ok (.invokestatic 44, 3) := by decide +kernel
theorem d_FP_array_15 : decode cc_FP_array 15 = .ok (.ifCond .eq 13, 3) := by decide +kernel
theorem d_FP_array_18 : decode cc_FP_array 18 = .ok (.iload_n 3, 1) := by decide +kernel
theorem d_FP_array_19 : decode cc_FP_array 19 = .ok (.iconst 1, 1) := by decide +kernel
theorem d_FP_array_20 : decode cc_FP_array 20 = .ok (.bipush 24, 2) := by decide +kernel
theorem d_FP_array_22 : decode cc_FP_array 22 = .ok (.invokestatic 44, 3) := by decide +kernel
theorem d_FP_array_25 : decode cc_FP_array 25 = .ok (.ifCond .ne 13, 3) := by decide +kernel
theorem d_FP_array_28 : decode cc_FP_array 28 = .ok (.new 48, 3) := by decide +kernel
theorem d_FP_array_31 : decode cc_FP_array 31 = .ok (.dup, 1) := by decide +kernel
theorem d_FP_array_32 : decode cc_FP_array 32 = .ok (.ldc 50, 2) := by decide +kernel
theorem d_FP_array_34 : decode cc_FP_array 34 = .ok (.invokespecial 52, 3) := by decide +kernel
theorem d_FP_array_37 : decode cc_FP_array 37 = .ok (.athrow, 1) := by decide +kernel
theorem d_FP_array_38 : decode cc_FP_array 38 = .ok (.aload_n 0, 1) := by decide +kernel
theorem d_FP_array_39 : decode cc_FP_array 39 = .ok (.aload_n 0, 1) := by decide +kernel
theorem d_FP_array_40 : decode cc_FP_array 40 = .ok (.getfield 11, 3) := by decide +kernel
theorem d_FP_array_43 : decode cc_FP_array 43 = .ok (.iload_n 1, 1) := by decide +kernel
theorem d_FP_array_44 : decode cc_FP_array 44 = .ok (.aaload, 1) := by decide +kernel
theorem d_FP_array_45 : decode cc_FP_array 45 = .ok (.invokevirtual 55, 3) := by decide +kernel
theorem d_FP_array_48 : decode cc_FP_array 48 = .ok (.aload_n 0, 1) := by decide +kernel
theorem d_FP_array_49 : decode cc_FP_array 49 = .ok (.getfield 11, 3) := by decide +kernel
theorem d_FP_array_52 : decode cc_FP_array 52 = .ok (.iload_n 1, 1) := by decide +kernel
theorem d_FP_array_53 : decode cc_FP_array 53 = .ok (.aaload, 1) := by decide +kernel
theorem d_FP_array_54 : decode cc_FP_array 54 = .ok (.iload_n 2, 1) := by decide +kernel
theorem d_FP_array_55 : decode cc_FP_array 55 = .ok (.iload_n 3, 1) := by decide +kernel
theorem d_FP_array_56 : decode cc_FP_array 56 = .ok (.invokevirtual 59, 3) := by decide +kernel
theorem d_FP_array_59 : decode cc_FP_array 59 = .ok (.iload_n 3, 1) := by decide +kernel
theorem d_FP_array_60 : decode cc_FP_array 60 = .ok (.ireturn, 1) := by decide +kernel
theorem d_FP_begin_0 : decode cc_FP_begin 0 = .ok (.aload_n 0, 1) := by decide +kernel
theorem d_FP_begin_1 : decode cc_FP_begin 1 = .ok (.iload_n 2, 1) := by decide +kernel
theorem d_FP_begin_2 : decode cc_FP_begin 2 = .ok (.invokevirtual 75, 3) := by decide +kernel
theorem d_FP_begin_5 : decode cc_FP_begin 5 = .ok (.astore 6, 2) := by decide +kernel
theorem d_FP_begin_7 : decode cc_FP_begin 7 = .ok (.iload_n 1, 1) := by decide +kernel
theorem d_FP_begin_8 : decode cc_FP_begin 8 = .ok (.iconst 0, 1) := by decide +kernel
theorem d_FP_begin_9 : decode cc_FP_begin 9 = .ok (.iconst 5, 1) := by decide +kernel
theorem d_FP_begin_10 : decode cc_FP_begin 10 = .ok (.invokestatic 44, 3) := by decide +kernel
theorem d_FP_begin_13 : decode cc_FP_begin 13 = .ok (.ifCond .eq 18, 3) := by decide +kernel
theorem d_FP_begin_16 : decode cc_FP_begin 16 = .ok (.iload_n 3, 1) := by decide +kernel
theorem d_FP_begin_17 : decode cc_FP_begin 17 = .ok (.iconst 0, 1) := by decide +kernel
theorem d_FP_begin_18 : decode cc_FP_begin 18 = .ok (.aload_n 0, 1) := by decide +kernel
theorem d_FP_begin_19 : decode cc_FP_begin 19 = .ok (.getfield 27, 3) := by decide +kernel
theorem d_FP_begin_22 : decode cc_FP_begin 22 = .ok (.arraylength, 1) := by decide +kernel
theorem d_FP_begin_23 : decode cc_FP_begin 23 = .ok (.iconst 1, 1) := by decide +kernel
theorem d_FP_begin_24 : decode cc_FP_begin 24 = .ok (.isub, 1) := by decide +kernel
theorem d_FP_begin_25 : decode cc_FP_begin 25 = .ok (.invokestatic 44, 3) := by decide +kernel
theorem d_FP_begin_28 : decode cc_FP_begin 28 = .ok (.ifCond .ne 13, 3) := by decide +kernel
theorem d_FP_begin_31 : decode cc_FP_begin 31 = .ok (.new 48, 3) := by decide +kernel
theorem d_FP_begin_34 : decode cc_FP_begin 34 = .ok (.dup, 1) := by decide +kernel
theorem d_FP_begin_35 : decode cc_FP_begin 35 = .ok (.ldc 79, 2) := by decide +kernel
theorem d_FP_begin_37 : decode cc_FP_begin 37 = .ok (.invokespecial 52, 3) := by decide +kernel
theorem d_FP_begin_40 : decode cc_FP_begin 40 = .ok (.athrow, 1) := by decide +kernel
theorem d_FP_begin_41 : decode cc_FP_begin 41 = .ok (.iload 4, 2) := by decide +kernel
theorem d_FP_begin_43 : decode cc_FP_begin 43 = .ok (.sipush (-1000), 3) := by decide +kernel
theorem d_FP_begin_46 : decode cc_FP_begin 46 = .ok (.sipush 1000, 3) := by decide +kernel
theorem d_FP_begin_49 : decode cc_FP_begin 49 = .ok (.invokestatic 44, 3) := by decide +kernel
theorem d_FP_begin_52 : decode cc_FP_begin 52 = .ok (.ifCond .eq 17, 3) := by decide +kernel
theorem d_FP_begin_55 : decode cc_FP_begin 55 = .ok (.iload 5, 2) := by decide +kernel
theorem d_FP_begin_57 : decode cc_FP_begin 57 = .ok (.sipush (-1000), 3) := by decide +kernel
theorem d_FP_begin_60 : decode cc_FP_begin 60 = .ok (.sipush 1000, 3) := by decide +kernel
theorem d_FP_begin_63 : decode cc_FP_begin 63 = .ok (.invokestatic 44, 3) := by decide +kernel
theorem d_FP_begin_66 : decode cc_FP_begin 66 = .ok (.ifCond .ne 13, 3) := by decide +kernel
theorem d_FP_begin_69 : decode cc_FP_begin 69 = .ok (.new 48, 3) := by decide +kernel
theorem d_FP_begin_72 : decode cc_FP_begin 72 = .ok (.dup, 1) := by decide +kernel
theorem d_FP_begin_73 : decode cc_FP_begin 73 = .ok (.ldc 81, 2) := by decide +kernel
theorem d_FP_begin_75 : decode cc_FP_begin 75 = .ok (.invokespecial 52, 3) := by decide +kernel
theorem d_FP_begin_78 : decode cc_FP_begin 78 = .ok (.athrow, 1) := by decide +kernel
theorem d_FP_begin_79 : decode cc_FP_begin 79 = .ok (.aload_n 0, 1) := by decide +kernel
theorem d_FP_begin_80 : decode cc_FP_begin 80 = .ok (.aload 6, 2) := by decide +kernel
theorem d_FP_begin_82 : decode cc_FP_begin 82 = .ok (.invokevirtual 55, 3) := by decide +kernel
theorem d_FP_begin_85 : decode cc_FP_begin 85 = .ok (.aload_n 0, 1) := by decide +kernel
theorem d_FP_begin_86 : decode cc_FP_begin 86 = .ok (.getfield 83, 3) := by decide +kernel
theorem d_FP_begin_89 : decode cc_FP_begin 89 = .ok (.bipush 12, 2) := by decide +kernel
theorem d_FP_begin_91 : decode cc_FP_begin 91 = .ok (.if_icmp .lt 13, 3) := by decide +kernel
theorem d_FP_begin_94 : decode cc_FP_begin 94 = .ok (.new 86, 3) := by decide +kernel
theorem d_FP_begin_97 : decode cc_FP_begin 97 = .ok (.dup, 1) := by decide +kernel
theorem d_FP_begin_98 : decode cc_FP_begin 98 = .ok (.ldc 88, 2) := by decide +kernel
theorem d_FP_begin_100 : decode cc_FP_begin 100 = .ok (.invokespecial 90, 3) := by decide +kernel
theorem d_FP_begin_103 : decode cc_FP_begin 103 = .ok (.athrow, 1) := by decide +kernel
theorem d_FP_begin_104 : decode cc_FP_begin 104 = .ok (.new 34, 3) := by decide +kernel
theorem d_FP_begin_107 : decode cc_FP_begin 107 = .ok (.dup, 1) := by decide +kernel
theorem d_FP_begin_108 : decode cc_FP_begin 108 = .ok (.aload_n 0, 1) := by decide +kernel
theorem d_FP_begin_109 : decode cc_FP_begin 109 = .ok (.getfield 83, 3) := by decide +kernel
theorem d_FP_begin_112 : decode cc_FP_begin 112 = .ok (.iload_n 1, 1) := by decide +kernel
theorem d_FP_begin_113 : decode cc_FP_begin 113 = .ok (.aload 6, 2) := by decide +kernel
theorem d_FP_begin_115 : decode cc_FP_begin 115 = .ok (.iload 4, 2) := by decide +kernel
theorem d_FP_begin_117 : decode cc_FP_begin 117 = .ok (.iload 5, 2) := by decide +kernel
theorem d_FP_begin_119 : decode cc_FP_begin 119 = .ok (.invokespecial 91, 3) := by decide +kernel
theorem d_FP_begin_122 : decode cc_FP_begin 122 = .ok (.astore 7, 2) := by decide +kernel
theorem d_FP_begin_124 : decode cc_FP_begin 124 = .ok (.aload_n 0, 1) := by decide +kernel
theorem d_FP_begin_125 : decode cc_FP_begin 125 = .ok (.getfield 36, 3) := by decide +kernel
theorem d_FP_begin_128 : decode cc_FP_begin 128 = .ok (.aload_n 0, 1) := by decide +kernel
theorem d_FP_begin_129 : decode cc_FP_begin 129 = .ok (.getfield 83, 3) := by decide +kernel
theorem d_FP_begin_132 : decode cc_FP_begin 132 = .ok (.aload 7, 2) := by decide +kernel
theorem d_FP_begin_134 : decode cc_FP_begin 134 = .ok (.aastore, 1) := by decide +kernel
theorem d_FP_begin_135 : decode cc_FP_begin 135 = .ok (.aload_n 0, 1) := by decide +kernel
theorem d_FP_begin_136 : decode cc_FP_begin 136 = .ok (.dup, 1) := by decide +kernel
theorem d_FP_begin_137 : decode cc_FP_begin 137 = .ok (.getfield 83, 3) := by decide +kernel
theorem d_FP_begin_140 : decode cc_FP_begin 140 = .ok (.iconst 1, 1) := by decide +kernel
theorem d_FP_begin_141 : decode cc_FP_begin 141 = .ok (.iadd, 1) := by decide +kernel
theorem d_FP_begin_142 : decode cc_FP_begin 142 = .ok (.putfield 83, 3) := by decide +kernel
theorem d_FP_begin_145 : decode cc_FP_begin 145 = .ok (.aload_n 0, 1) := by decide +kernel
theorem d_FP_begin_146 : decode cc_FP_begin 146 = .ok (.getfield 27, 3) := by decide +kernel
theorem d_FP_begin_149 : decode cc_FP_begin 149 = .ok (.iload_n 3, 1) := by decide +kernel
theorem d_FP_begin_150 : decode cc_FP_begin 150 = .ok (.aaload, 1) := by decide +kernel
theorem d_FP_begin_151 : decode cc_FP_begin 151 = .ok (.new 94, 3) := by decide +kernel
theorem d_FP_begin_154 : decode cc_FP_begin 154 = .ok (.dup, 1) := by decide +kernel
theorem d_FP_begin_155 : decode cc_FP_begin 155 = .ok (.aload 7, 2) := by decide +kernel
theorem d_FP_begin_157 : decode cc_FP_begin 157 = .ok (.aconst_null, 1) := by decide +kernel
theorem d_FP_begin_158 : decode cc_FP_begin 158 = .ok (.iconst 0, 1) := by decide +kernel
theorem d_FP_begin_159 : decode cc_FP_begin 159 = .ok (.aload 6, 2) := by decide +kernel
theorem d_FP_begin_161 : decode cc_FP_begin 161 = .ok (.getfield 96, 3) := by decide +kernel
theorem d_FP_begin_164 : decode cc_FP_begin 164 = .ok (.invokespecial 99, 3) := by decide +kernel
theorem d_FP_begin_167 : decode cc_FP_begin 167 = .ok (.invokevirtual 102, 3) := by decide +kernel
theorem d_FP_begin_170 : decode cc_FP_begin 170 = .ok (.aload 7, 2) := by decide +kernel
theorem d_FP_begin_172 : decode cc_FP_begin 172 = .ok (.getfield 106, 3) := by decide +kernel
theorem d_FP_begin_175 : decode cc_FP_begin 175 = .ok (.ireturn, 1) := by decide +kernel
theorem d_FP_begunJob_0 : decode cc_FP_begunJob 0 = .ok (.iload_n 1, 1) := by decide +kernel
theorem d_FP_begunJob_1 : decode cc_FP_begunJob 1 = .ok (.iconst 0, 1) := by decide +kernel
theorem d_FP_begunJob_2 : decode cc_FP_begunJob 2 = .ok (.aload_n 0, 1) := by decide +kernel
theorem d_FP_begunJob_3 : decode cc_FP_begunJob 3 = .ok (.getfield 83, 3) := by decide +kernel
theorem d_FP_begunJob_6 : decode cc_FP_begunJob 6 = .ok (.iconst 1, 1) := by decide +kernel
theorem d_FP_begunJob_7 : decode cc_FP_begunJob 7 = .ok (.isub, 1) := by decide +kernel
theorem d_FP_begunJob_8 : decode cc_FP_begunJob 8 = .ok (.invokestatic 44, 3) := by decide +kernel
theorem d_FP_begunJob_11 : decode cc_FP_begunJob 11 = .ok (.ifCond .ne 13, 3) := by decide +kernel
theorem d_FP_begunJob_14 : decode cc_FP_begunJob 14 = .ok (.new 168, 3) := by decide +kernel
theorem d_FP_begunJob_17 : decode cc_FP_begunJob 17 = .ok (.dup, 1) := by decide +kernel
theorem d_FP_begunJob_18 : decode cc_FP_begunJob 18 = .ok (.ldc 221, 2) := by decide +kernel
theorem d_FP_begunJob_20 : decode cc_FP_begunJob 20 = .ok (.invokespecial 172, 3) := by decide +kernel
theorem d_FP_begunJob_23 : decode cc_FP_begunJob 23 = .ok (.athrow, 1) := by decide +kernel
theorem d_FP_begunJob_24 : decode cc_FP_begunJob 24 = .ok (.aload_n 0, 1) := by decide +kernel
theorem d_FP_begunJob_25 : decode cc_FP_begunJob 25 = .ok (.getfield 36, 3) := by decide +kernel
theorem d_FP_begunJob_28 : decode cc_FP_begunJob 28 = .ok (.iload_n 1, 1) := by decide +kernel
theorem d_FP_begunJob_29 : decode cc_FP_begunJob 29 = .ok (.aaload, 1) := by decide +kernel
theorem d_FP_begunJob_30 : decode cc_FP_begunJob 30 = .ok (.areturn, 1) := by decide +kernel
theorem d_FP_cancel_0 : decode cc_FP_cancel 0 = .ok (.aload_n 0, 1) := by decide +kernel
theorem d_FP_cancel_1 : decode cc_FP_cancel 1 = .ok (.iload_n 1, 1) := by decide +kernel
theorem d_FP_cancel_2 : decode cc_FP_cancel 2 = .ok (.invokevirtual 115, 3) := by decide +kernel
theorem d_FP_cancel_5 : decode cc_FP_cancel 5 = .ok (.astore_n 2, 1) := by decide +kernel
theorem d_FP_cancel_6 : decode cc_FP_cancel 6 = .ok (.aload_n 2, 1) := by decide +kernel
theorem d_FP_cancel_7 : decode cc_FP_cancel 7 = .ok (.getfield 119, 3) := by decide +kernel
theorem d_FP_cancel_10 : decode cc_FP_cancel 10 = .ok (.ifCond .eq 13, 3) := by decide +kernel
theorem d_FP_cancel_13 : decode cc_FP_cancel 13 = .ok (.new 86, 3) := by decide +kernel
theorem d_FP_cancel_16 : decode cc_FP_cancel 16 = .ok (.dup, 1) := by decide +kernel
theorem d_FP_cancel_17 : decode cc_FP_cancel 17 = .ok (.ldc 142, 2) := by decide +kernel
theorem d_FP_cancel_19 : decode cc_FP_cancel 19 = .ok (.invokespecial 90, 3) := by decide +kernel
theorem d_FP_cancel_22 : decode cc_FP_cancel 22 = .ok (.athrow, 1) := by decide +kernel
theorem d_FP_cancel_23 : decode cc_FP_cancel 23 = .ok (.aload_n 0, 1) := by decide +kernel
theorem d_FP_cancel_24 : decode cc_FP_cancel 24 = .ok (.aload_n 2, 1) := by decide +kernel
theorem d_FP_cancel_25 : decode cc_FP_cancel 25 = .ok (.invokevirtual 144, 3) := by decide +kernel
theorem d_FP_cancel_28 : decode cc_FP_cancel 28 = .ok (.istore_n 3, 1) := by decide +kernel
theorem d_FP_cancel_29 : decode cc_FP_cancel 29 = .ok (.aload_n 0, 1) := by decide +kernel
theorem d_FP_cancel_30 : decode cc_FP_cancel 30 = .ok (.aload_n 2, 1) := by decide +kernel
theorem d_FP_cancel_31 : decode cc_FP_cancel 31 = .ok (.iconst (-1), 1) := by decide +kernel
theorem d_FP_cancel_32 : decode cc_FP_cancel 32 = .ok (.invokevirtual 148, 3) := by decide +kernel
theorem d_FP_cancel_35 : decode cc_FP_cancel 35 = .ok (.iload_n 3, 1) := by decide +kernel
theorem d_FP_cancel_36 : decode cc_FP_cancel 36 = .ok (.ireturn, 1) := by decide +kernel
theorem d_FP_count_0 : decode cc_FP_count 0 = .ok (.iload_n 1, 1) := by decide +kernel
theorem d_FP_count_1 : decode cc_FP_count 1 = .ok (.tableswitch 52 0 3 #[31, 36, 41, 46], 31) := by decide +kernel
theorem d_FP_count_32 : decode cc_FP_count 32 = .ok (.aload_n 0, 1) := by decide +kernel
theorem d_FP_count_33 : decode cc_FP_count 33 = .ok (.getfield 83, 3) := by decide +kernel
theorem d_FP_count_36 : decode cc_FP_count 36 = .ok (.ireturn, 1) := by decide +kernel
theorem d_FP_count_37 : decode cc_FP_count 37 = .ok (.aload_n 0, 1) := by decide +kernel
theorem d_FP_count_38 : decode cc_FP_count 38 = .ok (.getfield 203, 3) := by decide +kernel
theorem d_FP_count_41 : decode cc_FP_count 41 = .ok (.ireturn, 1) := by decide +kernel
theorem d_FP_count_42 : decode cc_FP_count 42 = .ok (.aload_n 0, 1) := by decide +kernel
theorem d_FP_count_43 : decode cc_FP_count 43 = .ok (.getfield 206, 3) := by decide +kernel
theorem d_FP_count_46 : decode cc_FP_count 46 = .ok (.ireturn, 1) := by decide +kernel
theorem d_FP_count_47 : decode cc_FP_count 47 = .ok (.aload_n 0, 1) := by decide +kernel
theorem d_FP_count_48 : decode cc_FP_count 48 = .ok (.getfield 27, 3) := by decide +kernel
theorem d_FP_count_51 : decode cc_FP_count 51 = .ok (.arraylength, 1) := by decide +kernel
theorem d_FP_count_52 : decode cc_FP_count 52 = .ok (.ireturn, 1) := by decide +kernel
theorem d_FP_count_53 : decode cc_FP_count 53 = .ok (.new 48, 3) := by decide +kernel
theorem d_FP_count_56 : decode cc_FP_count 56 = .ok (.dup, 1) := by decide +kernel
theorem d_FP_count_57 : decode cc_FP_count 57 = .ok (.ldc 209, 2) := by decide +kernel
theorem d_FP_count_59 : decode cc_FP_count 59 = .ok (.invokespecial 52, 3) := by decide +kernel
theorem d_FP_count_62 : decode cc_FP_count 62 = .ok (.athrow, 1) := by decide +kernel
theorem d_FP_endRound_0 : decode cc_FP_endRound 0 = .ok (.aload_n 1, 1) := by decide +kernel
theorem d_FP_endRound_1 : decode cc_FP_endRound 1 = .ok (.getfield 177, 3) := by decide +kernel
theorem d_FP_endRound_4 : decode cc_FP_endRound 4 = .ok (.astore_n 3, 1) := by decide +kernel
theorem d_FP_endRound_5 : decode cc_FP_endRound 5 = .ok (.aload_n 3, 1) := by decide +kernel
theorem d_FP_endRound_6 : decode cc_FP_endRound 6 = .ok (.getfield 128, 3) := by decide +kernel
theorem d_FP_endRound_9 : decode cc_FP_endRound 9 = .ok (.iconst 2, 1) := by decide +kernel
theorem d_FP_endRound_10 : decode cc_FP_endRound 10 = .ok (.if_icmp .ne 21, 3) := by decide +kernel
theorem d_FP_endRound_13 : decode cc_FP_endRound 13 = .ok (.aload_n 3, 1) := by decide +kernel
theorem d_FP_endRound_14 : decode cc_FP_endRound 14 = .ok (.getfield 261, 3) := by decide +kernel
theorem d_FP_endRound_17 : decode cc_FP_endRound 17 = .ok (.ifCond .ne 14, 3) := by decide +kernel
theorem d_FP_endRound_20 : decode cc_FP_endRound 20 = .ok (.aload_n 3, 1) := by decide +kernel
theorem d_FP_endRound_21 : decode cc_FP_endRound 21 = .ok (.iconst 1, 1) := by decide +kernel
theorem d_FP_endRound_22 : decode cc_FP_endRound 22 = .ok (.putfield 261, 3) := by decide +kernel
theorem d_FP_endRound_25 : decode cc_FP_endRound 25 = .ok (.aload_n 2, 1) := by decide +kernel
theorem d_FP_endRound_26 : decode cc_FP_endRound 26 = .ok (.aload_n 1, 1) := by decide +kernel
theorem d_FP_endRound_27 : decode cc_FP_endRound 27 = .ok (.invokevirtual 102, 3) := by decide +kernel
theorem d_FP_endRound_30 : decode cc_FP_endRound 30 = .ok (.return_, 1) := by decide +kernel
theorem d_FP_endRound_31 : decode cc_FP_endRound 31 = .ok (.aload_n 3, 1) := by decide +kernel
theorem d_FP_endRound_32 : decode cc_FP_endRound 32 = .ok (.aload_n 1, 1) := by decide +kernel
theorem d_FP_endRound_33 : decode cc_FP_endRound 33 = .ok (.getfield 280, 3) := by decide +kernel
theorem d_FP_endRound_36 : decode cc_FP_endRound 36 = .ok (.putfield 138, 3) := by decide +kernel
theorem d_FP_endRound_39 : decode cc_FP_endRound 39 = .ok (.aload_n 3, 1) := by decide +kernel
theorem d_FP_endRound_40 : decode cc_FP_endRound 40 = .ok (.iconst 1, 1) := by decide +kernel
theorem d_FP_endRound_41 : decode cc_FP_endRound 41 = .ok (.putfield 119, 3) := by decide +kernel
theorem d_FP_endRound_44 : decode cc_FP_endRound 44 = .ok (.return_, 1) := by decide +kernel
theorem d_FP_endTask_0 : decode cc_FP_endTask 0 = .ok (.aload_n 1, 1) := by decide +kernel
theorem d_FP_endTask_1 : decode cc_FP_endTask 1 = .ok (.astore_n 3, 1) := by decide +kernel
theorem d_FP_endTask_2 : decode cc_FP_endTask 2 = .ok (.aload_n 3, 1) := by decide +kernel
theorem d_FP_endTask_3 : decode cc_FP_endTask 3 = .ok (.getfield 268, 3) := by decide +kernel
theorem d_FP_endTask_6 : decode cc_FP_endTask 6 = .ok (.ifnull 37, 3) := by decide +kernel
theorem d_FP_endTask_9 : decode cc_FP_endTask 9 = .ok (.aload_n 3, 1) := by decide +kernel
theorem d_FP_endTask_10 : decode cc_FP_endTask 10 = .ok (.getfield 268, 3) := by decide +kernel
theorem d_FP_endTask_13 : decode cc_FP_endTask 13 = .ok (.astore_n 3, 1) := by decide +kernel
theorem d_FP_endTask_14 : decode cc_FP_endTask 14 = .ok (.aload_n 3, 1) := by decide +kernel
theorem d_FP_endTask_15 : decode cc_FP_endTask 15 = .ok (.dup, 1) := by decide +kernel
theorem d_FP_endTask_16 : decode cc_FP_endTask 16 = .ok (.getfield 271, 3) := by decide +kernel
theorem d_FP_endTask_19 : decode cc_FP_endTask 19 = .ok (.iconst 1, 1) := by decide +kernel
theorem d_FP_endTask_20 : decode cc_FP_endTask 20 = .ok (.isub, 1) := by decide +kernel
theorem d_FP_endTask_21 : decode cc_FP_endTask 21 = .ok (.putfield 271, 3) := by decide +kernel
theorem d_FP_endTask_24 : decode cc_FP_endTask 24 = .ok (.aload_n 3, 1) := by decide +kernel
theorem d_FP_endTask_25 : decode cc_FP_endTask 25 = .ok (.getfield 271, 3) := by decide +kernel
theorem d_FP_endTask_28 : decode cc_FP_endTask 28 = .ok (.ifCond .le 4, 3) := by decide +kernel
theorem d_FP_endTask_31 : decode cc_FP_endTask 31 = .ok (.return_, 1) := by decide +kernel
theorem d_FP_endTask_32 : decode cc_FP_endTask 32 = .ok (.aload_n 3, 1) := by decide +kernel
theorem d_FP_endTask_33 : decode cc_FP_endTask 33 = .ok (.getfield 177, 3) := by decide +kernel
theorem d_FP_endTask_36 : decode cc_FP_endTask 36 = .ok (.aload_n 3, 1) := by decide +kernel
theorem d_FP_endTask_37 : decode cc_FP_endTask 37 = .ok (.invokevirtual 274, 3) := by decide +kernel
theorem d_FP_endTask_40 : decode cc_FP_endTask 40 = .ok (.goto (-38), 3) := by decide +kernel
theorem d_FP_endTask_43 : decode cc_FP_endTask 43 = .ok (.aload_n 0, 1) := by decide +kernel
theorem d_FP_endTask_44 : decode cc_FP_endTask 44 = .ok (.aload_n 3, 1) := by decide +kernel
theorem d_FP_endTask_45 : decode cc_FP_endTask 45 = .ok (.aload_n 2, 1) := by decide +kernel
theorem d_FP_endTask_46 : decode cc_FP_endTask 46 = .ok (.invokevirtual 277, 3) := by decide +kernel
theorem d_FP_endTask_49 : decode cc_FP_endTask 49 = .ok (.return_, 1) := by decide +kernel
theorem d_FP_fail_0 : decode cc_FP_fail 0 = .ok (.aload_n 1, 1) := by decide +kernel
theorem d_FP_fail_1 : decode cc_FP_fail 1 = .ok (.iconst 2, 1) := by decide +kernel
theorem d_FP_fail_2 : decode cc_FP_fail 2 = .ok (.putfield 119, 3) := by decide +kernel
theorem d_FP_fail_5 : decode cc_FP_fail 5 = .ok (.aload_n 1, 1) := by decide +kernel
theorem d_FP_fail_6 : decode cc_FP_fail 6 = .ok (.iload_n 2, 1) := by decide +kernel
theorem d_FP_fail_7 : decode cc_FP_fail 7 = .ok (.putfield 152, 3) := by decide +kernel
theorem d_FP_fail_10 : decode cc_FP_fail 10 = .ok (.iconst 0, 1) := by decide +kernel
theorem d_FP_fail_11 : decode cc_FP_fail 11 = .ok (.istore_n 3, 1) := by decide +kernel
theorem d_FP_fail_12 : decode cc_FP_fail 12 = .ok (.iload_n 3, 1) := by decide +kernel
theorem d_FP_fail_13 : decode cc_FP_fail 13 = .ok (.aload_n 0, 1) := by decide +kernel
theorem d_FP_fail_14 : decode cc_FP_fail 14 = .ok (.getfield 27, 3) := by decide +kernel
theorem d_FP_fail_17 : decode cc_FP_fail 17 = .ok (.arraylength, 1) := by decide +kernel
theorem d_FP_fail_18 : decode cc_FP_fail 18 = .ok (.if_icmp .ge 19, 3) := by decide +kernel
theorem d_FP_fail_21 : decode cc_FP_fail 21 = .ok (.aload_n 0, 1) := by decide +kernel
theorem d_FP_fail_22 : decode cc_FP_fail 22 = .ok (.getfield 27, 3) := by decide +kernel
theorem d_FP_fail_25 : decode cc_FP_fail 25 = .ok (.iload_n 3, 1) := by decide +kernel
theorem d_FP_fail_26 : decode cc_FP_fail 26 = .ok (.aaload, 1) := by decide +kernel
theorem d_FP_fail_27 : decode cc_FP_fail 27 = .ok (.aload_n 1, 1) := by decide +kernel
theorem d_FP_fail_28 : decode cc_FP_fail 28 = .ok (.invokevirtual 281, 3) := by decide +kernel
theorem d_FP_fail_31 : decode cc_FP_fail 31 = .ok (.iinc 3 1, 3) := by decide +kernel
theorem d_FP_fail_34 : decode cc_FP_fail 34 = .ok (.goto (-22), 3) := by decide +kernel
theorem d_FP_fail_37 : decode cc_FP_fail 37 = .ok (.return_, 1) := by decide +kernel
theorem d_FP_findVictim_0 : decode cc_FP_findVictim 0 = .ok (.iconst 1, 1) := by decide +kernel
theorem d_FP_findVictim_1 : decode cc_FP_findVictim 1 = .ok (.istore_n 2, 1) := by decide +kernel
theorem d_FP_findVictim_2 : decode cc_FP_findVictim 2 = .ok (.iload_n 2, 1) := by decide +kernel
theorem d_FP_findVictim_3 : decode cc_FP_findVictim 3 = .ok (.aload_n 0, 1) := by decide +kernel
theorem d_FP_findVictim_4 : decode cc_FP_findVictim 4 = .ok (.getfield 27, 3) := by decide +kernel
theorem d_FP_findVictim_7 : decode cc_FP_findVictim 7 = .ok (.arraylength, 1) := by decide +kernel
theorem d_FP_findVictim_8 : decode cc_FP_findVictim 8 = .ok (.if_icmp .gt 46, 3) := by decide +kernel
theorem d_FP_findVictim_11 : decode cc_FP_findVictim 11 = .ok (.aload_n 1, 1) := by decide +kernel
theorem d_FP_findVictim_12 : decode cc_FP_findVictim 12 = .ok (.getfield 196, 3) := by decide +kernel
theorem d_FP_findVictim_15 : decode cc_FP_findVictim 15 = .ok (.iload_n 2, 1) := by decide +kernel
theorem d_FP_findVictim_16 : decode cc_FP_findVictim 16 = .ok (.iadd, 1) := by decide +kernel
theorem d_FP_findVictim_17 : decode cc_FP_findVictim 17 = .ok (.aload_n 0, 1) := by decide +kernel
theorem d_FP_findVictim_18 : decode cc_FP_findVictim 18 = .ok (.getfield 27, 3) := by decide +kernel
theorem d_FP_findVictim_21 : decode cc_FP_findVictim 21 = .ok (.arraylength, 1) := by decide +kernel
theorem d_FP_findVictim_22 : decode cc_FP_findVictim 22 = .ok (.irem, 1) := by decide +kernel
theorem d_FP_findVictim_23 : decode cc_FP_findVictim 23 = .ok (.istore_n 3, 1) := by decide +kernel
theorem d_FP_findVictim_24 : decode cc_FP_findVictim 24 = .ok (.aload_n 0, 1) := by decide +kernel
theorem d_FP_findVictim_25 : decode cc_FP_findVictim 25 = .ok (.getfield 27, 3) := by decide +kernel
theorem d_FP_findVictim_28 : decode cc_FP_findVictim 28 = .ok (.iload_n 3, 1) := by decide +kernel
theorem d_FP_findVictim_29 : decode cc_FP_findVictim 29 = .ok (.aaload, 1) := by decide +kernel
theorem d_FP_findVictim_30 : decode cc_FP_findVictim 30 = .ok (.invokevirtual 164, 3) := by decide +kernel
theorem d_FP_findVictim_33 : decode cc_FP_findVictim 33 = .ok (.ifCond .le 15, 3) := by decide +kernel
theorem d_FP_findVictim_36 : decode cc_FP_findVictim 36 = .ok (.aload_n 1, 1) := by decide +kernel
theorem d_FP_findVictim_37 : decode cc_FP_findVictim 37 = .ok (.iload_n 3, 1) := by decide +kernel
theorem d_FP_findVictim_38 : decode cc_FP_findVictim 38 = .ok (.putfield 196, 3) := by decide +kernel
theorem d_FP_findVictim_41 : decode cc_FP_findVictim 41 = .ok (.aload_n 0, 1) := by decide +kernel
theorem d_FP_findVictim_42 : decode cc_FP_findVictim 42 = .ok (.getfield 27, 3) := by decide +kernel
theorem d_FP_findVictim_45 : decode cc_FP_findVictim 45 = .ok (.iload_n 3, 1) := by decide +kernel
theorem d_FP_findVictim_46 : decode cc_FP_findVictim 46 = .ok (.aaload, 1) := by decide +kernel
theorem d_FP_findVictim_47 : decode cc_FP_findVictim 47 = .ok (.areturn, 1) := by decide +kernel
theorem d_FP_findVictim_48 : decode cc_FP_findVictim 48 = .ok (.iinc 2 1, 3) := by decide +kernel
theorem d_FP_findVictim_51 : decode cc_FP_findVictim 51 = .ok (.goto (-49), 3) := by decide +kernel
theorem d_FP_findVictim_54 : decode cc_FP_findVictim 54 = .ok (.aconst_null, 1) := by decide +kernel
theorem d_FP_findVictim_55 : decode cc_FP_findVictim 55 = .ok (.areturn, 1) := by decide +kernel
theorem d_FP_get_0 : decode cc_FP_get 0 = .ok (.aload_n 0, 1) := by decide +kernel
theorem d_FP_get_1 : decode cc_FP_get 1 = .ok (.iload_n 1, 1) := by decide +kernel
theorem d_FP_get_2 : decode cc_FP_get 2 = .ok (.iload_n 2, 1) := by decide +kernel
theorem d_FP_get_3 : decode cc_FP_get 3 = .ok (.invokevirtual 63, 3) := by decide +kernel
theorem d_FP_get_6 : decode cc_FP_get 6 = .ok (.getfield 67, 3) := by decide +kernel
theorem d_FP_get_9 : decode cc_FP_get 9 = .ok (.iload_n 2, 1) := by decide +kernel
theorem d_FP_get_10 : decode cc_FP_get 10 = .ok (.laload, 1) := by decide +kernel
theorem d_FP_get_11 : decode cc_FP_get 11 = .ok (.lreturn, 1) := by decide +kernel
theorem d_FP_grain_0 : decode cc_FP_grain 0 = .ok (.iload_n 1, 1) := by decide +kernel
theorem d_FP_grain_1 : decode cc_FP_grain 1 = .ok (.iconst 1, 1) := by decide +kernel
theorem d_FP_grain_2 : decode cc_FP_grain 2 = .ok (.bipush 24, 2) := by decide +kernel
theorem d_FP_grain_4 : decode cc_FP_grain 4 = .ok (.invokestatic 44, 3) := by decide +kernel
theorem d_FP_grain_7 : decode cc_FP_grain 7 = .ok (.ifCond .ne 13, 3) := by decide +kernel
theorem d_FP_grain_10 : decode cc_FP_grain 10 = .ok (.new 48, 3) := by decide +kernel
theorem d_FP_grain_13 : decode cc_FP_grain 13 = .ok (.dup, 1) := by decide +kernel
theorem d_FP_grain_14 : decode cc_FP_grain 14 = .ok (.ldc 201, 2) := by decide +kernel
theorem d_FP_grain_16 : decode cc_FP_grain 16 = .ok (.invokespecial 52, 3) := by decide +kernel
theorem d_FP_grain_19 : decode cc_FP_grain 19 = .ok (.athrow, 1) := by decide +kernel
theorem d_FP_grain_20 : decode cc_FP_grain 20 = .ok (.aload_n 0, 1) := by decide +kernel
theorem d_FP_grain_21 : decode cc_FP_grain 21 = .ok (.getfield 40, 3) := by decide +kernel
theorem d_FP_grain_24 : decode cc_FP_grain 24 = .ok (.istore_n 2, 1) := by decide +kernel
theorem d_FP_grain_25 : decode cc_FP_grain 25 = .ok (.aload_n 0, 1) := by decide +kernel
theorem d_FP_grain_26 : decode cc_FP_grain 26 = .ok (.iload_n 1, 1) := by decide +kernel
theorem d_FP_grain_27 : decode cc_FP_grain 27 = .ok (.putfield 40, 3) := by decide +kernel
theorem d_FP_grain_30 : decode cc_FP_grain 30 = .ok (.iload_n 2, 1) := by decide +kernel
theorem d_FP_grain_31 : decode cc_FP_grain 31 = .ok (.ireturn, 1) := by decide +kernel
theorem d_FP_init_0 : decode cc_FP_init 0 = .ok (.aload_n 0, 1) := by decide +kernel
theorem d_FP_init_1 : decode cc_FP_init 1 = .ok (.invokespecial 3, 3) := by decide +kernel
theorem d_FP_init_4 : decode cc_FP_init 4 = .ok (.aload_n 0, 1) := by decide +kernel
theorem d_FP_init_5 : decode cc_FP_init 5 = .ok (.iconst 4, 1) := by decide +kernel
theorem d_FP_init_6 : decode cc_FP_init 6 = .ok (.anewarray 9, 3) := by decide +kernel
theorem d_FP_init_9 : decode cc_FP_init 9 = .ok (.putfield 11, 3) := by decide +kernel
theorem d_FP_init_12 : decode cc_FP_init 12 = .ok (.iconst 0, 1) := by decide +kernel
theorem d_FP_init_13 : decode cc_FP_init 13 = .ok (.istore_n 2, 1) := by decide +kernel
theorem d_FP_init_14 : decode cc_FP_init 14 = .ok (.iload_n 2, 1) := by decide +kernel
theorem d_FP_init_15 : decode cc_FP_init 15 = .ok (.iconst 4, 1) := by decide +kernel
theorem d_FP_init_16 : decode cc_FP_init 16 = .ok (.if_icmp .ge 22, 3) := by decide +kernel
theorem d_FP_init_19 : decode cc_FP_init 19 = .ok (.aload_n 0, 1) := by decide +kernel
theorem d_FP_init_20 : decode cc_FP_init 20 = .ok (.getfield 11, 3) := by decide +kernel
theorem d_FP_init_23 : decode cc_FP_init 23 = .ok (.iload_n 2, 1) := by decide +kernel
theorem d_FP_init_24 : decode cc_FP_init 24 = .ok (.new 9, 3) := by decide +kernel
theorem d_FP_init_27 : decode cc_FP_init 27 = .ok (.dup, 1) := by decide +kernel
theorem d_FP_init_28 : decode cc_FP_init 28 = .ok (.invokespecial 15, 3) := by decide +kernel
theorem d_FP_init_31 : decode cc_FP_init 31 = .ok (.aastore, 1) := by decide +kernel
theorem d_FP_init_32 : decode cc_FP_init 32 = .ok (.iinc 2 1, 3) := by decide +kernel
theorem d_FP_init_35 : decode cc_FP_init 35 = .ok (.goto (-21), 3) := by decide +kernel
theorem d_FP_init_38 : decode cc_FP_init 38 = .ok (.aload_n 0, 1) := by decide +kernel
theorem d_FP_init_39 : decode cc_FP_init 39 = .ok (.iconst 1, 1) := by decide +kernel
theorem d_FP_init_40 : decode cc_FP_init 40 = .ok (.iconst 4, 1) := by decide +kernel
theorem d_FP_init_41 : decode cc_FP_init 41 = .ok (.iload_n 1, 1) := by decide +kernel
theorem d_FP_init_42 : decode cc_FP_init 42 = .ok (.invokestatic 16, 3) := by decide +kernel
theorem d_FP_init_45 : decode cc_FP_init 45 = .ok (.invokestatic 22, 3) := by decide +kernel
theorem d_FP_init_48 : decode cc_FP_init 48 = .ok (.anewarray 25, 3) := by decide +kernel
theorem d_FP_init_51 : decode cc_FP_init 51 = .ok (.putfield 27, 3) := by decide +kernel
theorem d_FP_init_54 : decode cc_FP_init 54 = .ok (.iconst 0, 1) := by decide +kernel
theorem d_FP_init_55 : decode cc_FP_init 55 = .ok (.istore_n 2, 1) := by decide +kernel
theorem d_FP_init_56 : decode cc_FP_init 56 = .ok (.iload_n 2, 1) := by decide +kernel
theorem d_FP_init_57 : decode cc_FP_init 57 = .ok (.aload_n 0, 1) := by decide +kernel
theorem d_FP_init_58 : decode cc_FP_init 58 = .ok (.getfield 27, 3) := by decide +kernel
theorem d_FP_init_61 : decode cc_FP_init 61 = .ok (.arraylength, 1) := by decide +kernel
theorem d_FP_init_62 : decode cc_FP_init 62 = .ok (.if_icmp .ge 23, 3) := by decide +kernel
theorem d_FP_init_65 : decode cc_FP_init 65 = .ok (.aload_n 0, 1) := by decide +kernel
theorem d_FP_init_66 : decode cc_FP_init 66 = .ok (.getfield 27, 3) := by decide +kernel
theorem d_FP_init_69 : decode cc_FP_init 69 = .ok (.iload_n 2, 1) := by decide +kernel
theorem d_FP_init_70 : decode cc_FP_init 70 = .ok (.new 25, 3) := by decide +kernel
theorem d_FP_init_73 : decode cc_FP_init 73 = .ok (.dup, 1) := by decide +kernel
theorem d_FP_init_74 : decode cc_FP_init 74 = .ok (.iload_n 2, 1) := by decide +kernel
theorem d_FP_init_75 : decode cc_FP_init 75 = .ok (.invokespecial 31, 3) := by decide +kernel
theorem d_FP_init_78 : decode cc_FP_init 78 = .ok (.aastore, 1) := by decide +kernel
theorem d_FP_init_79 : decode cc_FP_init 79 = .ok (.iinc 2 1, 3) := by decide +kernel
theorem d_FP_init_82 : decode cc_FP_init 82 = .ok (.goto (-26), 3) := by decide +kernel
theorem d_FP_init_85 : decode cc_FP_init 85 = .ok (.aload_n 0, 1) := by decide +kernel
theorem d_FP_init_86 : decode cc_FP_init 86 = .ok (.bipush 12, 2) := by decide +kernel
theorem d_FP_init_88 : decode cc_FP_init 88 = .ok (.anewarray 34, 3) := by decide +kernel
theorem d_FP_init_91 : decode cc_FP_init 91 = .ok (.putfield 36, 3) := by decide +kernel
theorem d_FP_init_94 : decode cc_FP_init 94 = .ok (.aload_n 0, 1) := by decide +kernel
theorem d_FP_init_95 : decode cc_FP_init 95 = .ok (.iconst 4, 1) := by decide +kernel
theorem d_FP_init_96 : decode cc_FP_init 96 = .ok (.putfield 40, 3) := by decide +kernel
theorem d_FP_init_99 : decode cc_FP_init 99 = .ok (.return_, 1) := by decide +kernel
theorem d_FP_isWithin_0 : decode cc_FP_isWithin 0 = .ok (.iload_n 0, 1) := by decide +kernel
theorem d_FP_isWithin_1 : decode cc_FP_isWithin 1 = .ok (.iload_n 1, 1) := by decide +kernel
theorem d_FP_isWithin_2 : decode cc_FP_isWithin 2 = .ok (.if_icmp .lt 12, 3) := by decide +kernel
theorem d_FP_isWithin_5 : decode cc_FP_isWithin 5 = .ok (.iload_n 0, 1) := by decide +kernel
theorem d_FP_isWithin_6 : decode cc_FP_isWithin 6 = .ok (.iload_n 2, 1) := by decide +kernel
theorem d_FP_isWithin_7 : decode cc_FP_isWithin 7 = .ok (.if_icmp .gt 7, 3) := by decide +kernel
theorem d_FP_isWithin_10 : decode cc_FP_isWithin 10 = .ok (.iconst 1, 1) := by decide +kernel
theorem d_FP_isWithin_11 : decode cc_FP_isWithin 11 = .ok (.goto 4, 3) := by decide +kernel
theorem d_FP_isWithin_14 : decode cc_FP_isWithin 14 = .ok (.iconst 0, 1) := by decide +kernel
theorem d_FP_isWithin_15 : decode cc_FP_isWithin 15 = .ok (.ireturn, 1) := by decide +kernel
theorem d_FP_job_0 : decode cc_FP_job 0 = .ok (.aload_n 0, 1) := by decide +kernel
theorem d_FP_job_1 : decode cc_FP_job 1 = .ok (.iload_n 1, 1) := by decide +kernel
theorem d_FP_job_2 : decode cc_FP_job 2 = .ok (.invokevirtual 115, 3) := by decide +kernel
theorem d_FP_job_5 : decode cc_FP_job 5 = .ok (.astore_n 3, 1) := by decide +kernel
theorem d_FP_job_6 : decode cc_FP_job 6 = .ok (.iload_n 2, 1) := by decide +kernel
theorem d_FP_job_7 : decode cc_FP_job 7 = .ok (.tableswitch 59 0 4 #[33, 38, 43, 48, 54], 33) := by decide +kernel
theorem d_FP_job_40 : decode cc_FP_job 40 = .ok (.aload_n 3, 1) := by decide +kernel
theorem d_FP_job_41 : decode cc_FP_job 41 = .ok (.getfield 119, 3) := by decide +kernel
theorem d_FP_job_44 : decode cc_FP_job 44 = .ok (.ireturn, 1) := by decide +kernel
theorem d_FP_job_45 : decode cc_FP_job 45 = .ok (.aload_n 3, 1) := by decide +kernel
theorem d_FP_job_46 : decode cc_FP_job 46 = .ok (.getfield 152, 3) := by decide +kernel
theorem d_FP_job_49 : decode cc_FP_job 49 = .ok (.ireturn, 1) := by decide +kernel
theorem d_FP_job_50 : decode cc_FP_job 50 = .ok (.aload_n 3, 1) := by decide +kernel
theorem d_FP_job_51 : decode cc_FP_job 51 = .ok (.getfield 155, 3) := by decide +kernel
theorem d_FP_job_54 : decode cc_FP_job 54 = .ok (.ireturn, 1) := by decide +kernel
theorem d_FP_job_55 : decode cc_FP_job 55 = .ok (.aload_n 0, 1) := by decide +kernel
theorem d_FP_job_56 : decode cc_FP_job 56 = .ok (.aload_n 3, 1) := by decide +kernel
theorem d_FP_job_57 : decode cc_FP_job 57 = .ok (.invokevirtual 144, 3) := by decide +kernel
theorem d_FP_job_60 : decode cc_FP_job 60 = .ok (.ireturn, 1) := by decide +kernel
theorem d_FP_job_61 : decode cc_FP_job 61 = .ok (.aload_n 3, 1) := by decide +kernel
theorem d_FP_job_62 : decode cc_FP_job 62 = .ok (.getfield 128, 3) := by decide +kernel
theorem d_FP_job_65 : decode cc_FP_job 65 = .ok (.ireturn, 1) := by decide +kernel
theorem d_FP_job_66 : decode cc_FP_job 66 = .ok (.new 48, 3) := by decide +kernel
theorem d_FP_job_69 : decode cc_FP_job 69 = .ok (.dup, 1) := by decide +kernel
theorem d_FP_job_70 : decode cc_FP_job 70 = .ok (.ldc 158, 2) := by decide +kernel
theorem d_FP_job_72 : decode cc_FP_job 72 = .ok (.invokespecial 52, 3) := by decide +kernel
theorem d_FP_job_75 : decode cc_FP_job 75 = .ok (.athrow, 1) := by decide +kernel
theorem d_FP_join_0 : decode cc_FP_join 0 = .ok (.aload_n 0, 1) := by decide +kernel
theorem d_FP_join_1 : decode cc_FP_join 1 = .ok (.iload_n 1, 1) := by decide +kernel
theorem d_FP_join_2 : decode cc_FP_join 2 = .ok (.invokevirtual 115, 3) := by decide +kernel
theorem d_FP_join_5 : decode cc_FP_join 5 = .ok (.astore_n 2, 1) := by decide +kernel
theorem d_FP_join_6 : decode cc_FP_join 6 = .ok (.iconst 0, 1) := by decide +kernel
theorem d_FP_join_7 : decode cc_FP_join 7 = .ok (.istore_n 3, 1) := by decide +kernel
theorem d_FP_join_8 : decode cc_FP_join 8 = .ok (.aload_n 2, 1) := by decide +kernel
theorem d_FP_join_9 : decode cc_FP_join 9 = .ok (.getfield 119, 3) := by decide +kernel
theorem d_FP_join_12 : decode cc_FP_join 12 = .ok (.ifCond .ne 20, 3) := by decide +kernel
theorem d_FP_join_15 : decode cc_FP_join 15 = .ok (.iload_n 3, 1) := by decide +kernel
theorem d_FP_join_16 : decode cc_FP_join 16 = .ok (.ldc 122, 2) := by decide +kernel
theorem d_FP_join_18 : decode cc_FP_join 18 = .ok (.if_icmp .ge 14, 3) := by decide +kernel
theorem d_FP_join_21 : decode cc_FP_join 21 = .ok (.aload_n 0, 1) := by decide +kernel
theorem d_FP_join_22 : decode cc_FP_join 22 = .ok (.invokevirtual 111, 3) := by decide +kernel
theorem d_FP_join_25 : decode cc_FP_join 25 = .ok (.pop, 1) := by decide +kernel
theorem d_FP_join_26 : decode cc_FP_join 26 = .ok (.iinc 3 1, 3) := by decide +kernel
theorem d_FP_join_29 : decode cc_FP_join 29 = .ok (.goto (-21), 3) := by decide +kernel
theorem d_FP_join_32 : decode cc_FP_join 32 = .ok (.aload_n 2, 1) := by decide +kernel
theorem d_FP_join_33 : decode cc_FP_join 33 = .ok (.getfield 119, 3) := by decide +kernel
theorem d_FP_join_36 : decode cc_FP_join 36 = .ok (.iconst 2, 1) := by decide +kernel
theorem d_FP_join_37 : decode cc_FP_join 37 = .ok (.if_icmp .ne 13, 3) := by decide +kernel
theorem d_FP_join_40 : decode cc_FP_join 40 = .ok (.new 123, 3) := by decide +kernel
theorem d_FP_join_43 : decode cc_FP_join 43 = .ok (.dup, 1) := by decide +kernel
theorem d_FP_join_44 : decode cc_FP_join 44 = .ok (.ldc 125, 2) := by decide +kernel
theorem d_FP_join_46 : decode cc_FP_join 46 = .ok (.invokespecial 127, 3) := by decide +kernel
theorem d_FP_join_49 : decode cc_FP_join 49 = .ok (.athrow, 1) := by decide +kernel
theorem d_FP_join_50 : decode cc_FP_join 50 = .ok (.iload_n 3, 1) := by decide +kernel
theorem d_FP_join_51 : decode cc_FP_join 51 = .ok (.ireturn, 1) := by decide +kernel
theorem d_FP_madeRow_0 : decode cc_FP_madeRow 0 = .ok (.iload_n 1, 1) := by decide +kernel
theorem d_FP_madeRow_1 : decode cc_FP_madeRow 1 = .ok (.iconst 0, 1) := by decide +kernel
theorem d_FP_madeRow_2 : decode cc_FP_madeRow 2 = .ok (.iconst 3, 1) := by decide +kernel
theorem d_FP_madeRow_3 : decode cc_FP_madeRow 3 = .ok (.invokestatic 44, 3) := by decide +kernel
theorem d_FP_madeRow_6 : decode cc_FP_madeRow 6 = .ok (.ifCond .eq 15, 3) := by decide +kernel
theorem d_FP_madeRow_9 : decode cc_FP_madeRow 9 = .ok (.aload_n 0, 1) := by decide +kernel
theorem d_FP_madeRow_10 : decode cc_FP_madeRow 10 = .ok (.getfield 11, 3) := by decide +kernel
theorem d_FP_madeRow_13 : decode cc_FP_madeRow 13 = .ok (.iload_n 1, 1) := by decide +kernel
theorem d_FP_madeRow_14 : decode cc_FP_madeRow 14 = .ok (.aaload, 1) := by decide +kernel
theorem d_FP_madeRow_15 : decode cc_FP_madeRow 15 = .ok (.getfield 96, 3) := by decide +kernel
theorem d_FP_madeRow_18 : decode cc_FP_madeRow 18 = .ok (.ifCond .ne 13, 3) := by decide +kernel
theorem d_FP_madeRow_21 : decode cc_FP_madeRow 21 = .ok (.new 168, 3) := by decide +kernel
theorem d_FP_madeRow_24 : decode cc_FP_madeRow 24 = .ok (.dup, 1) := by decide +kernel
theorem d_FP_madeRow_25 : decode cc_FP_madeRow 25 = .ok (.ldc 211, 2) := by decide +kernel
theorem d_FP_madeRow_27 : decode cc_FP_madeRow 27 = .ok (.invokespecial 172, 3) := by decide +kernel
theorem d_FP_madeRow_30 : decode cc_FP_madeRow 30 = .ok (.athrow, 1) := by decide +kernel
theorem d_FP_madeRow_31 : decode cc_FP_madeRow 31 = .ok (.aload_n 0, 1) := by decide +kernel
theorem d_FP_madeRow_32 : decode cc_FP_madeRow 32 = .ok (.getfield 11, 3) := by decide +kernel
theorem d_FP_madeRow_35 : decode cc_FP_madeRow 35 = .ok (.iload_n 1, 1) := by decide +kernel
theorem d_FP_madeRow_36 : decode cc_FP_madeRow 36 = .ok (.aaload, 1) := by decide +kernel
theorem d_FP_madeRow_37 : decode cc_FP_madeRow 37 = .ok (.areturn, 1) := by decide +kernel
theorem d_FP_makeStep_0 : decode cc_FP_makeStep 0 = .ok (.aload_n 0, 1) := by decide +kernel
theorem d_FP_makeStep_1 : decode cc_FP_makeStep 1 = .ok (.getfield 27, 3) := by decide +kernel
theorem d_FP_makeStep_4 : decode cc_FP_makeStep 4 = .ok (.aload_n 0, 1) := by decide +kernel
theorem d_FP_makeStep_5 : decode cc_FP_makeStep 5 = .ok (.getfield 206, 3) := by decide +kernel
theorem d_FP_makeStep_8 : decode cc_FP_makeStep 8 = .ok (.aaload, 1) := by decide +kernel
theorem d_FP_makeStep_9 : decode cc_FP_makeStep 9 = .ok (.astore_n 1, 1) := by decide +kernel
theorem d_FP_makeStep_10 : decode cc_FP_makeStep 10 = .ok (.aload_n 0, 1) := by decide +kernel
theorem d_FP_makeStep_11 : decode cc_FP_makeStep 11 = .ok (.aload_n 0, 1) := by decide +kernel
theorem d_FP_makeStep_12 : decode cc_FP_makeStep 12 = .ok (.getfield 206, 3) := by decide +kernel
theorem d_FP_makeStep_15 : decode cc_FP_makeStep 15 = .ok (.iconst 1, 1) := by decide +kernel
theorem d_FP_makeStep_16 : decode cc_FP_makeStep 16 = .ok (.iadd, 1) := by decide +kernel
theorem d_FP_makeStep_17 : decode cc_FP_makeStep 17 = .ok (.aload_n 0, 1) := by decide +kernel
theorem d_FP_makeStep_18 : decode cc_FP_makeStep 18 = .ok (.getfield 27, 3) := by decide +kernel
theorem d_FP_makeStep_21 : decode cc_FP_makeStep 21 = .ok (.arraylength, 1) := by decide +kernel
theorem d_FP_makeStep_22 : decode cc_FP_makeStep 22 = .ok (.irem, 1) := by decide +kernel
theorem d_FP_makeStep_23 : decode cc_FP_makeStep 23 = .ok (.putfield 206, 3) := by decide +kernel
theorem d_FP_makeStep_26 : decode cc_FP_makeStep 26 = .ok (.aload_n 0, 1) := by decide +kernel
theorem d_FP_makeStep_27 : decode cc_FP_makeStep 27 = .ok (.dup, 1) := by decide +kernel
theorem d_FP_makeStep_28 : decode cc_FP_makeStep 28 = .ok (.getfield 203, 3) := by decide +kernel
theorem d_FP_makeStep_31 : decode cc_FP_makeStep 31 = .ok (.iconst 1, 1) := by decide +kernel
theorem d_FP_makeStep_32 : decode cc_FP_makeStep 32 = .ok (.iadd, 1) := by decide +kernel
theorem d_FP_makeStep_33 : decode cc_FP_makeStep 33 = .ok (.putfield 203, 3) := by decide +kernel
theorem d_FP_makeStep_36 : decode cc_FP_makeStep 36 = .ok (.aload_n 1, 1) := by decide +kernel
theorem d_FP_makeStep_37 : decode cc_FP_makeStep 37 = .ok (.invokevirtual 164, 3) := by decide +kernel
theorem d_FP_makeStep_40 : decode cc_FP_makeStep 40 = .ok (.ifCond .le 14, 3) := by decide +kernel
theorem d_FP_makeStep_43 : decode cc_FP_makeStep 43 = .ok (.aload_n 0, 1) := by decide +kernel
theorem d_FP_makeStep_44 : decode cc_FP_makeStep 44 = .ok (.aload_n 1, 1) := by decide +kernel
theorem d_FP_makeStep_45 : decode cc_FP_makeStep 45 = .ok (.invokevirtual 225, 3) := by decide +kernel
theorem d_FP_makeStep_48 : decode cc_FP_makeStep 48 = .ok (.aload_n 1, 1) := by decide +kernel
theorem d_FP_makeStep_49 : decode cc_FP_makeStep 49 = .ok (.invokevirtual 229, 3) := by decide +kernel
theorem d_FP_makeStep_52 : decode cc_FP_makeStep 52 = .ok (.iconst 1, 1) := by decide +kernel
theorem d_FP_makeStep_53 : decode cc_FP_makeStep 53 = .ok (.ireturn, 1) := by decide +kernel
theorem d_FP_makeStep_54 : decode cc_FP_makeStep 54 = .ok (.aload_n 0, 1) := by decide +kernel
theorem d_FP_makeStep_55 : decode cc_FP_makeStep 55 = .ok (.aload_n 1, 1) := by decide +kernel
theorem d_FP_makeStep_56 : decode cc_FP_makeStep 56 = .ok (.invokevirtual 233, 3) := by decide +kernel
theorem d_FP_makeStep_59 : decode cc_FP_makeStep 59 = .ok (.astore_n 2, 1) := by decide +kernel
theorem d_FP_makeStep_60 : decode cc_FP_makeStep 60 = .ok (.aload_n 2, 1) := by decide +kernel
theorem d_FP_makeStep_61 : decode cc_FP_makeStep 61 = .ok (.ifnonnull 15, 3) := by decide +kernel
theorem d_FP_makeStep_64 : decode cc_FP_makeStep 64 = .ok (.aload_n 1, 1) := by decide +kernel
theorem d_FP_makeStep_65 : decode cc_FP_makeStep 65 = .ok (.dup, 1) := by decide +kernel
theorem d_FP_makeStep_66 : decode cc_FP_makeStep 66 = .ok (.getfield 193, 3) := by decide +kernel
theorem d_FP_makeStep_69 : decode cc_FP_makeStep 69 = .ok (.iconst 1, 1) := by decide +kernel
theorem d_FP_makeStep_70 : decode cc_FP_makeStep 70 = .ok (.iadd, 1) := by decide +kernel
theorem d_FP_makeStep_71 : decode cc_FP_makeStep 71 = .ok (.putfield 193, 3) := by decide +kernel
theorem d_FP_makeStep_74 : decode cc_FP_makeStep 74 = .ok (.iconst 0, 1) := by decide +kernel
theorem d_FP_makeStep_75 : decode cc_FP_makeStep 75 = .ok (.ireturn, 1) := by decide +kernel
theorem d_FP_makeStep_76 : decode cc_FP_makeStep 76 = .ok (.aload_n 1, 1) := by decide +kernel
theorem d_FP_makeStep_77 : decode cc_FP_makeStep 77 = .ok (.dup, 1) := by decide +kernel
theorem d_FP_makeStep_78 : decode cc_FP_makeStep 78 = .ok (.getfield 190, 3) := by decide +kernel
theorem d_FP_makeStep_81 : decode cc_FP_makeStep 81 = .ok (.iconst 1, 1) := by decide +kernel
theorem d_FP_makeStep_82 : decode cc_FP_makeStep 82 = .ok (.iadd, 1) := by decide +kernel
theorem d_FP_makeStep_83 : decode cc_FP_makeStep 83 = .ok (.putfield 190, 3) := by decide +kernel
theorem d_FP_makeStep_86 : decode cc_FP_makeStep 86 = .ok (.aload_n 0, 1) := by decide +kernel
theorem d_FP_makeStep_87 : decode cc_FP_makeStep 87 = .ok (.aload_n 2, 1) := by decide +kernel
theorem d_FP_makeStep_88 : decode cc_FP_makeStep 88 = .ok (.invokevirtual 237, 3) := by decide +kernel
theorem d_FP_makeStep_91 : decode cc_FP_makeStep 91 = .ok (.aload_n 1, 1) := by decide +kernel
theorem d_FP_makeStep_92 : decode cc_FP_makeStep 92 = .ok (.invokevirtual 229, 3) := by decide +kernel
theorem d_FP_makeStep_95 : decode cc_FP_makeStep 95 = .ok (.iconst 1, 1) := by decide +kernel
theorem d_FP_makeStep_96 : decode cc_FP_makeStep 96 = .ok (.ireturn, 1) := by decide +kernel
theorem d_FP_mustFork_0 : decode cc_FP_mustFork 0 = .ok (.aload_n 1, 1) := by decide +kernel
theorem d_FP_mustFork_1 : decode cc_FP_mustFork 1 = .ok (.getfield 177, 3) := by decide +kernel
theorem d_FP_mustFork_4 : decode cc_FP_mustFork 4 = .ok (.getfield 261, 3) := by decide +kernel
theorem d_FP_mustFork_7 : decode cc_FP_mustFork 7 = .ok (.ifCond .eq 8, 3) := by decide +kernel
theorem d_FP_mustFork_10 : decode cc_FP_mustFork 10 = .ok (.aload_n 1, 1) := by decide +kernel
theorem d_FP_mustFork_11 : decode cc_FP_mustFork 11 = .ok (.invokevirtual 265, 3) := by decide +kernel
theorem d_FP_mustFork_14 : decode cc_FP_mustFork 14 = .ok (.ireturn, 1) := by decide +kernel
theorem d_FP_mustFork_15 : decode cc_FP_mustFork 15 = .ok (.aload_n 1, 1) := by decide +kernel
theorem d_FP_mustFork_16 : decode cc_FP_mustFork 16 = .ok (.getfield 184, 3) := by decide +kernel
theorem d_FP_mustFork_19 : decode cc_FP_mustFork 19 = .ok (.aload_n 1, 1) := by decide +kernel
theorem d_FP_mustFork_20 : decode cc_FP_mustFork 20 = .ok (.getfield 181, 3) := by decide +kernel
theorem d_FP_mustFork_23 : decode cc_FP_mustFork 23 = .ok (.isub, 1) := by decide +kernel
theorem d_FP_mustFork_24 : decode cc_FP_mustFork 24 = .ok (.aload_n 0, 1) := by decide +kernel
theorem d_FP_mustFork_25 : decode cc_FP_mustFork 25 = .ok (.getfield 40, 3) := by decide +kernel
theorem d_FP_mustFork_28 : decode cc_FP_mustFork 28 = .ok (.if_icmp .le 7, 3) := by decide +kernel
theorem d_FP_mustFork_31 : decode cc_FP_mustFork 31 = .ok (.iconst 1, 1) := by decide +kernel
theorem d_FP_mustFork_32 : decode cc_FP_mustFork 32 = .ok (.goto 4, 3) := by decide +kernel
theorem d_FP_mustFork_35 : decode cc_FP_mustFork 35 = .ok (.iconst 0, 1) := by decide +kernel
theorem d_FP_mustFork_36 : decode cc_FP_mustFork 36 = .ok (.ireturn, 1) := by decide +kernel
theorem d_FP_perform_0 : decode cc_FP_perform 0 = .ok (.aload_n 2, 1) := by decide +kernel
theorem d_FP_perform_1 : decode cc_FP_perform 1 = .ok (.dup, 1) := by decide +kernel
theorem d_FP_perform_2 : decode cc_FP_perform 2 = .ok (.getfield 189, 3) := by decide +kernel
theorem d_FP_perform_5 : decode cc_FP_perform 5 = .ok (.iconst 1, 1) := by decide +kernel
theorem d_FP_perform_6 : decode cc_FP_perform 6 = .ok (.iadd, 1) := by decide +kernel
theorem d_FP_perform_7 : decode cc_FP_perform 7 = .ok (.putfield 189, 3) := by decide +kernel
theorem d_FP_perform_10 : decode cc_FP_perform 10 = .ok (.aload_n 1, 1) := by decide +kernel
theorem d_FP_perform_11 : decode cc_FP_perform 11 = .ok (.getfield 177, 3) := by decide +kernel
theorem d_FP_perform_14 : decode cc_FP_perform 14 = .ok (.dup, 1) := by decide +kernel
theorem d_FP_perform_15 : decode cc_FP_perform 15 = .ok (.getfield 155, 3) := by decide +kernel
theorem d_FP_perform_18 : decode cc_FP_perform 18 = .ok (.iconst 1, 1) := by decide +kernel
theorem d_FP_perform_19 : decode cc_FP_perform 19 = .ok (.iadd, 1) := by decide +kernel
theorem d_FP_perform_20 : decode cc_FP_perform 20 = .ok (.putfield 155, 3) := by decide +kernel
theorem d_FP_perform_23 : decode cc_FP_perform 23 = .ok (.aload_n 0, 1) := by decide +kernel
theorem d_FP_perform_24 : decode cc_FP_perform 24 = .ok (.aload_n 1, 1) := by decide +kernel
theorem d_FP_perform_25 : decode cc_FP_perform 25 = .ok (.invokevirtual 240, 3) := by decide +kernel
theorem d_FP_perform_28 : decode cc_FP_perform 28 = .ok (.ifCond .eq 24, 3) := by decide +kernel
theorem d_FP_perform_31 : decode cc_FP_perform 31 = .ok (.aload_n 1, 1) := by decide +kernel
theorem d_FP_perform_32 : decode cc_FP_perform 32 = .ok (.invokevirtual 244, 3) := by decide +kernel
theorem d_FP_perform_35 : decode cc_FP_perform 35 = .ok (.aload_n 2, 1) := by decide +kernel
theorem d_FP_perform_36 : decode cc_FP_perform 36 = .ok (.aload_n 1, 1) := by decide +kernel
theorem d_FP_perform_37 : decode cc_FP_perform 37 = .ok (.getfield 247, 3) := by decide +kernel
theorem d_FP_perform_40 : decode cc_FP_perform 40 = .ok (.invokevirtual 102, 3) := by decide +kernel
theorem d_FP_perform_43 : decode cc_FP_perform 43 = .ok (.aload_n 2, 1) := by decide +kernel
theorem d_FP_perform_44 : decode cc_FP_perform 44 = .ok (.aload_n 1, 1) := by decide +kernel
theorem d_FP_perform_45 : decode cc_FP_perform 45 = .ok (.getfield 251, 3) := by decide +kernel
theorem d_FP_perform_48 : decode cc_FP_perform 48 = .ok (.invokevirtual 102, 3) := by decide +kernel
theorem d_FP_perform_51 : decode cc_FP_perform 51 = .ok (.return_, 1) := by decide +kernel
theorem d_FP_perform_52 : decode cc_FP_perform 52 = .ok (.aload_n 1, 1) := by decide +kernel
theorem d_FP_perform_53 : decode cc_FP_perform 53 = .ok (.getfield 177, 3) := by decide +kernel
theorem d_FP_perform_56 : decode cc_FP_perform 56 = .ok (.aload_n 1, 1) := by decide +kernel
theorem d_FP_perform_57 : decode cc_FP_perform 57 = .ok (.invokevirtual 254, 3) := by decide +kernel
theorem d_FP_perform_60 : decode cc_FP_perform 60 = .ok (.istore_n 3, 1) := by decide +kernel
theorem d_FP_perform_61 : decode cc_FP_perform 61 = .ok (.iload_n 3, 1) := by decide +kernel
theorem d_FP_perform_62 : decode cc_FP_perform 62 = .ok (.iconst (-1), 1) := by decide +kernel
theorem d_FP_perform_63 : decode cc_FP_perform 63 = .ok (.if_icmp .ne 12, 3) := by decide +kernel
theorem d_FP_perform_66 : decode cc_FP_perform 66 = .ok (.aload_n 0, 1) := by decide +kernel
theorem d_FP_perform_67 : decode cc_FP_perform 67 = .ok (.aload_n 1, 1) := by decide +kernel
theorem d_FP_perform_68 : decode cc_FP_perform 68 = .ok (.aload_n 2, 1) := by decide +kernel
theorem d_FP_perform_69 : decode cc_FP_perform 69 = .ok (.invokevirtual 258, 3) := by decide +kernel
theorem d_FP_perform_72 : decode cc_FP_perform 72 = .ok (.goto 12, 3) := by decide +kernel
theorem d_FP_perform_75 : decode cc_FP_perform 75 = .ok (.aload_n 0, 1) := by decide +kernel
theorem d_FP_perform_76 : decode cc_FP_perform 76 = .ok (.aload_n 1, 1) := by decide +kernel
theorem d_FP_perform_77 : decode cc_FP_perform 77 = .ok (.getfield 177, 3) := by decide +kernel
theorem d_FP_perform_80 : decode cc_FP_perform 80 = .ok (.iload_n 3, 1) := by decide +kernel
theorem d_FP_perform_81 : decode cc_FP_perform 81 = .ok (.invokevirtual 148, 3) := by decide +kernel
theorem d_FP_perform_84 : decode cc_FP_perform 84 = .ok (.return_, 1) := by decide +kernel
theorem d_FP_queuedTasks_0 : decode cc_FP_queuedTasks 0 = .ok (.iconst 0, 1) := by decide +kernel
theorem d_FP_queuedTasks_1 : decode cc_FP_queuedTasks 1 = .ok (.istore_n 2, 1) := by decide +kernel
theorem d_FP_queuedTasks_2 : decode cc_FP_queuedTasks 2 = .ok (.iconst 0, 1) := by decide +kernel
theorem d_FP_queuedTasks_3 : decode cc_FP_queuedTasks 3 = .ok (.istore_n 3, 1) := by decide +kernel
theorem d_FP_queuedTasks_4 : decode cc_FP_queuedTasks 4 = .ok (.iload_n 3, 1) := by decide +kernel
theorem d_FP_queuedTasks_5 : decode cc_FP_queuedTasks 5 = .ok (.aload_n 0, 1) := by decide +kernel
theorem d_FP_queuedTasks_6 : decode cc_FP_queuedTasks 6 = .ok (.getfield 27, 3) := by decide +kernel
theorem d_FP_queuedTasks_9 : decode cc_FP_queuedTasks 9 = .ok (.arraylength, 1) := by decide +kernel
theorem d_FP_queuedTasks_10 : decode cc_FP_queuedTasks 10 = .ok (.if_icmp .ge 22, 3) := by decide +kernel
theorem d_FP_queuedTasks_13 : decode cc_FP_queuedTasks 13 = .ok (.iload_n 2, 1) := by decide +kernel
theorem d_FP_queuedTasks_14 : decode cc_FP_queuedTasks 14 = .ok (.aload_n 0, 1) := by decide +kernel
theorem d_FP_queuedTasks_15 : decode cc_FP_queuedTasks 15 = .ok (.getfield 27, 3) := by decide +kernel
theorem d_FP_queuedTasks_18 : decode cc_FP_queuedTasks 18 = .ok (.iload_n 3, 1) := by decide +kernel
theorem d_FP_queuedTasks_19 : decode cc_FP_queuedTasks 19 = .ok (.aaload, 1) := by decide +kernel
theorem d_FP_queuedTasks_20 : decode cc_FP_queuedTasks 20 = .ok (.aload_n 1, 1) := by decide +kernel
theorem d_FP_queuedTasks_21 : decode cc_FP_queuedTasks 21 = .ok (.invokevirtual 285, 3) := by decide +kernel
theorem d_FP_queuedTasks_24 : decode cc_FP_queuedTasks 24 = .ok (.iadd, 1) := by decide +kernel
theorem d_FP_queuedTasks_25 : decode cc_FP_queuedTasks 25 = .ok (.istore_n 2, 1) := by decide +kernel
theorem d_FP_queuedTasks_26 : decode cc_FP_queuedTasks 26 = .ok (.iinc 3 1, 3) := by decide +kernel
theorem d_FP_queuedTasks_29 : decode cc_FP_queuedTasks 29 = .ok (.goto (-25), 3) := by decide +kernel
theorem d_FP_queuedTasks_32 : decode cc_FP_queuedTasks 32 = .ok (.iload_n 2, 1) := by decide +kernel
theorem d_FP_queuedTasks_33 : decode cc_FP_queuedTasks 33 = .ok (.ireturn, 1) := by decide +kernel
theorem d_FP_refuseIfBusy_0 : decode cc_FP_refuseIfBusy 0 = .ok (.iconst 0, 1) := by decide +kernel
theorem d_FP_refuseIfBusy_1 : decode cc_FP_refuseIfBusy 1 = .ok (.istore_n 2, 1) := by decide +kernel
theorem d_FP_refuseIfBusy_2 : decode cc_FP_refuseIfBusy 2 = .ok (.iload_n 2, 1) := by decide +kernel
theorem d_FP_refuseIfBusy_3 : decode cc_FP_refuseIfBusy 3 = .ok (.aload_n 0, 1) := by decide +kernel
theorem d_FP_refuseIfBusy_4 : decode cc_FP_refuseIfBusy 4 = .ok (.getfield 83, 3) := by decide +kernel
theorem d_FP_refuseIfBusy_7 : decode cc_FP_refuseIfBusy 7 = .ok (.if_icmp .ge 44, 3) := by decide +kernel
theorem d_FP_refuseIfBusy_10 : decode cc_FP_refuseIfBusy 10 = .ok (.aload_n 0, 1) := by decide +kernel
theorem d_FP_refuseIfBusy_11 : decode cc_FP_refuseIfBusy 11 = .ok (.getfield 36, 3) := by decide +kernel
theorem d_FP_refuseIfBusy_14 : decode cc_FP_refuseIfBusy 14 = .ok (.iload_n 2, 1) := by decide +kernel
theorem d_FP_refuseIfBusy_15 : decode cc_FP_refuseIfBusy 15 = .ok (.aaload, 1) := by decide +kernel
theorem d_FP_refuseIfBusy_16 : decode cc_FP_refuseIfBusy 16 = .ok (.getfield 215, 3) := by decide +kernel
theorem d_FP_refuseIfBusy_19 : decode cc_FP_refuseIfBusy 19 = .ok (.aload_n 1, 1) := by decide +kernel
theorem d_FP_refuseIfBusy_20 : decode cc_FP_refuseIfBusy 20 = .ok (.if_acmp .ne 25, 3) := by decide +kernel
theorem d_FP_refuseIfBusy_23 : decode cc_FP_refuseIfBusy 23 = .ok (.aload_n 0, 1) := by decide +kernel
theorem d_FP_refuseIfBusy_24 : decode cc_FP_refuseIfBusy 24 = .ok (.getfield 36, 3) := by decide +kernel
theorem d_FP_refuseIfBusy_27 : decode cc_FP_refuseIfBusy 27 = .ok (.iload_n 2, 1) := by decide +kernel
theorem d_FP_refuseIfBusy_28 : decode cc_FP_refuseIfBusy 28 = .ok (.aaload, 1) := by decide +kernel
theorem d_FP_refuseIfBusy_29 : decode cc_FP_refuseIfBusy 29 = .ok (.getfield 119, 3) := by decide +kernel
theorem d_FP_refuseIfBusy_32 : decode cc_FP_refuseIfBusy 32 = .ok (.ifCond .ne 13, 3) := by decide +kernel
theorem d_FP_refuseIfBusy_35 : decode cc_FP_refuseIfBusy 35 = .ok (.new 86, 3) := by decide +kernel
theorem d_FP_refuseIfBusy_38 : decode cc_FP_refuseIfBusy 38 = .ok (.dup, 1) := by decide +kernel
theorem d_FP_refuseIfBusy_39 : decode cc_FP_refuseIfBusy 39 = .ok (.ldc 219, 2) := by decide +kernel
theorem d_FP_refuseIfBusy_41 : decode cc_FP_refuseIfBusy 41 = .ok (.invokespecial 90, 3) := by decide +kernel
theorem d_FP_refuseIfBusy_44 : decode cc_FP_refuseIfBusy 44 = .ok (.athrow, 1) := by decide +kernel
theorem d_FP_refuseIfBusy_45 : decode cc_FP_refuseIfBusy 45 = .ok (.iinc 2 1, 3) := by decide +kernel
theorem d_FP_refuseIfBusy_48 : decode cc_FP_refuseIfBusy 48 = .ok (.goto (-46), 3) := by decide +kernel
theorem d_FP_refuseIfBusy_51 : decode cc_FP_refuseIfBusy 51 = .ok (.return_, 1) := by decide +kernel
theorem d_FP_result_0 : decode cc_FP_result 0 = .ok (.aload_n 0, 1) := by decide +kernel
theorem d_FP_result_1 : decode cc_FP_result 1 = .ok (.iload_n 1, 1) := by decide +kernel
theorem d_FP_result_2 : decode cc_FP_result 2 = .ok (.invokevirtual 115, 3) := by decide +kernel
theorem d_FP_result_5 : decode cc_FP_result 5 = .ok (.astore_n 2, 1) := by decide +kernel
theorem d_FP_result_6 : decode cc_FP_result 6 = .ok (.aload_n 2, 1) := by decide +kernel
theorem d_FP_result_7 : decode cc_FP_result 7 = .ok (.getfield 128, 3) := by decide +kernel
theorem d_FP_result_10 : decode cc_FP_result 10 = .ok (.ifCond .eq 21, 3) := by decide +kernel
theorem d_FP_result_13 : decode cc_FP_result 13 = .ok (.aload_n 2, 1) := by decide +kernel
theorem d_FP_result_14 : decode cc_FP_result 14 = .ok (.getfield 128, 3) := by decide +kernel
theorem d_FP_result_17 : decode cc_FP_result 17 = .ok (.iconst 1, 1) := by decide +kernel
theorem d_FP_result_18 : decode cc_FP_result 18 = .ok (.if_icmp .eq 13, 3) := by decide +kernel
theorem d_FP_result_21 : decode cc_FP_result 21 = .ok (.new 131, 3) := by decide +kernel
theorem d_FP_result_24 : decode cc_FP_result 24 = .ok (.dup, 1) := by decide +kernel
theorem d_FP_result_25 : decode cc_FP_result 25 = .ok (.ldc 133, 2) := by decide +kernel
theorem d_FP_result_27 : decode cc_FP_result 27 = .ok (.invokespecial 135, 3) := by decide +kernel
theorem d_FP_result_30 : decode cc_FP_result 30 = .ok (.athrow, 1) := by decide +kernel
theorem d_FP_result_31 : decode cc_FP_result 31 = .ok (.aload_n 2, 1) := by decide +kernel
theorem d_FP_result_32 : decode cc_FP_result 32 = .ok (.getfield 119, 3) := by decide +kernel
theorem d_FP_result_35 : decode cc_FP_result 35 = .ok (.iconst 1, 1) := by decide +kernel
theorem d_FP_result_36 : decode cc_FP_result 36 = .ok (.if_icmp .eq 13, 3) := by decide +kernel
theorem d_FP_result_39 : decode cc_FP_result 39 = .ok (.new 86, 3) := by decide +kernel
theorem d_FP_result_42 : decode cc_FP_result 42 = .ok (.dup, 1) := by decide +kernel
theorem d_FP_result_43 : decode cc_FP_result 43 = .ok (.ldc 136, 2) := by decide +kernel
theorem d_FP_result_45 : decode cc_FP_result 45 = .ok (.invokespecial 90, 3) := by decide +kernel
theorem d_FP_result_48 : decode cc_FP_result 48 = .ok (.athrow, 1) := by decide +kernel
theorem d_FP_result_49 : decode cc_FP_result 49 = .ok (.aload_n 2, 1) := by decide +kernel
theorem d_FP_result_50 : decode cc_FP_result 50 = .ok (.getfield 138, 3) := by decide +kernel
theorem d_FP_result_53 : decode cc_FP_result 53 = .ok (.lreturn, 1) := by decide +kernel
theorem d_FP_rowWith_0 : decode cc_FP_rowWith 0 = .ok (.aload_n 0, 1) := by decide +kernel
theorem d_FP_rowWith_1 : decode cc_FP_rowWith 1 = .ok (.iload_n 1, 1) := by decide +kernel
theorem d_FP_rowWith_2 : decode cc_FP_rowWith 2 = .ok (.invokevirtual 75, 3) := by decide +kernel
theorem d_FP_rowWith_5 : decode cc_FP_rowWith 5 = .ok (.astore_n 3, 1) := by decide +kernel
theorem d_FP_rowWith_6 : decode cc_FP_rowWith 6 = .ok (.iload_n 2, 1) := by decide +kernel
theorem d_FP_rowWith_7 : decode cc_FP_rowWith 7 = .ok (.iconst 0, 1) := by decide +kernel
theorem d_FP_rowWith_8 : decode cc_FP_rowWith 8 = .ok (.aload_n 3, 1) := by decide +kernel
theorem d_FP_rowWith_9 : decode cc_FP_rowWith 9 = .ok (.getfield 96, 3) := by decide +kernel
theorem d_FP_rowWith_12 : decode cc_FP_rowWith 12 = .ok (.iconst 1, 1) := by decide +kernel
theorem d_FP_rowWith_13 : decode cc_FP_rowWith 13 = .ok (.isub, 1) := by decide +kernel
theorem d_FP_rowWith_14 : decode cc_FP_rowWith 14 = .ok (.invokestatic 44, 3) := by decide +kernel
theorem d_FP_rowWith_17 : decode cc_FP_rowWith 17 = .ok (.ifCond .ne 13, 3) := by decide +kernel
theorem d_FP_rowWith_20 : decode cc_FP_rowWith 20 = .ok (.new 168, 3) := by decide +kernel
theorem d_FP_rowWith_23 : decode cc_FP_rowWith 23 = .ok (.dup, 1) := by decide +kernel
theorem d_FP_rowWith_24 : decode cc_FP_rowWith 24 = .ok (.ldc 213, 2) := by decide +kernel
theorem d_FP_rowWith_26 : decode cc_FP_rowWith 26 = .ok (.invokespecial 172, 3) := by decide +kernel
theorem d_FP_rowWith_29 : decode cc_FP_rowWith 29 = .ok (.athrow, 1) := by decide +kernel
theorem d_FP_rowWith_30 : decode cc_FP_rowWith 30 = .ok (.aload_n 3, 1) := by decide +kernel
theorem d_FP_rowWith_31 : decode cc_FP_rowWith 31 = .ok (.areturn, 1) := by decide +kernel
theorem d_FP_set_0 : decode cc_FP_set 0 = .ok (.aload_n 0, 1) := by decide +kernel
theorem d_FP_set_1 : decode cc_FP_set 1 = .ok (.iload_n 1, 1) := by decide +kernel
theorem d_FP_set_2 : decode cc_FP_set 2 = .ok (.iload_n 2, 1) := by decide +kernel
theorem d_FP_set_3 : decode cc_FP_set 3 = .ok (.invokevirtual 63, 3) := by decide +kernel
theorem d_FP_set_6 : decode cc_FP_set 6 = .ok (.astore 5, 2) := by decide +kernel
theorem d_FP_set_8 : decode cc_FP_set 8 = .ok (.aload_n 0, 1) := by decide +kernel
theorem d_FP_set_9 : decode cc_FP_set 9 = .ok (.aload 5, 2) := by decide +kernel
theorem d_FP_set_11 : decode cc_FP_set 11 = .ok (.invokevirtual 55, 3) := by decide +kernel
theorem d_FP_set_14 : decode cc_FP_set 14 = .ok (.aload 5, 2) := by decide +kernel
theorem d_FP_set_16 : decode cc_FP_set 16 = .ok (.getfield 67, 3) := by decide +kernel
theorem d_FP_set_19 : decode cc_FP_set 19 = .ok (.iload_n 2, 1) := by decide +kernel
theorem d_FP_set_20 : decode cc_FP_set 20 = .ok (.aload 5, 2) := by decide +kernel
theorem d_FP_set_22 : decode cc_FP_set 22 = .ok (.lload_n 3, 1) := by decide +kernel
theorem d_FP_set_23 : decode cc_FP_set 23 = .ok (.invokevirtual 71, 3) := by decide +kernel
theorem d_FP_set_26 : decode cc_FP_set 26 = .ok (.lastore, 1) := by decide +kernel
theorem d_FP_set_27 : decode cc_FP_set 27 = .ok (.aload 5, 2) := by decide +kernel
theorem d_FP_set_29 : decode cc_FP_set 29 = .ok (.getfield 67, 3) := by decide +kernel
theorem d_FP_set_32 : decode cc_FP_set 32 = .ok (.iload_n 2, 1) := by decide +kernel
theorem d_FP_set_33 : decode cc_FP_set 33 = .ok (.laload, 1) := by decide +kernel
theorem d_FP_set_34 : decode cc_FP_set 34 = .ok (.lreturn, 1) := by decide +kernel
theorem d_FP_step_0 : decode cc_FP_step 0 = .ok (.iload_n 1, 1) := by decide +kernel
theorem d_FP_step_1 : decode cc_FP_step 1 = .ok (.iconst 1, 1) := by decide +kernel
