theorem d_Lw_array_0 : decode cc_Lw_array 0 = .ok (.aload 4, 2) := by decide +kernel
theorem d_Lw_array_2 : decode cc_Lw_array 2 = .ok (.iconst 0, 1) := by decide +kernel
theorem d_Lw_array_3 : decode cc_Lw_array 3 = .ok (.aload_n 0, 1) := by decide +kernel
theorem d_Lw_array_4 : decode cc_Lw_array 4 = .ok (.iload_n 1, 1) := by decide +kernel
theorem d_Lw_array_5 : decode cc_Lw_array 5 = .ok (.iload_n 2, 1) := by decide +kernel
theorem d_Lw_array_6 : decode cc_Lw_array 6 = .ok (.iload_n 3, 1) := by decide +kernel
theorem d_Lw_array_7 : decode cc_Lw_array 7 = .ok (.invokevirtual 7, 3) := by decide +kernel
theorem d_Lw_array_10 : decode cc_Lw_array 10 = .ok (.i2l, 1) := by decide +kernel
theorem d_Lw_array_11 : decode cc_Lw_array 11 = .ok (.lastore, 1) := by decide +kernel
theorem d_Lw_array_12 : decode cc_Lw_array 12 = .ok (.goto 11, 3) := by decide +kernel
theorem d_Lw_array_15 : decode cc_Lw_array 15 = .ok (.astore 5, 2) := by decide +kernel
theorem d_Lw_array_17 : decode cc_Lw_array 17 = .ok (.iconst 1, 1) := by decide +kernel
theorem d_Lw_array_18 : decode cc_Lw_array 18 = .ok (.ireturn, 1) := by decide +kernel
theorem d_Lw_array_19 : decode cc_Lw_array 19 = .ok (.astore 5, 2) := by decide +kernel
theorem d_Lw_array_21 : decode cc_Lw_array 21 = .ok (.iconst 2, 1) := by decide +kernel
theorem d_Lw_array_22 : decode cc_Lw_array 22 = .ok (.ireturn, 1) := by decide +kernel
theorem d_Lw_array_23 : decode cc_Lw_array 23 = .ok (.iconst 0, 1) := by decide +kernel
theorem d_Lw_array_24 : decode cc_Lw_array 24 = .ok (.ireturn, 1) := by decide +kernel
theorem d_Lw_begin_0 : decode cc_Lw_begin 0 = .ok (.aload 6, 2) := by decide +kernel
theorem d_Lw_begin_2 : decode cc_Lw_begin 2 = .ok (.iconst 0, 1) := by decide +kernel
theorem d_Lw_begin_3 : decode cc_Lw_begin 3 = .ok (.aload_n 0, 1) := by decide +kernel
theorem d_Lw_begin_4 : decode cc_Lw_begin 4 = .ok (.iload_n 1, 1) := by decide +kernel
theorem d_Lw_begin_5 : decode cc_Lw_begin 5 = .ok (.iload_n 2, 1) := by decide +kernel
theorem d_Lw_begin_6 : decode cc_Lw_begin 6 = .ok (.iload_n 3, 1) := by decide +kernel
theorem d_Lw_begin_7 : decode cc_Lw_begin 7 = .ok (.iload 4, 2) := by decide +kernel
theorem d_Lw_begin_9 : decode cc_Lw_begin 9 = .ok (.iload 5, 2) := by decide +kernel
theorem d_Lw_begin_11 : decode cc_Lw_begin 11 = .ok (.invokevirtual 27, 3) := by decide +kernel
theorem d_Lw_begin_14 : decode cc_Lw_begin 14 = .ok (.i2l, 1) := by decide +kernel
theorem d_Lw_begin_15 : decode cc_Lw_begin 15 = .ok (.lastore, 1) := by decide +kernel
theorem d_Lw_begin_16 : decode cc_Lw_begin 16 = .ok (.goto 15, 3) := by decide +kernel
theorem d_Lw_begin_19 : decode cc_Lw_begin 19 = .ok (.astore 7, 2) := by decide +kernel
theorem d_Lw_begin_21 : decode cc_Lw_begin 21 = .ok (.iconst 1, 1) := by decide +kernel
theorem d_Lw_begin_22 : decode cc_Lw_begin 22 = .ok (.ireturn, 1) := by decide +kernel
theorem d_Lw_begin_23 : decode cc_Lw_begin 23 = .ok (.astore 7, 2) := by decide +kernel
theorem d_Lw_begin_25 : decode cc_Lw_begin 25 = .ok (.iconst 2, 1) := by decide +kernel
theorem d_Lw_begin_26 : decode cc_Lw_begin 26 = .ok (.ireturn, 1) := by decide +kernel
theorem d_Lw_begin_27 : decode cc_Lw_begin 27 = .ok (.astore 7, 2) := by decide +kernel
theorem d_Lw_begin_29 : decode cc_Lw_begin 29 = .ok (.iconst 3, 1) := by decide +kernel
theorem d_Lw_begin_30 : decode cc_Lw_begin 30 = .ok (.ireturn, 1) := by decide +kernel
theorem d_Lw_begin_31 : decode cc_Lw_begin 31 = .ok (.iconst 0, 1) := by decide +kernel
theorem d_Lw_begin_32 : decode cc_Lw_begin 32 = .ok (.ireturn, 1) := by decide +kernel
theorem d_Lw_cancel_0 : decode cc_Lw_cancel 0 = .ok (.aload_n 2, 1) := by decide +kernel
theorem d_Lw_cancel_1 : decode cc_Lw_cancel 1 = .ok (.iconst 0, 1) := by decide +kernel
theorem d_Lw_cancel_2 : decode cc_Lw_cancel 2 = .ok (.aload_n 0, 1) := by decide +kernel
theorem d_Lw_cancel_3 : decode cc_Lw_cancel 3 = .ok (.iload_n 1, 1) := by decide +kernel
theorem d_Lw_cancel_4 : decode cc_Lw_cancel 4 = .ok (.invokevirtual 46, 3) := by decide +kernel
theorem d_Lw_cancel_7 : decode cc_Lw_cancel 7 = .ok (.i2l, 1) := by decide +kernel
theorem d_Lw_cancel_8 : decode cc_Lw_cancel 8 = .ok (.lastore, 1) := by decide +kernel
theorem d_Lw_cancel_9 : decode cc_Lw_cancel 9 = .ok (.goto 9, 3) := by decide +kernel
theorem d_Lw_cancel_12 : decode cc_Lw_cancel 12 = .ok (.astore_n 3, 1) := by decide +kernel
theorem d_Lw_cancel_13 : decode cc_Lw_cancel 13 = .ok (.iconst 1, 1) := by decide +kernel
theorem d_Lw_cancel_14 : decode cc_Lw_cancel 14 = .ok (.ireturn, 1) := by decide +kernel
theorem d_Lw_cancel_15 : decode cc_Lw_cancel 15 = .ok (.astore_n 3, 1) := by decide +kernel
theorem d_Lw_cancel_16 : decode cc_Lw_cancel 16 = .ok (.iconst 2, 1) := by decide +kernel
theorem d_Lw_cancel_17 : decode cc_Lw_cancel 17 = .ok (.ireturn, 1) := by decide +kernel
theorem d_Lw_cancel_18 : decode cc_Lw_cancel 18 = .ok (.iconst 0, 1) := by decide +kernel
theorem d_Lw_cancel_19 : decode cc_Lw_cancel 19 = .ok (.ireturn, 1) := by decide +kernel
theorem d_Lw_cell_0 : decode cc_Lw_cell 0 = .ok (.iload_n 1, 1) := by decide +kernel
theorem d_Lw_cell_1 : decode cc_Lw_cell 1 = .ok (.aload_n 0, 1) := by decide +kernel
theorem d_Lw_cell_2 : decode cc_Lw_cell 2 = .ok (.arraylength, 1) := by decide +kernel
theorem d_Lw_cell_3 : decode cc_Lw_cell 3 = .ok (.if_icmp .ge 9, 3) := by decide +kernel
theorem d_Lw_cell_6 : decode cc_Lw_cell 6 = .ok (.aload_n 0, 1) := by decide +kernel
theorem d_Lw_cell_7 : decode cc_Lw_cell 7 = .ok (.iload_n 1, 1) := by decide +kernel
theorem d_Lw_cell_8 : decode cc_Lw_cell 8 = .ok (.iaload, 1) := by decide +kernel
theorem d_Lw_cell_9 : decode cc_Lw_cell 9 = .ok (.goto 4, 3) := by decide +kernel
theorem d_Lw_cell_12 : decode cc_Lw_cell 12 = .ok (.iconst 0, 1) := by decide +kernel
theorem d_Lw_cell_13 : decode cc_Lw_cell 13 = .ok (.ireturn, 1) := by decide +kernel
theorem d_Lw_count_0 : decode cc_Lw_count 0 = .ok (.aload_n 2, 1) := by decide +kernel
theorem d_Lw_count_1 : decode cc_Lw_count 1 = .ok (.iconst 0, 1) := by decide +kernel
theorem d_Lw_count_2 : decode cc_Lw_count 2 = .ok (.aload_n 0, 1) := by decide +kernel
theorem d_Lw_count_3 : decode cc_Lw_count 3 = .ok (.iload_n 1, 1) := by decide +kernel
theorem d_Lw_count_4 : decode cc_Lw_count 4 = .ok (.invokevirtual 62, 3) := by decide +kernel
theorem d_Lw_count_7 : decode cc_Lw_count 7 = .ok (.i2l, 1) := by decide +kernel
theorem d_Lw_count_8 : decode cc_Lw_count 8 = .ok (.lastore, 1) := by decide +kernel
theorem d_Lw_count_9 : decode cc_Lw_count 9 = .ok (.goto 6, 3) := by decide +kernel
theorem d_Lw_count_12 : decode cc_Lw_count 12 = .ok (.astore_n 3, 1) := by decide +kernel
theorem d_Lw_count_13 : decode cc_Lw_count 13 = .ok (.iconst 1, 1) := by decide +kernel
theorem d_Lw_count_14 : decode cc_Lw_count 14 = .ok (.ireturn, 1) := by decide +kernel
theorem d_Lw_count_15 : decode cc_Lw_count 15 = .ok (.iconst 0, 1) := by decide +kernel
theorem d_Lw_count_16 : decode cc_Lw_count 16 = .ok (.ireturn, 1) := by decide +kernel
theorem d_Lw_get_0 : decode cc_Lw_get 0 = .ok (.aload_n 3, 1) := by decide +kernel
theorem d_Lw_get_1 : decode cc_Lw_get 1 = .ok (.iconst 0, 1) := by decide +kernel
theorem d_Lw_get_2 : decode cc_Lw_get 2 = .ok (.aload_n 0, 1) := by decide +kernel
theorem d_Lw_get_3 : decode cc_Lw_get 3 = .ok (.iload_n 1, 1) := by decide +kernel
theorem d_Lw_get_4 : decode cc_Lw_get 4 = .ok (.iload_n 2, 1) := by decide +kernel
theorem d_Lw_get_5 : decode cc_Lw_get 5 = .ok (.invokevirtual 23, 3) := by decide +kernel
theorem d_Lw_get_8 : decode cc_Lw_get 8 = .ok (.lastore, 1) := by decide +kernel
theorem d_Lw_get_9 : decode cc_Lw_get 9 = .ok (.goto 7, 3) := by decide +kernel
theorem d_Lw_get_12 : decode cc_Lw_get 12 = .ok (.astore 4, 2) := by decide +kernel
theorem d_Lw_get_14 : decode cc_Lw_get 14 = .ok (.iconst 1, 1) := by decide +kernel
theorem d_Lw_get_15 : decode cc_Lw_get 15 = .ok (.ireturn, 1) := by decide +kernel
theorem d_Lw_get_16 : decode cc_Lw_get 16 = .ok (.iconst 0, 1) := by decide +kernel
theorem d_Lw_get_17 : decode cc_Lw_get 17 = .ok (.ireturn, 1) := by decide +kernel
theorem d_Lw_grain_0 : decode cc_Lw_grain 0 = .ok (.aload_n 2, 1) := by decide +kernel
theorem d_Lw_grain_1 : decode cc_Lw_grain 1 = .ok (.iconst 0, 1) := by decide +kernel
theorem d_Lw_grain_2 : decode cc_Lw_grain 2 = .ok (.aload_n 0, 1) := by decide +kernel
theorem d_Lw_grain_3 : decode cc_Lw_grain 3 = .ok (.iload_n 1, 1) := by decide +kernel
theorem d_Lw_grain_4 : decode cc_Lw_grain 4 = .ok (.invokevirtual 59, 3) := by decide +kernel
theorem d_Lw_grain_7 : decode cc_Lw_grain 7 = .ok (.i2l, 1) := by decide +kernel
theorem d_Lw_grain_8 : decode cc_Lw_grain 8 = .ok (.lastore, 1) := by decide +kernel
theorem d_Lw_grain_9 : decode cc_Lw_grain 9 = .ok (.goto 6, 3) := by decide +kernel
theorem d_Lw_grain_12 : decode cc_Lw_grain 12 = .ok (.astore_n 3, 1) := by decide +kernel
theorem d_Lw_grain_13 : decode cc_Lw_grain 13 = .ok (.iconst 1, 1) := by decide +kernel
theorem d_Lw_grain_14 : decode cc_Lw_grain 14 = .ok (.ireturn, 1) := by decide +kernel
theorem d_Lw_grain_15 : decode cc_Lw_grain 15 = .ok (.iconst 0, 1) := by decide +kernel
theorem d_Lw_grain_16 : decode cc_Lw_grain 16 = .ok (.ireturn, 1) := by decide +kernel
theorem d_Lw_job_0 : decode cc_Lw_job 0 = .ok (.aload_n 3, 1) := by decide +kernel
theorem d_Lw_job_1 : decode cc_Lw_job 1 = .ok (.iconst 0, 1) := by decide +kernel
theorem d_Lw_job_2 : decode cc_Lw_job 2 = .ok (.aload_n 0, 1) := by decide +kernel
theorem d_Lw_job_3 : decode cc_Lw_job 3 = .ok (.iload_n 1, 1) := by decide +kernel
theorem d_Lw_job_4 : decode cc_Lw_job 4 = .ok (.iload_n 2, 1) := by decide +kernel
theorem d_Lw_job_5 : decode cc_Lw_job 5 = .ok (.invokevirtual 49, 3) := by decide +kernel
theorem d_Lw_job_8 : decode cc_Lw_job 8 = .ok (.i2l, 1) := by decide +kernel
theorem d_Lw_job_9 : decode cc_Lw_job 9 = .ok (.lastore, 1) := by decide +kernel
theorem d_Lw_job_10 : decode cc_Lw_job 10 = .ok (.goto 11, 3) := by decide +kernel
theorem d_Lw_job_13 : decode cc_Lw_job 13 = .ok (.astore 4, 2) := by decide +kernel
theorem d_Lw_job_15 : decode cc_Lw_job 15 = .ok (.iconst 1, 1) := by decide +kernel
theorem d_Lw_job_16 : decode cc_Lw_job 16 = .ok (.ireturn, 1) := by decide +kernel
theorem d_Lw_job_17 : decode cc_Lw_job 17 = .ok (.astore 4, 2) := by decide +kernel
theorem d_Lw_job_19 : decode cc_Lw_job 19 = .ok (.iconst 2, 1) := by decide +kernel
theorem d_Lw_job_20 : decode cc_Lw_job 20 = .ok (.ireturn, 1) := by decide +kernel
theorem d_Lw_job_21 : decode cc_Lw_job 21 = .ok (.iconst 0, 1) := by decide +kernel
theorem d_Lw_job_22 : decode cc_Lw_job 22 = .ok (.ireturn, 1) := by decide +kernel
theorem d_Lw_join_0 : decode cc_Lw_join 0 = .ok (.aload_n 2, 1) := by decide +kernel
theorem d_Lw_join_1 : decode cc_Lw_join 1 = .ok (.iconst 0, 1) := by decide +kernel
theorem d_Lw_join_2 : decode cc_Lw_join 2 = .ok (.aload_n 0, 1) := by decide +kernel
theorem d_Lw_join_3 : decode cc_Lw_join 3 = .ok (.iload_n 1, 1) := by decide +kernel
theorem d_Lw_join_4 : decode cc_Lw_join 4 = .ok (.invokevirtual 35, 3) := by decide +kernel
theorem d_Lw_join_7 : decode cc_Lw_join 7 = .ok (.i2l, 1) := by decide +kernel
theorem d_Lw_join_8 : decode cc_Lw_join 8 = .ok (.lastore, 1) := by decide +kernel
theorem d_Lw_join_9 : decode cc_Lw_join 9 = .ok (.goto 9, 3) := by decide +kernel
theorem d_Lw_join_12 : decode cc_Lw_join 12 = .ok (.astore_n 3, 1) := by decide +kernel
theorem d_Lw_join_13 : decode cc_Lw_join 13 = .ok (.iconst 1, 1) := by decide +kernel
theorem d_Lw_join_14 : decode cc_Lw_join 14 = .ok (.ireturn, 1) := by decide +kernel
theorem d_Lw_join_15 : decode cc_Lw_join 15 = .ok (.astore_n 3, 1) := by decide +kernel
theorem d_Lw_join_16 : decode cc_Lw_join 16 = .ok (.iconst 2, 1) := by decide +kernel
theorem d_Lw_join_17 : decode cc_Lw_join 17 = .ok (.ireturn, 1) := by decide +kernel
theorem d_Lw_join_18 : decode cc_Lw_join 18 = .ok (.iconst 0, 1) := by decide +kernel
theorem d_Lw_join_19 : decode cc_Lw_join 19 = .ok (.ireturn, 1) := by decide +kernel
theorem d_Lw_law_0 : decode cc_Lw_law 0 = .ok (.new 8, 3) := by decide +kernel
theorem d_Lw_law_3 : decode cc_Lw_law 3 = .ok (.dup, 1) := by decide +kernel
theorem d_Lw_law_4 : decode cc_Lw_law 4 = .ok (.aload_n 0, 1) := by decide +kernel
theorem d_Lw_law_5 : decode cc_Lw_law 5 = .ok (.iconst 0, 1) := by decide +kernel
theorem d_Lw_law_6 : decode cc_Lw_law 6 = .ok (.invokestatic 65, 3) := by decide +kernel
theorem d_Lw_law_9 : decode cc_Lw_law 9 = .ok (.invokespecial 71, 3) := by decide +kernel
theorem d_Lw_law_12 : decode cc_Lw_law 12 = .ok (.astore_n 1, 1) := by decide +kernel
theorem d_Lw_law_13 : decode cc_Lw_law 13 = .ok (.new 74, 3) := by decide +kernel
theorem d_Lw_law_16 : decode cc_Lw_law 16 = .ok (.dup, 1) := by decide +kernel
theorem d_Lw_law_17 : decode cc_Lw_law 17 = .ok (.aload_n 0, 1) := by decide +kernel
theorem d_Lw_law_18 : decode cc_Lw_law 18 = .ok (.iconst 0, 1) := by decide +kernel
theorem d_Lw_law_19 : decode cc_Lw_law 19 = .ok (.invokestatic 65, 3) := by decide +kernel
theorem d_Lw_law_22 : decode cc_Lw_law 22 = .ok (.invokespecial 76, 3) := by decide +kernel
theorem d_Lw_law_25 : decode cc_Lw_law 25 = .ok (.astore_n 2, 1) := by decide +kernel
theorem d_Lw_law_26 : decode cc_Lw_law 26 = .ok (.iconst 1, 1) := by decide +kernel
theorem d_Lw_law_27 : decode cc_Lw_law 27 = .ok (.newarray .long, 2) := by decide +kernel
theorem d_Lw_law_29 : decode cc_Lw_law 29 = .ok (.astore_n 3, 1) := by decide +kernel
theorem d_Lw_law_30 : decode cc_Lw_law 30 = .ok (.iconst 1, 1) := by decide +kernel
theorem d_Lw_law_31 : decode cc_Lw_law 31 = .ok (.istore 4, 2) := by decide +kernel
theorem d_Lw_law_33 : decode cc_Lw_law 33 = .ok (.iload 4, 2) := by decide +kernel
theorem d_Lw_law_35 : decode cc_Lw_law 35 = .ok (.aload_n 0, 1) := by decide +kernel
theorem d_Lw_law_36 : decode cc_Lw_law 36 = .ok (.arraylength, 1) := by decide +kernel
theorem d_Lw_law_37 : decode cc_Lw_law 37 = .ok (.bipush 6, 2) := by decide +kernel
theorem d_Lw_law_39 : decode cc_Lw_law 39 = .ok (.isub, 1) := by decide +kernel
theorem d_Lw_law_40 : decode cc_Lw_law 40 = .ok (.if_icmp .gt 995, 3) := by decide +kernel
theorem d_Lw_law_43 : decode cc_Lw_law 43 = .ok (.aload_n 0, 1) := by decide +kernel
theorem d_Lw_law_44 : decode cc_Lw_law 44 = .ok (.iload 4, 2) := by decide +kernel
theorem d_Lw_law_46 : decode cc_Lw_law 46 = .ok (.iaload, 1) := by decide +kernel
theorem d_Lw_law_47 : decode cc_Lw_law 47 = .ok (.bipush 15, 2) := by decide +kernel
theorem d_Lw_law_49 : decode cc_Lw_law 49 = .ok (.iand, 1) := by decide +kernel
theorem d_Lw_law_50 : decode cc_Lw_law 50 = .ok (.tableswitch 979 0 12 #[66, 146, 257, 324, 428, 484, 540, 595, 651, 719, 799, 867, 923], 66) := by decide +kernel
theorem d_Lw_law_116 : decode cc_Lw_law 116 = .ok (.aload_n 1, 1) := by decide +kernel
theorem d_Lw_law_117 : decode cc_Lw_law 117 = .ok (.aload_n 0, 1) := by decide +kernel
theorem d_Lw_law_118 : decode cc_Lw_law 118 = .ok (.iload 4, 2) := by decide +kernel
theorem d_Lw_law_120 : decode cc_Lw_law 120 = .ok (.iconst 1, 1) := by decide +kernel
theorem d_Lw_law_121 : decode cc_Lw_law 121 = .ok (.iadd, 1) := by decide +kernel
theorem d_Lw_law_122 : decode cc_Lw_law 122 = .ok (.iaload, 1) := by decide +kernel
theorem d_Lw_law_123 : decode cc_Lw_law 123 = .ok (.aload_n 0, 1) := by decide +kernel
theorem d_Lw_law_124 : decode cc_Lw_law 124 = .ok (.iload 4, 2) := by decide +kernel
theorem d_Lw_law_126 : decode cc_Lw_law 126 = .ok (.iconst 2, 1) := by decide +kernel
theorem d_Lw_law_127 : decode cc_Lw_law 127 = .ok (.iadd, 1) := by decide +kernel
theorem d_Lw_law_128 : decode cc_Lw_law 128 = .ok (.iaload, 1) := by decide +kernel
theorem d_Lw_law_129 : decode cc_Lw_law 129 = .ok (.aload_n 0, 1) := by decide +kernel
theorem d_Lw_law_130 : decode cc_Lw_law 130 = .ok (.iload 4, 2) := by decide +kernel
theorem d_Lw_law_132 : decode cc_Lw_law 132 = .ok (.iconst 3, 1) := by decide +kernel
theorem d_Lw_law_133 : decode cc_Lw_law 133 = .ok (.iadd, 1) := by decide +kernel
theorem d_Lw_law_134 : decode cc_Lw_law 134 = .ok (.iaload, 1) := by decide +kernel
theorem d_Lw_law_135 : decode cc_Lw_law 135 = .ok (.aload_n 3, 1) := by decide +kernel
theorem d_Lw_law_136 : decode cc_Lw_law 136 = .ok (.invokestatic 77, 3) := by decide +kernel
theorem d_Lw_law_139 : decode cc_Lw_law 139 = .ok (.istore 5, 2) := by decide +kernel
theorem d_Lw_law_141 : decode cc_Lw_law 141 = .ok (.aload_n 2, 1) := by decide +kernel
theorem d_Lw_law_142 : decode cc_Lw_law 142 = .ok (.aload_n 0, 1) := by decide +kernel
theorem d_Lw_law_143 : decode cc_Lw_law 143 = .ok (.iload 4, 2) := by decide +kernel
theorem d_Lw_law_145 : decode cc_Lw_law 145 = .ok (.iconst 1, 1) := by decide +kernel
theorem d_Lw_law_146 : decode cc_Lw_law 146 = .ok (.iadd, 1) := by decide +kernel
theorem d_Lw_law_147 : decode cc_Lw_law 147 = .ok (.iaload, 1) := by decide +kernel
theorem d_Lw_law_148 : decode cc_Lw_law 148 = .ok (.aload_n 0, 1) := by decide +kernel
theorem d_Lw_law_149 : decode cc_Lw_law 149 = .ok (.iload 4, 2) := by decide +kernel
theorem d_Lw_law_151 : decode cc_Lw_law 151 = .ok (.iconst 2, 1) := by decide +kernel
theorem d_Lw_law_152 : decode cc_Lw_law 152 = .ok (.iadd, 1) := by decide +kernel
theorem d_Lw_law_153 : decode cc_Lw_law 153 = .ok (.iaload, 1) := by decide +kernel
theorem d_Lw_law_154 : decode cc_Lw_law 154 = .ok (.aload_n 0, 1) := by decide +kernel
theorem d_Lw_law_155 : decode cc_Lw_law 155 = .ok (.iload 4, 2) := by decide +kernel
theorem d_Lw_law_157 : decode cc_Lw_law 157 = .ok (.iconst 3, 1) := by decide +kernel
theorem d_Lw_law_158 : decode cc_Lw_law 158 = .ok (.iadd, 1) := by decide +kernel
theorem d_Lw_law_159 : decode cc_Lw_law 159 = .ok (.iaload, 1) := by decide +kernel
theorem d_Lw_law_160 : decode cc_Lw_law 160 = .ok (.invokevirtual 80, 3) := by decide +kernel
theorem d_Lw_law_163 : decode cc_Lw_law 163 = .ok (.istore 6, 2) := by decide +kernel
theorem d_Lw_law_165 : decode cc_Lw_law 165 = .ok (.aload_n 2, 1) := by decide +kernel
theorem d_Lw_law_166 : decode cc_Lw_law 166 = .ok (.invokevirtual 81, 3) := by decide +kernel
theorem d_Lw_law_169 : decode cc_Lw_law 169 = .ok (.iload 5, 2) := by decide +kernel
theorem d_Lw_law_171 : decode cc_Lw_law 171 = .ok (.if_icmp .eq 5, 3) := by decide +kernel
theorem d_Lw_law_174 : decode cc_Lw_law 174 = .ok (.iconst 0, 1) := by decide +kernel
theorem d_Lw_law_175 : decode cc_Lw_law 175 = .ok (.ireturn, 1) := by decide +kernel
theorem d_Lw_law_176 : decode cc_Lw_law 176 = .ok (.iload 5, 2) := by decide +kernel
theorem d_Lw_law_178 : decode cc_Lw_law 178 = .ok (.ifCond .ne 15, 3) := by decide +kernel
theorem d_Lw_law_181 : decode cc_Lw_law 181 = .ok (.aload_n 3, 1) := by decide +kernel
theorem d_Lw_law_182 : decode cc_Lw_law 182 = .ok (.iconst 0, 1) := by decide +kernel
theorem d_Lw_law_183 : decode cc_Lw_law 183 = .ok (.laload, 1) := by decide +kernel
theorem d_Lw_law_184 : decode cc_Lw_law 184 = .ok (.iload 6, 2) := by decide +kernel
theorem d_Lw_law_186 : decode cc_Lw_law 186 = .ok (.i2l, 1) := by decide +kernel
theorem d_Lw_law_187 : decode cc_Lw_law 187 = .ok (.lcmp, 1) := by decide +kernel
theorem d_Lw_law_188 : decode cc_Lw_law 188 = .ok (.ifCond .eq 5, 3) := by decide +kernel
theorem d_Lw_law_191 : decode cc_Lw_law 191 = .ok (.iconst 0, 1) := by decide +kernel
theorem d_Lw_law_192 : decode cc_Lw_law 192 = .ok (.ireturn, 1) := by decide +kernel
theorem d_Lw_law_193 : decode cc_Lw_law 193 = .ok (.goto 836, 3) := by decide +kernel
theorem d_Lw_law_196 : decode cc_Lw_law 196 = .ok (.aload_n 1, 1) := by decide +kernel
theorem d_Lw_law_197 : decode cc_Lw_law 197 = .ok (.aload_n 0, 1) := by decide +kernel
theorem d_Lw_law_198 : decode cc_Lw_law 198 = .ok (.iload 4, 2) := by decide +kernel
theorem d_Lw_law_200 : decode cc_Lw_law 200 = .ok (.iconst 1, 1) := by decide +kernel
theorem d_Lw_law_201 : decode cc_Lw_law 201 = .ok (.iadd, 1) := by decide +kernel
theorem d_Lw_law_202 : decode cc_Lw_law 202 = .ok (.iaload, 1) := by decide +kernel
theorem d_Lw_law_203 : decode cc_Lw_law 203 = .ok (.aload_n 0, 1) := by decide +kernel
theorem d_Lw_law_204 : decode cc_Lw_law 204 = .ok (.iload 4, 2) := by decide +kernel
theorem d_Lw_law_206 : decode cc_Lw_law 206 = .ok (.iconst 2, 1) := by decide +kernel
theorem d_Lw_law_207 : decode cc_Lw_law 207 = .ok (.iadd, 1) := by decide +kernel
theorem d_Lw_law_208 : decode cc_Lw_law 208 = .ok (.iaload, 1) := by decide +kernel
theorem d_Lw_law_209 : decode cc_Lw_law 209 = .ok (.aload_n 0, 1) := by decide +kernel
theorem d_Lw_law_210 : decode cc_Lw_law 210 = .ok (.iload 4, 2) := by decide +kernel
theorem d_Lw_law_212 : decode cc_Lw_law 212 = .ok (.iconst 3, 1) := by decide +kernel
theorem d_Lw_law_213 : decode cc_Lw_law 213 = .ok (.iadd, 1) := by decide +kernel
theorem d_Lw_law_214 : decode cc_Lw_law 214 = .ok (.iaload, 1) := by decide +kernel
theorem d_Lw_law_215 : decode cc_Lw_law 215 = .ok (.i2l, 1) := by decide +kernel
theorem d_Lw_law_216 : decode cc_Lw_law 216 = .ok (.bipush 32, 2) := by decide +kernel
theorem d_Lw_law_218 : decode cc_Lw_law 218 = .ok (.lshl, 1) := by decide +kernel
theorem d_Lw_law_219 : decode cc_Lw_law 219 = .ok (.aload_n 0, 1) := by decide +kernel
theorem d_Lw_law_220 : decode cc_Lw_law 220 = .ok (.iload 4, 2) := by decide +kernel
theorem d_Lw_law_222 : decode cc_Lw_law 222 = .ok (.iconst 4, 1) := by decide +kernel
theorem d_Lw_law_223 : decode cc_Lw_law 223 = .ok (.iadd, 1) := by decide +kernel
theorem d_Lw_law_224 : decode cc_Lw_law 224 = .ok (.iaload, 1) := by decide +kernel
theorem d_Lw_law_225 : decode cc_Lw_law 225 = .ok (.i2l, 1) := by decide +kernel
theorem d_Lw_law_226 : decode cc_Lw_law 226 = .ok (.ldc2_w 85, 3) := by decide +kernel
theorem d_Lw_law_229 : decode cc_Lw_law 229 = .ok (.land, 1) := by decide +kernel
theorem d_Lw_law_230 : decode cc_Lw_law 230 = .ok (.lor, 1) := by decide +kernel
theorem d_Lw_law_231 : decode cc_Lw_law 231 = .ok (.aload_n 3, 1) := by decide +kernel
theorem d_Lw_law_232 : decode cc_Lw_law 232 = .ok (.invokestatic 87, 3) := by decide +kernel
theorem d_Lw_law_235 : decode cc_Lw_law 235 = .ok (.istore 5, 2) := by decide +kernel
theorem d_Lw_law_237 : decode cc_Lw_law 237 = .ok (.aload_n 2, 1) := by decide +kernel
theorem d_Lw_law_238 : decode cc_Lw_law 238 = .ok (.aload_n 0, 1) := by decide +kernel
theorem d_Lw_law_239 : decode cc_Lw_law 239 = .ok (.iload 4, 2) := by decide +kernel
theorem d_Lw_law_241 : decode cc_Lw_law 241 = .ok (.iconst 1, 1) := by decide +kernel
theorem d_Lw_law_242 : decode cc_Lw_law 242 = .ok (.iadd, 1) := by decide +kernel
theorem d_Lw_law_243 : decode cc_Lw_law 243 = .ok (.iaload, 1) := by decide +kernel
theorem d_Lw_law_244 : decode cc_Lw_law 244 = .ok (.aload_n 0, 1) := by decide +kernel
theorem d_Lw_law_245 : decode cc_Lw_law 245 = .ok (.iload 4, 2) := by decide +kernel
theorem d_Lw_law_247 : decode cc_Lw_law 247 = .ok (.iconst 2, 1) := by decide +kernel
theorem d_Lw_law_248 : decode cc_Lw_law 248 = .ok (.iadd, 1) := by decide +kernel
theorem d_Lw_law_249 : decode cc_Lw_law 249 = .ok (.iaload, 1) := by decide +kernel
theorem d_Lw_law_250 : decode cc_Lw_law 250 = .ok (.aload_n 0, 1) := by decide +kernel
theorem d_Lw_law_251 : decode cc_Lw_law 251 = .ok (.iload 4, 2) := by decide +kernel
theorem d_Lw_law_253 : decode cc_Lw_law 253 = .ok (.iconst 3, 1) := by decide +kernel
theorem d_Lw_law_254 : decode cc_Lw_law 254 = .ok (.iadd, 1) := by decide +kernel
theorem d_Lw_law_255 : decode cc_Lw_law 255 = .ok (.iaload, 1) := by decide +kernel
theorem d_Lw_law_256 : decode cc_Lw_law 256 = .ok (.i2l, 1) := by decide +kernel
theorem d_Lw_law_257 : decode cc_Lw_law 257 = .ok (.bipush 32, 2) := by decide +kernel
theorem d_Lw_law_259 : decode cc_Lw_law 259 = .ok (.lshl, 1) := by decide +kernel
theorem d_Lw_law_260 : decode cc_Lw_law 260 = .ok (.aload_n 0, 1) := by decide +kernel
theorem d_Lw_law_261 : decode cc_Lw_law 261 = .ok (.iload 4, 2) := by decide +kernel
theorem d_Lw_law_263 : decode cc_Lw_law 263 = .ok (.iconst 4, 1) := by decide +kernel
theorem d_Lw_law_264 : decode cc_Lw_law 264 = .ok (.iadd, 1) := by decide +kernel
theorem d_Lw_law_265 : decode cc_Lw_law 265 = .ok (.iaload, 1) := by decide +kernel
theorem d_Lw_law_266 : decode cc_Lw_law 266 = .ok (.i2l, 1) := by decide +kernel
theorem d_Lw_law_267 : decode cc_Lw_law 267 = .ok (.ldc2_w 85, 3) := by decide +kernel
theorem d_Lw_law_270 : decode cc_Lw_law 270 = .ok (.land, 1) := by decide +kernel
theorem d_Lw_law_271 : decode cc_Lw_law 271 = .ok (.lor, 1) := by decide +kernel
theorem d_Lw_law_272 : decode cc_Lw_law 272 = .ok (.invokevirtual 90, 3) := by decide +kernel
theorem d_Lw_law_275 : decode cc_Lw_law 275 = .ok (.lstore 6, 2) := by decide +kernel
theorem d_Lw_law_277 : decode cc_Lw_law 277 = .ok (.aload_n 2, 1) := by decide +kernel
theorem d_Lw_law_278 : decode cc_Lw_law 278 = .ok (.invokevirtual 81, 3) := by decide +kernel
theorem d_Lw_law_281 : decode cc_Lw_law 281 = .ok (.iload 5, 2) := by decide +kernel
theorem d_Lw_law_283 : decode cc_Lw_law 283 = .ok (.if_icmp .eq 5, 3) := by decide +kernel
theorem d_Lw_law_286 : decode cc_Lw_law 286 = .ok (.iconst 0, 1) := by decide +kernel
theorem d_Lw_law_287 : decode cc_Lw_law 287 = .ok (.ireturn, 1) := by decide +kernel
theorem d_Lw_law_288 : decode cc_Lw_law 288 = .ok (.iload 5, 2) := by decide +kernel
theorem d_Lw_law_290 : decode cc_Lw_law 290 = .ok (.ifCond .ne 14, 3) := by decide +kernel
theorem d_Lw_law_293 : decode cc_Lw_law 293 = .ok (.aload_n 3, 1) := by decide +kernel
theorem d_Lw_law_294 : decode cc_Lw_law 294 = .ok (.iconst 0, 1) := by decide +kernel
theorem d_Lw_law_295 : decode cc_Lw_law 295 = .ok (.laload, 1) := by decide +kernel
theorem d_Lw_law_296 : decode cc_Lw_law 296 = .ok (.lload 6, 2) := by decide +kernel
theorem d_Lw_law_298 : decode cc_Lw_law 298 = .ok (.lcmp, 1) := by decide +kernel
theorem d_Lw_law_299 : decode cc_Lw_law 299 = .ok (.ifCond .eq 5, 3) := by decide +kernel
theorem d_Lw_law_302 : decode cc_Lw_law 302 = .ok (.iconst 0, 1) := by decide +kernel
theorem d_Lw_law_303 : decode cc_Lw_law 303 = .ok (.ireturn, 1) := by decide +kernel
theorem d_Lw_law_304 : decode cc_Lw_law 304 = .ok (.goto 725, 3) := by decide +kernel
theorem d_Lw_law_307 : decode cc_Lw_law 307 = .ok (.aload_n 1, 1) := by decide +kernel
theorem d_Lw_law_308 : decode cc_Lw_law 308 = .ok (.aload_n 0, 1) := by decide +kernel
theorem d_Lw_law_309 : decode cc_Lw_law 309 = .ok (.iload 4, 2) := by decide +kernel
theorem d_Lw_law_311 : decode cc_Lw_law 311 = .ok (.iconst 1, 1) := by decide +kernel
theorem d_Lw_law_312 : decode cc_Lw_law 312 = .ok (.iadd, 1) := by decide +kernel
theorem d_Lw_law_313 : decode cc_Lw_law 313 = .ok (.iaload, 1) := by decide +kernel
theorem d_Lw_law_314 : decode cc_Lw_law 314 = .ok (.aload_n 0, 1) := by decide +kernel
theorem d_Lw_law_315 : decode cc_Lw_law 315 = .ok (.iload 4, 2) := by decide +kernel
theorem d_Lw_law_317 : decode cc_Lw_law 317 = .ok (.iconst 2, 1) := by decide +kernel
theorem d_Lw_law_318 : decode cc_Lw_law 318 = .ok (.iadd, 1) := by decide +kernel
theorem d_Lw_law_319 : decode cc_Lw_law 319 = .ok (.iaload, 1) := by decide +kernel
theorem d_Lw_law_320 : decode cc_Lw_law 320 = .ok (.aload_n 3, 1) := by decide +kernel
theorem d_Lw_law_321 : decode cc_Lw_law 321 = .ok (.invokestatic 91, 3) := by decide +kernel
theorem d_Lw_law_324 : decode cc_Lw_law 324 = .ok (.istore 5, 2) := by decide +kernel
theorem d_Lw_law_326 : decode cc_Lw_law 326 = .ok (.aload_n 2, 1) := by decide +kernel
theorem d_Lw_law_327 : decode cc_Lw_law 327 = .ok (.aload_n 0, 1) := by decide +kernel
theorem d_Lw_law_328 : decode cc_Lw_law 328 = .ok (.iload 4, 2) := by decide +kernel
theorem d_Lw_law_330 : decode cc_Lw_law 330 = .ok (.iconst 1, 1) := by decide +kernel
theorem d_Lw_law_331 : decode cc_Lw_law 331 = .ok (.iadd, 1) := by decide +kernel
theorem d_Lw_law_332 : decode cc_Lw_law 332 = .ok (.iaload, 1) := by decide +kernel
theorem d_Lw_law_333 : decode cc_Lw_law 333 = .ok (.aload_n 0, 1) := by decide +kernel
theorem d_Lw_law_334 : decode cc_Lw_law 334 = .ok (.iload 4, 2) := by decide +kernel
theorem d_Lw_law_336 : decode cc_Lw_law 336 = .ok (.iconst 2, 1) := by decide +kernel
theorem d_Lw_law_337 : decode cc_Lw_law 337 = .ok (.iadd, 1) := by decide +kernel
theorem d_Lw_law_338 : decode cc_Lw_law 338 = .ok (.iaload, 1) := by decide +kernel
theorem d_Lw_law_339 : decode cc_Lw_law 339 = .ok (.invokevirtual 94, 3) := by decide +kernel
theorem d_Lw_law_342 : decode cc_Lw_law 342 = .ok (.lstore 6, 2) := by decide +kernel
theorem d_Lw_law_344 : decode cc_Lw_law 344 = .ok (.aload_n 2, 1) := by decide +kernel
theorem d_Lw_law_345 : decode cc_Lw_law 345 = .ok (.invokevirtual 81, 3) := by decide +kernel
theorem d_Lw_law_348 : decode cc_Lw_law 348 = .ok (.iload 5, 2) := by decide +kernel
theorem d_Lw_law_350 : decode cc_Lw_law 350 = .ok (.if_icmp .eq 5, 3) := by decide +kernel
theorem d_Lw_law_353 : decode cc_Lw_law 353 = .ok (.iconst 0, 1) := by decide +kernel
theorem d_Lw_law_354 : decode cc_Lw_law 354 = .ok (.ireturn, 1) := by decide +kernel
theorem d_Lw_law_355 : decode cc_Lw_law 355 = .ok (.iload 5, 2) := by decide +kernel
theorem d_Lw_law_357 : decode cc_Lw_law 357 = .ok (.ifCond .ne 14, 3) := by decide +kernel
theorem d_Lw_law_360 : decode cc_Lw_law 360 = .ok (.aload_n 3, 1) := by decide +kernel
theorem d_Lw_law_361 : decode cc_Lw_law 361 = .ok (.iconst 0, 1) := by decide +kernel
theorem d_Lw_law_362 : decode cc_Lw_law 362 = .ok (.laload, 1) := by decide +kernel
theorem d_Lw_law_363 : decode cc_Lw_law 363 = .ok (.lload 6, 2) := by decide +kernel
theorem d_Lw_law_365 : decode cc_Lw_law 365 = .ok (.lcmp, 1) := by decide +kernel
theorem d_Lw_law_366 : decode cc_Lw_law 366 = .ok (.ifCond .eq 5, 3) := by decide +kernel
theorem d_Lw_law_369 : decode cc_Lw_law 369 = .ok (.iconst 0, 1) := by decide +kernel
theorem d_Lw_law_370 : decode cc_Lw_law 370 = .ok (.ireturn, 1) := by decide +kernel
theorem d_Lw_law_371 : decode cc_Lw_law 371 = .ok (.goto 658, 3) := by decide +kernel
theorem d_Lw_law_374 : decode cc_Lw_law 374 = .ok (.aload_n 1, 1) := by decide +kernel
theorem d_Lw_law_375 : decode cc_Lw_law 375 = .ok (.aload_n 0, 1) := by decide +kernel
theorem d_Lw_law_376 : decode cc_Lw_law 376 = .ok (.iload 4, 2) := by decide +kernel
theorem d_Lw_law_378 : decode cc_Lw_law 378 = .ok (.iconst 1, 1) := by decide +kernel
theorem d_Lw_law_379 : decode cc_Lw_law 379 = .ok (.iadd, 1) := by decide +kernel
theorem d_Lw_law_380 : decode cc_Lw_law 380 = .ok (.iaload, 1) := by decide +kernel
theorem d_Lw_law_381 : decode cc_Lw_law 381 = .ok (.aload_n 0, 1) := by decide +kernel
theorem d_Lw_law_382 : decode cc_Lw_law 382 = .ok (.iload 4, 2) := by decide +kernel
theorem d_Lw_law_384 : decode cc_Lw_law 384 = .ok (.iconst 2, 1) := by decide +kernel
theorem d_Lw_law_385 : decode cc_Lw_law 385 = .ok (.iadd, 1) := by decide +kernel
theorem d_Lw_law_386 : decode cc_Lw_law 386 = .ok (.iaload, 1) := by decide +kernel
theorem d_Lw_law_387 : decode cc_Lw_law 387 = .ok (.aload_n 0, 1) := by decide +kernel
theorem d_Lw_law_388 : decode cc_Lw_law 388 = .ok (.iload 4, 2) := by decide +kernel
theorem d_Lw_law_390 : decode cc_Lw_law 390 = .ok (.iconst 3, 1) := by decide +kernel
theorem d_Lw_law_391 : decode cc_Lw_law 391 = .ok (.iadd, 1) := by decide +kernel
theorem d_Lw_law_392 : decode cc_Lw_law 392 = .ok (.iaload, 1) := by decide +kernel
theorem d_Lw_law_393 : decode cc_Lw_law 393 = .ok (.aload_n 0, 1) := by decide +kernel
theorem d_Lw_law_394 : decode cc_Lw_law 394 = .ok (.iload 4, 2) := by decide +kernel
theorem d_Lw_law_396 : decode cc_Lw_law 396 = .ok (.iconst 4, 1) := by decide +kernel
theorem d_Lw_law_397 : decode cc_Lw_law 397 = .ok (.iadd, 1) := by decide +kernel
theorem d_Lw_law_398 : decode cc_Lw_law 398 = .ok (.iaload, 1) := by decide +kernel
theorem d_Lw_law_399 : decode cc_Lw_law 399 = .ok (.aload_n 0, 1) := by decide +kernel
theorem d_Lw_law_400 : decode cc_Lw_law 400 = .ok (.iload 4, 2) := by decide +kernel
theorem d_Lw_law_402 : decode cc_Lw_law 402 = .ok (.iconst 5, 1) := by decide +kernel
theorem d_Lw_law_403 : decode cc_Lw_law 403 = .ok (.iadd, 1) := by decide +kernel
theorem d_Lw_law_404 : decode cc_Lw_law 404 = .ok (.iaload, 1) := by decide +kernel
theorem d_Lw_law_405 : decode cc_Lw_law 405 = .ok (.aload_n 3, 1) := by decide +kernel
theorem d_Lw_law_406 : decode cc_Lw_law 406 = .ok (.invokestatic 95, 3) := by decide +kernel
theorem d_Lw_law_409 : decode cc_Lw_law 409 = .ok (.istore 5, 2) := by decide +kernel
theorem d_Lw_law_411 : decode cc_Lw_law 411 = .ok (.aload_n 2, 1) := by decide +kernel
theorem d_Lw_law_412 : decode cc_Lw_law 412 = .ok (.aload_n 0, 1) := by decide +kernel
theorem d_Lw_law_413 : decode cc_Lw_law 413 = .ok (.iload 4, 2) := by decide +kernel
theorem d_Lw_law_415 : decode cc_Lw_law 415 = .ok (.iconst 1, 1) := by decide +kernel
theorem d_Lw_law_416 : decode cc_Lw_law 416 = .ok (.iadd, 1) := by decide +kernel
theorem d_Lw_law_417 : decode cc_Lw_law 417 = .ok (.iaload, 1) := by decide +kernel
theorem d_Lw_law_418 : decode cc_Lw_law 418 = .ok (.aload_n 0, 1) := by decide +kernel
theorem d_Lw_law_419 : decode cc_Lw_law 419 = .ok (.iload 4, 2) := by decide +kernel
theorem d_Lw_law_421 : decode cc_Lw_law 421 = .ok (.iconst 2, 1) := by decide +kernel
theorem d_Lw_law_422 : decode cc_Lw_law 422 = .ok (.iadd, 1) := by decide +kernel
theorem d_Lw_law_423 : decode cc_Lw_law 423 = .ok (.iaload, 1) := by decide +kernel
theorem d_Lw_law_424 : decode cc_Lw_law 424 = .ok (.aload_n 0, 1) := by decide +kernel
theorem d_Lw_law_425 : decode cc_Lw_law 425 = .ok (.iload 4, 2) := by decide +kernel
theorem d_Lw_law_427 : decode cc_Lw_law 427 = .ok (.iconst 3, 1) := by decide +kernel
theorem d_Lw_law_428 : decode cc_Lw_law 428 = .ok (.iadd, 1) := by decide +kernel
theorem d_Lw_law_429 : decode cc_Lw_law 429 = .ok (.iaload, 1) := by decide +kernel
theorem d_Lw_law_430 : decode cc_Lw_law 430 = .ok (.aload_n 0, 1) := by decide +kernel
theorem d_Lw_law_431 : decode cc_Lw_law 431 = .ok (.iload 4, 2) := by decide +kernel
theorem d_Lw_law_433 : decode cc_Lw_law 433 = .ok (.iconst 4, 1) := by decide +kernel
theorem d_Lw_law_434 : decode cc_Lw_law 434 = .ok (.iadd, 1) := by decide +kernel
theorem d_Lw_law_435 : decode cc_Lw_law 435 = .ok (.iaload, 1) := by decide +kernel
theorem d_Lw_law_436 : decode cc_Lw_law 436 = .ok (.aload_n 0, 1) := by decide +kernel
theorem d_Lw_law_437 : decode cc_Lw_law 437 = .ok (.iload 4, 2) := by decide +kernel
theorem d_Lw_law_439 : decode cc_Lw_law 439 = .ok (.iconst 5, 1) := by decide +kernel
theorem d_Lw_law_440 : decode cc_Lw_law 440 = .ok (.iadd, 1) := by decide +kernel
theorem d_Lw_law_441 : decode cc_Lw_law 441 = .ok (.iaload, 1) := by decide +kernel
theorem d_Lw_law_442 : decode cc_Lw_law 442 = .ok (.invokevirtual 98, 3) := by decide +kernel
theorem d_Lw_law_445 : decode cc_Lw_law 445 = .ok (.istore 6, 2) := by decide +kernel
theorem d_Lw_law_447 : decode cc_Lw_law 447 = .ok (.aload_n 2, 1) := by decide +kernel
theorem d_Lw_law_448 : decode cc_Lw_law 448 = .ok (.invokevirtual 81, 3) := by decide +kernel
theorem d_Lw_law_451 : decode cc_Lw_law 451 = .ok (.iload 5, 2) := by decide +kernel
theorem d_Lw_law_453 : decode cc_Lw_law 453 = .ok (.if_icmp .eq 5, 3) := by decide +kernel
theorem d_Lw_law_456 : decode cc_Lw_law 456 = .ok (.iconst 0, 1) := by decide +kernel
theorem d_Lw_law_457 : decode cc_Lw_law 457 = .ok (.ireturn, 1) := by decide +kernel
theorem d_Lw_law_458 : decode cc_Lw_law 458 = .ok (.iload 5, 2) := by decide +kernel
theorem d_Lw_law_460 : decode cc_Lw_law 460 = .ok (.ifCond .ne 15, 3) := by decide +kernel
theorem d_Lw_law_463 : decode cc_Lw_law 463 = .ok (.aload_n 3, 1) := by decide +kernel
theorem d_Lw_law_464 : decode cc_Lw_law 464 = .ok (.iconst 0, 1) := by decide +kernel
theorem d_Lw_law_465 : decode cc_Lw_law 465 = .ok (.laload, 1) := by decide +kernel
theorem d_Lw_law_466 : decode cc_Lw_law 466 = .ok (.iload 6, 2) := by decide +kernel
theorem d_Lw_law_468 : decode cc_Lw_law 468 = .ok (.i2l, 1) := by decide +kernel
theorem d_Lw_law_469 : decode cc_Lw_law 469 = .ok (.lcmp, 1) := by decide +kernel
theorem d_Lw_law_470 : decode cc_Lw_law 470 = .ok (.ifCond .eq 5, 3) := by decide +kernel
theorem d_Lw_law_473 : decode cc_Lw_law 473 = .ok (.iconst 0, 1) := by decide +kernel
theorem d_Lw_law_474 : decode cc_Lw_law 474 = .ok (.ireturn, 1) := by decide +kernel
theorem d_Lw_law_475 : decode cc_Lw_law 475 = .ok (.goto 554, 3) := by decide +kernel
theorem d_Lw_law_478 : decode cc_Lw_law 478 = .ok (.aload_n 1, 1) := by decide +kernel
theorem d_Lw_law_479 : decode cc_Lw_law 479 = .ok (.aload_n 0, 1) := by decide +kernel
theorem d_Lw_law_480 : decode cc_Lw_law 480 = .ok (.iload 4, 2) := by decide +kernel
theorem d_Lw_law_482 : decode cc_Lw_law 482 = .ok (.iconst 1, 1) := by decide +kernel
theorem d_Lw_law_483 : decode cc_Lw_law 483 = .ok (.iadd, 1) := by decide +kernel
theorem d_Lw_law_484 : decode cc_Lw_law 484 = .ok (.iaload, 1) := by decide +kernel
theorem d_Lw_law_485 : decode cc_Lw_law 485 = .ok (.aload_n 3, 1) := by decide +kernel
theorem d_Lw_law_486 : decode cc_Lw_law 486 = .ok (.invokestatic 99, 3) := by decide +kernel
theorem d_Lw_law_489 : decode cc_Lw_law 489 = .ok (.istore 5, 2) := by decide +kernel
theorem d_Lw_law_491 : decode cc_Lw_law 491 = .ok (.aload_n 2, 1) := by decide +kernel
theorem d_Lw_law_492 : decode cc_Lw_law 492 = .ok (.aload_n 0, 1) := by decide +kernel
theorem d_Lw_law_493 : decode cc_Lw_law 493 = .ok (.iload 4, 2) := by decide +kernel
theorem d_Lw_law_495 : decode cc_Lw_law 495 = .ok (.iconst 1, 1) := by decide +kernel
theorem d_Lw_law_496 : decode cc_Lw_law 496 = .ok (.iadd, 1) := by decide +kernel
theorem d_Lw_law_497 : decode cc_Lw_law 497 = .ok (.iaload, 1) := by decide +kernel
theorem d_Lw_law_498 : decode cc_Lw_law 498 = .ok (.invokevirtual 102, 3) := by decide +kernel
theorem d_Lw_law_501 : decode cc_Lw_law 501 = .ok (.istore 6, 2) := by decide +kernel
theorem d_Lw_law_503 : decode cc_Lw_law 503 = .ok (.aload_n 2, 1) := by decide +kernel
theorem d_Lw_law_504 : decode cc_Lw_law 504 = .ok (.invokevirtual 81, 3) := by decide +kernel
theorem d_Lw_law_507 : decode cc_Lw_law 507 = .ok (.iload 5, 2) := by decide +kernel
theorem d_Lw_law_509 : decode cc_Lw_law 509 = .ok (.if_icmp .eq 5, 3) := by decide +kernel
theorem d_Lw_law_512 : decode cc_Lw_law 512 = .ok (.iconst 0, 1) := by decide +kernel
theorem d_Lw_law_513 : decode cc_Lw_law 513 = .ok (.ireturn, 1) := by decide +kernel
theorem d_Lw_law_514 : decode cc_Lw_law 514 = .ok (.iload 5, 2) := by decide +kernel
theorem d_Lw_law_516 : decode cc_Lw_law 516 = .ok (.ifCond .ne 15, 3) := by decide +kernel
theorem d_Lw_law_519 : decode cc_Lw_law 519 = .ok (.aload_n 3, 1) := by decide +kernel
theorem d_Lw_law_520 : decode cc_Lw_law 520 = .ok (.iconst 0, 1) := by decide +kernel
theorem d_Lw_law_521 : decode cc_Lw_law 521 = .ok (.laload, 1) := by decide +kernel
theorem d_Lw_law_522 : decode cc_Lw_law 522 = .ok (.iload 6, 2) := by decide +kernel
theorem d_Lw_law_524 : decode cc_Lw_law 524 = .ok (.i2l, 1) := by decide +kernel
theorem d_Lw_law_525 : decode cc_Lw_law 525 = .ok (.lcmp, 1) := by decide +kernel
theorem d_Lw_law_526 : decode cc_Lw_law 526 = .ok (.ifCond .eq 5, 3) := by decide +kernel
theorem d_Lw_law_529 : decode cc_Lw_law 529 = .ok (.iconst 0, 1) := by decide +kernel
theorem d_Lw_law_530 : decode cc_Lw_law 530 = .ok (.ireturn, 1) := by decide +kernel
theorem d_Lw_law_531 : decode cc_Lw_law 531 = .ok (.goto 498, 3) := by decide +kernel
theorem d_Lw_law_534 : decode cc_Lw_law 534 = .ok (.aload_n 1, 1) := by decide +kernel
theorem d_Lw_law_535 : decode cc_Lw_law 535 = .ok (.aload_n 0, 1) := by decide +kernel
theorem d_Lw_law_536 : decode cc_Lw_law 536 = .ok (.iload 4, 2) := by decide +kernel
theorem d_Lw_law_538 : decode cc_Lw_law 538 = .ok (.iconst 1, 1) := by decide +kernel
theorem d_Lw_law_539 : decode cc_Lw_law 539 = .ok (.iadd, 1) := by decide +kernel
theorem d_Lw_law_540 : decode cc_Lw_law 540 = .ok (.iaload, 1) := by decide +kernel
theorem d_Lw_law_541 : decode cc_Lw_law 541 = .ok (.aload_n 3, 1) := by decide +kernel
theorem d_Lw_law_542 : decode cc_Lw_law 542 = .ok (.invokestatic 103, 3) := by decide +kernel
theorem d_Lw_law_545 : decode cc_Lw_law 545 = .ok (.istore 5, 2) := by decide +kernel
theorem d_Lw_law_547 : decode cc_Lw_law 547 = .ok (.aload_n 2, 1) := by decide +kernel
theorem d_Lw_law_548 : decode cc_Lw_law 548 = .ok (.aload_n 0, 1) := by decide +kernel
theorem d_Lw_law_549 : decode cc_Lw_law 549 = .ok (.iload 4, 2) := by decide +kernel
theorem d_Lw_law_551 : decode cc_Lw_law 551 = .ok (.iconst 1, 1) := by decide +kernel
theorem d_Lw_law_552 : decode cc_Lw_law 552 = .ok (.iadd, 1) := by decide +kernel
theorem d_Lw_law_553 : decode cc_Lw_law 553 = .ok (.iaload, 1) := by decide +kernel
theorem d_Lw_law_554 : decode cc_Lw_law 554 = .ok (.invokevirtual 105, 3) := by decide +kernel
theorem d_Lw_law_557 : decode cc_Lw_law 557 = .ok (.istore 6, 2) := by decide +kernel
theorem d_Lw_law_559 : decode cc_Lw_law 559 = .ok (.aload_n 2, 1) := by decide +kernel
theorem d_Lw_law_560 : decode cc_Lw_law 560 = .ok (.invokevirtual 81, 3) := by decide +kernel
theorem d_Lw_law_563 : decode cc_Lw_law 563 = .ok (.iload 5, 2) := by decide +kernel
theorem d_Lw_law_565 : decode cc_Lw_law 565 = .ok (.if_icmp .eq 5, 3) := by decide +kernel
theorem d_Lw_law_568 : decode cc_Lw_law 568 = .ok (.iconst 0, 1) := by decide +kernel
theorem d_Lw_law_569 : decode cc_Lw_law 569 = .ok (.ireturn, 1) := by decide +kernel
theorem d_Lw_law_570 : decode cc_Lw_law 570 = .ok (.iload 5, 2) := by decide +kernel
theorem d_Lw_law_572 : decode cc_Lw_law 572 = .ok (.ifCond .ne 15, 3) := by decide +kernel
theorem d_Lw_law_575 : decode cc_Lw_law 575 = .ok (.aload_n 3, 1) := by decide +kernel
theorem d_Lw_law_576 : decode cc_Lw_law 576 = .ok (.iconst 0, 1) := by decide +kernel
theorem d_Lw_law_577 : decode cc_Lw_law 577 = .ok (.laload, 1) := by decide +kernel
theorem d_Lw_law_578 : decode cc_Lw_law 578 = .ok (.iload 6, 2) := by decide +kernel
theorem d_Lw_law_580 : decode cc_Lw_law 580 = .ok (.i2l, 1) := by decide +kernel
theorem d_Lw_law_581 : decode cc_Lw_law 581 = .ok (.lcmp, 1) := by decide +kernel
theorem d_Lw_law_582 : decode cc_Lw_law 582 = .ok (.ifCond .eq 5, 3) := by decide +kernel
theorem d_Lw_law_585 : decode cc_Lw_law 585 = .ok (.iconst 0, 1) := by decide +kernel
theorem d_Lw_law_586 : decode cc_Lw_law 586 = .ok (.ireturn, 1) := by decide +kernel
theorem d_Lw_law_587 : decode cc_Lw_law 587 = .ok (.goto 442, 3) := by decide +kernel
theorem d_Lw_law_590 : decode cc_Lw_law 590 = .ok (.aload_n 1, 1) := by decide +kernel
theorem d_Lw_law_591 : decode cc_Lw_law 591 = .ok (.aload_n 0, 1) := by decide +kernel
theorem d_Lw_law_592 : decode cc_Lw_law 592 = .ok (.iload 4, 2) := by decide +kernel
theorem d_Lw_law_594 : decode cc_Lw_law 594 = .ok (.iconst 1, 1) := by decide +kernel
theorem d_Lw_law_595 : decode cc_Lw_law 595 = .ok (.iadd, 1) := by decide +kernel
theorem d_Lw_law_596 : decode cc_Lw_law 596 = .ok (.iaload, 1) := by decide +kernel
theorem d_Lw_law_597 : decode cc_Lw_law 597 = .ok (.aload_n 3, 1) := by decide +kernel
theorem d_Lw_law_598 : decode cc_Lw_law 598 = .ok (.invokestatic 106, 3) := by decide +kernel
theorem d_Lw_law_601 : decode cc_Lw_law 601 = .ok (.istore 5, 2) := by decide +kernel
theorem d_Lw_law_603 : decode cc_Lw_law 603 = .ok (.aload_n 2, 1) := by decide +kernel
theorem d_Lw_law_604 : decode cc_Lw_law 604 = .ok (.aload_n 0, 1) := by decide +kernel
theorem d_Lw_law_605 : decode cc_Lw_law 605 = .ok (.iload 4, 2) := by decide +kernel
theorem d_Lw_law_607 : decode cc_Lw_law 607 = .ok (.iconst 1, 1) := by decide +kernel
theorem d_Lw_law_608 : decode cc_Lw_law 608 = .ok (.iadd, 1) := by decide +kernel
theorem d_Lw_law_609 : decode cc_Lw_law 609 = .ok (.iaload, 1) := by decide +kernel
theorem d_Lw_law_610 : decode cc_Lw_law 610 = .ok (.invokevirtual 108, 3) := by decide +kernel
theorem d_Lw_law_613 : decode cc_Lw_law 613 = .ok (.lstore 6, 2) := by decide +kernel
theorem d_Lw_law_615 : decode cc_Lw_law 615 = .ok (.aload_n 2, 1) := by decide +kernel
theorem d_Lw_law_616 : decode cc_Lw_law 616 = .ok (.invokevirtual 81, 3) := by decide +kernel
theorem d_Lw_law_619 : decode cc_Lw_law 619 = .ok (.iload 5, 2) := by decide +kernel
theorem d_Lw_law_621 : decode cc_Lw_law 621 = .ok (.if_icmp .eq 5, 3) := by decide +kernel
theorem d_Lw_law_624 : decode cc_Lw_law 624 = .ok (.iconst 0, 1) := by decide +kernel
theorem d_Lw_law_625 : decode cc_Lw_law 625 = .ok (.ireturn, 1) := by decide +kernel
theorem d_Lw_law_626 : decode cc_Lw_law 626 = .ok (.iload 5, 2) := by decide +kernel
theorem d_Lw_law_628 : decode cc_Lw_law 628 = .ok (.ifCond .ne 14, 3) := by decide +kernel
theorem d_Lw_law_631 : decode cc_Lw_law 631 = .ok (.aload_n 3, 1) := by decide +kernel
theorem d_Lw_law_632 : decode cc_Lw_law 632 = .ok (.iconst 0, 1) := by decide +kernel
theorem d_Lw_law_633 : decode cc_Lw_law 633 = .ok (.laload, 1) := by decide +kernel
theorem d_Lw_law_634 : decode cc_Lw_law 634 = .ok (.lload 6, 2) := by decide +kernel
theorem d_Lw_law_636 : decode cc_Lw_law 636 = .ok (.lcmp, 1) := by decide +kernel
theorem d_Lw_law_637 : decode cc_Lw_law 637 = .ok (.ifCond .eq 5, 3) := by decide +kernel
theorem d_Lw_law_640 : decode cc_Lw_law 640 = .ok (.iconst 0, 1) := by decide +kernel
theorem d_Lw_law_641 : decode cc_Lw_law 641 = .ok (.ireturn, 1) := by decide +kernel
theorem d_Lw_law_642 : decode cc_Lw_law 642 = .ok (.goto 387, 3) := by decide +kernel
theorem d_Lw_law_645 : decode cc_Lw_law 645 = .ok (.aload_n 1, 1) := by decide +kernel
theorem d_Lw_law_646 : decode cc_Lw_law 646 = .ok (.aload_n 0, 1) := by decide +kernel
theorem d_Lw_law_647 : decode cc_Lw_law 647 = .ok (.iload 4, 2) := by decide +kernel
theorem d_Lw_law_649 : decode cc_Lw_law 649 = .ok (.iconst 1, 1) := by decide +kernel
theorem d_Lw_law_650 : decode cc_Lw_law 650 = .ok (.iadd, 1) := by decide +kernel
theorem d_Lw_law_651 : decode cc_Lw_law 651 = .ok (.iaload, 1) := by decide +kernel
theorem d_Lw_law_652 : decode cc_Lw_law 652 = .ok (.aload_n 3, 1) := by decide +kernel
theorem d_Lw_law_653 : decode cc_Lw_law 653 = .ok (.invokestatic 109, 3) := by decide +kernel
theorem d_Lw_law_656 : decode cc_Lw_law 656 = .ok (.istore 5, 2) := by decide +kernel
theorem d_Lw_law_658 : decode cc_Lw_law 658 = .ok (.aload_n 2, 1) := by decide +kernel
theorem d_Lw_law_659 : decode cc_Lw_law 659 = .ok (.aload_n 0, 1) := by decide +kernel
theorem d_Lw_law_660 : decode cc_Lw_law 660 = .ok (.iload 4, 2) := by decide +kernel
theorem d_Lw_law_662 : decode cc_Lw_law 662 = .ok (.iconst 1, 1) := by decide +kernel
theorem d_Lw_law_663 : decode cc_Lw_law 663 = .ok (.iadd, 1) := by decide +kernel
theorem d_Lw_law_664 : decode cc_Lw_law 664 = .ok (.iaload, 1) := by decide +kernel
theorem d_Lw_law_665 : decode cc_Lw_law 665 = .ok (.invokevirtual 111, 3) := by decide +kernel
theorem d_Lw_law_668 : decode cc_Lw_law 668 = .ok (.istore 6, 2) := by decide +kernel
theorem d_Lw_law_670 : decode cc_Lw_law 670 = .ok (.aload_n 2, 1) := by decide +kernel
theorem d_Lw_law_671 : decode cc_Lw_law 671 = .ok (.invokevirtual 81, 3) := by decide +kernel
theorem d_Lw_law_674 : decode cc_Lw_law 674 = .ok (.iload 5, 2) := by decide +kernel
theorem d_Lw_law_676 : decode cc_Lw_law 676 = .ok (.if_icmp .eq 5, 3) := by decide +kernel
theorem d_Lw_law_679 : decode cc_Lw_law 679 = .ok (.iconst 0, 1) := by decide +kernel
theorem d_Lw_law_680 : decode cc_Lw_law 680 = .ok (.ireturn, 1) := by decide +kernel
theorem d_Lw_law_681 : decode cc_Lw_law 681 = .ok (.iload 5, 2) := by decide +kernel
theorem d_Lw_law_683 : decode cc_Lw_law 683 = .ok (.ifCond .ne 15, 3) := by decide +kernel
theorem d_Lw_law_686 : decode cc_Lw_law 686 = .ok (.aload_n 3, 1) := by decide +kernel
theorem d_Lw_law_687 : decode cc_Lw_law 687 = .ok (.iconst 0, 1) := by decide +kernel
theorem d_Lw_law_688 : decode cc_Lw_law 688 = .ok (.laload, 1) := by decide +kernel
theorem d_Lw_law_689 : decode cc_Lw_law 689 = .ok (.iload 6, 2) := by decide +kernel
theorem d_Lw_law_691 : decode cc_Lw_law 691 = .ok (.i2l, 1) := by decide +kernel
theorem d_Lw_law_692 : decode cc_Lw_law 692 = .ok (.lcmp, 1) := by decide +kernel
theorem d_Lw_law_693 : decode cc_Lw_law 693 = .ok (.ifCond .eq 5, 3) := by decide +kernel
theorem d_Lw_law_696 : decode cc_Lw_law 696 = .ok (.iconst 0, 1) := by decide +kernel
theorem d_Lw_law_697 : decode cc_Lw_law 697 = .ok (.ireturn, 1) := by decide +kernel
theorem d_Lw_law_698 : decode cc_Lw_law 698 = .ok (.goto 331, 3) := by decide +kernel
theorem d_Lw_law_701 : decode cc_Lw_law 701 = .ok (.aload_n 1, 1) := by decide +kernel
theorem d_Lw_law_702 : decode cc_Lw_law 702 = .ok (.aload_n 0, 1) := by decide +kernel
theorem d_Lw_law_703 : decode cc_Lw_law 703 = .ok (.iload 4, 2) := by decide +kernel
theorem d_Lw_law_705 : decode cc_Lw_law 705 = .ok (.iconst 1, 1) := by decide +kernel
theorem d_Lw_law_706 : decode cc_Lw_law 706 = .ok (.iadd, 1) := by decide +kernel
theorem d_Lw_law_707 : decode cc_Lw_law 707 = .ok (.iaload, 1) := by decide +kernel
theorem d_Lw_law_708 : decode cc_Lw_law 708 = .ok (.aload_n 0, 1) := by decide +kernel
theorem d_Lw_law_709 : decode cc_Lw_law 709 = .ok (.iload 4, 2) := by decide +kernel
theorem d_Lw_law_711 : decode cc_Lw_law 711 = .ok (.iconst 2, 1) := by decide +kernel
theorem d_Lw_law_712 : decode cc_Lw_law 712 = .ok (.iadd, 1) := by decide +kernel
theorem d_Lw_law_713 : decode cc_Lw_law 713 = .ok (.iaload, 1) := by decide +kernel
theorem d_Lw_law_714 : decode cc_Lw_law 714 = .ok (.aload_n 3, 1) := by decide +kernel
theorem d_Lw_law_715 : decode cc_Lw_law 715 = .ok (.invokestatic 112, 3) := by decide +kernel
theorem d_Lw_law_718 : decode cc_Lw_law 718 = .ok (.istore 5, 2) := by decide +kernel
theorem d_Lw_law_720 : decode cc_Lw_law 720 = .ok (.aload_n 2, 1) := by decide +kernel
theorem d_Lw_law_721 : decode cc_Lw_law 721 = .ok (.aload_n 0, 1) := by decide +kernel
theorem d_Lw_law_722 : decode cc_Lw_law 722 = .ok (.iload 4, 2) := by decide +kernel
theorem d_Lw_law_724 : decode cc_Lw_law 724 = .ok (.iconst 1, 1) := by decide +kernel
theorem d_Lw_law_725 : decode cc_Lw_law 725 = .ok (.iadd, 1) := by decide +kernel
theorem d_Lw_law_726 : decode cc_Lw_law 726 = .ok (.iaload, 1) := by decide +kernel
theorem d_Lw_law_727 : decode cc_Lw_law 727 = .ok (.aload_n 0, 1) := by decide +kernel
theorem d_Lw_law_728 : decode cc_Lw_law 728 = .ok (.iload 4, 2) := by decide +kernel
theorem d_Lw_law_730 : decode cc_Lw_law 730 = .ok (.iconst 2, 1) := by decide +kernel
theorem d_Lw_law_731 : decode cc_Lw_law 731 = .ok (.iadd, 1) := by decide +kernel
theorem d_Lw_law_732 : decode cc_Lw_law 732 = .ok (.iaload, 1) := by decide +kernel
theorem d_Lw_law_733 : decode cc_Lw_law 733 = .ok (.invokevirtual 114, 3) := by decide +kernel
theorem d_Lw_law_736 : decode cc_Lw_law 736 = .ok (.istore 6, 2) := by decide +kernel
theorem d_Lw_law_738 : decode cc_Lw_law 738 = .ok (.aload_n 2, 1) := by decide +kernel
theorem d_Lw_law_739 : decode cc_Lw_law 739 = .ok (.invokevirtual 81, 3) := by decide +kernel
theorem d_Lw_law_742 : decode cc_Lw_law 742 = .ok (.iload 5, 2) := by decide +kernel
theorem d_Lw_law_744 : decode cc_Lw_law 744 = .ok (.if_icmp .eq 5, 3) := by decide +kernel
theorem d_Lw_law_747 : decode cc_Lw_law 747 = .ok (.iconst 0, 1) := by decide +kernel
theorem d_Lw_law_748 : decode cc_Lw_law 748 = .ok (.ireturn, 1) := by decide +kernel
theorem d_Lw_law_749 : decode cc_Lw_law 749 = .ok (.iload 5, 2) := by decide +kernel
theorem d_Lw_law_751 : decode cc_Lw_law 751 = .ok (.ifCond .ne 15, 3) := by decide +kernel
theorem d_Lw_law_754 : decode cc_Lw_law 754 = .ok (.aload_n 3, 1) := by decide +kernel
theorem d_Lw_law_755 : decode cc_Lw_law 755 = .ok (.iconst 0, 1) := by decide +kernel
theorem d_Lw_law_756 : decode cc_Lw_law 756 = .ok (.laload, 1) := by decide +kernel
theorem d_Lw_law_757 : decode cc_Lw_law 757 = .ok (.iload 6, 2) := by decide +kernel
theorem d_Lw_law_759 : decode cc_Lw_law 759 = .ok (.i2l, 1) := by decide +kernel
theorem d_Lw_law_760 : decode cc_Lw_law 760 = .ok (.lcmp, 1) := by decide +kernel
theorem d_Lw_law_761 : decode cc_Lw_law 761 = .ok (.ifCond .eq 5, 3) := by decide +kernel
theorem d_Lw_law_764 : decode cc_Lw_law 764 = .ok (.iconst 0, 1) := by decide +kernel
theorem d_Lw_law_765 : decode cc_Lw_law 765 = .ok (.ireturn, 1) := by decide +kernel
theorem d_Lw_law_766 : decode cc_Lw_law 766 = .ok (.goto 263, 3) := by decide +kernel
theorem d_Lw_law_769 : decode cc_Lw_law 769 = .ok (.aload_n 1, 1) := by decide +kernel
theorem d_Lw_law_770 : decode cc_Lw_law 770 = .ok (.aload_n 0, 1) := by decide +kernel
theorem d_Lw_law_771 : decode cc_Lw_law 771 = .ok (.iload 4, 2) := by decide +kernel
theorem d_Lw_law_773 : decode cc_Lw_law 773 = .ok (.iconst 1, 1) := by decide +kernel
theorem d_Lw_law_774 : decode cc_Lw_law 774 = .ok (.iadd, 1) := by decide +kernel
theorem d_Lw_law_775 : decode cc_Lw_law 775 = .ok (.iaload, 1) := by decide +kernel
theorem d_Lw_law_776 : decode cc_Lw_law 776 = .ok (.aload_n 0, 1) := by decide +kernel
theorem d_Lw_law_777 : decode cc_Lw_law 777 = .ok (.iload 4, 2) := by decide +kernel
theorem d_Lw_law_779 : decode cc_Lw_law 779 = .ok (.iconst 2, 1) := by decide +kernel
theorem d_Lw_law_780 : decode cc_Lw_law 780 = .ok (.iadd, 1) := by decide +kernel
theorem d_Lw_law_781 : decode cc_Lw_law 781 = .ok (.iaload, 1) := by decide +kernel
theorem d_Lw_law_782 : decode cc_Lw_law 782 = .ok (.aload_n 0, 1) := by decide +kernel
theorem d_Lw_law_783 : decode cc_Lw_law 783 = .ok (.iload 4, 2) := by decide +kernel
theorem d_Lw_law_785 : decode cc_Lw_law 785 = .ok (.iconst 3, 1) := by decide +kernel
theorem d_Lw_law_786 : decode cc_Lw_law 786 = .ok (.iadd, 1) := by decide +kernel
theorem d_Lw_law_787 : decode cc_Lw_law 787 = .ok (.iaload, 1) := by decide +kernel
theorem d_Lw_law_788 : decode cc_Lw_law 788 = .ok (.aload_n 3, 1) := by decide +kernel
theorem d_Lw_law_789 : decode cc_Lw_law 789 = .ok (.invokestatic 115, 3) := by decide +kernel
theorem d_Lw_law_792 : decode cc_Lw_law 792 = .ok (.istore 5, 2) := by decide +kernel
theorem d_Lw_law_794 : decode cc_Lw_law 794 = .ok (.aload_n 2, 1) := by decide +kernel
theorem d_Lw_law_795 : decode cc_Lw_law 795 = .ok (.aload_n 0, 1) := by decide +kernel
theorem d_Lw_law_796 : decode cc_Lw_law 796 = .ok (.iload 4, 2) := by decide +kernel
theorem d_Lw_law_798 : decode cc_Lw_law 798 = .ok (.iconst 1, 1) := by decide +kernel
theorem d_Lw_law_799 : decode cc_Lw_law 799 = .ok (.iadd, 1) := by decide +kernel
theorem d_Lw_law_800 : decode cc_Lw_law 800 = .ok (.iaload, 1) := by decide +kernel
theorem d_Lw_law_801 : decode cc_Lw_law 801 = .ok (.aload_n 0, 1) := by decide +kernel
theorem d_Lw_law_802 : decode cc_Lw_law 802 = .ok (.iload 4, 2) := by decide +kernel
theorem d_Lw_law_804 : decode cc_Lw_law 804 = .ok (.iconst 2, 1) := by decide +kernel
theorem d_Lw_law_805 : decode cc_Lw_law 805 = .ok (.iadd, 1) := by decide +kernel
theorem d_Lw_law_806 : decode cc_Lw_law 806 = .ok (.iaload, 1) := by decide +kernel
theorem d_Lw_law_807 : decode cc_Lw_law 807 = .ok (.aload_n 0, 1) := by decide +kernel
theorem d_Lw_law_808 : decode cc_Lw_law 808 = .ok (.iload 4, 2) := by decide +kernel
theorem d_Lw_law_810 : decode cc_Lw_law 810 = .ok (.iconst 3, 1) := by decide +kernel
theorem d_Lw_law_811 : decode cc_Lw_law 811 = .ok (.iadd, 1) := by decide +kernel
theorem d_Lw_law_812 : decode cc_Lw_law 812 = .ok (.iaload, 1) := by decide +kernel
theorem d_Lw_law_813 : decode cc_Lw_law 813 = .ok (.invokevirtual 117, 3) := by decide +kernel
theorem d_Lw_law_816 : decode cc_Lw_law 816 = .ok (.istore 6, 2) := by decide +kernel
theorem d_Lw_law_818 : decode cc_Lw_law 818 = .ok (.aload_n 2, 1) := by decide +kernel
theorem d_Lw_law_819 : decode cc_Lw_law 819 = .ok (.invokevirtual 81, 3) := by decide +kernel
theorem d_Lw_law_822 : decode cc_Lw_law 822 = .ok (.iload 5, 2) := by decide +kernel
theorem d_Lw_law_824 : decode cc_Lw_law 824 = .ok (.if_icmp .eq 5, 3) := by decide +kernel
theorem d_Lw_law_827 : decode cc_Lw_law 827 = .ok (.iconst 0, 1) := by decide +kernel
theorem d_Lw_law_828 : decode cc_Lw_law 828 = .ok (.ireturn, 1) := by decide +kernel
theorem d_Lw_law_829 : decode cc_Lw_law 829 = .ok (.iload 5, 2) := by decide +kernel
theorem d_Lw_law_831 : decode cc_Lw_law 831 = .ok (.ifCond .ne 15, 3) := by decide +kernel
theorem d_Lw_law_834 : decode cc_Lw_law 834 = .ok (.aload_n 3, 1) := by decide +kernel
theorem d_Lw_law_835 : decode cc_Lw_law 835 = .ok (.iconst 0, 1) := by decide +kernel
theorem d_Lw_law_836 : decode cc_Lw_law 836 = .ok (.laload, 1) := by decide +kernel
theorem d_Lw_law_837 : decode cc_Lw_law 837 = .ok (.iload 6, 2) := by decide +kernel
theorem d_Lw_law_839 : decode cc_Lw_law 839 = .ok (.i2l, 1) := by decide +kernel
theorem d_Lw_law_840 : decode cc_Lw_law 840 = .ok (.lcmp, 1) := by decide +kernel
theorem d_Lw_law_841 : decode cc_Lw_law 841 = .ok (.ifCond .eq 5, 3) := by decide +kernel
theorem d_Lw_law_844 : decode cc_Lw_law 844 = .ok (.iconst 0, 1) := by decide +kernel
theorem d_Lw_law_845 : decode cc_Lw_law 845 = .ok (.ireturn, 1) := by decide +kernel
theorem d_Lw_law_846 : decode cc_Lw_law 846 = .ok (.goto 183, 3) := by decide +kernel
theorem d_Lw_law_849 : decode cc_Lw_law 849 = .ok (.aload_n 1, 1) := by decide +kernel
theorem d_Lw_law_850 : decode cc_Lw_law 850 = .ok (.aload_n 0, 1) := by decide +kernel
theorem d_Lw_law_851 : decode cc_Lw_law 851 = .ok (.iload 4, 2) := by decide +kernel
theorem d_Lw_law_853 : decode cc_Lw_law 853 = .ok (.iconst 1, 1) := by decide +kernel
theorem d_Lw_law_854 : decode cc_Lw_law 854 = .ok (.iadd, 1) := by decide +kernel
theorem d_Lw_law_855 : decode cc_Lw_law 855 = .ok (.iaload, 1) := by decide +kernel
theorem d_Lw_law_856 : decode cc_Lw_law 856 = .ok (.aload_n 0, 1) := by decide +kernel
theorem d_Lw_law_857 : decode cc_Lw_law 857 = .ok (.iload 4, 2) := by decide +kernel
theorem d_Lw_law_859 : decode cc_Lw_law 859 = .ok (.iconst 2, 1) := by decide +kernel
theorem d_Lw_law_860 : decode cc_Lw_law 860 = .ok (.iadd, 1) := by decide +kernel
theorem d_Lw_law_861 : decode cc_Lw_law 861 = .ok (.iaload, 1) := by decide +kernel
theorem d_Lw_law_862 : decode cc_Lw_law 862 = .ok (.aload_n 3, 1) := by decide +kernel
theorem d_Lw_law_863 : decode cc_Lw_law 863 = .ok (.invokestatic 118, 3) := by decide +kernel
theorem d_Lw_law_866 : decode cc_Lw_law 866 = .ok (.istore 5, 2) := by decide +kernel
theorem d_Lw_law_868 : decode cc_Lw_law 868 = .ok (.aload_n 2, 1) := by decide +kernel
theorem d_Lw_law_869 : decode cc_Lw_law 869 = .ok (.aload_n 0, 1) := by decide +kernel
theorem d_Lw_law_870 : decode cc_Lw_law 870 = .ok (.iload 4, 2) := by decide +kernel
theorem d_Lw_law_872 : decode cc_Lw_law 872 = .ok (.iconst 1, 1) := by decide +kernel
theorem d_Lw_law_873 : decode cc_Lw_law 873 = .ok (.iadd, 1) := by decide +kernel
theorem d_Lw_law_874 : decode cc_Lw_law 874 = .ok (.iaload, 1) := by decide +kernel
theorem d_Lw_law_875 : decode cc_Lw_law 875 = .ok (.aload_n 0, 1) := by decide +kernel
theorem d_Lw_law_876 : decode cc_Lw_law 876 = .ok (.iload 4, 2) := by decide +kernel
theorem d_Lw_law_878 : decode cc_Lw_law 878 = .ok (.iconst 2, 1) := by decide +kernel
theorem d_Lw_law_879 : decode cc_Lw_law 879 = .ok (.iadd, 1) := by decide +kernel
theorem d_Lw_law_880 : decode cc_Lw_law 880 = .ok (.iaload, 1) := by decide +kernel
theorem d_Lw_law_881 : decode cc_Lw_law 881 = .ok (.invokevirtual 120, 3) := by decide +kernel
theorem d_Lw_law_884 : decode cc_Lw_law 884 = .ok (.istore 6, 2) := by decide +kernel
theorem d_Lw_law_886 : decode cc_Lw_law 886 = .ok (.aload_n 2, 1) := by decide +kernel
theorem d_Lw_law_887 : decode cc_Lw_law 887 = .ok (.invokevirtual 81, 3) := by decide +kernel
theorem d_Lw_law_890 : decode cc_Lw_law 890 = .ok (.iload 5, 2) := by decide +kernel
theorem d_Lw_law_892 : decode cc_Lw_law 892 = .ok (.if_icmp .eq 5, 3) := by decide +kernel
theorem d_Lw_law_895 : decode cc_Lw_law 895 = .ok (.iconst 0, 1) := by decide +kernel
theorem d_Lw_law_896 : decode cc_Lw_law 896 = .ok (.ireturn, 1) := by decide +kernel
theorem d_Lw_law_897 : decode cc_Lw_law 897 = .ok (.iload 5, 2) := by decide +kernel
theorem d_Lw_law_899 : decode cc_Lw_law 899 = .ok (.ifCond .ne 15, 3) := by decide +kernel
theorem d_Lw_law_902 : decode cc_Lw_law 902 = .ok (.aload_n 3, 1) := by decide +kernel
theorem d_Lw_law_903 : decode cc_Lw_law 903 = .ok (.iconst 0, 1) := by decide +kernel
theorem d_Lw_law_904 : decode cc_Lw_law 904 = .ok (.laload, 1) := by decide +kernel
theorem d_Lw_law_905 : decode cc_Lw_law 905 = .ok (.iload 6, 2) := by decide +kernel
