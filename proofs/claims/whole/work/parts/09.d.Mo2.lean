theorem d_Mo_reduced_32 : decode cc_Mo_reduced 32 = .ok (.aload_n 0, 1) := by decide +kernel
theorem d_Mo_reduced_33 : decode cc_Mo_reduced 33 = .ok (.getfield 50, 3) := by decide +kernel
theorem d_Mo_reduced_36 : decode cc_Mo_reduced 36 = .ok (.iload_n 1, 1) := by decide +kernel
theorem d_Mo_reduced_37 : decode cc_Mo_reduced 37 = .ok (.iaload, 1) := by decide +kernel
theorem d_Mo_reduced_38 : decode cc_Mo_reduced 38 = .ok (.iconst 1, 1) := by decide +kernel
theorem d_Mo_reduced_39 : decode cc_Mo_reduced 39 = .ok (.iadd, 1) := by decide +kernel
theorem d_Mo_reduced_40 : decode cc_Mo_reduced 40 = .ok (.istore 6, 2) := by decide +kernel
theorem d_Mo_reduced_42 : decode cc_Mo_reduced 42 = .ok (.iload 6, 2) := by decide +kernel
theorem d_Mo_reduced_44 : decode cc_Mo_reduced 44 = .ok (.aload_n 0, 1) := by decide +kernel
theorem d_Mo_reduced_45 : decode cc_Mo_reduced 45 = .ok (.getfield 53, 3) := by decide +kernel
theorem d_Mo_reduced_48 : decode cc_Mo_reduced 48 = .ok (.iload_n 1, 1) := by decide +kernel
theorem d_Mo_reduced_49 : decode cc_Mo_reduced 49 = .ok (.iaload, 1) := by decide +kernel
theorem d_Mo_reduced_50 : decode cc_Mo_reduced 50 = .ok (.if_icmp .ge 27, 3) := by decide +kernel
theorem d_Mo_reduced_53 : decode cc_Mo_reduced 53 = .ok (.aload_n 0, 1) := by decide +kernel
theorem d_Mo_reduced_54 : decode cc_Mo_reduced 54 = .ok (.iload_n 2, 1) := by decide +kernel
theorem d_Mo_reduced_55 : decode cc_Mo_reduced 55 = .ok (.lload 4, 2) := by decide +kernel
theorem d_Mo_reduced_57 : decode cc_Mo_reduced 57 = .ok (.aload_n 0, 1) := by decide +kernel
theorem d_Mo_reduced_58 : decode cc_Mo_reduced 58 = .ok (.getfield 16, 3) := by decide +kernel
theorem d_Mo_reduced_61 : decode cc_Mo_reduced 61 = .ok (.iload_n 3, 1) := by decide +kernel
theorem d_Mo_reduced_62 : decode cc_Mo_reduced 62 = .ok (.iload 6, 2) := by decide +kernel
theorem d_Mo_reduced_64 : decode cc_Mo_reduced 64 = .ok (.iadd, 1) := by decide +kernel
theorem d_Mo_reduced_65 : decode cc_Mo_reduced 65 = .ok (.laload, 1) := by decide +kernel
theorem d_Mo_reduced_66 : decode cc_Mo_reduced 66 = .ok (.invokevirtual 149, 3) := by decide +kernel
theorem d_Mo_reduced_69 : decode cc_Mo_reduced 69 = .ok (.lstore 4, 2) := by decide +kernel
theorem d_Mo_reduced_71 : decode cc_Mo_reduced 71 = .ok (.iinc 6 1, 3) := by decide +kernel
theorem d_Mo_reduced_74 : decode cc_Mo_reduced 74 = .ok (.goto (-32), 3) := by decide +kernel
theorem d_Mo_reduced_77 : decode cc_Mo_reduced 77 = .ok (.lload 4, 2) := by decide +kernel
theorem d_Mo_reduced_79 : decode cc_Mo_reduced 79 = .ok (.lreturn, 1) := by decide +kernel
theorem d_Mo_result_0 : decode cc_Mo_result 0 = .ok (.aload_n 0, 1) := by decide +kernel
theorem d_Mo_result_1 : decode cc_Mo_result 1 = .ok (.iconst 0, 1) := by decide +kernel
theorem d_Mo_result_2 : decode cc_Mo_result 2 = .ok (.putfield 96, 3) := by decide +kernel
theorem d_Mo_result_5 : decode cc_Mo_result 5 = .ok (.aload_n 0, 1) := by decide +kernel
theorem d_Mo_result_6 : decode cc_Mo_result 6 = .ok (.iload_n 1, 1) := by decide +kernel
theorem d_Mo_result_7 : decode cc_Mo_result 7 = .ok (.invokevirtual 196, 3) := by decide +kernel
theorem d_Mo_result_10 : decode cc_Mo_result 10 = .ok (.ifCond .eq 10, 3) := by decide +kernel
theorem d_Mo_result_13 : decode cc_Mo_result 13 = .ok (.aload_n 0, 1) := by decide +kernel
theorem d_Mo_result_14 : decode cc_Mo_result 14 = .ok (.iconst 1, 1) := by decide +kernel
theorem d_Mo_result_15 : decode cc_Mo_result 15 = .ok (.invokevirtual 110, 3) := by decide +kernel
theorem d_Mo_result_18 : decode cc_Mo_result 18 = .ok (.i2l, 1) := by decide +kernel
theorem d_Mo_result_19 : decode cc_Mo_result 19 = .ok (.lreturn, 1) := by decide +kernel
theorem d_Mo_result_20 : decode cc_Mo_result 20 = .ok (.aload_n 0, 1) := by decide +kernel
theorem d_Mo_result_21 : decode cc_Mo_result 21 = .ok (.getfield 20, 3) := by decide +kernel
theorem d_Mo_result_24 : decode cc_Mo_result 24 = .ok (.iload_n 1, 1) := by decide +kernel
theorem d_Mo_result_25 : decode cc_Mo_result 25 = .ok (.iaload, 1) := by decide +kernel
theorem d_Mo_result_26 : decode cc_Mo_result 26 = .ok (.iconst 1, 1) := by decide +kernel
theorem d_Mo_result_27 : decode cc_Mo_result 27 = .ok (.if_icmp .le 10, 3) := by decide +kernel
theorem d_Mo_result_30 : decode cc_Mo_result 30 = .ok (.aload_n 0, 1) := by decide +kernel
theorem d_Mo_result_31 : decode cc_Mo_result 31 = .ok (.iconst 2, 1) := by decide +kernel
theorem d_Mo_result_32 : decode cc_Mo_result 32 = .ok (.invokevirtual 110, 3) := by decide +kernel
theorem d_Mo_result_35 : decode cc_Mo_result 35 = .ok (.i2l, 1) := by decide +kernel
theorem d_Mo_result_36 : decode cc_Mo_result 36 = .ok (.lreturn, 1) := by decide +kernel
theorem d_Mo_result_37 : decode cc_Mo_result 37 = .ok (.aload_n 0, 1) := by decide +kernel
theorem d_Mo_result_38 : decode cc_Mo_result 38 = .ok (.getfield 32, 3) := by decide +kernel
theorem d_Mo_result_41 : decode cc_Mo_result 41 = .ok (.iload_n 1, 1) := by decide +kernel
theorem d_Mo_result_42 : decode cc_Mo_result 42 = .ok (.iaload, 1) := by decide +kernel
theorem d_Mo_result_43 : decode cc_Mo_result 43 = .ok (.iconst 1, 1) := by decide +kernel
theorem d_Mo_result_44 : decode cc_Mo_result 44 = .ok (.if_icmp .ne 17, 3) := by decide +kernel
theorem d_Mo_result_47 : decode cc_Mo_result 47 = .ok (.aload_n 0, 1) := by decide +kernel
theorem d_Mo_result_48 : decode cc_Mo_result 48 = .ok (.getfield 65, 3) := by decide +kernel
theorem d_Mo_result_51 : decode cc_Mo_result 51 = .ok (.aload_n 0, 1) := by decide +kernel
theorem d_Mo_result_52 : decode cc_Mo_result 52 = .ok (.getfield 41, 3) := by decide +kernel
theorem d_Mo_result_55 : decode cc_Mo_result 55 = .ok (.iload_n 1, 1) := by decide +kernel
theorem d_Mo_result_56 : decode cc_Mo_result 56 = .ok (.iaload, 1) := by decide +kernel
theorem d_Mo_result_57 : decode cc_Mo_result 57 = .ok (.laload, 1) := by decide +kernel
theorem d_Mo_result_58 : decode cc_Mo_result 58 = .ok (.goto 9, 3) := by decide +kernel
theorem d_Mo_result_61 : decode cc_Mo_result 61 = .ok (.aload_n 0, 1) := by decide +kernel
theorem d_Mo_result_62 : decode cc_Mo_result 62 = .ok (.iconst 3, 1) := by decide +kernel
theorem d_Mo_result_63 : decode cc_Mo_result 63 = .ok (.invokevirtual 110, 3) := by decide +kernel
theorem d_Mo_result_66 : decode cc_Mo_result 66 = .ok (.i2l, 1) := by decide +kernel
theorem d_Mo_result_67 : decode cc_Mo_result 67 = .ok (.lreturn, 1) := by decide +kernel
theorem d_Mo_set_0 : decode cc_Mo_set 0 = .ok (.aload_n 0, 1) := by decide +kernel
theorem d_Mo_set_1 : decode cc_Mo_set 1 = .ok (.iconst 0, 1) := by decide +kernel
theorem d_Mo_set_2 : decode cc_Mo_set 2 = .ok (.putfield 96, 3) := by decide +kernel
theorem d_Mo_set_5 : decode cc_Mo_set 5 = .ok (.aload_n 0, 1) := by decide +kernel
theorem d_Mo_set_6 : decode cc_Mo_set 6 = .ok (.iload_n 1, 1) := by decide +kernel
theorem d_Mo_set_7 : decode cc_Mo_set 7 = .ok (.iload_n 2, 1) := by decide +kernel
theorem d_Mo_set_8 : decode cc_Mo_set 8 = .ok (.invokevirtual 118, 3) := by decide +kernel
theorem d_Mo_set_11 : decode cc_Mo_set 11 = .ok (.ifCond .eq 10, 3) := by decide +kernel
theorem d_Mo_set_14 : decode cc_Mo_set 14 = .ok (.aload_n 0, 1) := by decide +kernel
theorem d_Mo_set_15 : decode cc_Mo_set 15 = .ok (.iconst 1, 1) := by decide +kernel
theorem d_Mo_set_16 : decode cc_Mo_set 16 = .ok (.invokevirtual 110, 3) := by decide +kernel
theorem d_Mo_set_19 : decode cc_Mo_set 19 = .ok (.i2l, 1) := by decide +kernel
theorem d_Mo_set_20 : decode cc_Mo_set 20 = .ok (.lreturn, 1) := by decide +kernel
theorem d_Mo_set_21 : decode cc_Mo_set 21 = .ok (.aload_n 0, 1) := by decide +kernel
theorem d_Mo_set_22 : decode cc_Mo_set 22 = .ok (.iload_n 1, 1) := by decide +kernel
theorem d_Mo_set_23 : decode cc_Mo_set 23 = .ok (.invokevirtual 114, 3) := by decide +kernel
theorem d_Mo_set_26 : decode cc_Mo_set 26 = .ok (.ifCond .eq 10, 3) := by decide +kernel
theorem d_Mo_set_29 : decode cc_Mo_set 29 = .ok (.aload_n 0, 1) := by decide +kernel
theorem d_Mo_set_30 : decode cc_Mo_set 30 = .ok (.iconst 2, 1) := by decide +kernel
theorem d_Mo_set_31 : decode cc_Mo_set 31 = .ok (.invokevirtual 110, 3) := by decide +kernel
theorem d_Mo_set_34 : decode cc_Mo_set 34 = .ok (.i2l, 1) := by decide +kernel
theorem d_Mo_set_35 : decode cc_Mo_set 35 = .ok (.lreturn, 1) := by decide +kernel
theorem d_Mo_set_36 : decode cc_Mo_set 36 = .ok (.aload_n 0, 1) := by decide +kernel
theorem d_Mo_set_37 : decode cc_Mo_set 37 = .ok (.getfield 16, 3) := by decide +kernel
theorem d_Mo_set_40 : decode cc_Mo_set 40 = .ok (.bipush 24, 2) := by decide +kernel
theorem d_Mo_set_42 : decode cc_Mo_set 42 = .ok (.iload_n 1, 1) := by decide +kernel
theorem d_Mo_set_43 : decode cc_Mo_set 43 = .ok (.imul, 1) := by decide +kernel
theorem d_Mo_set_44 : decode cc_Mo_set 44 = .ok (.iload_n 2, 1) := by decide +kernel
theorem d_Mo_set_45 : decode cc_Mo_set 45 = .ok (.iadd, 1) := by decide +kernel
theorem d_Mo_set_46 : decode cc_Mo_set 46 = .ok (.aload_n 0, 1) := by decide +kernel
theorem d_Mo_set_47 : decode cc_Mo_set 47 = .ok (.getfield 7, 3) := by decide +kernel
theorem d_Mo_set_50 : decode cc_Mo_set 50 = .ok (.iload_n 1, 1) := by decide +kernel
theorem d_Mo_set_51 : decode cc_Mo_set 51 = .ok (.iaload, 1) := by decide +kernel
theorem d_Mo_set_52 : decode cc_Mo_set 52 = .ok (.lload_n 3, 1) := by decide +kernel
theorem d_Mo_set_53 : decode cc_Mo_set 53 = .ok (.invokestatic 122, 3) := by decide +kernel
theorem d_Mo_set_56 : decode cc_Mo_set 56 = .ok (.lastore, 1) := by decide +kernel
theorem d_Mo_set_57 : decode cc_Mo_set 57 = .ok (.aload_n 0, 1) := by decide +kernel
theorem d_Mo_set_58 : decode cc_Mo_set 58 = .ok (.getfield 16, 3) := by decide +kernel
theorem d_Mo_set_61 : decode cc_Mo_set 61 = .ok (.bipush 24, 2) := by decide +kernel
theorem d_Mo_set_63 : decode cc_Mo_set 63 = .ok (.iload_n 1, 1) := by decide +kernel
theorem d_Mo_set_64 : decode cc_Mo_set 64 = .ok (.imul, 1) := by decide +kernel
theorem d_Mo_set_65 : decode cc_Mo_set 65 = .ok (.iload_n 2, 1) := by decide +kernel
theorem d_Mo_set_66 : decode cc_Mo_set 66 = .ok (.iadd, 1) := by decide +kernel
theorem d_Mo_set_67 : decode cc_Mo_set 67 = .ok (.laload, 1) := by decide +kernel
theorem d_Mo_set_68 : decode cc_Mo_set 68 = .ok (.lreturn, 1) := by decide +kernel
theorem d_Mo_shared_0 : decode cc_Mo_shared 0 = .ok (.aload_n 0, 1) := by decide +kernel
theorem d_Mo_shared_1 : decode cc_Mo_shared 1 = .ok (.getfield 7, 3) := by decide +kernel
theorem d_Mo_shared_4 : decode cc_Mo_shared 4 = .ok (.aload_n 0, 1) := by decide +kernel
theorem d_Mo_shared_5 : decode cc_Mo_shared 5 = .ok (.getfield 23, 3) := by decide +kernel
theorem d_Mo_shared_8 : decode cc_Mo_shared 8 = .ok (.iload_n 1, 1) := by decide +kernel
theorem d_Mo_shared_9 : decode cc_Mo_shared 9 = .ok (.iaload, 1) := by decide +kernel
theorem d_Mo_shared_10 : decode cc_Mo_shared 10 = .ok (.iaload, 1) := by decide +kernel
theorem d_Mo_shared_11 : decode cc_Mo_shared 11 = .ok (.istore 4, 2) := by decide +kernel
theorem d_Mo_shared_13 : decode cc_Mo_shared 13 = .ok (.iload 4, 2) := by decide +kernel
theorem d_Mo_shared_15 : decode cc_Mo_shared 15 = .ok (.iload 4, 2) := by decide +kernel
theorem d_Mo_shared_17 : decode cc_Mo_shared 17 = .ok (.iconst 4, 1) := by decide +kernel
theorem d_Mo_shared_18 : decode cc_Mo_shared 18 = .ok (.if_icmp .ge 15, 3) := by decide +kernel
theorem d_Mo_shared_21 : decode cc_Mo_shared 21 = .ok (.aload_n 0, 1) := by decide +kernel
theorem d_Mo_shared_22 : decode cc_Mo_shared 22 = .ok (.getfield 26, 3) := by decide +kernel
theorem d_Mo_shared_25 : decode cc_Mo_shared 25 = .ok (.iload_n 1, 1) := by decide +kernel
theorem d_Mo_shared_26 : decode cc_Mo_shared 26 = .ok (.iaload, 1) := by decide +kernel
theorem d_Mo_shared_27 : decode cc_Mo_shared 27 = .ok (.i2l, 1) := by decide +kernel
theorem d_Mo_shared_28 : decode cc_Mo_shared 28 = .ok (.lload_n 2, 1) := by decide +kernel
theorem d_Mo_shared_29 : decode cc_Mo_shared 29 = .ok (.ldiv, 1) := by decide +kernel
theorem d_Mo_shared_30 : decode cc_Mo_shared 30 = .ok (.goto 18, 3) := by decide +kernel
theorem d_Mo_shared_33 : decode cc_Mo_shared 33 = .ok (.ldc2_w 143, 3) := by decide +kernel
theorem d_Mo_shared_36 : decode cc_Mo_shared 36 = .ok (.aload_n 0, 1) := by decide +kernel
theorem d_Mo_shared_37 : decode cc_Mo_shared 37 = .ok (.getfield 26, 3) := by decide +kernel
theorem d_Mo_shared_40 : decode cc_Mo_shared 40 = .ok (.iload_n 1, 1) := by decide +kernel
theorem d_Mo_shared_41 : decode cc_Mo_shared 41 = .ok (.iaload, 1) := by decide +kernel
theorem d_Mo_shared_42 : decode cc_Mo_shared 42 = .ok (.i2l, 1) := by decide +kernel
theorem d_Mo_shared_43 : decode cc_Mo_shared 43 = .ok (.lmul, 1) := by decide +kernel
theorem d_Mo_shared_44 : decode cc_Mo_shared 44 = .ok (.lload_n 2, 1) := by decide +kernel
theorem d_Mo_shared_45 : decode cc_Mo_shared 45 = .ok (.invokestatic 145, 3) := by decide +kernel
theorem d_Mo_shared_48 : decode cc_Mo_shared 48 = .ok (.invokestatic 122, 3) := by decide +kernel
theorem d_Mo_shared_51 : decode cc_Mo_shared 51 = .ok (.lreturn, 1) := by decide +kernel
theorem d_Mo_spread_0 : decode cc_Mo_spread 0 = .ok (.aload_n 0, 1) := by decide +kernel
theorem d_Mo_spread_1 : decode cc_Mo_spread 1 = .ok (.getfield 47, 3) := by decide +kernel
theorem d_Mo_spread_4 : decode cc_Mo_spread 4 = .ok (.iload_n 1, 1) := by decide +kernel
theorem d_Mo_spread_5 : decode cc_Mo_spread 5 = .ok (.iaload, 1) := by decide +kernel
theorem d_Mo_spread_6 : decode cc_Mo_spread 6 = .ok (.istore_n 2, 1) := by decide +kernel
theorem d_Mo_spread_7 : decode cc_Mo_spread 7 = .ok (.bipush 24, 2) := by decide +kernel
theorem d_Mo_spread_9 : decode cc_Mo_spread 9 = .ok (.aload_n 0, 1) := by decide +kernel
theorem d_Mo_spread_10 : decode cc_Mo_spread 10 = .ok (.getfield 23, 3) := by decide +kernel
theorem d_Mo_spread_13 : decode cc_Mo_spread 13 = .ok (.iload_n 2, 1) := by decide +kernel
theorem d_Mo_spread_14 : decode cc_Mo_spread 14 = .ok (.iaload, 1) := by decide +kernel
theorem d_Mo_spread_15 : decode cc_Mo_spread 15 = .ok (.imul, 1) := by decide +kernel
theorem d_Mo_spread_16 : decode cc_Mo_spread 16 = .ok (.istore_n 3, 1) := by decide +kernel
theorem d_Mo_spread_17 : decode cc_Mo_spread 17 = .ok (.aload_n 0, 1) := by decide +kernel
theorem d_Mo_spread_18 : decode cc_Mo_spread 18 = .ok (.getfield 68, 3) := by decide +kernel
theorem d_Mo_spread_21 : decode cc_Mo_spread 21 = .ok (.iload_n 1, 1) := by decide +kernel
theorem d_Mo_spread_22 : decode cc_Mo_spread 22 = .ok (.laload, 1) := by decide +kernel
theorem d_Mo_spread_23 : decode cc_Mo_spread 23 = .ok (.lstore 4, 2) := by decide +kernel
theorem d_Mo_spread_25 : decode cc_Mo_spread 25 = .ok (.aload_n 0, 1) := by decide +kernel
theorem d_Mo_spread_26 : decode cc_Mo_spread 26 = .ok (.getfield 50, 3) := by decide +kernel
theorem d_Mo_spread_29 : decode cc_Mo_spread 29 = .ok (.iload_n 1, 1) := by decide +kernel
theorem d_Mo_spread_30 : decode cc_Mo_spread 30 = .ok (.iaload, 1) := by decide +kernel
theorem d_Mo_spread_31 : decode cc_Mo_spread 31 = .ok (.istore 6, 2) := by decide +kernel
theorem d_Mo_spread_33 : decode cc_Mo_spread 33 = .ok (.iload 6, 2) := by decide +kernel
theorem d_Mo_spread_35 : decode cc_Mo_spread 35 = .ok (.aload_n 0, 1) := by decide +kernel
theorem d_Mo_spread_36 : decode cc_Mo_spread 36 = .ok (.getfield 53, 3) := by decide +kernel
theorem d_Mo_spread_39 : decode cc_Mo_spread 39 = .ok (.iload_n 1, 1) := by decide +kernel
theorem d_Mo_spread_40 : decode cc_Mo_spread 40 = .ok (.iaload, 1) := by decide +kernel
theorem d_Mo_spread_41 : decode cc_Mo_spread 41 = .ok (.if_icmp .ge 38, 3) := by decide +kernel
theorem d_Mo_spread_44 : decode cc_Mo_spread 44 = .ok (.aload_n 0, 1) := by decide +kernel
theorem d_Mo_spread_45 : decode cc_Mo_spread 45 = .ok (.iload_n 2, 1) := by decide +kernel
theorem d_Mo_spread_46 : decode cc_Mo_spread 46 = .ok (.lload 4, 2) := by decide +kernel
theorem d_Mo_spread_48 : decode cc_Mo_spread 48 = .ok (.aload_n 0, 1) := by decide +kernel
theorem d_Mo_spread_49 : decode cc_Mo_spread 49 = .ok (.getfield 16, 3) := by decide +kernel
theorem d_Mo_spread_52 : decode cc_Mo_spread 52 = .ok (.iload_n 3, 1) := by decide +kernel
theorem d_Mo_spread_53 : decode cc_Mo_spread 53 = .ok (.iload 6, 2) := by decide +kernel
theorem d_Mo_spread_55 : decode cc_Mo_spread 55 = .ok (.iadd, 1) := by decide +kernel
theorem d_Mo_spread_56 : decode cc_Mo_spread 56 = .ok (.laload, 1) := by decide +kernel
theorem d_Mo_spread_57 : decode cc_Mo_spread 57 = .ok (.invokevirtual 149, 3) := by decide +kernel
theorem d_Mo_spread_60 : decode cc_Mo_spread 60 = .ok (.lstore 4, 2) := by decide +kernel
theorem d_Mo_spread_62 : decode cc_Mo_spread 62 = .ok (.aload_n 0, 1) := by decide +kernel
theorem d_Mo_spread_63 : decode cc_Mo_spread 63 = .ok (.getfield 16, 3) := by decide +kernel
theorem d_Mo_spread_66 : decode cc_Mo_spread 66 = .ok (.iload_n 3, 1) := by decide +kernel
theorem d_Mo_spread_67 : decode cc_Mo_spread 67 = .ok (.iload 6, 2) := by decide +kernel
theorem d_Mo_spread_69 : decode cc_Mo_spread 69 = .ok (.iadd, 1) := by decide +kernel
theorem d_Mo_spread_70 : decode cc_Mo_spread 70 = .ok (.lload 4, 2) := by decide +kernel
theorem d_Mo_spread_72 : decode cc_Mo_spread 72 = .ok (.lastore, 1) := by decide +kernel
theorem d_Mo_spread_73 : decode cc_Mo_spread 73 = .ok (.iinc 6 1, 3) := by decide +kernel
theorem d_Mo_spread_76 : decode cc_Mo_spread 76 = .ok (.goto (-43), 3) := by decide +kernel
theorem d_Mo_spread_79 : decode cc_Mo_spread 79 = .ok (.return_, 1) := by decide +kernel
theorem d_Mo_step_0 : decode cc_Mo_step 0 = .ok (.aload_n 0, 1) := by decide +kernel
theorem d_Mo_step_1 : decode cc_Mo_step 1 = .ok (.iconst 0, 1) := by decide +kernel
theorem d_Mo_step_2 : decode cc_Mo_step 2 = .ok (.putfield 96, 3) := by decide +kernel
theorem d_Mo_step_5 : decode cc_Mo_step 5 = .ok (.iload_n 1, 1) := by decide +kernel
theorem d_Mo_step_6 : decode cc_Mo_step 6 = .ok (.iconst 1, 1) := by decide +kernel
theorem d_Mo_step_7 : decode cc_Mo_step 7 = .ok (.bipush 60, 2) := by decide +kernel
theorem d_Mo_step_9 : decode cc_Mo_step 9 = .ok (.invokestatic 106, 3) := by decide +kernel
theorem d_Mo_step_12 : decode cc_Mo_step 12 = .ok (.ifCond .ne 9, 3) := by decide +kernel
theorem d_Mo_step_15 : decode cc_Mo_step 15 = .ok (.aload_n 0, 1) := by decide +kernel
theorem d_Mo_step_16 : decode cc_Mo_step 16 = .ok (.iconst 1, 1) := by decide +kernel
theorem d_Mo_step_17 : decode cc_Mo_step 17 = .ok (.invokevirtual 110, 3) := by decide +kernel
theorem d_Mo_step_20 : decode cc_Mo_step 20 = .ok (.ireturn, 1) := by decide +kernel
theorem d_Mo_step_21 : decode cc_Mo_step 21 = .ok (.iconst 0, 1) := by decide +kernel
theorem d_Mo_step_22 : decode cc_Mo_step 22 = .ok (.istore_n 2, 1) := by decide +kernel
theorem d_Mo_step_23 : decode cc_Mo_step 23 = .ok (.iconst 0, 1) := by decide +kernel
theorem d_Mo_step_24 : decode cc_Mo_step 24 = .ok (.istore_n 3, 1) := by decide +kernel
theorem d_Mo_step_25 : decode cc_Mo_step 25 = .ok (.iload_n 3, 1) := by decide +kernel
theorem d_Mo_step_26 : decode cc_Mo_step 26 = .ok (.iload_n 1, 1) := by decide +kernel
theorem d_Mo_step_27 : decode cc_Mo_step 27 = .ok (.if_icmp .ge 19, 3) := by decide +kernel
theorem d_Mo_step_30 : decode cc_Mo_step 30 = .ok (.aload_n 0, 1) := by decide +kernel
theorem d_Mo_step_31 : decode cc_Mo_step 31 = .ok (.invokevirtual 192, 3) := by decide +kernel
theorem d_Mo_step_34 : decode cc_Mo_step 34 = .ok (.ifCond .eq 6, 3) := by decide +kernel
theorem d_Mo_step_37 : decode cc_Mo_step 37 = .ok (.iinc 2 1, 3) := by decide +kernel
theorem d_Mo_step_40 : decode cc_Mo_step 40 = .ok (.iinc 3 1, 3) := by decide +kernel
theorem d_Mo_step_43 : decode cc_Mo_step 43 = .ok (.goto (-18), 3) := by decide +kernel
theorem d_Mo_step_46 : decode cc_Mo_step 46 = .ok (.iload_n 2, 1) := by decide +kernel
theorem d_Mo_step_47 : decode cc_Mo_step 47 = .ok (.ireturn, 1) := by decide +kernel
theorem d_Mo_task_0 : decode cc_Mo_task 0 = .ok (.aload_n 0, 1) := by decide +kernel
theorem d_Mo_task_1 : decode cc_Mo_task 1 = .ok (.iconst 0, 1) := by decide +kernel
theorem d_Mo_task_2 : decode cc_Mo_task 2 = .ok (.putfield 96, 3) := by decide +kernel
theorem d_Mo_task_5 : decode cc_Mo_task 5 = .ok (.iload_n 1, 1) := by decide +kernel
theorem d_Mo_task_6 : decode cc_Mo_task 6 = .ok (.iconst 0, 1) := by decide +kernel
theorem d_Mo_task_7 : decode cc_Mo_task 7 = .ok (.aload_n 0, 1) := by decide +kernel
theorem d_Mo_task_8 : decode cc_Mo_task 8 = .ok (.getfield 93, 3) := by decide +kernel
theorem d_Mo_task_11 : decode cc_Mo_task 11 = .ok (.iconst 1, 1) := by decide +kernel
theorem d_Mo_task_12 : decode cc_Mo_task 12 = .ok (.isub, 1) := by decide +kernel
theorem d_Mo_task_13 : decode cc_Mo_task 13 = .ok (.invokestatic 106, 3) := by decide +kernel
theorem d_Mo_task_16 : decode cc_Mo_task 16 = .ok (.ifCond .eq 17, 3) := by decide +kernel
theorem d_Mo_task_19 : decode cc_Mo_task 19 = .ok (.iload_n 2, 1) := by decide +kernel
theorem d_Mo_task_20 : decode cc_Mo_task 20 = .ok (.ifCond .lt 13, 3) := by decide +kernel
theorem d_Mo_task_23 : decode cc_Mo_task 23 = .ok (.iload_n 2, 1) := by decide +kernel
theorem d_Mo_task_24 : decode cc_Mo_task 24 = .ok (.aload_n 0, 1) := by decide +kernel
theorem d_Mo_task_25 : decode cc_Mo_task 25 = .ok (.getfield 74, 3) := by decide +kernel
theorem d_Mo_task_28 : decode cc_Mo_task 28 = .ok (.iload_n 1, 1) := by decide +kernel
theorem d_Mo_task_29 : decode cc_Mo_task 29 = .ok (.iaload, 1) := by decide +kernel
theorem d_Mo_task_30 : decode cc_Mo_task 30 = .ok (.if_icmp .lt 9, 3) := by decide +kernel
theorem d_Mo_task_33 : decode cc_Mo_task 33 = .ok (.aload_n 0, 1) := by decide +kernel
theorem d_Mo_task_34 : decode cc_Mo_task 34 = .ok (.iconst 1, 1) := by decide +kernel
theorem d_Mo_task_35 : decode cc_Mo_task 35 = .ok (.invokevirtual 110, 3) := by decide +kernel
theorem d_Mo_task_38 : decode cc_Mo_task 38 = .ok (.ireturn, 1) := by decide +kernel
theorem d_Mo_task_39 : decode cc_Mo_task 39 = .ok (.aload_n 0, 1) := by decide +kernel
theorem d_Mo_task_40 : decode cc_Mo_task 40 = .ok (.getfield 71, 3) := by decide +kernel
theorem d_Mo_task_43 : decode cc_Mo_task 43 = .ok (.sipush 600, 3) := by decide +kernel
theorem d_Mo_task_46 : decode cc_Mo_task 46 = .ok (.iload_n 1, 1) := by decide +kernel
theorem d_Mo_task_47 : decode cc_Mo_task 47 = .ok (.imul, 1) := by decide +kernel
theorem d_Mo_task_48 : decode cc_Mo_task 48 = .ok (.aload_n 0, 1) := by decide +kernel
theorem d_Mo_task_49 : decode cc_Mo_task 49 = .ok (.getfield 74, 3) := by decide +kernel
theorem d_Mo_task_52 : decode cc_Mo_task 52 = .ok (.iload_n 1, 1) := by decide +kernel
theorem d_Mo_task_53 : decode cc_Mo_task 53 = .ok (.iaload, 1) := by decide +kernel
theorem d_Mo_task_54 : decode cc_Mo_task 54 = .ok (.iadd, 1) := by decide +kernel
theorem d_Mo_task_55 : decode cc_Mo_task 55 = .ok (.iconst 1, 1) := by decide +kernel
theorem d_Mo_task_56 : decode cc_Mo_task 56 = .ok (.isub, 1) := by decide +kernel
theorem d_Mo_task_57 : decode cc_Mo_task 57 = .ok (.iload_n 2, 1) := by decide +kernel
theorem d_Mo_task_58 : decode cc_Mo_task 58 = .ok (.isub, 1) := by decide +kernel
theorem d_Mo_task_59 : decode cc_Mo_task 59 = .ok (.iaload, 1) := by decide +kernel
theorem d_Mo_task_60 : decode cc_Mo_task 60 = .ok (.istore 4, 2) := by decide +kernel
theorem d_Mo_task_62 : decode cc_Mo_task 62 = .ok (.iload_n 3, 1) := by decide +kernel
theorem d_Mo_task_63 : decode cc_Mo_task 63 = .ok (.tableswitch 49 0 2 #[25, 33, 41], 25) := by decide +kernel
theorem d_Mo_task_88 : decode cc_Mo_task 88 = .ok (.aload_n 0, 1) := by decide +kernel
theorem d_Mo_task_89 : decode cc_Mo_task 89 = .ok (.getfield 47, 3) := by decide +kernel
theorem d_Mo_task_92 : decode cc_Mo_task 92 = .ok (.iload 4, 2) := by decide +kernel
theorem d_Mo_task_94 : decode cc_Mo_task 94 = .ok (.iaload, 1) := by decide +kernel
theorem d_Mo_task_95 : decode cc_Mo_task 95 = .ok (.ireturn, 1) := by decide +kernel
theorem d_Mo_task_96 : decode cc_Mo_task 96 = .ok (.aload_n 0, 1) := by decide +kernel
theorem d_Mo_task_97 : decode cc_Mo_task 97 = .ok (.getfield 50, 3) := by decide +kernel
theorem d_Mo_task_100 : decode cc_Mo_task 100 = .ok (.iload 4, 2) := by decide +kernel
theorem d_Mo_task_102 : decode cc_Mo_task 102 = .ok (.iaload, 1) := by decide +kernel
theorem d_Mo_task_103 : decode cc_Mo_task 103 = .ok (.ireturn, 1) := by decide +kernel
theorem d_Mo_task_104 : decode cc_Mo_task 104 = .ok (.aload_n 0, 1) := by decide +kernel
theorem d_Mo_task_105 : decode cc_Mo_task 105 = .ok (.getfield 53, 3) := by decide +kernel
theorem d_Mo_task_108 : decode cc_Mo_task 108 = .ok (.iload 4, 2) := by decide +kernel
theorem d_Mo_task_110 : decode cc_Mo_task 110 = .ok (.iaload, 1) := by decide +kernel
theorem d_Mo_task_111 : decode cc_Mo_task 111 = .ok (.ireturn, 1) := by decide +kernel
theorem d_Mo_task_112 : decode cc_Mo_task 112 = .ok (.aload_n 0, 1) := by decide +kernel
theorem d_Mo_task_113 : decode cc_Mo_task 113 = .ok (.iconst 2, 1) := by decide +kernel
theorem d_Mo_task_114 : decode cc_Mo_task 114 = .ok (.invokevirtual 110, 3) := by decide +kernel
theorem d_Mo_task_117 : decode cc_Mo_task 117 = .ok (.ireturn, 1) := by decide +kernel
theorem d_Mo_thrown_0 : decode cc_Mo_thrown 0 = .ok (.aload_n 0, 1) := by decide +kernel
theorem d_Mo_thrown_1 : decode cc_Mo_thrown 1 = .ok (.getfield 96, 3) := by decide +kernel
theorem d_Mo_thrown_4 : decode cc_Mo_thrown 4 = .ok (.ireturn, 1) := by decide +kernel
theorem d_Mo_turns_0 : decode cc_Mo_turns 0 = .ok (.aload_n 0, 1) := by decide +kernel
theorem d_Mo_turns_1 : decode cc_Mo_turns 1 = .ok (.getfield 183, 3) := by decide +kernel
theorem d_Mo_turns_4 : decode cc_Mo_turns 4 = .ok (.istore_n 1, 1) := by decide +kernel
theorem d_Mo_turns_5 : decode cc_Mo_turns 5 = .ok (.aload_n 0, 1) := by decide +kernel
theorem d_Mo_turns_6 : decode cc_Mo_turns 6 = .ok (.aload_n 0, 1) := by decide +kernel
theorem d_Mo_turns_7 : decode cc_Mo_turns 7 = .ok (.getfield 183, 3) := by decide +kernel
theorem d_Mo_turns_10 : decode cc_Mo_turns 10 = .ok (.iconst 1, 1) := by decide +kernel
theorem d_Mo_turns_11 : decode cc_Mo_turns 11 = .ok (.iadd, 1) := by decide +kernel
theorem d_Mo_turns_12 : decode cc_Mo_turns 12 = .ok (.aload_n 0, 1) := by decide +kernel
theorem d_Mo_turns_13 : decode cc_Mo_turns 13 = .ok (.getfield 93, 3) := by decide +kernel
theorem d_Mo_turns_16 : decode cc_Mo_turns 16 = .ok (.irem, 1) := by decide +kernel
theorem d_Mo_turns_17 : decode cc_Mo_turns 17 = .ok (.putfield 183, 3) := by decide +kernel
theorem d_Mo_turns_20 : decode cc_Mo_turns 20 = .ok (.aload_n 0, 1) := by decide +kernel
theorem d_Mo_turns_21 : decode cc_Mo_turns 21 = .ok (.dup, 1) := by decide +kernel
theorem d_Mo_turns_22 : decode cc_Mo_turns 22 = .ok (.getfield 186, 3) := by decide +kernel
theorem d_Mo_turns_25 : decode cc_Mo_turns 25 = .ok (.iconst 1, 1) := by decide +kernel
theorem d_Mo_turns_26 : decode cc_Mo_turns 26 = .ok (.iadd, 1) := by decide +kernel
theorem d_Mo_turns_27 : decode cc_Mo_turns 27 = .ok (.putfield 186, 3) := by decide +kernel
theorem d_Mo_turns_30 : decode cc_Mo_turns 30 = .ok (.aload_n 0, 1) := by decide +kernel
theorem d_Mo_turns_31 : decode cc_Mo_turns 31 = .ok (.getfield 74, 3) := by decide +kernel
theorem d_Mo_turns_34 : decode cc_Mo_turns 34 = .ok (.iload_n 1, 1) := by decide +kernel
theorem d_Mo_turns_35 : decode cc_Mo_turns 35 = .ok (.iaload, 1) := by decide +kernel
theorem d_Mo_turns_36 : decode cc_Mo_turns 36 = .ok (.ifCond .le 23, 3) := by decide +kernel
theorem d_Mo_turns_39 : decode cc_Mo_turns 39 = .ok (.aload_n 0, 1) := by decide +kernel
theorem d_Mo_turns_40 : decode cc_Mo_turns 40 = .ok (.aload_n 0, 1) := by decide +kernel
theorem d_Mo_turns_41 : decode cc_Mo_turns 41 = .ok (.iload_n 1, 1) := by decide +kernel
theorem d_Mo_turns_42 : decode cc_Mo_turns 42 = .ok (.aload_n 0, 1) := by decide +kernel
theorem d_Mo_turns_43 : decode cc_Mo_turns 43 = .ok (.getfield 74, 3) := by decide +kernel
theorem d_Mo_turns_46 : decode cc_Mo_turns 46 = .ok (.iload_n 1, 1) := by decide +kernel
theorem d_Mo_turns_47 : decode cc_Mo_turns 47 = .ok (.iaload, 1) := by decide +kernel
theorem d_Mo_turns_48 : decode cc_Mo_turns 48 = .ok (.iconst 1, 1) := by decide +kernel
theorem d_Mo_turns_49 : decode cc_Mo_turns 49 = .ok (.isub, 1) := by decide +kernel
theorem d_Mo_turns_50 : decode cc_Mo_turns 50 = .ok (.invokevirtual 126, 3) := by decide +kernel
theorem d_Mo_turns_53 : decode cc_Mo_turns 53 = .ok (.iload_n 1, 1) := by decide +kernel
theorem d_Mo_turns_54 : decode cc_Mo_turns 54 = .ok (.invokevirtual 189, 3) := by decide +kernel
theorem d_Mo_turns_57 : decode cc_Mo_turns 57 = .ok (.iconst 1, 1) := by decide +kernel
theorem d_Mo_turns_58 : decode cc_Mo_turns 58 = .ok (.ireturn, 1) := by decide +kernel
theorem d_Mo_turns_59 : decode cc_Mo_turns 59 = .ok (.iconst 1, 1) := by decide +kernel
theorem d_Mo_turns_60 : decode cc_Mo_turns 60 = .ok (.istore_n 2, 1) := by decide +kernel
theorem d_Mo_turns_61 : decode cc_Mo_turns 61 = .ok (.iload_n 2, 1) := by decide +kernel
theorem d_Mo_turns_62 : decode cc_Mo_turns 62 = .ok (.aload_n 0, 1) := by decide +kernel
theorem d_Mo_turns_63 : decode cc_Mo_turns 63 = .ok (.getfield 93, 3) := by decide +kernel
theorem d_Mo_turns_66 : decode cc_Mo_turns 66 = .ok (.if_icmp .gt 65, 3) := by decide +kernel
theorem d_Mo_turns_69 : decode cc_Mo_turns 69 = .ok (.aload_n 0, 1) := by decide +kernel
theorem d_Mo_turns_70 : decode cc_Mo_turns 70 = .ok (.getfield 86, 3) := by decide +kernel
theorem d_Mo_turns_73 : decode cc_Mo_turns 73 = .ok (.iload_n 1, 1) := by decide +kernel
theorem d_Mo_turns_74 : decode cc_Mo_turns 74 = .ok (.iaload, 1) := by decide +kernel
theorem d_Mo_turns_75 : decode cc_Mo_turns 75 = .ok (.iload_n 2, 1) := by decide +kernel
theorem d_Mo_turns_76 : decode cc_Mo_turns 76 = .ok (.iadd, 1) := by decide +kernel
theorem d_Mo_turns_77 : decode cc_Mo_turns 77 = .ok (.aload_n 0, 1) := by decide +kernel
theorem d_Mo_turns_78 : decode cc_Mo_turns 78 = .ok (.getfield 93, 3) := by decide +kernel
theorem d_Mo_turns_81 : decode cc_Mo_turns 81 = .ok (.irem, 1) := by decide +kernel
theorem d_Mo_turns_82 : decode cc_Mo_turns 82 = .ok (.istore_n 3, 1) := by decide +kernel
theorem d_Mo_turns_83 : decode cc_Mo_turns 83 = .ok (.aload_n 0, 1) := by decide +kernel
theorem d_Mo_turns_84 : decode cc_Mo_turns 84 = .ok (.getfield 74, 3) := by decide +kernel
theorem d_Mo_turns_87 : decode cc_Mo_turns 87 = .ok (.iload_n 3, 1) := by decide +kernel
theorem d_Mo_turns_88 : decode cc_Mo_turns 88 = .ok (.iaload, 1) := by decide +kernel
theorem d_Mo_turns_89 : decode cc_Mo_turns 89 = .ok (.ifCond .ne 6, 3) := by decide +kernel
theorem d_Mo_turns_92 : decode cc_Mo_turns 92 = .ok (.goto 33, 3) := by decide +kernel
theorem d_Mo_turns_95 : decode cc_Mo_turns 95 = .ok (.aload_n 0, 1) := by decide +kernel
theorem d_Mo_turns_96 : decode cc_Mo_turns 96 = .ok (.getfield 86, 3) := by decide +kernel
theorem d_Mo_turns_99 : decode cc_Mo_turns 99 = .ok (.iload_n 1, 1) := by decide +kernel
theorem d_Mo_turns_100 : decode cc_Mo_turns 100 = .ok (.iload_n 3, 1) := by decide +kernel
theorem d_Mo_turns_101 : decode cc_Mo_turns 101 = .ok (.iastore, 1) := by decide +kernel
theorem d_Mo_turns_102 : decode cc_Mo_turns 102 = .ok (.aload_n 0, 1) := by decide +kernel
theorem d_Mo_turns_103 : decode cc_Mo_turns 103 = .ok (.getfield 80, 3) := by decide +kernel
theorem d_Mo_turns_106 : decode cc_Mo_turns 106 = .ok (.iload_n 1, 1) := by decide +kernel
theorem d_Mo_turns_107 : decode cc_Mo_turns 107 = .ok (.dup2, 1) := by decide +kernel
theorem d_Mo_turns_108 : decode cc_Mo_turns 108 = .ok (.iaload, 1) := by decide +kernel
theorem d_Mo_turns_109 : decode cc_Mo_turns 109 = .ok (.iconst 1, 1) := by decide +kernel
theorem d_Mo_turns_110 : decode cc_Mo_turns 110 = .ok (.iadd, 1) := by decide +kernel
theorem d_Mo_turns_111 : decode cc_Mo_turns 111 = .ok (.iastore, 1) := by decide +kernel
theorem d_Mo_turns_112 : decode cc_Mo_turns 112 = .ok (.aload_n 0, 1) := by decide +kernel
theorem d_Mo_turns_113 : decode cc_Mo_turns 113 = .ok (.aload_n 0, 1) := by decide +kernel
theorem d_Mo_turns_114 : decode cc_Mo_turns 114 = .ok (.iload_n 3, 1) := by decide +kernel
theorem d_Mo_turns_115 : decode cc_Mo_turns 115 = .ok (.iconst 0, 1) := by decide +kernel
theorem d_Mo_turns_116 : decode cc_Mo_turns 116 = .ok (.invokevirtual 126, 3) := by decide +kernel
theorem d_Mo_turns_119 : decode cc_Mo_turns 119 = .ok (.iload_n 1, 1) := by decide +kernel
theorem d_Mo_turns_120 : decode cc_Mo_turns 120 = .ok (.invokevirtual 189, 3) := by decide +kernel
theorem d_Mo_turns_123 : decode cc_Mo_turns 123 = .ok (.iconst 1, 1) := by decide +kernel
theorem d_Mo_turns_124 : decode cc_Mo_turns 124 = .ok (.ireturn, 1) := by decide +kernel
theorem d_Mo_turns_125 : decode cc_Mo_turns 125 = .ok (.iinc 2 1, 3) := by decide +kernel
theorem d_Mo_turns_128 : decode cc_Mo_turns 128 = .ok (.goto (-67), 3) := by decide +kernel
theorem d_Mo_turns_131 : decode cc_Mo_turns 131 = .ok (.aload_n 0, 1) := by decide +kernel
theorem d_Mo_turns_132 : decode cc_Mo_turns 132 = .ok (.getfield 83, 3) := by decide +kernel
theorem d_Mo_turns_135 : decode cc_Mo_turns 135 = .ok (.iload_n 1, 1) := by decide +kernel
theorem d_Mo_turns_136 : decode cc_Mo_turns 136 = .ok (.dup2, 1) := by decide +kernel
theorem d_Mo_turns_137 : decode cc_Mo_turns 137 = .ok (.iaload, 1) := by decide +kernel
theorem d_Mo_turns_138 : decode cc_Mo_turns 138 = .ok (.iconst 1, 1) := by decide +kernel
theorem d_Mo_turns_139 : decode cc_Mo_turns 139 = .ok (.iadd, 1) := by decide +kernel
theorem d_Mo_turns_140 : decode cc_Mo_turns 140 = .ok (.iastore, 1) := by decide +kernel
theorem d_Mo_turns_141 : decode cc_Mo_turns 141 = .ok (.iconst 0, 1) := by decide +kernel
theorem d_Mo_turns_142 : decode cc_Mo_turns 142 = .ok (.ireturn, 1) := by decide +kernel
theorem d_Mo_worker_0 : decode cc_Mo_worker 0 = .ok (.aload_n 0, 1) := by decide +kernel
theorem d_Mo_worker_1 : decode cc_Mo_worker 1 = .ok (.iconst 0, 1) := by decide +kernel
theorem d_Mo_worker_2 : decode cc_Mo_worker 2 = .ok (.putfield 96, 3) := by decide +kernel
theorem d_Mo_worker_5 : decode cc_Mo_worker 5 = .ok (.iload_n 1, 1) := by decide +kernel
theorem d_Mo_worker_6 : decode cc_Mo_worker 6 = .ok (.iconst 0, 1) := by decide +kernel
theorem d_Mo_worker_7 : decode cc_Mo_worker 7 = .ok (.aload_n 0, 1) := by decide +kernel
theorem d_Mo_worker_8 : decode cc_Mo_worker 8 = .ok (.getfield 93, 3) := by decide +kernel
theorem d_Mo_worker_11 : decode cc_Mo_worker 11 = .ok (.iconst 1, 1) := by decide +kernel
theorem d_Mo_worker_12 : decode cc_Mo_worker 12 = .ok (.isub, 1) := by decide +kernel
theorem d_Mo_worker_13 : decode cc_Mo_worker 13 = .ok (.invokestatic 106, 3) := by decide +kernel
theorem d_Mo_worker_16 : decode cc_Mo_worker 16 = .ok (.ifCond .ne 9, 3) := by decide +kernel
theorem d_Mo_worker_19 : decode cc_Mo_worker 19 = .ok (.aload_n 0, 1) := by decide +kernel
theorem d_Mo_worker_20 : decode cc_Mo_worker 20 = .ok (.iconst 1, 1) := by decide +kernel
theorem d_Mo_worker_21 : decode cc_Mo_worker 21 = .ok (.invokevirtual 110, 3) := by decide +kernel
theorem d_Mo_worker_24 : decode cc_Mo_worker 24 = .ok (.ireturn, 1) := by decide +kernel
theorem d_Mo_worker_25 : decode cc_Mo_worker 25 = .ok (.iload_n 2, 1) := by decide +kernel
theorem d_Mo_worker_26 : decode cc_Mo_worker 26 = .ok (.tableswitch 69 0 4 #[34, 41, 48, 55, 62], 34) := by decide +kernel
theorem d_Mo_worker_60 : decode cc_Mo_worker 60 = .ok (.aload_n 0, 1) := by decide +kernel
theorem d_Mo_worker_61 : decode cc_Mo_worker 61 = .ok (.getfield 74, 3) := by decide +kernel
theorem d_Mo_worker_64 : decode cc_Mo_worker 64 = .ok (.iload_n 1, 1) := by decide +kernel
theorem d_Mo_worker_65 : decode cc_Mo_worker 65 = .ok (.iaload, 1) := by decide +kernel
theorem d_Mo_worker_66 : decode cc_Mo_worker 66 = .ok (.ireturn, 1) := by decide +kernel
theorem d_Mo_worker_67 : decode cc_Mo_worker 67 = .ok (.aload_n 0, 1) := by decide +kernel
theorem d_Mo_worker_68 : decode cc_Mo_worker 68 = .ok (.getfield 77, 3) := by decide +kernel
theorem d_Mo_worker_71 : decode cc_Mo_worker 71 = .ok (.iload_n 1, 1) := by decide +kernel
theorem d_Mo_worker_72 : decode cc_Mo_worker 72 = .ok (.iaload, 1) := by decide +kernel
theorem d_Mo_worker_73 : decode cc_Mo_worker 73 = .ok (.ireturn, 1) := by decide +kernel
theorem d_Mo_worker_74 : decode cc_Mo_worker 74 = .ok (.aload_n 0, 1) := by decide +kernel
theorem d_Mo_worker_75 : decode cc_Mo_worker 75 = .ok (.getfield 80, 3) := by decide +kernel
theorem d_Mo_worker_78 : decode cc_Mo_worker 78 = .ok (.iload_n 1, 1) := by decide +kernel
theorem d_Mo_worker_79 : decode cc_Mo_worker 79 = .ok (.iaload, 1) := by decide +kernel
theorem d_Mo_worker_80 : decode cc_Mo_worker 80 = .ok (.ireturn, 1) := by decide +kernel
theorem d_Mo_worker_81 : decode cc_Mo_worker 81 = .ok (.aload_n 0, 1) := by decide +kernel
theorem d_Mo_worker_82 : decode cc_Mo_worker 82 = .ok (.getfield 83, 3) := by decide +kernel
theorem d_Mo_worker_85 : decode cc_Mo_worker 85 = .ok (.iload_n 1, 1) := by decide +kernel
theorem d_Mo_worker_86 : decode cc_Mo_worker 86 = .ok (.iaload, 1) := by decide +kernel
theorem d_Mo_worker_87 : decode cc_Mo_worker 87 = .ok (.ireturn, 1) := by decide +kernel
theorem d_Mo_worker_88 : decode cc_Mo_worker 88 = .ok (.aload_n 0, 1) := by decide +kernel
theorem d_Mo_worker_89 : decode cc_Mo_worker 89 = .ok (.getfield 86, 3) := by decide +kernel
theorem d_Mo_worker_92 : decode cc_Mo_worker 92 = .ok (.iload_n 1, 1) := by decide +kernel
theorem d_Mo_worker_93 : decode cc_Mo_worker 93 = .ok (.iaload, 1) := by decide +kernel
theorem d_Mo_worker_94 : decode cc_Mo_worker 94 = .ok (.ireturn, 1) := by decide +kernel
theorem d_Mo_worker_95 : decode cc_Mo_worker 95 = .ok (.aload_n 0, 1) := by decide +kernel
theorem d_Mo_worker_96 : decode cc_Mo_worker 96 = .ok (.iconst 2, 1) := by decide +kernel
theorem d_Mo_worker_97 : decode cc_Mo_worker 97 = .ok (.invokevirtual 110, 3) := by decide +kernel
theorem d_Mo_worker_100 : decode cc_Mo_worker 100 = .ok (.ireturn, 1) := by decide +kernel
