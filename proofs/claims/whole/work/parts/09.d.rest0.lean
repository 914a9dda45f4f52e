theorem d_AL_add1_0 : decode cc_AL_add1 0 = .ok (.aload_n 0, 1) := by decide +kernel
theorem d_AL_add1_1 : decode cc_AL_add1 1 = .ok (.dup, 1) := by decide +kernel
theorem d_AL_add1_2 : decode cc_AL_add1 2 = .ok (.getfield 63, 3) := by decide +kernel
theorem d_AL_add1_5 : decode cc_AL_add1 5 = .ok (.iconst 1, 1) := by decide +kernel
theorem d_AL_add1_6 : decode cc_AL_add1 6 = .ok (.iadd, 1) := by decide +kernel
theorem d_AL_add1_7 : decode cc_AL_add1 7 = .ok (.putfield 63, 3) := by decide +kernel
theorem d_AL_add1_10 : decode cc_AL_add1 10 = .ok (.aload_n 0, 1) := by decide +kernel
theorem d_AL_add1_11 : decode cc_AL_add1 11 = .ok (.aload_n 1, 1) := by decide +kernel
theorem d_AL_add1_12 : decode cc_AL_add1 12 = .ok (.aload_n 0, 1) := by decide +kernel
theorem d_AL_add1_13 : decode cc_AL_add1 13 = .ok (.getfield 9, 3) := by decide +kernel
theorem d_AL_add1_16 : decode cc_AL_add1 16 = .ok (.aload_n 0, 1) := by decide +kernel
theorem d_AL_add1_17 : decode cc_AL_add1 17 = .ok (.getfield 48, 3) := by decide +kernel
theorem d_AL_add1_20 : decode cc_AL_add1 20 = .ok (.invokevirtual 131, 3) := by decide +kernel
theorem d_AL_add1_23 : decode cc_AL_add1 23 = .ok (.iconst 1, 1) := by decide +kernel
theorem d_AL_add1_24 : decode cc_AL_add1 24 = .ok (.ireturn, 1) := by decide +kernel
theorem d_AL_add3_0 : decode cc_AL_add3 0 = .ok (.iload_n 3, 1) := by decide +kernel
theorem d_AL_add3_1 : decode cc_AL_add3 1 = .ok (.aload_n 2, 1) := by decide +kernel
theorem d_AL_add3_2 : decode cc_AL_add3 2 = .ok (.arraylength, 1) := by decide +kernel
theorem d_AL_add3_3 : decode cc_AL_add3 3 = .ok (.if_icmp .ne 8, 3) := by decide +kernel
theorem d_AL_add3_6 : decode cc_AL_add3 6 = .ok (.aload_n 0, 1) := by decide +kernel
theorem d_AL_add3_7 : decode cc_AL_add3 7 = .ok (.invokevirtual 129, 3) := by decide +kernel
theorem d_AL_add3_10 : decode cc_AL_add3 10 = .ok (.astore_n 2, 1) := by decide +kernel
theorem d_AL_add3_11 : decode cc_AL_add3 11 = .ok (.aload_n 2, 1) := by decide +kernel
theorem d_AL_add3_12 : decode cc_AL_add3 12 = .ok (.iload_n 3, 1) := by decide +kernel
theorem d_AL_add3_13 : decode cc_AL_add3 13 = .ok (.aload_n 1, 1) := by decide +kernel
theorem d_AL_add3_14 : decode cc_AL_add3 14 = .ok (.aastore, 1) := by decide +kernel
theorem d_AL_add3_15 : decode cc_AL_add3 15 = .ok (.aload_n 0, 1) := by decide +kernel
theorem d_AL_add3_16 : decode cc_AL_add3 16 = .ok (.iload_n 3, 1) := by decide +kernel
theorem d_AL_add3_17 : decode cc_AL_add3 17 = .ok (.iconst 1, 1) := by decide +kernel
theorem d_AL_add3_18 : decode cc_AL_add3 18 = .ok (.iadd, 1) := by decide +kernel
theorem d_AL_add3_19 : decode cc_AL_add3 19 = .ok (.putfield 48, 3) := by decide +kernel
theorem d_AL_add3_22 : decode cc_AL_add3 22 = .ok (.return_, 1) := by decide +kernel
theorem d_AL_elementData_0 : decode cc_AL_elementData 0 = .ok (.aload_n 0, 1) := by decide +kernel
theorem d_AL_elementData_1 : decode cc_AL_elementData 1 = .ok (.getfield 9, 3) := by decide +kernel
theorem d_AL_elementData_4 : decode cc_AL_elementData 4 = .ok (.iload_n 1, 1) := by decide +kernel
theorem d_AL_elementData_5 : decode cc_AL_elementData 5 = .ok (.aaload, 1) := by decide +kernel
theorem d_AL_elementData_6 : decode cc_AL_elementData 6 = .ok (.areturn, 1) := by decide +kernel
theorem d_AL_fastRemove_0 : decode cc_AL_fastRemove 0 = .ok (.aload_n 0, 1) := by decide +kernel
theorem d_AL_fastRemove_1 : decode cc_AL_fastRemove 1 = .ok (.dup, 1) := by decide +kernel
theorem d_AL_fastRemove_2 : decode cc_AL_fastRemove 2 = .ok (.getfield 63, 3) := by decide +kernel
theorem d_AL_fastRemove_5 : decode cc_AL_fastRemove 5 = .ok (.iconst 1, 1) := by decide +kernel
theorem d_AL_fastRemove_6 : decode cc_AL_fastRemove 6 = .ok (.iadd, 1) := by decide +kernel
theorem d_AL_fastRemove_7 : decode cc_AL_fastRemove 7 = .ok (.putfield 63, 3) := by decide +kernel
theorem d_AL_fastRemove_10 : decode cc_AL_fastRemove 10 = .ok (.aload_n 0, 1) := by decide +kernel
theorem d_AL_fastRemove_11 : decode cc_AL_fastRemove 11 = .ok (.getfield 48, 3) := by decide +kernel
theorem d_AL_fastRemove_14 : decode cc_AL_fastRemove 14 = .ok (.iconst 1, 1) := by decide +kernel
theorem d_AL_fastRemove_15 : decode cc_AL_fastRemove 15 = .ok (.isub, 1) := by decide +kernel
theorem d_AL_fastRemove_16 : decode cc_AL_fastRemove 16 = .ok (.dup, 1) := by decide +kernel
theorem d_AL_fastRemove_17 : decode cc_AL_fastRemove 17 = .ok (.istore_n 3, 1) := by decide +kernel
theorem d_AL_fastRemove_18 : decode cc_AL_fastRemove 18 = .ok (.iload_n 2, 1) := by decide +kernel
theorem d_AL_fastRemove_19 : decode cc_AL_fastRemove 19 = .ok (.if_icmp .le 15, 3) := by decide +kernel
theorem d_AL_fastRemove_22 : decode cc_AL_fastRemove 22 = .ok (.aload_n 1, 1) := by decide +kernel
theorem d_AL_fastRemove_23 : decode cc_AL_fastRemove 23 = .ok (.iload_n 2, 1) := by decide +kernel
theorem d_AL_fastRemove_24 : decode cc_AL_fastRemove 24 = .ok (.iconst 1, 1) := by decide +kernel
theorem d_AL_fastRemove_25 : decode cc_AL_fastRemove 25 = .ok (.iadd, 1) := by decide +kernel
theorem d_AL_fastRemove_26 : decode cc_AL_fastRemove 26 = .ok (.aload_n 1, 1) := by decide +kernel
theorem d_AL_fastRemove_27 : decode cc_AL_fastRemove 27 = .ok (.iload_n 2, 1) := by decide +kernel
theorem d_AL_fastRemove_28 : decode cc_AL_fastRemove 28 = .ok (.iload_n 3, 1) := by decide +kernel
theorem d_AL_fastRemove_29 : decode cc_AL_fastRemove 29 = .ok (.iload_n 2, 1) := by decide +kernel
theorem d_AL_fastRemove_30 : decode cc_AL_fastRemove 30 = .ok (.isub, 1) := by decide +kernel
theorem d_AL_fastRemove_31 : decode cc_AL_fastRemove 31 = .ok (.invokestatic 112, 3) := by decide +kernel
theorem d_AL_fastRemove_34 : decode cc_AL_fastRemove 34 = .ok (.aload_n 1, 1) := by decide +kernel
theorem d_AL_fastRemove_35 : decode cc_AL_fastRemove 35 = .ok (.aload_n 0, 1) := by decide +kernel
theorem d_AL_fastRemove_36 : decode cc_AL_fastRemove 36 = .ok (.iload_n 3, 1) := by decide +kernel
theorem d_AL_fastRemove_37 : decode cc_AL_fastRemove 37 = .ok (.dup_x1, 1) := by decide +kernel
theorem d_AL_fastRemove_38 : decode cc_AL_fastRemove 38 = .ok (.putfield 48, 3) := by decide +kernel
theorem d_AL_fastRemove_41 : decode cc_AL_fastRemove 41 = .ok (.aconst_null, 1) := by decide +kernel
theorem d_AL_fastRemove_42 : decode cc_AL_fastRemove 42 = .ok (.aastore, 1) := by decide +kernel
theorem d_AL_fastRemove_43 : decode cc_AL_fastRemove 43 = .ok (.return_, 1) := by decide +kernel
theorem d_AL_get_0 : decode cc_AL_get 0 = .ok (.iload_n 1, 1) := by decide +kernel
theorem d_AL_get_1 : decode cc_AL_get 1 = .ok (.aload_n 0, 1) := by decide +kernel
theorem d_AL_get_2 : decode cc_AL_get 2 = .ok (.getfield 48, 3) := by decide +kernel
theorem d_AL_get_5 : decode cc_AL_get 5 = .ok (.invokestatic 118, 3) := by decide +kernel
theorem d_AL_get_8 : decode cc_AL_get 8 = .ok (.pop, 1) := by decide +kernel
theorem d_AL_get_9 : decode cc_AL_get 9 = .ok (.aload_n 0, 1) := by decide +kernel
theorem d_AL_get_10 : decode cc_AL_get 10 = .ok (.iload_n 1, 1) := by decide +kernel
theorem d_AL_get_11 : decode cc_AL_get 11 = .ok (.invokevirtual 123, 3) := by decide +kernel
theorem d_AL_get_14 : decode cc_AL_get 14 = .ok (.areturn, 1) := by decide +kernel
theorem d_AL_grow0_0 : decode cc_AL_grow0 0 = .ok (.aload_n 0, 1) := by decide +kernel
theorem d_AL_grow0_1 : decode cc_AL_grow0 1 = .ok (.aload_n 0, 1) := by decide +kernel
theorem d_AL_grow0_2 : decode cc_AL_grow0 2 = .ok (.getfield 48, 3) := by decide +kernel
theorem d_AL_grow0_5 : decode cc_AL_grow0 5 = .ok (.iconst 1, 1) := by decide +kernel
theorem d_AL_grow0_6 : decode cc_AL_grow0 6 = .ok (.iadd, 1) := by decide +kernel
theorem d_AL_grow0_7 : decode cc_AL_grow0 7 = .ok (.invokevirtual 69, 3) := by decide +kernel
theorem d_AL_grow0_10 : decode cc_AL_grow0 10 = .ok (.areturn, 1) := by decide +kernel
theorem d_AL_grow1_0 : decode cc_AL_grow1 0 = .ok (.aload_n 0, 1) := by decide +kernel
theorem d_AL_grow1_1 : decode cc_AL_grow1 1 = .ok (.getfield 9, 3) := by decide +kernel
theorem d_AL_grow1_4 : decode cc_AL_grow1 4 = .ok (.arraylength, 1) := by decide +kernel
theorem d_AL_grow1_5 : decode cc_AL_grow1 5 = .ok (.istore_n 2, 1) := by decide +kernel
theorem d_AL_grow1_6 : decode cc_AL_grow1 6 = .ok (.iload_n 2, 1) := by decide +kernel
theorem d_AL_grow1_7 : decode cc_AL_grow1 7 = .ok (.ifCond .gt 13, 3) := by decide +kernel
theorem d_AL_grow1_10 : decode cc_AL_grow1 10 = .ok (.aload_n 0, 1) := by decide +kernel
theorem d_AL_grow1_11 : decode cc_AL_grow1 11 = .ok (.getfield 9, 3) := by decide +kernel
theorem d_AL_grow1_14 : decode cc_AL_grow1 14 = .ok (.getstatic 39, 3) := by decide +kernel
theorem d_AL_grow1_17 : decode cc_AL_grow1 17 = .ok (.if_acmp .eq 28, 3) := by decide +kernel
theorem d_AL_grow1_20 : decode cc_AL_grow1 20 = .ok (.iload_n 2, 1) := by decide +kernel
theorem d_AL_grow1_21 : decode cc_AL_grow1 21 = .ok (.iload_n 1, 1) := by decide +kernel
theorem d_AL_grow1_22 : decode cc_AL_grow1 22 = .ok (.iload_n 2, 1) := by decide +kernel
theorem d_AL_grow1_23 : decode cc_AL_grow1 23 = .ok (.isub, 1) := by decide +kernel
theorem d_AL_grow1_24 : decode cc_AL_grow1 24 = .ok (.iload_n 2, 1) := by decide +kernel
theorem d_AL_grow1_25 : decode cc_AL_grow1 25 = .ok (.iconst 1, 1) := by decide +kernel
theorem d_AL_grow1_26 : decode cc_AL_grow1 26 = .ok (.ishr, 1) := by decide +kernel
theorem d_AL_grow1_27 : decode cc_AL_grow1 27 = .ok (.invokestatic 73, 3) := by decide +kernel
theorem d_AL_grow1_30 : decode cc_AL_grow1 30 = .ok (.istore_n 3, 1) := by decide +kernel
theorem d_AL_grow1_31 : decode cc_AL_grow1 31 = .ok (.aload_n 0, 1) := by decide +kernel
theorem d_AL_grow1_32 : decode cc_AL_grow1 32 = .ok (.aload_n 0, 1) := by decide +kernel
theorem d_AL_grow1_33 : decode cc_AL_grow1 33 = .ok (.getfield 9, 3) := by decide +kernel
theorem d_AL_grow1_36 : decode cc_AL_grow1 36 = .ok (.iload_n 3, 1) := by decide +kernel
theorem d_AL_grow1_37 : decode cc_AL_grow1 37 = .ok (.invokestatic 66, 3) := by decide +kernel
theorem d_AL_grow1_40 : decode cc_AL_grow1 40 = .ok (.dup_x1, 1) := by decide +kernel
theorem d_AL_grow1_41 : decode cc_AL_grow1 41 = .ok (.putfield 9, 3) := by decide +kernel
theorem d_AL_grow1_44 : decode cc_AL_grow1 44 = .ok (.areturn, 1) := by decide +kernel
theorem d_AL_grow1_45 : decode cc_AL_grow1 45 = .ok (.aload_n 0, 1) := by decide +kernel
theorem d_AL_grow1_46 : decode cc_AL_grow1 46 = .ok (.bipush 10, 2) := by decide +kernel
theorem d_AL_grow1_48 : decode cc_AL_grow1 48 = .ok (.iload_n 1, 1) := by decide +kernel
theorem d_AL_grow1_49 : decode cc_AL_grow1 49 = .ok (.invokestatic 79, 3) := by decide +kernel
theorem d_AL_grow1_52 : decode cc_AL_grow1 52 = .ok (.anewarray 7, 3) := by decide +kernel
theorem d_AL_grow1_55 : decode cc_AL_grow1 55 = .ok (.dup_x1, 1) := by decide +kernel
theorem d_AL_grow1_56 : decode cc_AL_grow1 56 = .ok (.putfield 9, 3) := by decide +kernel
theorem d_AL_grow1_59 : decode cc_AL_grow1 59 = .ok (.areturn, 1) := by decide +kernel
theorem d_AL_init_0 : decode cc_AL_init 0 = .ok (.aload_n 0, 1) := by decide +kernel
theorem d_AL_init_1 : decode cc_AL_init 1 = .ok (.invokespecial 1, 3) := by decide +kernel
theorem d_AL_init_4 : decode cc_AL_init 4 = .ok (.aload_n 0, 1) := by decide +kernel
theorem d_AL_init_5 : decode cc_AL_init 5 = .ok (.getstatic 39, 3) := by decide +kernel
theorem d_AL_init_8 : decode cc_AL_init 8 = .ok (.putfield 9, 3) := by decide +kernel
theorem d_AL_init_11 : decode cc_AL_init 11 = .ok (.return_, 1) := by decide +kernel
theorem d_AL_remove_0 : decode cc_AL_remove 0 = .ok (.iload_n 1, 1) := by decide +kernel
theorem d_AL_remove_1 : decode cc_AL_remove 1 = .ok (.aload_n 0, 1) := by decide +kernel
theorem d_AL_remove_2 : decode cc_AL_remove 2 = .ok (.getfield 48, 3) := by decide +kernel
theorem d_AL_remove_5 : decode cc_AL_remove 5 = .ok (.invokestatic 118, 3) := by decide +kernel
theorem d_AL_remove_8 : decode cc_AL_remove 8 = .ok (.pop, 1) := by decide +kernel
theorem d_AL_remove_9 : decode cc_AL_remove 9 = .ok (.aload_n 0, 1) := by decide +kernel
theorem d_AL_remove_10 : decode cc_AL_remove 10 = .ok (.getfield 9, 3) := by decide +kernel
theorem d_AL_remove_13 : decode cc_AL_remove 13 = .ok (.astore_n 2, 1) := by decide +kernel
theorem d_AL_remove_14 : decode cc_AL_remove 14 = .ok (.aload_n 2, 1) := by decide +kernel
theorem d_AL_remove_15 : decode cc_AL_remove 15 = .ok (.iload_n 1, 1) := by decide +kernel
theorem d_AL_remove_16 : decode cc_AL_remove 16 = .ok (.aaload, 1) := by decide +kernel
theorem d_AL_remove_17 : decode cc_AL_remove 17 = .ok (.astore_n 3, 1) := by decide +kernel
theorem d_AL_remove_18 : decode cc_AL_remove 18 = .ok (.aload_n 0, 1) := by decide +kernel
theorem d_AL_remove_19 : decode cc_AL_remove 19 = .ok (.aload_n 2, 1) := by decide +kernel
theorem d_AL_remove_20 : decode cc_AL_remove 20 = .ok (.iload_n 1, 1) := by decide +kernel
theorem d_AL_remove_21 : decode cc_AL_remove 21 = .ok (.invokevirtual 144, 3) := by decide +kernel
theorem d_AL_remove_24 : decode cc_AL_remove 24 = .ok (.aload_n 3, 1) := by decide +kernel
theorem d_AL_remove_25 : decode cc_AL_remove 25 = .ok (.areturn, 1) := by decide +kernel
theorem d_AL_size_0 : decode cc_AL_size 0 = .ok (.aload_n 0, 1) := by decide +kernel
theorem d_AL_size_1 : decode cc_AL_size 1 = .ok (.getfield 48, 3) := by decide +kernel
theorem d_AL_size_4 : decode cc_AL_size 4 = .ok (.ireturn, 1) := by decide +kernel
theorem d_AbC_init_0 : decode cc_AbC_init 0 = .ok (.aload_n 0, 1) := by decide +kernel
theorem d_AbC_init_1 : decode cc_AbC_init 1 = .ok (.invokespecial 1, 3) := by decide +kernel
theorem d_AbC_init_4 : decode cc_AbC_init 4 = .ok (.return_, 1) := by decide +kernel
theorem d_AbL_init_0 : decode cc_AbL_init 0 = .ok (.aload_n 0, 1) := by decide +kernel
theorem d_AbL_init_1 : decode cc_AbL_init 1 = .ok (.invokespecial 1, 3) := by decide +kernel
theorem d_AbL_init_4 : decode cc_AbL_init 4 = .ok (.aload_n 0, 1) := by decide +kernel
theorem d_AbL_init_5 : decode cc_AbL_init 5 = .ok (.iconst 0, 1) := by decide +kernel
theorem d_AbL_init_6 : decode cc_AbL_init 6 = .ok (.putfield 7, 3) := by decide +kernel
theorem d_AbL_init_9 : decode cc_AbL_init 9 = .ok (.return_, 1) := by decide +kernel
theorem d_Ar_copyOf2_0 : decode cc_Ar_copyOf2 0 = .ok (.aload_n 0, 1) := by decide +kernel
theorem d_Ar_copyOf2_1 : decode cc_Ar_copyOf2 1 = .ok (.iload_n 1, 1) := by decide +kernel
theorem d_Ar_copyOf2_2 : decode cc_Ar_copyOf2 2 = .ok (.aload_n 0, 1) := by decide +kernel
theorem d_Ar_copyOf2_3 : decode cc_Ar_copyOf2 3 = .ok (.invokevirtual 86, 3) := by decide +kernel
theorem d_Ar_copyOf2_6 : decode cc_Ar_copyOf2 6 = .ok (.invokestatic 300, 3) := by decide +kernel
theorem d_Ar_copyOf2_9 : decode cc_Ar_copyOf2 9 = .ok (.areturn, 1) := by decide +kernel
theorem d_Ar_copyOf3_0 : decode cc_Ar_copyOf3 0 = .ok (.aload_n 2, 1) := by decide +kernel
theorem d_Ar_copyOf3_1 : decode cc_Ar_copyOf3 1 = .ok (.ldc 110, 2) := by decide +kernel
theorem d_Ar_copyOf3_3 : decode cc_Ar_copyOf3 3 = .ok (.if_acmp .ne 10, 3) := by decide +kernel
theorem d_Ar_copyOf3_6 : decode cc_Ar_copyOf3 6 = .ok (.iload_n 1, 1) := by decide +kernel
theorem d_Ar_copyOf3_7 : decode cc_Ar_copyOf3 7 = .ok (.anewarray 2, 3) := by decide +kernel
theorem d_Ar_copyOf3_10 : decode cc_Ar_copyOf3 10 = .ok (.goto 14, 3) := by decide +kernel
theorem d_Ar_copyOf3_13 : decode cc_Ar_copyOf3 13 = .ok (.aload_n 2, 1) := by decide +kernel
theorem d_Ar_copyOf3_14 : decode cc_Ar_copyOf3 14 = .ok (.invokevirtual 90, 3) := by decide +kernel
theorem d_Ar_copyOf3_17 : decode cc_Ar_copyOf3 17 = .ok (.iload_n 1, 1) := by decide +kernel
theorem d_Ar_copyOf3_18 : decode cc_Ar_copyOf3 18 = .ok (.invokestatic 95, 3) := by decide +kernel
theorem d_Ar_copyOf3_21 : decode cc_Ar_copyOf3 21 = .ok (.checkcast 110, 3) := by decide +kernel
theorem d_Ar_copyOf3_24 : decode cc_Ar_copyOf3 24 = .ok (.astore_n 3, 1) := by decide +kernel
theorem d_Ar_copyOf3_25 : decode cc_Ar_copyOf3 25 = .ok (.aload_n 0, 1) := by decide +kernel
theorem d_Ar_copyOf3_26 : decode cc_Ar_copyOf3 26 = .ok (.iconst 0, 1) := by decide +kernel
theorem d_Ar_copyOf3_27 : decode cc_Ar_copyOf3 27 = .ok (.aload_n 3, 1) := by decide +kernel
theorem d_Ar_copyOf3_28 : decode cc_Ar_copyOf3 28 = .ok (.iconst 0, 1) := by decide +kernel
theorem d_Ar_copyOf3_29 : decode cc_Ar_copyOf3 29 = .ok (.aload_n 0, 1) := by decide +kernel
theorem d_Ar_copyOf3_30 : decode cc_Ar_copyOf3 30 = .ok (.arraylength, 1) := by decide +kernel
theorem d_Ar_copyOf3_31 : decode cc_Ar_copyOf3 31 = .ok (.iload_n 1, 1) := by decide +kernel
theorem d_Ar_copyOf3_32 : decode cc_Ar_copyOf3 32 = .ok (.invokestatic 304, 3) := by decide +kernel
theorem d_Ar_copyOf3_35 : decode cc_Ar_copyOf3 35 = .ok (.invokestatic 150, 3) := by decide +kernel
theorem d_Ar_copyOf3_38 : decode cc_Ar_copyOf3 38 = .ok (.aload_n 3, 1) := by decide +kernel
theorem d_Ar_copyOf3_39 : decode cc_Ar_copyOf3 39 = .ok (.areturn, 1) := by decide +kernel
theorem d_As_hugeLength_0 : decode cc_As_hugeLength 0 = .ok (.iload_n 0, 1) := by decide +kernel
theorem d_As_hugeLength_1 : decode cc_As_hugeLength 1 = .ok (.iload_n 1, 1) := by decide +kernel
theorem d_As_hugeLength_2 : decode cc_As_hugeLength 2 = .ok (.iadd, 1) := by decide +kernel
theorem d_As_hugeLength_3 : decode cc_As_hugeLength 3 = .ok (.istore_n 2, 1) := by decide +kernel
theorem d_As_hugeLength_4 : decode cc_As_hugeLength 4 = .ok (.iload_n 2, 1) := by decide +kernel
theorem d_As_hugeLength_5 : decode cc_As_hugeLength 5 = .ok (.ifCond .ge 44, 3) := by decide +kernel
theorem d_As_hugeLength_8 : decode cc_As_hugeLength 8 = .ok (.new 204, 3) := by decide +kernel
theorem d_As_hugeLength_11 : decode cc_As_hugeLength 11 = .ok (.dup, 1) := by decide +kernel
theorem d_As_hugeLength_12 : decode cc_As_hugeLength 12 = .ok (.new 89, 3) := by decide +kernel
theorem d_As_hugeLength_15 : decode cc_As_hugeLength 15 = .ok (.dup, 1) := by decide +kernel
theorem d_As_hugeLength_16 : decode cc_As_hugeLength 16 = .ok (.invokespecial 91, 3) := by decide +kernel
theorem d_As_hugeLength_19 : decode cc_As_hugeLength 19 = .ok (.ldc 206, 2) := by decide +kernel
theorem d_As_hugeLength_21 : decode cc_As_hugeLength 21 = .ok (.invokevirtual 94, 3) := by decide +kernel
theorem d_As_hugeLength_24 : decode cc_As_hugeLength 24 = .ok (.iload_n 0, 1) := by decide +kernel
theorem d_As_hugeLength_25 : decode cc_As_hugeLength 25 = .ok (.invokevirtual 98, 3) := by decide +kernel
theorem d_As_hugeLength_28 : decode cc_As_hugeLength 28 = .ok (.ldc 208, 2) := by decide +kernel
theorem d_As_hugeLength_30 : decode cc_As_hugeLength 30 = .ok (.invokevirtual 94, 3) := by decide +kernel
theorem d_As_hugeLength_33 : decode cc_As_hugeLength 33 = .ok (.iload_n 1, 1) := by decide +kernel
theorem d_As_hugeLength_34 : decode cc_As_hugeLength 34 = .ok (.invokevirtual 98, 3) := by decide +kernel
theorem d_As_hugeLength_37 : decode cc_As_hugeLength 37 = .ok (.ldc 210, 2) := by decide +kernel
theorem d_As_hugeLength_39 : decode cc_As_hugeLength 39 = .ok (.invokevirtual 94, 3) := by decide +kernel
theorem d_As_hugeLength_42 : decode cc_As_hugeLength 42 = .ok (.invokevirtual 101, 3) := by decide +kernel
theorem d_As_hugeLength_45 : decode cc_As_hugeLength 45 = .ok (.invokespecial 212, 3) := by decide +kernel
theorem d_As_hugeLength_48 : decode cc_As_hugeLength 48 = .ok (.athrow, 1) := by decide +kernel
theorem d_As_hugeLength_49 : decode cc_As_hugeLength 49 = .ok (.iload_n 2, 1) := by decide +kernel
theorem d_As_hugeLength_50 : decode cc_As_hugeLength 50 = .ok (.ldc 200, 2) := by decide +kernel
theorem d_As_hugeLength_52 : decode cc_As_hugeLength 52 = .ok (.if_icmp .gt 6, 3) := by decide +kernel
theorem d_As_hugeLength_55 : decode cc_As_hugeLength 55 = .ok (.ldc 200, 2) := by decide +kernel
theorem d_As_hugeLength_57 : decode cc_As_hugeLength 57 = .ok (.ireturn, 1) := by decide +kernel
theorem d_As_hugeLength_58 : decode cc_As_hugeLength 58 = .ok (.iload_n 2, 1) := by decide +kernel
theorem d_As_hugeLength_59 : decode cc_As_hugeLength 59 = .ok (.ireturn, 1) := by decide +kernel
theorem d_As_newLength_0 : decode cc_As_newLength 0 = .ok (.iload_n 0, 1) := by decide +kernel
theorem d_As_newLength_1 : decode cc_As_newLength 1 = .ok (.iload_n 1, 1) := by decide +kernel
theorem d_As_newLength_2 : decode cc_As_newLength 2 = .ok (.iload_n 2, 1) := by decide +kernel
theorem d_As_newLength_3 : decode cc_As_newLength 3 = .ok (.invokestatic 194, 3) := by decide +kernel
theorem d_As_newLength_6 : decode cc_As_newLength 6 = .ok (.iadd, 1) := by decide +kernel
theorem d_As_newLength_7 : decode cc_As_newLength 7 = .ok (.istore_n 3, 1) := by decide +kernel
theorem d_As_newLength_8 : decode cc_As_newLength 8 = .ok (.iconst 0, 1) := by decide +kernel
theorem d_As_newLength_9 : decode cc_As_newLength 9 = .ok (.iload_n 3, 1) := by decide +kernel
theorem d_As_newLength_10 : decode cc_As_newLength 10 = .ok (.if_icmp .ge 11, 3) := by decide +kernel
theorem d_As_newLength_13 : decode cc_As_newLength 13 = .ok (.iload_n 3, 1) := by decide +kernel
theorem d_As_newLength_14 : decode cc_As_newLength 14 = .ok (.ldc 200, 2) := by decide +kernel
theorem d_As_newLength_16 : decode cc_As_newLength 16 = .ok (.if_icmp .gt 5, 3) := by decide +kernel
theorem d_As_newLength_19 : decode cc_As_newLength 19 = .ok (.iload_n 3, 1) := by decide +kernel
theorem d_As_newLength_20 : decode cc_As_newLength 20 = .ok (.ireturn, 1) := by decide +kernel
theorem d_As_newLength_21 : decode cc_As_newLength 21 = .ok (.iload_n 0, 1) := by decide +kernel
theorem d_As_newLength_22 : decode cc_As_newLength 22 = .ok (.iload_n 1, 1) := by decide +kernel
theorem d_As_newLength_23 : decode cc_As_newLength 23 = .ok (.invokestatic 201, 3) := by decide +kernel
theorem d_As_newLength_26 : decode cc_As_newLength 26 = .ok (.ireturn, 1) := by decide +kernel
theorem d_Job_doLeaf_0 : decode cc_Job_doLeaf 0 = .ok (.aload_n 0, 1) := by decide +kernel
theorem d_Job_doLeaf_1 : decode cc_Job_doLeaf 1 = .ok (.getfield 21, 3) := by decide +kernel
theorem d_Job_doLeaf_4 : decode cc_Job_doLeaf 4 = .ok (.tableswitch 172 0 4 #[36, 57, 78, 128, 145], 36) := by decide +kernel
theorem d_Job_doLeaf_40 : decode cc_Job_doLeaf 40 = .ok (.aload_n 1, 1) := by decide +kernel
theorem d_Job_doLeaf_41 : decode cc_Job_doLeaf 41 = .ok (.aload_n 0, 1) := by decide +kernel
theorem d_Job_doLeaf_42 : decode cc_Job_doLeaf 42 = .ok (.getfield 24, 3) := by decide +kernel
theorem d_Job_doLeaf_45 : decode cc_Job_doLeaf 45 = .ok (.aload_n 1, 1) := by decide +kernel
theorem d_Job_doLeaf_46 : decode cc_Job_doLeaf 46 = .ok (.getfield 34, 3) := by decide +kernel
theorem d_Job_doLeaf_49 : decode cc_Job_doLeaf 49 = .ok (.aload_n 1, 1) := by decide +kernel
theorem d_Job_doLeaf_50 : decode cc_Job_doLeaf 50 = .ok (.getfield 39, 3) := by decide +kernel
theorem d_Job_doLeaf_53 : decode cc_Job_doLeaf 53 = .ok (.invokevirtual 42, 3) := by decide +kernel
theorem d_Job_doLeaf_56 : decode cc_Job_doLeaf 56 = .ok (.putfield 48, 3) := by decide +kernel
theorem d_Job_doLeaf_59 : decode cc_Job_doLeaf 59 = .ok (.iconst (-1), 1) := by decide +kernel
theorem d_Job_doLeaf_60 : decode cc_Job_doLeaf 60 = .ok (.ireturn, 1) := by decide +kernel
theorem d_Job_doLeaf_61 : decode cc_Job_doLeaf 61 = .ok (.aload_n 1, 1) := by decide +kernel
theorem d_Job_doLeaf_62 : decode cc_Job_doLeaf 62 = .ok (.aload_n 0, 1) := by decide +kernel
theorem d_Job_doLeaf_63 : decode cc_Job_doLeaf 63 = .ok (.getfield 24, 3) := by decide +kernel
theorem d_Job_doLeaf_66 : decode cc_Job_doLeaf 66 = .ok (.aload_n 1, 1) := by decide +kernel
theorem d_Job_doLeaf_67 : decode cc_Job_doLeaf 67 = .ok (.getfield 34, 3) := by decide +kernel
theorem d_Job_doLeaf_70 : decode cc_Job_doLeaf 70 = .ok (.aload_n 1, 1) := by decide +kernel
theorem d_Job_doLeaf_71 : decode cc_Job_doLeaf 71 = .ok (.getfield 39, 3) := by decide +kernel
theorem d_Job_doLeaf_74 : decode cc_Job_doLeaf 74 = .ok (.invokevirtual 52, 3) := by decide +kernel
theorem d_Job_doLeaf_77 : decode cc_Job_doLeaf 77 = .ok (.putfield 48, 3) := by decide +kernel
theorem d_Job_doLeaf_80 : decode cc_Job_doLeaf 80 = .ok (.iconst (-1), 1) := by decide +kernel
theorem d_Job_doLeaf_81 : decode cc_Job_doLeaf 81 = .ok (.ireturn, 1) := by decide +kernel
theorem d_Job_doLeaf_82 : decode cc_Job_doLeaf 82 = .ok (.aload_n 0, 1) := by decide +kernel
theorem d_Job_doLeaf_83 : decode cc_Job_doLeaf 83 = .ok (.getfield 55, 3) := by decide +kernel
theorem d_Job_doLeaf_86 : decode cc_Job_doLeaf 86 = .ok (.ifCond .eq 25, 3) := by decide +kernel
theorem d_Job_doLeaf_89 : decode cc_Job_doLeaf 89 = .ok (.aload_n 0, 1) := by decide +kernel
theorem d_Job_doLeaf_90 : decode cc_Job_doLeaf 90 = .ok (.getfield 24, 3) := by decide +kernel
theorem d_Job_doLeaf_93 : decode cc_Job_doLeaf 93 = .ok (.aload_n 1, 1) := by decide +kernel
theorem d_Job_doLeaf_94 : decode cc_Job_doLeaf 94 = .ok (.getfield 34, 3) := by decide +kernel
theorem d_Job_doLeaf_97 : decode cc_Job_doLeaf 97 = .ok (.aload_n 1, 1) := by decide +kernel
theorem d_Job_doLeaf_98 : decode cc_Job_doLeaf 98 = .ok (.getfield 39, 3) := by decide +kernel
theorem d_Job_doLeaf_101 : decode cc_Job_doLeaf 101 = .ok (.aload_n 1, 1) := by decide +kernel
theorem d_Job_doLeaf_102 : decode cc_Job_doLeaf 102 = .ok (.getfield 59, 3) := by decide +kernel
theorem d_Job_doLeaf_105 : decode cc_Job_doLeaf 105 = .ok (.invokevirtual 62, 3) := by decide +kernel
theorem d_Job_doLeaf_108 : decode cc_Job_doLeaf 108 = .ok (.goto 22, 3) := by decide +kernel
theorem d_Job_doLeaf_111 : decode cc_Job_doLeaf 111 = .ok (.aload_n 1, 1) := by decide +kernel
theorem d_Job_doLeaf_112 : decode cc_Job_doLeaf 112 = .ok (.aload_n 0, 1) := by decide +kernel
theorem d_Job_doLeaf_113 : decode cc_Job_doLeaf 113 = .ok (.getfield 24, 3) := by decide +kernel
theorem d_Job_doLeaf_116 : decode cc_Job_doLeaf 116 = .ok (.aload_n 1, 1) := by decide +kernel
theorem d_Job_doLeaf_117 : decode cc_Job_doLeaf 117 = .ok (.getfield 34, 3) := by decide +kernel
theorem d_Job_doLeaf_120 : decode cc_Job_doLeaf 120 = .ok (.aload_n 1, 1) := by decide +kernel
theorem d_Job_doLeaf_121 : decode cc_Job_doLeaf 121 = .ok (.getfield 39, 3) := by decide +kernel
theorem d_Job_doLeaf_124 : decode cc_Job_doLeaf 124 = .ok (.invokevirtual 42, 3) := by decide +kernel
theorem d_Job_doLeaf_127 : decode cc_Job_doLeaf 127 = .ok (.putfield 48, 3) := by decide +kernel
theorem d_Job_doLeaf_130 : decode cc_Job_doLeaf 130 = .ok (.iconst (-1), 1) := by decide +kernel
theorem d_Job_doLeaf_131 : decode cc_Job_doLeaf 131 = .ok (.ireturn, 1) := by decide +kernel
theorem d_Job_doLeaf_132 : decode cc_Job_doLeaf 132 = .ok (.aload_n 0, 1) := by decide +kernel
theorem d_Job_doLeaf_133 : decode cc_Job_doLeaf 133 = .ok (.getfield 24, 3) := by decide +kernel
theorem d_Job_doLeaf_136 : decode cc_Job_doLeaf 136 = .ok (.aload_n 1, 1) := by decide +kernel
theorem d_Job_doLeaf_137 : decode cc_Job_doLeaf 137 = .ok (.getfield 34, 3) := by decide +kernel
theorem d_Job_doLeaf_140 : decode cc_Job_doLeaf 140 = .ok (.aload_n 1, 1) := by decide +kernel
theorem d_Job_doLeaf_141 : decode cc_Job_doLeaf 141 = .ok (.getfield 39, 3) := by decide +kernel
theorem d_Job_doLeaf_144 : decode cc_Job_doLeaf 144 = .ok (.invokevirtual 66, 3) := by decide +kernel
theorem d_Job_doLeaf_147 : decode cc_Job_doLeaf 147 = .ok (.iconst (-1), 1) := by decide +kernel
theorem d_Job_doLeaf_148 : decode cc_Job_doLeaf 148 = .ok (.ireturn, 1) := by decide +kernel
theorem d_Job_doLeaf_149 : decode cc_Job_doLeaf 149 = .ok (.aload_n 0, 1) := by decide +kernel
theorem d_Job_doLeaf_150 : decode cc_Job_doLeaf 150 = .ok (.getfield 24, 3) := by decide +kernel
theorem d_Job_doLeaf_153 : decode cc_Job_doLeaf 153 = .ok (.aload_n 1, 1) := by decide +kernel
theorem d_Job_doLeaf_154 : decode cc_Job_doLeaf 154 = .ok (.getfield 34, 3) := by decide +kernel
theorem d_Job_doLeaf_157 : decode cc_Job_doLeaf 157 = .ok (.aload_n 1, 1) := by decide +kernel
theorem d_Job_doLeaf_158 : decode cc_Job_doLeaf 158 = .ok (.getfield 39, 3) := by decide +kernel
theorem d_Job_doLeaf_161 : decode cc_Job_doLeaf 161 = .ok (.aload_n 0, 1) := by decide +kernel
theorem d_Job_doLeaf_162 : decode cc_Job_doLeaf 162 = .ok (.getfield 28, 3) := by decide +kernel
theorem d_Job_doLeaf_165 : decode cc_Job_doLeaf 165 = .ok (.i2l, 1) := by decide +kernel
theorem d_Job_doLeaf_166 : decode cc_Job_doLeaf 166 = .ok (.aload_n 0, 1) := by decide +kernel
theorem d_Job_doLeaf_167 : decode cc_Job_doLeaf 167 = .ok (.getfield 31, 3) := by decide +kernel
theorem d_Job_doLeaf_170 : decode cc_Job_doLeaf 170 = .ok (.i2l, 1) := by decide +kernel
theorem d_Job_doLeaf_171 : decode cc_Job_doLeaf 171 = .ok (.invokevirtual 70, 3) := by decide +kernel
theorem d_Job_doLeaf_174 : decode cc_Job_doLeaf 174 = .ok (.iconst (-1), 1) := by decide +kernel
theorem d_Job_doLeaf_175 : decode cc_Job_doLeaf 175 = .ok (.ireturn, 1) := by decide +kernel
theorem d_Job_doLeaf_176 : decode cc_Job_doLeaf 176 = .ok (.aload_n 0, 1) := by decide +kernel
theorem d_Job_doLeaf_177 : decode cc_Job_doLeaf 177 = .ok (.getfield 24, 3) := by decide +kernel
theorem d_Job_doLeaf_180 : decode cc_Job_doLeaf 180 = .ok (.aload_n 1, 1) := by decide +kernel
theorem d_Job_doLeaf_181 : decode cc_Job_doLeaf 181 = .ok (.getfield 34, 3) := by decide +kernel
theorem d_Job_doLeaf_184 : decode cc_Job_doLeaf 184 = .ok (.aload_n 1, 1) := by decide +kernel
theorem d_Job_doLeaf_185 : decode cc_Job_doLeaf 185 = .ok (.getfield 39, 3) := by decide +kernel
theorem d_Job_doLeaf_188 : decode cc_Job_doLeaf 188 = .ok (.aload_n 0, 1) := by decide +kernel
theorem d_Job_doLeaf_189 : decode cc_Job_doLeaf 189 = .ok (.getfield 28, 3) := by decide +kernel
theorem d_Job_doLeaf_192 : decode cc_Job_doLeaf 192 = .ok (.i2l, 1) := by decide +kernel
theorem d_Job_doLeaf_193 : decode cc_Job_doLeaf 193 = .ok (.invokevirtual 74, 3) := by decide +kernel
theorem d_Job_doLeaf_196 : decode cc_Job_doLeaf 196 = .ok (.ireturn, 1) := by decide +kernel
theorem d_Job_init_0 : decode cc_Job_init 0 = .ok (.aload_n 0, 1) := by decide +kernel
theorem d_Job_init_1 : decode cc_Job_init 1 = .ok (.invokespecial 3, 3) := by decide +kernel
theorem d_Job_init_4 : decode cc_Job_init 4 = .ok (.aload_n 0, 1) := by decide +kernel
theorem d_Job_init_5 : decode cc_Job_init 5 = .ok (.iconst 0, 1) := by decide +kernel
theorem d_Job_init_6 : decode cc_Job_init 6 = .ok (.putfield 9, 3) := by decide +kernel
theorem d_Job_init_9 : decode cc_Job_init 9 = .ok (.aload_n 0, 1) := by decide +kernel
theorem d_Job_init_10 : decode cc_Job_init 10 = .ok (.iconst (-1), 1) := by decide +kernel
theorem d_Job_init_11 : decode cc_Job_init 11 = .ok (.putfield 15, 3) := by decide +kernel
theorem d_Job_init_14 : decode cc_Job_init 14 = .ok (.aload_n 0, 1) := by decide +kernel
theorem d_Job_init_15 : decode cc_Job_init 15 = .ok (.iload_n 1, 1) := by decide +kernel
theorem d_Job_init_16 : decode cc_Job_init 16 = .ok (.putfield 18, 3) := by decide +kernel
theorem d_Job_init_19 : decode cc_Job_init 19 = .ok (.aload_n 0, 1) := by decide +kernel
theorem d_Job_init_20 : decode cc_Job_init 20 = .ok (.iload_n 2, 1) := by decide +kernel
theorem d_Job_init_21 : decode cc_Job_init 21 = .ok (.putfield 21, 3) := by decide +kernel
theorem d_Job_init_24 : decode cc_Job_init 24 = .ok (.aload_n 0, 1) := by decide +kernel
theorem d_Job_init_25 : decode cc_Job_init 25 = .ok (.aload_n 3, 1) := by decide +kernel
theorem d_Job_init_26 : decode cc_Job_init 26 = .ok (.putfield 24, 3) := by decide +kernel
theorem d_Job_init_29 : decode cc_Job_init 29 = .ok (.aload_n 0, 1) := by decide +kernel
theorem d_Job_init_30 : decode cc_Job_init 30 = .ok (.iload 4, 2) := by decide +kernel
theorem d_Job_init_32 : decode cc_Job_init 32 = .ok (.putfield 28, 3) := by decide +kernel
theorem d_Job_init_35 : decode cc_Job_init 35 = .ok (.aload_n 0, 1) := by decide +kernel
theorem d_Job_init_36 : decode cc_Job_init 36 = .ok (.iload 5, 2) := by decide +kernel
theorem d_Job_init_38 : decode cc_Job_init 38 = .ok (.putfield 31, 3) := by decide +kernel
theorem d_Job_init_41 : decode cc_Job_init 41 = .ok (.return_, 1) := by decide +kernel
theorem d_Job_joinParts_0 : decode cc_Job_joinParts 0 = .ok (.aload_n 0, 1) := by decide +kernel
theorem d_Job_joinParts_1 : decode cc_Job_joinParts 1 = .ok (.getfield 21, 3) := by decide +kernel
theorem d_Job_joinParts_4 : decode cc_Job_joinParts 4 = .ok (.iconst 3, 1) := by decide +kernel
theorem d_Job_joinParts_5 : decode cc_Job_joinParts 5 = .ok (.if_icmp .ne 21, 3) := by decide +kernel
theorem d_Job_joinParts_8 : decode cc_Job_joinParts 8 = .ok (.aload_n 0, 1) := by decide +kernel
theorem d_Job_joinParts_9 : decode cc_Job_joinParts 9 = .ok (.getfield 24, 3) := by decide +kernel
theorem d_Job_joinParts_12 : decode cc_Job_joinParts 12 = .ok (.aload_n 1, 1) := by decide +kernel
theorem d_Job_joinParts_13 : decode cc_Job_joinParts 13 = .ok (.getfield 34, 3) := by decide +kernel
theorem d_Job_joinParts_16 : decode cc_Job_joinParts 16 = .ok (.aload_n 1, 1) := by decide +kernel
theorem d_Job_joinParts_17 : decode cc_Job_joinParts 17 = .ok (.getfield 39, 3) := by decide +kernel
theorem d_Job_joinParts_20 : decode cc_Job_joinParts 20 = .ok (.invokevirtual 66, 3) := by decide +kernel
theorem d_Job_joinParts_23 : decode cc_Job_joinParts 23 = .ok (.goto 59, 3) := by decide +kernel
theorem d_Job_joinParts_26 : decode cc_Job_joinParts 26 = .ok (.aload_n 1, 1) := by decide +kernel
theorem d_Job_joinParts_27 : decode cc_Job_joinParts 27 = .ok (.invokevirtual 78, 3) := by decide +kernel
theorem d_Job_joinParts_30 : decode cc_Job_joinParts 30 = .ok (.ifCond .eq 52, 3) := by decide +kernel
theorem d_Job_joinParts_33 : decode cc_Job_joinParts 33 = .ok (.aload_n 1, 1) := by decide +kernel
theorem d_Job_joinParts_34 : decode cc_Job_joinParts 34 = .ok (.getfield 82, 3) := by decide +kernel
theorem d_Job_joinParts_37 : decode cc_Job_joinParts 37 = .ok (.getfield 48, 3) := by decide +kernel
theorem d_Job_joinParts_40 : decode cc_Job_joinParts 40 = .ok (.lstore_n 2, 1) := by decide +kernel
theorem d_Job_joinParts_41 : decode cc_Job_joinParts 41 = .ok (.aload_n 1, 1) := by decide +kernel
theorem d_Job_joinParts_42 : decode cc_Job_joinParts 42 = .ok (.getfield 86, 3) := by decide +kernel
theorem d_Job_joinParts_45 : decode cc_Job_joinParts 45 = .ok (.getfield 48, 3) := by decide +kernel
theorem d_Job_joinParts_48 : decode cc_Job_joinParts 48 = .ok (.lstore 4, 2) := by decide +kernel
theorem d_Job_joinParts_50 : decode cc_Job_joinParts 50 = .ok (.aload_n 1, 1) := by decide +kernel
theorem d_Job_joinParts_51 : decode cc_Job_joinParts 51 = .ok (.aload_n 0, 1) := by decide +kernel
theorem d_Job_joinParts_52 : decode cc_Job_joinParts 52 = .ok (.getfield 21, 3) := by decide +kernel
theorem d_Job_joinParts_55 : decode cc_Job_joinParts 55 = .ok (.iconst 1, 1) := by decide +kernel
theorem d_Job_joinParts_56 : decode cc_Job_joinParts 56 = .ok (.if_icmp .ne 12, 3) := by decide +kernel
theorem d_Job_joinParts_59 : decode cc_Job_joinParts 59 = .ok (.lload_n 2, 1) := by decide +kernel
theorem d_Job_joinParts_60 : decode cc_Job_joinParts 60 = .ok (.lload 4, 2) := by decide +kernel
theorem d_Job_joinParts_62 : decode cc_Job_joinParts 62 = .ok (.invokestatic 89, 3) := by decide +kernel
theorem d_Job_joinParts_65 : decode cc_Job_joinParts 65 = .ok (.goto 14, 3) := by decide +kernel
theorem d_Job_joinParts_68 : decode cc_Job_joinParts 68 = .ok (.aload_n 0, 1) := by decide +kernel
theorem d_Job_joinParts_69 : decode cc_Job_joinParts 69 = .ok (.getfield 24, 3) := by decide +kernel
theorem d_Job_joinParts_72 : decode cc_Job_joinParts 72 = .ok (.lload_n 2, 1) := by decide +kernel
theorem d_Job_joinParts_73 : decode cc_Job_joinParts 73 = .ok (.lload 4, 2) := by decide +kernel
theorem d_Job_joinParts_75 : decode cc_Job_joinParts 75 = .ok (.ladd, 1) := by decide +kernel
theorem d_Job_joinParts_76 : decode cc_Job_joinParts 76 = .ok (.invokevirtual 95, 3) := by decide +kernel
theorem d_Job_joinParts_79 : decode cc_Job_joinParts 79 = .ok (.putfield 48, 3) := by decide +kernel
theorem d_Job_joinParts_82 : decode cc_Job_joinParts 82 = .ok (.return_, 1) := by decide +kernel
theorem d_Ma_floorDiv_0 : decode cc_Ma_floorDiv 0 = .ok (.lload_n 0, 1) := by decide +kernel
theorem d_Ma_floorDiv_1 : decode cc_Ma_floorDiv 1 = .ok (.lload_n 2, 1) := by decide +kernel
theorem d_Ma_floorDiv_2 : decode cc_Ma_floorDiv 2 = .ok (.ldiv, 1) := by decide +kernel
theorem d_Ma_floorDiv_3 : decode cc_Ma_floorDiv 3 = .ok (.lstore 4, 2) := by decide +kernel
theorem d_Ma_floorDiv_5 : decode cc_Ma_floorDiv 5 = .ok (.lload_n 0, 1) := by decide +kernel
theorem d_Ma_floorDiv_6 : decode cc_Ma_floorDiv 6 = .ok (.lload_n 2, 1) := by decide +kernel
theorem d_Ma_floorDiv_7 : decode cc_Ma_floorDiv 7 = .ok (.lxor, 1) := by decide +kernel
theorem d_Ma_floorDiv_8 : decode cc_Ma_floorDiv 8 = .ok (.lconst 0, 1) := by decide +kernel
theorem d_Ma_floorDiv_9 : decode cc_Ma_floorDiv 9 = .ok (.lcmp, 1) := by decide +kernel
theorem d_Ma_floorDiv_10 : decode cc_Ma_floorDiv 10 = .ok (.ifCond .ge 17, 3) := by decide +kernel
theorem d_Ma_floorDiv_13 : decode cc_Ma_floorDiv 13 = .ok (.lload 4, 2) := by decide +kernel
theorem d_Ma_floorDiv_15 : decode cc_Ma_floorDiv 15 = .ok (.lload_n 2, 1) := by decide +kernel
theorem d_Ma_floorDiv_16 : decode cc_Ma_floorDiv 16 = .ok (.lmul, 1) := by decide +kernel
theorem d_Ma_floorDiv_17 : decode cc_Ma_floorDiv 17 = .ok (.lload_n 0, 1) := by decide +kernel
theorem d_Ma_floorDiv_18 : decode cc_Ma_floorDiv 18 = .ok (.lcmp, 1) := by decide +kernel
theorem d_Ma_floorDiv_19 : decode cc_Ma_floorDiv 19 = .ok (.ifCond .eq 8, 3) := by decide +kernel
theorem d_Ma_floorDiv_22 : decode cc_Ma_floorDiv 22 = .ok (.lload 4, 2) := by decide +kernel
theorem d_Ma_floorDiv_24 : decode cc_Ma_floorDiv 24 = .ok (.lconst 1, 1) := by decide +kernel
theorem d_Ma_floorDiv_25 : decode cc_Ma_floorDiv 25 = .ok (.lsub, 1) := by decide +kernel
theorem d_Ma_floorDiv_26 : decode cc_Ma_floorDiv 26 = .ok (.lreturn, 1) := by decide +kernel
theorem d_Ma_floorDiv_27 : decode cc_Ma_floorDiv 27 = .ok (.lload 4, 2) := by decide +kernel
theorem d_Ma_floorDiv_29 : decode cc_Ma_floorDiv 29 = .ok (.lreturn, 1) := by decide +kernel
theorem d_Ma_maxI_0 : decode cc_Ma_maxI 0 = .ok (.iload_n 0, 1) := by decide +kernel
theorem d_Ma_maxI_1 : decode cc_Ma_maxI 1 = .ok (.iload_n 1, 1) := by decide +kernel
theorem d_Ma_maxI_2 : decode cc_Ma_maxI 2 = .ok (.if_icmp .lt 7, 3) := by decide +kernel
theorem d_Ma_maxI_5 : decode cc_Ma_maxI 5 = .ok (.iload_n 0, 1) := by decide +kernel
theorem d_Ma_maxI_6 : decode cc_Ma_maxI 6 = .ok (.goto 4, 3) := by decide +kernel
theorem d_Ma_maxI_9 : decode cc_Ma_maxI 9 = .ok (.iload_n 1, 1) := by decide +kernel
theorem d_Ma_maxI_10 : decode cc_Ma_maxI 10 = .ok (.ireturn, 1) := by decide +kernel
theorem d_Ma_maxL_0 : decode cc_Ma_maxL 0 = .ok (.lload_n 0, 1) := by decide +kernel
theorem d_Ma_maxL_1 : decode cc_Ma_maxL 1 = .ok (.lload_n 2, 1) := by decide +kernel
theorem d_Ma_maxL_2 : decode cc_Ma_maxL 2 = .ok (.lcmp, 1) := by decide +kernel
theorem d_Ma_maxL_3 : decode cc_Ma_maxL 3 = .ok (.ifCond .lt 7, 3) := by decide +kernel
theorem d_Ma_maxL_6 : decode cc_Ma_maxL 6 = .ok (.lload_n 0, 1) := by decide +kernel
theorem d_Ma_maxL_7 : decode cc_Ma_maxL 7 = .ok (.goto 4, 3) := by decide +kernel
theorem d_Ma_maxL_10 : decode cc_Ma_maxL 10 = .ok (.lload_n 2, 1) := by decide +kernel
theorem d_Ma_maxL_11 : decode cc_Ma_maxL 11 = .ok (.lreturn, 1) := by decide +kernel
theorem d_Ma_minI_0 : decode cc_Ma_minI 0 = .ok (.iload_n 0, 1) := by decide +kernel
theorem d_Ma_minI_1 : decode cc_Ma_minI 1 = .ok (.iload_n 1, 1) := by decide +kernel
theorem d_Ma_minI_2 : decode cc_Ma_minI 2 = .ok (.if_icmp .gt 7, 3) := by decide +kernel
theorem d_Ma_minI_5 : decode cc_Ma_minI 5 = .ok (.iload_n 0, 1) := by decide +kernel
theorem d_Ma_minI_6 : decode cc_Ma_minI 6 = .ok (.goto 4, 3) := by decide +kernel
theorem d_Ma_minI_9 : decode cc_Ma_minI 9 = .ok (.iload_n 1, 1) := by decide +kernel
theorem d_Ma_minI_10 : decode cc_Ma_minI 10 = .ok (.ireturn, 1) := by decide +kernel
theorem d_Ma_minL_0 : decode cc_Ma_minL 0 = .ok (.lload_n 0, 1) := by decide +kernel
theorem d_Ma_minL_1 : decode cc_Ma_minL 1 = .ok (.lload_n 2, 1) := by decide +kernel
theorem d_Ma_minL_2 : decode cc_Ma_minL 2 = .ok (.lcmp, 1) := by decide +kernel
theorem d_Ma_minL_3 : decode cc_Ma_minL 3 = .ok (.ifCond .gt 7, 3) := by decide +kernel
theorem d_Ma_minL_6 : decode cc_Ma_minL 6 = .ok (.lload_n 0, 1) := by decide +kernel
theorem d_Ma_minL_7 : decode cc_Ma_minL 7 = .ok (.goto 4, 3) := by decide +kernel
theorem d_Ma_minL_10 : decode cc_Ma_minL 10 = .ok (.lload_n 2, 1) := by decide +kernel
theorem d_Ma_minL_11 : decode cc_Ma_minL 11 = .ok (.lreturn, 1) := by decide +kernel
theorem d_Ob_checkIndex_0 : decode cc_Ob_checkIndex 0 = .ok (.iload_n 0, 1) := by decide +kernel
theorem d_Ob_checkIndex_1 : decode cc_Ob_checkIndex 1 = .ok (.iload_n 1, 1) := by decide +kernel
theorem d_Ob_checkIndex_2 : decode cc_Ob_checkIndex 2 = .ok (.aconst_null, 1) := by decide +kernel
theorem d_Ob_checkIndex_3 : decode cc_Ob_checkIndex 3 = .ok (.invokestatic 105, 3) := by decide +kernel
theorem d_Ob_checkIndex_6 : decode cc_Ob_checkIndex 6 = .ok (.ireturn, 1) := by decide +kernel
theorem d_Oj_init_0 : decode cc_Oj_init 0 = .ok (.return_, 1) := by decide +kernel
theorem d_Pc_checkIndex_0 : decode cc_Pc_checkIndex 0 = .ok (.iload_n 0, 1) := by decide +kernel
theorem d_Pc_checkIndex_1 : decode cc_Pc_checkIndex 1 = .ok (.ifCond .lt 8, 3) := by decide +kernel
theorem d_Pc_checkIndex_4 : decode cc_Pc_checkIndex 4 = .ok (.iload_n 0, 1) := by decide +kernel
theorem d_Pc_checkIndex_5 : decode cc_Pc_checkIndex 5 = .ok (.iload_n 1, 1) := by decide +kernel
theorem d_Pc_checkIndex_6 : decode cc_Pc_checkIndex 6 = .ok (.if_icmp .lt 10, 3) := by decide +kernel
theorem d_Pc_checkIndex_9 : decode cc_Pc_checkIndex 9 = .ok (.aload_n 2, 1) := by decide +kernel
theorem d_Pc_checkIndex_10 : decode cc_Pc_checkIndex 10 = .ok (.iload_n 0, 1) := by decide +kernel
theorem d_Pc_checkIndex_11 : decode cc_Pc_checkIndex 11 = .ok (.iload_n 1, 1) := by decide +kernel
theorem d_Pc_checkIndex_12 : decode cc_Pc_checkIndex 12 = .ok (.invokestatic 95, 3) := by decide +kernel
theorem d_Pc_checkIndex_15 : decode cc_Pc_checkIndex 15 = .ok (.athrow, 1) := by decide +kernel
theorem d_Pc_checkIndex_16 : decode cc_Pc_checkIndex 16 = .ok (.iload_n 0, 1) := by decide +kernel
theorem d_Pc_checkIndex_17 : decode cc_Pc_checkIndex 17 = .ok (.ireturn, 1) := by decide +kernel
theorem d_Row_addUp_0 : decode cc_Row_addUp 0 = .ok (.lload_n 3, 1) := by decide +kernel
theorem d_Row_addUp_1 : decode cc_Row_addUp 1 = .ok (.lstore 5, 2) := by decide +kernel
theorem d_Row_addUp_3 : decode cc_Row_addUp 3 = .ok (.iload_n 1, 1) := by decide +kernel
theorem d_Row_addUp_4 : decode cc_Row_addUp 4 = .ok (.istore 7, 2) := by decide +kernel
theorem d_Row_addUp_6 : decode cc_Row_addUp 6 = .ok (.iload 7, 2) := by decide +kernel
theorem d_Row_addUp_8 : decode cc_Row_addUp 8 = .ok (.iload_n 2, 1) := by decide +kernel
theorem d_Row_addUp_9 : decode cc_Row_addUp 9 = .ok (.if_icmp .ge 34, 3) := by decide +kernel
theorem d_Row_addUp_12 : decode cc_Row_addUp 12 = .ok (.aload_n 0, 1) := by decide +kernel
theorem d_Row_addUp_13 : decode cc_Row_addUp 13 = .ok (.lload 5, 2) := by decide +kernel
theorem d_Row_addUp_15 : decode cc_Row_addUp 15 = .ok (.aload_n 0, 1) := by decide +kernel
theorem d_Row_addUp_16 : decode cc_Row_addUp 16 = .ok (.getfield 9, 3) := by decide +kernel
theorem d_Row_addUp_19 : decode cc_Row_addUp 19 = .ok (.iload 7, 2) := by decide +kernel
theorem d_Row_addUp_21 : decode cc_Row_addUp 21 = .ok (.laload, 1) := by decide +kernel
theorem d_Row_addUp_22 : decode cc_Row_addUp 22 = .ok (.ladd, 1) := by decide +kernel
theorem d_Row_addUp_23 : decode cc_Row_addUp 23 = .ok (.invokevirtual 35, 3) := by decide +kernel
theorem d_Row_addUp_26 : decode cc_Row_addUp 26 = .ok (.lstore 5, 2) := by decide +kernel
theorem d_Row_addUp_28 : decode cc_Row_addUp 28 = .ok (.aload_n 0, 1) := by decide +kernel
theorem d_Row_addUp_29 : decode cc_Row_addUp 29 = .ok (.getfield 9, 3) := by decide +kernel
theorem d_Row_addUp_32 : decode cc_Row_addUp 32 = .ok (.iload 7, 2) := by decide +kernel
theorem d_Row_addUp_34 : decode cc_Row_addUp 34 = .ok (.lload 5, 2) := by decide +kernel
theorem d_Row_addUp_36 : decode cc_Row_addUp 36 = .ok (.lastore, 1) := by decide +kernel
theorem d_Row_addUp_37 : decode cc_Row_addUp 37 = .ok (.iinc 7 1, 3) := by decide +kernel
theorem d_Row_addUp_40 : decode cc_Row_addUp 40 = .ok (.goto (-34), 3) := by decide +kernel
theorem d_Row_addUp_43 : decode cc_Row_addUp 43 = .ok (.return_, 1) := by decide +kernel
theorem d_Row_greatestOf_0 : decode cc_Row_greatestOf 0 = .ok (.aload_n 0, 1) := by decide +kernel
theorem d_Row_greatestOf_1 : decode cc_Row_greatestOf 1 = .ok (.getfield 9, 3) := by decide +kernel
theorem d_Row_greatestOf_4 : decode cc_Row_greatestOf 4 = .ok (.iload_n 1, 1) := by decide +kernel
theorem d_Row_greatestOf_5 : decode cc_Row_greatestOf 5 = .ok (.laload, 1) := by decide +kernel
theorem d_Row_greatestOf_6 : decode cc_Row_greatestOf 6 = .ok (.lstore_n 3, 1) := by decide +kernel
theorem d_Row_greatestOf_7 : decode cc_Row_greatestOf 7 = .ok (.iload_n 1, 1) := by decide +kernel
theorem d_Row_greatestOf_8 : decode cc_Row_greatestOf 8 = .ok (.iconst 1, 1) := by decide +kernel
theorem d_Row_greatestOf_9 : decode cc_Row_greatestOf 9 = .ok (.iadd, 1) := by decide +kernel
theorem d_Row_greatestOf_10 : decode cc_Row_greatestOf 10 = .ok (.istore 5, 2) := by decide +kernel
theorem d_Row_greatestOf_12 : decode cc_Row_greatestOf 12 = .ok (.iload 5, 2) := by decide +kernel
theorem d_Row_greatestOf_14 : decode cc_Row_greatestOf 14 = .ok (.iload_n 2, 1) := by decide +kernel
theorem d_Row_greatestOf_15 : decode cc_Row_greatestOf 15 = .ok (.if_icmp .ge 21, 3) := by decide +kernel
theorem d_Row_greatestOf_18 : decode cc_Row_greatestOf 18 = .ok (.lload_n 3, 1) := by decide +kernel
theorem d_Row_greatestOf_19 : decode cc_Row_greatestOf 19 = .ok (.aload_n 0, 1) := by decide +kernel
theorem d_Row_greatestOf_20 : decode cc_Row_greatestOf 20 = .ok (.getfield 9, 3) := by decide +kernel
theorem d_Row_greatestOf_23 : decode cc_Row_greatestOf 23 = .ok (.iload 5, 2) := by decide +kernel
theorem d_Row_greatestOf_25 : decode cc_Row_greatestOf 25 = .ok (.laload, 1) := by decide +kernel
theorem d_Row_greatestOf_26 : decode cc_Row_greatestOf 26 = .ok (.invokestatic 32, 3) := by decide +kernel
theorem d_Row_greatestOf_29 : decode cc_Row_greatestOf 29 = .ok (.lstore_n 3, 1) := by decide +kernel
theorem d_Row_greatestOf_30 : decode cc_Row_greatestOf 30 = .ok (.iinc 5 1, 3) := by decide +kernel
theorem d_Row_greatestOf_33 : decode cc_Row_greatestOf 33 = .ok (.goto (-21), 3) := by decide +kernel
theorem d_Row_greatestOf_36 : decode cc_Row_greatestOf 36 = .ok (.lload_n 3, 1) := by decide +kernel
theorem d_Row_greatestOf_37 : decode cc_Row_greatestOf 37 = .ok (.lreturn, 1) := by decide +kernel
theorem d_Row_init_0 : decode cc_Row_init 0 = .ok (.aload_n 0, 1) := by decide +kernel
theorem d_Row_init_1 : decode cc_Row_init 1 = .ok (.invokespecial 3, 3) := by decide +kernel
theorem d_Row_init_4 : decode cc_Row_init 4 = .ok (.aload_n 0, 1) := by decide +kernel
theorem d_Row_init_5 : decode cc_Row_init 5 = .ok (.bipush 24, 2) := by decide +kernel
theorem d_Row_init_7 : decode cc_Row_init 7 = .ok (.newarray .long, 2) := by decide +kernel
theorem d_Row_init_9 : decode cc_Row_init 9 = .ok (.putfield 9, 3) := by decide +kernel
theorem d_Row_init_12 : decode cc_Row_init 12 = .ok (.return_, 1) := by decide +kernel
theorem d_Row_isInEighths_0 : decode cc_Row_isInEighths 0 = .ok (.aload_n 0, 1) := by decide +kernel
theorem d_Row_isInEighths_1 : decode cc_Row_isInEighths 1 = .ok (.getfield 15, 3) := by decide +kernel
theorem d_Row_isInEighths_4 : decode cc_Row_isInEighths 4 = .ok (.iconst 4, 1) := by decide +kernel
theorem d_Row_isInEighths_5 : decode cc_Row_isInEighths 5 = .ok (.if_icmp .lt 7, 3) := by decide +kernel
theorem d_Row_isInEighths_8 : decode cc_Row_isInEighths 8 = .ok (.iconst 1, 1) := by decide +kernel
theorem d_Row_isInEighths_9 : decode cc_Row_isInEighths 9 = .ok (.goto 4, 3) := by decide +kernel
theorem d_Row_isInEighths_12 : decode cc_Row_isInEighths 12 = .ok (.iconst 0, 1) := by decide +kernel
theorem d_Row_isInEighths_13 : decode cc_Row_isInEighths 13 = .ok (.ireturn, 1) := by decide +kernel
theorem d_Row_kept_0 : decode cc_Row_kept 0 = .ok (.aload_n 0, 1) := by decide +kernel
theorem d_Row_kept_1 : decode cc_Row_kept 1 = .ok (.getfield 15, 3) := by decide +kernel
theorem d_Row_kept_4 : decode cc_Row_kept 4 = .ok (.tableswitch 48 0 3 #[32, 37, 42, 46], 32) := by decide +kernel
theorem d_Row_kept_36 : decode cc_Row_kept 36 = .ok (.lload_n 1, 1) := by decide +kernel
theorem d_Row_kept_37 : decode cc_Row_kept 37 = .ok (.l2i, 1) := by decide +kernel
theorem d_Row_kept_38 : decode cc_Row_kept 38 = .ok (.i2b, 1) := by decide +kernel
theorem d_Row_kept_39 : decode cc_Row_kept 39 = .ok (.i2l, 1) := by decide +kernel
theorem d_Row_kept_40 : decode cc_Row_kept 40 = .ok (.lreturn, 1) := by decide +kernel
theorem d_Row_kept_41 : decode cc_Row_kept 41 = .ok (.lload_n 1, 1) := by decide +kernel
theorem d_Row_kept_42 : decode cc_Row_kept 42 = .ok (.l2i, 1) := by decide +kernel
theorem d_Row_kept_43 : decode cc_Row_kept 43 = .ok (.i2s, 1) := by decide +kernel
theorem d_Row_kept_44 : decode cc_Row_kept 44 = .ok (.i2l, 1) := by decide +kernel
theorem d_Row_kept_45 : decode cc_Row_kept 45 = .ok (.lreturn, 1) := by decide +kernel
theorem d_Row_kept_46 : decode cc_Row_kept 46 = .ok (.lload_n 1, 1) := by decide +kernel
theorem d_Row_kept_47 : decode cc_Row_kept 47 = .ok (.l2i, 1) := by decide +kernel
theorem d_Row_kept_48 : decode cc_Row_kept 48 = .ok (.i2l, 1) := by decide +kernel
theorem d_Row_kept_49 : decode cc_Row_kept 49 = .ok (.lreturn, 1) := by decide +kernel
theorem d_Row_kept_50 : decode cc_Row_kept 50 = .ok (.lload_n 1, 1) := by decide +kernel
theorem d_Row_kept_51 : decode cc_Row_kept 51 = .ok (.lreturn, 1) := by decide +kernel
theorem d_Row_kept_52 : decode cc_Row_kept 52 = .ok (.ldc2_w 22, 3) := by decide +kernel
theorem d_Row_kept_55 : decode cc_Row_kept 55 = .ok (.ldc2_w 24, 3) := by decide +kernel
theorem d_Row_kept_58 : decode cc_Row_kept 58 = .ok (.lload_n 1, 1) := by decide +kernel
theorem d_Row_kept_59 : decode cc_Row_kept 59 = .ok (.invokestatic 26, 3) := by decide +kernel
theorem d_Row_kept_62 : decode cc_Row_kept 62 = .ok (.invokestatic 32, 3) := by decide +kernel
theorem d_Row_kept_65 : decode cc_Row_kept 65 = .ok (.lreturn, 1) := by decide +kernel
theorem d_Row_make_0 : decode cc_Row_make 0 = .ok (.aload_n 0, 1) := by decide +kernel
theorem d_Row_make_1 : decode cc_Row_make 1 = .ok (.iload_n 1, 1) := by decide +kernel
theorem d_Row_make_2 : decode cc_Row_make 2 = .ok (.putfield 15, 3) := by decide +kernel
theorem d_Row_make_5 : decode cc_Row_make 5 = .ok (.aload_n 0, 1) := by decide +kernel
theorem d_Row_make_6 : decode cc_Row_make 6 = .ok (.iload_n 2, 1) := by decide +kernel
theorem d_Row_make_7 : decode cc_Row_make 7 = .ok (.putfield 19, 3) := by decide +kernel
theorem d_Row_make_10 : decode cc_Row_make 10 = .ok (.iconst 0, 1) := by decide +kernel
theorem d_Row_make_11 : decode cc_Row_make 11 = .ok (.istore_n 3, 1) := by decide +kernel
theorem d_Row_make_12 : decode cc_Row_make 12 = .ok (.iload_n 3, 1) := by decide +kernel
theorem d_Row_make_13 : decode cc_Row_make 13 = .ok (.bipush 24, 2) := by decide +kernel
theorem d_Row_make_15 : decode cc_Row_make 15 = .ok (.if_icmp .ge 16, 3) := by decide +kernel
theorem d_Row_make_18 : decode cc_Row_make 18 = .ok (.aload_n 0, 1) := by decide +kernel
theorem d_Row_make_19 : decode cc_Row_make 19 = .ok (.getfield 9, 3) := by decide +kernel
theorem d_Row_make_22 : decode cc_Row_make 22 = .ok (.iload_n 3, 1) := by decide +kernel
theorem d_Row_make_23 : decode cc_Row_make 23 = .ok (.lconst 0, 1) := by decide +kernel
theorem d_Row_make_24 : decode cc_Row_make 24 = .ok (.lastore, 1) := by decide +kernel
theorem d_Row_make_25 : decode cc_Row_make 25 = .ok (.iinc 3 1, 3) := by decide +kernel
theorem d_Row_make_28 : decode cc_Row_make 28 = .ok (.goto (-16), 3) := by decide +kernel
theorem d_Row_make_31 : decode cc_Row_make 31 = .ok (.return_, 1) := by decide +kernel
theorem d_Row_mapAll_0 : decode cc_Row_mapAll 0 = .ok (.aload_n 0, 1) := by decide +kernel
theorem d_Row_mapAll_1 : decode cc_Row_mapAll 1 = .ok (.invokevirtual 39, 3) := by decide +kernel
theorem d_Row_mapAll_4 : decode cc_Row_mapAll 4 = .ok (.ifCond .eq 12, 3) := by decide +kernel
theorem d_Row_mapAll_7 : decode cc_Row_mapAll 7 = .ok (.lload 5, 2) := by decide +kernel
theorem d_Row_mapAll_9 : decode cc_Row_mapAll 9 = .ok (.ldc2_w 43, 3) := by decide +kernel
theorem d_Row_mapAll_12 : decode cc_Row_mapAll 12 = .ok (.lmul, 1) := by decide +kernel
theorem d_Row_mapAll_13 : decode cc_Row_mapAll 13 = .ok (.goto 5, 3) := by decide +kernel
theorem d_Row_mapAll_16 : decode cc_Row_mapAll 16 = .ok (.lload 5, 2) := by decide +kernel
theorem d_Row_mapAll_18 : decode cc_Row_mapAll 18 = .ok (.lstore 7, 2) := by decide +kernel
theorem d_Row_mapAll_20 : decode cc_Row_mapAll 20 = .ok (.iload_n 1, 1) := by decide +kernel
theorem d_Row_mapAll_21 : decode cc_Row_mapAll 21 = .ok (.istore 9, 2) := by decide +kernel
theorem d_Row_mapAll_23 : decode cc_Row_mapAll 23 = .ok (.iload 9, 2) := by decide +kernel
theorem d_Row_mapAll_25 : decode cc_Row_mapAll 25 = .ok (.iload_n 2, 1) := by decide +kernel
theorem d_Row_mapAll_26 : decode cc_Row_mapAll 26 = .ok (.if_icmp .ge 32, 3) := by decide +kernel
theorem d_Row_mapAll_29 : decode cc_Row_mapAll 29 = .ok (.aload_n 0, 1) := by decide +kernel
theorem d_Row_mapAll_30 : decode cc_Row_mapAll 30 = .ok (.getfield 9, 3) := by decide +kernel
theorem d_Row_mapAll_33 : decode cc_Row_mapAll 33 = .ok (.iload 9, 2) := by decide +kernel
theorem d_Row_mapAll_35 : decode cc_Row_mapAll 35 = .ok (.aload_n 0, 1) := by decide +kernel
theorem d_Row_mapAll_36 : decode cc_Row_mapAll 36 = .ok (.lload_n 3, 1) := by decide +kernel
theorem d_Row_mapAll_37 : decode cc_Row_mapAll 37 = .ok (.aload_n 0, 1) := by decide +kernel
theorem d_Row_mapAll_38 : decode cc_Row_mapAll 38 = .ok (.getfield 9, 3) := by decide +kernel
theorem d_Row_mapAll_41 : decode cc_Row_mapAll 41 = .ok (.iload 9, 2) := by decide +kernel
theorem d_Row_mapAll_43 : decode cc_Row_mapAll 43 = .ok (.laload, 1) := by decide +kernel
theorem d_Row_mapAll_44 : decode cc_Row_mapAll 44 = .ok (.lmul, 1) := by decide +kernel
theorem d_Row_mapAll_45 : decode cc_Row_mapAll 45 = .ok (.lload 7, 2) := by decide +kernel
theorem d_Row_mapAll_47 : decode cc_Row_mapAll 47 = .ok (.ladd, 1) := by decide +kernel
theorem d_Row_mapAll_48 : decode cc_Row_mapAll 48 = .ok (.invokevirtual 35, 3) := by decide +kernel
theorem d_Row_mapAll_51 : decode cc_Row_mapAll 51 = .ok (.lastore, 1) := by decide +kernel
theorem d_Row_mapAll_52 : decode cc_Row_mapAll 52 = .ok (.iinc 9 1, 3) := by decide +kernel
theorem d_Row_mapAll_55 : decode cc_Row_mapAll 55 = .ok (.goto (-32), 3) := by decide +kernel
theorem d_Row_mapAll_58 : decode cc_Row_mapAll 58 = .ok (.return_, 1) := by decide +kernel
theorem d_Row_putInOrder_0 : decode cc_Row_putInOrder 0 = .ok (.iload_n 1, 1) := by decide +kernel
theorem d_Row_putInOrder_1 : decode cc_Row_putInOrder 1 = .ok (.iconst 1, 1) := by decide +kernel
theorem d_Row_putInOrder_2 : decode cc_Row_putInOrder 2 = .ok (.iadd, 1) := by decide +kernel
theorem d_Row_putInOrder_3 : decode cc_Row_putInOrder 3 = .ok (.istore_n 3, 1) := by decide +kernel
theorem d_Row_putInOrder_4 : decode cc_Row_putInOrder 4 = .ok (.iload_n 3, 1) := by decide +kernel
theorem d_Row_putInOrder_5 : decode cc_Row_putInOrder 5 = .ok (.iload_n 2, 1) := by decide +kernel
theorem d_Row_putInOrder_6 : decode cc_Row_putInOrder 6 = .ok (.if_icmp .ge 72, 3) := by decide +kernel
theorem d_Row_putInOrder_9 : decode cc_Row_putInOrder 9 = .ok (.aload_n 0, 1) := by decide +kernel
theorem d_Row_putInOrder_10 : decode cc_Row_putInOrder 10 = .ok (.getfield 9, 3) := by decide +kernel
theorem d_Row_putInOrder_13 : decode cc_Row_putInOrder 13 = .ok (.iload_n 3, 1) := by decide +kernel
theorem d_Row_putInOrder_14 : decode cc_Row_putInOrder 14 = .ok (.laload, 1) := by decide +kernel
theorem d_Row_putInOrder_15 : decode cc_Row_putInOrder 15 = .ok (.lstore 4, 2) := by decide +kernel
theorem d_Row_putInOrder_17 : decode cc_Row_putInOrder 17 = .ok (.iload_n 3, 1) := by decide +kernel
theorem d_Row_putInOrder_18 : decode cc_Row_putInOrder 18 = .ok (.istore 6, 2) := by decide +kernel
theorem d_Row_putInOrder_20 : decode cc_Row_putInOrder 20 = .ok (.iload 6, 2) := by decide +kernel
theorem d_Row_putInOrder_22 : decode cc_Row_putInOrder 22 = .ok (.iload_n 1, 1) := by decide +kernel
theorem d_Row_putInOrder_23 : decode cc_Row_putInOrder 23 = .ok (.if_icmp .le 40, 3) := by decide +kernel
theorem d_Row_putInOrder_26 : decode cc_Row_putInOrder 26 = .ok (.aload_n 0, 1) := by decide +kernel
theorem d_Row_putInOrder_27 : decode cc_Row_putInOrder 27 = .ok (.getfield 9, 3) := by decide +kernel
theorem d_Row_putInOrder_30 : decode cc_Row_putInOrder 30 = .ok (.iload 6, 2) := by decide +kernel
theorem d_Row_putInOrder_32 : decode cc_Row_putInOrder 32 = .ok (.iconst 1, 1) := by decide +kernel
theorem d_Row_putInOrder_33 : decode cc_Row_putInOrder 33 = .ok (.isub, 1) := by decide +kernel
theorem d_Row_putInOrder_34 : decode cc_Row_putInOrder 34 = .ok (.laload, 1) := by decide +kernel
theorem d_Row_putInOrder_35 : decode cc_Row_putInOrder 35 = .ok (.lload 4, 2) := by decide +kernel
theorem d_Row_putInOrder_37 : decode cc_Row_putInOrder 37 = .ok (.lcmp, 1) := by decide +kernel
theorem d_Row_putInOrder_38 : decode cc_Row_putInOrder 38 = .ok (.ifCond .le 25, 3) := by decide +kernel
theorem d_Row_putInOrder_41 : decode cc_Row_putInOrder 41 = .ok (.aload_n 0, 1) := by decide +kernel
theorem d_Row_putInOrder_42 : decode cc_Row_putInOrder 42 = .ok (.getfield 9, 3) := by decide +kernel
theorem d_Row_putInOrder_45 : decode cc_Row_putInOrder 45 = .ok (.iload 6, 2) := by decide +kernel
theorem d_Row_putInOrder_47 : decode cc_Row_putInOrder 47 = .ok (.aload_n 0, 1) := by decide +kernel
theorem d_Row_putInOrder_48 : decode cc_Row_putInOrder 48 = .ok (.getfield 9, 3) := by decide +kernel
theorem d_Row_putInOrder_51 : decode cc_Row_putInOrder 51 = .ok (.iload 6, 2) := by decide +kernel
theorem d_Row_putInOrder_53 : decode cc_Row_putInOrder 53 = .ok (.iconst 1, 1) := by decide +kernel
theorem d_Row_putInOrder_54 : decode cc_Row_putInOrder 54 = .ok (.isub, 1) := by decide +kernel
theorem d_Row_putInOrder_55 : decode cc_Row_putInOrder 55 = .ok (.laload, 1) := by decide +kernel
theorem d_Row_putInOrder_56 : decode cc_Row_putInOrder 56 = .ok (.lastore, 1) := by decide +kernel
theorem d_Row_putInOrder_57 : decode cc_Row_putInOrder 57 = .ok (.iinc 6 (-1), 3) := by decide +kernel
theorem d_Row_putInOrder_60 : decode cc_Row_putInOrder 60 = .ok (.goto (-40), 3) := by decide +kernel
theorem d_Row_putInOrder_63 : decode cc_Row_putInOrder 63 = .ok (.aload_n 0, 1) := by decide +kernel
theorem d_Row_putInOrder_64 : decode cc_Row_putInOrder 64 = .ok (.getfield 9, 3) := by decide +kernel
theorem d_Row_putInOrder_67 : decode cc_Row_putInOrder 67 = .ok (.iload 6, 2) := by decide +kernel
theorem d_Row_putInOrder_69 : decode cc_Row_putInOrder 69 = .ok (.lload 4, 2) := by decide +kernel
theorem d_Row_putInOrder_71 : decode cc_Row_putInOrder 71 = .ok (.lastore, 1) := by decide +kernel
theorem d_Row_putInOrder_72 : decode cc_Row_putInOrder 72 = .ok (.iinc 3 1, 3) := by decide +kernel
theorem d_Row_putInOrder_75 : decode cc_Row_putInOrder 75 = .ok (.goto (-71), 3) := by decide +kernel
theorem d_Row_putInOrder_78 : decode cc_Row_putInOrder 78 = .ok (.return_, 1) := by decide +kernel
theorem d_Row_shareAll_0 : decode cc_Row_shareAll 0 = .ok (.lload_n 3, 1) := by decide +kernel
theorem d_Row_shareAll_1 : decode cc_Row_shareAll 1 = .ok (.ldc2_w 43, 3) := by decide +kernel
theorem d_Row_shareAll_4 : decode cc_Row_shareAll 4 = .ok (.lmul, 1) := by decide +kernel
theorem d_Row_shareAll_5 : decode cc_Row_shareAll 5 = .ok (.ldc2_w 43, 3) := by decide +kernel
theorem d_Row_shareAll_8 : decode cc_Row_shareAll 8 = .ok (.lmul, 1) := by decide +kernel
theorem d_Row_shareAll_9 : decode cc_Row_shareAll 9 = .ok (.lstore 5, 2) := by decide +kernel
theorem d_Row_shareAll_11 : decode cc_Row_shareAll 11 = .ok (.iload_n 1, 1) := by decide +kernel
theorem d_Row_shareAll_12 : decode cc_Row_shareAll 12 = .ok (.istore 7, 2) := by decide +kernel
theorem d_Row_shareAll_14 : decode cc_Row_shareAll 14 = .ok (.iload 7, 2) := by decide +kernel
theorem d_Row_shareAll_16 : decode cc_Row_shareAll 16 = .ok (.iload_n 2, 1) := by decide +kernel
theorem d_Row_shareAll_17 : decode cc_Row_shareAll 17 = .ok (.if_icmp .ge 60, 3) := by decide +kernel
theorem d_Row_shareAll_20 : decode cc_Row_shareAll 20 = .ok (.aload_n 0, 1) := by decide +kernel
theorem d_Row_shareAll_21 : decode cc_Row_shareAll 21 = .ok (.getfield 9, 3) := by decide +kernel
theorem d_Row_shareAll_24 : decode cc_Row_shareAll 24 = .ok (.iload 7, 2) := by decide +kernel
theorem d_Row_shareAll_26 : decode cc_Row_shareAll 26 = .ok (.laload, 1) := by decide +kernel
theorem d_Row_shareAll_27 : decode cc_Row_shareAll 27 = .ok (.lstore 8, 2) := by decide +kernel
theorem d_Row_shareAll_29 : decode cc_Row_shareAll 29 = .ok (.lload 8, 2) := by decide +kernel
theorem d_Row_shareAll_31 : decode cc_Row_shareAll 31 = .ok (.lconst 0, 1) := by decide +kernel
theorem d_Row_shareAll_32 : decode cc_Row_shareAll 32 = .ok (.lcmp, 1) := by decide +kernel
theorem d_Row_shareAll_33 : decode cc_Row_shareAll 33 = .ok (.ifCond .ne 6, 3) := by decide +kernel
theorem d_Row_shareAll_36 : decode cc_Row_shareAll 36 = .ok (.iload 7, 2) := by decide +kernel
theorem d_Row_shareAll_38 : decode cc_Row_shareAll 38 = .ok (.ireturn, 1) := by decide +kernel
theorem d_Row_shareAll_39 : decode cc_Row_shareAll 39 = .ok (.aload_n 0, 1) := by decide +kernel
theorem d_Row_shareAll_40 : decode cc_Row_shareAll 40 = .ok (.getfield 9, 3) := by decide +kernel
theorem d_Row_shareAll_43 : decode cc_Row_shareAll 43 = .ok (.iload 7, 2) := by decide +kernel
theorem d_Row_shareAll_45 : decode cc_Row_shareAll 45 = .ok (.aload_n 0, 1) := by decide +kernel
theorem d_Row_shareAll_46 : decode cc_Row_shareAll 46 = .ok (.aload_n 0, 1) := by decide +kernel
theorem d_Row_shareAll_47 : decode cc_Row_shareAll 47 = .ok (.invokevirtual 39, 3) := by decide +kernel
theorem d_Row_shareAll_50 : decode cc_Row_shareAll 50 = .ok (.ifCond .eq 13, 3) := by decide +kernel
theorem d_Row_shareAll_53 : decode cc_Row_shareAll 53 = .ok (.lload 5, 2) := by decide +kernel
theorem d_Row_shareAll_55 : decode cc_Row_shareAll 55 = .ok (.lload 8, 2) := by decide +kernel
theorem d_Row_shareAll_57 : decode cc_Row_shareAll 57 = .ok (.invokestatic 45, 3) := by decide +kernel
theorem d_Row_shareAll_60 : decode cc_Row_shareAll 60 = .ok (.goto 7, 3) := by decide +kernel
theorem d_Row_shareAll_63 : decode cc_Row_shareAll 63 = .ok (.lload_n 3, 1) := by decide +kernel
theorem d_Row_shareAll_64 : decode cc_Row_shareAll 64 = .ok (.lload 8, 2) := by decide +kernel
theorem d_Row_shareAll_66 : decode cc_Row_shareAll 66 = .ok (.ldiv, 1) := by decide +kernel
theorem d_Row_shareAll_67 : decode cc_Row_shareAll 67 = .ok (.invokevirtual 35, 3) := by decide +kernel
theorem d_Row_shareAll_70 : decode cc_Row_shareAll 70 = .ok (.lastore, 1) := by decide +kernel
theorem d_Row_shareAll_71 : decode cc_Row_shareAll 71 = .ok (.iinc 7 1, 3) := by decide +kernel
theorem d_Row_shareAll_74 : decode cc_Row_shareAll 74 = .ok (.goto (-60), 3) := by decide +kernel
theorem d_Row_shareAll_77 : decode cc_Row_shareAll 77 = .ok (.iconst (-1), 1) := by decide +kernel
theorem d_Row_shareAll_78 : decode cc_Row_shareAll 78 = .ok (.ireturn, 1) := by decide +kernel
theorem d_Row_sumOf_0 : decode cc_Row_sumOf 0 = .ok (.lconst 0, 1) := by decide +kernel
theorem d_Row_sumOf_1 : decode cc_Row_sumOf 1 = .ok (.lstore_n 3, 1) := by decide +kernel
theorem d_Row_sumOf_2 : decode cc_Row_sumOf 2 = .ok (.iload_n 1, 1) := by decide +kernel
theorem d_Row_sumOf_3 : decode cc_Row_sumOf 3 = .ok (.istore 5, 2) := by decide +kernel
theorem d_Row_sumOf_5 : decode cc_Row_sumOf 5 = .ok (.iload 5, 2) := by decide +kernel
theorem d_Row_sumOf_7 : decode cc_Row_sumOf 7 = .ok (.iload_n 2, 1) := by decide +kernel
theorem d_Row_sumOf_8 : decode cc_Row_sumOf 8 = .ok (.if_icmp .ge 23, 3) := by decide +kernel
theorem d_Row_sumOf_11 : decode cc_Row_sumOf 11 = .ok (.aload_n 0, 1) := by decide +kernel
theorem d_Row_sumOf_12 : decode cc_Row_sumOf 12 = .ok (.lload_n 3, 1) := by decide +kernel
theorem d_Row_sumOf_13 : decode cc_Row_sumOf 13 = .ok (.aload_n 0, 1) := by decide +kernel
theorem d_Row_sumOf_14 : decode cc_Row_sumOf 14 = .ok (.getfield 9, 3) := by decide +kernel
theorem d_Row_sumOf_17 : decode cc_Row_sumOf 17 = .ok (.iload 5, 2) := by decide +kernel
theorem d_Row_sumOf_19 : decode cc_Row_sumOf 19 = .ok (.laload, 1) := by decide +kernel
theorem d_Row_sumOf_20 : decode cc_Row_sumOf 20 = .ok (.ladd, 1) := by decide +kernel
theorem d_Row_sumOf_21 : decode cc_Row_sumOf 21 = .ok (.invokevirtual 35, 3) := by decide +kernel
theorem d_Row_sumOf_24 : decode cc_Row_sumOf 24 = .ok (.lstore_n 3, 1) := by decide +kernel
theorem d_Row_sumOf_25 : decode cc_Row_sumOf 25 = .ok (.iinc 5 1, 3) := by decide +kernel
theorem d_Row_sumOf_28 : decode cc_Row_sumOf 28 = .ok (.goto (-23), 3) := by decide +kernel
theorem d_Row_sumOf_31 : decode cc_Row_sumOf 31 = .ok (.lload_n 3, 1) := by decide +kernel
theorem d_Row_sumOf_32 : decode cc_Row_sumOf 32 = .ok (.lreturn, 1) := by decide +kernel
theorem d_Task_fork_0 : decode cc_Task_fork 0 = .ok (.aload_n 0, 1) := by decide +kernel
theorem d_Task_fork_1 : decode cc_Task_fork 1 = .ok (.invokevirtual 30, 3) := by decide +kernel
theorem d_Task_fork_4 : decode cc_Task_fork 4 = .ok (.ifCond .eq 46, 3) := by decide +kernel
