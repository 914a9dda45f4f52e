theorem d_FP_step_2 : decode cc_FP_step 2 = .ok (.bipush 60, 2) := by decide +kernel
theorem d_FP_step_4 : decode cc_FP_step 4 = .ok (.invokestatic 44, 3) := by decide +kernel
theorem d_FP_step_7 : decode cc_FP_step 7 = .ok (.ifCond .ne 13, 3) := by decide +kernel
theorem d_FP_step_10 : decode cc_FP_step 10 = .ok (.new 48, 3) := by decide +kernel
theorem d_FP_step_13 : decode cc_FP_step 13 = .ok (.dup, 1) := by decide +kernel
theorem d_FP_step_14 : decode cc_FP_step 14 = .ok (.ldc 109, 2) := by decide +kernel
theorem d_FP_step_16 : decode cc_FP_step 16 = .ok (.invokespecial 52, 3) := by decide +kernel
theorem d_FP_step_19 : decode cc_FP_step 19 = .ok (.athrow, 1) := by decide +kernel
theorem d_FP_step_20 : decode cc_FP_step 20 = .ok (.iconst 0, 1) := by decide +kernel
theorem d_FP_step_21 : decode cc_FP_step 21 = .ok (.istore_n 2, 1) := by decide +kernel
theorem d_FP_step_22 : decode cc_FP_step 22 = .ok (.iconst 0, 1) := by decide +kernel
theorem d_FP_step_23 : decode cc_FP_step 23 = .ok (.istore_n 3, 1) := by decide +kernel
theorem d_FP_step_24 : decode cc_FP_step 24 = .ok (.iload_n 3, 1) := by decide +kernel
theorem d_FP_step_25 : decode cc_FP_step 25 = .ok (.iload_n 1, 1) := by decide +kernel
theorem d_FP_step_26 : decode cc_FP_step 26 = .ok (.if_icmp .ge 19, 3) := by decide +kernel
theorem d_FP_step_29 : decode cc_FP_step 29 = .ok (.aload_n 0, 1) := by decide +kernel
theorem d_FP_step_30 : decode cc_FP_step 30 = .ok (.invokevirtual 111, 3) := by decide +kernel
theorem d_FP_step_33 : decode cc_FP_step 33 = .ok (.ifCond .eq 6, 3) := by decide +kernel
theorem d_FP_step_36 : decode cc_FP_step 36 = .ok (.iinc 2 1, 3) := by decide +kernel
theorem d_FP_step_39 : decode cc_FP_step 39 = .ok (.iinc 3 1, 3) := by decide +kernel
theorem d_FP_step_42 : decode cc_FP_step 42 = .ok (.goto (-18), 3) := by decide +kernel
theorem d_FP_step_45 : decode cc_FP_step 45 = .ok (.iload_n 2, 1) := by decide +kernel
theorem d_FP_step_46 : decode cc_FP_step 46 = .ok (.ireturn, 1) := by decide +kernel
theorem d_FP_task_0 : decode cc_FP_task 0 = .ok (.aload_n 0, 1) := by decide +kernel
theorem d_FP_task_1 : decode cc_FP_task 1 = .ok (.iload_n 1, 1) := by decide +kernel
theorem d_FP_task_2 : decode cc_FP_task 2 = .ok (.invokevirtual 160, 3) := by decide +kernel
theorem d_FP_task_5 : decode cc_FP_task 5 = .ok (.astore 4, 2) := by decide +kernel
theorem d_FP_task_7 : decode cc_FP_task 7 = .ok (.iload_n 2, 1) := by decide +kernel
theorem d_FP_task_8 : decode cc_FP_task 8 = .ok (.iconst 0, 1) := by decide +kernel
theorem d_FP_task_9 : decode cc_FP_task 9 = .ok (.aload 4, 2) := by decide +kernel
theorem d_FP_task_11 : decode cc_FP_task 11 = .ok (.invokevirtual 164, 3) := by decide +kernel
theorem d_FP_task_14 : decode cc_FP_task 14 = .ok (.iconst 1, 1) := by decide +kernel
theorem d_FP_task_15 : decode cc_FP_task 15 = .ok (.isub, 1) := by decide +kernel
theorem d_FP_task_16 : decode cc_FP_task 16 = .ok (.invokestatic 44, 3) := by decide +kernel
theorem d_FP_task_19 : decode cc_FP_task 19 = .ok (.ifCond .ne 13, 3) := by decide +kernel
theorem d_FP_task_22 : decode cc_FP_task 22 = .ok (.new 168, 3) := by decide +kernel
theorem d_FP_task_25 : decode cc_FP_task 25 = .ok (.dup, 1) := by decide +kernel
theorem d_FP_task_26 : decode cc_FP_task 26 = .ok (.ldc 170, 2) := by decide +kernel
theorem d_FP_task_28 : decode cc_FP_task 28 = .ok (.invokespecial 172, 3) := by decide +kernel
theorem d_FP_task_31 : decode cc_FP_task 31 = .ok (.athrow, 1) := by decide +kernel
theorem d_FP_task_32 : decode cc_FP_task 32 = .ok (.aload 4, 2) := by decide +kernel
theorem d_FP_task_34 : decode cc_FP_task 34 = .ok (.iload_n 2, 1) := by decide +kernel
theorem d_FP_task_35 : decode cc_FP_task 35 = .ok (.invokevirtual 173, 3) := by decide +kernel
theorem d_FP_task_38 : decode cc_FP_task 38 = .ok (.astore 5, 2) := by decide +kernel
theorem d_FP_task_40 : decode cc_FP_task 40 = .ok (.iload_n 3, 1) := by decide +kernel
theorem d_FP_task_41 : decode cc_FP_task 41 = .ok (.tableswitch 48 0 2 #[27, 36, 42], 27) := by decide +kernel
theorem d_FP_task_68 : decode cc_FP_task 68 = .ok (.aload 5, 2) := by decide +kernel
theorem d_FP_task_70 : decode cc_FP_task 70 = .ok (.getfield 177, 3) := by decide +kernel
theorem d_FP_task_73 : decode cc_FP_task 73 = .ok (.getfield 106, 3) := by decide +kernel
theorem d_FP_task_76 : decode cc_FP_task 76 = .ok (.ireturn, 1) := by decide +kernel
theorem d_FP_task_77 : decode cc_FP_task 77 = .ok (.aload 5, 2) := by decide +kernel
theorem d_FP_task_79 : decode cc_FP_task 79 = .ok (.getfield 181, 3) := by decide +kernel
theorem d_FP_task_82 : decode cc_FP_task 82 = .ok (.ireturn, 1) := by decide +kernel
theorem d_FP_task_83 : decode cc_FP_task 83 = .ok (.aload 5, 2) := by decide +kernel
theorem d_FP_task_85 : decode cc_FP_task 85 = .ok (.getfield 184, 3) := by decide +kernel
theorem d_FP_task_88 : decode cc_FP_task 88 = .ok (.ireturn, 1) := by decide +kernel
theorem d_FP_task_89 : decode cc_FP_task 89 = .ok (.new 48, 3) := by decide +kernel
theorem d_FP_task_92 : decode cc_FP_task 92 = .ok (.dup, 1) := by decide +kernel
theorem d_FP_task_93 : decode cc_FP_task 93 = .ok (.ldc 187, 2) := by decide +kernel
theorem d_FP_task_95 : decode cc_FP_task 95 = .ok (.invokespecial 52, 3) := by decide +kernel
theorem d_FP_task_98 : decode cc_FP_task 98 = .ok (.athrow, 1) := by decide +kernel
theorem d_FP_worker_0 : decode cc_FP_worker 0 = .ok (.aload_n 0, 1) := by decide +kernel
theorem d_FP_worker_1 : decode cc_FP_worker 1 = .ok (.iload_n 1, 1) := by decide +kernel
theorem d_FP_worker_2 : decode cc_FP_worker 2 = .ok (.invokevirtual 160, 3) := by decide +kernel
theorem d_FP_worker_5 : decode cc_FP_worker 5 = .ok (.astore_n 3, 1) := by decide +kernel
theorem d_FP_worker_6 : decode cc_FP_worker 6 = .ok (.iload_n 2, 1) := by decide +kernel
theorem d_FP_worker_7 : decode cc_FP_worker 7 = .ok (.tableswitch 58 0 4 #[33, 38, 43, 48, 53], 33) := by decide +kernel
theorem d_FP_worker_40 : decode cc_FP_worker 40 = .ok (.aload_n 3, 1) := by decide +kernel
theorem d_FP_worker_41 : decode cc_FP_worker 41 = .ok (.invokevirtual 164, 3) := by decide +kernel
theorem d_FP_worker_44 : decode cc_FP_worker 44 = .ok (.ireturn, 1) := by decide +kernel
theorem d_FP_worker_45 : decode cc_FP_worker 45 = .ok (.aload_n 3, 1) := by decide +kernel
theorem d_FP_worker_46 : decode cc_FP_worker 46 = .ok (.getfield 189, 3) := by decide +kernel
theorem d_FP_worker_49 : decode cc_FP_worker 49 = .ok (.ireturn, 1) := by decide +kernel
theorem d_FP_worker_50 : decode cc_FP_worker 50 = .ok (.aload_n 3, 1) := by decide +kernel
theorem d_FP_worker_51 : decode cc_FP_worker 51 = .ok (.getfield 190, 3) := by decide +kernel
theorem d_FP_worker_54 : decode cc_FP_worker 54 = .ok (.ireturn, 1) := by decide +kernel
theorem d_FP_worker_55 : decode cc_FP_worker 55 = .ok (.aload_n 3, 1) := by decide +kernel
theorem d_FP_worker_56 : decode cc_FP_worker 56 = .ok (.getfield 193, 3) := by decide +kernel
theorem d_FP_worker_59 : decode cc_FP_worker 59 = .ok (.ireturn, 1) := by decide +kernel
theorem d_FP_worker_60 : decode cc_FP_worker 60 = .ok (.aload_n 3, 1) := by decide +kernel
theorem d_FP_worker_61 : decode cc_FP_worker 61 = .ok (.getfield 196, 3) := by decide +kernel
theorem d_FP_worker_64 : decode cc_FP_worker 64 = .ok (.ireturn, 1) := by decide +kernel
theorem d_FP_worker_65 : decode cc_FP_worker 65 = .ok (.new 48, 3) := by decide +kernel
theorem d_FP_worker_68 : decode cc_FP_worker 68 = .ok (.dup, 1) := by decide +kernel
theorem d_FP_worker_69 : decode cc_FP_worker 69 = .ok (.ldc 199, 2) := by decide +kernel
theorem d_FP_worker_71 : decode cc_FP_worker 71 = .ok (.invokespecial 52, 3) := by decide +kernel
theorem d_FP_worker_74 : decode cc_FP_worker 74 = .ok (.athrow, 1) := by decide +kernel
theorem d_FP_workerAt_0 : decode cc_FP_workerAt 0 = .ok (.iload_n 1, 1) := by decide +kernel
theorem d_FP_workerAt_1 : decode cc_FP_workerAt 1 = .ok (.iconst 0, 1) := by decide +kernel
theorem d_FP_workerAt_2 : decode cc_FP_workerAt 2 = .ok (.aload_n 0, 1) := by decide +kernel
theorem d_FP_workerAt_3 : decode cc_FP_workerAt 3 = .ok (.getfield 27, 3) := by decide +kernel
theorem d_FP_workerAt_6 : decode cc_FP_workerAt 6 = .ok (.arraylength, 1) := by decide +kernel
theorem d_FP_workerAt_7 : decode cc_FP_workerAt 7 = .ok (.iconst 1, 1) := by decide +kernel
theorem d_FP_workerAt_8 : decode cc_FP_workerAt 8 = .ok (.isub, 1) := by decide +kernel
theorem d_FP_workerAt_9 : decode cc_FP_workerAt 9 = .ok (.invokestatic 44, 3) := by decide +kernel
theorem d_FP_workerAt_12 : decode cc_FP_workerAt 12 = .ok (.ifCond .ne 13, 3) := by decide +kernel
theorem d_FP_workerAt_15 : decode cc_FP_workerAt 15 = .ok (.new 168, 3) := by decide +kernel
theorem d_FP_workerAt_18 : decode cc_FP_workerAt 18 = .ok (.dup, 1) := by decide +kernel
theorem d_FP_workerAt_19 : decode cc_FP_workerAt 19 = .ok (.ldc 223, 2) := by decide +kernel
theorem d_FP_workerAt_21 : decode cc_FP_workerAt 21 = .ok (.invokespecial 172, 3) := by decide +kernel
theorem d_FP_workerAt_24 : decode cc_FP_workerAt 24 = .ok (.athrow, 1) := by decide +kernel
theorem d_FP_workerAt_25 : decode cc_FP_workerAt 25 = .ok (.aload_n 0, 1) := by decide +kernel
theorem d_FP_workerAt_26 : decode cc_FP_workerAt 26 = .ok (.getfield 27, 3) := by decide +kernel
theorem d_FP_workerAt_29 : decode cc_FP_workerAt 29 = .ok (.iload_n 1, 1) := by decide +kernel
theorem d_FP_workerAt_30 : decode cc_FP_workerAt 30 = .ok (.aaload, 1) := by decide +kernel
theorem d_FP_workerAt_31 : decode cc_FP_workerAt 31 = .ok (.areturn, 1) := by decide +kernel
