theorem d_Task_fork_7 : decode cc_Task_fork 7 = .ok (.aload_n 0, 1) := by decide +kernel
theorem d_Task_fork_8 : decode cc_Task_fork 8 = .ok (.getfield 24, 3) := by decide +kernel
theorem d_Task_fork_11 : decode cc_Task_fork 11 = .ok (.aload_n 0, 1) := by decide +kernel
theorem d_Task_fork_12 : decode cc_Task_fork 12 = .ok (.getfield 34, 3) := by decide +kernel
theorem d_Task_fork_15 : decode cc_Task_fork 15 = .ok (.putfield 34, 3) := by decide +kernel
theorem d_Task_fork_18 : decode cc_Task_fork 18 = .ok (.aload_n 0, 1) := by decide +kernel
theorem d_Task_fork_19 : decode cc_Task_fork 19 = .ok (.getfield 27, 3) := by decide +kernel
theorem d_Task_fork_22 : decode cc_Task_fork 22 = .ok (.aload_n 0, 1) := by decide +kernel
theorem d_Task_fork_23 : decode cc_Task_fork 23 = .ok (.getfield 7, 3) := by decide +kernel
theorem d_Task_fork_26 : decode cc_Task_fork 26 = .ok (.getfield 38, 3) := by decide +kernel
theorem d_Task_fork_29 : decode cc_Task_fork 29 = .ok (.aload_n 0, 1) := by decide +kernel
theorem d_Task_fork_30 : decode cc_Task_fork 30 = .ok (.getfield 34, 3) := by decide +kernel
theorem d_Task_fork_33 : decode cc_Task_fork 33 = .ok (.aload_n 0, 1) := by decide +kernel
theorem d_Task_fork_34 : decode cc_Task_fork 34 = .ok (.getfield 24, 3) := by decide +kernel
theorem d_Task_fork_37 : decode cc_Task_fork 37 = .ok (.getfield 44, 3) := by decide +kernel
theorem d_Task_fork_40 : decode cc_Task_fork 40 = .ok (.ladd, 1) := by decide +kernel
theorem d_Task_fork_41 : decode cc_Task_fork 41 = .ok (.invokevirtual 47, 3) := by decide +kernel
theorem d_Task_fork_44 : decode cc_Task_fork 44 = .ok (.putfield 34, 3) := by decide +kernel
theorem d_Task_fork_47 : decode cc_Task_fork 47 = .ok (.goto 57, 3) := by decide +kernel
theorem d_Task_fork_50 : decode cc_Task_fork 50 = .ok (.aload_n 0, 1) := by decide +kernel
theorem d_Task_fork_51 : decode cc_Task_fork 51 = .ok (.getfield 17, 3) := by decide +kernel
theorem d_Task_fork_54 : decode cc_Task_fork 54 = .ok (.aload_n 0, 1) := by decide +kernel
theorem d_Task_fork_55 : decode cc_Task_fork 55 = .ok (.getfield 21, 3) := by decide +kernel
theorem d_Task_fork_58 : decode cc_Task_fork 58 = .ok (.iadd, 1) := by decide +kernel
theorem d_Task_fork_59 : decode cc_Task_fork 59 = .ok (.iconst 2, 1) := by decide +kernel
theorem d_Task_fork_60 : decode cc_Task_fork 60 = .ok (.idiv, 1) := by decide +kernel
theorem d_Task_fork_61 : decode cc_Task_fork 61 = .ok (.istore_n 1, 1) := by decide +kernel
theorem d_Task_fork_62 : decode cc_Task_fork 62 = .ok (.aload_n 0, 1) := by decide +kernel
theorem d_Task_fork_63 : decode cc_Task_fork 63 = .ok (.new 8, 3) := by decide +kernel
theorem d_Task_fork_66 : decode cc_Task_fork 66 = .ok (.dup, 1) := by decide +kernel
theorem d_Task_fork_67 : decode cc_Task_fork 67 = .ok (.aload_n 0, 1) := by decide +kernel
theorem d_Task_fork_68 : decode cc_Task_fork 68 = .ok (.getfield 7, 3) := by decide +kernel
theorem d_Task_fork_71 : decode cc_Task_fork 71 = .ok (.aload_n 0, 1) := by decide +kernel
theorem d_Task_fork_72 : decode cc_Task_fork 72 = .ok (.aload_n 0, 1) := by decide +kernel
theorem d_Task_fork_73 : decode cc_Task_fork 73 = .ok (.getfield 17, 3) := by decide +kernel
theorem d_Task_fork_76 : decode cc_Task_fork 76 = .ok (.iload_n 1, 1) := by decide +kernel
theorem d_Task_fork_77 : decode cc_Task_fork 77 = .ok (.invokespecial 53, 3) := by decide +kernel
theorem d_Task_fork_80 : decode cc_Task_fork 80 = .ok (.putfield 24, 3) := by decide +kernel
theorem d_Task_fork_83 : decode cc_Task_fork 83 = .ok (.aload_n 0, 1) := by decide +kernel
theorem d_Task_fork_84 : decode cc_Task_fork 84 = .ok (.new 8, 3) := by decide +kernel
theorem d_Task_fork_87 : decode cc_Task_fork 87 = .ok (.dup, 1) := by decide +kernel
theorem d_Task_fork_88 : decode cc_Task_fork 88 = .ok (.aload_n 0, 1) := by decide +kernel
theorem d_Task_fork_89 : decode cc_Task_fork 89 = .ok (.getfield 7, 3) := by decide +kernel
theorem d_Task_fork_92 : decode cc_Task_fork 92 = .ok (.aload_n 0, 1) := by decide +kernel
theorem d_Task_fork_93 : decode cc_Task_fork 93 = .ok (.iload_n 1, 1) := by decide +kernel
theorem d_Task_fork_94 : decode cc_Task_fork 94 = .ok (.aload_n 0, 1) := by decide +kernel
theorem d_Task_fork_95 : decode cc_Task_fork 95 = .ok (.getfield 21, 3) := by decide +kernel
theorem d_Task_fork_98 : decode cc_Task_fork 98 = .ok (.invokespecial 53, 3) := by decide +kernel
theorem d_Task_fork_101 : decode cc_Task_fork 101 = .ok (.putfield 27, 3) := by decide +kernel
theorem d_Task_fork_104 : decode cc_Task_fork 104 = .ok (.aload_n 0, 1) := by decide +kernel
theorem d_Task_fork_105 : decode cc_Task_fork 105 = .ok (.iconst 2, 1) := by decide +kernel
theorem d_Task_fork_106 : decode cc_Task_fork 106 = .ok (.putfield 56, 3) := by decide +kernel
theorem d_Task_fork_109 : decode cc_Task_fork 109 = .ok (.return_, 1) := by decide +kernel
theorem d_Task_hasForked_0 : decode cc_Task_hasForked 0 = .ok (.aload_n 0, 1) := by decide +kernel
theorem d_Task_hasForked_1 : decode cc_Task_hasForked 1 = .ok (.getfield 24, 3) := by decide +kernel
theorem d_Task_hasForked_4 : decode cc_Task_hasForked 4 = .ok (.ifnull 14, 3) := by decide +kernel
theorem d_Task_hasForked_7 : decode cc_Task_hasForked 7 = .ok (.aload_n 0, 1) := by decide +kernel
theorem d_Task_hasForked_8 : decode cc_Task_hasForked 8 = .ok (.getfield 27, 3) := by decide +kernel
theorem d_Task_hasForked_11 : decode cc_Task_hasForked 11 = .ok (.ifnull 7, 3) := by decide +kernel
theorem d_Task_hasForked_14 : decode cc_Task_hasForked 14 = .ok (.iconst 1, 1) := by decide +kernel
theorem d_Task_hasForked_15 : decode cc_Task_hasForked 15 = .ok (.goto 4, 3) := by decide +kernel
theorem d_Task_hasForked_18 : decode cc_Task_hasForked 18 = .ok (.iconst 0, 1) := by decide +kernel
theorem d_Task_hasForked_19 : decode cc_Task_hasForked 19 = .ok (.ireturn, 1) := by decide +kernel
theorem d_Task_init_0 : decode cc_Task_init 0 = .ok (.aload_n 0, 1) := by decide +kernel
theorem d_Task_init_1 : decode cc_Task_init 1 = .ok (.invokespecial 1, 3) := by decide +kernel
theorem d_Task_init_4 : decode cc_Task_init 4 = .ok (.aload_n 0, 1) := by decide +kernel
theorem d_Task_init_5 : decode cc_Task_init 5 = .ok (.aload_n 1, 1) := by decide +kernel
theorem d_Task_init_6 : decode cc_Task_init 6 = .ok (.putfield 7, 3) := by decide +kernel
theorem d_Task_init_9 : decode cc_Task_init 9 = .ok (.aload_n 0, 1) := by decide +kernel
theorem d_Task_init_10 : decode cc_Task_init 10 = .ok (.aload_n 2, 1) := by decide +kernel
theorem d_Task_init_11 : decode cc_Task_init 11 = .ok (.putfield 13, 3) := by decide +kernel
theorem d_Task_init_14 : decode cc_Task_init 14 = .ok (.aload_n 0, 1) := by decide +kernel
theorem d_Task_init_15 : decode cc_Task_init 15 = .ok (.iload_n 3, 1) := by decide +kernel
theorem d_Task_init_16 : decode cc_Task_init 16 = .ok (.putfield 17, 3) := by decide +kernel
theorem d_Task_init_19 : decode cc_Task_init 19 = .ok (.aload_n 0, 1) := by decide +kernel
theorem d_Task_init_20 : decode cc_Task_init 20 = .ok (.iload 4, 2) := by decide +kernel
theorem d_Task_init_22 : decode cc_Task_init 22 = .ok (.putfield 21, 3) := by decide +kernel
theorem d_Task_init_25 : decode cc_Task_init 25 = .ok (.return_, 1) := by decide +kernel
theorem d_Wk_dropTasks_0 : decode cc_Wk_dropTasks 0 = .ok (.aload_n 0, 1) := by decide +kernel
theorem d_Wk_dropTasks_1 : decode cc_Wk_dropTasks 1 = .ok (.getfield 10, 3) := by decide +kernel
theorem d_Wk_dropTasks_4 : decode cc_Wk_dropTasks 4 = .ok (.invokevirtual 20, 3) := by decide +kernel
theorem d_Wk_dropTasks_7 : decode cc_Wk_dropTasks 7 = .ok (.iconst 1, 1) := by decide +kernel
theorem d_Wk_dropTasks_8 : decode cc_Wk_dropTasks 8 = .ok (.isub, 1) := by decide +kernel
theorem d_Wk_dropTasks_9 : decode cc_Wk_dropTasks 9 = .ok (.istore_n 2, 1) := by decide +kernel
theorem d_Wk_dropTasks_10 : decode cc_Wk_dropTasks 10 = .ok (.iload_n 2, 1) := by decide +kernel
theorem d_Wk_dropTasks_11 : decode cc_Wk_dropTasks 11 = .ok (.ifCond .lt 36, 3) := by decide +kernel
theorem d_Wk_dropTasks_14 : decode cc_Wk_dropTasks 14 = .ok (.aload_n 0, 1) := by decide +kernel
theorem d_Wk_dropTasks_15 : decode cc_Wk_dropTasks 15 = .ok (.getfield 10, 3) := by decide +kernel
theorem d_Wk_dropTasks_18 : decode cc_Wk_dropTasks 18 = .ok (.iload_n 2, 1) := by decide +kernel
theorem d_Wk_dropTasks_19 : decode cc_Wk_dropTasks 19 = .ok (.invokevirtual 34, 3) := by decide +kernel
theorem d_Wk_dropTasks_22 : decode cc_Wk_dropTasks 22 = .ok (.checkcast 32, 3) := by decide +kernel
theorem d_Wk_dropTasks_25 : decode cc_Wk_dropTasks 25 = .ok (.getfield 37, 3) := by decide +kernel
theorem d_Wk_dropTasks_28 : decode cc_Wk_dropTasks 28 = .ok (.aload_n 1, 1) := by decide +kernel
theorem d_Wk_dropTasks_29 : decode cc_Wk_dropTasks 29 = .ok (.if_acmp .ne 12, 3) := by decide +kernel
theorem d_Wk_dropTasks_32 : decode cc_Wk_dropTasks 32 = .ok (.aload_n 0, 1) := by decide +kernel
theorem d_Wk_dropTasks_33 : decode cc_Wk_dropTasks 33 = .ok (.getfield 10, 3) := by decide +kernel
theorem d_Wk_dropTasks_36 : decode cc_Wk_dropTasks 36 = .ok (.iload_n 2, 1) := by decide +kernel
theorem d_Wk_dropTasks_37 : decode cc_Wk_dropTasks 37 = .ok (.invokevirtual 28, 3) := by decide +kernel
theorem d_Wk_dropTasks_40 : decode cc_Wk_dropTasks 40 = .ok (.pop, 1) := by decide +kernel
theorem d_Wk_dropTasks_41 : decode cc_Wk_dropTasks 41 = .ok (.iinc 2 (-1), 3) := by decide +kernel
theorem d_Wk_dropTasks_44 : decode cc_Wk_dropTasks 44 = .ok (.goto (-34), 3) := by decide +kernel
theorem d_Wk_dropTasks_47 : decode cc_Wk_dropTasks 47 = .ok (.return_, 1) := by decide +kernel
theorem d_Wk_fromTop_0 : decode cc_Wk_fromTop 0 = .ok (.aload_n 0, 1) := by decide +kernel
theorem d_Wk_fromTop_1 : decode cc_Wk_fromTop 1 = .ok (.getfield 10, 3) := by decide +kernel
theorem d_Wk_fromTop_4 : decode cc_Wk_fromTop 4 = .ok (.aload_n 0, 1) := by decide +kernel
theorem d_Wk_fromTop_5 : decode cc_Wk_fromTop 5 = .ok (.getfield 10, 3) := by decide +kernel
theorem d_Wk_fromTop_8 : decode cc_Wk_fromTop 8 = .ok (.invokevirtual 20, 3) := by decide +kernel
theorem d_Wk_fromTop_11 : decode cc_Wk_fromTop 11 = .ok (.iconst 1, 1) := by decide +kernel
theorem d_Wk_fromTop_12 : decode cc_Wk_fromTop 12 = .ok (.isub, 1) := by decide +kernel
theorem d_Wk_fromTop_13 : decode cc_Wk_fromTop 13 = .ok (.iload_n 1, 1) := by decide +kernel
theorem d_Wk_fromTop_14 : decode cc_Wk_fromTop 14 = .ok (.isub, 1) := by decide +kernel
theorem d_Wk_fromTop_15 : decode cc_Wk_fromTop 15 = .ok (.invokevirtual 34, 3) := by decide +kernel
theorem d_Wk_fromTop_18 : decode cc_Wk_fromTop 18 = .ok (.checkcast 32, 3) := by decide +kernel
theorem d_Wk_fromTop_21 : decode cc_Wk_fromTop 21 = .ok (.areturn, 1) := by decide +kernel
theorem d_Wk_init_0 : decode cc_Wk_init 0 = .ok (.aload_n 0, 1) := by decide +kernel
theorem d_Wk_init_1 : decode cc_Wk_init 1 = .ok (.invokespecial 1, 3) := by decide +kernel
theorem d_Wk_init_4 : decode cc_Wk_init 4 = .ok (.aload_n 0, 1) := by decide +kernel
theorem d_Wk_init_5 : decode cc_Wk_init 5 = .ok (.new 7, 3) := by decide +kernel
theorem d_Wk_init_8 : decode cc_Wk_init 8 = .ok (.dup, 1) := by decide +kernel
theorem d_Wk_init_9 : decode cc_Wk_init 9 = .ok (.invokespecial 9, 3) := by decide +kernel
theorem d_Wk_init_12 : decode cc_Wk_init 12 = .ok (.putfield 10, 3) := by decide +kernel
theorem d_Wk_init_15 : decode cc_Wk_init 15 = .ok (.aload_n 0, 1) := by decide +kernel
theorem d_Wk_init_16 : decode cc_Wk_init 16 = .ok (.iload_n 1, 1) := by decide +kernel
theorem d_Wk_init_17 : decode cc_Wk_init 17 = .ok (.putfield 16, 3) := by decide +kernel
theorem d_Wk_init_20 : decode cc_Wk_init 20 = .ok (.return_, 1) := by decide +kernel
theorem d_Wk_putOnTop_0 : decode cc_Wk_putOnTop 0 = .ok (.aload_n 0, 1) := by decide +kernel
theorem d_Wk_putOnTop_1 : decode cc_Wk_putOnTop 1 = .ok (.getfield 10, 3) := by decide +kernel
theorem d_Wk_putOnTop_4 : decode cc_Wk_putOnTop 4 = .ok (.aload_n 1, 1) := by decide +kernel
theorem d_Wk_putOnTop_5 : decode cc_Wk_putOnTop 5 = .ok (.invokevirtual 24, 3) := by decide +kernel
theorem d_Wk_putOnTop_8 : decode cc_Wk_putOnTop 8 = .ok (.pop, 1) := by decide +kernel
theorem d_Wk_putOnTop_9 : decode cc_Wk_putOnTop 9 = .ok (.return_, 1) := by decide +kernel
theorem d_Wk_queueLength_0 : decode cc_Wk_queueLength 0 = .ok (.aload_n 0, 1) := by decide +kernel
theorem d_Wk_queueLength_1 : decode cc_Wk_queueLength 1 = .ok (.getfield 10, 3) := by decide +kernel
theorem d_Wk_queueLength_4 : decode cc_Wk_queueLength 4 = .ok (.invokevirtual 20, 3) := by decide +kernel
theorem d_Wk_queueLength_7 : decode cc_Wk_queueLength 7 = .ok (.ireturn, 1) := by decide +kernel
theorem d_Wk_queuedTasks_0 : decode cc_Wk_queuedTasks 0 = .ok (.iconst 0, 1) := by decide +kernel
theorem d_Wk_queuedTasks_1 : decode cc_Wk_queuedTasks 1 = .ok (.istore_n 2, 1) := by decide +kernel
theorem d_Wk_queuedTasks_2 : decode cc_Wk_queuedTasks 2 = .ok (.iconst 0, 1) := by decide +kernel
theorem d_Wk_queuedTasks_3 : decode cc_Wk_queuedTasks 3 = .ok (.istore_n 3, 1) := by decide +kernel
theorem d_Wk_queuedTasks_4 : decode cc_Wk_queuedTasks 4 = .ok (.iload_n 3, 1) := by decide +kernel
theorem d_Wk_queuedTasks_5 : decode cc_Wk_queuedTasks 5 = .ok (.aload_n 0, 1) := by decide +kernel
theorem d_Wk_queuedTasks_6 : decode cc_Wk_queuedTasks 6 = .ok (.getfield 10, 3) := by decide +kernel
theorem d_Wk_queuedTasks_9 : decode cc_Wk_queuedTasks 9 = .ok (.invokevirtual 20, 3) := by decide +kernel
theorem d_Wk_queuedTasks_12 : decode cc_Wk_queuedTasks 12 = .ok (.if_icmp .ge 30, 3) := by decide +kernel
theorem d_Wk_queuedTasks_15 : decode cc_Wk_queuedTasks 15 = .ok (.aload_n 0, 1) := by decide +kernel
theorem d_Wk_queuedTasks_16 : decode cc_Wk_queuedTasks 16 = .ok (.getfield 10, 3) := by decide +kernel
theorem d_Wk_queuedTasks_19 : decode cc_Wk_queuedTasks 19 = .ok (.iload_n 3, 1) := by decide +kernel
theorem d_Wk_queuedTasks_20 : decode cc_Wk_queuedTasks 20 = .ok (.invokevirtual 34, 3) := by decide +kernel
theorem d_Wk_queuedTasks_23 : decode cc_Wk_queuedTasks 23 = .ok (.checkcast 32, 3) := by decide +kernel
theorem d_Wk_queuedTasks_26 : decode cc_Wk_queuedTasks 26 = .ok (.getfield 37, 3) := by decide +kernel
theorem d_Wk_queuedTasks_29 : decode cc_Wk_queuedTasks 29 = .ok (.aload_n 1, 1) := by decide +kernel
theorem d_Wk_queuedTasks_30 : decode cc_Wk_queuedTasks 30 = .ok (.if_acmp .ne 6, 3) := by decide +kernel
theorem d_Wk_queuedTasks_33 : decode cc_Wk_queuedTasks 33 = .ok (.iinc 2 1, 3) := by decide +kernel
theorem d_Wk_queuedTasks_36 : decode cc_Wk_queuedTasks 36 = .ok (.iinc 3 1, 3) := by decide +kernel
theorem d_Wk_queuedTasks_39 : decode cc_Wk_queuedTasks 39 = .ok (.goto (-35), 3) := by decide +kernel
theorem d_Wk_queuedTasks_42 : decode cc_Wk_queuedTasks 42 = .ok (.iload_n 2, 1) := by decide +kernel
theorem d_Wk_queuedTasks_43 : decode cc_Wk_queuedTasks 43 = .ok (.ireturn, 1) := by decide +kernel
theorem d_Wk_takeBottom_0 : decode cc_Wk_takeBottom 0 = .ok (.aload_n 0, 1) := by decide +kernel
theorem d_Wk_takeBottom_1 : decode cc_Wk_takeBottom 1 = .ok (.getfield 10, 3) := by decide +kernel
theorem d_Wk_takeBottom_4 : decode cc_Wk_takeBottom 4 = .ok (.iconst 0, 1) := by decide +kernel
theorem d_Wk_takeBottom_5 : decode cc_Wk_takeBottom 5 = .ok (.invokevirtual 28, 3) := by decide +kernel
theorem d_Wk_takeBottom_8 : decode cc_Wk_takeBottom 8 = .ok (.checkcast 32, 3) := by decide +kernel
theorem d_Wk_takeBottom_11 : decode cc_Wk_takeBottom 11 = .ok (.areturn, 1) := by decide +kernel
theorem d_Wk_takeTop_0 : decode cc_Wk_takeTop 0 = .ok (.aload_n 0, 1) := by decide +kernel
theorem d_Wk_takeTop_1 : decode cc_Wk_takeTop 1 = .ok (.getfield 10, 3) := by decide +kernel
theorem d_Wk_takeTop_4 : decode cc_Wk_takeTop 4 = .ok (.aload_n 0, 1) := by decide +kernel
theorem d_Wk_takeTop_5 : decode cc_Wk_takeTop 5 = .ok (.getfield 10, 3) := by decide +kernel
theorem d_Wk_takeTop_8 : decode cc_Wk_takeTop 8 = .ok (.invokevirtual 20, 3) := by decide +kernel
theorem d_Wk_takeTop_11 : decode cc_Wk_takeTop 11 = .ok (.iconst 1, 1) := by decide +kernel
theorem d_Wk_takeTop_12 : decode cc_Wk_takeTop 12 = .ok (.isub, 1) := by decide +kernel
theorem d_Wk_takeTop_13 : decode cc_Wk_takeTop 13 = .ok (.invokevirtual 28, 3) := by decide +kernel
theorem d_Wk_takeTop_16 : decode cc_Wk_takeTop 16 = .ok (.checkcast 32, 3) := by decide +kernel
theorem d_Wk_takeTop_19 : decode cc_Wk_takeTop 19 = .ok (.areturn, 1) := by decide +kernel
