theorem d_Lw_law_907 : decode cc_Lw_law 907 = .ok (.i2l, 1) := by decide +kernel
theorem d_Lw_law_908 : decode cc_Lw_law 908 = .ok (.lcmp, 1) := by decide +kernel
theorem d_Lw_law_909 : decode cc_Lw_law 909 = .ok (.ifCond .eq 5, 3) := by decide +kernel
theorem d_Lw_law_912 : decode cc_Lw_law 912 = .ok (.iconst 0, 1) := by decide +kernel
theorem d_Lw_law_913 : decode cc_Lw_law 913 = .ok (.ireturn, 1) := by decide +kernel
theorem d_Lw_law_914 : decode cc_Lw_law 914 = .ok (.goto 115, 3) := by decide +kernel
theorem d_Lw_law_917 : decode cc_Lw_law 917 = .ok (.aload_n 1, 1) := by decide +kernel
theorem d_Lw_law_918 : decode cc_Lw_law 918 = .ok (.aload_n 0, 1) := by decide +kernel
theorem d_Lw_law_919 : decode cc_Lw_law 919 = .ok (.iload 4, 2) := by decide +kernel
theorem d_Lw_law_921 : decode cc_Lw_law 921 = .ok (.iconst 1, 1) := by decide +kernel
theorem d_Lw_law_922 : decode cc_Lw_law 922 = .ok (.iadd, 1) := by decide +kernel
theorem d_Lw_law_923 : decode cc_Lw_law 923 = .ok (.iaload, 1) := by decide +kernel
theorem d_Lw_law_924 : decode cc_Lw_law 924 = .ok (.aload_n 3, 1) := by decide +kernel
theorem d_Lw_law_925 : decode cc_Lw_law 925 = .ok (.invokestatic 121, 3) := by decide +kernel
theorem d_Lw_law_928 : decode cc_Lw_law 928 = .ok (.istore 5, 2) := by decide +kernel
theorem d_Lw_law_930 : decode cc_Lw_law 930 = .ok (.aload_n 2, 1) := by decide +kernel
theorem d_Lw_law_931 : decode cc_Lw_law 931 = .ok (.aload_n 0, 1) := by decide +kernel
theorem d_Lw_law_932 : decode cc_Lw_law 932 = .ok (.iload 4, 2) := by decide +kernel
theorem d_Lw_law_934 : decode cc_Lw_law 934 = .ok (.iconst 1, 1) := by decide +kernel
theorem d_Lw_law_935 : decode cc_Lw_law 935 = .ok (.iadd, 1) := by decide +kernel
theorem d_Lw_law_936 : decode cc_Lw_law 936 = .ok (.iaload, 1) := by decide +kernel
theorem d_Lw_law_937 : decode cc_Lw_law 937 = .ok (.invokevirtual 123, 3) := by decide +kernel
theorem d_Lw_law_940 : decode cc_Lw_law 940 = .ok (.istore 6, 2) := by decide +kernel
theorem d_Lw_law_942 : decode cc_Lw_law 942 = .ok (.aload_n 2, 1) := by decide +kernel
theorem d_Lw_law_943 : decode cc_Lw_law 943 = .ok (.invokevirtual 81, 3) := by decide +kernel
theorem d_Lw_law_946 : decode cc_Lw_law 946 = .ok (.iload 5, 2) := by decide +kernel
theorem d_Lw_law_948 : decode cc_Lw_law 948 = .ok (.if_icmp .eq 5, 3) := by decide +kernel
theorem d_Lw_law_951 : decode cc_Lw_law 951 = .ok (.iconst 0, 1) := by decide +kernel
theorem d_Lw_law_952 : decode cc_Lw_law 952 = .ok (.ireturn, 1) := by decide +kernel
theorem d_Lw_law_953 : decode cc_Lw_law 953 = .ok (.iload 5, 2) := by decide +kernel
theorem d_Lw_law_955 : decode cc_Lw_law 955 = .ok (.ifCond .ne 15, 3) := by decide +kernel
theorem d_Lw_law_958 : decode cc_Lw_law 958 = .ok (.aload_n 3, 1) := by decide +kernel
theorem d_Lw_law_959 : decode cc_Lw_law 959 = .ok (.iconst 0, 1) := by decide +kernel
theorem d_Lw_law_960 : decode cc_Lw_law 960 = .ok (.laload, 1) := by decide +kernel
theorem d_Lw_law_961 : decode cc_Lw_law 961 = .ok (.iload 6, 2) := by decide +kernel
theorem d_Lw_law_963 : decode cc_Lw_law 963 = .ok (.i2l, 1) := by decide +kernel
theorem d_Lw_law_964 : decode cc_Lw_law 964 = .ok (.lcmp, 1) := by decide +kernel
theorem d_Lw_law_965 : decode cc_Lw_law 965 = .ok (.ifCond .eq 5, 3) := by decide +kernel
theorem d_Lw_law_968 : decode cc_Lw_law 968 = .ok (.iconst 0, 1) := by decide +kernel
theorem d_Lw_law_969 : decode cc_Lw_law 969 = .ok (.ireturn, 1) := by decide +kernel
theorem d_Lw_law_970 : decode cc_Lw_law 970 = .ok (.goto 59, 3) := by decide +kernel
theorem d_Lw_law_973 : decode cc_Lw_law 973 = .ok (.aload_n 1, 1) := by decide +kernel
theorem d_Lw_law_974 : decode cc_Lw_law 974 = .ok (.aload_n 0, 1) := by decide +kernel
theorem d_Lw_law_975 : decode cc_Lw_law 975 = .ok (.iload 4, 2) := by decide +kernel
theorem d_Lw_law_977 : decode cc_Lw_law 977 = .ok (.iconst 1, 1) := by decide +kernel
theorem d_Lw_law_978 : decode cc_Lw_law 978 = .ok (.iadd, 1) := by decide +kernel
theorem d_Lw_law_979 : decode cc_Lw_law 979 = .ok (.iaload, 1) := by decide +kernel
theorem d_Lw_law_980 : decode cc_Lw_law 980 = .ok (.aload_n 3, 1) := by decide +kernel
theorem d_Lw_law_981 : decode cc_Lw_law 981 = .ok (.invokestatic 124, 3) := by decide +kernel
theorem d_Lw_law_984 : decode cc_Lw_law 984 = .ok (.istore 5, 2) := by decide +kernel
theorem d_Lw_law_986 : decode cc_Lw_law 986 = .ok (.aload_n 2, 1) := by decide +kernel
theorem d_Lw_law_987 : decode cc_Lw_law 987 = .ok (.aload_n 0, 1) := by decide +kernel
theorem d_Lw_law_988 : decode cc_Lw_law 988 = .ok (.iload 4, 2) := by decide +kernel
theorem d_Lw_law_990 : decode cc_Lw_law 990 = .ok (.iconst 1, 1) := by decide +kernel
theorem d_Lw_law_991 : decode cc_Lw_law 991 = .ok (.iadd, 1) := by decide +kernel
theorem d_Lw_law_992 : decode cc_Lw_law 992 = .ok (.iaload, 1) := by decide +kernel
theorem d_Lw_law_993 : decode cc_Lw_law 993 = .ok (.invokevirtual 126, 3) := by decide +kernel
theorem d_Lw_law_996 : decode cc_Lw_law 996 = .ok (.istore 6, 2) := by decide +kernel
theorem d_Lw_law_998 : decode cc_Lw_law 998 = .ok (.aload_n 2, 1) := by decide +kernel
theorem d_Lw_law_999 : decode cc_Lw_law 999 = .ok (.invokevirtual 81, 3) := by decide +kernel
theorem d_Lw_law_1002 : decode cc_Lw_law 1002 = .ok (.iload 5, 2) := by decide +kernel
theorem d_Lw_law_1004 : decode cc_Lw_law 1004 = .ok (.if_icmp .eq 5, 3) := by decide +kernel
theorem d_Lw_law_1007 : decode cc_Lw_law 1007 = .ok (.iconst 0, 1) := by decide +kernel
theorem d_Lw_law_1008 : decode cc_Lw_law 1008 = .ok (.ireturn, 1) := by decide +kernel
theorem d_Lw_law_1009 : decode cc_Lw_law 1009 = .ok (.iload 5, 2) := by decide +kernel
theorem d_Lw_law_1011 : decode cc_Lw_law 1011 = .ok (.ifCond .ne 15, 3) := by decide +kernel
theorem d_Lw_law_1014 : decode cc_Lw_law 1014 = .ok (.aload_n 3, 1) := by decide +kernel
theorem d_Lw_law_1015 : decode cc_Lw_law 1015 = .ok (.iconst 0, 1) := by decide +kernel
theorem d_Lw_law_1016 : decode cc_Lw_law 1016 = .ok (.laload, 1) := by decide +kernel
theorem d_Lw_law_1017 : decode cc_Lw_law 1017 = .ok (.iload 6, 2) := by decide +kernel
theorem d_Lw_law_1019 : decode cc_Lw_law 1019 = .ok (.i2l, 1) := by decide +kernel
theorem d_Lw_law_1020 : decode cc_Lw_law 1020 = .ok (.lcmp, 1) := by decide +kernel
theorem d_Lw_law_1021 : decode cc_Lw_law 1021 = .ok (.ifCond .eq 5, 3) := by decide +kernel
theorem d_Lw_law_1024 : decode cc_Lw_law 1024 = .ok (.iconst 0, 1) := by decide +kernel
theorem d_Lw_law_1025 : decode cc_Lw_law 1025 = .ok (.ireturn, 1) := by decide +kernel
theorem d_Lw_law_1026 : decode cc_Lw_law 1026 = .ok (.goto 3, 3) := by decide +kernel
theorem d_Lw_law_1029 : decode cc_Lw_law 1029 = .ok (.iinc 4 6, 3) := by decide +kernel
theorem d_Lw_law_1032 : decode cc_Lw_law 1032 = .ok (.goto (-999), 3) := by decide +kernel
theorem d_Lw_law_1035 : decode cc_Lw_law 1035 = .ok (.iconst 1, 1) := by decide +kernel
theorem d_Lw_law_1036 : decode cc_Lw_law 1036 = .ok (.ireturn, 1) := by decide +kernel
theorem d_Lw_result_0 : decode cc_Lw_result 0 = .ok (.aload_n 2, 1) := by decide +kernel
theorem d_Lw_result_1 : decode cc_Lw_result 1 = .ok (.iconst 0, 1) := by decide +kernel
theorem d_Lw_result_2 : decode cc_Lw_result 2 = .ok (.aload_n 0, 1) := by decide +kernel
theorem d_Lw_result_3 : decode cc_Lw_result 3 = .ok (.iload_n 1, 1) := by decide +kernel
theorem d_Lw_result_4 : decode cc_Lw_result 4 = .ok (.invokevirtual 40, 3) := by decide +kernel
theorem d_Lw_result_7 : decode cc_Lw_result 7 = .ok (.lastore, 1) := by decide +kernel
theorem d_Lw_result_8 : decode cc_Lw_result 8 = .ok (.goto 12, 3) := by decide +kernel
theorem d_Lw_result_11 : decode cc_Lw_result 11 = .ok (.astore_n 3, 1) := by decide +kernel
theorem d_Lw_result_12 : decode cc_Lw_result 12 = .ok (.iconst 1, 1) := by decide +kernel
theorem d_Lw_result_13 : decode cc_Lw_result 13 = .ok (.ireturn, 1) := by decide +kernel
theorem d_Lw_result_14 : decode cc_Lw_result 14 = .ok (.astore_n 3, 1) := by decide +kernel
theorem d_Lw_result_15 : decode cc_Lw_result 15 = .ok (.iconst 2, 1) := by decide +kernel
theorem d_Lw_result_16 : decode cc_Lw_result 16 = .ok (.ireturn, 1) := by decide +kernel
theorem d_Lw_result_17 : decode cc_Lw_result 17 = .ok (.astore_n 3, 1) := by decide +kernel
theorem d_Lw_result_18 : decode cc_Lw_result 18 = .ok (.iconst 3, 1) := by decide +kernel
theorem d_Lw_result_19 : decode cc_Lw_result 19 = .ok (.ireturn, 1) := by decide +kernel
theorem d_Lw_result_20 : decode cc_Lw_result 20 = .ok (.iconst 0, 1) := by decide +kernel
theorem d_Lw_result_21 : decode cc_Lw_result 21 = .ok (.ireturn, 1) := by decide +kernel
theorem d_Lw_set_0 : decode cc_Lw_set 0 = .ok (.aload 5, 2) := by decide +kernel
theorem d_Lw_set_2 : decode cc_Lw_set 2 = .ok (.iconst 0, 1) := by decide +kernel
theorem d_Lw_set_3 : decode cc_Lw_set 3 = .ok (.aload_n 0, 1) := by decide +kernel
theorem d_Lw_set_4 : decode cc_Lw_set 4 = .ok (.iload_n 1, 1) := by decide +kernel
theorem d_Lw_set_5 : decode cc_Lw_set 5 = .ok (.iload_n 2, 1) := by decide +kernel
theorem d_Lw_set_6 : decode cc_Lw_set 6 = .ok (.lload_n 3, 1) := by decide +kernel
theorem d_Lw_set_7 : decode cc_Lw_set 7 = .ok (.invokevirtual 17, 3) := by decide +kernel
theorem d_Lw_set_10 : decode cc_Lw_set 10 = .ok (.lastore, 1) := by decide +kernel
theorem d_Lw_set_11 : decode cc_Lw_set 11 = .ok (.goto 11, 3) := by decide +kernel
theorem d_Lw_set_14 : decode cc_Lw_set 14 = .ok (.astore 6, 2) := by decide +kernel
theorem d_Lw_set_16 : decode cc_Lw_set 16 = .ok (.iconst 1, 1) := by decide +kernel
theorem d_Lw_set_17 : decode cc_Lw_set 17 = .ok (.ireturn, 1) := by decide +kernel
theorem d_Lw_set_18 : decode cc_Lw_set 18 = .ok (.astore 6, 2) := by decide +kernel
theorem d_Lw_set_20 : decode cc_Lw_set 20 = .ok (.iconst 2, 1) := by decide +kernel
theorem d_Lw_set_21 : decode cc_Lw_set 21 = .ok (.ireturn, 1) := by decide +kernel
theorem d_Lw_set_22 : decode cc_Lw_set 22 = .ok (.iconst 0, 1) := by decide +kernel
theorem d_Lw_set_23 : decode cc_Lw_set 23 = .ok (.ireturn, 1) := by decide +kernel
theorem d_Lw_step_0 : decode cc_Lw_step 0 = .ok (.aload_n 2, 1) := by decide +kernel
theorem d_Lw_step_1 : decode cc_Lw_step 1 = .ok (.iconst 0, 1) := by decide +kernel
theorem d_Lw_step_2 : decode cc_Lw_step 2 = .ok (.aload_n 0, 1) := by decide +kernel
theorem d_Lw_step_3 : decode cc_Lw_step 3 = .ok (.iload_n 1, 1) := by decide +kernel
theorem d_Lw_step_4 : decode cc_Lw_step 4 = .ok (.invokevirtual 31, 3) := by decide +kernel
theorem d_Lw_step_7 : decode cc_Lw_step 7 = .ok (.i2l, 1) := by decide +kernel
theorem d_Lw_step_8 : decode cc_Lw_step 8 = .ok (.lastore, 1) := by decide +kernel
theorem d_Lw_step_9 : decode cc_Lw_step 9 = .ok (.goto 6, 3) := by decide +kernel
theorem d_Lw_step_12 : decode cc_Lw_step 12 = .ok (.astore_n 3, 1) := by decide +kernel
theorem d_Lw_step_13 : decode cc_Lw_step 13 = .ok (.iconst 1, 1) := by decide +kernel
theorem d_Lw_step_14 : decode cc_Lw_step 14 = .ok (.ireturn, 1) := by decide +kernel
theorem d_Lw_step_15 : decode cc_Lw_step 15 = .ok (.iconst 0, 1) := by decide +kernel
theorem d_Lw_step_16 : decode cc_Lw_step 16 = .ok (.ireturn, 1) := by decide +kernel
theorem d_Lw_task_0 : decode cc_Lw_task 0 = .ok (.aload 4, 2) := by decide +kernel
theorem d_Lw_task_2 : decode cc_Lw_task 2 = .ok (.iconst 0, 1) := by decide +kernel
theorem d_Lw_task_3 : decode cc_Lw_task 3 = .ok (.aload_n 0, 1) := by decide +kernel
theorem d_Lw_task_4 : decode cc_Lw_task 4 = .ok (.iload_n 1, 1) := by decide +kernel
theorem d_Lw_task_5 : decode cc_Lw_task 5 = .ok (.iload_n 2, 1) := by decide +kernel
theorem d_Lw_task_6 : decode cc_Lw_task 6 = .ok (.iload_n 3, 1) := by decide +kernel
theorem d_Lw_task_7 : decode cc_Lw_task 7 = .ok (.invokevirtual 53, 3) := by decide +kernel
theorem d_Lw_task_10 : decode cc_Lw_task 10 = .ok (.i2l, 1) := by decide +kernel
theorem d_Lw_task_11 : decode cc_Lw_task 11 = .ok (.lastore, 1) := by decide +kernel
theorem d_Lw_task_12 : decode cc_Lw_task 12 = .ok (.goto 11, 3) := by decide +kernel
theorem d_Lw_task_15 : decode cc_Lw_task 15 = .ok (.astore 5, 2) := by decide +kernel
theorem d_Lw_task_17 : decode cc_Lw_task 17 = .ok (.iconst 1, 1) := by decide +kernel
theorem d_Lw_task_18 : decode cc_Lw_task 18 = .ok (.ireturn, 1) := by decide +kernel
theorem d_Lw_task_19 : decode cc_Lw_task 19 = .ok (.astore 5, 2) := by decide +kernel
theorem d_Lw_task_21 : decode cc_Lw_task 21 = .ok (.iconst 2, 1) := by decide +kernel
theorem d_Lw_task_22 : decode cc_Lw_task 22 = .ok (.ireturn, 1) := by decide +kernel
theorem d_Lw_task_23 : decode cc_Lw_task 23 = .ok (.iconst 0, 1) := by decide +kernel
theorem d_Lw_task_24 : decode cc_Lw_task 24 = .ok (.ireturn, 1) := by decide +kernel
theorem d_Lw_worker_0 : decode cc_Lw_worker 0 = .ok (.aload_n 3, 1) := by decide +kernel
theorem d_Lw_worker_1 : decode cc_Lw_worker 1 = .ok (.iconst 0, 1) := by decide +kernel
theorem d_Lw_worker_2 : decode cc_Lw_worker 2 = .ok (.aload_n 0, 1) := by decide +kernel
theorem d_Lw_worker_3 : decode cc_Lw_worker 3 = .ok (.iload_n 1, 1) := by decide +kernel
theorem d_Lw_worker_4 : decode cc_Lw_worker 4 = .ok (.iload_n 2, 1) := by decide +kernel
theorem d_Lw_worker_5 : decode cc_Lw_worker 5 = .ok (.invokevirtual 56, 3) := by decide +kernel
theorem d_Lw_worker_8 : decode cc_Lw_worker 8 = .ok (.i2l, 1) := by decide +kernel
theorem d_Lw_worker_9 : decode cc_Lw_worker 9 = .ok (.lastore, 1) := by decide +kernel
theorem d_Lw_worker_10 : decode cc_Lw_worker 10 = .ok (.goto 11, 3) := by decide +kernel
theorem d_Lw_worker_13 : decode cc_Lw_worker 13 = .ok (.astore 4, 2) := by decide +kernel
theorem d_Lw_worker_15 : decode cc_Lw_worker 15 = .ok (.iconst 1, 1) := by decide +kernel
theorem d_Lw_worker_16 : decode cc_Lw_worker 16 = .ok (.ireturn, 1) := by decide +kernel
theorem d_Lw_worker_17 : decode cc_Lw_worker 17 = .ok (.astore 4, 2) := by decide +kernel
theorem d_Lw_worker_19 : decode cc_Lw_worker 19 = .ok (.iconst 2, 1) := by decide +kernel
theorem d_Lw_worker_20 : decode cc_Lw_worker 20 = .ok (.ireturn, 1) := by decide +kernel
theorem d_Lw_worker_21 : decode cc_Lw_worker 21 = .ok (.iconst 0, 1) := by decide +kernel
theorem d_Lw_worker_22 : decode cc_Lw_worker 22 = .ok (.ireturn, 1) := by decide +kernel
