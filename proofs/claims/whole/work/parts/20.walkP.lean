theorem kd_prog_4_method_4_code_0 : decode prog_4_method_4_code 0 = .ok (.aload_n 0, 1) := by decide +kernel
theorem kd_prog_4_method_4_code_1 : decode prog_4_method_4_code 1 = .ok (.getfield 31, 3) := by decide +kernel
theorem kd_prog_4_method_4_code_4 : decode prog_4_method_4_code 4 = .ok (.iload_n 1, 1) := by decide +kernel
theorem kd_prog_4_method_4_code_5 : decode prog_4_method_4_code 5 = .ok (.iload_n 2, 1) := by decide +kernel
theorem kd_prog_4_method_4_code_6 : decode prog_4_method_4_code 6 = .ok (.iastore, 1) := by decide +kernel
theorem kd_prog_4_method_4_code_7 : decode prog_4_method_4_code 7 = .ok (.aload_n 0, 1) := by decide +kernel
theorem kd_prog_4_method_4_code_8 : decode prog_4_method_4_code 8 = .ok (.getfield 34, 3) := by decide +kernel
theorem kd_prog_4_method_4_code_11 : decode prog_4_method_4_code 11 = .ok (.iload_n 1, 1) := by decide +kernel
theorem kd_prog_4_method_4_code_12 : decode prog_4_method_4_code 12 = .ok (.iload_n 3, 1) := by decide +kernel
theorem kd_prog_4_method_4_code_13 : decode prog_4_method_4_code 13 = .ok (.iastore, 1) := by decide +kernel
theorem kd_prog_4_method_4_code_14 : decode prog_4_method_4_code 14 = .ok (.aload_n 0, 1) := by decide +kernel
theorem kd_prog_4_method_4_code_15 : decode prog_4_method_4_code 15 = .ok (.getfield 37, 3) := by decide +kernel
theorem kd_prog_4_method_4_code_18 : decode prog_4_method_4_code 18 = .ok (.iload_n 1, 1) := by decide +kernel
theorem kd_prog_4_method_4_code_19 : decode prog_4_method_4_code 19 = .ok (.iload 4, 2) := by decide +kernel
theorem kd_prog_4_method_4_code_21 : decode prog_4_method_4_code 21 = .ok (.iastore, 1) := by decide +kernel
theorem kd_prog_4_method_4_code_22 : decode prog_4_method_4_code 22 = .ok (.iload_n 3, 1) := by decide +kernel
theorem kd_prog_4_method_4_code_23 : decode prog_4_method_4_code 23 = .ok (.iconst (-1), 1) := by decide +kernel
theorem kd_prog_4_method_4_code_24 : decode prog_4_method_4_code 24 = .ok (.if_icmp .ne 5, 3) := by decide +kernel
theorem kd_prog_4_method_4_code_27 : decode prog_4_method_4_code 27 = .ok (.iconst 0, 1) := by decide +kernel
theorem kd_prog_4_method_4_code_28 : decode prog_4_method_4_code 28 = .ok (.ireturn, 1) := by decide +kernel
theorem kd_prog_4_method_4_code_29 : decode prog_4_method_4_code 29 = .ok (.iload_n 3, 1) := by decide +kernel
theorem kd_prog_4_method_4_code_30 : decode prog_4_method_4_code 30 = .ok (.iload 4, 2) := by decide +kernel
theorem kd_prog_4_method_4_code_32 : decode prog_4_method_4_code 32 = .ok (.if_icmp .ne 7, 3) := by decide +kernel
theorem kd_prog_4_method_4_code_35 : decode prog_4_method_4_code 35 = .ok (.iconst 1, 1) := by decide +kernel
theorem kd_prog_4_method_4_code_36 : decode prog_4_method_4_code 36 = .ok (.goto 4, 3) := by decide +kernel
theorem kd_prog_4_method_4_code_39 : decode prog_4_method_4_code 39 = .ok (.iconst 2, 1) := by decide +kernel
theorem kd_prog_4_method_4_code_40 : decode prog_4_method_4_code 40 = .ok (.ireturn, 1) := by decide +kernel
theorem kd_prog_4_method_3_code_0 : decode prog_4_method_3_code 0 = .ok (.aload_n 0, 1) := by decide +kernel
theorem kd_prog_4_method_3_code_1 : decode prog_4_method_3_code 1 = .ok (.getfield 9, 3) := by decide +kernel
theorem kd_prog_4_method_3_code_4 : decode prog_4_method_3_code 4 = .ok (.istore_n 1, 1) := by decide +kernel
theorem kd_prog_4_method_3_code_5 : decode prog_4_method_3_code 5 = .ok (.aload_n 0, 1) := by decide +kernel
theorem kd_prog_4_method_3_code_6 : decode prog_4_method_3_code 6 = .ok (.dup, 1) := by decide +kernel
theorem kd_prog_4_method_3_code_7 : decode prog_4_method_3_code 7 = .ok (.getfield 9, 3) := by decide +kernel
theorem kd_prog_4_method_3_code_10 : decode prog_4_method_3_code 10 = .ok (.iconst 1, 1) := by decide +kernel
theorem kd_prog_4_method_3_code_11 : decode prog_4_method_3_code 11 = .ok (.iadd, 1) := by decide +kernel
theorem kd_prog_4_method_3_code_12 : decode prog_4_method_3_code 12 = .ok (.putfield 9, 3) := by decide +kernel
theorem kd_prog_4_method_3_code_15 : decode prog_4_method_3_code 15 = .ok (.aload_n 0, 1) := by decide +kernel
theorem kd_prog_4_method_3_code_16 : decode prog_4_method_3_code 16 = .ok (.iload_n 1, 1) := by decide +kernel
theorem kd_prog_4_method_3_code_17 : decode prog_4_method_3_code 17 = .ok (.iconst 0, 1) := by decide +kernel
theorem kd_prog_4_method_3_code_18 : decode prog_4_method_3_code 18 = .ok (.iconst (-1), 1) := by decide +kernel
theorem kd_prog_4_method_3_code_19 : decode prog_4_method_3_code 19 = .ok (.iconst (-1), 1) := by decide +kernel
theorem kd_prog_4_method_3_code_20 : decode prog_4_method_3_code 20 = .ok (.invokevirtual 53, 3) := by decide +kernel
theorem kd_prog_4_method_3_code_23 : decode prog_4_method_3_code 23 = .ok (.pop, 1) := by decide +kernel
theorem kd_prog_4_method_3_code_24 : decode prog_4_method_3_code 24 = .ok (.iload_n 1, 1) := by decide +kernel
theorem kd_prog_4_method_3_code_25 : decode prog_4_method_3_code 25 = .ok (.ireturn, 1) := by decide +kernel
theorem kd_prog_4_method_5_code_0 : decode prog_4_method_5_code 0 = .ok (.aload_n 0, 1) := by decide +kernel
theorem kd_prog_4_method_5_code_1 : decode prog_4_method_5_code 1 = .ok (.getfield 9, 3) := by decide +kernel
theorem kd_prog_4_method_5_code_4 : decode prog_4_method_5_code 4 = .ok (.ifCond .le 22, 3) := by decide +kernel
theorem kd_prog_4_method_5_code_7 : decode prog_4_method_5_code 7 = .ok (.aload_n 0, 1) := by decide +kernel
theorem kd_prog_4_method_5_code_8 : decode prog_4_method_5_code 8 = .ok (.getfield 18, 3) := by decide +kernel
theorem kd_prog_4_method_5_code_11 : decode prog_4_method_5_code 11 = .ok (.aload_n 0, 1) := by decide +kernel
theorem kd_prog_4_method_5_code_12 : decode prog_4_method_5_code 12 = .ok (.getfield 9, 3) := by decide +kernel
theorem kd_prog_4_method_5_code_15 : decode prog_4_method_5_code 15 = .ok (.iconst 1, 1) := by decide +kernel
theorem kd_prog_4_method_5_code_16 : decode prog_4_method_5_code 16 = .ok (.isub, 1) := by decide +kernel
theorem kd_prog_4_method_5_code_17 : decode prog_4_method_5_code 17 = .ok (.iaload, 1) := by decide +kernel
theorem kd_prog_4_method_5_code_18 : decode prog_4_method_5_code 18 = .ok (.iconst 5, 1) := by decide +kernel
theorem kd_prog_4_method_5_code_19 : decode prog_4_method_5_code 19 = .ok (.if_icmp .ge 7, 3) := by decide +kernel
theorem kd_prog_4_method_5_code_22 : decode prog_4_method_5_code 22 = .ok (.iconst 1, 1) := by decide +kernel
theorem kd_prog_4_method_5_code_23 : decode prog_4_method_5_code 23 = .ok (.goto 4, 3) := by decide +kernel
theorem kd_prog_4_method_5_code_26 : decode prog_4_method_5_code 26 = .ok (.iconst 0, 1) := by decide +kernel
theorem kd_prog_4_method_5_code_27 : decode prog_4_method_5_code 27 = .ok (.ireturn, 1) := by decide +kernel
theorem kd_prog_4_method_7_code_0 : decode prog_4_method_7_code 0 = .ok (.iconst 0, 1) := by decide +kernel
theorem kd_prog_4_method_7_code_1 : decode prog_4_method_7_code 1 = .ok (.istore 4, 2) := by decide +kernel
theorem kd_prog_4_method_7_code_3 : decode prog_4_method_7_code 3 = .ok (.iload 4, 2) := by decide +kernel
theorem kd_prog_4_method_7_code_5 : decode prog_4_method_7_code 5 = .ok (.aload_n 0, 1) := by decide +kernel
theorem kd_prog_4_method_7_code_6 : decode prog_4_method_7_code 6 = .ok (.getfield 15, 3) := by decide +kernel
theorem kd_prog_4_method_7_code_9 : decode prog_4_method_7_code 9 = .ok (.if_icmp .ge 45, 3) := by decide +kernel
theorem kd_prog_4_method_7_code_12 : decode prog_4_method_7_code 12 = .ok (.aload_n 0, 1) := by decide +kernel
theorem kd_prog_4_method_7_code_13 : decode prog_4_method_7_code 13 = .ok (.getfield 40, 3) := by decide +kernel
theorem kd_prog_4_method_7_code_16 : decode prog_4_method_7_code 16 = .ok (.iload 4, 2) := by decide +kernel
theorem kd_prog_4_method_7_code_18 : decode prog_4_method_7_code 18 = .ok (.iaload, 1) := by decide +kernel
theorem kd_prog_4_method_7_code_19 : decode prog_4_method_7_code 19 = .ok (.iload_n 1, 1) := by decide +kernel
theorem kd_prog_4_method_7_code_20 : decode prog_4_method_7_code 20 = .ok (.if_icmp .ne 28, 3) := by decide +kernel
theorem kd_prog_4_method_7_code_23 : decode prog_4_method_7_code 23 = .ok (.aload_n 0, 1) := by decide +kernel
theorem kd_prog_4_method_7_code_24 : decode prog_4_method_7_code 24 = .ok (.getfield 43, 3) := by decide +kernel
theorem kd_prog_4_method_7_code_27 : decode prog_4_method_7_code 27 = .ok (.iload 4, 2) := by decide +kernel
theorem kd_prog_4_method_7_code_29 : decode prog_4_method_7_code 29 = .ok (.iaload, 1) := by decide +kernel
theorem kd_prog_4_method_7_code_30 : decode prog_4_method_7_code 30 = .ok (.iload_n 2, 1) := by decide +kernel
theorem kd_prog_4_method_7_code_31 : decode prog_4_method_7_code 31 = .ok (.if_icmp .ne 17, 3) := by decide +kernel
theorem kd_prog_4_method_7_code_34 : decode prog_4_method_7_code 34 = .ok (.aload_n 0, 1) := by decide +kernel
theorem kd_prog_4_method_7_code_35 : decode prog_4_method_7_code 35 = .ok (.getfield 46, 3) := by decide +kernel
theorem kd_prog_4_method_7_code_38 : decode prog_4_method_7_code 38 = .ok (.iload 4, 2) := by decide +kernel
theorem kd_prog_4_method_7_code_40 : decode prog_4_method_7_code 40 = .ok (.iaload, 1) := by decide +kernel
theorem kd_prog_4_method_7_code_41 : decode prog_4_method_7_code 41 = .ok (.iload_n 3, 1) := by decide +kernel
theorem kd_prog_4_method_7_code_42 : decode prog_4_method_7_code 42 = .ok (.if_icmp .ne 6, 3) := by decide +kernel
theorem kd_prog_4_method_7_code_45 : decode prog_4_method_7_code 45 = .ok (.iload 4, 2) := by decide +kernel
theorem kd_prog_4_method_7_code_47 : decode prog_4_method_7_code 47 = .ok (.ireturn, 1) := by decide +kernel
theorem kd_prog_4_method_7_code_48 : decode prog_4_method_7_code 48 = .ok (.iinc 4 1, 3) := by decide +kernel
theorem kd_prog_4_method_7_code_51 : decode prog_4_method_7_code 51 = .ok (.goto (-48), 3) := by decide +kernel
theorem kd_prog_4_method_7_code_54 : decode prog_4_method_7_code 54 = .ok (.iconst (-1), 1) := by decide +kernel
theorem kd_prog_4_method_7_code_55 : decode prog_4_method_7_code 55 = .ok (.ireturn, 1) := by decide +kernel
theorem kd_prog_4_method_8_code_0 : decode prog_4_method_8_code 0 = .ok (.aload_n 0, 1) := by decide +kernel
theorem kd_prog_4_method_8_code_1 : decode prog_4_method_8_code 1 = .ok (.iload_n 1, 1) := by decide +kernel
theorem kd_prog_4_method_8_code_2 : decode prog_4_method_8_code 2 = .ok (.iload_n 2, 1) := by decide +kernel
theorem kd_prog_4_method_8_code_3 : decode prog_4_method_8_code 3 = .ok (.iload_n 3, 1) := by decide +kernel
theorem kd_prog_4_method_8_code_4 : decode prog_4_method_8_code 4 = .ok (.invokevirtual 57, 3) := by decide +kernel
theorem kd_prog_4_method_8_code_7 : decode prog_4_method_8_code 7 = .ok (.istore 4, 2) := by decide +kernel
theorem kd_prog_4_method_8_code_9 : decode prog_4_method_8_code 9 = .ok (.iload 4, 2) := by decide +kernel
theorem kd_prog_4_method_8_code_11 : decode prog_4_method_8_code 11 = .ok (.iconst (-1), 1) := by decide +kernel
theorem kd_prog_4_method_8_code_12 : decode prog_4_method_8_code 12 = .ok (.if_icmp .ne 12, 3) := by decide +kernel
theorem kd_prog_4_method_8_code_15 : decode prog_4_method_8_code 15 = .ok (.aload_n 0, 1) := by decide +kernel
theorem kd_prog_4_method_8_code_16 : decode prog_4_method_8_code 16 = .ok (.getfield 15, 3) := by decide +kernel
theorem kd_prog_4_method_8_code_19 : decode prog_4_method_8_code 19 = .ok (.bipush 24, 2) := by decide +kernel
theorem kd_prog_4_method_8_code_21 : decode prog_4_method_8_code 21 = .ok (.if_icmp .lt 6, 3) := by decide +kernel
theorem kd_prog_4_method_8_code_24 : decode prog_4_method_8_code 24 = .ok (.iload 4, 2) := by decide +kernel
theorem kd_prog_4_method_8_code_26 : decode prog_4_method_8_code 26 = .ok (.ireturn, 1) := by decide +kernel
theorem kd_prog_4_method_8_code_27 : decode prog_4_method_8_code 27 = .ok (.aload_n 0, 1) := by decide +kernel
theorem kd_prog_4_method_8_code_28 : decode prog_4_method_8_code 28 = .ok (.getfield 15, 3) := by decide +kernel
theorem kd_prog_4_method_8_code_31 : decode prog_4_method_8_code 31 = .ok (.istore 4, 2) := by decide +kernel
theorem kd_prog_4_method_8_code_33 : decode prog_4_method_8_code 33 = .ok (.aload_n 0, 1) := by decide +kernel
theorem kd_prog_4_method_8_code_34 : decode prog_4_method_8_code 34 = .ok (.dup, 1) := by decide +kernel
theorem kd_prog_4_method_8_code_35 : decode prog_4_method_8_code 35 = .ok (.getfield 15, 3) := by decide +kernel
theorem kd_prog_4_method_8_code_38 : decode prog_4_method_8_code 38 = .ok (.iconst 1, 1) := by decide +kernel
theorem kd_prog_4_method_8_code_39 : decode prog_4_method_8_code 39 = .ok (.iadd, 1) := by decide +kernel
theorem kd_prog_4_method_8_code_40 : decode prog_4_method_8_code 40 = .ok (.putfield 15, 3) := by decide +kernel
theorem kd_prog_4_method_8_code_43 : decode prog_4_method_8_code 43 = .ok (.aload_n 0, 1) := by decide +kernel
theorem kd_prog_4_method_8_code_44 : decode prog_4_method_8_code 44 = .ok (.getfield 40, 3) := by decide +kernel
theorem kd_prog_4_method_8_code_47 : decode prog_4_method_8_code 47 = .ok (.iload 4, 2) := by decide +kernel
theorem kd_prog_4_method_8_code_49 : decode prog_4_method_8_code 49 = .ok (.iload_n 1, 1) := by decide +kernel
theorem kd_prog_4_method_8_code_50 : decode prog_4_method_8_code 50 = .ok (.iastore, 1) := by decide +kernel
theorem kd_prog_4_method_8_code_51 : decode prog_4_method_8_code 51 = .ok (.aload_n 0, 1) := by decide +kernel
theorem kd_prog_4_method_8_code_52 : decode prog_4_method_8_code 52 = .ok (.getfield 43, 3) := by decide +kernel
theorem kd_prog_4_method_8_code_55 : decode prog_4_method_8_code 55 = .ok (.iload 4, 2) := by decide +kernel
theorem kd_prog_4_method_8_code_57 : decode prog_4_method_8_code 57 = .ok (.iload_n 2, 1) := by decide +kernel
theorem kd_prog_4_method_8_code_58 : decode prog_4_method_8_code 58 = .ok (.iastore, 1) := by decide +kernel
theorem kd_prog_4_method_8_code_59 : decode prog_4_method_8_code 59 = .ok (.aload_n 0, 1) := by decide +kernel
theorem kd_prog_4_method_8_code_60 : decode prog_4_method_8_code 60 = .ok (.getfield 46, 3) := by decide +kernel
theorem kd_prog_4_method_8_code_63 : decode prog_4_method_8_code 63 = .ok (.iload 4, 2) := by decide +kernel
theorem kd_prog_4_method_8_code_65 : decode prog_4_method_8_code 65 = .ok (.iload_n 3, 1) := by decide +kernel
theorem kd_prog_4_method_8_code_66 : decode prog_4_method_8_code 66 = .ok (.iastore, 1) := by decide +kernel
theorem kd_prog_4_method_8_code_67 : decode prog_4_method_8_code 67 = .ok (.aload_n 0, 1) := by decide +kernel
theorem kd_prog_4_method_8_code_68 : decode prog_4_method_8_code 68 = .ok (.getfield 49, 3) := by decide +kernel
theorem kd_prog_4_method_8_code_71 : decode prog_4_method_8_code 71 = .ok (.iload_n 1, 1) := by decide +kernel
theorem kd_prog_4_method_8_code_72 : decode prog_4_method_8_code 72 = .ok (.dup2, 1) := by decide +kernel
theorem kd_prog_4_method_8_code_73 : decode prog_4_method_8_code 73 = .ok (.laload, 1) := by decide +kernel
theorem kd_prog_4_method_8_code_74 : decode prog_4_method_8_code 74 = .ok (.lconst 1, 1) := by decide +kernel
theorem kd_prog_4_method_8_code_75 : decode prog_4_method_8_code 75 = .ok (.iload 4, 2) := by decide +kernel
theorem kd_prog_4_method_8_code_77 : decode prog_4_method_8_code 77 = .ok (.lshl, 1) := by decide +kernel
theorem kd_prog_4_method_8_code_78 : decode prog_4_method_8_code 78 = .ok (.lor, 1) := by decide +kernel
theorem kd_prog_4_method_8_code_79 : decode prog_4_method_8_code 79 = .ok (.lastore, 1) := by decide +kernel
theorem kd_prog_4_method_8_code_80 : decode prog_4_method_8_code 80 = .ok (.aload_n 0, 1) := by decide +kernel
theorem kd_prog_4_method_8_code_81 : decode prog_4_method_8_code 81 = .ok (.getfield 49, 3) := by decide +kernel
theorem kd_prog_4_method_8_code_84 : decode prog_4_method_8_code 84 = .ok (.iload_n 3, 1) := by decide +kernel
theorem kd_prog_4_method_8_code_85 : decode prog_4_method_8_code 85 = .ok (.dup2, 1) := by decide +kernel
theorem kd_prog_4_method_8_code_86 : decode prog_4_method_8_code 86 = .ok (.laload, 1) := by decide +kernel
theorem kd_prog_4_method_8_code_87 : decode prog_4_method_8_code 87 = .ok (.lconst 1, 1) := by decide +kernel
theorem kd_prog_4_method_8_code_88 : decode prog_4_method_8_code 88 = .ok (.iload 4, 2) := by decide +kernel
theorem kd_prog_4_method_8_code_90 : decode prog_4_method_8_code 90 = .ok (.lshl, 1) := by decide +kernel
theorem kd_prog_4_method_8_code_91 : decode prog_4_method_8_code 91 = .ok (.lor, 1) := by decide +kernel
theorem kd_prog_4_method_8_code_92 : decode prog_4_method_8_code 92 = .ok (.lastore, 1) := by decide +kernel
theorem kd_prog_4_method_8_code_93 : decode prog_4_method_8_code 93 = .ok (.iload 4, 2) := by decide +kernel
theorem kd_prog_4_method_8_code_95 : decode prog_4_method_8_code 95 = .ok (.ireturn, 1) := by decide +kernel
theorem kd_prog_4_method_2_code_0 : decode prog_4_method_2_code 0 = .ok (.iload_n 1, 1) := by decide +kernel
theorem kd_prog_4_method_2_code_1 : decode prog_4_method_2_code 1 = .ok (.ifCond .lt 15, 3) := by decide +kernel
theorem kd_prog_4_method_2_code_4 : decode prog_4_method_2_code 4 = .ok (.iload_n 1, 1) := by decide +kernel
theorem kd_prog_4_method_2_code_5 : decode prog_4_method_2_code 5 = .ok (.aload_n 0, 1) := by decide +kernel
theorem kd_prog_4_method_2_code_6 : decode prog_4_method_2_code 6 = .ok (.getfield 9, 3) := by decide +kernel
theorem kd_prog_4_method_2_code_9 : decode prog_4_method_2_code 9 = .ok (.if_icmp .ge 7, 3) := by decide +kernel
theorem kd_prog_4_method_2_code_12 : decode prog_4_method_2_code 12 = .ok (.iconst 1, 1) := by decide +kernel
theorem kd_prog_4_method_2_code_13 : decode prog_4_method_2_code 13 = .ok (.goto 4, 3) := by decide +kernel
theorem kd_prog_4_method_2_code_16 : decode prog_4_method_2_code 16 = .ok (.iconst 0, 1) := by decide +kernel
theorem kd_prog_4_method_2_code_17 : decode prog_4_method_2_code 17 = .ok (.ireturn, 1) := by decide +kernel
theorem kd_prog_4_method_9_code_0 : decode prog_4_method_9_code 0 = .ok (.iconst 0, 1) := by decide +kernel
theorem kd_prog_4_method_9_code_1 : decode prog_4_method_9_code 1 = .ok (.istore_n 1, 1) := by decide +kernel
theorem kd_prog_4_method_9_code_2 : decode prog_4_method_9_code 2 = .ok (.iload_n 1, 1) := by decide +kernel
theorem kd_prog_4_method_9_code_3 : decode prog_4_method_9_code 3 = .ok (.aload_n 0, 1) := by decide +kernel
theorem kd_prog_4_method_9_code_4 : decode prog_4_method_9_code 4 = .ok (.getfield 9, 3) := by decide +kernel
theorem kd_prog_4_method_9_code_7 : decode prog_4_method_9_code 7 = .ok (.if_icmp .ge 37, 3) := by decide +kernel
theorem kd_prog_4_method_9_code_10 : decode prog_4_method_9_code 10 = .ok (.aload_n 0, 1) := by decide +kernel
theorem kd_prog_4_method_9_code_11 : decode prog_4_method_9_code 11 = .ok (.getfield 34, 3) := by decide +kernel
theorem kd_prog_4_method_9_code_14 : decode prog_4_method_9_code 14 = .ok (.iload_n 1, 1) := by decide +kernel
theorem kd_prog_4_method_9_code_15 : decode prog_4_method_9_code 15 = .ok (.iaload, 1) := by decide +kernel
theorem kd_prog_4_method_9_code_16 : decode prog_4_method_9_code 16 = .ok (.aload_n 0, 1) := by decide +kernel
theorem kd_prog_4_method_9_code_17 : decode prog_4_method_9_code 17 = .ok (.getfield 9, 3) := by decide +kernel
theorem kd_prog_4_method_9_code_20 : decode prog_4_method_9_code 20 = .ok (.if_icmp .ge 16, 3) := by decide +kernel
theorem kd_prog_4_method_9_code_23 : decode prog_4_method_9_code 23 = .ok (.aload_n 0, 1) := by decide +kernel
theorem kd_prog_4_method_9_code_24 : decode prog_4_method_9_code 24 = .ok (.getfield 37, 3) := by decide +kernel
theorem kd_prog_4_method_9_code_27 : decode prog_4_method_9_code 27 = .ok (.iload_n 1, 1) := by decide +kernel
theorem kd_prog_4_method_9_code_28 : decode prog_4_method_9_code 28 = .ok (.iaload, 1) := by decide +kernel
theorem kd_prog_4_method_9_code_29 : decode prog_4_method_9_code 29 = .ok (.aload_n 0, 1) := by decide +kernel
theorem kd_prog_4_method_9_code_30 : decode prog_4_method_9_code 30 = .ok (.getfield 9, 3) := by decide +kernel
theorem kd_prog_4_method_9_code_33 : decode prog_4_method_9_code 33 = .ok (.if_icmp .lt 5, 3) := by decide +kernel
theorem kd_prog_4_method_9_code_36 : decode prog_4_method_9_code 36 = .ok (.iconst 0, 1) := by decide +kernel
theorem kd_prog_4_method_9_code_37 : decode prog_4_method_9_code 37 = .ok (.ireturn, 1) := by decide +kernel
theorem kd_prog_4_method_9_code_38 : decode prog_4_method_9_code 38 = .ok (.iinc 1 1, 3) := by decide +kernel
theorem kd_prog_4_method_9_code_41 : decode prog_4_method_9_code 41 = .ok (.goto (-39), 3) := by decide +kernel
theorem kd_prog_4_method_9_code_44 : decode prog_4_method_9_code 44 = .ok (.iconst 1, 1) := by decide +kernel
theorem kd_prog_4_method_9_code_45 : decode prog_4_method_9_code 45 = .ok (.ireturn, 1) := by decide +kernel
theorem kd_prog_11_method_50_code_0 : decode prog_11_method_50_code 0 = .ok (.lload_n 0, 1) := by decide +kernel
theorem kd_prog_11_method_50_code_1 : decode prog_11_method_50_code 1 = .ok (.lload_n 0, 1) := by decide +kernel
theorem kd_prog_11_method_50_code_2 : decode prog_11_method_50_code 2 = .ok (.iconst 1, 1) := by decide +kernel
theorem kd_prog_11_method_50_code_3 : decode prog_11_method_50_code 3 = .ok (.lushr, 1) := by decide +kernel
theorem kd_prog_11_method_50_code_4 : decode prog_11_method_50_code 4 = .ok (.ldc2_w 314, 3) := by decide +kernel
theorem kd_prog_11_method_50_code_7 : decode prog_11_method_50_code 7 = .ok (.land, 1) := by decide +kernel
theorem kd_prog_11_method_50_code_8 : decode prog_11_method_50_code 8 = .ok (.lsub, 1) := by decide +kernel
theorem kd_prog_11_method_50_code_9 : decode prog_11_method_50_code 9 = .ok (.lstore_n 0, 1) := by decide +kernel
theorem kd_prog_11_method_50_code_10 : decode prog_11_method_50_code 10 = .ok (.lload_n 0, 1) := by decide +kernel
theorem kd_prog_11_method_50_code_11 : decode prog_11_method_50_code 11 = .ok (.ldc2_w 316, 3) := by decide +kernel
theorem kd_prog_11_method_50_code_14 : decode prog_11_method_50_code 14 = .ok (.land, 1) := by decide +kernel
theorem kd_prog_11_method_50_code_15 : decode prog_11_method_50_code 15 = .ok (.lload_n 0, 1) := by decide +kernel
theorem kd_prog_11_method_50_code_16 : decode prog_11_method_50_code 16 = .ok (.iconst 2, 1) := by decide +kernel
theorem kd_prog_11_method_50_code_17 : decode prog_11_method_50_code 17 = .ok (.lushr, 1) := by decide +kernel
theorem kd_prog_11_method_50_code_18 : decode prog_11_method_50_code 18 = .ok (.ldc2_w 316, 3) := by decide +kernel
theorem kd_prog_11_method_50_code_21 : decode prog_11_method_50_code 21 = .ok (.land, 1) := by decide +kernel
theorem kd_prog_11_method_50_code_22 : decode prog_11_method_50_code 22 = .ok (.ladd, 1) := by decide +kernel
theorem kd_prog_11_method_50_code_23 : decode prog_11_method_50_code 23 = .ok (.lstore_n 0, 1) := by decide +kernel
theorem kd_prog_11_method_50_code_24 : decode prog_11_method_50_code 24 = .ok (.lload_n 0, 1) := by decide +kernel
theorem kd_prog_11_method_50_code_25 : decode prog_11_method_50_code 25 = .ok (.lload_n 0, 1) := by decide +kernel
theorem kd_prog_11_method_50_code_26 : decode prog_11_method_50_code 26 = .ok (.iconst 4, 1) := by decide +kernel
theorem kd_prog_11_method_50_code_27 : decode prog_11_method_50_code 27 = .ok (.lushr, 1) := by decide +kernel
theorem kd_prog_11_method_50_code_28 : decode prog_11_method_50_code 28 = .ok (.ladd, 1) := by decide +kernel
theorem kd_prog_11_method_50_code_29 : decode prog_11_method_50_code 29 = .ok (.ldc2_w 318, 3) := by decide +kernel
theorem kd_prog_11_method_50_code_32 : decode prog_11_method_50_code 32 = .ok (.land, 1) := by decide +kernel
theorem kd_prog_11_method_50_code_33 : decode prog_11_method_50_code 33 = .ok (.lstore_n 0, 1) := by decide +kernel
theorem kd_prog_11_method_50_code_34 : decode prog_11_method_50_code 34 = .ok (.lload_n 0, 1) := by decide +kernel
theorem kd_prog_11_method_50_code_35 : decode prog_11_method_50_code 35 = .ok (.lload_n 0, 1) := by decide +kernel
theorem kd_prog_11_method_50_code_36 : decode prog_11_method_50_code 36 = .ok (.bipush 8, 2) := by decide +kernel
theorem kd_prog_11_method_50_code_38 : decode prog_11_method_50_code 38 = .ok (.lushr, 1) := by decide +kernel
theorem kd_prog_11_method_50_code_39 : decode prog_11_method_50_code 39 = .ok (.ladd, 1) := by decide +kernel
theorem kd_prog_11_method_50_code_40 : decode prog_11_method_50_code 40 = .ok (.lstore_n 0, 1) := by decide +kernel
theorem kd_prog_11_method_50_code_41 : decode prog_11_method_50_code 41 = .ok (.lload_n 0, 1) := by decide +kernel
theorem kd_prog_11_method_50_code_42 : decode prog_11_method_50_code 42 = .ok (.lload_n 0, 1) := by decide +kernel
theorem kd_prog_11_method_50_code_43 : decode prog_11_method_50_code 43 = .ok (.bipush 16, 2) := by decide +kernel
theorem kd_prog_11_method_50_code_45 : decode prog_11_method_50_code 45 = .ok (.lushr, 1) := by decide +kernel
theorem kd_prog_11_method_50_code_46 : decode prog_11_method_50_code 46 = .ok (.ladd, 1) := by decide +kernel
theorem kd_prog_11_method_50_code_47 : decode prog_11_method_50_code 47 = .ok (.lstore_n 0, 1) := by decide +kernel
theorem kd_prog_11_method_50_code_48 : decode prog_11_method_50_code 48 = .ok (.lload_n 0, 1) := by decide +kernel
theorem kd_prog_11_method_50_code_49 : decode prog_11_method_50_code 49 = .ok (.lload_n 0, 1) := by decide +kernel
theorem kd_prog_11_method_50_code_50 : decode prog_11_method_50_code 50 = .ok (.bipush 32, 2) := by decide +kernel
theorem kd_prog_11_method_50_code_52 : decode prog_11_method_50_code 52 = .ok (.lushr, 1) := by decide +kernel
theorem kd_prog_11_method_50_code_53 : decode prog_11_method_50_code 53 = .ok (.ladd, 1) := by decide +kernel
theorem kd_prog_11_method_50_code_54 : decode prog_11_method_50_code 54 = .ok (.lstore_n 0, 1) := by decide +kernel
theorem kd_prog_11_method_50_code_55 : decode prog_11_method_50_code 55 = .ok (.lload_n 0, 1) := by decide +kernel
theorem kd_prog_11_method_50_code_56 : decode prog_11_method_50_code 56 = .ok (.l2i, 1) := by decide +kernel
theorem kd_prog_11_method_50_code_57 : decode prog_11_method_50_code 57 = .ok (.bipush 127, 2) := by decide +kernel
theorem kd_prog_11_method_50_code_59 : decode prog_11_method_50_code 59 = .ok (.iand, 1) := by decide +kernel
theorem kd_prog_11_method_50_code_60 : decode prog_11_method_50_code 60 = .ok (.ireturn, 1) := by decide +kernel
theorem kd_prog_16_method_103_code_0 : decode prog_16_method_103_code 0 = .ok (.iconst 0, 1) := by decide +kernel
theorem kd_prog_16_method_103_code_1 : decode prog_16_method_103_code 1 = .ok (.istore_n 2, 1) := by decide +kernel
theorem kd_prog_16_method_103_code_2 : decode prog_16_method_103_code 2 = .ok (.aload_n 0, 1) := by decide +kernel
theorem kd_prog_16_method_103_code_3 : decode prog_16_method_103_code 3 = .ok (.arraylength, 1) := by decide +kernel
theorem kd_prog_16_method_103_code_4 : decode prog_16_method_103_code 4 = .ok (.istore_n 3, 1) := by decide +kernel
theorem kd_prog_16_method_103_code_5 : decode prog_16_method_103_code 5 = .ok (.iload_n 2, 1) := by decide +kernel
theorem kd_prog_16_method_103_code_6 : decode prog_16_method_103_code 6 = .ok (.iload_n 3, 1) := by decide +kernel
theorem kd_prog_16_method_103_code_7 : decode prog_16_method_103_code 7 = .ok (.if_icmp .ge 13, 3) := by decide +kernel
theorem kd_prog_16_method_103_code_10 : decode prog_16_method_103_code 10 = .ok (.aload_n 0, 1) := by decide +kernel
theorem kd_prog_16_method_103_code_11 : decode prog_16_method_103_code 11 = .ok (.iload_n 2, 1) := by decide +kernel
theorem kd_prog_16_method_103_code_12 : decode prog_16_method_103_code 12 = .ok (.iload_n 1, 1) := by decide +kernel
theorem kd_prog_16_method_103_code_13 : decode prog_16_method_103_code 13 = .ok (.iastore, 1) := by decide +kernel
theorem kd_prog_16_method_103_code_14 : decode prog_16_method_103_code 14 = .ok (.iinc 2 1, 3) := by decide +kernel
theorem kd_prog_16_method_103_code_17 : decode prog_16_method_103_code 17 = .ok (.goto (-12), 3) := by decide +kernel
theorem kd_prog_16_method_103_code_20 : decode prog_16_method_103_code 20 = .ok (.return_, 1) := by decide +kernel
theorem kd_prog_4_method_10_code_0 : decode prog_4_method_10_code 0 = .ok (.aload_n 2, 1) := by decide +kernel
theorem kd_prog_4_method_10_code_1 : decode prog_4_method_10_code 1 = .ok (.aload_n 0, 1) := by decide +kernel
theorem kd_prog_4_method_10_code_2 : decode prog_4_method_10_code 2 = .ok (.getfield 40, 3) := by decide +kernel
theorem kd_prog_4_method_10_code_5 : decode prog_4_method_10_code 5 = .ok (.iload_n 1, 1) := by decide +kernel
theorem kd_prog_4_method_10_code_6 : decode prog_4_method_10_code 6 = .ok (.iaload, 1) := by decide +kernel
theorem kd_prog_4_method_10_code_7 : decode prog_4_method_10_code 7 = .ok (.iaload, 1) := by decide +kernel
theorem kd_prog_4_method_10_code_8 : decode prog_4_method_10_code 8 = .ok (.istore_n 3, 1) := by decide +kernel
theorem kd_prog_4_method_10_code_9 : decode prog_4_method_10_code 9 = .ok (.aload_n 2, 1) := by decide +kernel
theorem kd_prog_4_method_10_code_10 : decode prog_4_method_10_code 10 = .ok (.aload_n 0, 1) := by decide +kernel
theorem kd_prog_4_method_10_code_11 : decode prog_4_method_10_code 11 = .ok (.getfield 46, 3) := by decide +kernel
theorem kd_prog_4_method_10_code_14 : decode prog_4_method_10_code 14 = .ok (.iload_n 1, 1) := by decide +kernel
theorem kd_prog_4_method_10_code_15 : decode prog_4_method_10_code 15 = .ok (.iaload, 1) := by decide +kernel
theorem kd_prog_4_method_10_code_16 : decode prog_4_method_10_code 16 = .ok (.iaload, 1) := by decide +kernel
theorem kd_prog_4_method_10_code_17 : decode prog_4_method_10_code 17 = .ok (.istore 4, 2) := by decide +kernel
theorem kd_prog_4_method_10_code_19 : decode prog_4_method_10_code 19 = .ok (.aload_n 0, 1) := by decide +kernel
theorem kd_prog_4_method_10_code_20 : decode prog_4_method_10_code 20 = .ok (.getfield 43, 3) := by decide +kernel
theorem kd_prog_4_method_10_code_23 : decode prog_4_method_10_code 23 = .ok (.iload_n 1, 1) := by decide +kernel
theorem kd_prog_4_method_10_code_24 : decode prog_4_method_10_code 24 = .ok (.iaload, 1) := by decide +kernel
theorem kd_prog_4_method_10_code_25 : decode prog_4_method_10_code 25 = .ok (.tableswitch 51 0 3 #[31, 36, 41, 46], 31) := by decide +kernel
theorem kd_prog_4_method_10_code_56 : decode prog_4_method_10_code 56 = .ok (.iload_n 3, 1) := by decide +kernel
theorem kd_prog_4_method_10_code_57 : decode prog_4_method_10_code 57 = .ok (.iload 4, 2) := by decide +kernel
theorem kd_prog_4_method_10_code_59 : decode prog_4_method_10_code 59 = .ok (.iadd, 1) := by decide +kernel
theorem kd_prog_4_method_10_code_60 : decode prog_4_method_10_code 60 = .ok (.ireturn, 1) := by decide +kernel
theorem kd_prog_4_method_10_code_61 : decode prog_4_method_10_code 61 = .ok (.iload_n 3, 1) := by decide +kernel
theorem kd_prog_4_method_10_code_62 : decode prog_4_method_10_code 62 = .ok (.iload 4, 2) := by decide +kernel
theorem kd_prog_4_method_10_code_64 : decode prog_4_method_10_code 64 = .ok (.isub, 1) := by decide +kernel
theorem kd_prog_4_method_10_code_65 : decode prog_4_method_10_code 65 = .ok (.ireturn, 1) := by decide +kernel
theorem kd_prog_4_method_10_code_66 : decode prog_4_method_10_code 66 = .ok (.iload_n 3, 1) := by decide +kernel
theorem kd_prog_4_method_10_code_67 : decode prog_4_method_10_code 67 = .ok (.iload 4, 2) := by decide +kernel
theorem kd_prog_4_method_10_code_69 : decode prog_4_method_10_code 69 = .ok (.imul, 1) := by decide +kernel
theorem kd_prog_4_method_10_code_70 : decode prog_4_method_10_code 70 = .ok (.ireturn, 1) := by decide +kernel
theorem kd_prog_4_method_10_code_71 : decode prog_4_method_10_code 71 = .ok (.iload_n 3, 1) := by decide +kernel
theorem kd_prog_4_method_10_code_72 : decode prog_4_method_10_code 72 = .ok (.iload 4, 2) := by decide +kernel
theorem kd_prog_4_method_10_code_74 : decode prog_4_method_10_code 74 = .ok (.iand, 1) := by decide +kernel
theorem kd_prog_4_method_10_code_75 : decode prog_4_method_10_code 75 = .ok (.ireturn, 1) := by decide +kernel
theorem kd_prog_4_method_10_code_76 : decode prog_4_method_10_code 76 = .ok (.iload_n 3, 1) := by decide +kernel
theorem kd_prog_4_method_10_code_77 : decode prog_4_method_10_code 77 = .ok (.iload 4, 2) := by decide +kernel
theorem kd_prog_4_method_10_code_79 : decode prog_4_method_10_code 79 = .ok (.if_icmp .ge 7, 3) := by decide +kernel
theorem kd_prog_4_method_10_code_82 : decode prog_4_method_10_code 82 = .ok (.iconst 1, 1) := by decide +kernel
theorem kd_prog_4_method_10_code_83 : decode prog_4_method_10_code 83 = .ok (.goto 4, 3) := by decide +kernel
theorem kd_prog_4_method_10_code_86 : decode prog_4_method_10_code 86 = .ok (.iconst 0, 1) := by decide +kernel
theorem kd_prog_4_method_10_code_87 : decode prog_4_method_10_code 87 = .ok (.ireturn, 1) := by decide +kernel
theorem kd_prog_4_method_6_code_0 : decode prog_4_method_6_code 0 = .ok (.aload_n 0, 1) := by decide +kernel
theorem kd_prog_4_method_6_code_1 : decode prog_4_method_6_code 1 = .ok (.getfield 9, 3) := by decide +kernel
theorem kd_prog_4_method_6_code_4 : decode prog_4_method_6_code 4 = .ok (.iconst 1, 1) := by decide +kernel
theorem kd_prog_4_method_6_code_5 : decode prog_4_method_6_code 5 = .ok (.isub, 1) := by decide +kernel
theorem kd_prog_4_method_6_code_6 : decode prog_4_method_6_code 6 = .ok (.istore 4, 2) := by decide +kernel
theorem kd_prog_4_method_6_code_8 : decode prog_4_method_6_code 8 = .ok (.iload 4, 2) := by decide +kernel
theorem kd_prog_4_method_6_code_10 : decode prog_4_method_6_code 10 = .ok (.iconst 5, 1) := by decide +kernel
theorem kd_prog_4_method_6_code_11 : decode prog_4_method_6_code 11 = .ok (.imul, 1) := by decide +kernel
theorem kd_prog_4_method_6_code_12 : decode prog_4_method_6_code 12 = .ok (.aload_n 0, 1) := by decide +kernel
theorem kd_prog_4_method_6_code_13 : decode prog_4_method_6_code 13 = .ok (.getfield 18, 3) := by decide +kernel
theorem kd_prog_4_method_6_code_16 : decode prog_4_method_6_code 16 = .ok (.iload 4, 2) := by decide +kernel
theorem kd_prog_4_method_6_code_18 : decode prog_4_method_6_code 18 = .ok (.iaload, 1) := by decide +kernel
theorem kd_prog_4_method_6_code_19 : decode prog_4_method_6_code 19 = .ok (.iadd, 1) := by decide +kernel
theorem kd_prog_4_method_6_code_20 : decode prog_4_method_6_code 20 = .ok (.istore 5, 2) := by decide +kernel
theorem kd_prog_4_method_6_code_22 : decode prog_4_method_6_code 22 = .ok (.aload_n 0, 1) := by decide +kernel
theorem kd_prog_4_method_6_code_23 : decode prog_4_method_6_code 23 = .ok (.getfield 22, 3) := by decide +kernel
theorem kd_prog_4_method_6_code_26 : decode prog_4_method_6_code 26 = .ok (.iload 5, 2) := by decide +kernel
theorem kd_prog_4_method_6_code_28 : decode prog_4_method_6_code 28 = .ok (.iload_n 1, 1) := by decide +kernel
theorem kd_prog_4_method_6_code_29 : decode prog_4_method_6_code 29 = .ok (.iastore, 1) := by decide +kernel
theorem kd_prog_4_method_6_code_30 : decode prog_4_method_6_code 30 = .ok (.aload_n 0, 1) := by decide +kernel
theorem kd_prog_4_method_6_code_31 : decode prog_4_method_6_code 31 = .ok (.getfield 25, 3) := by decide +kernel
theorem kd_prog_4_method_6_code_34 : decode prog_4_method_6_code 34 = .ok (.iload 5, 2) := by decide +kernel
theorem kd_prog_4_method_6_code_36 : decode prog_4_method_6_code 36 = .ok (.iload_n 2, 1) := by decide +kernel
theorem kd_prog_4_method_6_code_37 : decode prog_4_method_6_code 37 = .ok (.iastore, 1) := by decide +kernel
theorem kd_prog_4_method_6_code_38 : decode prog_4_method_6_code 38 = .ok (.aload_n 0, 1) := by decide +kernel
theorem kd_prog_4_method_6_code_39 : decode prog_4_method_6_code 39 = .ok (.getfield 28, 3) := by decide +kernel
theorem kd_prog_4_method_6_code_42 : decode prog_4_method_6_code 42 = .ok (.iload 5, 2) := by decide +kernel
theorem kd_prog_4_method_6_code_44 : decode prog_4_method_6_code 44 = .ok (.iload_n 3, 1) := by decide +kernel
theorem kd_prog_4_method_6_code_45 : decode prog_4_method_6_code 45 = .ok (.iastore, 1) := by decide +kernel
theorem kd_prog_4_method_6_code_46 : decode prog_4_method_6_code 46 = .ok (.aload_n 0, 1) := by decide +kernel
theorem kd_prog_4_method_6_code_47 : decode prog_4_method_6_code 47 = .ok (.getfield 18, 3) := by decide +kernel
theorem kd_prog_4_method_6_code_50 : decode prog_4_method_6_code 50 = .ok (.iload 4, 2) := by decide +kernel
theorem kd_prog_4_method_6_code_52 : decode prog_4_method_6_code 52 = .ok (.dup2, 1) := by decide +kernel
theorem kd_prog_4_method_6_code_53 : decode prog_4_method_6_code 53 = .ok (.iaload, 1) := by decide +kernel
theorem kd_prog_4_method_6_code_54 : decode prog_4_method_6_code 54 = .ok (.iconst 1, 1) := by decide +kernel
theorem kd_prog_4_method_6_code_55 : decode prog_4_method_6_code 55 = .ok (.iadd, 1) := by decide +kernel
theorem kd_prog_4_method_6_code_56 : decode prog_4_method_6_code 56 = .ok (.iastore, 1) := by decide +kernel
theorem kd_prog_4_method_6_code_57 : decode prog_4_method_6_code 57 = .ok (.aload_n 0, 1) := by decide +kernel
theorem kd_prog_4_method_6_code_58 : decode prog_4_method_6_code 58 = .ok (.getfield 18, 3) := by decide +kernel
theorem kd_prog_4_method_6_code_61 : decode prog_4_method_6_code 61 = .ok (.iload 4, 2) := by decide +kernel
theorem kd_prog_4_method_6_code_63 : decode prog_4_method_6_code 63 = .ok (.iaload, 1) := by decide +kernel
theorem kd_prog_4_method_6_code_64 : decode prog_4_method_6_code 64 = .ok (.ireturn, 1) := by decide +kernel
section
variable {p : Program} {l : Launch} {e : Env} {R : Room} {s : State} {m : MethodId} {args : Array Value} {below : List Frame} {meth : Method} {c : Code} {Q : State → Prop} {ce sl : Nat} {D : va_G} {q : Nat → Nat} {cA : Nat → ClassId} {A : Nat → Prop}
set_option maxHeartbeats 4000000 in
set_option maxRecDepth 100000 in
theorem w_P_changeEnd (hx : p.tables.exec = Jvm.exec) (hb : c.code = prog_4_method_4_code) (hml : c.maxLocals = 5) (hown : s.vm.findClass kr_P = some m.cls) (hts : ∀ w ∈ lw_g, w.before args s = true) (hRf : 0 ≤ R.frames) (hRl : 0 ≤ R.locals) (hce : ce ≤ R.cells) (hsl : sl ≤ R.slots) (hA : ∀ x, s.heap.size ≤ x → A x) (hK : va_K D wk_cl (tysW cA) s) (x1 : Int32) (x2 : Int32) (x3 : Int32) (x4 : Int32) (z : Sta) (K : Int32 → Sta → Prop) (h : wp_P_changeEnd x1 x2 x3 x4 z K) (hret : ∀ (r : Int32) (u : Sta) (H : Heap) (locs : List Loc) (pc : Nat) (ls : Array Slot), K r u → wk_S D q cA A s.heap u H locs → decode prog_4_method_4_code pc = .ok (.ireturn, 1) → W p l e R s m args below meth c H locs ce sl Q (F0 m pc ls [.int r])) {H : Heap} {locs : List Loc} {ls : Array Slot} (hV : wk_S D q cA A s.heap z H locs) (hl : lv_has ls 5 [(0, .ref (q 1)), (1, .int x1), (2, .int x2), (3, .int x3), (4, .int x4)]) : W p l e R s m args below meth c H locs ce sl Q (F0 m 0 ls []) := by
  have J40 : ∀ (y0 : Int32) (z : Sta) (H : Heap) (locs : List Loc) (ls : Array Slot), wk_S D q cA A s.heap z H locs → lv_has ls 5 [] → pj_P_changeEnd_40 K y0 z → W p l e R s m args below meth c H locs ce sl Q (F0 m 40 ls [.int y0]) := by
    intro y0 z H locs ls hV hl h
    unfold pj_P_changeEnd_40 at h
    exact hret y0 z H locs 40 ls h hV kd_prog_4_method_4_code_40
  unfold wp_P_changeEnd at h
  refine lv_aload_n hx hb kd_prog_4_method_4_code_0 rfl (lv_at hl 0 rfl) ?_
  refine va_get (D := D) (ci := 1) (v := .ref (q 9)) (C := kr_P) (T := kt_P) (N := kn_P) hx hb hts ki_P hown hK hV.1 1 rfl rfl 6 (by decide) (hts _ hw_49) (fun _ h9 => h9) rfl kd_prog_4_method_4_code_1 ?_
  refine lv_iload_n hx hb kd_prog_4_method_4_code_4 rfl (lv_at hl 1 rfl) ?_
  refine lv_iload_n hx hb kd_prog_4_method_4_code_5 rfl (lv_at hl 2 rfl) ?_
  obtain ⟨hin, h⟩ := h
  refine wk_iast hx hb hK hV 9 4 4 rfl rfl (ks_9 q cA z) hin kd_prog_4_method_4_code_6 (fun H locs hV => ?_)
  obtain ⟨z1, ez1⟩ : ∃ x : Sta, x = zA z 4 (upd (z.2.1 4) x1.toNatClampNeg x2) := ⟨_, rfl⟩
  rw [← ez1] at hV
  have h := h z1 ez1
  refine lv_aload_n hx hb kd_prog_4_method_4_code_7 rfl (lv_at hl 0 rfl) ?_
  refine va_get (D := D) (ci := 1) (v := .ref (q 10)) (C := kr_P) (T := kt_P) (N := kn_P) hx hb hts ki_P hown hK hV.1 1 rfl rfl 7 (by decide) (hts _ hw_51) (fun _ h9 => h9) rfl kd_prog_4_method_4_code_8 ?_
  refine lv_iload_n hx hb kd_prog_4_method_4_code_11 rfl (lv_at hl 1 rfl) ?_
  refine lv_iload_n hx hb kd_prog_4_method_4_code_12 rfl (lv_at hl 3 rfl) ?_
  obtain ⟨hin, h⟩ := h
  refine wk_iast hx hb hK hV 10 5 5 rfl rfl (ks_10 q cA z1) hin kd_prog_4_method_4_code_13 (fun H locs hV => ?_)
  obtain ⟨z2, ez2⟩ : ∃ x : Sta, x = zA z1 5 (upd (z1.2.1 5) x1.toNatClampNeg x3) := ⟨_, rfl⟩
  rw [← ez2] at hV
  have h := h z2 ez2
  refine lv_aload_n hx hb kd_prog_4_method_4_code_14 rfl (lv_at hl 0 rfl) ?_
  refine va_get (D := D) (ci := 1) (v := .ref (q 11)) (C := kr_P) (T := kt_P) (N := kn_P) hx hb hts ki_P hown hK hV.1 1 rfl rfl 8 (by decide) (hts _ hw_54) (fun _ h9 => h9) rfl kd_prog_4_method_4_code_15 ?_
  refine lv_iload_n hx hb kd_prog_4_method_4_code_18 rfl (lv_at hl 1 rfl) ?_
  refine lv_iload hx hb kd_prog_4_method_4_code_19 (lv_at hl 4 rfl) ?_
  obtain ⟨hin, h⟩ := h
  refine wk_iast hx hb hK hV 11 6 6 rfl rfl (ks_11 q cA z2) hin kd_prog_4_method_4_code_21 (fun H locs hV => ?_)
  obtain ⟨z3, ez3⟩ : ∃ x : Sta, x = zA z2 6 (upd (z2.2.1 6) x1.toNatClampNeg x4) := ⟨_, rfl⟩
  rw [← ez3] at hV
  have h := h z3 ez3
  refine lv_iload_n hx hb kd_prog_4_method_4_code_22 rfl (lv_at hl 3 rfl) ?_
  refine lv_iconst (v := (-1)) hx hb kd_prog_4_method_4_code_23 (by decide) ?_
  refine lv_icmp_ne (tgt := 29) hx hb kd_prog_4_method_4_code_24 (by decide) (fun hc => ?_) (fun hc => ?_)
  · have h := h.1 hc
    refine lv_iload_n hx hb kd_prog_4_method_4_code_29 rfl (lv_at hl 3 rfl) ?_
    refine lv_iload hx hb kd_prog_4_method_4_code_30 (lv_at hl 4 rfl) ?_
    refine lv_icmp_ne (tgt := 39) hx hb kd_prog_4_method_4_code_32 (by decide) (fun hc => ?_) (fun hc => ?_)
    · have h := h.1 hc
      refine lv_iconst (v := 2) hx hb kd_prog_4_method_4_code_39 (by decide) ?_
      exact J40 2 z3 H locs ls hV (lv_sub hl [] rfl) h
    · have h := h.2 hc
      refine lv_iconst (v := 1) hx hb kd_prog_4_method_4_code_35 (by decide) ?_
      refine lv_goto (tgt := 40) hx hb kd_prog_4_method_4_code_36 (by decide) ?_
      exact J40 1 z3 H locs ls hV (lv_sub hl [] rfl) h
  · have h := h.2 hc
    refine lv_iconst (v := 0) hx hb kd_prog_4_method_4_code_27 (by decide) ?_
    exact hret 0 z3 H locs 28 ls h hV kd_prog_4_method_4_code_28
end
set_option maxHeartbeats 4000000 in
set_option maxRecDepth 100000 in
theorem c_P_changeEnd (l : Launch) (D : va_G) (q : Nat → Nat) (cA : Nat → ClassId) (x1 : Int32) (x2 : Int32) (x3 : Int32) (x4 : Int32) (z : Sta) (sz : Nat) (K : Int32 → Sta → Prop) (h : wp_P_changeEnd x1 x2 x3 x4 z K) : Met l ke_P_changeEnd (kc_P_changeEnd :: lw_g) { frames := 0, cells := 0, slots := 0, locals := 0 } (wk_Pc D q cA [.ref (q 1), .int x1, .int x2, .int x3, .int x4] z sz) (va_Qi K (wk_B D q cA (va_A (wW q cA z) sz)) (va_A (wW q cA z) sz)) 0 0 (va_A (wW q cA z) sz) := by
  refine Met.ofW (cc := prog_4_method_4_code) (maxL := 5) (ret := (some .int)) (by decide) rfl ?_
  intro p e s m args below meth c s₁ B hml hv
  obtain ⟨rfl, hsz, hP, hK, hD0⟩ := hv
  have hx := B.exec
  have hb := B.bytes
  have hr := B.returns
  have hlocks := B.notSynchronized
  have hts0 := atoms_spec (ws := kc_P_changeEnd :: lw_g) B.pre
  have hts : ∀ w ∈ lw_g, w.before ([.ref (q 1), .int x1, .int x2, .int x3, .int x4] : List Value).toArray s = true := fun w hw => hts0 w (List.mem_cons_of_mem _ hw)
  have hown : s.vm.findClass kr_P = some m.cls := findClass_of_methodNamed B.named
  subst hsz
  have hD := hD0.self (sz := s.heap.size)
  generalize hAe : va_A (wW q cA z) s.heap.size = A at hD ⊢
  have hA : ∀ x : Nat, s.heap.size ≤ x → A x := fun x hx => by rw [← hAe]; exact Or.inr hx
  have hl := lv_entry ([.ref (q 1), .int x1, .int x2, .int x3, .int x4]) (n := 5) (Nat.le_of_ble_eq_true rfl)
  rw [lg_entry_eq]
  generalize (lg_sl ([.ref (q 1), .int x1, .int x2, .int x3, .int x4]) ++ List.replicate (5 - (lg_sl ([.ref (q 1), .int x1, .int x2, .int x3, .int x4])).length) Slot.unset).toArray = ls at hl ⊢
  have hl : lv_has ls 5 [(0, .ref (q 1)), (1, .int x1), (2, .int x2), (3, .int x3), (4, .int x4)] := hl
  exact w_P_changeEnd hx hb hml hown hts (Nat.le_refl _) (Nat.le_refl _) (Nat.zero_le _) (Nat.zero_le _) hA hK x1 x2 x3 x4 z K h (fun r u H locs pc ls hk hV hd => W.iret hx hb hr (fun t ht hW => ⟨⟨r, u, rfl, hk, by rw [ht]; exact hV.1, va_K.moved hW.alike hK, hV.2.1⟩, hV.2.2.F ht⟩) hV.2.2.2.2 hd) ⟨hP, hD, va_S.rf⟩ hl
section
variable {p : Program} {l : Launch} {e : Env} {R : Room} {s : State} {m : MethodId} {args : Array Value} {below : List Frame} {meth : Method} {c : Code} {Q : State → Prop} {ce sl : Nat} {D : va_G} {q : Nat → Nat} {cA : Nat → ClassId} {A : Nat → Prop}
set_option maxHeartbeats 4000000 in
set_option maxRecDepth 100000 in
theorem w_P_addBlock (hx : p.tables.exec = Jvm.exec) (hb : c.code = prog_4_method_3_code) (hml : c.maxLocals = 2) (hown : s.vm.findClass kr_P = some m.cls) (hts : ∀ w ∈ lw_g, w.before args s = true) (hRf : 1 ≤ R.frames) (hRl : 24 ≤ R.locals) (hce : ce ≤ R.cells) (hsl : sl ≤ R.slots) (hA : ∀ x, s.heap.size ≤ x → A x) (hK : va_K D wk_cl (tysW cA) s) (z : Sta) (K : Int32 → Sta → Prop) (h : wp_P_addBlock z K) (hret : ∀ (r : Int32) (u : Sta) (H : Heap) (locs : List Loc) (pc : Nat) (ls : Array Slot), K r u → wk_S D q cA A s.heap u H locs → decode prog_4_method_3_code pc = .ok (.ireturn, 1) → W p l e R s m args below meth c H locs ce sl Q (F0 m pc ls [.int r])) {H : Heap} {locs : List Loc} {ls : Array Slot} (hV : wk_S D q cA A s.heap z H locs) (hl : lv_has ls 2 [(0, .ref (q 1))]) : W p l e R s m args below meth c H locs ce sl Q (F0 m 0 ls []) := by
  unfold wp_P_addBlock at h
  refine lv_aload_n hx hb kd_prog_4_method_3_code_0 rfl (lv_at hl 0 rfl) ?_
  refine va_get (D := D) (ci := 1) (v := .int (z.1 2)) (C := kr_P) (T := kt_P) (N := kn_P) hx hb hts ki_P hown hK hV.1 1 rfl rfl 0 (by decide) (hts _ hw_30) (fun _ h9 => h9) rfl kd_prog_4_method_3_code_1 ?_
  refine lv_topi (fun v1 ev1 => ?_)
  have h := h v1 ev1
  refine lv_istore_n hx hb kd_prog_4_method_3_code_4 rfl hl (by decide) rfl (fun ls hl => ?_)
  have hl : lv_has ls 2 [(1, .int v1), (0, .ref (q 1))] := hl
  refine lv_aload_n hx hb kd_prog_4_method_3_code_5 rfl (lv_at hl 1 rfl) ?_
  refine lv_dup hx hb kd_prog_4_method_3_code_6 rfl ?_
  refine va_get (D := D) (ci := 1) (v := .int (z.1 2)) (C := kr_P) (T := kt_P) (N := kn_P) hx hb hts ki_P hown hK hV.1 1 rfl rfl 0 (by decide) (hts _ hw_30) (fun _ h9 => h9) rfl kd_prog_4_method_3_code_7 ?_
  refine lv_topi (fun v2 ev2 => ?_)
  have h := h v2 ev2
  refine lv_iconst (v := 1) hx hb kd_prog_4_method_3_code_10 (by decide) ?_
  refine lv_iadd hx hb kd_prog_4_method_3_code_11 ?_
  refine lv_topi (fun v3 ev3 => ?_)
  have h := h v3 ev3
  refine wk_put (D := D) (ci := 1) (v := .int v3) (ty := .int) (C := kr_P) (T := kt_P) (N := kn_P) (z1 := zI z 2 v3) hx hb hts ki_P ky_P ko_P km_P hown hK hV 1 rfl rfl 0 (by decide) (hts _ hw_30) (fun _ h9 => h9) rfl (by decide +kernel) rfl rfl (Nat.le_of_ble_eq_true rfl) rfl kd_prog_4_method_3_code_12 (fun H locs hV => ?_)
  obtain ⟨z4, ez4⟩ : ∃ x : Sta, x = zI z 2 v3 := ⟨_, rfl⟩
  rw [← ez4] at hV
  have h := h z4 ez4
  refine lv_aload_n hx hb kd_prog_4_method_3_code_15 rfl (lv_at hl 1 rfl) ?_
  refine lv_iload_n hx hb kd_prog_4_method_3_code_16 rfl (lv_at hl 0 rfl) ?_
  refine lv_iconst (v := 0) hx hb kd_prog_4_method_3_code_17 (by decide) ?_
  refine lv_iconst (v := (-1)) hx hb kd_prog_4_method_3_code_18 (by decide) ?_
  refine lv_iconst (v := (-1)) hx hb kd_prog_4_method_3_code_19 (by decide) ?_
  refine wk_calli (va_runV (As := [.int v1, .int (0 : Int32), .int (-1 : Int32), .int (-1 : Int32)]) (rest := []) ⟨hx, hb, hml, hown, hts⟩ (c_P_changeEnd l D q cA v1 0 (-1) (-1) z4 H.size _ h) (cwV 4 hts gs_P_53 rfl rfl rfl (by decide +kernel) ⟨Nat.le_trans (by decide) hRf, Nat.le_trans (by decide) hRl⟩) (wk_preV hK hV 1 1 rfl rfl [.int v1, .int (0 : Int32), .int (-1 : Int32), .int (-1 : Int32)]) rfl rfl hl.1 rfl (lv_room (Nat.le_of_ble_eq_true rfl)) kd_prog_4_method_3_code_20 ⟨hce, hsl⟩) hV hA (fun rz5 z5 H locs h hV => ?_)
  refine lv_pop hx hb kd_prog_4_method_3_code_23 rfl ?_
  refine lv_iload_n hx hb kd_prog_4_method_3_code_24 rfl (lv_at hl 0 rfl) ?_
  exact hret v1 z5 H locs 25 ls h hV kd_prog_4_method_3_code_25
end
set_option maxHeartbeats 4000000 in
set_option maxRecDepth 100000 in
theorem c_P_addBlock (l : Launch) (D : va_G) (q : Nat → Nat) (cA : Nat → ClassId) (z : Sta) (sz : Nat) (K : Int32 → Sta → Prop) (h : wp_P_addBlock z K) : Met l ke_P_addBlock (kc_P_addBlock :: lw_g) { frames := 1, cells := 0, slots := 0, locals := 24 } (wk_Pc D q cA [.ref (q 1)] z sz) (va_Qi K (wk_B D q cA (va_A (wW q cA z) sz)) (va_A (wW q cA z) sz)) 0 0 (va_A (wW q cA z) sz) := by
  refine Met.ofW (cc := prog_4_method_3_code) (maxL := 2) (ret := (some .int)) (by decide) rfl ?_
  intro p e s m args below meth c s₁ B hml hv
  obtain ⟨rfl, hsz, hP, hK, hD0⟩ := hv
  have hx := B.exec
  have hb := B.bytes
  have hr := B.returns
  have hlocks := B.notSynchronized
  have hts0 := atoms_spec (ws := kc_P_addBlock :: lw_g) B.pre
  have hts : ∀ w ∈ lw_g, w.before ([.ref (q 1)] : List Value).toArray s = true := fun w hw => hts0 w (List.mem_cons_of_mem _ hw)
  have hown : s.vm.findClass kr_P = some m.cls := findClass_of_methodNamed B.named
  subst hsz
  have hD := hD0.self (sz := s.heap.size)
  generalize hAe : va_A (wW q cA z) s.heap.size = A at hD ⊢
  have hA : ∀ x : Nat, s.heap.size ≤ x → A x := fun x hx => by rw [← hAe]; exact Or.inr hx
  have hl := lv_entry ([.ref (q 1)]) (n := 2) (Nat.le_of_ble_eq_true rfl)
  rw [lg_entry_eq]
  generalize (lg_sl ([.ref (q 1)]) ++ List.replicate (2 - (lg_sl ([.ref (q 1)])).length) Slot.unset).toArray = ls at hl ⊢
  have hl : lv_has ls 2 [(0, .ref (q 1))] := hl
  exact w_P_addBlock hx hb hml hown hts (Nat.le_refl _) (Nat.le_refl _) (Nat.zero_le _) (Nat.zero_le _) hA hK z K h (fun r u H locs pc ls hk hV hd => W.iret hx hb hr (fun t ht hW => ⟨⟨r, u, rfl, hk, by rw [ht]; exact hV.1, va_K.moved hW.alike hK, hV.2.1⟩, hV.2.2.F ht⟩) hV.2.2.2.2 hd) ⟨hP, hD, va_S.rf⟩ hl
section
variable {p : Program} {l : Launch} {e : Env} {R : Room} {s : State} {m : MethodId} {args : Array Value} {below : List Frame} {meth : Method} {c : Code} {Q : State → Prop} {ce sl : Nat} {D : va_G} {q : Nat → Nat} {cA : Nat → ClassId} {A : Nat → Prop}
set_option maxHeartbeats 4000000 in
set_option maxRecDepth 100000 in
theorem w_P_takesStatement (hx : p.tables.exec = Jvm.exec) (hb : c.code = prog_4_method_5_code) (hml : c.maxLocals = 1) (hown : s.vm.findClass kr_P = some m.cls) (hts : ∀ w ∈ lw_g, w.before args s = true) (hRf : 0 ≤ R.frames) (hRl : 0 ≤ R.locals) (hce : ce ≤ R.cells) (hsl : sl ≤ R.slots) (hA : ∀ x, s.heap.size ≤ x → A x) (hK : va_K D wk_cl (tysW cA) s) (z : Sta) (K : Int32 → Sta → Prop) (h : wp_P_takesStatement z K) (hret : ∀ (r : Int32) (u : Sta) (H : Heap) (locs : List Loc) (pc : Nat) (ls : Array Slot), K r u → (r = 0 ∨ r = 1) → wk_S D q cA A s.heap u H locs → decode prog_4_method_5_code pc = .ok (.ireturn, 1) → W p l e R s m args below meth c H locs ce sl Q (F0 m pc ls [.int r])) {H : Heap} {locs : List Loc} {ls : Array Slot} (hV : wk_S D q cA A s.heap z H locs) (hl : lv_has ls 1 [(0, .ref (q 1))]) : W p l e R s m args below meth c H locs ce sl Q (F0 m 0 ls []) := by
  have J27 : ∀ (y0 : Int32) (z : Sta) (H : Heap) (locs : List Loc) (ls : Array Slot), wk_S D q cA A s.heap z H locs → lv_has ls 1 [] → pj_P_takesStatement_27 K y0 z → W p l e R s m args below meth c H locs ce sl Q (F0 m 27 ls [.int y0]) := by
    intro y0 z H locs ls hV hl h
    unfold pj_P_takesStatement_27 at h
    obtain ⟨hz, h⟩ := h
    exact hret y0 z H locs 27 ls h hz hV kd_prog_4_method_5_code_27
  have J26 : ∀ (z : Sta) (H : Heap) (locs : List Loc) (ls : Array Slot), wk_S D q cA A s.heap z H locs → lv_has ls 1 [] → pj_P_takesStatement_26 K z → W p l e R s m args below meth c H locs ce sl Q (F0 m 26 ls []) := by
    intro z H locs ls hV hl h
    unfold pj_P_takesStatement_26 at h
    refine lv_iconst (v := 0) hx hb kd_prog_4_method_5_code_26 (by decide) ?_
    exact J27 0 z H locs ls hV (lv_sub hl [] rfl) h
  unfold wp_P_takesStatement at h
  refine lv_aload_n hx hb kd_prog_4_method_5_code_0 rfl (lv_at hl 0 rfl) ?_
  refine va_get (D := D) (ci := 1) (v := .int (z.1 2)) (C := kr_P) (T := kt_P) (N := kn_P) hx hb hts ki_P hown hK hV.1 1 rfl rfl 0 (by decide) (hts _ hw_30) (fun _ h9 => h9) rfl kd_prog_4_method_5_code_1 ?_
  refine lv_topi (fun v1 ev1 => ?_)
  have h := h v1 ev1
  refine lv_if_le (tgt := 26) hx hb kd_prog_4_method_5_code_4 (by decide) (fun hc => ?_) (fun hc => ?_)
  · have h := h.1 hc
    exact J26 z H locs ls hV (lv_sub hl [] rfl) h
  · have h := h.2 hc
    refine lv_aload_n hx hb kd_prog_4_method_5_code_7 rfl (lv_at hl 0 rfl) ?_
    refine va_get (D := D) (ci := 1) (v := .ref (q 5)) (C := kr_P) (T := kt_P) (N := kn_P) hx hb hts ki_P hown hK hV.1 1 rfl rfl 2 (by decide) (hts _ hw_37) (fun _ h9 => h9) rfl kd_prog_4_method_5_code_8 ?_
    refine lv_aload_n hx hb kd_prog_4_method_5_code_11 rfl (lv_at hl 0 rfl) ?_
    refine va_get (D := D) (ci := 1) (v := .int (z.1 2)) (C := kr_P) (T := kt_P) (N := kn_P) hx hb hts ki_P hown hK hV.1 1 rfl rfl 0 (by decide) (hts _ hw_30) (fun _ h9 => h9) rfl kd_prog_4_method_5_code_12 ?_
    refine lv_topi (fun v2 ev2 => ?_)
    have h := h v2 ev2
    refine lv_iconst (v := 1) hx hb kd_prog_4_method_5_code_15 (by decide) ?_
    refine lv_isub hx hb kd_prog_4_method_5_code_16 ?_
    refine lv_topi (fun v3 ev3 => ?_)
    have h := h v3 ev3
    obtain ⟨hin, h⟩ := h
    refine va_iald hx hb hK hV.1 5 0 rfl rfl hin kd_prog_4_method_5_code_17 ?_
    refine lv_topi (fun v4 ev4 => ?_)
    have h := h v4 ev4
    refine lv_iconst (v := 5) hx hb kd_prog_4_method_5_code_18 (by decide) ?_
    refine lv_icmp_ge (tgt := 26) hx hb kd_prog_4_method_5_code_19 (by decide) (fun hc => ?_) (fun hc => ?_)
    · have h := h.1 hc
      exact J26 z H locs ls hV (lv_sub hl [] rfl) h
    · have h := h.2 hc
      refine lv_iconst (v := 1) hx hb kd_prog_4_method_5_code_22 (by decide) ?_
      refine lv_goto (tgt := 27) hx hb kd_prog_4_method_5_code_23 (by decide) ?_
      exact J27 1 z H locs ls hV (lv_sub hl [] rfl) h
end
set_option maxHeartbeats 4000000 in
set_option maxRecDepth 100000 in
theorem c_P_takesStatement (l : Launch) (D : va_G) (q : Nat → Nat) (cA : Nat → ClassId) (z : Sta) (sz : Nat) (K : Int32 → Sta → Prop) (h : wp_P_takesStatement z K) : Met l ke_P_takesStatement (kc_P_takesStatement :: lw_g) { frames := 0, cells := 0, slots := 0, locals := 0 } (wk_Pc D q cA [.ref (q 1)] z sz) (va_Qi K (wk_B D q cA (va_A (wW q cA z) sz)) (va_A (wW q cA z) sz)) 0 0 (va_A (wW q cA z) sz) := by
  refine Met.ofW (cc := prog_4_method_5_code) (maxL := 1) (ret := (some .boolean)) (by decide) rfl ?_
  intro p e s m args below meth c s₁ B hml hv
  obtain ⟨rfl, hsz, hP, hK, hD0⟩ := hv
  have hx := B.exec
  have hb := B.bytes
  have hr := B.returns
  have hlocks := B.notSynchronized
  have hts0 := atoms_spec (ws := kc_P_takesStatement :: lw_g) B.pre
  have hts : ∀ w ∈ lw_g, w.before ([.ref (q 1)] : List Value).toArray s = true := fun w hw => hts0 w (List.mem_cons_of_mem _ hw)
  have hown : s.vm.findClass kr_P = some m.cls := findClass_of_methodNamed B.named
  subst hsz
  have hD := hD0.self (sz := s.heap.size)
  generalize hAe : va_A (wW q cA z) s.heap.size = A at hD ⊢
  have hA : ∀ x : Nat, s.heap.size ≤ x → A x := fun x hx => by rw [← hAe]; exact Or.inr hx
  have hl := lv_entry ([.ref (q 1)]) (n := 1) (Nat.le_of_ble_eq_true rfl)
  rw [lg_entry_eq]
  generalize (lg_sl ([.ref (q 1)]) ++ List.replicate (1 - (lg_sl ([.ref (q 1)])).length) Slot.unset).toArray = ls at hl ⊢
  have hl : lv_has ls 1 [(0, .ref (q 1))] := hl
  exact w_P_takesStatement hx hb hml hown hts (Nat.le_refl _) (Nat.le_refl _) (Nat.zero_le _) (Nat.zero_le _) hA hK z K h (fun r u H locs pc ls hk hz hV hd => W.zret (ty := .boolean) hx hb hr (by rcases hz with rfl | rfl <;> rfl) (fun t ht hW => ⟨⟨r, u, rfl, hk, by rw [ht]; exact hV.1, va_K.moved hW.alike hK, hV.2.1⟩, hV.2.2.F ht⟩) hV.2.2.2.2 hd) ⟨hP, hD, va_S.rf⟩ hl
section
variable {p : Program} {l : Launch} {e : Env} {R : Room} {s : State} {m : MethodId} {args : Array Value} {below : List Frame} {meth : Method} {c : Code} {Q : State → Prop} {ce sl : Nat} {D : va_G} {q : Nat → Nat} {cA : Nat → ClassId} {A : Nat → Prop}
set_option maxHeartbeats 4000000 in
set_option maxRecDepth 100000 in
theorem w_P_findExpression (hx : p.tables.exec = Jvm.exec) (hb : c.code = prog_4_method_7_code) (hml : c.maxLocals = 5) (hown : s.vm.findClass kr_P = some m.cls) (hts : ∀ w ∈ lw_g, w.before args s = true) (hRf : 0 ≤ R.frames) (hRl : 0 ≤ R.locals) (hce : ce ≤ R.cells) (hsl : sl ≤ R.slots) (hA : ∀ x, s.heap.size ≤ x → A x) (hK : va_K D wk_cl (tysW cA) s) (x1 : Int32) (x2 : Int32) (x3 : Int32) (z : Sta) (K : Int32 → Sta → Prop) (h : wp_P_findExpression x1 x2 x3 z K) (hret : ∀ (r : Int32) (u : Sta) (H : Heap) (locs : List Loc) (pc : Nat) (ls : Array Slot), K r u → wk_S D q cA A s.heap u H locs → decode prog_4_method_7_code pc = .ok (.ireturn, 1) → W p l e R s m args below meth c H locs ce sl Q (F0 m pc ls [.int r])) {H : Heap} {locs : List Loc} {ls : Array Slot} (hV : wk_S D q cA A s.heap z H locs) (hl : lv_has ls 5 [(0, .ref (q 1)), (1, .int x1), (2, .int x2), (3, .int x3)]) : W p l e R s m args below meth c H locs ce sl Q (F0 m 0 ls []) := by
  have L3 : ∀ (n : Nat) (x1 : Int32) (x2 : Int32) (x3 : Int32) (x4 : Int32) (z : Sta) (H : Heap) (locs : List Loc) (ls : Array Slot), wk_S D q cA A s.heap z H locs → lv_has ls 5 [(0, .ref (q 1)), (1, .int x1), (2, .int x2), (3, .int x3), (4, .int x4)] → lp_P_findExpression_3 K n x1 x2 x3 x4 z → W p l e R s m args below meth c H locs ce sl Q (F0 m 3 ls []) := by
    intro n3
    induction n3 with
    | zero => intro x1 x2 x3 x4 z H locs ls hV hl h; rw [lp_P_findExpression_3] at h; exact h.elim
    | succ n3 ih3 =>
      have J48 : ∀ (x1 : Int32) (x2 : Int32) (x3 : Int32) (x4 : Int32) (z : Sta) (H : Heap) (locs : List Loc) (ls : Array Slot), wk_S D q cA A s.heap z H locs → lv_has ls 5 [(0, .ref (q 1)), (1, .int x1), (2, .int x2), (3, .int x3), (4, .int x4)] → pj_P_findExpression_48 K (fun x1 x2 x3 x4 z => lp_P_findExpression_3 K n3 x1 x2 x3 x4 z) x1 x2 x3 x4 z → W p l e R s m args below meth c H locs ce sl Q (F0 m 48 ls []) := by
        intro x1 x2 x3 x4 z H locs ls hV hl h
        unfold pj_P_findExpression_48 at h
        obtain ⟨v5, ev5⟩ : ∃ v : Int32, v = x4 + 1 := ⟨_, rfl⟩
        have h := h v5 ev5
        refine lv_iinc (v := v5) (k := 4) hx hb kd_prog_4_method_7_code_48 hl rfl (by rw [ev5]; rfl) (by decide) rfl (fun ls hl => ?_)
        have hl : lv_has ls 5 [(4, .int v5), (0, .ref (q 1)), (1, .int x1), (2, .int x2), (3, .int x3)] := hl
        refine lv_goto (tgt := 3) hx hb kd_prog_4_method_7_code_51 (by decide) ?_
        exact ih3 x1 x2 x3 v5 z H locs ls hV (lv_sub hl [1, 2, 3, 4, 0] rfl) h
      intro x1 x2 x3 x4 z H locs ls hV hl h
      rw [lp_P_findExpression_3] at h
      refine lv_iload hx hb kd_prog_4_method_7_code_3 (lv_at hl 4 rfl) ?_
      refine lv_aload_n hx hb kd_prog_4_method_7_code_5 rfl (lv_at hl 0 rfl) ?_
      refine va_get (D := D) (ci := 1) (v := .int (z.1 3)) (C := kr_P) (T := kt_P) (N := kn_P) hx hb hts ki_P hown hK hV.1 1 rfl rfl 1 (by decide) (hts _ hw_33) (fun _ h9 => h9) rfl kd_prog_4_method_7_code_6 ?_
      refine lv_topi (fun v1 ev1 => ?_)
      have h := h v1 ev1
      refine lv_icmp_ge (tgt := 54) hx hb kd_prog_4_method_7_code_9 (by decide) (fun hc => ?_) (fun hc => ?_)
      · have h := h.1 hc
        refine lv_iconst (v := (-1)) hx hb kd_prog_4_method_7_code_54 (by decide) ?_
        exact hret (-1) z H locs 55 ls h hV kd_prog_4_method_7_code_55
      · have h := h.2 hc
        refine lv_aload_n hx hb kd_prog_4_method_7_code_12 rfl (lv_at hl 0 rfl) ?_
        refine va_get (D := D) (ci := 1) (v := .ref (q 12)) (C := kr_P) (T := kt_P) (N := kn_P) hx hb hts ki_P hown hK hV.1 1 rfl rfl 9 (by decide) (hts _ hw_57) (fun _ h9 => h9) rfl kd_prog_4_method_7_code_13 ?_
        refine lv_iload hx hb kd_prog_4_method_7_code_16 (lv_at hl 4 rfl) ?_
        obtain ⟨hin, h⟩ := h
        refine va_iald hx hb hK hV.1 12 7 rfl rfl hin kd_prog_4_method_7_code_18 ?_
        refine lv_topi (fun v2 ev2 => ?_)
        have h := h v2 ev2
        refine lv_iload_n hx hb kd_prog_4_method_7_code_19 rfl (lv_at hl 1 rfl) ?_
        refine lv_icmp_ne (tgt := 48) hx hb kd_prog_4_method_7_code_20 (by decide) (fun hc => ?_) (fun hc => ?_)
        · have h := h.1 hc
          exact J48 x1 x2 x3 x4 z H locs ls hV (lv_sub hl [0, 1, 2, 3, 4] rfl) h
        · have h := h.2 hc
          refine lv_aload_n hx hb kd_prog_4_method_7_code_23 rfl (lv_at hl 0 rfl) ?_
          refine va_get (D := D) (ci := 1) (v := .ref (q 13)) (C := kr_P) (T := kt_P) (N := kn_P) hx hb hts ki_P hown hK hV.1 1 rfl rfl 10 (by decide) (hts _ hw_58) (fun _ h9 => h9) rfl kd_prog_4_method_7_code_24 ?_
          refine lv_iload hx hb kd_prog_4_method_7_code_27 (lv_at hl 4 rfl) ?_
          obtain ⟨hin, h⟩ := h
          refine va_iald hx hb hK hV.1 13 8 rfl rfl hin kd_prog_4_method_7_code_29 ?_
          refine lv_topi (fun v3 ev3 => ?_)
          have h := h v3 ev3
          refine lv_iload_n hx hb kd_prog_4_method_7_code_30 rfl (lv_at hl 2 rfl) ?_
          refine lv_icmp_ne (tgt := 48) hx hb kd_prog_4_method_7_code_31 (by decide) (fun hc => ?_) (fun hc => ?_)
          · have h := h.1 hc
            exact J48 x1 x2 x3 x4 z H locs ls hV (lv_sub hl [0, 1, 2, 3, 4] rfl) h
          · have h := h.2 hc
            refine lv_aload_n hx hb kd_prog_4_method_7_code_34 rfl (lv_at hl 0 rfl) ?_
            refine va_get (D := D) (ci := 1) (v := .ref (q 14)) (C := kr_P) (T := kt_P) (N := kn_P) hx hb hts ki_P hown hK hV.1 1 rfl rfl 11 (by decide) (hts _ hw_59) (fun _ h9 => h9) rfl kd_prog_4_method_7_code_35 ?_
            refine lv_iload hx hb kd_prog_4_method_7_code_38 (lv_at hl 4 rfl) ?_
            obtain ⟨hin, h⟩ := h
            refine va_iald hx hb hK hV.1 14 9 rfl rfl hin kd_prog_4_method_7_code_40 ?_
            refine lv_topi (fun v4 ev4 => ?_)
            have h := h v4 ev4
            refine lv_iload_n hx hb kd_prog_4_method_7_code_41 rfl (lv_at hl 3 rfl) ?_
            refine lv_icmp_ne (tgt := 48) hx hb kd_prog_4_method_7_code_42 (by decide) (fun hc => ?_) (fun hc => ?_)
            · have h := h.1 hc
              exact J48 x1 x2 x3 x4 z H locs ls hV (lv_sub hl [0, 1, 2, 3, 4] rfl) h
            · have h := h.2 hc
              refine lv_iload hx hb kd_prog_4_method_7_code_45 (lv_at hl 4 rfl) ?_
              exact hret x4 z H locs 47 ls h hV kd_prog_4_method_7_code_47
  unfold wp_P_findExpression at h
  refine lv_iconst (v := 0) hx hb kd_prog_4_method_7_code_0 (by decide) ?_
  refine lv_istore hx hb kd_prog_4_method_7_code_1 hl (by decide) rfl (fun ls hl => ?_)
  have hl : lv_has ls 5 [(4, .int 0), (0, .ref (q 1)), (1, .int x1), (2, .int x2), (3, .int x3)] := hl
  obtain ⟨n3, h⟩ := h
  exact L3 n3 x1 x2 x3 0 z H locs ls hV (lv_sub hl [1, 2, 3, 4, 0] rfl) h
end
set_option maxHeartbeats 4000000 in
set_option maxRecDepth 100000 in
theorem c_P_findExpression (l : Launch) (D : va_G) (q : Nat → Nat) (cA : Nat → ClassId) (x1 : Int32) (x2 : Int32) (x3 : Int32) (z : Sta) (sz : Nat) (K : Int32 → Sta → Prop) (h : wp_P_findExpression x1 x2 x3 z K) : Met l ke_P_findExpression (kc_P_findExpression :: lw_g) { frames := 0, cells := 0, slots := 0, locals := 0 } (wk_Pc D q cA [.ref (q 1), .int x1, .int x2, .int x3] z sz) (va_Qi K (wk_B D q cA (va_A (wW q cA z) sz)) (va_A (wW q cA z) sz)) 0 0 (va_A (wW q cA z) sz) := by
  refine Met.ofW (cc := prog_4_method_7_code) (maxL := 5) (ret := (some .int)) (by decide) rfl ?_
  intro p e s m args below meth c s₁ B hml hv
  obtain ⟨rfl, hsz, hP, hK, hD0⟩ := hv
  have hx := B.exec
  have hb := B.bytes
  have hr := B.returns
  have hlocks := B.notSynchronized
  have hts0 := atoms_spec (ws := kc_P_findExpression :: lw_g) B.pre
  have hts : ∀ w ∈ lw_g, w.before ([.ref (q 1), .int x1, .int x2, .int x3] : List Value).toArray s = true := fun w hw => hts0 w (List.mem_cons_of_mem _ hw)
  have hown : s.vm.findClass kr_P = some m.cls := findClass_of_methodNamed B.named
  subst hsz
  have hD := hD0.self (sz := s.heap.size)
  generalize hAe : va_A (wW q cA z) s.heap.size = A at hD ⊢
  have hA : ∀ x : Nat, s.heap.size ≤ x → A x := fun x hx => by rw [← hAe]; exact Or.inr hx
  have hl := lv_entry ([.ref (q 1), .int x1, .int x2, .int x3]) (n := 5) (Nat.le_of_ble_eq_true rfl)
  rw [lg_entry_eq]
  generalize (lg_sl ([.ref (q 1), .int x1, .int x2, .int x3]) ++ List.replicate (5 - (lg_sl ([.ref (q 1), .int x1, .int x2, .int x3])).length) Slot.unset).toArray = ls at hl ⊢
  have hl : lv_has ls 5 [(0, .ref (q 1)), (1, .int x1), (2, .int x2), (3, .int x3)] := hl
  exact w_P_findExpression hx hb hml hown hts (Nat.le_refl _) (Nat.le_refl _) (Nat.zero_le _) (Nat.zero_le _) hA hK x1 x2 x3 z K h (fun r u H locs pc ls hk hV hd => W.iret hx hb hr (fun t ht hW => ⟨⟨r, u, rfl, hk, by rw [ht]; exact hV.1, va_K.moved hW.alike hK, hV.2.1⟩, hV.2.2.F ht⟩) hV.2.2.2.2 hd) ⟨hP, hD, va_S.rf⟩ hl
section
variable {p : Program} {l : Launch} {e : Env} {R : Room} {s : State} {m : MethodId} {args : Array Value} {below : List Frame} {meth : Method} {c : Code} {Q : State → Prop} {ce sl : Nat} {D : va_G} {q : Nat → Nat} {cA : Nat → ClassId} {A : Nat → Prop}
set_option maxHeartbeats 4000000 in
set_option maxRecDepth 100000 in
theorem w_P_findOrAddExpression (hx : p.tables.exec = Jvm.exec) (hb : c.code = prog_4_method_8_code) (hml : c.maxLocals = 5) (hown : s.vm.findClass kr_P = some m.cls) (hts : ∀ w ∈ lw_g, w.before args s = true) (hRf : 1 ≤ R.frames) (hRl : 24 ≤ R.locals) (hce : ce ≤ R.cells) (hsl : sl ≤ R.slots) (hA : ∀ x, s.heap.size ≤ x → A x) (hK : va_K D wk_cl (tysW cA) s) (x1 : Int32) (x2 : Int32) (x3 : Int32) (z : Sta) (K : Int32 → Sta → Prop) (h : wp_P_findOrAddExpression x1 x2 x3 z K) (hret : ∀ (r : Int32) (u : Sta) (H : Heap) (locs : List Loc) (pc : Nat) (ls : Array Slot), K r u → wk_S D q cA A s.heap u H locs → decode prog_4_method_8_code pc = .ok (.ireturn, 1) → W p l e R s m args below meth c H locs ce sl Q (F0 m pc ls [.int r])) {H : Heap} {locs : List Loc} {ls : Array Slot} (hV : wk_S D q cA A s.heap z H locs) (hl : lv_has ls 5 [(0, .ref (q 1)), (1, .int x1), (2, .int x2), (3, .int x3)]) : W p l e R s m args below meth c H locs ce sl Q (F0 m 0 ls []) := by
  have J24 : ∀ (x4 : Int32) (z : Sta) (H : Heap) (locs : List Loc) (ls : Array Slot), wk_S D q cA A s.heap z H locs → lv_has ls 5 [(4, .int x4)] → pj_P_findOrAddExpression_24 K x4 z → W p l e R s m args below meth c H locs ce sl Q (F0 m 24 ls []) := by
    intro x4 z H locs ls hV hl h
    unfold pj_P_findOrAddExpression_24 at h
    refine lv_iload hx hb kd_prog_4_method_8_code_24 (lv_at hl 0 rfl) ?_
    exact hret x4 z H locs 26 ls h hV kd_prog_4_method_8_code_26
  unfold wp_P_findOrAddExpression at h
  refine lv_aload_n hx hb kd_prog_4_method_8_code_0 rfl (lv_at hl 0 rfl) ?_
  refine lv_iload_n hx hb kd_prog_4_method_8_code_1 rfl (lv_at hl 1 rfl) ?_
  refine lv_iload_n hx hb kd_prog_4_method_8_code_2 rfl (lv_at hl 2 rfl) ?_
  refine lv_iload_n hx hb kd_prog_4_method_8_code_3 rfl (lv_at hl 3 rfl) ?_
  refine wk_calli (va_runV (As := [.int x1, .int x2, .int x3]) (rest := []) ⟨hx, hb, hml, hown, hts⟩ (c_P_findExpression l D q cA x1 x2 x3 z H.size _ h) (cwV 3 hts gs_P_57 rfl rfl rfl (by decide +kernel) ⟨Nat.le_trans (by decide) hRf, Nat.le_trans (by decide) hRl⟩) (wk_preV hK hV 1 1 rfl rfl [.int x1, .int x2, .int x3]) rfl rfl hl.1 rfl (lv_room (Nat.le_of_ble_eq_true rfl)) kd_prog_4_method_8_code_4 ⟨hce, hsl⟩) hV hA (fun rz1 z1 H locs h hV => ?_)
  refine lv_istore hx hb kd_prog_4_method_8_code_7 hl (by decide) rfl (fun ls hl => ?_)
  have hl : lv_has ls 5 [(4, .int rz1), (0, .ref (q 1)), (1, .int x1), (2, .int x2), (3, .int x3)] := hl
  refine lv_iload hx hb kd_prog_4_method_8_code_9 (lv_at hl 0 rfl) ?_
  refine lv_iconst (v := (-1)) hx hb kd_prog_4_method_8_code_11 (by decide) ?_
  refine lv_icmp_ne (tgt := 24) hx hb kd_prog_4_method_8_code_12 (by decide) (fun hc => ?_) (fun hc => ?_)
  · have h := h.1 hc
    exact J24 rz1 z1 H locs ls hV (lv_sub hl [0] rfl) h
  · have h := h.2 hc
    refine lv_aload_n hx hb kd_prog_4_method_8_code_15 rfl (lv_at hl 1 rfl) ?_
    refine va_get (D := D) (ci := 1) (v := .int (z1.1 3)) (C := kr_P) (T := kt_P) (N := kn_P) hx hb hts ki_P hown hK hV.1 1 rfl rfl 1 (by decide) (hts _ hw_33) (fun _ h9 => h9) rfl kd_prog_4_method_8_code_16 ?_
    refine lv_topi (fun v2 ev2 => ?_)
    have h := h v2 ev2
    refine lv_bipush (v := 24) hx hb kd_prog_4_method_8_code_19 (by decide) ?_
    refine lv_icmp_lt (tgt := 27) hx hb kd_prog_4_method_8_code_21 (by decide) (fun hc => ?_) (fun hc => ?_)
    · have h := h.1 hc
      refine lv_aload_n hx hb kd_prog_4_method_8_code_27 rfl (lv_at hl 1 rfl) ?_
      refine va_get (D := D) (ci := 1) (v := .int (z1.1 3)) (C := kr_P) (T := kt_P) (N := kn_P) hx hb hts ki_P hown hK hV.1 1 rfl rfl 1 (by decide) (hts _ hw_33) (fun _ h9 => h9) rfl kd_prog_4_method_8_code_28 ?_
      refine lv_topi (fun v3 ev3 => ?_)
      have h := h v3 ev3
      refine lv_istore hx hb kd_prog_4_method_8_code_31 hl (by decide) rfl (fun ls hl => ?_)
      have hl : lv_has ls 5 [(4, .int v3), (0, .ref (q 1)), (1, .int x1), (2, .int x2), (3, .int x3)] := hl
      refine lv_aload_n hx hb kd_prog_4_method_8_code_33 rfl (lv_at hl 1 rfl) ?_
      refine lv_dup hx hb kd_prog_4_method_8_code_34 rfl ?_
      refine va_get (D := D) (ci := 1) (v := .int (z1.1 3)) (C := kr_P) (T := kt_P) (N := kn_P) hx hb hts ki_P hown hK hV.1 1 rfl rfl 1 (by decide) (hts _ hw_33) (fun _ h9 => h9) rfl kd_prog_4_method_8_code_35 ?_
      refine lv_topi (fun v4 ev4 => ?_)
      have h := h v4 ev4
      refine lv_iconst (v := 1) hx hb kd_prog_4_method_8_code_38 (by decide) ?_
      refine lv_iadd hx hb kd_prog_4_method_8_code_39 ?_
      refine lv_topi (fun v5 ev5 => ?_)
      have h := h v5 ev5
      refine wk_put (D := D) (ci := 1) (v := .int v5) (ty := .int) (C := kr_P) (T := kt_P) (N := kn_P) (z1 := zI z1 3 v5) hx hb hts ki_P ky_P ko_P km_P hown hK hV 1 rfl rfl 1 (by decide) (hts _ hw_33) (fun _ h9 => h9) rfl (by decide +kernel) rfl rfl (Nat.le_of_ble_eq_true rfl) rfl kd_prog_4_method_8_code_40 (fun H locs hV => ?_)
      obtain ⟨z6, ez6⟩ : ∃ x : Sta, x = zI z1 3 v5 := ⟨_, rfl⟩
      rw [← ez6] at hV
      have h := h z6 ez6
      refine lv_aload_n hx hb kd_prog_4_method_8_code_43 rfl (lv_at hl 1 rfl) ?_
      refine va_get (D := D) (ci := 1) (v := .ref (q 12)) (C := kr_P) (T := kt_P) (N := kn_P) hx hb hts ki_P hown hK hV.1 1 rfl rfl 9 (by decide) (hts _ hw_57) (fun _ h9 => h9) rfl kd_prog_4_method_8_code_44 ?_
      refine lv_iload hx hb kd_prog_4_method_8_code_47 (lv_at hl 0 rfl) ?_
      refine lv_iload_n hx hb kd_prog_4_method_8_code_49 rfl (lv_at hl 2 rfl) ?_
      obtain ⟨hin, h⟩ := h
      refine wk_iast hx hb hK hV 12 7 7 rfl rfl (ks_12 q cA z6) hin kd_prog_4_method_8_code_50 (fun H locs hV => ?_)
      obtain ⟨z7, ez7⟩ : ∃ x : Sta, x = zA z6 7 (upd (z6.2.1 7) v3.toNatClampNeg x1) := ⟨_, rfl⟩
      rw [← ez7] at hV
      have h := h z7 ez7
      refine lv_aload_n hx hb kd_prog_4_method_8_code_51 rfl (lv_at hl 1 rfl) ?_
      refine va_get (D := D) (ci := 1) (v := .ref (q 13)) (C := kr_P) (T := kt_P) (N := kn_P) hx hb hts ki_P hown hK hV.1 1 rfl rfl 10 (by decide) (hts _ hw_58) (fun _ h9 => h9) rfl kd_prog_4_method_8_code_52 ?_
      refine lv_iload hx hb kd_prog_4_method_8_code_55 (lv_at hl 0 rfl) ?_
      refine lv_iload_n hx hb kd_prog_4_method_8_code_57 rfl (lv_at hl 3 rfl) ?_
      obtain ⟨hin, h⟩ := h
      refine wk_iast hx hb hK hV 13 8 8 rfl rfl (ks_13 q cA z7) hin kd_prog_4_method_8_code_58 (fun H locs hV => ?_)
      obtain ⟨z8, ez8⟩ : ∃ x : Sta, x = zA z7 8 (upd (z7.2.1 8) v3.toNatClampNeg x2) := ⟨_, rfl⟩
      rw [← ez8] at hV
      have h := h z8 ez8
      refine lv_aload_n hx hb kd_prog_4_method_8_code_59 rfl (lv_at hl 1 rfl) ?_
      refine va_get (D := D) (ci := 1) (v := .ref (q 14)) (C := kr_P) (T := kt_P) (N := kn_P) hx hb hts ki_P hown hK hV.1 1 rfl rfl 11 (by decide) (hts _ hw_59) (fun _ h9 => h9) rfl kd_prog_4_method_8_code_60 ?_
      refine lv_iload hx hb kd_prog_4_method_8_code_63 (lv_at hl 0 rfl) ?_
      refine lv_iload_n hx hb kd_prog_4_method_8_code_65 rfl (lv_at hl 4 rfl) ?_
      obtain ⟨hin, h⟩ := h
      refine wk_iast hx hb hK hV 14 9 9 rfl rfl (ks_14 q cA z8) hin kd_prog_4_method_8_code_66 (fun H locs hV => ?_)
      obtain ⟨z9, ez9⟩ : ∃ x : Sta, x = zA z8 9 (upd (z8.2.1 9) v3.toNatClampNeg x3) := ⟨_, rfl⟩
      rw [← ez9] at hV
      have h := h z9 ez9
      refine lv_aload_n hx hb kd_prog_4_method_8_code_67 rfl (lv_at hl 1 rfl) ?_
      refine va_get (D := D) (ci := 1) (v := .ref (q 15)) (C := kr_P) (T := kt_P) (N := kn_P) hx hb hts ki_P hown hK hV.1 1 rfl rfl 12 (by decide) (hts _ hw_60) (fun _ h9 => h9) rfl kd_prog_4_method_8_code_68 ?_
      refine lv_iload_n hx hb kd_prog_4_method_8_code_71 rfl (lv_at hl 2 rfl) ?_
      refine lv_dup2_11 hx hb kd_prog_4_method_8_code_72 rfl rfl ?_
      obtain ⟨hin, h⟩ := h
      refine va_lald hx hb hK hV.1 15 10 rfl rfl hin kd_prog_4_method_8_code_73 ?_
      refine lv_topl (fun v10 ev10 => ?_)
      have h := h v10 ev10
      refine lv_lconst (v := 1) hx hb kd_prog_4_method_8_code_74 (by decide) ?_
      refine lv_iload hx hb kd_prog_4_method_8_code_75 (lv_at hl 0 rfl) ?_
      refine lv_lshl hx hb kd_prog_4_method_8_code_77 rfl ?_
      refine lv_topl (fun v11 ev11 => ?_)
      have h := h v11 ev11
      refine lv_lor hx hb kd_prog_4_method_8_code_78 ?_
      refine lv_topl (fun v12 ev12 => ?_)
      have h := h v12 ev12
      obtain ⟨hin, h⟩ := h
      refine wk_last hx hb hK hV 15 10 0 rfl rfl (ks_15 q cA z9) hin kd_prog_4_method_8_code_79 (fun H locs hV => ?_)
      obtain ⟨z13, ez13⟩ : ∃ x : Sta, x = zL z9 0 (vp_updL (z9.2.2 0) x1.toNatClampNeg v12) := ⟨_, rfl⟩
      rw [← ez13] at hV
      have h := h z13 ez13
      refine lv_aload_n hx hb kd_prog_4_method_8_code_80 rfl (lv_at hl 1 rfl) ?_
      refine va_get (D := D) (ci := 1) (v := .ref (q 15)) (C := kr_P) (T := kt_P) (N := kn_P) hx hb hts ki_P hown hK hV.1 1 rfl rfl 12 (by decide) (hts _ hw_60) (fun _ h9 => h9) rfl kd_prog_4_method_8_code_81 ?_
      refine lv_iload_n hx hb kd_prog_4_method_8_code_84 rfl (lv_at hl 4 rfl) ?_
      refine lv_dup2_11 hx hb kd_prog_4_method_8_code_85 rfl rfl ?_
      obtain ⟨hin, h⟩ := h
      refine va_lald hx hb hK hV.1 15 10 rfl rfl hin kd_prog_4_method_8_code_86 ?_
      refine lv_topl (fun v14 ev14 => ?_)
      have h := h v14 ev14
      refine lv_lconst (v := 1) hx hb kd_prog_4_method_8_code_87 (by decide) ?_
      refine lv_iload hx hb kd_prog_4_method_8_code_88 (lv_at hl 0 rfl) ?_
      refine lv_lshl hx hb kd_prog_4_method_8_code_90 rfl ?_
      refine lv_topl (fun v15 ev15 => ?_)
      have h := h v15 ev15
      refine lv_lor hx hb kd_prog_4_method_8_code_91 ?_
      refine lv_topl (fun v16 ev16 => ?_)
      have h := h v16 ev16
      obtain ⟨hin, h⟩ := h
      refine wk_last hx hb hK hV 15 10 0 rfl rfl (ks_15 q cA z13) hin kd_prog_4_method_8_code_92 (fun H locs hV => ?_)
      obtain ⟨z17, ez17⟩ : ∃ x : Sta, x = zL z13 0 (vp_updL (z13.2.2 0) x3.toNatClampNeg v16) := ⟨_, rfl⟩
      rw [← ez17] at hV
      have h := h z17 ez17
      refine lv_iload hx hb kd_prog_4_method_8_code_93 (lv_at hl 0 rfl) ?_
      exact hret v3 z17 H locs 95 ls h hV kd_prog_4_method_8_code_95
    · have h := h.2 hc
      exact J24 rz1 z1 H locs ls hV (lv_sub hl [0] rfl) h
end
set_option maxHeartbeats 4000000 in
set_option maxRecDepth 100000 in
theorem c_P_findOrAddExpression (l : Launch) (D : va_G) (q : Nat → Nat) (cA : Nat → ClassId) (x1 : Int32) (x2 : Int32) (x3 : Int32) (z : Sta) (sz : Nat) (K : Int32 → Sta → Prop) (h : wp_P_findOrAddExpression x1 x2 x3 z K) : Met l ke_P_findOrAddExpression (kc_P_findOrAddExpression :: lw_g) { frames := 1, cells := 0, slots := 0, locals := 24 } (wk_Pc D q cA [.ref (q 1), .int x1, .int x2, .int x3] z sz) (va_Qi K (wk_B D q cA (va_A (wW q cA z) sz)) (va_A (wW q cA z) sz)) 0 0 (va_A (wW q cA z) sz) := by
  refine Met.ofW (cc := prog_4_method_8_code) (maxL := 5) (ret := (some .int)) (by decide) rfl ?_
  intro p e s m args below meth c s₁ B hml hv
  obtain ⟨rfl, hsz, hP, hK, hD0⟩ := hv
  have hx := B.exec
  have hb := B.bytes
  have hr := B.returns
  have hlocks := B.notSynchronized
  have hts0 := atoms_spec (ws := kc_P_findOrAddExpression :: lw_g) B.pre
  have hts : ∀ w ∈ lw_g, w.before ([.ref (q 1), .int x1, .int x2, .int x3] : List Value).toArray s = true := fun w hw => hts0 w (List.mem_cons_of_mem _ hw)
  have hown : s.vm.findClass kr_P = some m.cls := findClass_of_methodNamed B.named
  subst hsz
  have hD := hD0.self (sz := s.heap.size)
  generalize hAe : va_A (wW q cA z) s.heap.size = A at hD ⊢
  have hA : ∀ x : Nat, s.heap.size ≤ x → A x := fun x hx => by rw [← hAe]; exact Or.inr hx
  have hl := lv_entry ([.ref (q 1), .int x1, .int x2, .int x3]) (n := 5) (Nat.le_of_ble_eq_true rfl)
  rw [lg_entry_eq]
  generalize (lg_sl ([.ref (q 1), .int x1, .int x2, .int x3]) ++ List.replicate (5 - (lg_sl ([.ref (q 1), .int x1, .int x2, .int x3])).length) Slot.unset).toArray = ls at hl ⊢
  have hl : lv_has ls 5 [(0, .ref (q 1)), (1, .int x1), (2, .int x2), (3, .int x3)] := hl
  exact w_P_findOrAddExpression hx hb hml hown hts (Nat.le_refl _) (Nat.le_refl _) (Nat.zero_le _) (Nat.zero_le _) hA hK x1 x2 x3 z K h (fun r u H locs pc ls hk hV hd => W.iret hx hb hr (fun t ht hW => ⟨⟨r, u, rfl, hk, by rw [ht]; exact hV.1, va_K.moved hW.alike hK, hV.2.1⟩, hV.2.2.F ht⟩) hV.2.2.2.2 hd) ⟨hP, hD, va_S.rf⟩ hl
section
variable {p : Program} {l : Launch} {e : Env} {R : Room} {s : State} {m : MethodId} {args : Array Value} {below : List Frame} {meth : Method} {c : Code} {Q : State → Prop} {ce sl : Nat} {D : va_G} {q : Nat → Nat} {cA : Nat → ClassId} {A : Nat → Prop}
set_option maxHeartbeats 4000000 in
set_option maxRecDepth 100000 in
theorem w_P_hasBlock (hx : p.tables.exec = Jvm.exec) (hb : c.code = prog_4_method_2_code) (hml : c.maxLocals = 2) (hown : s.vm.findClass kr_P = some m.cls) (hts : ∀ w ∈ lw_g, w.before args s = true) (hRf : 0 ≤ R.frames) (hRl : 0 ≤ R.locals) (hce : ce ≤ R.cells) (hsl : sl ≤ R.slots) (hA : ∀ x, s.heap.size ≤ x → A x) (hK : va_K D wk_cl (tysW cA) s) (x1 : Int32) (z : Sta) (K : Int32 → Sta → Prop) (h : wp_P_hasBlock x1 z K) (hret : ∀ (r : Int32) (u : Sta) (H : Heap) (locs : List Loc) (pc : Nat) (ls : Array Slot), K r u → (r = 0 ∨ r = 1) → wk_S D q cA A s.heap u H locs → decode prog_4_method_2_code pc = .ok (.ireturn, 1) → W p l e R s m args below meth c H locs ce sl Q (F0 m pc ls [.int r])) {H : Heap} {locs : List Loc} {ls : Array Slot} (hV : wk_S D q cA A s.heap z H locs) (hl : lv_has ls 2 [(0, .ref (q 1)), (1, .int x1)]) : W p l e R s m args below meth c H locs ce sl Q (F0 m 0 ls []) := by
  have J17 : ∀ (y0 : Int32) (z : Sta) (H : Heap) (locs : List Loc) (ls : Array Slot), wk_S D q cA A s.heap z H locs → lv_has ls 2 [] → pj_P_hasBlock_17 K y0 z → W p l e R s m args below meth c H locs ce sl Q (F0 m 17 ls [.int y0]) := by
    intro y0 z H locs ls hV hl h
    unfold pj_P_hasBlock_17 at h
    obtain ⟨hz, h⟩ := h
    exact hret y0 z H locs 17 ls h hz hV kd_prog_4_method_2_code_17
  have J16 : ∀ (z : Sta) (H : Heap) (locs : List Loc) (ls : Array Slot), wk_S D q cA A s.heap z H locs → lv_has ls 2 [] → pj_P_hasBlock_16 K z → W p l e R s m args below meth c H locs ce sl Q (F0 m 16 ls []) := by
    intro z H locs ls hV hl h
    unfold pj_P_hasBlock_16 at h
    refine lv_iconst (v := 0) hx hb kd_prog_4_method_2_code_16 (by decide) ?_
    exact J17 0 z H locs ls hV (lv_sub hl [] rfl) h
  unfold wp_P_hasBlock at h
  refine lv_iload_n hx hb kd_prog_4_method_2_code_0 rfl (lv_at hl 1 rfl) ?_
  refine lv_if_lt (tgt := 16) hx hb kd_prog_4_method_2_code_1 (by decide) (fun hc => ?_) (fun hc => ?_)
  · have h := h.1 hc
    exact J16 z H locs ls hV (lv_sub hl [] rfl) h
  · have h := h.2 hc
    refine lv_iload_n hx hb kd_prog_4_method_2_code_4 rfl (lv_at hl 1 rfl) ?_
    refine lv_aload_n hx hb kd_prog_4_method_2_code_5 rfl (lv_at hl 0 rfl) ?_
    refine va_get (D := D) (ci := 1) (v := .int (z.1 2)) (C := kr_P) (T := kt_P) (N := kn_P) hx hb hts ki_P hown hK hV.1 1 rfl rfl 0 (by decide) (hts _ hw_30) (fun _ h9 => h9) rfl kd_prog_4_method_2_code_6 ?_
    refine lv_topi (fun v1 ev1 => ?_)
    have h := h v1 ev1
    refine lv_icmp_ge (tgt := 16) hx hb kd_prog_4_method_2_code_9 (by decide) (fun hc => ?_) (fun hc => ?_)
    · have h := h.1 hc
      exact J16 z H locs ls hV (lv_sub hl [] rfl) h
    · have h := h.2 hc
      refine lv_iconst (v := 1) hx hb kd_prog_4_method_2_code_12 (by decide) ?_
      refine lv_goto (tgt := 17) hx hb kd_prog_4_method_2_code_13 (by decide) ?_
      exact J17 1 z H locs ls hV (lv_sub hl [] rfl) h
end
set_option maxHeartbeats 4000000 in
set_option maxRecDepth 100000 in
theorem c_P_hasBlock (l : Launch) (D : va_G) (q : Nat → Nat) (cA : Nat → ClassId) (x1 : Int32) (z : Sta) (sz : Nat) (K : Int32 → Sta → Prop) (h : wp_P_hasBlock x1 z K) : Met l ke_P_hasBlock (kc_P_hasBlock :: lw_g) { frames := 0, cells := 0, slots := 0, locals := 0 } (wk_Pc D q cA [.ref (q 1), .int x1] z sz) (va_Qi K (wk_B D q cA (va_A (wW q cA z) sz)) (va_A (wW q cA z) sz)) 0 0 (va_A (wW q cA z) sz) := by
  refine Met.ofW (cc := prog_4_method_2_code) (maxL := 2) (ret := (some .boolean)) (by decide) rfl ?_
  intro p e s m args below meth c s₁ B hml hv
  obtain ⟨rfl, hsz, hP, hK, hD0⟩ := hv
  have hx := B.exec
  have hb := B.bytes
  have hr := B.returns
  have hlocks := B.notSynchronized
  have hts0 := atoms_spec (ws := kc_P_hasBlock :: lw_g) B.pre
  have hts : ∀ w ∈ lw_g, w.before ([.ref (q 1), .int x1] : List Value).toArray s = true := fun w hw => hts0 w (List.mem_cons_of_mem _ hw)
  have hown : s.vm.findClass kr_P = some m.cls := findClass_of_methodNamed B.named
  subst hsz
  have hD := hD0.self (sz := s.heap.size)
  generalize hAe : va_A (wW q cA z) s.heap.size = A at hD ⊢
  have hA : ∀ x : Nat, s.heap.size ≤ x → A x := fun x hx => by rw [← hAe]; exact Or.inr hx
  have hl := lv_entry ([.ref (q 1), .int x1]) (n := 2) (Nat.le_of_ble_eq_true rfl)
  rw [lg_entry_eq]
  generalize (lg_sl ([.ref (q 1), .int x1]) ++ List.replicate (2 - (lg_sl ([.ref (q 1), .int x1])).length) Slot.unset).toArray = ls at hl ⊢
  have hl : lv_has ls 2 [(0, .ref (q 1)), (1, .int x1)] := hl
  exact w_P_hasBlock hx hb hml hown hts (Nat.le_refl _) (Nat.le_refl _) (Nat.zero_le _) (Nat.zero_le _) hA hK x1 z K h (fun r u H locs pc ls hk hz hV hd => W.zret (ty := .boolean) hx hb hr (by rcases hz with rfl | rfl <;> rfl) (fun t ht hW => ⟨⟨r, u, rfl, hk, by rw [ht]; exact hV.1, va_K.moved hW.alike hK, hV.2.1⟩, hV.2.2.F ht⟩) hV.2.2.2.2 hd) ⟨hP, hD, va_S.rf⟩ hl
section
variable {p : Program} {l : Launch} {e : Env} {R : Room} {s : State} {m : MethodId} {args : Array Value} {below : List Frame} {meth : Method} {c : Code} {Q : State → Prop} {ce sl : Nat} {D : va_G} {q : Nat → Nat} {cA : Nat → ClassId} {A : Nat → Prop}
set_option maxHeartbeats 4000000 in
set_option maxRecDepth 100000 in
theorem w_P_isWhole (hx : p.tables.exec = Jvm.exec) (hb : c.code = prog_4_method_9_code) (hml : c.maxLocals = 2) (hown : s.vm.findClass kr_P = some m.cls) (hts : ∀ w ∈ lw_g, w.before args s = true) (hRf : 0 ≤ R.frames) (hRl : 0 ≤ R.locals) (hce : ce ≤ R.cells) (hsl : sl ≤ R.slots) (hA : ∀ x, s.heap.size ≤ x → A x) (hK : va_K D wk_cl (tysW cA) s) (z : Sta) (K : Int32 → Sta → Prop) (h : wp_P_isWhole z K) (hret : ∀ (r : Int32) (u : Sta) (H : Heap) (locs : List Loc) (pc : Nat) (ls : Array Slot), K r u → (r = 0 ∨ r = 1) → wk_S D q cA A s.heap u H locs → decode prog_4_method_9_code pc = .ok (.ireturn, 1) → W p l e R s m args below meth c H locs ce sl Q (F0 m pc ls [.int r])) {H : Heap} {locs : List Loc} {ls : Array Slot} (hV : wk_S D q cA A s.heap z H locs) (hl : lv_has ls 2 [(0, .ref (q 1))]) : W p l e R s m args below meth c H locs ce sl Q (F0 m 0 ls []) := by
  have J36 : ∀ (z : Sta) (H : Heap) (locs : List Loc) (ls : Array Slot), wk_S D q cA A s.heap z H locs → lv_has ls 2 [] → pj_P_isWhole_36 K z → W p l e R s m args below meth c H locs ce sl Q (F0 m 36 ls []) := by
    intro z H locs ls hV hl h
    unfold pj_P_isWhole_36 at h
    refine lv_iconst (v := 0) hx hb kd_prog_4_method_9_code_36 (by decide) ?_
    obtain ⟨hz, h⟩ := h
    exact hret 0 z H locs 37 ls h hz hV kd_prog_4_method_9_code_37
  have L2 : ∀ (n : Nat) (x1 : Int32) (z : Sta) (H : Heap) (locs : List Loc) (ls : Array Slot), wk_S D q cA A s.heap z H locs → lv_has ls 2 [(0, .ref (q 1)), (1, .int x1)] → lp_P_isWhole_2 K n x1 z → W p l e R s m args below meth c H locs ce sl Q (F0 m 2 ls []) := by
    intro n2
    induction n2 with
    | zero => intro x1 z H locs ls hV hl h; rw [lp_P_isWhole_2] at h; exact h.elim
    | succ n2 ih2 =>
      intro x1 z H locs ls hV hl h
      rw [lp_P_isWhole_2] at h
      refine lv_iload_n hx hb kd_prog_4_method_9_code_2 rfl (lv_at hl 1 rfl) ?_
      refine lv_aload_n hx hb kd_prog_4_method_9_code_3 rfl (lv_at hl 0 rfl) ?_
      refine va_get (D := D) (ci := 1) (v := .int (z.1 2)) (C := kr_P) (T := kt_P) (N := kn_P) hx hb hts ki_P hown hK hV.1 1 rfl rfl 0 (by decide) (hts _ hw_30) (fun _ h9 => h9) rfl kd_prog_4_method_9_code_4 ?_
      refine lv_topi (fun v1 ev1 => ?_)
      have h := h v1 ev1
      refine lv_icmp_ge (tgt := 44) hx hb kd_prog_4_method_9_code_7 (by decide) (fun hc => ?_) (fun hc => ?_)
      · have h := h.1 hc
        refine lv_iconst (v := 1) hx hb kd_prog_4_method_9_code_44 (by decide) ?_
        obtain ⟨hz, h⟩ := h
        exact hret 1 z H locs 45 ls h hz hV kd_prog_4_method_9_code_45
      · have h := h.2 hc
        refine lv_aload_n hx hb kd_prog_4_method_9_code_10 rfl (lv_at hl 0 rfl) ?_
        refine va_get (D := D) (ci := 1) (v := .ref (q 10)) (C := kr_P) (T := kt_P) (N := kn_P) hx hb hts ki_P hown hK hV.1 1 rfl rfl 7 (by decide) (hts _ hw_51) (fun _ h9 => h9) rfl kd_prog_4_method_9_code_11 ?_
        refine lv_iload_n hx hb kd_prog_4_method_9_code_14 rfl (lv_at hl 1 rfl) ?_
        obtain ⟨hin, h⟩ := h
        refine va_iald hx hb hK hV.1 10 5 rfl rfl hin kd_prog_4_method_9_code_15 ?_
        refine lv_topi (fun v2 ev2 => ?_)
        have h := h v2 ev2
        refine lv_aload_n hx hb kd_prog_4_method_9_code_16 rfl (lv_at hl 0 rfl) ?_
        refine va_get (D := D) (ci := 1) (v := .int (z.1 2)) (C := kr_P) (T := kt_P) (N := kn_P) hx hb hts ki_P hown hK hV.1 1 rfl rfl 0 (by decide) (hts _ hw_30) (fun _ h9 => h9) rfl kd_prog_4_method_9_code_17 ?_
        refine lv_topi (fun v3 ev3 => ?_)
        have h := h v3 ev3
        refine lv_icmp_ge (tgt := 36) hx hb kd_prog_4_method_9_code_20 (by decide) (fun hc => ?_) (fun hc => ?_)
        · have h := h.1 hc
          exact J36 z H locs ls hV (lv_sub hl [] rfl) h
        · have h := h.2 hc
          refine lv_aload_n hx hb kd_prog_4_method_9_code_23 rfl (lv_at hl 0 rfl) ?_
          refine va_get (D := D) (ci := 1) (v := .ref (q 11)) (C := kr_P) (T := kt_P) (N := kn_P) hx hb hts ki_P hown hK hV.1 1 rfl rfl 8 (by decide) (hts _ hw_54) (fun _ h9 => h9) rfl kd_prog_4_method_9_code_24 ?_
          refine lv_iload_n hx hb kd_prog_4_method_9_code_27 rfl (lv_at hl 1 rfl) ?_
          obtain ⟨hin, h⟩ := h
          refine va_iald hx hb hK hV.1 11 6 rfl rfl hin kd_prog_4_method_9_code_28 ?_
          refine lv_topi (fun v4 ev4 => ?_)
          have h := h v4 ev4
          refine lv_aload_n hx hb kd_prog_4_method_9_code_29 rfl (lv_at hl 0 rfl) ?_
          refine va_get (D := D) (ci := 1) (v := .int (z.1 2)) (C := kr_P) (T := kt_P) (N := kn_P) hx hb hts ki_P hown hK hV.1 1 rfl rfl 0 (by decide) (hts _ hw_30) (fun _ h9 => h9) rfl kd_prog_4_method_9_code_30 ?_
          refine lv_topi (fun v5 ev5 => ?_)
          have h := h v5 ev5
          refine lv_icmp_lt (tgt := 38) hx hb kd_prog_4_method_9_code_33 (by decide) (fun hc => ?_) (fun hc => ?_)
          · have h := h.1 hc
            obtain ⟨v6, ev6⟩ : ∃ v : Int32, v = x1 + 1 := ⟨_, rfl⟩
            have h := h v6 ev6
            refine lv_iinc (v := v6) (k := 1) hx hb kd_prog_4_method_9_code_38 hl rfl (by rw [ev6]; rfl) (by decide) rfl (fun ls hl => ?_)
            have hl : lv_has ls 2 [(1, .int v6), (0, .ref (q 1))] := hl
            refine lv_goto (tgt := 2) hx hb kd_prog_4_method_9_code_41 (by decide) ?_
            exact ih2 v6 z H locs ls hV (lv_sub hl [1, 0] rfl) h
          · have h := h.2 hc
            exact J36 z H locs ls hV (lv_sub hl [] rfl) h
  unfold wp_P_isWhole at h
  refine lv_iconst (v := 0) hx hb kd_prog_4_method_9_code_0 (by decide) ?_
  refine lv_istore_n hx hb kd_prog_4_method_9_code_1 rfl hl (by decide) rfl (fun ls hl => ?_)
  have hl : lv_has ls 2 [(1, .int 0), (0, .ref (q 1))] := hl
  obtain ⟨n2, h⟩ := h
  exact L2 n2 0 z H locs ls hV (lv_sub hl [1, 0] rfl) h
end
set_option maxHeartbeats 4000000 in
set_option maxRecDepth 100000 in
theorem c_P_isWhole (l : Launch) (D : va_G) (q : Nat → Nat) (cA : Nat → ClassId) (z : Sta) (sz : Nat) (K : Int32 → Sta → Prop) (h : wp_P_isWhole z K) : Met l ke_P_isWhole (kc_P_isWhole :: lw_g) { frames := 0, cells := 0, slots := 0, locals := 0 } (wk_Pc D q cA [.ref (q 1)] z sz) (va_Qi K (wk_B D q cA (va_A (wW q cA z) sz)) (va_A (wW q cA z) sz)) 0 0 (va_A (wW q cA z) sz) := by
  refine Met.ofW (cc := prog_4_method_9_code) (maxL := 2) (ret := (some .boolean)) (by decide) rfl ?_
  intro p e s m args below meth c s₁ B hml hv
  obtain ⟨rfl, hsz, hP, hK, hD0⟩ := hv
  have hx := B.exec
  have hb := B.bytes
  have hr := B.returns
  have hlocks := B.notSynchronized
  have hts0 := atoms_spec (ws := kc_P_isWhole :: lw_g) B.pre
  have hts : ∀ w ∈ lw_g, w.before ([.ref (q 1)] : List Value).toArray s = true := fun w hw => hts0 w (List.mem_cons_of_mem _ hw)
  have hown : s.vm.findClass kr_P = some m.cls := findClass_of_methodNamed B.named
  subst hsz
  have hD := hD0.self (sz := s.heap.size)
  generalize hAe : va_A (wW q cA z) s.heap.size = A at hD ⊢
  have hA : ∀ x : Nat, s.heap.size ≤ x → A x := fun x hx => by rw [← hAe]; exact Or.inr hx
  have hl := lv_entry ([.ref (q 1)]) (n := 2) (Nat.le_of_ble_eq_true rfl)
  rw [lg_entry_eq]
  generalize (lg_sl ([.ref (q 1)]) ++ List.replicate (2 - (lg_sl ([.ref (q 1)])).length) Slot.unset).toArray = ls at hl ⊢
  have hl : lv_has ls 2 [(0, .ref (q 1))] := hl
  exact w_P_isWhole hx hb hml hown hts (Nat.le_refl _) (Nat.le_refl _) (Nat.zero_le _) (Nat.zero_le _) hA hK z K h (fun r u H locs pc ls hk hz hV hd => W.zret (ty := .boolean) hx hb hr (by rcases hz with rfl | rfl <;> rfl) (fun t ht hW => ⟨⟨r, u, rfl, hk, by rw [ht]; exact hV.1, va_K.moved hW.alike hK, hV.2.1⟩, hV.2.2.F ht⟩) hV.2.2.2.2 hd) ⟨hP, hD, va_S.rf⟩ hl
section
variable {p : Program} {l : Launch} {e : Env} {R : Room} {s : State} {m : MethodId} {args : Array Value} {below : List Frame} {meth : Method} {c : Code} {Q : State → Prop} {ce sl : Nat} {D : va_G} {q : Nat → Nat} {cA : Nat → ClassId} {A : Nat → Prop}
set_option maxHeartbeats 4000000 in
set_option maxRecDepth 100000 in
theorem w_G_bitCount (hx : p.tables.exec = Jvm.exec) (hb : c.code = prog_11_method_50_code) (hml : c.maxLocals = 2) (hown : s.vm.findClass kr_G = some m.cls) (hts : ∀ w ∈ lw_g, w.before args s = true) (hRf : 0 ≤ R.frames) (hRl : 0 ≤ R.locals) (hce : ce ≤ R.cells) (hsl : sl ≤ R.slots) (hA : ∀ x, s.heap.size ≤ x → A x) (hK : va_K D wk_cl (tysW cA) s) (x0 : Int64) (z : Sta) (K : Int32 → Sta → Prop) (h : wp_G_bitCount x0 z K) (hret : ∀ (r : Int32) (u : Sta) (H : Heap) (locs : List Loc) (pc : Nat) (ls : Array Slot), K r u → wk_S D q cA A s.heap u H locs → decode prog_11_method_50_code pc = .ok (.ireturn, 1) → W p l e R s m args below meth c H locs ce sl Q (F0 m pc ls [.int r])) {H : Heap} {locs : List Loc} {ls : Array Slot} (hV : wk_S D q cA A s.heap z H locs) (hl : lv_has ls 2 [(0, .long x0)]) : W p l e R s m args below meth c H locs ce sl Q (F0 m 0 ls []) := by
  unfold wp_G_bitCount at h
  refine lv_lload_n hx hb kd_prog_11_method_50_code_0 rfl (lv_at hl 0 rfl) ?_
  refine lv_lload_n hx hb kd_prog_11_method_50_code_1 rfl (lv_at hl 0 rfl) ?_
  refine lv_iconst (v := 1) hx hb kd_prog_11_method_50_code_2 (by decide) ?_
  refine lv_lushr hx hb kd_prog_11_method_50_code_3 rfl ?_
  refine lv_topl (fun v1 ev1 => ?_)
  have h := h v1 ev1
  refine lv_ldc2 (v := 6148914691236517205) hx hb hown (hts _ hw_434) kd_prog_11_method_50_code_4 ?_
  refine lv_land hx hb kd_prog_11_method_50_code_7 ?_
  refine lv_topl (fun v2 ev2 => ?_)
  have h := h v2 ev2
  refine lv_lsub hx hb kd_prog_11_method_50_code_8 ?_
  refine lv_topl (fun v3 ev3 => ?_)
  have h := h v3 ev3
  refine lv_lstore_n hx hb kd_prog_11_method_50_code_9 rfl hl (by decide) rfl (fun ls hl => ?_)
  have hl : lv_has ls 2 [(0, .long v3)] := hl
  refine lv_lload_n hx hb kd_prog_11_method_50_code_10 rfl (lv_at hl 0 rfl) ?_
  refine lv_ldc2 (v := 3689348814741910323) hx hb hown (hts _ hw_435) kd_prog_11_method_50_code_11 ?_
  refine lv_land hx hb kd_prog_11_method_50_code_14 ?_
  refine lv_topl (fun v4 ev4 => ?_)
  have h := h v4 ev4
  refine lv_lload_n hx hb kd_prog_11_method_50_code_15 rfl (lv_at hl 0 rfl) ?_
  refine lv_iconst (v := 2) hx hb kd_prog_11_method_50_code_16 (by decide) ?_
  refine lv_lushr hx hb kd_prog_11_method_50_code_17 rfl ?_
  refine lv_topl (fun v5 ev5 => ?_)
  have h := h v5 ev5
  refine lv_ldc2 (v := 3689348814741910323) hx hb hown (hts _ hw_435) kd_prog_11_method_50_code_18 ?_
  refine lv_land hx hb kd_prog_11_method_50_code_21 ?_
  refine lv_topl (fun v6 ev6 => ?_)
  have h := h v6 ev6
  refine lv_ladd hx hb kd_prog_11_method_50_code_22 ?_
  refine lv_topl (fun v7 ev7 => ?_)
  have h := h v7 ev7
  refine lv_lstore_n hx hb kd_prog_11_method_50_code_23 rfl hl (by decide) rfl (fun ls hl => ?_)
  have hl : lv_has ls 2 [(0, .long v7)] := hl
  refine lv_lload_n hx hb kd_prog_11_method_50_code_24 rfl (lv_at hl 0 rfl) ?_
  refine lv_lload_n hx hb kd_prog_11_method_50_code_25 rfl (lv_at hl 0 rfl) ?_
  refine lv_iconst (v := 4) hx hb kd_prog_11_method_50_code_26 (by decide) ?_
  refine lv_lushr hx hb kd_prog_11_method_50_code_27 rfl ?_
  refine lv_topl (fun v8 ev8 => ?_)
  have h := h v8 ev8
  refine lv_ladd hx hb kd_prog_11_method_50_code_28 ?_
  refine lv_topl (fun v9 ev9 => ?_)
  have h := h v9 ev9
  refine lv_ldc2 (v := 1085102592571150095) hx hb hown (hts _ hw_436) kd_prog_11_method_50_code_29 ?_
  refine lv_land hx hb kd_prog_11_method_50_code_32 ?_
  refine lv_topl (fun v10 ev10 => ?_)
  have h := h v10 ev10
  refine lv_lstore_n hx hb kd_prog_11_method_50_code_33 rfl hl (by decide) rfl (fun ls hl => ?_)
  have hl : lv_has ls 2 [(0, .long v10)] := hl
  refine lv_lload_n hx hb kd_prog_11_method_50_code_34 rfl (lv_at hl 0 rfl) ?_
  refine lv_lload_n hx hb kd_prog_11_method_50_code_35 rfl (lv_at hl 0 rfl) ?_
  refine lv_bipush (v := 8) hx hb kd_prog_11_method_50_code_36 (by decide) ?_
  refine lv_lushr hx hb kd_prog_11_method_50_code_38 rfl ?_
  refine lv_topl (fun v11 ev11 => ?_)
  have h := h v11 ev11
  refine lv_ladd hx hb kd_prog_11_method_50_code_39 ?_
  refine lv_topl (fun v12 ev12 => ?_)
  have h := h v12 ev12
  refine lv_lstore_n hx hb kd_prog_11_method_50_code_40 rfl hl (by decide) rfl (fun ls hl => ?_)
  have hl : lv_has ls 2 [(0, .long v12)] := hl
  refine lv_lload_n hx hb kd_prog_11_method_50_code_41 rfl (lv_at hl 0 rfl) ?_
  refine lv_lload_n hx hb kd_prog_11_method_50_code_42 rfl (lv_at hl 0 rfl) ?_
  refine lv_bipush (v := 16) hx hb kd_prog_11_method_50_code_43 (by decide) ?_
  refine lv_lushr hx hb kd_prog_11_method_50_code_45 rfl ?_
  refine lv_topl (fun v13 ev13 => ?_)
  have h := h v13 ev13
  refine lv_ladd hx hb kd_prog_11_method_50_code_46 ?_
  refine lv_topl (fun v14 ev14 => ?_)
  have h := h v14 ev14
  refine lv_lstore_n hx hb kd_prog_11_method_50_code_47 rfl hl (by decide) rfl (fun ls hl => ?_)
  have hl : lv_has ls 2 [(0, .long v14)] := hl
  refine lv_lload_n hx hb kd_prog_11_method_50_code_48 rfl (lv_at hl 0 rfl) ?_
  refine lv_lload_n hx hb kd_prog_11_method_50_code_49 rfl (lv_at hl 0 rfl) ?_
  refine lv_bipush (v := 32) hx hb kd_prog_11_method_50_code_50 (by decide) ?_
  refine lv_lushr hx hb kd_prog_11_method_50_code_52 rfl ?_
  refine lv_topl (fun v15 ev15 => ?_)
  have h := h v15 ev15
  refine lv_ladd hx hb kd_prog_11_method_50_code_53 ?_
  refine lv_topl (fun v16 ev16 => ?_)
  have h := h v16 ev16
  refine lv_lstore_n hx hb kd_prog_11_method_50_code_54 rfl hl (by decide) rfl (fun ls hl => ?_)
  have hl : lv_has ls 2 [(0, .long v16)] := hl
  refine lv_lload_n hx hb kd_prog_11_method_50_code_55 rfl (lv_at hl 0 rfl) ?_
  refine lv_l2i hx hb kd_prog_11_method_50_code_56 rfl ?_
  refine lv_topi (fun v17 ev17 => ?_)
  have h := h v17 ev17
  refine lv_bipush (v := 127) hx hb kd_prog_11_method_50_code_57 (by decide) ?_
  refine lv_iand hx hb kd_prog_11_method_50_code_59 ?_
  refine lv_topi (fun v18 ev18 => ?_)
  have h := h v18 ev18
  exact hret v18 z H locs 60 ls h hV kd_prog_11_method_50_code_60
end
set_option maxHeartbeats 4000000 in
set_option maxRecDepth 100000 in
theorem c_G_bitCount (l : Launch) (D : va_G) (q : Nat → Nat) (cA : Nat → ClassId) (x0 : Int64) (z : Sta) (sz : Nat) (K : Int32 → Sta → Prop) (h : wp_G_bitCount x0 z K) : Met l ke_G_bitCount (kc_G_bitCount :: lw_g) { frames := 0, cells := 0, slots := 0, locals := 0 } (wk_Pc D q cA [.long x0] z sz) (va_Qi K (wk_B D q cA (va_A (wW q cA z) sz)) (va_A (wW q cA z) sz)) 0 0 (va_A (wW q cA z) sz) := by
  refine Met.ofW (cc := prog_11_method_50_code) (maxL := 2) (ret := (some .int)) (by decide) rfl ?_
  intro p e s m args below meth c s₁ B hml hv
  obtain ⟨rfl, hsz, hP, hK, hD0⟩ := hv
  have hx := B.exec
  have hb := B.bytes
  have hr := B.returns
  have hlocks := B.notSynchronized
  have hts0 := atoms_spec (ws := kc_G_bitCount :: lw_g) B.pre
  have hts : ∀ w ∈ lw_g, w.before ([.long x0] : List Value).toArray s = true := fun w hw => hts0 w (List.mem_cons_of_mem _ hw)
  have hown : s.vm.findClass kr_G = some m.cls := findClass_of_methodNamed B.named
  subst hsz
  have hD := hD0.self (sz := s.heap.size)
  generalize hAe : va_A (wW q cA z) s.heap.size = A at hD ⊢
  have hA : ∀ x : Nat, s.heap.size ≤ x → A x := fun x hx => by rw [← hAe]; exact Or.inr hx
  have hl := lv_entry ([.long x0]) (n := 2) (Nat.le_of_ble_eq_true rfl)
  rw [lg_entry_eq]
  generalize (lg_sl ([.long x0]) ++ List.replicate (2 - (lg_sl ([.long x0])).length) Slot.unset).toArray = ls at hl ⊢
  have hl : lv_has ls 2 [(0, .long x0)] := hl
  exact w_G_bitCount hx hb hml hown hts (Nat.le_refl _) (Nat.le_refl _) (Nat.zero_le _) (Nat.zero_le _) hA hK x0 z K h (fun r u H locs pc ls hk hV hd => W.iret hx hb hr (fun t ht hW => ⟨⟨r, u, rfl, hk, by rw [ht]; exact hV.1, va_K.moved hW.alike hK, hV.2.1⟩, hV.2.2.F ht⟩) hV.2.2.2.2 hd) ⟨hP, hD, va_S.rf⟩ hl
section
variable {p : Program} {l : Launch} {e : Env} {R : Room} {s : State} {m : MethodId} {args : Array Value} {below : List Frame} {meth : Method} {c : Code} {Q : State → Prop} {ce sl : Nat} {D : va_G} {q : Nat → Nat} {cA : Nat → ClassId} {A : Nat → Prop}
set_option maxHeartbeats 4000000 in
set_option maxRecDepth 100000 in
theorem w_A_fill_26 (hx : p.tables.exec = Jvm.exec) (hb : c.code = prog_16_method_103_code) (hml : c.maxLocals = 4) (hown : s.vm.findClass kr_A = some m.cls) (hts : ∀ w ∈ lw_g, w.before args s = true) (hRf : 0 ≤ R.frames) (hRl : 0 ≤ R.locals) (hce : ce ≤ R.cells) (hsl : sl ≤ R.slots) (hA : ∀ x, s.heap.size ≤ x → A x) (hK : va_K D wk_cl (tysW cA) s) (x1 : Int32) (z : Sta) (K : Sta → Prop) (h : wp_A_fill_26 x1 z K) (hret : ∀ (u : Sta) (H : Heap) (locs : List Loc) (pc : Nat) (ls : Array Slot), K u → wk_S D q cA A s.heap u H locs → decode prog_16_method_103_code pc = .ok (.return_, 1) → W p l e R s m args below meth c H locs ce sl Q (F0 m pc ls [])) {H : Heap} {locs : List Loc} {ls : Array Slot} (hV : wk_S D q cA A s.heap z H locs) (hl : lv_has ls 4 [(0, .ref (q 26)), (1, .int x1)]) : W p l e R s m args below meth c H locs ce sl Q (F0 m 0 ls []) := by
  have L5 : ∀ (n : Nat) (x1 : Int32) (x2 : Int32) (x3 : Int32) (z : Sta) (H : Heap) (locs : List Loc) (ls : Array Slot), wk_S D q cA A s.heap z H locs → lv_has ls 4 [(0, .ref (q 26)), (1, .int x1), (2, .int x2), (3, .int x3)] → lp_A_fill_26_5 K n x1 x2 x3 z → W p l e R s m args below meth c H locs ce sl Q (F0 m 5 ls []) := by
    intro n5
    induction n5 with
    | zero => intro x1 x2 x3 z H locs ls hV hl h; rw [lp_A_fill_26_5] at h; exact h.elim
    | succ n5 ih5 =>
      intro x1 x2 x3 z H locs ls hV hl h
      rw [lp_A_fill_26_5] at h
      refine lv_iload_n hx hb kd_prog_16_method_103_code_5 rfl (lv_at hl 2 rfl) ?_
      refine lv_iload_n hx hb kd_prog_16_method_103_code_6 rfl (lv_at hl 3 rfl) ?_
      refine lv_icmp_ge (tgt := 20) hx hb kd_prog_16_method_103_code_7 (by decide) (fun hc => ?_) (fun hc => ?_)
      · have h := h.1 hc
        exact hret z H locs 20 ls h hV kd_prog_16_method_103_code_20
      · have h := h.2 hc
        refine lv_aload_n hx hb kd_prog_16_method_103_code_10 rfl (lv_at hl 0 rfl) ?_
        refine lv_iload_n hx hb kd_prog_16_method_103_code_11 rfl (lv_at hl 2 rfl) ?_
        refine lv_iload_n hx hb kd_prog_16_method_103_code_12 rfl (lv_at hl 1 rfl) ?_
        obtain ⟨hin, h⟩ := h
        refine wk_iast hx hb hK hV 26 21 11 rfl rfl (ks_26 q cA z) hin kd_prog_16_method_103_code_13 (fun H locs hV => ?_)
        obtain ⟨z2, ez2⟩ : ∃ x : Sta, x = zA z 11 (upd (z.2.1 11) x2.toNatClampNeg x1) := ⟨_, rfl⟩
        rw [← ez2] at hV
        have h := h z2 ez2
        obtain ⟨v3, ev3⟩ : ∃ v : Int32, v = x2 + 1 := ⟨_, rfl⟩
        have h := h v3 ev3
        refine lv_iinc (v := v3) (k := 2) hx hb kd_prog_16_method_103_code_14 hl rfl (by rw [ev3]; rfl) (by decide) rfl (fun ls hl => ?_)
        have hl : lv_has ls 4 [(2, .int v3), (0, .ref (q 26)), (1, .int x1), (3, .int x3)] := hl
        refine lv_goto (tgt := 5) hx hb kd_prog_16_method_103_code_17 (by decide) ?_
        exact ih5 x1 v3 x3 z2 H locs ls hV (lv_sub hl [1, 2, 0, 3] rfl) h
  unfold wp_A_fill_26 at h
  refine lv_iconst (v := 0) hx hb kd_prog_16_method_103_code_0 (by decide) ?_
  refine lv_istore_n hx hb kd_prog_16_method_103_code_1 rfl hl (by decide) rfl (fun ls hl => ?_)
  have hl : lv_has ls 4 [(2, .int 0), (0, .ref (q 26)), (1, .int x1)] := hl
  refine lv_aload_n hx hb kd_prog_16_method_103_code_2 rfl (lv_at hl 1 rfl) ?_
  refine va_alen hx hb hK hV.1 26 21 rfl rfl rfl kd_prog_16_method_103_code_3 ?_
  refine lv_topi (fun v1 ev1 => ?_)
  have h := h v1 ev1
  refine lv_istore_n hx hb kd_prog_16_method_103_code_4 rfl hl (by decide) rfl (fun ls hl => ?_)
  have hl : lv_has ls 4 [(3, .int v1), (2, .int 0), (0, .ref (q 26)), (1, .int x1)] := hl
  obtain ⟨n5, h⟩ := h
  exact L5 n5 x1 0 v1 z H locs ls hV (lv_sub hl [2, 3, 1, 0] rfl) h
end
set_option maxHeartbeats 4000000 in
set_option maxRecDepth 100000 in
theorem c_A_fill_26 (l : Launch) (D : va_G) (q : Nat → Nat) (cA : Nat → ClassId) (x1 : Int32) (z : Sta) (sz : Nat) (K : Sta → Prop) (h : wp_A_fill_26 x1 z K) : Met l ke_A_fill (kc_A_fill :: lw_g) { frames := 0, cells := 0, slots := 0, locals := 0 } (wk_Pc D q cA [.ref (q 26), .int x1] z sz) (va_Qv K (wk_B D q cA (va_A (wW q cA z) sz)) (va_A (wW q cA z) sz)) 0 0 (va_A (wW q cA z) sz) := by
  refine Met.ofW (cc := prog_16_method_103_code) (maxL := 4) (ret := none) (by decide) rfl ?_
  intro p e s m args below meth c s₁ B hml hv
  obtain ⟨rfl, hsz, hP, hK, hD0⟩ := hv
  have hx := B.exec
  have hb := B.bytes
  have hr := B.returns
  have hlocks := B.notSynchronized
  have hts0 := atoms_spec (ws := kc_A_fill :: lw_g) B.pre
  have hts : ∀ w ∈ lw_g, w.before ([.ref (q 26), .int x1] : List Value).toArray s = true := fun w hw => hts0 w (List.mem_cons_of_mem _ hw)
  have hown : s.vm.findClass kr_A = some m.cls := findClass_of_methodNamed B.named
  subst hsz
  have hD := hD0.self (sz := s.heap.size)
  generalize hAe : va_A (wW q cA z) s.heap.size = A at hD ⊢
  have hA : ∀ x : Nat, s.heap.size ≤ x → A x := fun x hx => by rw [← hAe]; exact Or.inr hx
  have hl := lv_entry ([.ref (q 26), .int x1]) (n := 4) (Nat.le_of_ble_eq_true rfl)
  rw [lg_entry_eq]
  generalize (lg_sl ([.ref (q 26), .int x1]) ++ List.replicate (4 - (lg_sl ([.ref (q 26), .int x1])).length) Slot.unset).toArray = ls at hl ⊢
  have hl : lv_has ls 4 [(0, .ref (q 26)), (1, .int x1)] := hl
  exact w_A_fill_26 hx hb hml hown hts (Nat.le_refl _) (Nat.le_refl _) (Nat.zero_le _) (Nat.zero_le _) hA hK x1 z K h (fun u H locs pc ls hk hV hd => W.vret hx hb hr (fun t ht hW => ⟨⟨u, rfl, hk, by rw [ht]; exact hV.1, va_K.moved hW.alike hK, hV.2.1⟩, hV.2.2.F ht⟩) hV.2.2.2.2 hd) ⟨hP, hD, va_S.rf⟩ hl
section
variable {p : Program} {l : Launch} {e : Env} {R : Room} {s : State} {m : MethodId} {args : Array Value} {below : List Frame} {meth : Method} {c : Code} {Q : State → Prop} {ce sl : Nat} {D : va_G} {q : Nat → Nat} {cA : Nat → ClassId} {A : Nat → Prop}
set_option maxHeartbeats 4000000 in
set_option maxRecDepth 100000 in
theorem w_A_fill_27 (hx : p.tables.exec = Jvm.exec) (hb : c.code = prog_16_method_103_code) (hml : c.maxLocals = 4) (hown : s.vm.findClass kr_A = some m.cls) (hts : ∀ w ∈ lw_g, w.before args s = true) (hRf : 0 ≤ R.frames) (hRl : 0 ≤ R.locals) (hce : ce ≤ R.cells) (hsl : sl ≤ R.slots) (hA : ∀ x, s.heap.size ≤ x → A x) (hK : va_K D wk_cl (tysW cA) s) (x1 : Int32) (z : Sta) (K : Sta → Prop) (h : wp_A_fill_27 x1 z K) (hret : ∀ (u : Sta) (H : Heap) (locs : List Loc) (pc : Nat) (ls : Array Slot), K u → wk_S D q cA A s.heap u H locs → decode prog_16_method_103_code pc = .ok (.return_, 1) → W p l e R s m args below meth c H locs ce sl Q (F0 m pc ls [])) {H : Heap} {locs : List Loc} {ls : Array Slot} (hV : wk_S D q cA A s.heap z H locs) (hl : lv_has ls 4 [(0, .ref (q 27)), (1, .int x1)]) : W p l e R s m args below meth c H locs ce sl Q (F0 m 0 ls []) := by
  have L5 : ∀ (n : Nat) (x1 : Int32) (x2 : Int32) (x3 : Int32) (z : Sta) (H : Heap) (locs : List Loc) (ls : Array Slot), wk_S D q cA A s.heap z H locs → lv_has ls 4 [(0, .ref (q 27)), (1, .int x1), (2, .int x2), (3, .int x3)] → lp_A_fill_27_5 K n x1 x2 x3 z → W p l e R s m args below meth c H locs ce sl Q (F0 m 5 ls []) := by
    intro n5
    induction n5 with
    | zero => intro x1 x2 x3 z H locs ls hV hl h; rw [lp_A_fill_27_5] at h; exact h.elim
    | succ n5 ih5 =>
      intro x1 x2 x3 z H locs ls hV hl h
      rw [lp_A_fill_27_5] at h
      refine lv_iload_n hx hb kd_prog_16_method_103_code_5 rfl (lv_at hl 2 rfl) ?_
      refine lv_iload_n hx hb kd_prog_16_method_103_code_6 rfl (lv_at hl 3 rfl) ?_
      refine lv_icmp_ge (tgt := 20) hx hb kd_prog_16_method_103_code_7 (by decide) (fun hc => ?_) (fun hc => ?_)
      · have h := h.1 hc
        exact hret z H locs 20 ls h hV kd_prog_16_method_103_code_20
      · have h := h.2 hc
        refine lv_aload_n hx hb kd_prog_16_method_103_code_10 rfl (lv_at hl 0 rfl) ?_
        refine lv_iload_n hx hb kd_prog_16_method_103_code_11 rfl (lv_at hl 2 rfl) ?_
        refine lv_iload_n hx hb kd_prog_16_method_103_code_12 rfl (lv_at hl 1 rfl) ?_
        obtain ⟨hin, h⟩ := h
        refine wk_iast hx hb hK hV 27 22 12 rfl rfl (ks_27 q cA z) hin kd_prog_16_method_103_code_13 (fun H locs hV => ?_)
        obtain ⟨z2, ez2⟩ : ∃ x : Sta, x = zA z 12 (upd (z.2.1 12) x2.toNatClampNeg x1) := ⟨_, rfl⟩
        rw [← ez2] at hV
        have h := h z2 ez2
        obtain ⟨v3, ev3⟩ : ∃ v : Int32, v = x2 + 1 := ⟨_, rfl⟩
        have h := h v3 ev3
        refine lv_iinc (v := v3) (k := 2) hx hb kd_prog_16_method_103_code_14 hl rfl (by rw [ev3]; rfl) (by decide) rfl (fun ls hl => ?_)
        have hl : lv_has ls 4 [(2, .int v3), (0, .ref (q 27)), (1, .int x1), (3, .int x3)] := hl
        refine lv_goto (tgt := 5) hx hb kd_prog_16_method_103_code_17 (by decide) ?_
        exact ih5 x1 v3 x3 z2 H locs ls hV (lv_sub hl [1, 2, 0, 3] rfl) h
  unfold wp_A_fill_27 at h
  refine lv_iconst (v := 0) hx hb kd_prog_16_method_103_code_0 (by decide) ?_
  refine lv_istore_n hx hb kd_prog_16_method_103_code_1 rfl hl (by decide) rfl (fun ls hl => ?_)
  have hl : lv_has ls 4 [(2, .int 0), (0, .ref (q 27)), (1, .int x1)] := hl
  refine lv_aload_n hx hb kd_prog_16_method_103_code_2 rfl (lv_at hl 1 rfl) ?_
  refine va_alen hx hb hK hV.1 27 22 rfl rfl rfl kd_prog_16_method_103_code_3 ?_
  refine lv_topi (fun v1 ev1 => ?_)
  have h := h v1 ev1
  refine lv_istore_n hx hb kd_prog_16_method_103_code_4 rfl hl (by decide) rfl (fun ls hl => ?_)
  have hl : lv_has ls 4 [(3, .int v1), (2, .int 0), (0, .ref (q 27)), (1, .int x1)] := hl
  obtain ⟨n5, h⟩ := h
  exact L5 n5 x1 0 v1 z H locs ls hV (lv_sub hl [2, 3, 1, 0] rfl) h
end
set_option maxHeartbeats 4000000 in
set_option maxRecDepth 100000 in
theorem c_A_fill_27 (l : Launch) (D : va_G) (q : Nat → Nat) (cA : Nat → ClassId) (x1 : Int32) (z : Sta) (sz : Nat) (K : Sta → Prop) (h : wp_A_fill_27 x1 z K) : Met l ke_A_fill (kc_A_fill :: lw_g) { frames := 0, cells := 0, slots := 0, locals := 0 } (wk_Pc D q cA [.ref (q 27), .int x1] z sz) (va_Qv K (wk_B D q cA (va_A (wW q cA z) sz)) (va_A (wW q cA z) sz)) 0 0 (va_A (wW q cA z) sz) := by
  refine Met.ofW (cc := prog_16_method_103_code) (maxL := 4) (ret := none) (by decide) rfl ?_
  intro p e s m args below meth c s₁ B hml hv
  obtain ⟨rfl, hsz, hP, hK, hD0⟩ := hv
  have hx := B.exec
  have hb := B.bytes
  have hr := B.returns
  have hlocks := B.notSynchronized
  have hts0 := atoms_spec (ws := kc_A_fill :: lw_g) B.pre
  have hts : ∀ w ∈ lw_g, w.before ([.ref (q 27), .int x1] : List Value).toArray s = true := fun w hw => hts0 w (List.mem_cons_of_mem _ hw)
  have hown : s.vm.findClass kr_A = some m.cls := findClass_of_methodNamed B.named
  subst hsz
  have hD := hD0.self (sz := s.heap.size)
  generalize hAe : va_A (wW q cA z) s.heap.size = A at hD ⊢
  have hA : ∀ x : Nat, s.heap.size ≤ x → A x := fun x hx => by rw [← hAe]; exact Or.inr hx
  have hl := lv_entry ([.ref (q 27), .int x1]) (n := 4) (Nat.le_of_ble_eq_true rfl)
  rw [lg_entry_eq]
  generalize (lg_sl ([.ref (q 27), .int x1]) ++ List.replicate (4 - (lg_sl ([.ref (q 27), .int x1])).length) Slot.unset).toArray = ls at hl ⊢
  have hl : lv_has ls 4 [(0, .ref (q 27)), (1, .int x1)] := hl
  exact w_A_fill_27 hx hb hml hown hts (Nat.le_refl _) (Nat.le_refl _) (Nat.zero_le _) (Nat.zero_le _) hA hK x1 z K h (fun u H locs pc ls hk hV hd => W.vret hx hb hr (fun t ht hW => ⟨⟨u, rfl, hk, by rw [ht]; exact hV.1, va_K.moved hW.alike hK, hV.2.1⟩, hV.2.2.F ht⟩) hV.2.2.2.2 hd) ⟨hP, hD, va_S.rf⟩ hl
section
variable {p : Program} {l : Launch} {e : Env} {R : Room} {s : State} {m : MethodId} {args : Array Value} {below : List Frame} {meth : Method} {c : Code} {Q : State → Prop} {ce sl : Nat} {D : va_G} {q : Nat → Nat} {cA : Nat → ClassId} {A : Nat → Prop}
set_option maxHeartbeats 4000000 in
set_option maxRecDepth 100000 in
theorem w_A_fill_29 (hx : p.tables.exec = Jvm.exec) (hb : c.code = prog_16_method_103_code) (hml : c.maxLocals = 4) (hown : s.vm.findClass kr_A = some m.cls) (hts : ∀ w ∈ lw_g, w.before args s = true) (hRf : 0 ≤ R.frames) (hRl : 0 ≤ R.locals) (hce : ce ≤ R.cells) (hsl : sl ≤ R.slots) (hA : ∀ x, s.heap.size ≤ x → A x) (hK : va_K D wk_cl (tysW cA) s) (x1 : Int32) (z : Sta) (K : Sta → Prop) (h : wp_A_fill_29 x1 z K) (hret : ∀ (u : Sta) (H : Heap) (locs : List Loc) (pc : Nat) (ls : Array Slot), K u → wk_S D q cA A s.heap u H locs → decode prog_16_method_103_code pc = .ok (.return_, 1) → W p l e R s m args below meth c H locs ce sl Q (F0 m pc ls [])) {H : Heap} {locs : List Loc} {ls : Array Slot} (hV : wk_S D q cA A s.heap z H locs) (hl : lv_has ls 4 [(0, .ref (q 29)), (1, .int x1)]) : W p l e R s m args below meth c H locs ce sl Q (F0 m 0 ls []) := by
  have L5 : ∀ (n : Nat) (x1 : Int32) (x2 : Int32) (x3 : Int32) (z : Sta) (H : Heap) (locs : List Loc) (ls : Array Slot), wk_S D q cA A s.heap z H locs → lv_has ls 4 [(0, .ref (q 29)), (1, .int x1), (2, .int x2), (3, .int x3)] → lp_A_fill_29_5 K n x1 x2 x3 z → W p l e R s m args below meth c H locs ce sl Q (F0 m 5 ls []) := by
    intro n5
    induction n5 with
    | zero => intro x1 x2 x3 z H locs ls hV hl h; rw [lp_A_fill_29_5] at h; exact h.elim
    | succ n5 ih5 =>
      intro x1 x2 x3 z H locs ls hV hl h
      rw [lp_A_fill_29_5] at h
      refine lv_iload_n hx hb kd_prog_16_method_103_code_5 rfl (lv_at hl 2 rfl) ?_
      refine lv_iload_n hx hb kd_prog_16_method_103_code_6 rfl (lv_at hl 3 rfl) ?_
      refine lv_icmp_ge (tgt := 20) hx hb kd_prog_16_method_103_code_7 (by decide) (fun hc => ?_) (fun hc => ?_)
      · have h := h.1 hc
        exact hret z H locs 20 ls h hV kd_prog_16_method_103_code_20
      · have h := h.2 hc
        refine lv_aload_n hx hb kd_prog_16_method_103_code_10 rfl (lv_at hl 0 rfl) ?_
        refine lv_iload_n hx hb kd_prog_16_method_103_code_11 rfl (lv_at hl 2 rfl) ?_
        refine lv_iload_n hx hb kd_prog_16_method_103_code_12 rfl (lv_at hl 1 rfl) ?_
        obtain ⟨hin, h⟩ := h
        refine wk_iast hx hb hK hV 29 24 14 rfl rfl (ks_29 q cA z) hin kd_prog_16_method_103_code_13 (fun H locs hV => ?_)
        obtain ⟨z2, ez2⟩ : ∃ x : Sta, x = zA z 14 (upd (z.2.1 14) x2.toNatClampNeg x1) := ⟨_, rfl⟩
        rw [← ez2] at hV
        have h := h z2 ez2
        obtain ⟨v3, ev3⟩ : ∃ v : Int32, v = x2 + 1 := ⟨_, rfl⟩
        have h := h v3 ev3
        refine lv_iinc (v := v3) (k := 2) hx hb kd_prog_16_method_103_code_14 hl rfl (by rw [ev3]; rfl) (by decide) rfl (fun ls hl => ?_)
        have hl : lv_has ls 4 [(2, .int v3), (0, .ref (q 29)), (1, .int x1), (3, .int x3)] := hl
        refine lv_goto (tgt := 5) hx hb kd_prog_16_method_103_code_17 (by decide) ?_
        exact ih5 x1 v3 x3 z2 H locs ls hV (lv_sub hl [1, 2, 0, 3] rfl) h
  unfold wp_A_fill_29 at h
  refine lv_iconst (v := 0) hx hb kd_prog_16_method_103_code_0 (by decide) ?_
  refine lv_istore_n hx hb kd_prog_16_method_103_code_1 rfl hl (by decide) rfl (fun ls hl => ?_)
  have hl : lv_has ls 4 [(2, .int 0), (0, .ref (q 29)), (1, .int x1)] := hl
  refine lv_aload_n hx hb kd_prog_16_method_103_code_2 rfl (lv_at hl 1 rfl) ?_
  refine va_alen hx hb hK hV.1 29 24 rfl rfl rfl kd_prog_16_method_103_code_3 ?_
  refine lv_topi (fun v1 ev1 => ?_)
  have h := h v1 ev1
  refine lv_istore_n hx hb kd_prog_16_method_103_code_4 rfl hl (by decide) rfl (fun ls hl => ?_)
  have hl : lv_has ls 4 [(3, .int v1), (2, .int 0), (0, .ref (q 29)), (1, .int x1)] := hl
  obtain ⟨n5, h⟩ := h
  exact L5 n5 x1 0 v1 z H locs ls hV (lv_sub hl [2, 3, 1, 0] rfl) h
end
set_option maxHeartbeats 4000000 in
set_option maxRecDepth 100000 in
theorem c_A_fill_29 (l : Launch) (D : va_G) (q : Nat → Nat) (cA : Nat → ClassId) (x1 : Int32) (z : Sta) (sz : Nat) (K : Sta → Prop) (h : wp_A_fill_29 x1 z K) : Met l ke_A_fill (kc_A_fill :: lw_g) { frames := 0, cells := 0, slots := 0, locals := 0 } (wk_Pc D q cA [.ref (q 29), .int x1] z sz) (va_Qv K (wk_B D q cA (va_A (wW q cA z) sz)) (va_A (wW q cA z) sz)) 0 0 (va_A (wW q cA z) sz) := by
  refine Met.ofW (cc := prog_16_method_103_code) (maxL := 4) (ret := none) (by decide) rfl ?_
  intro p e s m args below meth c s₁ B hml hv
  obtain ⟨rfl, hsz, hP, hK, hD0⟩ := hv
  have hx := B.exec
  have hb := B.bytes
  have hr := B.returns
  have hlocks := B.notSynchronized
  have hts0 := atoms_spec (ws := kc_A_fill :: lw_g) B.pre
  have hts : ∀ w ∈ lw_g, w.before ([.ref (q 29), .int x1] : List Value).toArray s = true := fun w hw => hts0 w (List.mem_cons_of_mem _ hw)
  have hown : s.vm.findClass kr_A = some m.cls := findClass_of_methodNamed B.named
  subst hsz
  have hD := hD0.self (sz := s.heap.size)
  generalize hAe : va_A (wW q cA z) s.heap.size = A at hD ⊢
  have hA : ∀ x : Nat, s.heap.size ≤ x → A x := fun x hx => by rw [← hAe]; exact Or.inr hx
  have hl := lv_entry ([.ref (q 29), .int x1]) (n := 4) (Nat.le_of_ble_eq_true rfl)
  rw [lg_entry_eq]
  generalize (lg_sl ([.ref (q 29), .int x1]) ++ List.replicate (4 - (lg_sl ([.ref (q 29), .int x1])).length) Slot.unset).toArray = ls at hl ⊢
  have hl : lv_has ls 4 [(0, .ref (q 29)), (1, .int x1)] := hl
  exact w_A_fill_29 hx hb hml hown hts (Nat.le_refl _) (Nat.le_refl _) (Nat.zero_le _) (Nat.zero_le _) hA hK x1 z K h (fun u H locs pc ls hk hV hd => W.vret hx hb hr (fun t ht hW => ⟨⟨u, rfl, hk, by rw [ht]; exact hV.1, va_K.moved hW.alike hK, hV.2.1⟩, hV.2.2.F ht⟩) hV.2.2.2.2 hd) ⟨hP, hD, va_S.rf⟩ hl
section
variable {p : Program} {l : Launch} {e : Env} {R : Room} {s : State} {m : MethodId} {args : Array Value} {below : List Frame} {meth : Method} {c : Code} {Q : State → Prop} {ce sl : Nat} {D : va_G} {q : Nat → Nat} {cA : Nat → ClassId} {A : Nat → Prop}
set_option maxHeartbeats 4000000 in
set_option maxRecDepth 100000 in
theorem w_P_valueOf_26 (hx : p.tables.exec = Jvm.exec) (hb : c.code = prog_4_method_10_code) (hml : c.maxLocals = 5) (hown : s.vm.findClass kr_P = some m.cls) (hts : ∀ w ∈ lw_g, w.before args s = true) (hRf : 0 ≤ R.frames) (hRl : 0 ≤ R.locals) (hce : ce ≤ R.cells) (hsl : sl ≤ R.slots) (hA : ∀ x, s.heap.size ≤ x → A x) (hK : va_K D wk_cl (tysW cA) s) (x1 : Int32) (z : Sta) (K : Int32 → Sta → Prop) (h : wp_P_valueOf_26 x1 z K) (hret : ∀ (r : Int32) (u : Sta) (H : Heap) (locs : List Loc) (pc : Nat) (ls : Array Slot), K r u → wk_S D q cA A s.heap u H locs → decode prog_4_method_10_code pc = .ok (.ireturn, 1) → W p l e R s m args below meth c H locs ce sl Q (F0 m pc ls [.int r])) {H : Heap} {locs : List Loc} {ls : Array Slot} (hV : wk_S D q cA A s.heap z H locs) (hl : lv_has ls 5 [(0, .ref (q 1)), (1, .int x1), (2, .ref (q 26))]) : W p l e R s m args below meth c H locs ce sl Q (F0 m 0 ls []) := by
  have J87 : ∀ (y0 : Int32) (z : Sta) (H : Heap) (locs : List Loc) (ls : Array Slot), wk_S D q cA A s.heap z H locs → lv_has ls 5 [] → pj_P_valueOf_26_87 K y0 z → W p l e R s m args below meth c H locs ce sl Q (F0 m 87 ls [.int y0]) := by
    intro y0 z H locs ls hV hl h
    unfold pj_P_valueOf_26_87 at h
    exact hret y0 z H locs 87 ls h hV kd_prog_4_method_10_code_87
  unfold wp_P_valueOf_26 at h
  refine lv_aload_n hx hb kd_prog_4_method_10_code_0 rfl (lv_at hl 2 rfl) ?_
  refine lv_aload_n hx hb kd_prog_4_method_10_code_1 rfl (lv_at hl 0 rfl) ?_
  refine va_get (D := D) (ci := 1) (v := .ref (q 12)) (C := kr_P) (T := kt_P) (N := kn_P) hx hb hts ki_P hown hK hV.1 1 rfl rfl 9 (by decide) (hts _ hw_57) (fun _ h9 => h9) rfl kd_prog_4_method_10_code_2 ?_
  refine lv_iload_n hx hb kd_prog_4_method_10_code_5 rfl (lv_at hl 1 rfl) ?_
  obtain ⟨hin, h⟩ := h
  refine va_iald hx hb hK hV.1 12 7 rfl rfl hin kd_prog_4_method_10_code_6 ?_
  refine lv_topi (fun v1 ev1 => ?_)
  have h := h v1 ev1
  obtain ⟨hin, h⟩ := h
  refine va_iald hx hb hK hV.1 26 21 rfl rfl hin kd_prog_4_method_10_code_7 ?_
  refine lv_topi (fun v2 ev2 => ?_)
  have h := h v2 ev2
  refine lv_istore_n hx hb kd_prog_4_method_10_code_8 rfl hl (by decide) rfl (fun ls hl => ?_)
  have hl : lv_has ls 5 [(3, .int v2), (0, .ref (q 1)), (1, .int x1), (2, .ref (q 26))] := hl
  refine lv_aload_n hx hb kd_prog_4_method_10_code_9 rfl (lv_at hl 3 rfl) ?_
  refine lv_aload_n hx hb kd_prog_4_method_10_code_10 rfl (lv_at hl 1 rfl) ?_
  refine va_get (D := D) (ci := 1) (v := .ref (q 14)) (C := kr_P) (T := kt_P) (N := kn_P) hx hb hts ki_P hown hK hV.1 1 rfl rfl 11 (by decide) (hts _ hw_59) (fun _ h9 => h9) rfl kd_prog_4_method_10_code_11 ?_
  refine lv_iload_n hx hb kd_prog_4_method_10_code_14 rfl (lv_at hl 2 rfl) ?_
  obtain ⟨hin, h⟩ := h
  refine va_iald hx hb hK hV.1 14 9 rfl rfl hin kd_prog_4_method_10_code_15 ?_
  refine lv_topi (fun v3 ev3 => ?_)
  have h := h v3 ev3
  obtain ⟨hin, h⟩ := h
  refine va_iald hx hb hK hV.1 26 21 rfl rfl hin kd_prog_4_method_10_code_16 ?_
  refine lv_topi (fun v4 ev4 => ?_)
  have h := h v4 ev4
  refine lv_istore hx hb kd_prog_4_method_10_code_17 hl (by decide) rfl (fun ls hl => ?_)
  have hl : lv_has ls 5 [(4, .int v4), (3, .int v2), (0, .ref (q 1)), (1, .int x1), (2, .ref (q 26))] := hl
  refine lv_aload_n hx hb kd_prog_4_method_10_code_19 rfl (lv_at hl 2 rfl) ?_
  refine va_get (D := D) (ci := 1) (v := .ref (q 13)) (C := kr_P) (T := kt_P) (N := kn_P) hx hb hts ki_P hown hK hV.1 1 rfl rfl 10 (by decide) (hts _ hw_58) (fun _ h9 => h9) rfl kd_prog_4_method_10_code_20 ?_
  refine lv_iload_n hx hb kd_prog_4_method_10_code_23 rfl (lv_at hl 3 rfl) ?_
  obtain ⟨hin, h⟩ := h
  refine va_iald hx hb hK hV.1 13 8 rfl rfl hin kd_prog_4_method_10_code_24 ?_
  refine lv_topi (fun v5 ev5 => ?_)
  have h := h v5 ev5
  by_cases hc0 : v5 = 0
  · have h := h.1 hc0
    refine lv_tableIn (tgt := 56) hx hb kd_prog_4_method_10_code_25 (by rw [hc0]; decide) (by rw [hc0]; decide) (by rw [hc0]; rfl) (by decide) ?_
    refine lv_iload_n hx hb kd_prog_4_method_10_code_56 rfl (lv_at hl 1 rfl) ?_
    refine lv_iload hx hb kd_prog_4_method_10_code_57 (lv_at hl 0 rfl) ?_
    refine lv_iadd hx hb kd_prog_4_method_10_code_59 ?_
    refine lv_topi (fun v6 ev6 => ?_)
    have h := h v6 ev6
    exact hret v6 z H locs 60 ls h hV kd_prog_4_method_10_code_60
  by_cases hc1 : v5 = 1
  · have h := h.2.1 hc1
    refine lv_tableIn (tgt := 61) hx hb kd_prog_4_method_10_code_25 (by rw [hc1]; decide) (by rw [hc1]; decide) (by rw [hc1]; rfl) (by decide) ?_
    refine lv_iload_n hx hb kd_prog_4_method_10_code_61 rfl (lv_at hl 1 rfl) ?_
    refine lv_iload hx hb kd_prog_4_method_10_code_62 (lv_at hl 0 rfl) ?_
    refine lv_isub hx hb kd_prog_4_method_10_code_64 ?_
    refine lv_topi (fun v7 ev7 => ?_)
    have h := h v7 ev7
    exact hret v7 z H locs 65 ls h hV kd_prog_4_method_10_code_65
  by_cases hc2 : v5 = 2
  · have h := h.2.2.1 hc2
    refine lv_tableIn (tgt := 66) hx hb kd_prog_4_method_10_code_25 (by rw [hc2]; decide) (by rw [hc2]; decide) (by rw [hc2]; rfl) (by decide) ?_
    refine lv_iload_n hx hb kd_prog_4_method_10_code_66 rfl (lv_at hl 1 rfl) ?_
    refine lv_iload hx hb kd_prog_4_method_10_code_67 (lv_at hl 0 rfl) ?_
    refine lv_imul hx hb kd_prog_4_method_10_code_69 ?_
    refine lv_topi (fun v8 ev8 => ?_)
    have h := h v8 ev8
    exact hret v8 z H locs 70 ls h hV kd_prog_4_method_10_code_70
  by_cases hc3 : v5 = 3
  · have h := h.2.2.2.1 hc3
    refine lv_tableIn (tgt := 71) hx hb kd_prog_4_method_10_code_25 (by rw [hc3]; decide) (by rw [hc3]; decide) (by rw [hc3]; rfl) (by decide) ?_
    refine lv_iload_n hx hb kd_prog_4_method_10_code_71 rfl (lv_at hl 1 rfl) ?_
    refine lv_iload hx hb kd_prog_4_method_10_code_72 (lv_at hl 0 rfl) ?_
    refine lv_iand hx hb kd_prog_4_method_10_code_74 ?_
    refine lv_topi (fun v9 ev9 => ?_)
    have h := h v9 ev9
    exact hret v9 z H locs 75 ls h hV kd_prog_4_method_10_code_75
  have h := h.2.2.2.2 ⟨hc0, hc1, hc2, hc3⟩
  refine lv_tableOut (tgt := 76) hx hb kd_prog_4_method_10_code_25 (by have t0 := lv_neT hc0 (a := 0) (by decide); have t1 := lv_neT hc1 (a := 1) (by decide); have t2 := lv_neT hc2 (a := 2) (by decide); have t3 := lv_neT hc3 (a := 3) (by decide); omega) (by decide) ?_
  refine lv_iload_n hx hb kd_prog_4_method_10_code_76 rfl (lv_at hl 1 rfl) ?_
  refine lv_iload hx hb kd_prog_4_method_10_code_77 (lv_at hl 0 rfl) ?_
  refine lv_icmp_ge (tgt := 86) hx hb kd_prog_4_method_10_code_79 (by decide) (fun hc => ?_) (fun hc => ?_)
  · have h := h.1 hc
    refine lv_iconst (v := 0) hx hb kd_prog_4_method_10_code_86 (by decide) ?_
    exact J87 0 z H locs ls hV (lv_sub hl [] rfl) h
  · have h := h.2 hc
    refine lv_iconst (v := 1) hx hb kd_prog_4_method_10_code_82 (by decide) ?_
    refine lv_goto (tgt := 87) hx hb kd_prog_4_method_10_code_83 (by decide) ?_
    exact J87 1 z H locs ls hV (lv_sub hl [] rfl) h
end
set_option maxHeartbeats 4000000 in
set_option maxRecDepth 100000 in
theorem c_P_valueOf_26 (l : Launch) (D : va_G) (q : Nat → Nat) (cA : Nat → ClassId) (x1 : Int32) (z : Sta) (sz : Nat) (K : Int32 → Sta → Prop) (h : wp_P_valueOf_26 x1 z K) : Met l ke_P_valueOf (kc_P_valueOf :: lw_g) { frames := 0, cells := 0, slots := 0, locals := 0 } (wk_Pc D q cA [.ref (q 1), .int x1, .ref (q 26)] z sz) (va_Qi K (wk_B D q cA (va_A (wW q cA z) sz)) (va_A (wW q cA z) sz)) 0 0 (va_A (wW q cA z) sz) := by
  refine Met.ofW (cc := prog_4_method_10_code) (maxL := 5) (ret := (some .int)) (by decide) rfl ?_
  intro p e s m args below meth c s₁ B hml hv
  obtain ⟨rfl, hsz, hP, hK, hD0⟩ := hv
  have hx := B.exec
  have hb := B.bytes
  have hr := B.returns
  have hlocks := B.notSynchronized
  have hts0 := atoms_spec (ws := kc_P_valueOf :: lw_g) B.pre
  have hts : ∀ w ∈ lw_g, w.before ([.ref (q 1), .int x1, .ref (q 26)] : List Value).toArray s = true := fun w hw => hts0 w (List.mem_cons_of_mem _ hw)
  have hown : s.vm.findClass kr_P = some m.cls := findClass_of_methodNamed B.named
  subst hsz
  have hD := hD0.self (sz := s.heap.size)
  generalize hAe : va_A (wW q cA z) s.heap.size = A at hD ⊢
  have hA : ∀ x : Nat, s.heap.size ≤ x → A x := fun x hx => by rw [← hAe]; exact Or.inr hx
  have hl := lv_entry ([.ref (q 1), .int x1, .ref (q 26)]) (n := 5) (Nat.le_of_ble_eq_true rfl)
  rw [lg_entry_eq]
  generalize (lg_sl ([.ref (q 1), .int x1, .ref (q 26)]) ++ List.replicate (5 - (lg_sl ([.ref (q 1), .int x1, .ref (q 26)])).length) Slot.unset).toArray = ls at hl ⊢
  have hl : lv_has ls 5 [(0, .ref (q 1)), (1, .int x1), (2, .ref (q 26))] := hl
  exact w_P_valueOf_26 hx hb hml hown hts (Nat.le_refl _) (Nat.le_refl _) (Nat.zero_le _) (Nat.zero_le _) hA hK x1 z K h (fun r u H locs pc ls hk hV hd => W.iret hx hb hr (fun t ht hW => ⟨⟨r, u, rfl, hk, by rw [ht]; exact hV.1, va_K.moved hW.alike hK, hV.2.1⟩, hV.2.2.F ht⟩) hV.2.2.2.2 hd) ⟨hP, hD, va_S.rf⟩ hl
section
variable {p : Program} {l : Launch} {e : Env} {R : Room} {s : State} {m : MethodId} {args : Array Value} {below : List Frame} {meth : Method} {c : Code} {Q : State → Prop} {ce sl : Nat} {D : va_G} {q : Nat → Nat} {cA : Nat → ClassId} {A : Nat → Prop}
set_option maxHeartbeats 4000000 in
set_option maxRecDepth 100000 in
theorem w_P_addStatement (hx : p.tables.exec = Jvm.exec) (hb : c.code = prog_4_method_6_code) (hml : c.maxLocals = 6) (hown : s.vm.findClass kr_P = some m.cls) (hts : ∀ w ∈ lw_g, w.before args s = true) (hRf : 0 ≤ R.frames) (hRl : 0 ≤ R.locals) (hce : ce ≤ R.cells) (hsl : sl ≤ R.slots) (hA : ∀ x, s.heap.size ≤ x → A x) (hK : va_K D wk_cl (tysW cA) s) (x1 : Int32) (x2 : Int32) (x3 : Int32) (z : Sta) (K : Int32 → Sta → Prop) (h : wp_P_addStatement x1 x2 x3 z K) (hret : ∀ (r : Int32) (u : Sta) (H : Heap) (locs : List Loc) (pc : Nat) (ls : Array Slot), K r u → wk_S D q cA A s.heap u H locs → decode prog_4_method_6_code pc = .ok (.ireturn, 1) → W p l e R s m args below meth c H locs ce sl Q (F0 m pc ls [.int r])) {H : Heap} {locs : List Loc} {ls : Array Slot} (hV : wk_S D q cA A s.heap z H locs) (hl : lv_has ls 6 [(0, .ref (q 1)), (1, .int x1), (2, .int x2), (3, .int x3)]) : W p l e R s m args below meth c H locs ce sl Q (F0 m 0 ls []) := by
  unfold wp_P_addStatement at h
  refine lv_aload_n hx hb kd_prog_4_method_6_code_0 rfl (lv_at hl 0 rfl) ?_
  refine va_get (D := D) (ci := 1) (v := .int (z.1 2)) (C := kr_P) (T := kt_P) (N := kn_P) hx hb hts ki_P hown hK hV.1 1 rfl rfl 0 (by decide) (hts _ hw_30) (fun _ h9 => h9) rfl kd_prog_4_method_6_code_1 ?_
  refine lv_topi (fun v1 ev1 => ?_)
  have h := h v1 ev1
  refine lv_iconst (v := 1) hx hb kd_prog_4_method_6_code_4 (by decide) ?_
  refine lv_isub hx hb kd_prog_4_method_6_code_5 ?_
  refine lv_topi (fun v2 ev2 => ?_)
  have h := h v2 ev2
  refine lv_istore hx hb kd_prog_4_method_6_code_6 hl (by decide) rfl (fun ls hl => ?_)
  have hl : lv_has ls 6 [(4, .int v2), (0, .ref (q 1)), (1, .int x1), (2, .int x2), (3, .int x3)] := hl
  refine lv_iload hx hb kd_prog_4_method_6_code_8 (lv_at hl 0 rfl) ?_
  refine lv_iconst (v := 5) hx hb kd_prog_4_method_6_code_10 (by decide) ?_
  refine lv_imul hx hb kd_prog_4_method_6_code_11 ?_
  refine lv_topi (fun v3 ev3 => ?_)
  have h := h v3 ev3
  refine lv_aload_n hx hb kd_prog_4_method_6_code_12 rfl (lv_at hl 1 rfl) ?_
  refine va_get (D := D) (ci := 1) (v := .ref (q 5)) (C := kr_P) (T := kt_P) (N := kn_P) hx hb hts ki_P hown hK hV.1 1 rfl rfl 2 (by decide) (hts _ hw_37) (fun _ h9 => h9) rfl kd_prog_4_method_6_code_13 ?_
  refine lv_iload hx hb kd_prog_4_method_6_code_16 (lv_at hl 0 rfl) ?_
  obtain ⟨hin, h⟩ := h
  refine va_iald hx hb hK hV.1 5 0 rfl rfl hin kd_prog_4_method_6_code_18 ?_
  refine lv_topi (fun v4 ev4 => ?_)
  have h := h v4 ev4
  refine lv_iadd hx hb kd_prog_4_method_6_code_19 ?_
  refine lv_topi (fun v5 ev5 => ?_)
  have h := h v5 ev5
  refine lv_istore hx hb kd_prog_4_method_6_code_20 hl (by decide) rfl (fun ls hl => ?_)
  have hl : lv_has ls 6 [(5, .int v5), (4, .int v2), (0, .ref (q 1)), (1, .int x1), (2, .int x2), (3, .int x3)] := hl
  refine lv_aload_n hx hb kd_prog_4_method_6_code_22 rfl (lv_at hl 2 rfl) ?_
  refine va_get (D := D) (ci := 1) (v := .ref (q 6)) (C := kr_P) (T := kt_P) (N := kn_P) hx hb hts ki_P hown hK hV.1 1 rfl rfl 3 (by decide) (hts _ hw_40) (fun _ h9 => h9) rfl kd_prog_4_method_6_code_23 ?_
  refine lv_iload hx hb kd_prog_4_method_6_code_26 (lv_at hl 0 rfl) ?_
  refine lv_iload_n hx hb kd_prog_4_method_6_code_28 rfl (lv_at hl 3 rfl) ?_
  obtain ⟨hin, h⟩ := h
  refine wk_iast hx hb hK hV 6 1 1 rfl rfl (ks_6 q cA z) hin kd_prog_4_method_6_code_29 (fun H locs hV => ?_)
  obtain ⟨z6, ez6⟩ : ∃ x : Sta, x = zA z 1 (upd (z.2.1 1) v5.toNatClampNeg x1) := ⟨_, rfl⟩
  rw [← ez6] at hV
  have h := h z6 ez6
  refine lv_aload_n hx hb kd_prog_4_method_6_code_30 rfl (lv_at hl 2 rfl) ?_
  refine va_get (D := D) (ci := 1) (v := .ref (q 7)) (C := kr_P) (T := kt_P) (N := kn_P) hx hb hts ki_P hown hK hV.1 1 rfl rfl 4 (by decide) (hts _ hw_43) (fun _ h9 => h9) rfl kd_prog_4_method_6_code_31 ?_
  refine lv_iload hx hb kd_prog_4_method_6_code_34 (lv_at hl 0 rfl) ?_
  refine lv_iload_n hx hb kd_prog_4_method_6_code_36 rfl (lv_at hl 4 rfl) ?_
  obtain ⟨hin, h⟩ := h
  refine wk_iast hx hb hK hV 7 2 2 rfl rfl (ks_7 q cA z6) hin kd_prog_4_method_6_code_37 (fun H locs hV => ?_)
  obtain ⟨z7, ez7⟩ : ∃ x : Sta, x = zA z6 2 (upd (z6.2.1 2) v5.toNatClampNeg x2) := ⟨_, rfl⟩
  rw [← ez7] at hV
  have h := h z7 ez7
  refine lv_aload_n hx hb kd_prog_4_method_6_code_38 rfl (lv_at hl 2 rfl) ?_
  refine va_get (D := D) (ci := 1) (v := .ref (q 8)) (C := kr_P) (T := kt_P) (N := kn_P) hx hb hts ki_P hown hK hV.1 1 rfl rfl 5 (by decide) (hts _ hw_46) (fun _ h9 => h9) rfl kd_prog_4_method_6_code_39 ?_
  refine lv_iload hx hb kd_prog_4_method_6_code_42 (lv_at hl 0 rfl) ?_
  refine lv_iload_n hx hb kd_prog_4_method_6_code_44 rfl (lv_at hl 5 rfl) ?_
  obtain ⟨hin, h⟩ := h
  refine wk_iast hx hb hK hV 8 3 3 rfl rfl (ks_8 q cA z7) hin kd_prog_4_method_6_code_45 (fun H locs hV => ?_)
  obtain ⟨z8, ez8⟩ : ∃ x : Sta, x = zA z7 3 (upd (z7.2.1 3) v5.toNatClampNeg x3) := ⟨_, rfl⟩
  rw [← ez8] at hV
  have h := h z8 ez8
  refine lv_aload_n hx hb kd_prog_4_method_6_code_46 rfl (lv_at hl 2 rfl) ?_
  refine va_get (D := D) (ci := 1) (v := .ref (q 5)) (C := kr_P) (T := kt_P) (N := kn_P) hx hb hts ki_P hown hK hV.1 1 rfl rfl 2 (by decide) (hts _ hw_37) (fun _ h9 => h9) rfl kd_prog_4_method_6_code_47 ?_
  refine lv_iload hx hb kd_prog_4_method_6_code_50 (lv_at hl 1 rfl) ?_
  refine lv_dup2_11 hx hb kd_prog_4_method_6_code_52 rfl rfl ?_
  obtain ⟨hin, h⟩ := h
  refine va_iald hx hb hK hV.1 5 0 rfl rfl hin kd_prog_4_method_6_code_53 ?_
  refine lv_topi (fun v9 ev9 => ?_)
  have h := h v9 ev9
  refine lv_iconst (v := 1) hx hb kd_prog_4_method_6_code_54 (by decide) ?_
  refine lv_iadd hx hb kd_prog_4_method_6_code_55 ?_
  refine lv_topi (fun v10 ev10 => ?_)
  have h := h v10 ev10
  obtain ⟨hin, h⟩ := h
  refine wk_iast hx hb hK hV 5 0 0 rfl rfl (ks_5 q cA z8) hin kd_prog_4_method_6_code_56 (fun H locs hV => ?_)
  obtain ⟨z11, ez11⟩ : ∃ x : Sta, x = zA z8 0 (upd (z8.2.1 0) v2.toNatClampNeg v10) := ⟨_, rfl⟩
  rw [← ez11] at hV
  have h := h z11 ez11
  refine lv_aload_n hx hb kd_prog_4_method_6_code_57 rfl (lv_at hl 2 rfl) ?_
  refine va_get (D := D) (ci := 1) (v := .ref (q 5)) (C := kr_P) (T := kt_P) (N := kn_P) hx hb hts ki_P hown hK hV.1 1 rfl rfl 2 (by decide) (hts _ hw_37) (fun _ h9 => h9) rfl kd_prog_4_method_6_code_58 ?_
  refine lv_iload hx hb kd_prog_4_method_6_code_61 (lv_at hl 1 rfl) ?_
  obtain ⟨hin, h⟩ := h
  refine va_iald hx hb hK hV.1 5 0 rfl rfl hin kd_prog_4_method_6_code_63 ?_
  refine lv_topi (fun v12 ev12 => ?_)
  have h := h v12 ev12
  exact hret v12 z11 H locs 64 ls h hV kd_prog_4_method_6_code_64
end
set_option maxHeartbeats 4000000 in
set_option maxRecDepth 100000 in
theorem c_P_addStatement (l : Launch) (D : va_G) (q : Nat → Nat) (cA : Nat → ClassId) (x1 : Int32) (x2 : Int32) (x3 : Int32) (z : Sta) (sz : Nat) (K : Int32 → Sta → Prop) (h : wp_P_addStatement x1 x2 x3 z K) : Met l ke_P_addStatement (kc_P_addStatement :: lw_g) { frames := 0, cells := 0, slots := 0, locals := 0 } (wk_Pc D q cA [.ref (q 1), .int x1, .int x2, .int x3] z sz) (va_Qi K (wk_B D q cA (va_A (wW q cA z) sz)) (va_A (wW q cA z) sz)) 0 0 (va_A (wW q cA z) sz) := by
  refine Met.ofW (cc := prog_4_method_6_code) (maxL := 6) (ret := (some .int)) (by decide) rfl ?_
  intro p e s m args below meth c s₁ B hml hv
  obtain ⟨rfl, hsz, hP, hK, hD0⟩ := hv
  have hx := B.exec
  have hb := B.bytes
  have hr := B.returns
  have hlocks := B.notSynchronized
  have hts0 := atoms_spec (ws := kc_P_addStatement :: lw_g) B.pre
  have hts : ∀ w ∈ lw_g, w.before ([.ref (q 1), .int x1, .int x2, .int x3] : List Value).toArray s = true := fun w hw => hts0 w (List.mem_cons_of_mem _ hw)
  have hown : s.vm.findClass kr_P = some m.cls := findClass_of_methodNamed B.named
  subst hsz
  have hD := hD0.self (sz := s.heap.size)
  generalize hAe : va_A (wW q cA z) s.heap.size = A at hD ⊢
  have hA : ∀ x : Nat, s.heap.size ≤ x → A x := fun x hx => by rw [← hAe]; exact Or.inr hx
  have hl := lv_entry ([.ref (q 1), .int x1, .int x2, .int x3]) (n := 6) (Nat.le_of_ble_eq_true rfl)
  rw [lg_entry_eq]
  generalize (lg_sl ([.ref (q 1), .int x1, .int x2, .int x3]) ++ List.replicate (6 - (lg_sl ([.ref (q 1), .int x1, .int x2, .int x3])).length) Slot.unset).toArray = ls at hl ⊢
  have hl : lv_has ls 6 [(0, .ref (q 1)), (1, .int x1), (2, .int x2), (3, .int x3)] := hl
  exact w_P_addStatement hx hb hml hown hts (Nat.le_refl _) (Nat.le_refl _) (Nat.zero_le _) (Nat.zero_le _) hA hK x1 x2 x3 z K h (fun r u H locs pc ls hk hV hd => W.iret hx hb hr (fun t ht hW => ⟨⟨r, u, rfl, hk, by rw [ht]; exact hV.1, va_K.moved hW.alike hK, hV.2.1⟩, hV.2.2.F ht⟩) hV.2.2.2.2 hd) ⟨hP, hD, va_S.rf⟩ hl
