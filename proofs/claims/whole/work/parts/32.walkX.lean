theorem kd_prog_1_method_2_code_0 : decode prog_1_method_2_code 0 = .ok (.aload_n 0, 1) := by decide +kernel
theorem kd_prog_1_method_2_code_1 : decode prog_1_method_2_code 1 = .ok (.getfield 17, 3) := by decide +kernel
theorem kd_prog_1_method_2_code_4 : decode prog_1_method_2_code 4 = .ok (.getfield 42, 3) := by decide +kernel
theorem kd_prog_1_method_2_code_7 : decode prog_1_method_2_code 7 = .ok (.bipush 16, 2) := by decide +kernel
theorem kd_prog_1_method_2_code_9 : decode prog_1_method_2_code 9 = .ok (.if_icmp .lt 13, 3) := by decide +kernel
theorem kd_prog_1_method_2_code_12 : decode prog_1_method_2_code 12 = .ok (.new 45, 3) := by decide +kernel
theorem kd_prog_1_method_2_code_15 : decode prog_1_method_2_code 15 = .ok (.dup, 1) := by decide +kernel
theorem kd_prog_1_method_2_code_16 : decode prog_1_method_2_code 16 = .ok (.ldc 47, 2) := by decide +kernel
theorem kd_prog_1_method_2_code_18 : decode prog_1_method_2_code 18 = .ok (.invokespecial 49, 3) := by decide +kernel
theorem kd_prog_1_method_2_code_21 : decode prog_1_method_2_code 21 = .ok (.athrow, 1) := by decide +kernel
theorem kd_prog_1_method_2_code_22 : decode prog_1_method_2_code 22 = .ok (.aload_n 0, 1) := by decide +kernel
theorem kd_prog_1_method_2_code_23 : decode prog_1_method_2_code 23 = .ok (.iconst 0, 1) := by decide +kernel
theorem kd_prog_1_method_2_code_24 : decode prog_1_method_2_code 24 = .ok (.putfield 34, 3) := by decide +kernel
theorem kd_prog_1_method_2_code_27 : decode prog_1_method_2_code 27 = .ok (.aload_n 0, 1) := by decide +kernel
theorem kd_prog_1_method_2_code_28 : decode prog_1_method_2_code 28 = .ok (.getfield 17, 3) := by decide +kernel
theorem kd_prog_1_method_2_code_31 : decode prog_1_method_2_code 31 = .ok (.invokevirtual 52, 3) := by decide +kernel
theorem kd_prog_1_method_2_code_34 : decode prog_1_method_2_code 34 = .ok (.ireturn, 1) := by decide +kernel
theorem kd_prog_1_method_3_code_0 : decode prog_1_method_3_code 0 = .ok (.iload_n 1, 1) := by decide +kernel
theorem kd_prog_1_method_3_code_1 : decode prog_1_method_3_code 1 = .ok (.iload_n 2, 1) := by decide +kernel
theorem kd_prog_1_method_3_code_2 : decode prog_1_method_3_code 2 = .ok (.iload_n 3, 1) := by decide +kernel
theorem kd_prog_1_method_3_code_3 : decode prog_1_method_3_code 3 = .ok (.iload 4, 2) := by decide +kernel
theorem kd_prog_1_method_3_code_5 : decode prog_1_method_3_code 5 = .ok (.iload 5, 2) := by decide +kernel
theorem kd_prog_1_method_3_code_7 : decode prog_1_method_3_code 7 = .ok (.invokestatic 56, 3) := by decide +kernel
theorem kd_prog_1_method_3_code_10 : decode prog_1_method_3_code 10 = .ok (.ifCond .ne 13, 3) := by decide +kernel
theorem kd_prog_1_method_3_code_13 : decode prog_1_method_3_code 13 = .ok (.new 60, 3) := by decide +kernel
theorem kd_prog_1_method_3_code_16 : decode prog_1_method_3_code 16 = .ok (.dup, 1) := by decide +kernel
theorem kd_prog_1_method_3_code_17 : decode prog_1_method_3_code 17 = .ok (.ldc 62, 2) := by decide +kernel
theorem kd_prog_1_method_3_code_19 : decode prog_1_method_3_code 19 = .ok (.invokespecial 64, 3) := by decide +kernel
theorem kd_prog_1_method_3_code_22 : decode prog_1_method_3_code 22 = .ok (.athrow, 1) := by decide +kernel
theorem kd_prog_1_method_3_code_23 : decode prog_1_method_3_code 23 = .ok (.aload_n 0, 1) := by decide +kernel
theorem kd_prog_1_method_3_code_24 : decode prog_1_method_3_code 24 = .ok (.getfield 17, 3) := by decide +kernel
theorem kd_prog_1_method_3_code_27 : decode prog_1_method_3_code 27 = .ok (.invokevirtual 65, 3) := by decide +kernel
theorem kd_prog_1_method_3_code_30 : decode prog_1_method_3_code 30 = .ok (.ifCond .ne 13, 3) := by decide +kernel
theorem kd_prog_1_method_3_code_33 : decode prog_1_method_3_code 33 = .ok (.new 45, 3) := by decide +kernel
theorem kd_prog_1_method_3_code_36 : decode prog_1_method_3_code 36 = .ok (.dup, 1) := by decide +kernel
theorem kd_prog_1_method_3_code_37 : decode prog_1_method_3_code 37 = .ok (.ldc 69, 2) := by decide +kernel
theorem kd_prog_1_method_3_code_39 : decode prog_1_method_3_code 39 = .ok (.invokespecial 49, 3) := by decide +kernel
theorem kd_prog_1_method_3_code_42 : decode prog_1_method_3_code 42 = .ok (.athrow, 1) := by decide +kernel
theorem kd_prog_1_method_3_code_43 : decode prog_1_method_3_code 43 = .ok (.iload_n 3, 1) := by decide +kernel
theorem kd_prog_1_method_3_code_44 : decode prog_1_method_3_code 44 = .ok (.istore 6, 2) := by decide +kernel
theorem kd_prog_1_method_3_code_46 : decode prog_1_method_3_code 46 = .ok (.iload_n 1, 1) := by decide +kernel
theorem kd_prog_1_method_3_code_47 : decode prog_1_method_3_code 47 = .ok (.iconst 2, 1) := by decide +kernel
theorem kd_prog_1_method_3_code_48 : decode prog_1_method_3_code 48 = .ok (.if_icmp .ne 33, 3) := by decide +kernel
theorem kd_prog_1_method_3_code_51 : decode prog_1_method_3_code 51 = .ok (.aload_n 0, 1) := by decide +kernel
theorem kd_prog_1_method_3_code_52 : decode prog_1_method_3_code 52 = .ok (.getfield 17, 3) := by decide +kernel
theorem kd_prog_1_method_3_code_55 : decode prog_1_method_3_code 55 = .ok (.iload_n 3, 1) := by decide +kernel
theorem kd_prog_1_method_3_code_56 : decode prog_1_method_3_code 56 = .ok (.iload 4, 2) := by decide +kernel
theorem kd_prog_1_method_3_code_58 : decode prog_1_method_3_code 58 = .ok (.iload 5, 2) := by decide +kernel
theorem kd_prog_1_method_3_code_60 : decode prog_1_method_3_code 60 = .ok (.invokevirtual 71, 3) := by decide +kernel
theorem kd_prog_1_method_3_code_63 : decode prog_1_method_3_code 63 = .ok (.istore 6, 2) := by decide +kernel
theorem kd_prog_1_method_3_code_65 : decode prog_1_method_3_code 65 = .ok (.iload 6, 2) := by decide +kernel
theorem kd_prog_1_method_3_code_67 : decode prog_1_method_3_code 67 = .ok (.iconst (-1), 1) := by decide +kernel
theorem kd_prog_1_method_3_code_68 : decode prog_1_method_3_code 68 = .ok (.if_icmp .ne 13, 3) := by decide +kernel
theorem kd_prog_1_method_3_code_71 : decode prog_1_method_3_code 71 = .ok (.new 45, 3) := by decide +kernel
theorem kd_prog_1_method_3_code_74 : decode prog_1_method_3_code 74 = .ok (.dup, 1) := by decide +kernel
theorem kd_prog_1_method_3_code_75 : decode prog_1_method_3_code 75 = .ok (.ldc 75, 2) := by decide +kernel
theorem kd_prog_1_method_3_code_77 : decode prog_1_method_3_code 77 = .ok (.invokespecial 49, 3) := by decide +kernel
theorem kd_prog_1_method_3_code_80 : decode prog_1_method_3_code 80 = .ok (.athrow, 1) := by decide +kernel
theorem kd_prog_1_method_3_code_81 : decode prog_1_method_3_code 81 = .ok (.aload_n 0, 1) := by decide +kernel
theorem kd_prog_1_method_3_code_82 : decode prog_1_method_3_code 82 = .ok (.iconst 0, 1) := by decide +kernel
theorem kd_prog_1_method_3_code_83 : decode prog_1_method_3_code 83 = .ok (.putfield 34, 3) := by decide +kernel
theorem kd_prog_1_method_3_code_86 : decode prog_1_method_3_code 86 = .ok (.aload_n 0, 1) := by decide +kernel
theorem kd_prog_1_method_3_code_87 : decode prog_1_method_3_code 87 = .ok (.getfield 17, 3) := by decide +kernel
theorem kd_prog_1_method_3_code_90 : decode prog_1_method_3_code 90 = .ok (.iload_n 1, 1) := by decide +kernel
theorem kd_prog_1_method_3_code_91 : decode prog_1_method_3_code 91 = .ok (.iload_n 2, 1) := by decide +kernel
theorem kd_prog_1_method_3_code_92 : decode prog_1_method_3_code 92 = .ok (.iload 6, 2) := by decide +kernel
theorem kd_prog_1_method_3_code_94 : decode prog_1_method_3_code 94 = .ok (.invokevirtual 77, 3) := by decide +kernel
theorem kd_prog_1_method_3_code_97 : decode prog_1_method_3_code 97 = .ok (.ireturn, 1) := by decide +kernel
theorem kd_prog_1_method_4_code_0 : decode prog_1_method_4_code 0 = .ok (.aload_n 0, 1) := by decide +kernel
theorem kd_prog_1_method_4_code_1 : decode prog_1_method_4_code 1 = .ok (.getfield 17, 3) := by decide +kernel
theorem kd_prog_1_method_4_code_4 : decode prog_1_method_4_code 4 = .ok (.iload_n 1, 1) := by decide +kernel
theorem kd_prog_1_method_4_code_5 : decode prog_1_method_4_code 5 = .ok (.invokevirtual 80, 3) := by decide +kernel
theorem kd_prog_1_method_4_code_8 : decode prog_1_method_4_code 8 = .ok (.ifCond .eq 15, 3) := by decide +kernel
theorem kd_prog_1_method_4_code_11 : decode prog_1_method_4_code 11 = .ok (.iload_n 2, 1) := by decide +kernel
theorem kd_prog_1_method_4_code_12 : decode prog_1_method_4_code 12 = .ok (.iload_n 3, 1) := by decide +kernel
theorem kd_prog_1_method_4_code_13 : decode prog_1_method_4_code 13 = .ok (.iload 4, 2) := by decide +kernel
theorem kd_prog_1_method_4_code_15 : decode prog_1_method_4_code 15 = .ok (.iload 5, 2) := by decide +kernel
theorem kd_prog_1_method_4_code_17 : decode prog_1_method_4_code 17 = .ok (.invokestatic 84, 3) := by decide +kernel
theorem kd_prog_1_method_4_code_20 : decode prog_1_method_4_code 20 = .ok (.ifCond .ne 13, 3) := by decide +kernel
theorem kd_prog_1_method_4_code_23 : decode prog_1_method_4_code 23 = .ok (.new 60, 3) := by decide +kernel
theorem kd_prog_1_method_4_code_26 : decode prog_1_method_4_code 26 = .ok (.dup, 1) := by decide +kernel
theorem kd_prog_1_method_4_code_27 : decode prog_1_method_4_code 27 = .ok (.ldc 88, 2) := by decide +kernel
theorem kd_prog_1_method_4_code_29 : decode prog_1_method_4_code 29 = .ok (.invokespecial 64, 3) := by decide +kernel
theorem kd_prog_1_method_4_code_32 : decode prog_1_method_4_code 32 = .ok (.athrow, 1) := by decide +kernel
theorem kd_prog_1_method_4_code_33 : decode prog_1_method_4_code 33 = .ok (.aload_n 0, 1) := by decide +kernel
theorem kd_prog_1_method_4_code_34 : decode prog_1_method_4_code 34 = .ok (.iconst 0, 1) := by decide +kernel
theorem kd_prog_1_method_4_code_35 : decode prog_1_method_4_code 35 = .ok (.putfield 34, 3) := by decide +kernel
theorem kd_prog_1_method_4_code_38 : decode prog_1_method_4_code 38 = .ok (.iload_n 2, 1) := by decide +kernel
theorem kd_prog_1_method_4_code_39 : decode prog_1_method_4_code 39 = .ok (.ifCond .ne 15, 3) := by decide +kernel
theorem kd_prog_1_method_4_code_42 : decode prog_1_method_4_code 42 = .ok (.aload_n 0, 1) := by decide +kernel
theorem kd_prog_1_method_4_code_43 : decode prog_1_method_4_code 43 = .ok (.getfield 17, 3) := by decide +kernel
theorem kd_prog_1_method_4_code_46 : decode prog_1_method_4_code 46 = .ok (.iload_n 1, 1) := by decide +kernel
theorem kd_prog_1_method_4_code_47 : decode prog_1_method_4_code 47 = .ok (.iconst 0, 1) := by decide +kernel
theorem kd_prog_1_method_4_code_48 : decode prog_1_method_4_code 48 = .ok (.iconst (-1), 1) := by decide +kernel
theorem kd_prog_1_method_4_code_49 : decode prog_1_method_4_code 49 = .ok (.iconst (-1), 1) := by decide +kernel
theorem kd_prog_1_method_4_code_50 : decode prog_1_method_4_code 50 = .ok (.invokevirtual 90, 3) := by decide +kernel
theorem kd_prog_1_method_4_code_53 : decode prog_1_method_4_code 53 = .ok (.ireturn, 1) := by decide +kernel
theorem kd_prog_1_method_4_code_54 : decode prog_1_method_4_code 54 = .ok (.iload_n 2, 1) := by decide +kernel
theorem kd_prog_1_method_4_code_55 : decode prog_1_method_4_code 55 = .ok (.iconst 1, 1) := by decide +kernel
theorem kd_prog_1_method_4_code_56 : decode prog_1_method_4_code 56 = .ok (.if_icmp .ne 17, 3) := by decide +kernel
theorem kd_prog_1_method_4_code_59 : decode prog_1_method_4_code 59 = .ok (.aload_n 0, 1) := by decide +kernel
theorem kd_prog_1_method_4_code_60 : decode prog_1_method_4_code 60 = .ok (.getfield 17, 3) := by decide +kernel
theorem kd_prog_1_method_4_code_63 : decode prog_1_method_4_code 63 = .ok (.iload_n 1, 1) := by decide +kernel
theorem kd_prog_1_method_4_code_64 : decode prog_1_method_4_code 64 = .ok (.iconst 0, 1) := by decide +kernel
theorem kd_prog_1_method_4_code_65 : decode prog_1_method_4_code 65 = .ok (.iload 4, 2) := by decide +kernel
theorem kd_prog_1_method_4_code_67 : decode prog_1_method_4_code 67 = .ok (.iload 4, 2) := by decide +kernel
theorem kd_prog_1_method_4_code_69 : decode prog_1_method_4_code 69 = .ok (.invokevirtual 90, 3) := by decide +kernel
theorem kd_prog_1_method_4_code_72 : decode prog_1_method_4_code 72 = .ok (.ireturn, 1) := by decide +kernel
theorem kd_prog_1_method_4_code_73 : decode prog_1_method_4_code 73 = .ok (.aload_n 0, 1) := by decide +kernel
theorem kd_prog_1_method_4_code_74 : decode prog_1_method_4_code 74 = .ok (.getfield 17, 3) := by decide +kernel
theorem kd_prog_1_method_4_code_77 : decode prog_1_method_4_code 77 = .ok (.iload_n 1, 1) := by decide +kernel
theorem kd_prog_1_method_4_code_78 : decode prog_1_method_4_code 78 = .ok (.iload_n 3, 1) := by decide +kernel
theorem kd_prog_1_method_4_code_79 : decode prog_1_method_4_code 79 = .ok (.iload 4, 2) := by decide +kernel
theorem kd_prog_1_method_4_code_81 : decode prog_1_method_4_code 81 = .ok (.iload 5, 2) := by decide +kernel
theorem kd_prog_1_method_4_code_83 : decode prog_1_method_4_code 83 = .ok (.invokevirtual 90, 3) := by decide +kernel
theorem kd_prog_1_method_4_code_86 : decode prog_1_method_4_code 86 = .ok (.ireturn, 1) := by decide +kernel
theorem kd_prog_1_method_5_code_0 : decode prog_1_method_5_code 0 = .ok (.aload_n 0, 1) := by decide +kernel
theorem kd_prog_1_method_5_code_1 : decode prog_1_method_5_code 1 = .ok (.getfield 17, 3) := by decide +kernel
theorem kd_prog_1_method_5_code_4 : decode prog_1_method_5_code 4 = .ok (.getfield 42, 3) := by decide +kernel
theorem kd_prog_1_method_5_code_7 : decode prog_1_method_5_code 7 = .ok (.ifCond .ne 13, 3) := by decide +kernel
theorem kd_prog_1_method_5_code_10 : decode prog_1_method_5_code 10 = .ok (.new 45, 3) := by decide +kernel
theorem kd_prog_1_method_5_code_13 : decode prog_1_method_5_code 13 = .ok (.dup, 1) := by decide +kernel
theorem kd_prog_1_method_5_code_14 : decode prog_1_method_5_code 14 = .ok (.ldc 94, 2) := by decide +kernel
theorem kd_prog_1_method_5_code_16 : decode prog_1_method_5_code 16 = .ok (.invokespecial 49, 3) := by decide +kernel
theorem kd_prog_1_method_5_code_19 : decode prog_1_method_5_code 19 = .ok (.athrow, 1) := by decide +kernel
theorem kd_prog_1_method_5_code_20 : decode prog_1_method_5_code 20 = .ok (.aload_n 0, 1) := by decide +kernel
theorem kd_prog_1_method_5_code_21 : decode prog_1_method_5_code 21 = .ok (.getfield 17, 3) := by decide +kernel
theorem kd_prog_1_method_5_code_24 : decode prog_1_method_5_code 24 = .ok (.invokevirtual 96, 3) := by decide +kernel
theorem kd_prog_1_method_5_code_27 : decode prog_1_method_5_code 27 = .ok (.ifCond .ne 13, 3) := by decide +kernel
theorem kd_prog_1_method_5_code_30 : decode prog_1_method_5_code 30 = .ok (.new 99, 3) := by decide +kernel
theorem kd_prog_1_method_5_code_33 : decode prog_1_method_5_code 33 = .ok (.dup, 1) := by decide +kernel
theorem kd_prog_1_method_5_code_34 : decode prog_1_method_5_code 34 = .ok (.ldc 101, 2) := by decide +kernel
theorem kd_prog_1_method_5_code_36 : decode prog_1_method_5_code 36 = .ok (.invokespecial 103, 3) := by decide +kernel
theorem kd_prog_1_method_5_code_39 : decode prog_1_method_5_code 39 = .ok (.athrow, 1) := by decide +kernel
theorem kd_prog_1_method_5_code_40 : decode prog_1_method_5_code 40 = .ok (.aload_n 0, 1) := by decide +kernel
theorem kd_prog_1_method_5_code_41 : decode prog_1_method_5_code 41 = .ok (.getfield 21, 3) := by decide +kernel
theorem kd_prog_1_method_5_code_44 : decode prog_1_method_5_code 44 = .ok (.invokevirtual 104, 3) := by decide +kernel
theorem kd_prog_1_method_5_code_47 : decode prog_1_method_5_code 47 = .ok (.aload_n 0, 1) := by decide +kernel
theorem kd_prog_1_method_5_code_48 : decode prog_1_method_5_code 48 = .ok (.iconst 1, 1) := by decide +kernel
theorem kd_prog_1_method_5_code_49 : decode prog_1_method_5_code 49 = .ok (.putfield 34, 3) := by decide +kernel
theorem kd_prog_1_method_5_code_52 : decode prog_1_method_5_code 52 = .ok (.aload_n 0, 1) := by decide +kernel
theorem kd_prog_1_method_5_code_53 : decode prog_1_method_5_code 53 = .ok (.dup, 1) := by decide +kernel
theorem kd_prog_1_method_5_code_54 : decode prog_1_method_5_code 54 = .ok (.getfield 38, 3) := by decide +kernel
theorem kd_prog_1_method_5_code_57 : decode prog_1_method_5_code 57 = .ok (.iconst 1, 1) := by decide +kernel
theorem kd_prog_1_method_5_code_58 : decode prog_1_method_5_code 58 = .ok (.iadd, 1) := by decide +kernel
theorem kd_prog_1_method_5_code_59 : decode prog_1_method_5_code 59 = .ok (.putfield 38, 3) := by decide +kernel
theorem kd_prog_1_method_5_code_62 : decode prog_1_method_5_code 62 = .ok (.aload_n 0, 1) := by decide +kernel
theorem kd_prog_1_method_5_code_63 : decode prog_1_method_5_code 63 = .ok (.getfield 21, 3) := by decide +kernel
theorem kd_prog_1_method_5_code_66 : decode prog_1_method_5_code 66 = .ok (.invokevirtual 107, 3) := by decide +kernel
theorem kd_prog_1_method_5_code_69 : decode prog_1_method_5_code 69 = .ok (.ireturn, 1) := by decide +kernel
theorem kd_prog_1_method_6_code_0 : decode prog_1_method_6_code 0 = .ok (.aload_n 0, 1) := by decide +kernel
theorem kd_prog_1_method_6_code_1 : decode prog_1_method_6_code 1 = .ok (.getfield 34, 3) := by decide +kernel
theorem kd_prog_1_method_6_code_4 : decode prog_1_method_6_code 4 = .ok (.ifCond .ne 13, 3) := by decide +kernel
theorem kd_prog_1_method_6_code_7 : decode prog_1_method_6_code 7 = .ok (.new 45, 3) := by decide +kernel
theorem kd_prog_1_method_6_code_10 : decode prog_1_method_6_code 10 = .ok (.dup, 1) := by decide +kernel
theorem kd_prog_1_method_6_code_11 : decode prog_1_method_6_code 11 = .ok (.ldc 110, 2) := by decide +kernel
theorem kd_prog_1_method_6_code_13 : decode prog_1_method_6_code 13 = .ok (.invokespecial 49, 3) := by decide +kernel
theorem kd_prog_1_method_6_code_16 : decode prog_1_method_6_code 16 = .ok (.athrow, 1) := by decide +kernel
theorem kd_prog_1_method_6_code_17 : decode prog_1_method_6_code 17 = .ok (.aload_n 0, 1) := by decide +kernel
theorem kd_prog_1_method_6_code_18 : decode prog_1_method_6_code 18 = .ok (.getfield 17, 3) := by decide +kernel
theorem kd_prog_1_method_6_code_21 : decode prog_1_method_6_code 21 = .ok (.iload_n 1, 1) := by decide +kernel
theorem kd_prog_1_method_6_code_22 : decode prog_1_method_6_code 22 = .ok (.invokevirtual 80, 3) := by decide +kernel
theorem kd_prog_1_method_6_code_25 : decode prog_1_method_6_code 25 = .ok (.ifCond .eq 12, 3) := by decide +kernel
theorem kd_prog_1_method_6_code_28 : decode prog_1_method_6_code 28 = .ok (.iload_n 2, 1) := by decide +kernel
theorem kd_prog_1_method_6_code_29 : decode prog_1_method_6_code 29 = .ok (.ifCond .lt 8, 3) := by decide +kernel
theorem kd_prog_1_method_6_code_32 : decode prog_1_method_6_code 32 = .ok (.iload_n 2, 1) := by decide +kernel
theorem kd_prog_1_method_6_code_33 : decode prog_1_method_6_code 33 = .ok (.iconst 5, 1) := by decide +kernel
theorem kd_prog_1_method_6_code_34 : decode prog_1_method_6_code 34 = .ok (.if_icmp .le 13, 3) := by decide +kernel
theorem kd_prog_1_method_6_code_37 : decode prog_1_method_6_code 37 = .ok (.new 112, 3) := by decide +kernel
theorem kd_prog_1_method_6_code_40 : decode prog_1_method_6_code 40 = .ok (.dup, 1) := by decide +kernel
theorem kd_prog_1_method_6_code_41 : decode prog_1_method_6_code 41 = .ok (.ldc 114, 2) := by decide +kernel
theorem kd_prog_1_method_6_code_43 : decode prog_1_method_6_code 43 = .ok (.invokespecial 116, 3) := by decide +kernel
theorem kd_prog_1_method_6_code_46 : decode prog_1_method_6_code 46 = .ok (.athrow, 1) := by decide +kernel
theorem kd_prog_1_method_6_code_47 : decode prog_1_method_6_code 47 = .ok (.aload_n 0, 1) := by decide +kernel
theorem kd_prog_1_method_6_code_48 : decode prog_1_method_6_code 48 = .ok (.getfield 21, 3) := by decide +kernel
theorem kd_prog_1_method_6_code_51 : decode prog_1_method_6_code 51 = .ok (.iload_n 1, 1) := by decide +kernel
theorem kd_prog_1_method_6_code_52 : decode prog_1_method_6_code 52 = .ok (.iload_n 2, 1) := by decide +kernel
theorem kd_prog_1_method_6_code_53 : decode prog_1_method_6_code 53 = .ok (.invokevirtual 117, 3) := by decide +kernel
theorem kd_prog_1_method_6_code_56 : decode prog_1_method_6_code 56 = .ok (.lreturn, 1) := by decide +kernel
theorem kd_prog_1_method_7_code_0 : decode prog_1_method_7_code 0 = .ok (.aload_n 0, 1) := by decide +kernel
theorem kd_prog_1_method_7_code_1 : decode prog_1_method_7_code 1 = .ok (.getfield 34, 3) := by decide +kernel
theorem kd_prog_1_method_7_code_4 : decode prog_1_method_7_code 4 = .ok (.ifCond .ne 13, 3) := by decide +kernel
theorem kd_prog_1_method_7_code_7 : decode prog_1_method_7_code 7 = .ok (.new 45, 3) := by decide +kernel
theorem kd_prog_1_method_7_code_10 : decode prog_1_method_7_code 10 = .ok (.dup, 1) := by decide +kernel
theorem kd_prog_1_method_7_code_11 : decode prog_1_method_7_code 11 = .ok (.ldc 110, 2) := by decide +kernel
theorem kd_prog_1_method_7_code_13 : decode prog_1_method_7_code 13 = .ok (.invokespecial 49, 3) := by decide +kernel
theorem kd_prog_1_method_7_code_16 : decode prog_1_method_7_code 16 = .ok (.athrow, 1) := by decide +kernel
theorem kd_prog_1_method_7_code_17 : decode prog_1_method_7_code 17 = .ok (.aload_n 0, 1) := by decide +kernel
theorem kd_prog_1_method_7_code_18 : decode prog_1_method_7_code 18 = .ok (.getfield 21, 3) := by decide +kernel
theorem kd_prog_1_method_7_code_21 : decode prog_1_method_7_code 21 = .ok (.iload_n 1, 1) := by decide +kernel
theorem kd_prog_1_method_7_code_22 : decode prog_1_method_7_code 22 = .ok (.iload_n 2, 1) := by decide +kernel
theorem kd_prog_1_method_7_code_23 : decode prog_1_method_7_code 23 = .ok (.invokevirtual 121, 3) := by decide +kernel
theorem kd_prog_1_method_7_code_26 : decode prog_1_method_7_code 26 = .ok (.ifCond .ne 13, 3) := by decide +kernel
theorem kd_prog_1_method_7_code_29 : decode prog_1_method_7_code 29 = .ok (.new 125, 3) := by decide +kernel
theorem kd_prog_1_method_7_code_32 : decode prog_1_method_7_code 32 = .ok (.dup, 1) := by decide +kernel
theorem kd_prog_1_method_7_code_33 : decode prog_1_method_7_code 33 = .ok (.ldc 127, 2) := by decide +kernel
theorem kd_prog_1_method_7_code_35 : decode prog_1_method_7_code 35 = .ok (.invokespecial 129, 3) := by decide +kernel
theorem kd_prog_1_method_7_code_38 : decode prog_1_method_7_code 38 = .ok (.athrow, 1) := by decide +kernel
theorem kd_prog_1_method_7_code_39 : decode prog_1_method_7_code 39 = .ok (.aload_n 0, 1) := by decide +kernel
theorem kd_prog_1_method_7_code_40 : decode prog_1_method_7_code 40 = .ok (.getfield 21, 3) := by decide +kernel
theorem kd_prog_1_method_7_code_43 : decode prog_1_method_7_code 43 = .ok (.iload_n 1, 1) := by decide +kernel
theorem kd_prog_1_method_7_code_44 : decode prog_1_method_7_code 44 = .ok (.iload_n 2, 1) := by decide +kernel
theorem kd_prog_1_method_7_code_45 : decode prog_1_method_7_code 45 = .ok (.invokevirtual 130, 3) := by decide +kernel
theorem kd_prog_1_method_7_code_48 : decode prog_1_method_7_code 48 = .ok (.lreturn, 1) := by decide +kernel
theorem kd_prog_1_method_8_code_0 : decode prog_1_method_8_code 0 = .ok (.aload_n 0, 1) := by decide +kernel
theorem kd_prog_1_method_8_code_1 : decode prog_1_method_8_code 1 = .ok (.getfield 17, 3) := by decide +kernel
theorem kd_prog_1_method_8_code_4 : decode prog_1_method_8_code 4 = .ok (.iload_n 1, 1) := by decide +kernel
theorem kd_prog_1_method_8_code_5 : decode prog_1_method_8_code 5 = .ok (.iload_n 2, 1) := by decide +kernel
theorem kd_prog_1_method_8_code_6 : decode prog_1_method_8_code 6 = .ok (.iload_n 3, 1) := by decide +kernel
theorem kd_prog_1_method_8_code_7 : decode prog_1_method_8_code 7 = .ok (.invokevirtual 133, 3) := by decide +kernel
theorem kd_prog_1_method_8_code_10 : decode prog_1_method_8_code 10 = .ok (.istore 4, 2) := by decide +kernel
theorem kd_prog_1_method_8_code_12 : decode prog_1_method_8_code 12 = .ok (.iload 4, 2) := by decide +kernel
theorem kd_prog_1_method_8_code_14 : decode prog_1_method_8_code 14 = .ok (.iconst (-1), 1) := by decide +kernel
theorem kd_prog_1_method_8_code_15 : decode prog_1_method_8_code 15 = .ok (.if_icmp .ne 13, 3) := by decide +kernel
theorem kd_prog_1_method_8_code_18 : decode prog_1_method_8_code 18 = .ok (.new 125, 3) := by decide +kernel
theorem kd_prog_1_method_8_code_21 : decode prog_1_method_8_code 21 = .ok (.dup, 1) := by decide +kernel
theorem kd_prog_1_method_8_code_22 : decode prog_1_method_8_code 22 = .ok (.ldc 136, 2) := by decide +kernel
theorem kd_prog_1_method_8_code_24 : decode prog_1_method_8_code 24 = .ok (.invokespecial 129, 3) := by decide +kernel
theorem kd_prog_1_method_8_code_27 : decode prog_1_method_8_code 27 = .ok (.athrow, 1) := by decide +kernel
theorem kd_prog_1_method_8_code_28 : decode prog_1_method_8_code 28 = .ok (.iload 4, 2) := by decide +kernel
theorem kd_prog_1_method_8_code_30 : decode prog_1_method_8_code 30 = .ok (.ireturn, 1) := by decide +kernel
theorem kd_prog_1_method_9_code_0 : decode prog_1_method_9_code 0 = .ok (.aload_n 0, 1) := by decide +kernel
theorem kd_prog_1_method_9_code_1 : decode prog_1_method_9_code 1 = .ok (.getfield 34, 3) := by decide +kernel
theorem kd_prog_1_method_9_code_4 : decode prog_1_method_9_code 4 = .ok (.ifCond .ne 13, 3) := by decide +kernel
theorem kd_prog_1_method_9_code_7 : decode prog_1_method_9_code 7 = .ok (.new 45, 3) := by decide +kernel
theorem kd_prog_1_method_9_code_10 : decode prog_1_method_9_code 10 = .ok (.dup, 1) := by decide +kernel
theorem kd_prog_1_method_9_code_11 : decode prog_1_method_9_code 11 = .ok (.ldc 110, 2) := by decide +kernel
theorem kd_prog_1_method_9_code_13 : decode prog_1_method_9_code 13 = .ok (.invokespecial 49, 3) := by decide +kernel
theorem kd_prog_1_method_9_code_16 : decode prog_1_method_9_code 16 = .ok (.athrow, 1) := by decide +kernel
theorem kd_prog_1_method_9_code_17 : decode prog_1_method_9_code 17 = .ok (.aload_n 0, 1) := by decide +kernel
theorem kd_prog_1_method_9_code_18 : decode prog_1_method_9_code 18 = .ok (.getfield 30, 3) := by decide +kernel
theorem kd_prog_1_method_9_code_21 : decode prog_1_method_9_code 21 = .ok (.iload_n 2, 1) := by decide +kernel
theorem kd_prog_1_method_9_code_22 : decode prog_1_method_9_code 22 = .ok (.iload_n 3, 1) := by decide +kernel
theorem kd_prog_1_method_9_code_23 : decode prog_1_method_9_code 23 = .ok (.iload 4, 2) := by decide +kernel
theorem kd_prog_1_method_9_code_25 : decode prog_1_method_9_code 25 = .ok (.invokevirtual 138, 3) := by decide +kernel
theorem kd_prog_1_method_9_code_28 : decode prog_1_method_9_code 28 = .ok (.aload_n 0, 1) := by decide +kernel
theorem kd_prog_1_method_9_code_29 : decode prog_1_method_9_code 29 = .ok (.getfield 30, 3) := by decide +kernel
theorem kd_prog_1_method_9_code_32 : decode prog_1_method_9_code 32 = .ok (.iload_n 1, 1) := by decide +kernel
theorem kd_prog_1_method_9_code_33 : decode prog_1_method_9_code 33 = .ok (.invokevirtual 142, 3) := by decide +kernel
theorem kd_prog_1_method_9_code_36 : decode prog_1_method_9_code 36 = .ok (.aload_n 0, 1) := by decide +kernel
theorem kd_prog_1_method_9_code_37 : decode prog_1_method_9_code 37 = .ok (.getfield 30, 3) := by decide +kernel
theorem kd_prog_1_method_9_code_40 : decode prog_1_method_9_code 40 = .ok (.getfield 146, 3) := by decide +kernel
theorem kd_prog_1_method_9_code_43 : decode prog_1_method_9_code 43 = .ok (.ireturn, 1) := by decide +kernel
theorem kd_prog_1_method_11_code_0 : decode prog_1_method_11_code 0 = .ok (.iload_n 1, 1) := by decide +kernel
theorem kd_prog_1_method_11_code_1 : decode prog_1_method_11_code 1 = .ok (.ifCond .lt 20, 3) := by decide +kernel
theorem kd_prog_1_method_11_code_4 : decode prog_1_method_11_code 4 = .ok (.iload_n 1, 1) := by decide +kernel
theorem kd_prog_1_method_11_code_5 : decode prog_1_method_11_code 5 = .ok (.bipush 100, 2) := by decide +kernel
theorem kd_prog_1_method_11_code_7 : decode prog_1_method_11_code 7 = .ok (.if_icmp .ge 14, 3) := by decide +kernel
theorem kd_prog_1_method_11_code_10 : decode prog_1_method_11_code 10 = .ok (.iload_n 1, 1) := by decide +kernel
theorem kd_prog_1_method_11_code_11 : decode prog_1_method_11_code 11 = .ok (.aload_n 0, 1) := by decide +kernel
theorem kd_prog_1_method_11_code_12 : decode prog_1_method_11_code 12 = .ok (.getfield 30, 3) := by decide +kernel
theorem kd_prog_1_method_11_code_15 : decode prog_1_method_11_code 15 = .ok (.getfield 149, 3) := by decide +kernel
theorem kd_prog_1_method_11_code_18 : decode prog_1_method_11_code 18 = .ok (.if_icmp .lt 13, 3) := by decide +kernel
theorem kd_prog_1_method_11_code_21 : decode prog_1_method_11_code 21 = .ok (.new 112, 3) := by decide +kernel
theorem kd_prog_1_method_11_code_24 : decode prog_1_method_11_code 24 = .ok (.dup, 1) := by decide +kernel
theorem kd_prog_1_method_11_code_25 : decode prog_1_method_11_code 25 = .ok (.ldc 152, 2) := by decide +kernel
theorem kd_prog_1_method_11_code_27 : decode prog_1_method_11_code 27 = .ok (.invokespecial 116, 3) := by decide +kernel
theorem kd_prog_1_method_11_code_30 : decode prog_1_method_11_code 30 = .ok (.athrow, 1) := by decide +kernel
theorem kd_prog_1_method_11_code_31 : decode prog_1_method_11_code 31 = .ok (.aload_n 0, 1) := by decide +kernel
theorem kd_prog_1_method_11_code_32 : decode prog_1_method_11_code 32 = .ok (.getfield 30, 3) := by decide +kernel
theorem kd_prog_1_method_11_code_35 : decode prog_1_method_11_code 35 = .ok (.getfield 154, 3) := by decide +kernel
theorem kd_prog_1_method_11_code_38 : decode prog_1_method_11_code 38 = .ok (.iload_n 1, 1) := by decide +kernel
theorem kd_prog_1_method_11_code_39 : decode prog_1_method_11_code 39 = .ok (.iaload, 1) := by decide +kernel
theorem kd_prog_1_method_11_code_40 : decode prog_1_method_11_code 40 = .ok (.ireturn, 1) := by decide +kernel
theorem kd_prog_1_method_12_code_0 : decode prog_1_method_12_code 0 = .ok (.iload_n 1, 1) := by decide +kernel
theorem kd_prog_1_method_12_code_1 : decode prog_1_method_12_code 1 = .ok (.invokestatic 158, 3) := by decide +kernel
theorem kd_prog_1_method_12_code_4 : decode prog_1_method_12_code 4 = .ok (.ifCond .ne 13, 3) := by decide +kernel
theorem kd_prog_1_method_12_code_7 : decode prog_1_method_12_code 7 = .ok (.new 112, 3) := by decide +kernel
theorem kd_prog_1_method_12_code_10 : decode prog_1_method_12_code 10 = .ok (.dup, 1) := by decide +kernel
theorem kd_prog_1_method_12_code_11 : decode prog_1_method_12_code 11 = .ok (.ldc 161, 2) := by decide +kernel
theorem kd_prog_1_method_12_code_13 : decode prog_1_method_12_code 13 = .ok (.invokespecial 116, 3) := by decide +kernel
theorem kd_prog_1_method_12_code_16 : decode prog_1_method_12_code 16 = .ok (.athrow, 1) := by decide +kernel
theorem kd_prog_1_method_12_code_17 : decode prog_1_method_12_code 17 = .ok (.aload_n 0, 1) := by decide +kernel
theorem kd_prog_1_method_12_code_18 : decode prog_1_method_12_code 18 = .ok (.getfield 30, 3) := by decide +kernel
theorem kd_prog_1_method_12_code_21 : decode prog_1_method_12_code 21 = .ok (.getfield 163, 3) := by decide +kernel
theorem kd_prog_1_method_12_code_24 : decode prog_1_method_12_code 24 = .ok (.iload_n 1, 1) := by decide +kernel
theorem kd_prog_1_method_12_code_25 : decode prog_1_method_12_code 25 = .ok (.iaload, 1) := by decide +kernel
theorem kd_prog_1_method_12_code_26 : decode prog_1_method_12_code 26 = .ok (.ireturn, 1) := by decide +kernel
theorem kd_prog_1_method_14_code_0 : decode prog_1_method_14_code 0 = .ok (.iload_n 1, 1) := by decide +kernel
theorem kd_prog_1_method_14_code_1 : decode prog_1_method_14_code 1 = .ok (.tableswitch 60 0 3 #[31, 39, 47, 52], 31) := by decide +kernel
theorem kd_prog_1_method_14_code_32 : decode prog_1_method_14_code 32 = .ok (.aload_n 0, 1) := by decide +kernel
theorem kd_prog_1_method_14_code_33 : decode prog_1_method_14_code 33 = .ok (.getfield 17, 3) := by decide +kernel
theorem kd_prog_1_method_14_code_36 : decode prog_1_method_14_code 36 = .ok (.getfield 42, 3) := by decide +kernel
theorem kd_prog_1_method_14_code_39 : decode prog_1_method_14_code 39 = .ok (.ireturn, 1) := by decide +kernel
theorem kd_prog_1_method_14_code_40 : decode prog_1_method_14_code 40 = .ok (.aload_n 0, 1) := by decide +kernel
theorem kd_prog_1_method_14_code_41 : decode prog_1_method_14_code 41 = .ok (.getfield 17, 3) := by decide +kernel
theorem kd_prog_1_method_14_code_44 : decode prog_1_method_14_code 44 = .ok (.getfield 169, 3) := by decide +kernel
theorem kd_prog_1_method_14_code_47 : decode prog_1_method_14_code 47 = .ok (.ireturn, 1) := by decide +kernel
theorem kd_prog_1_method_14_code_48 : decode prog_1_method_14_code 48 = .ok (.aload_n 0, 1) := by decide +kernel
theorem kd_prog_1_method_14_code_49 : decode prog_1_method_14_code 49 = .ok (.getfield 38, 3) := by decide +kernel
theorem kd_prog_1_method_14_code_52 : decode prog_1_method_14_code 52 = .ok (.ireturn, 1) := by decide +kernel
theorem kd_prog_1_method_14_code_53 : decode prog_1_method_14_code 53 = .ok (.aload_n 0, 1) := by decide +kernel
theorem kd_prog_1_method_14_code_54 : decode prog_1_method_14_code 54 = .ok (.getfield 30, 3) := by decide +kernel
theorem kd_prog_1_method_14_code_57 : decode prog_1_method_14_code 57 = .ok (.getfield 172, 3) := by decide +kernel
theorem kd_prog_1_method_14_code_60 : decode prog_1_method_14_code 60 = .ok (.ireturn, 1) := by decide +kernel
theorem kd_prog_1_method_14_code_61 : decode prog_1_method_14_code 61 = .ok (.new 112, 3) := by decide +kernel
theorem kd_prog_1_method_14_code_64 : decode prog_1_method_14_code 64 = .ok (.dup, 1) := by decide +kernel
theorem kd_prog_1_method_14_code_65 : decode prog_1_method_14_code 65 = .ok (.ldc 175, 2) := by decide +kernel
theorem kd_prog_1_method_14_code_67 : decode prog_1_method_14_code 67 = .ok (.invokespecial 116, 3) := by decide +kernel
theorem kd_prog_1_method_14_code_70 : decode prog_1_method_14_code 70 = .ok (.athrow, 1) := by decide +kernel
section
variable {p : Program} {l : Launch} {e : Env} {R : Room} {s : State} {m : MethodId} {args : Array Value} {below : List Frame} {meth : Method} {c : Code} {Q : State → Prop} {ce sl : Nat} {D : va_G} {q : Nat → Nat} {cA : Nat → ClassId} {A : Nat → Prop}
set_option maxHeartbeats 4000000 in
set_option maxRecDepth 100000 in
theorem w_C_block (hx : p.tables.exec = Jvm.exec) (hb : c.code = prog_1_method_2_code) (hml : c.maxLocals = 1) (hown : s.vm.findClass kr_C = some m.cls) (hts : ∀ w ∈ lw_g, w.before args s = true) (hRf : 2 ≤ R.frames) (hRl : 45 ≤ R.locals) (hce : ce ≤ R.cells) (hsl : sl ≤ R.slots) (hA : ∀ x, s.heap.size ≤ x → A x) (hK : va_K D wk_cl (tysW cA) s) (z : Sta) (K : Int32 → Sta → Prop) (T : String → Sta → Prop) (h : wp_C_block z K T) (hret : ∀ (r : Int32) (u : Sta) (H : Heap) (locs : List Loc) (pc : Nat) (ls : Array Slot), K r u → wk_S D q cA A s.heap u H locs → decode prog_1_method_2_code pc = .ok (.ireturn, 1) → W p l e R s m args below meth c H locs ce sl Q (F0 m pc ls [.int r])) (ht12 : ∀ (u : Sta) (H : Heap) (locs : List Loc) (ls : Array Slot), T "java/lang/IllegalStateException" u → wk_S D q cA A s.heap u H locs → ls.size = 1 → W p l e R s m args below meth c H locs ce sl Q (F0 m 12 ls [])) {H : Heap} {locs : List Loc} {ls : Array Slot} (hV : wk_S D q cA A s.heap z H locs) (hl : lv_has ls 1 [(0, .ref (q 0))]) : W p l e R s m args below meth c H locs ce sl Q (F0 m 0 ls []) := by
  unfold wp_C_block at h
  refine lv_aload_n hx hb kd_prog_1_method_2_code_0 rfl (lv_at hl 0 rfl) ?_
  refine va_get (D := D) (ci := 0) (v := .ref (q 1)) (C := kr_C) (T := kt_C) (N := kn_C) hx hb hts ki_C hown hK hV.1 0 rfl rfl 0 (by decide) (hts _ hw_173) (fun _ h9 => h9) rfl kd_prog_1_method_2_code_1 ?_
  refine va_get (D := D) (ci := 1) (v := .int (z.1 2)) (C := kr_P) (T := kt_P) (N := kn_P) hx hb hts ki_P hown hK hV.1 1 rfl rfl 0 (by decide) (hts _ hw_31) (fun _ h9 => h9) rfl kd_prog_1_method_2_code_4 ?_
  refine lv_topi (fun v1 ev1 => ?_)
  have h := h v1 ev1
  refine lv_bipush (v := 16) hx hb kd_prog_1_method_2_code_7 (by decide) ?_
  refine lv_icmp_lt (tgt := 22) hx hb kd_prog_1_method_2_code_9 (by decide) (fun hc => ?_) (fun hc => ?_)
  · have h := h.1 hc
    refine lv_aload_n hx hb kd_prog_1_method_2_code_22 rfl (lv_at hl 0 rfl) ?_
    refine lv_iconst (v := 0) hx hb kd_prog_1_method_2_code_23 (by decide) ?_
    refine wk_put (D := D) (ci := 0) (v := .int (0 : Int32)) (ty := .boolean) (C := kr_C) (T := kt_C) (N := kn_C) (z1 := zI z 0 (0 : Int32)) hx hb hts ki_C ky_C ko_C km_C hown hK hV 0 rfl rfl 3 (by decide) (hts _ hw_176) (fun _ h9 => h9) rfl (by decide +kernel) rfl rfl (Nat.le_of_ble_eq_true rfl) rfl kd_prog_1_method_2_code_24 (fun H locs hV => ?_)
    obtain ⟨z2, ez2⟩ : ∃ x : Sta, x = zI z 0 (0 : Int32) := ⟨_, rfl⟩
    rw [← ez2] at hV
    have h := h z2 ez2
    refine lv_aload_n hx hb kd_prog_1_method_2_code_27 rfl (lv_at hl 0 rfl) ?_
    refine va_get (D := D) (ci := 0) (v := .ref (q 1)) (C := kr_C) (T := kt_C) (N := kn_C) hx hb hts ki_C hown hK hV.1 0 rfl rfl 0 (by decide) (hts _ hw_173) (fun _ h9 => h9) rfl kd_prog_1_method_2_code_28 ?_
    refine wk_calli (va_runV (As := []) (rest := []) ⟨hx, hb, hml, hown, hts⟩ (c_P_addBlock l D q cA z2 H.size _ h) (cwV 0 hts gs_C_52 rfl rfl rfl (by decide +kernel) ⟨Nat.le_trans (by decide) hRf, Nat.le_trans (by decide) hRl⟩) (wk_preV hK hV 1 1 rfl rfl []) rfl rfl hl.1 rfl (lv_room (Nat.le_of_ble_eq_true rfl)) kd_prog_1_method_2_code_31 ⟨hce, hsl⟩) hV hA (fun rz3 z3 H locs h hV => ?_)
    exact hret rz3 z3 H locs 34 ls h hV kd_prog_1_method_2_code_34
  · have h := h.2 hc
    exact ht12 z H locs ls h hV hl.1
end
set_option maxHeartbeats 4000000 in
set_option maxRecDepth 100000 in
theorem c_C_block (l : Launch) (hst : l.stackTraces = false) (D : va_G) (q : Nat → Nat) (cA : Nat → ClassId) (SA : Nat → Nat) (z : Sta) (sz : Nat) (K : Int32 → Sta → Prop) (T : String → Sta → Prop) (h : wp_C_block z K T) : vx_Met l ke_C_block (kc_C_block :: lw_g) { frames := 6, cells := 1, slots := 6, locals := 82 } (wk_PcX D q cA SA [.ref (q 0)] z sz) (va_Qi K (wk_B D q cA (va_A (wW q cA z) sz)) (va_A (wW q cA z) sz)) (wk_XC D q cA T (va_A (wW q cA z) sz)) 1 6 (va_A (wW q cA z) sz) := by
  refine vx_ofW (cc := prog_1_method_2_code) (maxL := 1) (ret := (some .int)) (by decide) rfl ?_
  intro p e s m args below meth c s₁ B hml htab hv
  obtain ⟨rfl, hsz, hP, hK, hD0, hX⟩ := hv
  have hx := B.exec
  have hb := B.bytes
  have hr := B.returns
  have hlocks := B.notSynchronized
  have hts0 := atoms_spec (ws := kc_C_block :: lw_g) B.pre
  have hts : ∀ w ∈ lw_g, w.before ([.ref (q 0)] : List Value).toArray s = true := fun w hw => hts0 w (List.mem_cons_of_mem _ hw)
  have hown : s.vm.findClass kr_C = some m.cls := findClass_of_methodNamed B.named
  subst hsz
  have hD := hD0.self (sz := s.heap.size)
  generalize hAe : va_A (wW q cA z) s.heap.size = A at hD hX ⊢
  have hA : ∀ x : Nat, s.heap.size ≤ x → A x := fun x hx => by rw [← hAe]; exact Or.inr hx
  have hl := lv_entry ([.ref (q 0)]) (n := 1) (Nat.le_of_ble_eq_true rfl)
  rw [lg_entry_eq]
  generalize (lg_sl ([.ref (q 0)]) ++ List.replicate (1 - (lg_sl ([.ref (q 0)])).length) Slot.unset).toArray = ls at hl ⊢
  have hl : lv_has ls 1 [(0, .ref (q 0))] := hl
  exact w_C_block (ce := 0) (sl := 0) hx hb hml hown hts (Nat.le_of_ble_eq_true rfl) (Nat.le_of_ble_eq_true rfl) (Nat.zero_le _) (Nat.zero_le _) hA hK z K T h (fun r u H locs pc ls hk hV hd => vx_ret (W.widen (k := 1) (n := 6) (Nat.zero_le _) (Nat.zero_le _) (W.iret hx hb hr (fun t ht hW => ⟨⟨r, u, rfl, hk, by rw [ht]; exact hV.1, va_K.moved hW.alike hK, hV.2.1⟩, hV.2.2.F ht⟩) hV.2.2.2.2 hd))) (fun u H locs ls hT hV hs => wk_thr hx hb hst hown hx_49 0 rfl (hts _ hw_205) (hts _ hw_9) hts hX hK hV (hs.trans hml.symm) kd_prog_1_method_2_code_12 kd_prog_1_method_2_code_15 kd_prog_1_method_2_code_16 kd_prog_1_method_2_code_18 kd_prog_1_method_2_code_21 htab (Nat.le_of_ble_eq_true rfl) (Nat.le_of_ble_eq_true rfl) (Nat.le_refl _) (Nat.le_refl _) hlocks hT) ⟨hP, hD, va_S.rf⟩ hl
section
variable {p : Program} {l : Launch} {e : Env} {R : Room} {s : State} {m : MethodId} {args : Array Value} {below : List Frame} {meth : Method} {c : Code} {Q : State → Prop} {ce sl : Nat} {D : va_G} {q : Nat → Nat} {cA : Nat → ClassId} {A : Nat → Prop}
set_option maxHeartbeats 4000000 in
set_option maxRecDepth 100000 in
theorem w_C_statement (hx : p.tables.exec = Jvm.exec) (hb : c.code = prog_1_method_3_code) (hml : c.maxLocals = 7) (hown : s.vm.findClass kr_C = some m.cls) (hts : ∀ w ∈ lw_g, w.before args s = true) (hRf : 2 ≤ R.frames) (hRl : 48 ≤ R.locals) (hce : ce ≤ R.cells) (hsl : sl ≤ R.slots) (hA : ∀ x, s.heap.size ≤ x → A x) (hK : va_K D wk_cl (tysW cA) s) (x1 : Int32) (x2 : Int32) (x3 : Int32) (x4 : Int32) (x5 : Int32) (z : Sta) (K : Int32 → Sta → Prop) (T : String → Sta → Prop) (h : wp_C_statement x1 x2 x3 x4 x5 z K T) (hret : ∀ (r : Int32) (u : Sta) (H : Heap) (locs : List Loc) (pc : Nat) (ls : Array Slot), K r u → wk_S D q cA A s.heap u H locs → decode prog_1_method_3_code pc = .ok (.ireturn, 1) → W p l e R s m args below meth c H locs ce sl Q (F0 m pc ls [.int r])) (ht71 : ∀ (u : Sta) (H : Heap) (locs : List Loc) (ls : Array Slot), T "java/lang/IllegalStateException" u → wk_S D q cA A s.heap u H locs → ls.size = 7 → W p l e R s m args below meth c H locs ce sl Q (F0 m 71 ls [])) (ht33 : ∀ (u : Sta) (H : Heap) (locs : List Loc) (ls : Array Slot), T "java/lang/IllegalStateException" u → wk_S D q cA A s.heap u H locs → ls.size = 7 → W p l e R s m args below meth c H locs ce sl Q (F0 m 33 ls [])) (ht13 : ∀ (u : Sta) (H : Heap) (locs : List Loc) (ls : Array Slot), T "java/lang/IllegalArgumentException" u → wk_S D q cA A s.heap u H locs → ls.size = 7 → W p l e R s m args below meth c H locs ce sl Q (F0 m 13 ls [])) {H : Heap} {locs : List Loc} {ls : Array Slot} (hV : wk_S D q cA A s.heap z H locs) (hl : lv_has ls 7 [(0, .ref (q 0)), (1, .int x1), (2, .int x2), (3, .int x3), (4, .int x4), (5, .int x5)]) : W p l e R s m args below meth c H locs ce sl Q (F0 m 0 ls []) := by
  have J81 : ∀ (x1 : Int32) (x2 : Int32) (x6 : Int32) (z : Sta) (H : Heap) (locs : List Loc) (ls : Array Slot), wk_S D q cA A s.heap z H locs → lv_has ls 7 [(0, .ref (q 0)), (1, .int x1), (2, .int x2), (6, .int x6)] → pj_C_statement_81 K T x1 x2 x6 z → W p l e R s m args below meth c H locs ce sl Q (F0 m 81 ls []) := by
    intro x1 x2 x6 z H locs ls hV hl h
    unfold pj_C_statement_81 at h
    refine lv_aload_n hx hb kd_prog_1_method_3_code_81 rfl (lv_at hl 0 rfl) ?_
    refine lv_iconst (v := 0) hx hb kd_prog_1_method_3_code_82 (by decide) ?_
    refine wk_put (D := D) (ci := 0) (v := .int (0 : Int32)) (ty := .boolean) (C := kr_C) (T := kt_C) (N := kn_C) (z1 := zI z 0 (0 : Int32)) hx hb hts ki_C ky_C ko_C km_C hown hK hV 0 rfl rfl 3 (by decide) (hts _ hw_176) (fun _ h9 => h9) rfl (by decide +kernel) rfl rfl (Nat.le_of_ble_eq_true rfl) rfl kd_prog_1_method_3_code_83 (fun H locs hV => ?_)
    obtain ⟨z4, ez4⟩ : ∃ x : Sta, x = zI z 0 (0 : Int32) := ⟨_, rfl⟩
    rw [← ez4] at hV
    have h := h z4 ez4
    refine lv_aload_n hx hb kd_prog_1_method_3_code_86 rfl (lv_at hl 0 rfl) ?_
    refine va_get (D := D) (ci := 0) (v := .ref (q 1)) (C := kr_C) (T := kt_C) (N := kn_C) hx hb hts ki_C hown hK hV.1 0 rfl rfl 0 (by decide) (hts _ hw_173) (fun _ h9 => h9) rfl kd_prog_1_method_3_code_87 ?_
    refine lv_iload_n hx hb kd_prog_1_method_3_code_90 rfl (lv_at hl 1 rfl) ?_
    refine lv_iload_n hx hb kd_prog_1_method_3_code_91 rfl (lv_at hl 2 rfl) ?_
    refine lv_iload hx hb kd_prog_1_method_3_code_92 (lv_at hl 3 rfl) ?_
    refine wk_calli (va_runV (As := [.int x1, .int x2, .int x6]) (rest := []) ⟨hx, hb, hml, hown, hts⟩ (c_P_addStatement l D q cA x1 x2 x6 z4 H.size _ h) (cwV 3 hts gs_C_77 rfl rfl rfl (by decide +kernel) ⟨Nat.le_trans (by decide) hRf, Nat.le_trans (by decide) hRl⟩) (wk_preV hK hV 1 1 rfl rfl [.int x1, .int x2, .int x6]) rfl rfl hl.1 rfl (lv_room (Nat.le_of_ble_eq_true rfl)) kd_prog_1_method_3_code_94 ⟨hce, hsl⟩) hV hA (fun rz5 z5 H locs h hV => ?_)
    exact hret rz5 z5 H locs 97 ls h hV kd_prog_1_method_3_code_97
  unfold wp_C_statement at h
  refine lv_iload_n hx hb kd_prog_1_method_3_code_0 rfl (lv_at hl 1 rfl) ?_
  refine lv_iload_n hx hb kd_prog_1_method_3_code_1 rfl (lv_at hl 2 rfl) ?_
  refine lv_iload_n hx hb kd_prog_1_method_3_code_2 rfl (lv_at hl 3 rfl) ?_
  refine lv_iload hx hb kd_prog_1_method_3_code_3 (lv_at hl 4 rfl) ?_
  refine lv_iload hx hb kd_prog_1_method_3_code_5 (lv_at hl 5 rfl) ?_
  refine wk_calli (va_runS (As := [.int x1, .int x2, .int x3, .int x4, .int x5]) (rest := []) ⟨hx, hb, hml, hown, hts⟩ (c_C_isStatement l D q cA x1 x2 x3 x4 x5 z H.size _ h) (cwS 5 hts gs_C_56 rfl rfl rfl (by decide +kernel) ⟨Nat.le_trans (by decide) hRf, Nat.le_trans (by decide) hRl⟩) (wk_preS hK hV [.int x1, .int x2, .int x3, .int x4, .int x5]) rfl rfl hl.1 rfl (lv_room (Nat.le_of_ble_eq_true rfl)) kd_prog_1_method_3_code_7 ⟨hce, hsl⟩) hV hA (fun rz1 z1 H locs h hV => ?_)
  refine lv_if_ne (tgt := 23) hx hb kd_prog_1_method_3_code_10 (by decide) (fun hc => ?_) (fun hc => ?_)
  · have h := h.1 hc
    refine lv_aload_n hx hb kd_prog_1_method_3_code_23 rfl (lv_at hl 0 rfl) ?_
    refine va_get (D := D) (ci := 0) (v := .ref (q 1)) (C := kr_C) (T := kt_C) (N := kn_C) hx hb hts ki_C hown hK hV.1 0 rfl rfl 0 (by decide) (hts _ hw_173) (fun _ h9 => h9) rfl kd_prog_1_method_3_code_24 ?_
    refine wk_calli (va_runV (As := []) (rest := []) ⟨hx, hb, hml, hown, hts⟩ (c_P_takesStatement l D q cA z1 H.size _ h) (cwV 0 hts gs_C_65 rfl rfl rfl (by decide +kernel) ⟨Nat.le_trans (by decide) hRf, Nat.le_trans (by decide) hRl⟩) (wk_preV hK hV 1 1 rfl rfl []) rfl rfl hl.1 rfl (lv_room (Nat.le_of_ble_eq_true rfl)) kd_prog_1_method_3_code_27 ⟨hce, hsl⟩) hV hA (fun rz2 z2 H locs h hV => ?_)
    refine lv_if_ne (tgt := 43) hx hb kd_prog_1_method_3_code_30 (by decide) (fun hc => ?_) (fun hc => ?_)
    · have h := h.1 hc
      refine lv_iload_n hx hb kd_prog_1_method_3_code_43 rfl (lv_at hl 3 rfl) ?_
      refine lv_istore hx hb kd_prog_1_method_3_code_44 hl (by decide) rfl (fun ls hl => ?_)
      have hl : lv_has ls 7 [(6, .int x3), (0, .ref (q 0)), (1, .int x1), (2, .int x2), (3, .int x3), (4, .int x4), (5, .int x5)] := hl
      refine lv_iload_n hx hb kd_prog_1_method_3_code_46 rfl (lv_at hl 2 rfl) ?_
      refine lv_iconst (v := 2) hx hb kd_prog_1_method_3_code_47 (by decide) ?_
      refine lv_icmp_ne (tgt := 81) hx hb kd_prog_1_method_3_code_48 (by decide) (fun hc => ?_) (fun hc => ?_)
      · have h := h.1 hc
        exact J81 x1 x2 x3 z2 H locs ls hV (lv_sub hl [1, 2, 3, 0] rfl) h
      · have h := h.2 hc
        refine lv_aload_n hx hb kd_prog_1_method_3_code_51 rfl (lv_at hl 1 rfl) ?_
        refine va_get (D := D) (ci := 0) (v := .ref (q 1)) (C := kr_C) (T := kt_C) (N := kn_C) hx hb hts ki_C hown hK hV.1 0 rfl rfl 0 (by decide) (hts _ hw_173) (fun _ h9 => h9) rfl kd_prog_1_method_3_code_52 ?_
        refine lv_iload_n hx hb kd_prog_1_method_3_code_55 rfl (lv_at hl 4 rfl) ?_
        refine lv_iload hx hb kd_prog_1_method_3_code_56 (lv_at hl 5 rfl) ?_
        refine lv_iload hx hb kd_prog_1_method_3_code_58 (lv_at hl 6 rfl) ?_
        refine wk_calli (va_runV (As := [.int x3, .int x4, .int x5]) (rest := []) ⟨hx, hb, hml, hown, hts⟩ (c_P_findOrAddExpression l D q cA x3 x4 x5 z2 H.size _ h) (cwV 3 hts gs_C_71 rfl rfl rfl (by decide +kernel) ⟨Nat.le_trans (by decide) hRf, Nat.le_trans (by decide) hRl⟩) (wk_preV hK hV 1 1 rfl rfl [.int x3, .int x4, .int x5]) rfl rfl hl.1 rfl (lv_room (Nat.le_of_ble_eq_true rfl)) kd_prog_1_method_3_code_60 ⟨hce, hsl⟩) hV hA (fun rz3 z3 H locs h hV => ?_)
        refine lv_istore hx hb kd_prog_1_method_3_code_63 hl (by decide) rfl (fun ls hl => ?_)
        have hl : lv_has ls 7 [(6, .int rz3), (0, .ref (q 0)), (1, .int x1), (2, .int x2), (3, .int x3), (4, .int x4), (5, .int x5)] := hl
        refine lv_iload hx hb kd_prog_1_method_3_code_65 (lv_at hl 0 rfl) ?_
        refine lv_iconst (v := (-1)) hx hb kd_prog_1_method_3_code_67 (by decide) ?_
        refine lv_icmp_ne (tgt := 81) hx hb kd_prog_1_method_3_code_68 (by decide) (fun hc => ?_) (fun hc => ?_)
        · have h := h.1 hc
          exact J81 x1 x2 rz3 z3 H locs ls hV (lv_sub hl [1, 2, 3, 0] rfl) h
        · have h := h.2 hc
          exact ht71 z3 H locs ls h hV hl.1
    · have h := h.2 hc
      exact ht33 z2 H locs ls h hV hl.1
  · have h := h.2 hc
    exact ht13 z1 H locs ls h hV hl.1
end
set_option maxHeartbeats 4000000 in
set_option maxRecDepth 100000 in
theorem c_C_statement (l : Launch) (hst : l.stackTraces = false) (D : va_G) (q : Nat → Nat) (cA : Nat → ClassId) (SA : Nat → Nat) (x1 : Int32) (x2 : Int32) (x3 : Int32) (x4 : Int32) (x5 : Int32) (z : Sta) (sz : Nat) (K : Int32 → Sta → Prop) (T : String → Sta → Prop) (h : wp_C_statement x1 x2 x3 x4 x5 z K T) : vx_Met l ke_C_statement (kc_C_statement :: lw_g) { frames := 6, cells := 1, slots := 6, locals := 82 } (wk_PcX D q cA SA [.ref (q 0), .int x1, .int x2, .int x3, .int x4, .int x5] z sz) (va_Qi K (wk_B D q cA (va_A (wW q cA z) sz)) (va_A (wW q cA z) sz)) (wk_XC D q cA T (va_A (wW q cA z) sz)) 1 6 (va_A (wW q cA z) sz) := by
  refine vx_ofW (cc := prog_1_method_3_code) (maxL := 7) (ret := (some .int)) (by decide) rfl ?_
  intro p e s m args below meth c s₁ B hml htab hv
  obtain ⟨rfl, hsz, hP, hK, hD0, hX⟩ := hv
  have hx := B.exec
  have hb := B.bytes
  have hr := B.returns
  have hlocks := B.notSynchronized
  have hts0 := atoms_spec (ws := kc_C_statement :: lw_g) B.pre
  have hts : ∀ w ∈ lw_g, w.before ([.ref (q 0), .int x1, .int x2, .int x3, .int x4, .int x5] : List Value).toArray s = true := fun w hw => hts0 w (List.mem_cons_of_mem _ hw)
  have hown : s.vm.findClass kr_C = some m.cls := findClass_of_methodNamed B.named
  subst hsz
  have hD := hD0.self (sz := s.heap.size)
  generalize hAe : va_A (wW q cA z) s.heap.size = A at hD hX ⊢
  have hA : ∀ x : Nat, s.heap.size ≤ x → A x := fun x hx => by rw [← hAe]; exact Or.inr hx
  have hl := lv_entry ([.ref (q 0), .int x1, .int x2, .int x3, .int x4, .int x5]) (n := 7) (Nat.le_of_ble_eq_true rfl)
  rw [lg_entry_eq]
  generalize (lg_sl ([.ref (q 0), .int x1, .int x2, .int x3, .int x4, .int x5]) ++ List.replicate (7 - (lg_sl ([.ref (q 0), .int x1, .int x2, .int x3, .int x4, .int x5])).length) Slot.unset).toArray = ls at hl ⊢
  have hl : lv_has ls 7 [(0, .ref (q 0)), (1, .int x1), (2, .int x2), (3, .int x3), (4, .int x4), (5, .int x5)] := hl
  exact w_C_statement (ce := 0) (sl := 0) hx hb hml hown hts (Nat.le_of_ble_eq_true rfl) (Nat.le_of_ble_eq_true rfl) (Nat.zero_le _) (Nat.zero_le _) hA hK x1 x2 x3 x4 x5 z K T h (fun r u H locs pc ls hk hV hd => vx_ret (W.widen (k := 1) (n := 6) (Nat.zero_le _) (Nat.zero_le _) (W.iret hx hb hr (fun t ht hW => ⟨⟨r, u, rfl, hk, by rw [ht]; exact hV.1, va_K.moved hW.alike hK, hV.2.1⟩, hV.2.2.F ht⟩) hV.2.2.2.2 hd))) (fun u H locs ls hT hV hs => wk_thr hx hb hst hown hx_49 1 rfl (hts _ hw_205) (hts _ hw_9) hts hX hK hV (hs.trans hml.symm) kd_prog_1_method_3_code_71 kd_prog_1_method_3_code_74 kd_prog_1_method_3_code_75 kd_prog_1_method_3_code_77 kd_prog_1_method_3_code_80 htab (Nat.le_of_ble_eq_true rfl) (Nat.le_of_ble_eq_true rfl) (Nat.le_refl _) (Nat.le_refl _) hlocks hT) (fun u H locs ls hT hV hs => wk_thr hx hb hst hown hx_49 2 rfl (hts _ hw_205) (hts _ hw_9) hts hX hK hV (hs.trans hml.symm) kd_prog_1_method_3_code_33 kd_prog_1_method_3_code_36 kd_prog_1_method_3_code_37 kd_prog_1_method_3_code_39 kd_prog_1_method_3_code_42 htab (Nat.le_of_ble_eq_true rfl) (Nat.le_of_ble_eq_true rfl) (Nat.le_refl _) (Nat.le_refl _) hlocks hT) (fun u H locs ls hT hV hs => wk_thr hx hb hst hown hx_64 3 rfl (hts _ hw_297) (hts _ hw_10) hts hX hK hV (hs.trans hml.symm) kd_prog_1_method_3_code_13 kd_prog_1_method_3_code_16 kd_prog_1_method_3_code_17 kd_prog_1_method_3_code_19 kd_prog_1_method_3_code_22 htab (Nat.le_of_ble_eq_true rfl) (Nat.le_of_ble_eq_true rfl) (Nat.le_refl _) (Nat.le_refl _) hlocks hT) ⟨hP, hD, va_S.rf⟩ hl
section
variable {p : Program} {l : Launch} {e : Env} {R : Room} {s : State} {m : MethodId} {args : Array Value} {below : List Frame} {meth : Method} {c : Code} {Q : State → Prop} {ce sl : Nat} {D : va_G} {q : Nat → Nat} {cA : Nat → ClassId} {A : Nat → Prop}
set_option maxHeartbeats 4000000 in
set_option maxRecDepth 100000 in
theorem w_C_end (hx : p.tables.exec = Jvm.exec) (hb : c.code = prog_1_method_4_code) (hml : c.maxLocals = 6) (hown : s.vm.findClass kr_C = some m.cls) (hts : ∀ w ∈ lw_g, w.before args s = true) (hRf : 2 ≤ R.frames) (hRl : 43 ≤ R.locals) (hce : ce ≤ R.cells) (hsl : sl ≤ R.slots) (hA : ∀ x, s.heap.size ≤ x → A x) (hK : va_K D wk_cl (tysW cA) s) (x1 : Int32) (x2 : Int32) (x3 : Int32) (x4 : Int32) (x5 : Int32) (z : Sta) (K : Int32 → Sta → Prop) (T : String → Sta → Prop) (h : wp_C_end x1 x2 x3 x4 x5 z K T) (hret : ∀ (r : Int32) (u : Sta) (H : Heap) (locs : List Loc) (pc : Nat) (ls : Array Slot), K r u → wk_S D q cA A s.heap u H locs → decode prog_1_method_4_code pc = .ok (.ireturn, 1) → W p l e R s m args below meth c H locs ce sl Q (F0 m pc ls [.int r])) (ht23 : ∀ (u : Sta) (H : Heap) (locs : List Loc) (ls : Array Slot), T "java/lang/IllegalArgumentException" u → wk_S D q cA A s.heap u H locs → ls.size = 6 → W p l e R s m args below meth c H locs ce sl Q (F0 m 23 ls [])) {H : Heap} {locs : List Loc} {ls : Array Slot} (hV : wk_S D q cA A s.heap z H locs) (hl : lv_has ls 6 [(0, .ref (q 0)), (1, .int x1), (2, .int x2), (3, .int x3), (4, .int x4), (5, .int x5)]) : W p l e R s m args below meth c H locs ce sl Q (F0 m 0 ls []) := by
  have J23 : ∀ (z : Sta) (H : Heap) (locs : List Loc) (ls : Array Slot), wk_S D q cA A s.heap z H locs → lv_has ls 6 [] → pj_C_end_23 K T z → W p l e R s m args below meth c H locs ce sl Q (F0 m 23 ls []) := by
    intro z H locs ls hV hl h
    unfold pj_C_end_23 at h
    exact ht23 z H locs ls h hV hl.1
  unfold wp_C_end at h
  refine lv_aload_n hx hb kd_prog_1_method_4_code_0 rfl (lv_at hl 0 rfl) ?_
  refine va_get (D := D) (ci := 0) (v := .ref (q 1)) (C := kr_C) (T := kt_C) (N := kn_C) hx hb hts ki_C hown hK hV.1 0 rfl rfl 0 (by decide) (hts _ hw_173) (fun _ h9 => h9) rfl kd_prog_1_method_4_code_1 ?_
  refine lv_iload_n hx hb kd_prog_1_method_4_code_4 rfl (lv_at hl 1 rfl) ?_
  refine wk_calli (va_runV (As := [.int x1]) (rest := []) ⟨hx, hb, hml, hown, hts⟩ (c_P_hasBlock l D q cA x1 z H.size _ h) (cwV 1 hts gs_C_80 rfl rfl rfl (by decide +kernel) ⟨Nat.le_trans (by decide) hRf, Nat.le_trans (by decide) hRl⟩) (wk_preV hK hV 1 1 rfl rfl [.int x1]) rfl rfl hl.1 rfl (lv_room (Nat.le_of_ble_eq_true rfl)) kd_prog_1_method_4_code_5 ⟨hce, hsl⟩) hV hA (fun rz1 z1 H locs h hV => ?_)
  refine lv_if_eq (tgt := 23) hx hb kd_prog_1_method_4_code_8 (by decide) (fun hc => ?_) (fun hc => ?_)
  · have h := h.1 hc
    exact J23 z1 H locs ls hV (lv_sub hl [] rfl) h
  · have h := h.2 hc
    refine lv_iload_n hx hb kd_prog_1_method_4_code_11 rfl (lv_at hl 2 rfl) ?_
    refine lv_iload_n hx hb kd_prog_1_method_4_code_12 rfl (lv_at hl 3 rfl) ?_
    refine lv_iload hx hb kd_prog_1_method_4_code_13 (lv_at hl 4 rfl) ?_
    refine lv_iload hx hb kd_prog_1_method_4_code_15 (lv_at hl 5 rfl) ?_
    refine wk_calli (va_runS (As := [.int x2, .int x3, .int x4, .int x5]) (rest := []) ⟨hx, hb, hml, hown, hts⟩ (c_C_isEnd l D q cA x2 x3 x4 x5 z1 H.size _ h) (cwS 4 hts gs_C_84 rfl rfl rfl (by decide +kernel) ⟨Nat.le_trans (by decide) hRf, Nat.le_trans (by decide) hRl⟩) (wk_preS hK hV [.int x2, .int x3, .int x4, .int x5]) rfl rfl hl.1 rfl (lv_room (Nat.le_of_ble_eq_true rfl)) kd_prog_1_method_4_code_17 ⟨hce, hsl⟩) hV hA (fun rz2 z2 H locs h hV => ?_)
    refine lv_if_ne (tgt := 33) hx hb kd_prog_1_method_4_code_20 (by decide) (fun hc => ?_) (fun hc => ?_)
    · have h := h.1 hc
      refine lv_aload_n hx hb kd_prog_1_method_4_code_33 rfl (lv_at hl 0 rfl) ?_
      refine lv_iconst (v := 0) hx hb kd_prog_1_method_4_code_34 (by decide) ?_
      refine wk_put (D := D) (ci := 0) (v := .int (0 : Int32)) (ty := .boolean) (C := kr_C) (T := kt_C) (N := kn_C) (z1 := zI z2 0 (0 : Int32)) hx hb hts ki_C ky_C ko_C km_C hown hK hV 0 rfl rfl 3 (by decide) (hts _ hw_176) (fun _ h9 => h9) rfl (by decide +kernel) rfl rfl (Nat.le_of_ble_eq_true rfl) rfl kd_prog_1_method_4_code_35 (fun H locs hV => ?_)
      obtain ⟨z3, ez3⟩ : ∃ x : Sta, x = zI z2 0 (0 : Int32) := ⟨_, rfl⟩
      rw [← ez3] at hV
      have h := h z3 ez3
      refine lv_iload_n hx hb kd_prog_1_method_4_code_38 rfl (lv_at hl 2 rfl) ?_
      refine lv_if_ne (tgt := 54) hx hb kd_prog_1_method_4_code_39 (by decide) (fun hc => ?_) (fun hc => ?_)
      · have h := h.1 hc
        refine lv_iload_n hx hb kd_prog_1_method_4_code_54 rfl (lv_at hl 2 rfl) ?_
        refine lv_iconst (v := 1) hx hb kd_prog_1_method_4_code_55 (by decide) ?_
        refine lv_icmp_ne (tgt := 73) hx hb kd_prog_1_method_4_code_56 (by decide) (fun hc => ?_) (fun hc => ?_)
        · have h := h.1 hc
          refine lv_aload_n hx hb kd_prog_1_method_4_code_73 rfl (lv_at hl 0 rfl) ?_
          refine va_get (D := D) (ci := 0) (v := .ref (q 1)) (C := kr_C) (T := kt_C) (N := kn_C) hx hb hts ki_C hown hK hV.1 0 rfl rfl 0 (by decide) (hts _ hw_173) (fun _ h9 => h9) rfl kd_prog_1_method_4_code_74 ?_
          refine lv_iload_n hx hb kd_prog_1_method_4_code_77 rfl (lv_at hl 1 rfl) ?_
          refine lv_iload_n hx hb kd_prog_1_method_4_code_78 rfl (lv_at hl 3 rfl) ?_
          refine lv_iload hx hb kd_prog_1_method_4_code_79 (lv_at hl 4 rfl) ?_
          refine lv_iload hx hb kd_prog_1_method_4_code_81 (lv_at hl 5 rfl) ?_
          refine wk_calli (va_runV (As := [.int x1, .int x3, .int x4, .int x5]) (rest := []) ⟨hx, hb, hml, hown, hts⟩ (c_P_changeEnd l D q cA x1 x3 x4 x5 z3 H.size _ h) (cwV 4 hts gs_C_90 rfl rfl rfl (by decide +kernel) ⟨Nat.le_trans (by decide) hRf, Nat.le_trans (by decide) hRl⟩) (wk_preV hK hV 1 1 rfl rfl [.int x1, .int x3, .int x4, .int x5]) rfl rfl hl.1 rfl (lv_room (Nat.le_of_ble_eq_true rfl)) kd_prog_1_method_4_code_83 ⟨hce, hsl⟩) hV hA (fun rz4 z4 H locs h hV => ?_)
          exact hret rz4 z4 H locs 86 ls h hV kd_prog_1_method_4_code_86
        · have h := h.2 hc
          refine lv_aload_n hx hb kd_prog_1_method_4_code_59 rfl (lv_at hl 0 rfl) ?_
          refine va_get (D := D) (ci := 0) (v := .ref (q 1)) (C := kr_C) (T := kt_C) (N := kn_C) hx hb hts ki_C hown hK hV.1 0 rfl rfl 0 (by decide) (hts _ hw_173) (fun _ h9 => h9) rfl kd_prog_1_method_4_code_60 ?_
          refine lv_iload_n hx hb kd_prog_1_method_4_code_63 rfl (lv_at hl 1 rfl) ?_
          refine lv_iconst (v := 0) hx hb kd_prog_1_method_4_code_64 (by decide) ?_
          refine lv_iload hx hb kd_prog_1_method_4_code_65 (lv_at hl 4 rfl) ?_
          refine lv_iload hx hb kd_prog_1_method_4_code_67 (lv_at hl 4 rfl) ?_
          refine wk_calli (va_runV (As := [.int x1, .int (0 : Int32), .int x4, .int x4]) (rest := []) ⟨hx, hb, hml, hown, hts⟩ (c_P_changeEnd l D q cA x1 0 x4 x4 z3 H.size _ h) (cwV 4 hts gs_C_90 rfl rfl rfl (by decide +kernel) ⟨Nat.le_trans (by decide) hRf, Nat.le_trans (by decide) hRl⟩) (wk_preV hK hV 1 1 rfl rfl [.int x1, .int (0 : Int32), .int x4, .int x4]) rfl rfl hl.1 rfl (lv_room (Nat.le_of_ble_eq_true rfl)) kd_prog_1_method_4_code_69 ⟨hce, hsl⟩) hV hA (fun rz5 z5 H locs h hV => ?_)
          exact hret rz5 z5 H locs 72 ls h hV kd_prog_1_method_4_code_72
      · have h := h.2 hc
        refine lv_aload_n hx hb kd_prog_1_method_4_code_42 rfl (lv_at hl 0 rfl) ?_
        refine va_get (D := D) (ci := 0) (v := .ref (q 1)) (C := kr_C) (T := kt_C) (N := kn_C) hx hb hts ki_C hown hK hV.1 0 rfl rfl 0 (by decide) (hts _ hw_173) (fun _ h9 => h9) rfl kd_prog_1_method_4_code_43 ?_
        refine lv_iload_n hx hb kd_prog_1_method_4_code_46 rfl (lv_at hl 1 rfl) ?_
        refine lv_iconst (v := 0) hx hb kd_prog_1_method_4_code_47 (by decide) ?_
        refine lv_iconst (v := (-1)) hx hb kd_prog_1_method_4_code_48 (by decide) ?_
        refine lv_iconst (v := (-1)) hx hb kd_prog_1_method_4_code_49 (by decide) ?_
        refine wk_calli (va_runV (As := [.int x1, .int (0 : Int32), .int (-1 : Int32), .int (-1 : Int32)]) (rest := []) ⟨hx, hb, hml, hown, hts⟩ (c_P_changeEnd l D q cA x1 0 (-1) (-1) z3 H.size _ h) (cwV 4 hts gs_C_90 rfl rfl rfl (by decide +kernel) ⟨Nat.le_trans (by decide) hRf, Nat.le_trans (by decide) hRl⟩) (wk_preV hK hV 1 1 rfl rfl [.int x1, .int (0 : Int32), .int (-1 : Int32), .int (-1 : Int32)]) rfl rfl hl.1 rfl (lv_room (Nat.le_of_ble_eq_true rfl)) kd_prog_1_method_4_code_50 ⟨hce, hsl⟩) hV hA (fun rz6 z6 H locs h hV => ?_)
        exact hret rz6 z6 H locs 53 ls h hV kd_prog_1_method_4_code_53
    · have h := h.2 hc
      exact J23 z2 H locs ls hV (lv_sub hl [] rfl) h
end
set_option maxHeartbeats 4000000 in
set_option maxRecDepth 100000 in
theorem c_C_end (l : Launch) (hst : l.stackTraces = false) (D : va_G) (q : Nat → Nat) (cA : Nat → ClassId) (SA : Nat → Nat) (x1 : Int32) (x2 : Int32) (x3 : Int32) (x4 : Int32) (x5 : Int32) (z : Sta) (sz : Nat) (K : Int32 → Sta → Prop) (T : String → Sta → Prop) (h : wp_C_end x1 x2 x3 x4 x5 z K T) : vx_Met l ke_C_end (kc_C_end :: lw_g) { frames := 6, cells := 1, slots := 6, locals := 82 } (wk_PcX D q cA SA [.ref (q 0), .int x1, .int x2, .int x3, .int x4, .int x5] z sz) (va_Qi K (wk_B D q cA (va_A (wW q cA z) sz)) (va_A (wW q cA z) sz)) (wk_XC D q cA T (va_A (wW q cA z) sz)) 1 6 (va_A (wW q cA z) sz) := by
  refine vx_ofW (cc := prog_1_method_4_code) (maxL := 6) (ret := (some .int)) (by decide) rfl ?_
  intro p e s m args below meth c s₁ B hml htab hv
  obtain ⟨rfl, hsz, hP, hK, hD0, hX⟩ := hv
  have hx := B.exec
  have hb := B.bytes
  have hr := B.returns
  have hlocks := B.notSynchronized
  have hts0 := atoms_spec (ws := kc_C_end :: lw_g) B.pre
  have hts : ∀ w ∈ lw_g, w.before ([.ref (q 0), .int x1, .int x2, .int x3, .int x4, .int x5] : List Value).toArray s = true := fun w hw => hts0 w (List.mem_cons_of_mem _ hw)
  have hown : s.vm.findClass kr_C = some m.cls := findClass_of_methodNamed B.named
  subst hsz
  have hD := hD0.self (sz := s.heap.size)
  generalize hAe : va_A (wW q cA z) s.heap.size = A at hD hX ⊢
  have hA : ∀ x : Nat, s.heap.size ≤ x → A x := fun x hx => by rw [← hAe]; exact Or.inr hx
  have hl := lv_entry ([.ref (q 0), .int x1, .int x2, .int x3, .int x4, .int x5]) (n := 6) (Nat.le_of_ble_eq_true rfl)
  rw [lg_entry_eq]
  generalize (lg_sl ([.ref (q 0), .int x1, .int x2, .int x3, .int x4, .int x5]) ++ List.replicate (6 - (lg_sl ([.ref (q 0), .int x1, .int x2, .int x3, .int x4, .int x5])).length) Slot.unset).toArray = ls at hl ⊢
  have hl : lv_has ls 6 [(0, .ref (q 0)), (1, .int x1), (2, .int x2), (3, .int x3), (4, .int x4), (5, .int x5)] := hl
  exact w_C_end (ce := 0) (sl := 0) hx hb hml hown hts (Nat.le_of_ble_eq_true rfl) (Nat.le_of_ble_eq_true rfl) (Nat.zero_le _) (Nat.zero_le _) hA hK x1 x2 x3 x4 x5 z K T h (fun r u H locs pc ls hk hV hd => vx_ret (W.widen (k := 1) (n := 6) (Nat.zero_le _) (Nat.zero_le _) (W.iret hx hb hr (fun t ht hW => ⟨⟨r, u, rfl, hk, by rw [ht]; exact hV.1, va_K.moved hW.alike hK, hV.2.1⟩, hV.2.2.F ht⟩) hV.2.2.2.2 hd))) (fun u H locs ls hT hV hs => wk_thr hx hb hst hown hx_64 4 rfl (hts _ hw_297) (hts _ hw_10) hts hX hK hV (hs.trans hml.symm) kd_prog_1_method_4_code_23 kd_prog_1_method_4_code_26 kd_prog_1_method_4_code_27 kd_prog_1_method_4_code_29 kd_prog_1_method_4_code_32 htab (Nat.le_of_ble_eq_true rfl) (Nat.le_of_ble_eq_true rfl) (Nat.le_refl _) (Nat.le_refl _) hlocks hT) ⟨hP, hD, va_S.rf⟩ hl
section
variable {p : Program} {l : Launch} {e : Env} {R : Room} {s : State} {m : MethodId} {args : Array Value} {below : List Frame} {meth : Method} {c : Code} {Q : State → Prop} {ce sl : Nat} {D : va_G} {q : Nat → Nat} {cA : Nat → ClassId} {A : Nat → Prop}
set_option maxHeartbeats 4000000 in
set_option maxRecDepth 100000 in
theorem w_C_plan (hx : p.tables.exec = Jvm.exec) (hb : c.code = prog_1_method_5_code) (hml : c.maxLocals = 1) (hown : s.vm.findClass kr_C = some m.cls) (hts : ∀ w ∈ lw_g, w.before args s = true) (hRf : 4 ≤ R.frames) (hRl : 91 ≤ R.locals) (hce : ce ≤ R.cells) (hsl : sl ≤ R.slots) (hA : ∀ x, s.heap.size ≤ x → A x) (hK : va_K D wk_cl (tysW cA) s) (z : Sta) (K : Int32 → Sta → Prop) (T : String → Sta → Prop) (h : wp_C_plan z K T) (hret : ∀ (r : Int32) (u : Sta) (H : Heap) (locs : List Loc) (pc : Nat) (ls : Array Slot), K r u → wk_S D q cA A s.heap u H locs → decode prog_1_method_5_code pc = .ok (.ireturn, 1) → W p l e R s m args below meth c H locs ce sl Q (F0 m pc ls [.int r])) (ht30 : ∀ (u : Sta) (H : Heap) (locs : List Loc) (ls : Array Slot), T "java/lang/UnsupportedOperationException" u → wk_S D q cA A s.heap u H locs → ls.size = 1 → W p l e R s m args below meth c H locs ce sl Q (F0 m 30 ls [])) (ht10 : ∀ (u : Sta) (H : Heap) (locs : List Loc) (ls : Array Slot), T "java/lang/IllegalStateException" u → wk_S D q cA A s.heap u H locs → ls.size = 1 → W p l e R s m args below meth c H locs ce sl Q (F0 m 10 ls [])) {H : Heap} {locs : List Loc} {ls : Array Slot} (hV : wk_S D q cA A s.heap z H locs) (hl : lv_has ls 1 [(0, .ref (q 0))]) : W p l e R s m args below meth c H locs ce sl Q (F0 m 0 ls []) := by
  unfold wp_C_plan at h
  refine lv_aload_n hx hb kd_prog_1_method_5_code_0 rfl (lv_at hl 0 rfl) ?_
  refine va_get (D := D) (ci := 0) (v := .ref (q 1)) (C := kr_C) (T := kt_C) (N := kn_C) hx hb hts ki_C hown hK hV.1 0 rfl rfl 0 (by decide) (hts _ hw_173) (fun _ h9 => h9) rfl kd_prog_1_method_5_code_1 ?_
  refine va_get (D := D) (ci := 1) (v := .int (z.1 2)) (C := kr_P) (T := kt_P) (N := kn_P) hx hb hts ki_P hown hK hV.1 1 rfl rfl 0 (by decide) (hts _ hw_31) (fun _ h9 => h9) rfl kd_prog_1_method_5_code_4 ?_
  refine lv_topi (fun v1 ev1 => ?_)
  have h := h v1 ev1
  refine lv_if_ne (tgt := 20) hx hb kd_prog_1_method_5_code_7 (by decide) (fun hc => ?_) (fun hc => ?_)
  · have h := h.1 hc
    refine lv_aload_n hx hb kd_prog_1_method_5_code_20 rfl (lv_at hl 0 rfl) ?_
    refine va_get (D := D) (ci := 0) (v := .ref (q 1)) (C := kr_C) (T := kt_C) (N := kn_C) hx hb hts ki_C hown hK hV.1 0 rfl rfl 0 (by decide) (hts _ hw_173) (fun _ h9 => h9) rfl kd_prog_1_method_5_code_21 ?_
    refine wk_calli (va_runV (As := []) (rest := []) ⟨hx, hb, hml, hown, hts⟩ (c_P_isWhole l D q cA z H.size _ h) (cwV 0 hts gs_C_96 rfl rfl rfl (by decide +kernel) ⟨Nat.le_trans (by decide) hRf, Nat.le_trans (by decide) hRl⟩) (wk_preV hK hV 1 1 rfl rfl []) rfl rfl hl.1 rfl (lv_room (Nat.le_of_ble_eq_true rfl)) kd_prog_1_method_5_code_24 ⟨hce, hsl⟩) hV hA (fun rz2 z2 H locs h hV => ?_)
    refine lv_if_ne (tgt := 40) hx hb kd_prog_1_method_5_code_27 (by decide) (fun hc => ?_) (fun hc => ?_)
    · have h := h.1 hc
      refine lv_aload_n hx hb kd_prog_1_method_5_code_40 rfl (lv_at hl 0 rfl) ?_
      refine va_get (D := D) (ci := 0) (v := .ref (q 2)) (C := kr_C) (T := kt_C) (N := kn_C) hx hb hts ki_C hown hK hV.1 0 rfl rfl 1 (by decide) (hts _ hw_174) (fun _ h9 => h9) rfl kd_prog_1_method_5_code_41 ?_
      refine wk_callv (va_runV (As := []) (rest := []) ⟨hx, hb, hml, hown, hts⟩ (c_O_findSets l D q cA z2 H.size _ h) (cwV 0 hts gs_C_104 rfl rfl rfl (by decide +kernel) ⟨Nat.le_trans (by decide) hRf, Nat.le_trans (by decide) hRl⟩) (wk_preV hK hV 2 2 rfl rfl []) rfl rfl hl.1 rfl (lv_room (Nat.le_of_ble_eq_true rfl)) kd_prog_1_method_5_code_44 ⟨hce, hsl⟩) hV hA (fun z3 H locs h hV => ?_)
      refine lv_aload_n hx hb kd_prog_1_method_5_code_47 rfl (lv_at hl 0 rfl) ?_
      refine lv_iconst (v := 1) hx hb kd_prog_1_method_5_code_48 (by decide) ?_
      refine wk_put (D := D) (ci := 0) (v := .int (1 : Int32)) (ty := .boolean) (C := kr_C) (T := kt_C) (N := kn_C) (z1 := zI z3 0 (1 : Int32)) hx hb hts ki_C ky_C ko_C km_C hown hK hV 0 rfl rfl 3 (by decide) (hts _ hw_176) (fun _ h9 => h9) rfl (by decide +kernel) rfl rfl (Nat.le_of_ble_eq_true rfl) rfl kd_prog_1_method_5_code_49 (fun H locs hV => ?_)
      obtain ⟨z4, ez4⟩ : ∃ x : Sta, x = zI z3 0 (1 : Int32) := ⟨_, rfl⟩
      rw [← ez4] at hV
      have h := h z4 ez4
      refine lv_aload_n hx hb kd_prog_1_method_5_code_52 rfl (lv_at hl 0 rfl) ?_
      refine lv_dup hx hb kd_prog_1_method_5_code_53 rfl ?_
      refine va_get (D := D) (ci := 0) (v := .int (z4.1 1)) (C := kr_C) (T := kt_C) (N := kn_C) hx hb hts ki_C hown hK hV.1 0 rfl rfl 4 (by decide) (hts _ hw_177) (fun _ h9 => h9) rfl kd_prog_1_method_5_code_54 ?_
      refine lv_topi (fun v5 ev5 => ?_)
      have h := h v5 ev5
      refine lv_iconst (v := 1) hx hb kd_prog_1_method_5_code_57 (by decide) ?_
      refine lv_iadd hx hb kd_prog_1_method_5_code_58 ?_
      refine lv_topi (fun v6 ev6 => ?_)
      have h := h v6 ev6
      refine wk_put (D := D) (ci := 0) (v := .int v6) (ty := .int) (C := kr_C) (T := kt_C) (N := kn_C) (z1 := zI z4 1 v6) hx hb hts ki_C ky_C ko_C km_C hown hK hV 0 rfl rfl 4 (by decide) (hts _ hw_177) (fun _ h9 => h9) rfl (by decide +kernel) rfl rfl (Nat.le_of_ble_eq_true rfl) rfl kd_prog_1_method_5_code_59 (fun H locs hV => ?_)
      obtain ⟨z7, ez7⟩ : ∃ x : Sta, x = zI z4 1 v6 := ⟨_, rfl⟩
      rw [← ez7] at hV
      have h := h z7 ez7
      refine lv_aload_n hx hb kd_prog_1_method_5_code_62 rfl (lv_at hl 0 rfl) ?_
      refine va_get (D := D) (ci := 0) (v := .ref (q 2)) (C := kr_C) (T := kt_C) (N := kn_C) hx hb hts ki_C hown hK hV.1 0 rfl rfl 1 (by decide) (hts _ hw_174) (fun _ h9 => h9) rfl kd_prog_1_method_5_code_63 ?_
      refine wk_calli (va_runV (As := []) (rest := []) ⟨hx, hb, hml, hown, hts⟩ (c_O_countMoved l D q cA z7 H.size _ h) (cwV 0 hts gs_C_107 rfl rfl rfl (by decide +kernel) ⟨Nat.le_trans (by decide) hRf, Nat.le_trans (by decide) hRl⟩) (wk_preV hK hV 2 2 rfl rfl []) rfl rfl hl.1 rfl (lv_room (Nat.le_of_ble_eq_true rfl)) kd_prog_1_method_5_code_66 ⟨hce, hsl⟩) hV hA (fun rz8 z8 H locs h hV => ?_)
      exact hret rz8 z8 H locs 69 ls h hV kd_prog_1_method_5_code_69
    · have h := h.2 hc
      exact ht30 z2 H locs ls h hV hl.1
  · have h := h.2 hc
    exact ht10 z H locs ls h hV hl.1
end
set_option maxHeartbeats 4000000 in
set_option maxRecDepth 100000 in
theorem c_C_plan (l : Launch) (hst : l.stackTraces = false) (D : va_G) (q : Nat → Nat) (cA : Nat → ClassId) (SA : Nat → Nat) (z : Sta) (sz : Nat) (K : Int32 → Sta → Prop) (T : String → Sta → Prop) (h : wp_C_plan z K T) : vx_Met l ke_C_plan (kc_C_plan :: lw_g) { frames := 6, cells := 1, slots := 6, locals := 91 } (wk_PcX D q cA SA [.ref (q 0)] z sz) (va_Qi K (wk_B D q cA (va_A (wW q cA z) sz)) (va_A (wW q cA z) sz)) (wk_XC D q cA T (va_A (wW q cA z) sz)) 1 6 (va_A (wW q cA z) sz) := by
  refine vx_ofW (cc := prog_1_method_5_code) (maxL := 1) (ret := (some .int)) (by decide) rfl ?_
  intro p e s m args below meth c s₁ B hml htab hv
  obtain ⟨rfl, hsz, hP, hK, hD0, hX⟩ := hv
  have hx := B.exec
  have hb := B.bytes
  have hr := B.returns
  have hlocks := B.notSynchronized
  have hts0 := atoms_spec (ws := kc_C_plan :: lw_g) B.pre
  have hts : ∀ w ∈ lw_g, w.before ([.ref (q 0)] : List Value).toArray s = true := fun w hw => hts0 w (List.mem_cons_of_mem _ hw)
  have hown : s.vm.findClass kr_C = some m.cls := findClass_of_methodNamed B.named
  subst hsz
  have hD := hD0.self (sz := s.heap.size)
  generalize hAe : va_A (wW q cA z) s.heap.size = A at hD hX ⊢
  have hA : ∀ x : Nat, s.heap.size ≤ x → A x := fun x hx => by rw [← hAe]; exact Or.inr hx
  have hl := lv_entry ([.ref (q 0)]) (n := 1) (Nat.le_of_ble_eq_true rfl)
  rw [lg_entry_eq]
  generalize (lg_sl ([.ref (q 0)]) ++ List.replicate (1 - (lg_sl ([.ref (q 0)])).length) Slot.unset).toArray = ls at hl ⊢
  have hl : lv_has ls 1 [(0, .ref (q 0))] := hl
  exact w_C_plan (ce := 0) (sl := 0) hx hb hml hown hts (Nat.le_of_ble_eq_true rfl) (Nat.le_of_ble_eq_true rfl) (Nat.zero_le _) (Nat.zero_le _) hA hK z K T h (fun r u H locs pc ls hk hV hd => vx_ret (W.widen (k := 1) (n := 6) (Nat.zero_le _) (Nat.zero_le _) (W.iret hx hb hr (fun t ht hW => ⟨⟨r, u, rfl, hk, by rw [ht]; exact hV.1, va_K.moved hW.alike hK, hV.2.1⟩, hV.2.2.F ht⟩) hV.2.2.2.2 hd))) (fun u H locs ls hT hV hs => wk_thr hx hb hst hown hx_103 5 rfl (hts _ hw_363) (hts _ hw_11) hts hX hK hV (hs.trans hml.symm) kd_prog_1_method_5_code_30 kd_prog_1_method_5_code_33 kd_prog_1_method_5_code_34 kd_prog_1_method_5_code_36 kd_prog_1_method_5_code_39 htab (Nat.le_of_ble_eq_true rfl) (Nat.le_of_ble_eq_true rfl) (Nat.le_refl _) (Nat.le_refl _) hlocks hT) (fun u H locs ls hT hV hs => wk_thr hx hb hst hown hx_49 6 rfl (hts _ hw_205) (hts _ hw_9) hts hX hK hV (hs.trans hml.symm) kd_prog_1_method_5_code_10 kd_prog_1_method_5_code_13 kd_prog_1_method_5_code_14 kd_prog_1_method_5_code_16 kd_prog_1_method_5_code_19 htab (Nat.le_of_ble_eq_true rfl) (Nat.le_of_ble_eq_true rfl) (Nat.le_refl _) (Nat.le_refl _) hlocks hT) ⟨hP, hD, va_S.rf⟩ hl
section
variable {p : Program} {l : Launch} {e : Env} {R : Room} {s : State} {m : MethodId} {args : Array Value} {below : List Frame} {meth : Method} {c : Code} {Q : State → Prop} {ce sl : Nat} {D : va_G} {q : Nat → Nat} {cA : Nat → ClassId} {A : Nat → Prop}
set_option maxHeartbeats 4000000 in
set_option maxRecDepth 100000 in
theorem w_C_set (hx : p.tables.exec = Jvm.exec) (hb : c.code = prog_1_method_6_code) (hml : c.maxLocals = 3) (hown : s.vm.findClass kr_C = some m.cls) (hts : ∀ w ∈ lw_g, w.before args s = true) (hRf : 1 ≤ R.frames) (hRl : 22 ≤ R.locals) (hce : ce ≤ R.cells) (hsl : sl ≤ R.slots) (hA : ∀ x, s.heap.size ≤ x → A x) (hK : va_K D wk_cl (tysW cA) s) (x1 : Int32) (x2 : Int32) (z : Sta) (K : Int64 → Sta → Prop) (T : String → Sta → Prop) (h : wp_C_set x1 x2 z K T) (hret : ∀ (r : Int64) (u : Sta) (H : Heap) (locs : List Loc) (pc : Nat) (ls : Array Slot), K r u → wk_S D q cA A s.heap u H locs → decode prog_1_method_6_code pc = .ok (.lreturn, 1) → W p l e R s m args below meth c H locs ce sl Q (F0 m pc ls [.long r])) (ht7 : ∀ (u : Sta) (H : Heap) (locs : List Loc) (ls : Array Slot), T "java/lang/IllegalStateException" u → wk_S D q cA A s.heap u H locs → ls.size = 3 → W p l e R s m args below meth c H locs ce sl Q (F0 m 7 ls [])) (ht37 : ∀ (u : Sta) (H : Heap) (locs : List Loc) (ls : Array Slot), T "java/lang/IndexOutOfBoundsException" u → wk_S D q cA A s.heap u H locs → ls.size = 3 → W p l e R s m args below meth c H locs ce sl Q (F0 m 37 ls [])) {H : Heap} {locs : List Loc} {ls : Array Slot} (hV : wk_S D q cA A s.heap z H locs) (hl : lv_has ls 3 [(0, .ref (q 0)), (1, .int x1), (2, .int x2)]) : W p l e R s m args below meth c H locs ce sl Q (F0 m 0 ls []) := by
  have J37 : ∀ (z : Sta) (H : Heap) (locs : List Loc) (ls : Array Slot), wk_S D q cA A s.heap z H locs → lv_has ls 3 [] → pj_C_set_37 K T z → W p l e R s m args below meth c H locs ce sl Q (F0 m 37 ls []) := by
    intro z H locs ls hV hl h
    unfold pj_C_set_37 at h
    exact ht37 z H locs ls h hV hl.1
  unfold wp_C_set at h
  refine lv_aload_n hx hb kd_prog_1_method_6_code_0 rfl (lv_at hl 0 rfl) ?_
  refine va_get (D := D) (ci := 0) (v := .int (z.1 0)) (C := kr_C) (T := kt_C) (N := kn_C) hx hb hts ki_C hown hK hV.1 0 rfl rfl 3 (by decide) (hts _ hw_176) (fun _ h9 => h9) rfl kd_prog_1_method_6_code_1 ?_
  refine lv_topi (fun v1 ev1 => ?_)
  have h := h v1 ev1
  refine lv_if_ne (tgt := 17) hx hb kd_prog_1_method_6_code_4 (by decide) (fun hc => ?_) (fun hc => ?_)
  · have h := h.1 hc
    refine lv_aload_n hx hb kd_prog_1_method_6_code_17 rfl (lv_at hl 0 rfl) ?_
    refine va_get (D := D) (ci := 0) (v := .ref (q 1)) (C := kr_C) (T := kt_C) (N := kn_C) hx hb hts ki_C hown hK hV.1 0 rfl rfl 0 (by decide) (hts _ hw_173) (fun _ h9 => h9) rfl kd_prog_1_method_6_code_18 ?_
    refine lv_iload_n hx hb kd_prog_1_method_6_code_21 rfl (lv_at hl 1 rfl) ?_
    refine wk_calli (va_runV (As := [.int x1]) (rest := []) ⟨hx, hb, hml, hown, hts⟩ (c_P_hasBlock l D q cA x1 z H.size _ h) (cwV 1 hts gs_C_80 rfl rfl rfl (by decide +kernel) ⟨Nat.le_trans (by decide) hRf, Nat.le_trans (by decide) hRl⟩) (wk_preV hK hV 1 1 rfl rfl [.int x1]) rfl rfl hl.1 rfl (lv_room (Nat.le_of_ble_eq_true rfl)) kd_prog_1_method_6_code_22 ⟨hce, hsl⟩) hV hA (fun rz2 z2 H locs h hV => ?_)
    refine lv_if_eq (tgt := 37) hx hb kd_prog_1_method_6_code_25 (by decide) (fun hc => ?_) (fun hc => ?_)
    · have h := h.1 hc
      exact J37 z2 H locs ls hV (lv_sub hl [] rfl) h
    · have h := h.2 hc
      refine lv_iload_n hx hb kd_prog_1_method_6_code_28 rfl (lv_at hl 2 rfl) ?_
      refine lv_if_lt (tgt := 37) hx hb kd_prog_1_method_6_code_29 (by decide) (fun hc => ?_) (fun hc => ?_)
      · have h := h.1 hc
        exact J37 z2 H locs ls hV (lv_sub hl [] rfl) h
      · have h := h.2 hc
        refine lv_iload_n hx hb kd_prog_1_method_6_code_32 rfl (lv_at hl 2 rfl) ?_
        refine lv_iconst (v := 5) hx hb kd_prog_1_method_6_code_33 (by decide) ?_
        refine lv_icmp_le (tgt := 47) hx hb kd_prog_1_method_6_code_34 (by decide) (fun hc => ?_) (fun hc => ?_)
        · have h := h.1 hc
          refine lv_aload_n hx hb kd_prog_1_method_6_code_47 rfl (lv_at hl 0 rfl) ?_
          refine va_get (D := D) (ci := 0) (v := .ref (q 2)) (C := kr_C) (T := kt_C) (N := kn_C) hx hb hts ki_C hown hK hV.1 0 rfl rfl 1 (by decide) (hts _ hw_174) (fun _ h9 => h9) rfl kd_prog_1_method_6_code_48 ?_
          refine lv_iload_n hx hb kd_prog_1_method_6_code_51 rfl (lv_at hl 1 rfl) ?_
          refine lv_iload_n hx hb kd_prog_1_method_6_code_52 rfl (lv_at hl 2 rfl) ?_
          refine wk_calll (va_runV (As := [.int x1, .int x2]) (rest := []) ⟨hx, hb, hml, hown, hts⟩ (c_O_setOf l D q cA x1 x2 z2 H.size _ h) (cwV 2 hts gs_C_117 rfl rfl rfl (by decide +kernel) ⟨Nat.le_trans (by decide) hRf, Nat.le_trans (by decide) hRl⟩) (wk_preV hK hV 2 2 rfl rfl [.int x1, .int x2]) rfl rfl hl.1 rfl (lv_room (Nat.le_of_ble_eq_true rfl)) kd_prog_1_method_6_code_53 ⟨hce, hsl⟩) hV hA (fun rz3 z3 H locs h hV => ?_)
          exact hret rz3 z3 H locs 56 ls h hV kd_prog_1_method_6_code_56
        · have h := h.2 hc
          exact J37 z2 H locs ls hV (lv_sub hl [] rfl) h
  · have h := h.2 hc
    exact ht7 z H locs ls h hV hl.1
end
set_option maxHeartbeats 4000000 in
set_option maxRecDepth 100000 in
theorem c_C_set (l : Launch) (hst : l.stackTraces = false) (D : va_G) (q : Nat → Nat) (cA : Nat → ClassId) (SA : Nat → Nat) (x1 : Int32) (x2 : Int32) (z : Sta) (sz : Nat) (K : Int64 → Sta → Prop) (T : String → Sta → Prop) (h : wp_C_set x1 x2 z K T) : vx_Met l ke_C_set (kc_C_set :: lw_g) { frames := 6, cells := 1, slots := 6, locals := 82 } (wk_PcX D q cA SA [.ref (q 0), .int x1, .int x2] z sz) (va_Ql K (wk_B D q cA (va_A (wW q cA z) sz)) (va_A (wW q cA z) sz)) (wk_XC D q cA T (va_A (wW q cA z) sz)) 1 6 (va_A (wW q cA z) sz) := by
  refine vx_ofW (cc := prog_1_method_6_code) (maxL := 3) (ret := (some .long)) (by decide) rfl ?_
  intro p e s m args below meth c s₁ B hml htab hv
  obtain ⟨rfl, hsz, hP, hK, hD0, hX⟩ := hv
  have hx := B.exec
  have hb := B.bytes
  have hr := B.returns
  have hlocks := B.notSynchronized
  have hts0 := atoms_spec (ws := kc_C_set :: lw_g) B.pre
  have hts : ∀ w ∈ lw_g, w.before ([.ref (q 0), .int x1, .int x2] : List Value).toArray s = true := fun w hw => hts0 w (List.mem_cons_of_mem _ hw)
  have hown : s.vm.findClass kr_C = some m.cls := findClass_of_methodNamed B.named
  subst hsz
  have hD := hD0.self (sz := s.heap.size)
  generalize hAe : va_A (wW q cA z) s.heap.size = A at hD hX ⊢
  have hA : ∀ x : Nat, s.heap.size ≤ x → A x := fun x hx => by rw [← hAe]; exact Or.inr hx
  have hl := lv_entry ([.ref (q 0), .int x1, .int x2]) (n := 3) (Nat.le_of_ble_eq_true rfl)
  rw [lg_entry_eq]
  generalize (lg_sl ([.ref (q 0), .int x1, .int x2]) ++ List.replicate (3 - (lg_sl ([.ref (q 0), .int x1, .int x2])).length) Slot.unset).toArray = ls at hl ⊢
  have hl : lv_has ls 3 [(0, .ref (q 0)), (1, .int x1), (2, .int x2)] := hl
  exact w_C_set (ce := 0) (sl := 0) hx hb hml hown hts (Nat.le_of_ble_eq_true rfl) (Nat.le_of_ble_eq_true rfl) (Nat.zero_le _) (Nat.zero_le _) hA hK x1 x2 z K T h (fun r u H locs pc ls hk hV hd => vx_ret (W.widen (k := 1) (n := 6) (Nat.zero_le _) (Nat.zero_le _) (W.lret hx hb hr (fun t ht hW => ⟨⟨r, u, rfl, hk, by rw [ht]; exact hV.1, va_K.moved hW.alike hK, hV.2.1⟩, hV.2.2.F ht⟩) hV.2.2.2.2 hd))) (fun u H locs ls hT hV hs => wk_thr hx hb hst hown hx_49 7 rfl (hts _ hw_205) (hts _ hw_9) hts hX hK hV (hs.trans hml.symm) kd_prog_1_method_6_code_7 kd_prog_1_method_6_code_10 kd_prog_1_method_6_code_11 kd_prog_1_method_6_code_13 kd_prog_1_method_6_code_16 htab (Nat.le_of_ble_eq_true rfl) (Nat.le_of_ble_eq_true rfl) (Nat.le_refl _) (Nat.le_refl _) hlocks hT) (fun u H locs ls hT hV hs => wk_thr hx hb hst hown hx_116 8 rfl (hts _ hw_446) (hts _ hw_13) hts hX hK hV (hs.trans hml.symm) kd_prog_1_method_6_code_37 kd_prog_1_method_6_code_40 kd_prog_1_method_6_code_41 kd_prog_1_method_6_code_43 kd_prog_1_method_6_code_46 htab (Nat.le_of_ble_eq_true rfl) (Nat.le_of_ble_eq_true rfl) (Nat.le_refl _) (Nat.le_refl _) hlocks hT) ⟨hP, hD, va_S.rf⟩ hl
section
variable {p : Program} {l : Launch} {e : Env} {R : Room} {s : State} {m : MethodId} {args : Array Value} {below : List Frame} {meth : Method} {c : Code} {Q : State → Prop} {ce sl : Nat} {D : va_G} {q : Nat → Nat} {cA : Nat → ClassId} {A : Nat → Prop}
set_option maxHeartbeats 4000000 in
set_option maxRecDepth 100000 in
theorem w_C_put (hx : p.tables.exec = Jvm.exec) (hb : c.code = prog_1_method_7_code) (hml : c.maxLocals = 3) (hown : s.vm.findClass kr_C = some m.cls) (hts : ∀ w ∈ lw_g, w.before args s = true) (hRf : 2 ≤ R.frames) (hRl : 46 ≤ R.locals) (hce : ce ≤ R.cells) (hsl : sl ≤ R.slots) (hA : ∀ x, s.heap.size ≤ x → A x) (hK : va_K D wk_cl (tysW cA) s) (x1 : Int32) (x2 : Int32) (z : Sta) (K : Int64 → Sta → Prop) (T : String → Sta → Prop) (h : wp_C_put x1 x2 z K T) (hret : ∀ (r : Int64) (u : Sta) (H : Heap) (locs : List Loc) (pc : Nat) (ls : Array Slot), K r u → wk_S D q cA A s.heap u H locs → decode prog_1_method_7_code pc = .ok (.lreturn, 1) → W p l e R s m args below meth c H locs ce sl Q (F0 m pc ls [.long r])) (ht29 : ∀ (u : Sta) (H : Heap) (locs : List Loc) (ls : Array Slot), T "java/util/NoSuchElementException" u → wk_S D q cA A s.heap u H locs → ls.size = 3 → W p l e R s m args below meth c H locs ce sl Q (F0 m 29 ls [])) (ht7 : ∀ (u : Sta) (H : Heap) (locs : List Loc) (ls : Array Slot), T "java/lang/IllegalStateException" u → wk_S D q cA A s.heap u H locs → ls.size = 3 → W p l e R s m args below meth c H locs ce sl Q (F0 m 7 ls [])) {H : Heap} {locs : List Loc} {ls : Array Slot} (hV : wk_S D q cA A s.heap z H locs) (hl : lv_has ls 3 [(0, .ref (q 0)), (1, .int x1), (2, .int x2)]) : W p l e R s m args below meth c H locs ce sl Q (F0 m 0 ls []) := by
  unfold wp_C_put at h
  refine lv_aload_n hx hb kd_prog_1_method_7_code_0 rfl (lv_at hl 0 rfl) ?_
  refine va_get (D := D) (ci := 0) (v := .int (z.1 0)) (C := kr_C) (T := kt_C) (N := kn_C) hx hb hts ki_C hown hK hV.1 0 rfl rfl 3 (by decide) (hts _ hw_176) (fun _ h9 => h9) rfl kd_prog_1_method_7_code_1 ?_
  refine lv_topi (fun v1 ev1 => ?_)
  have h := h v1 ev1
  refine lv_if_ne (tgt := 17) hx hb kd_prog_1_method_7_code_4 (by decide) (fun hc => ?_) (fun hc => ?_)
  · have h := h.1 hc
    refine lv_aload_n hx hb kd_prog_1_method_7_code_17 rfl (lv_at hl 0 rfl) ?_
    refine va_get (D := D) (ci := 0) (v := .ref (q 2)) (C := kr_C) (T := kt_C) (N := kn_C) hx hb hts ki_C hown hK hV.1 0 rfl rfl 1 (by decide) (hts _ hw_174) (fun _ h9 => h9) rfl kd_prog_1_method_7_code_18 ?_
    refine lv_iload_n hx hb kd_prog_1_method_7_code_21 rfl (lv_at hl 1 rfl) ?_
    refine lv_iload_n hx hb kd_prog_1_method_7_code_22 rfl (lv_at hl 2 rfl) ?_
    refine wk_calli (va_runV (As := [.int x1, .int x2]) (rest := []) ⟨hx, hb, hml, hown, hts⟩ (c_O_hasEdge l D q cA x1 x2 z H.size _ h) (cwV 2 hts gs_C_121 rfl rfl rfl (by decide +kernel) ⟨Nat.le_trans (by decide) hRf, Nat.le_trans (by decide) hRl⟩) (wk_preV hK hV 2 2 rfl rfl [.int x1, .int x2]) rfl rfl hl.1 rfl (lv_room (Nat.le_of_ble_eq_true rfl)) kd_prog_1_method_7_code_23 ⟨hce, hsl⟩) hV hA (fun rz2 z2 H locs h hV => ?_)
    refine lv_if_ne (tgt := 39) hx hb kd_prog_1_method_7_code_26 (by decide) (fun hc => ?_) (fun hc => ?_)
    · have h := h.1 hc
      refine lv_aload_n hx hb kd_prog_1_method_7_code_39 rfl (lv_at hl 0 rfl) ?_
      refine va_get (D := D) (ci := 0) (v := .ref (q 2)) (C := kr_C) (T := kt_C) (N := kn_C) hx hb hts ki_C hown hK hV.1 0 rfl rfl 1 (by decide) (hts _ hw_174) (fun _ h9 => h9) rfl kd_prog_1_method_7_code_40 ?_
      refine lv_iload_n hx hb kd_prog_1_method_7_code_43 rfl (lv_at hl 1 rfl) ?_
      refine lv_iload_n hx hb kd_prog_1_method_7_code_44 rfl (lv_at hl 2 rfl) ?_
      refine wk_calll (va_runV (As := [.int x1, .int x2]) (rest := []) ⟨hx, hb, hml, hown, hts⟩ (c_O_putOn l D q cA x1 x2 z2 H.size _ h) (cwV 2 hts gs_C_130 rfl rfl rfl (by decide +kernel) ⟨Nat.le_trans (by decide) hRf, Nat.le_trans (by decide) hRl⟩) (wk_preV hK hV 2 2 rfl rfl [.int x1, .int x2]) rfl rfl hl.1 rfl (lv_room (Nat.le_of_ble_eq_true rfl)) kd_prog_1_method_7_code_45 ⟨hce, hsl⟩) hV hA (fun rz3 z3 H locs h hV => ?_)
      exact hret rz3 z3 H locs 48 ls h hV kd_prog_1_method_7_code_48
    · have h := h.2 hc
      exact ht29 z2 H locs ls h hV hl.1
  · have h := h.2 hc
    exact ht7 z H locs ls h hV hl.1
end
set_option maxHeartbeats 4000000 in
set_option maxRecDepth 100000 in
theorem c_C_put (l : Launch) (hst : l.stackTraces = false) (D : va_G) (q : Nat → Nat) (cA : Nat → ClassId) (SA : Nat → Nat) (x1 : Int32) (x2 : Int32) (z : Sta) (sz : Nat) (K : Int64 → Sta → Prop) (T : String → Sta → Prop) (h : wp_C_put x1 x2 z K T) : vx_Met l ke_C_put (kc_C_put :: lw_g) { frames := 6, cells := 1, slots := 6, locals := 82 } (wk_PcX D q cA SA [.ref (q 0), .int x1, .int x2] z sz) (va_Ql K (wk_B D q cA (va_A (wW q cA z) sz)) (va_A (wW q cA z) sz)) (wk_XC D q cA T (va_A (wW q cA z) sz)) 1 6 (va_A (wW q cA z) sz) := by
  refine vx_ofW (cc := prog_1_method_7_code) (maxL := 3) (ret := (some .long)) (by decide) rfl ?_
  intro p e s m args below meth c s₁ B hml htab hv
  obtain ⟨rfl, hsz, hP, hK, hD0, hX⟩ := hv
  have hx := B.exec
  have hb := B.bytes
  have hr := B.returns
  have hlocks := B.notSynchronized
  have hts0 := atoms_spec (ws := kc_C_put :: lw_g) B.pre
  have hts : ∀ w ∈ lw_g, w.before ([.ref (q 0), .int x1, .int x2] : List Value).toArray s = true := fun w hw => hts0 w (List.mem_cons_of_mem _ hw)
  have hown : s.vm.findClass kr_C = some m.cls := findClass_of_methodNamed B.named
  subst hsz
  have hD := hD0.self (sz := s.heap.size)
  generalize hAe : va_A (wW q cA z) s.heap.size = A at hD hX ⊢
  have hA : ∀ x : Nat, s.heap.size ≤ x → A x := fun x hx => by rw [← hAe]; exact Or.inr hx
  have hl := lv_entry ([.ref (q 0), .int x1, .int x2]) (n := 3) (Nat.le_of_ble_eq_true rfl)
  rw [lg_entry_eq]
  generalize (lg_sl ([.ref (q 0), .int x1, .int x2]) ++ List.replicate (3 - (lg_sl ([.ref (q 0), .int x1, .int x2])).length) Slot.unset).toArray = ls at hl ⊢
  have hl : lv_has ls 3 [(0, .ref (q 0)), (1, .int x1), (2, .int x2)] := hl
  exact w_C_put (ce := 0) (sl := 0) hx hb hml hown hts (Nat.le_of_ble_eq_true rfl) (Nat.le_of_ble_eq_true rfl) (Nat.zero_le _) (Nat.zero_le _) hA hK x1 x2 z K T h (fun r u H locs pc ls hk hV hd => vx_ret (W.widen (k := 1) (n := 6) (Nat.zero_le _) (Nat.zero_le _) (W.lret hx hb hr (fun t ht hW => ⟨⟨r, u, rfl, hk, by rw [ht]; exact hV.1, va_K.moved hW.alike hK, hV.2.1⟩, hV.2.2.F ht⟩) hV.2.2.2.2 hd))) (fun u H locs ls hT hV hs => wk_thrN hx hb hst hown hx_N 9 rfl (hts _ hw_479) (hts _ hw_14) hts hX hK hV (hs.trans hml.symm) kd_prog_1_method_7_code_29 kd_prog_1_method_7_code_32 kd_prog_1_method_7_code_33 kd_prog_1_method_7_code_35 kd_prog_1_method_7_code_38 htab (Nat.le_of_ble_eq_true rfl) (Nat.le_of_ble_eq_true rfl) (Nat.le_refl _) (Nat.le_refl _) hlocks hT) (fun u H locs ls hT hV hs => wk_thr hx hb hst hown hx_49 7 rfl (hts _ hw_205) (hts _ hw_9) hts hX hK hV (hs.trans hml.symm) kd_prog_1_method_7_code_7 kd_prog_1_method_7_code_10 kd_prog_1_method_7_code_11 kd_prog_1_method_7_code_13 kd_prog_1_method_7_code_16 htab (Nat.le_of_ble_eq_true rfl) (Nat.le_of_ble_eq_true rfl) (Nat.le_refl _) (Nat.le_refl _) hlocks hT) ⟨hP, hD, va_S.rf⟩ hl
section
variable {p : Program} {l : Launch} {e : Env} {R : Room} {s : State} {m : MethodId} {args : Array Value} {below : List Frame} {meth : Method} {c : Code} {Q : State → Prop} {ce sl : Nat} {D : va_G} {q : Nat → Nat} {cA : Nat → ClassId} {A : Nat → Prop}
set_option maxHeartbeats 4000000 in
set_option maxRecDepth 100000 in
theorem w_C_expression (hx : p.tables.exec = Jvm.exec) (hb : c.code = prog_1_method_8_code) (hml : c.maxLocals = 5) (hown : s.vm.findClass kr_C = some m.cls) (hts : ∀ w ∈ lw_g, w.before args s = true) (hRf : 1 ≤ R.frames) (hRl : 24 ≤ R.locals) (hce : ce ≤ R.cells) (hsl : sl ≤ R.slots) (hA : ∀ x, s.heap.size ≤ x → A x) (hK : va_K D wk_cl (tysW cA) s) (x1 : Int32) (x2 : Int32) (x3 : Int32) (z : Sta) (K : Int32 → Sta → Prop) (T : String → Sta → Prop) (h : wp_C_expression x1 x2 x3 z K T) (hret : ∀ (r : Int32) (u : Sta) (H : Heap) (locs : List Loc) (pc : Nat) (ls : Array Slot), K r u → wk_S D q cA A s.heap u H locs → decode prog_1_method_8_code pc = .ok (.ireturn, 1) → W p l e R s m args below meth c H locs ce sl Q (F0 m pc ls [.int r])) (ht18 : ∀ (u : Sta) (H : Heap) (locs : List Loc) (ls : Array Slot), T "java/util/NoSuchElementException" u → wk_S D q cA A s.heap u H locs → ls.size = 5 → W p l e R s m args below meth c H locs ce sl Q (F0 m 18 ls [])) {H : Heap} {locs : List Loc} {ls : Array Slot} (hV : wk_S D q cA A s.heap z H locs) (hl : lv_has ls 5 [(0, .ref (q 0)), (1, .int x1), (2, .int x2), (3, .int x3)]) : W p l e R s m args below meth c H locs ce sl Q (F0 m 0 ls []) := by
  unfold wp_C_expression at h
  refine lv_aload_n hx hb kd_prog_1_method_8_code_0 rfl (lv_at hl 0 rfl) ?_
  refine va_get (D := D) (ci := 0) (v := .ref (q 1)) (C := kr_C) (T := kt_C) (N := kn_C) hx hb hts ki_C hown hK hV.1 0 rfl rfl 0 (by decide) (hts _ hw_173) (fun _ h9 => h9) rfl kd_prog_1_method_8_code_1 ?_
  refine lv_iload_n hx hb kd_prog_1_method_8_code_4 rfl (lv_at hl 1 rfl) ?_
  refine lv_iload_n hx hb kd_prog_1_method_8_code_5 rfl (lv_at hl 2 rfl) ?_
  refine lv_iload_n hx hb kd_prog_1_method_8_code_6 rfl (lv_at hl 3 rfl) ?_
  refine wk_calli (va_runV (As := [.int x1, .int x2, .int x3]) (rest := []) ⟨hx, hb, hml, hown, hts⟩ (c_P_findExpression l D q cA x1 x2 x3 z H.size _ h) (cwV 3 hts gs_C_133 rfl rfl rfl (by decide +kernel) ⟨Nat.le_trans (by decide) hRf, Nat.le_trans (by decide) hRl⟩) (wk_preV hK hV 1 1 rfl rfl [.int x1, .int x2, .int x3]) rfl rfl hl.1 rfl (lv_room (Nat.le_of_ble_eq_true rfl)) kd_prog_1_method_8_code_7 ⟨hce, hsl⟩) hV hA (fun rz1 z1 H locs h hV => ?_)
  refine lv_istore hx hb kd_prog_1_method_8_code_10 hl (by decide) rfl (fun ls hl => ?_)
  have hl : lv_has ls 5 [(4, .int rz1), (0, .ref (q 0)), (1, .int x1), (2, .int x2), (3, .int x3)] := hl
  refine lv_iload hx hb kd_prog_1_method_8_code_12 (lv_at hl 0 rfl) ?_
  refine lv_iconst (v := (-1)) hx hb kd_prog_1_method_8_code_14 (by decide) ?_
  refine lv_icmp_ne (tgt := 28) hx hb kd_prog_1_method_8_code_15 (by decide) (fun hc => ?_) (fun hc => ?_)
  · have h := h.1 hc
    refine lv_iload hx hb kd_prog_1_method_8_code_28 (lv_at hl 0 rfl) ?_
    exact hret rz1 z1 H locs 30 ls h hV kd_prog_1_method_8_code_30
  · have h := h.2 hc
    exact ht18 z1 H locs ls h hV hl.1
end
set_option maxHeartbeats 4000000 in
set_option maxRecDepth 100000 in
theorem c_C_expression (l : Launch) (hst : l.stackTraces = false) (D : va_G) (q : Nat → Nat) (cA : Nat → ClassId) (SA : Nat → Nat) (x1 : Int32) (x2 : Int32) (x3 : Int32) (z : Sta) (sz : Nat) (K : Int32 → Sta → Prop) (T : String → Sta → Prop) (h : wp_C_expression x1 x2 x3 z K T) : vx_Met l ke_C_expression (kc_C_expression :: lw_g) { frames := 6, cells := 1, slots := 6, locals := 82 } (wk_PcX D q cA SA [.ref (q 0), .int x1, .int x2, .int x3] z sz) (va_Qi K (wk_B D q cA (va_A (wW q cA z) sz)) (va_A (wW q cA z) sz)) (wk_XC D q cA T (va_A (wW q cA z) sz)) 1 6 (va_A (wW q cA z) sz) := by
  refine vx_ofW (cc := prog_1_method_8_code) (maxL := 5) (ret := (some .int)) (by decide) rfl ?_
  intro p e s m args below meth c s₁ B hml htab hv
  obtain ⟨rfl, hsz, hP, hK, hD0, hX⟩ := hv
  have hx := B.exec
  have hb := B.bytes
  have hr := B.returns
  have hlocks := B.notSynchronized
  have hts0 := atoms_spec (ws := kc_C_expression :: lw_g) B.pre
  have hts : ∀ w ∈ lw_g, w.before ([.ref (q 0), .int x1, .int x2, .int x3] : List Value).toArray s = true := fun w hw => hts0 w (List.mem_cons_of_mem _ hw)
  have hown : s.vm.findClass kr_C = some m.cls := findClass_of_methodNamed B.named
  subst hsz
  have hD := hD0.self (sz := s.heap.size)
  generalize hAe : va_A (wW q cA z) s.heap.size = A at hD hX ⊢
  have hA : ∀ x : Nat, s.heap.size ≤ x → A x := fun x hx => by rw [← hAe]; exact Or.inr hx
  have hl := lv_entry ([.ref (q 0), .int x1, .int x2, .int x3]) (n := 5) (Nat.le_of_ble_eq_true rfl)
  rw [lg_entry_eq]
  generalize (lg_sl ([.ref (q 0), .int x1, .int x2, .int x3]) ++ List.replicate (5 - (lg_sl ([.ref (q 0), .int x1, .int x2, .int x3])).length) Slot.unset).toArray = ls at hl ⊢
  have hl : lv_has ls 5 [(0, .ref (q 0)), (1, .int x1), (2, .int x2), (3, .int x3)] := hl
  exact w_C_expression (ce := 0) (sl := 0) hx hb hml hown hts (Nat.le_of_ble_eq_true rfl) (Nat.le_of_ble_eq_true rfl) (Nat.zero_le _) (Nat.zero_le _) hA hK x1 x2 x3 z K T h (fun r u H locs pc ls hk hV hd => vx_ret (W.widen (k := 1) (n := 6) (Nat.zero_le _) (Nat.zero_le _) (W.iret hx hb hr (fun t ht hW => ⟨⟨r, u, rfl, hk, by rw [ht]; exact hV.1, va_K.moved hW.alike hK, hV.2.1⟩, hV.2.2.F ht⟩) hV.2.2.2.2 hd))) (fun u H locs ls hT hV hs => wk_thrN hx hb hst hown hx_N 10 rfl (hts _ hw_479) (hts _ hw_14) hts hX hK hV (hs.trans hml.symm) kd_prog_1_method_8_code_18 kd_prog_1_method_8_code_21 kd_prog_1_method_8_code_22 kd_prog_1_method_8_code_24 kd_prog_1_method_8_code_27 htab (Nat.le_of_ble_eq_true rfl) (Nat.le_of_ble_eq_true rfl) (Nat.le_refl _) (Nat.le_refl _) hlocks hT) ⟨hP, hD, va_S.rf⟩ hl
section
variable {p : Program} {l : Launch} {e : Env} {R : Room} {s : State} {m : MethodId} {args : Array Value} {below : List Frame} {meth : Method} {c : Code} {Q : State → Prop} {ce sl : Nat} {D : va_G} {q : Nat → Nat} {cA : Nat → ClassId} {A : Nat → Prop}
set_option maxHeartbeats 4000000 in
set_option maxRecDepth 100000 in
theorem w_C_run (hx : p.tables.exec = Jvm.exec) (hb : c.code = prog_1_method_9_code) (hml : c.maxLocals = 5) (hown : s.vm.findClass kr_C = some m.cls) (hts : ∀ w ∈ lw_g, w.before args s = true) (hRf : 4 ≤ R.frames) (hRl : 98 ≤ R.locals) (hce : ce ≤ R.cells) (hsl : sl ≤ R.slots) (hA : ∀ x, s.heap.size ≤ x → A x) (hK : va_K D wk_cl (tysW cA) s) (x1 : Int32) (x2 : Int32) (x3 : Int32) (x4 : Int32) (z : Sta) (K : Int32 → Sta → Prop) (T : String → Sta → Prop) (h : wp_C_run x1 x2 x3 x4 z K T) (hret : ∀ (r : Int32) (u : Sta) (H : Heap) (locs : List Loc) (pc : Nat) (ls : Array Slot), K r u → wk_S D q cA A s.heap u H locs → decode prog_1_method_9_code pc = .ok (.ireturn, 1) → W p l e R s m args below meth c H locs ce sl Q (F0 m pc ls [.int r])) (ht7 : ∀ (u : Sta) (H : Heap) (locs : List Loc) (ls : Array Slot), T "java/lang/IllegalStateException" u → wk_S D q cA A s.heap u H locs → ls.size = 5 → W p l e R s m args below meth c H locs ce sl Q (F0 m 7 ls [])) {H : Heap} {locs : List Loc} {ls : Array Slot} (hV : wk_S D q cA A s.heap z H locs) (hl : lv_has ls 5 [(0, .ref (q 0)), (1, .int x1), (2, .int x2), (3, .int x3), (4, .int x4)]) : W p l e R s m args below meth c H locs ce sl Q (F0 m 0 ls []) := by
  unfold wp_C_run at h
  refine lv_aload_n hx hb kd_prog_1_method_9_code_0 rfl (lv_at hl 0 rfl) ?_
  refine va_get (D := D) (ci := 0) (v := .int (z.1 0)) (C := kr_C) (T := kt_C) (N := kn_C) hx hb hts ki_C hown hK hV.1 0 rfl rfl 3 (by decide) (hts _ hw_176) (fun _ h9 => h9) rfl kd_prog_1_method_9_code_1 ?_
  refine lv_topi (fun v1 ev1 => ?_)
  have h := h v1 ev1
  refine lv_if_ne (tgt := 17) hx hb kd_prog_1_method_9_code_4 (by decide) (fun hc => ?_) (fun hc => ?_)
  · have h := h.1 hc
    refine lv_aload_n hx hb kd_prog_1_method_9_code_17 rfl (lv_at hl 0 rfl) ?_
    refine va_get (D := D) (ci := 0) (v := .ref (q 3)) (C := kr_C) (T := kt_C) (N := kn_C) hx hb hts ki_C hown hK hV.1 0 rfl rfl 2 (by decide) (hts _ hw_175) (fun _ h9 => h9) rfl kd_prog_1_method_9_code_18 ?_
    refine lv_iload_n hx hb kd_prog_1_method_9_code_21 rfl (lv_at hl 2 rfl) ?_
    refine lv_iload_n hx hb kd_prog_1_method_9_code_22 rfl (lv_at hl 3 rfl) ?_
    refine lv_iload hx hb kd_prog_1_method_9_code_23 (lv_at hl 4 rfl) ?_
    refine wk_callv (va_runV (As := [.int x2, .int x3, .int x4]) (rest := []) ⟨hx, hb, hml, hown, hts⟩ (c_K_reset l D q cA x2 x3 x4 z H.size _ h) (cwV 3 hts gs_C_138 rfl rfl rfl (by decide +kernel) ⟨Nat.le_trans (by decide) hRf, Nat.le_trans (by decide) hRl⟩) (wk_preV hK hV 3 3 rfl rfl [.int x2, .int x3, .int x4]) rfl rfl hl.1 rfl (lv_room (Nat.le_of_ble_eq_true rfl)) kd_prog_1_method_9_code_25 ⟨hce, hsl⟩) hV hA (fun z2 H locs h hV => ?_)
    refine lv_aload_n hx hb kd_prog_1_method_9_code_28 rfl (lv_at hl 0 rfl) ?_
    refine va_get (D := D) (ci := 0) (v := .ref (q 3)) (C := kr_C) (T := kt_C) (N := kn_C) hx hb hts ki_C hown hK hV.1 0 rfl rfl 2 (by decide) (hts _ hw_175) (fun _ h9 => h9) rfl kd_prog_1_method_9_code_29 ?_
    refine lv_iload_n hx hb kd_prog_1_method_9_code_32 rfl (lv_at hl 1 rfl) ?_
    refine wk_callv (va_runV (As := [.int x1]) (rest := []) ⟨hx, hb, hml, hown, hts⟩ (c_K_goThrough l D q cA x1 z2 H.size _ h) (cwV 1 hts gs_C_142 rfl rfl rfl (by decide +kernel) ⟨Nat.le_trans (by decide) hRf, Nat.le_trans (by decide) hRl⟩) (wk_preV hK hV 3 3 rfl rfl [.int x1]) rfl rfl hl.1 rfl (lv_room (Nat.le_of_ble_eq_true rfl)) kd_prog_1_method_9_code_33 ⟨hce, hsl⟩) hV hA (fun z3 H locs h hV => ?_)
    refine lv_aload_n hx hb kd_prog_1_method_9_code_36 rfl (lv_at hl 0 rfl) ?_
    refine va_get (D := D) (ci := 0) (v := .ref (q 3)) (C := kr_C) (T := kt_C) (N := kn_C) hx hb hts ki_C hown hK hV.1 0 rfl rfl 2 (by decide) (hts _ hw_175) (fun _ h9 => h9) rfl kd_prog_1_method_9_code_37 ?_
    refine va_get (D := D) (ci := 3) (v := .int (z3.1 4)) (C := kr_K) (T := kt_K) (N := kn_K) hx hb hts ki_K hown hK hV.1 3 rfl rfl 0 (by decide) (hts _ hw_140) (fun _ h9 => h9) rfl kd_prog_1_method_9_code_40 ?_
    refine lv_topi (fun v4 ev4 => ?_)
    have h := h v4 ev4
    exact hret v4 z3 H locs 43 ls h hV kd_prog_1_method_9_code_43
  · have h := h.2 hc
    exact ht7 z H locs ls h hV hl.1
end
set_option maxHeartbeats 4000000 in
set_option maxRecDepth 100000 in
theorem c_C_run (l : Launch) (hst : l.stackTraces = false) (D : va_G) (q : Nat → Nat) (cA : Nat → ClassId) (SA : Nat → Nat) (x1 : Int32) (x2 : Int32) (x3 : Int32) (x4 : Int32) (z : Sta) (sz : Nat) (K : Int32 → Sta → Prop) (T : String → Sta → Prop) (h : wp_C_run x1 x2 x3 x4 z K T) : vx_Met l ke_C_run (kc_C_run :: lw_g) { frames := 6, cells := 1, slots := 6, locals := 98 } (wk_PcX D q cA SA [.ref (q 0), .int x1, .int x2, .int x3, .int x4] z sz) (va_Qi K (wk_B D q cA (va_A (wW q cA z) sz)) (va_A (wW q cA z) sz)) (wk_XC D q cA T (va_A (wW q cA z) sz)) 1 6 (va_A (wW q cA z) sz) := by
  refine vx_ofW (cc := prog_1_method_9_code) (maxL := 5) (ret := (some .int)) (by decide) rfl ?_
  intro p e s m args below meth c s₁ B hml htab hv
  obtain ⟨rfl, hsz, hP, hK, hD0, hX⟩ := hv
  have hx := B.exec
  have hb := B.bytes
  have hr := B.returns
  have hlocks := B.notSynchronized
  have hts0 := atoms_spec (ws := kc_C_run :: lw_g) B.pre
  have hts : ∀ w ∈ lw_g, w.before ([.ref (q 0), .int x1, .int x2, .int x3, .int x4] : List Value).toArray s = true := fun w hw => hts0 w (List.mem_cons_of_mem _ hw)
  have hown : s.vm.findClass kr_C = some m.cls := findClass_of_methodNamed B.named
  subst hsz
  have hD := hD0.self (sz := s.heap.size)
  generalize hAe : va_A (wW q cA z) s.heap.size = A at hD hX ⊢
  have hA : ∀ x : Nat, s.heap.size ≤ x → A x := fun x hx => by rw [← hAe]; exact Or.inr hx
  have hl := lv_entry ([.ref (q 0), .int x1, .int x2, .int x3, .int x4]) (n := 5) (Nat.le_of_ble_eq_true rfl)
  rw [lg_entry_eq]
  generalize (lg_sl ([.ref (q 0), .int x1, .int x2, .int x3, .int x4]) ++ List.replicate (5 - (lg_sl ([.ref (q 0), .int x1, .int x2, .int x3, .int x4])).length) Slot.unset).toArray = ls at hl ⊢
  have hl : lv_has ls 5 [(0, .ref (q 0)), (1, .int x1), (2, .int x2), (3, .int x3), (4, .int x4)] := hl
  exact w_C_run (ce := 0) (sl := 0) hx hb hml hown hts (Nat.le_of_ble_eq_true rfl) (Nat.le_of_ble_eq_true rfl) (Nat.zero_le _) (Nat.zero_le _) hA hK x1 x2 x3 x4 z K T h (fun r u H locs pc ls hk hV hd => vx_ret (W.widen (k := 1) (n := 6) (Nat.zero_le _) (Nat.zero_le _) (W.iret hx hb hr (fun t ht hW => ⟨⟨r, u, rfl, hk, by rw [ht]; exact hV.1, va_K.moved hW.alike hK, hV.2.1⟩, hV.2.2.F ht⟩) hV.2.2.2.2 hd))) (fun u H locs ls hT hV hs => wk_thr hx hb hst hown hx_49 7 rfl (hts _ hw_205) (hts _ hw_9) hts hX hK hV (hs.trans hml.symm) kd_prog_1_method_9_code_7 kd_prog_1_method_9_code_10 kd_prog_1_method_9_code_11 kd_prog_1_method_9_code_13 kd_prog_1_method_9_code_16 htab (Nat.le_of_ble_eq_true rfl) (Nat.le_of_ble_eq_true rfl) (Nat.le_refl _) (Nat.le_refl _) hlocks hT) ⟨hP, hD, va_S.rf⟩ hl
section
variable {p : Program} {l : Launch} {e : Env} {R : Room} {s : State} {m : MethodId} {args : Array Value} {below : List Frame} {meth : Method} {c : Code} {Q : State → Prop} {ce sl : Nat} {D : va_G} {q : Nat → Nat} {cA : Nat → ClassId} {A : Nat → Prop}
set_option maxHeartbeats 4000000 in
set_option maxRecDepth 100000 in
theorem w_C_out (hx : p.tables.exec = Jvm.exec) (hb : c.code = prog_1_method_11_code) (hml : c.maxLocals = 2) (hown : s.vm.findClass kr_C = some m.cls) (hts : ∀ w ∈ lw_g, w.before args s = true) (hRf : 0 ≤ R.frames) (hRl : 0 ≤ R.locals) (hce : ce ≤ R.cells) (hsl : sl ≤ R.slots) (hA : ∀ x, s.heap.size ≤ x → A x) (hK : va_K D wk_cl (tysW cA) s) (x1 : Int32) (z : Sta) (K : Int32 → Sta → Prop) (T : String → Sta → Prop) (h : wp_C_out x1 z K T) (hret : ∀ (r : Int32) (u : Sta) (H : Heap) (locs : List Loc) (pc : Nat) (ls : Array Slot), K r u → wk_S D q cA A s.heap u H locs → decode prog_1_method_11_code pc = .ok (.ireturn, 1) → W p l e R s m args below meth c H locs ce sl Q (F0 m pc ls [.int r])) (ht21 : ∀ (u : Sta) (H : Heap) (locs : List Loc) (ls : Array Slot), T "java/lang/IndexOutOfBoundsException" u → wk_S D q cA A s.heap u H locs → ls.size = 2 → W p l e R s m args below meth c H locs ce sl Q (F0 m 21 ls [])) {H : Heap} {locs : List Loc} {ls : Array Slot} (hV : wk_S D q cA A s.heap z H locs) (hl : lv_has ls 2 [(0, .ref (q 0)), (1, .int x1)]) : W p l e R s m args below meth c H locs ce sl Q (F0 m 0 ls []) := by
  have J21 : ∀ (z : Sta) (H : Heap) (locs : List Loc) (ls : Array Slot), wk_S D q cA A s.heap z H locs → lv_has ls 2 [] → pj_C_out_21 K T z → W p l e R s m args below meth c H locs ce sl Q (F0 m 21 ls []) := by
    intro z H locs ls hV hl h
    unfold pj_C_out_21 at h
    exact ht21 z H locs ls h hV hl.1
  unfold wp_C_out at h
  refine lv_iload_n hx hb kd_prog_1_method_11_code_0 rfl (lv_at hl 1 rfl) ?_
  refine lv_if_lt (tgt := 21) hx hb kd_prog_1_method_11_code_1 (by decide) (fun hc => ?_) (fun hc => ?_)
  · have h := h.1 hc
    exact J21 z H locs ls hV (lv_sub hl [] rfl) h
  · have h := h.2 hc
    refine lv_iload_n hx hb kd_prog_1_method_11_code_4 rfl (lv_at hl 1 rfl) ?_
    refine lv_bipush (v := 100) hx hb kd_prog_1_method_11_code_5 (by decide) ?_
    refine lv_icmp_ge (tgt := 21) hx hb kd_prog_1_method_11_code_7 (by decide) (fun hc => ?_) (fun hc => ?_)
    · have h := h.1 hc
      exact J21 z H locs ls hV (lv_sub hl [] rfl) h
    · have h := h.2 hc
      refine lv_iload_n hx hb kd_prog_1_method_11_code_10 rfl (lv_at hl 1 rfl) ?_
      refine lv_aload_n hx hb kd_prog_1_method_11_code_11 rfl (lv_at hl 0 rfl) ?_
      refine va_get (D := D) (ci := 0) (v := .ref (q 3)) (C := kr_C) (T := kt_C) (N := kn_C) hx hb hts ki_C hown hK hV.1 0 rfl rfl 2 (by decide) (hts _ hw_175) (fun _ h9 => h9) rfl kd_prog_1_method_11_code_12 ?_
      refine va_get (D := D) (ci := 3) (v := .int (z.1 5)) (C := kr_K) (T := kt_K) (N := kn_K) hx hb hts ki_K hown hK hV.1 3 rfl rfl 1 (by decide) (hts _ hw_142) (fun _ h9 => h9) rfl kd_prog_1_method_11_code_15 ?_
      refine lv_topi (fun v1 ev1 => ?_)
      have h := h v1 ev1
      refine lv_icmp_lt (tgt := 31) hx hb kd_prog_1_method_11_code_18 (by decide) (fun hc => ?_) (fun hc => ?_)
      · have h := h.1 hc
        refine lv_aload_n hx hb kd_prog_1_method_11_code_31 rfl (lv_at hl 0 rfl) ?_
        refine va_get (D := D) (ci := 0) (v := .ref (q 3)) (C := kr_C) (T := kt_C) (N := kn_C) hx hb hts ki_C hown hK hV.1 0 rfl rfl 2 (by decide) (hts _ hw_175) (fun _ h9 => h9) rfl kd_prog_1_method_11_code_32 ?_
        refine va_get (D := D) (ci := 3) (v := .ref (q 28)) (C := kr_K) (T := kt_K) (N := kn_K) hx hb hts ki_K hown hK hV.1 3 rfl rfl 5 (by decide) (hts _ hw_150) (fun _ h9 => h9) rfl kd_prog_1_method_11_code_35 ?_
        refine lv_iload_n hx hb kd_prog_1_method_11_code_38 rfl (lv_at hl 1 rfl) ?_
        obtain ⟨hin, h⟩ := h
        refine va_iald hx hb hK hV.1 28 23 rfl rfl hin kd_prog_1_method_11_code_39 ?_
        refine lv_topi (fun v2 ev2 => ?_)
        have h := h v2 ev2
        exact hret v2 z H locs 40 ls h hV kd_prog_1_method_11_code_40
      · have h := h.2 hc
        exact J21 z H locs ls hV (lv_sub hl [] rfl) h
end
set_option maxHeartbeats 4000000 in
set_option maxRecDepth 100000 in
theorem c_C_out (l : Launch) (hst : l.stackTraces = false) (D : va_G) (q : Nat → Nat) (cA : Nat → ClassId) (SA : Nat → Nat) (x1 : Int32) (z : Sta) (sz : Nat) (K : Int32 → Sta → Prop) (T : String → Sta → Prop) (h : wp_C_out x1 z K T) : vx_Met l ke_C_out (kc_C_out :: lw_g) { frames := 6, cells := 1, slots := 6, locals := 82 } (wk_PcX D q cA SA [.ref (q 0), .int x1] z sz) (va_Qi K (wk_B D q cA (va_A (wW q cA z) sz)) (va_A (wW q cA z) sz)) (wk_XC D q cA T (va_A (wW q cA z) sz)) 1 6 (va_A (wW q cA z) sz) := by
  refine vx_ofW (cc := prog_1_method_11_code) (maxL := 2) (ret := (some .int)) (by decide) rfl ?_
  intro p e s m args below meth c s₁ B hml htab hv
  obtain ⟨rfl, hsz, hP, hK, hD0, hX⟩ := hv
  have hx := B.exec
  have hb := B.bytes
  have hr := B.returns
  have hlocks := B.notSynchronized
  have hts0 := atoms_spec (ws := kc_C_out :: lw_g) B.pre
  have hts : ∀ w ∈ lw_g, w.before ([.ref (q 0), .int x1] : List Value).toArray s = true := fun w hw => hts0 w (List.mem_cons_of_mem _ hw)
  have hown : s.vm.findClass kr_C = some m.cls := findClass_of_methodNamed B.named
  subst hsz
  have hD := hD0.self (sz := s.heap.size)
  generalize hAe : va_A (wW q cA z) s.heap.size = A at hD hX ⊢
  have hA : ∀ x : Nat, s.heap.size ≤ x → A x := fun x hx => by rw [← hAe]; exact Or.inr hx
  have hl := lv_entry ([.ref (q 0), .int x1]) (n := 2) (Nat.le_of_ble_eq_true rfl)
  rw [lg_entry_eq]
  generalize (lg_sl ([.ref (q 0), .int x1]) ++ List.replicate (2 - (lg_sl ([.ref (q 0), .int x1])).length) Slot.unset).toArray = ls at hl ⊢
  have hl : lv_has ls 2 [(0, .ref (q 0)), (1, .int x1)] := hl
  exact w_C_out (ce := 0) (sl := 0) hx hb hml hown hts (Nat.le_of_ble_eq_true rfl) (Nat.le_of_ble_eq_true rfl) (Nat.zero_le _) (Nat.zero_le _) hA hK x1 z K T h (fun r u H locs pc ls hk hV hd => vx_ret (W.widen (k := 1) (n := 6) (Nat.zero_le _) (Nat.zero_le _) (W.iret hx hb hr (fun t ht hW => ⟨⟨r, u, rfl, hk, by rw [ht]; exact hV.1, va_K.moved hW.alike hK, hV.2.1⟩, hV.2.2.F ht⟩) hV.2.2.2.2 hd))) (fun u H locs ls hT hV hs => wk_thr hx hb hst hown hx_116 11 rfl (hts _ hw_446) (hts _ hw_13) hts hX hK hV (hs.trans hml.symm) kd_prog_1_method_11_code_21 kd_prog_1_method_11_code_24 kd_prog_1_method_11_code_25 kd_prog_1_method_11_code_27 kd_prog_1_method_11_code_30 htab (Nat.le_of_ble_eq_true rfl) (Nat.le_of_ble_eq_true rfl) (Nat.le_refl _) (Nat.le_refl _) hlocks hT) ⟨hP, hD, va_S.rf⟩ hl
section
variable {p : Program} {l : Launch} {e : Env} {R : Room} {s : State} {m : MethodId} {args : Array Value} {below : List Frame} {meth : Method} {c : Code} {Q : State → Prop} {ce sl : Nat} {D : va_G} {q : Nat → Nat} {cA : Nat → ClassId} {A : Nat → Prop}
set_option maxHeartbeats 4000000 in
set_option maxRecDepth 100000 in
theorem w_C_variable (hx : p.tables.exec = Jvm.exec) (hb : c.code = prog_1_method_12_code) (hml : c.maxLocals = 2) (hown : s.vm.findClass kr_C = some m.cls) (hts : ∀ w ∈ lw_g, w.before args s = true) (hRf : 1 ≤ R.frames) (hRl : 20 ≤ R.locals) (hce : ce ≤ R.cells) (hsl : sl ≤ R.slots) (hA : ∀ x, s.heap.size ≤ x → A x) (hK : va_K D wk_cl (tysW cA) s) (x1 : Int32) (z : Sta) (K : Int32 → Sta → Prop) (T : String → Sta → Prop) (h : wp_C_variable x1 z K T) (hret : ∀ (r : Int32) (u : Sta) (H : Heap) (locs : List Loc) (pc : Nat) (ls : Array Slot), K r u → wk_S D q cA A s.heap u H locs → decode prog_1_method_12_code pc = .ok (.ireturn, 1) → W p l e R s m args below meth c H locs ce sl Q (F0 m pc ls [.int r])) (ht7 : ∀ (u : Sta) (H : Heap) (locs : List Loc) (ls : Array Slot), T "java/lang/IndexOutOfBoundsException" u → wk_S D q cA A s.heap u H locs → ls.size = 2 → W p l e R s m args below meth c H locs ce sl Q (F0 m 7 ls [])) {H : Heap} {locs : List Loc} {ls : Array Slot} (hV : wk_S D q cA A s.heap z H locs) (hl : lv_has ls 2 [(0, .ref (q 0)), (1, .int x1)]) : W p l e R s m args below meth c H locs ce sl Q (F0 m 0 ls []) := by
  unfold wp_C_variable at h
  refine lv_iload_n hx hb kd_prog_1_method_12_code_0 rfl (lv_at hl 1 rfl) ?_
  refine wk_calli (va_runS (As := [.int x1]) (rest := []) ⟨hx, hb, hml, hown, hts⟩ (c_C_isVariable l D q cA x1 z H.size _ h) (cwS 1 hts gs_C_158 rfl rfl rfl (by decide +kernel) ⟨Nat.le_trans (by decide) hRf, Nat.le_trans (by decide) hRl⟩) (wk_preS hK hV [.int x1]) rfl rfl hl.1 rfl (lv_room (Nat.le_of_ble_eq_true rfl)) kd_prog_1_method_12_code_1 ⟨hce, hsl⟩) hV hA (fun rz1 z1 H locs h hV => ?_)
  refine lv_if_ne (tgt := 17) hx hb kd_prog_1_method_12_code_4 (by decide) (fun hc => ?_) (fun hc => ?_)
  · have h := h.1 hc
    refine lv_aload_n hx hb kd_prog_1_method_12_code_17 rfl (lv_at hl 0 rfl) ?_
    refine va_get (D := D) (ci := 0) (v := .ref (q 3)) (C := kr_C) (T := kt_C) (N := kn_C) hx hb hts ki_C hown hK hV.1 0 rfl rfl 2 (by decide) (hts _ hw_175) (fun _ h9 => h9) rfl kd_prog_1_method_12_code_18 ?_
    refine va_get (D := D) (ci := 3) (v := .ref (q 26)) (C := kr_K) (T := kt_K) (N := kn_K) hx hb hts ki_K hown hK hV.1 3 rfl rfl 3 (by decide) (hts _ hw_146) (fun _ h9 => h9) rfl kd_prog_1_method_12_code_21 ?_
    refine lv_iload_n hx hb kd_prog_1_method_12_code_24 rfl (lv_at hl 1 rfl) ?_
    obtain ⟨hin, h⟩ := h
    refine va_iald hx hb hK hV.1 26 21 rfl rfl hin kd_prog_1_method_12_code_25 ?_
    refine lv_topi (fun v2 ev2 => ?_)
    have h := h v2 ev2
    exact hret v2 z1 H locs 26 ls h hV kd_prog_1_method_12_code_26
  · have h := h.2 hc
    exact ht7 z1 H locs ls h hV hl.1
end
set_option maxHeartbeats 4000000 in
set_option maxRecDepth 100000 in
theorem c_C_variable (l : Launch) (hst : l.stackTraces = false) (D : va_G) (q : Nat → Nat) (cA : Nat → ClassId) (SA : Nat → Nat) (x1 : Int32) (z : Sta) (sz : Nat) (K : Int32 → Sta → Prop) (T : String → Sta → Prop) (h : wp_C_variable x1 z K T) : vx_Met l ke_C_variable (kc_C_variable :: lw_g) { frames := 6, cells := 1, slots := 6, locals := 82 } (wk_PcX D q cA SA [.ref (q 0), .int x1] z sz) (va_Qi K (wk_B D q cA (va_A (wW q cA z) sz)) (va_A (wW q cA z) sz)) (wk_XC D q cA T (va_A (wW q cA z) sz)) 1 6 (va_A (wW q cA z) sz) := by
  refine vx_ofW (cc := prog_1_method_12_code) (maxL := 2) (ret := (some .int)) (by decide) rfl ?_
  intro p e s m args below meth c s₁ B hml htab hv
  obtain ⟨rfl, hsz, hP, hK, hD0, hX⟩ := hv
  have hx := B.exec
  have hb := B.bytes
  have hr := B.returns
  have hlocks := B.notSynchronized
  have hts0 := atoms_spec (ws := kc_C_variable :: lw_g) B.pre
  have hts : ∀ w ∈ lw_g, w.before ([.ref (q 0), .int x1] : List Value).toArray s = true := fun w hw => hts0 w (List.mem_cons_of_mem _ hw)
  have hown : s.vm.findClass kr_C = some m.cls := findClass_of_methodNamed B.named
  subst hsz
  have hD := hD0.self (sz := s.heap.size)
  generalize hAe : va_A (wW q cA z) s.heap.size = A at hD hX ⊢
  have hA : ∀ x : Nat, s.heap.size ≤ x → A x := fun x hx => by rw [← hAe]; exact Or.inr hx
  have hl := lv_entry ([.ref (q 0), .int x1]) (n := 2) (Nat.le_of_ble_eq_true rfl)
  rw [lg_entry_eq]
  generalize (lg_sl ([.ref (q 0), .int x1]) ++ List.replicate (2 - (lg_sl ([.ref (q 0), .int x1])).length) Slot.unset).toArray = ls at hl ⊢
  have hl : lv_has ls 2 [(0, .ref (q 0)), (1, .int x1)] := hl
  exact w_C_variable (ce := 0) (sl := 0) hx hb hml hown hts (Nat.le_of_ble_eq_true rfl) (Nat.le_of_ble_eq_true rfl) (Nat.zero_le _) (Nat.zero_le _) hA hK x1 z K T h (fun r u H locs pc ls hk hV hd => vx_ret (W.widen (k := 1) (n := 6) (Nat.zero_le _) (Nat.zero_le _) (W.iret hx hb hr (fun t ht hW => ⟨⟨r, u, rfl, hk, by rw [ht]; exact hV.1, va_K.moved hW.alike hK, hV.2.1⟩, hV.2.2.F ht⟩) hV.2.2.2.2 hd))) (fun u H locs ls hT hV hs => wk_thr hx hb hst hown hx_116 12 rfl (hts _ hw_446) (hts _ hw_13) hts hX hK hV (hs.trans hml.symm) kd_prog_1_method_12_code_7 kd_prog_1_method_12_code_10 kd_prog_1_method_12_code_11 kd_prog_1_method_12_code_13 kd_prog_1_method_12_code_16 htab (Nat.le_of_ble_eq_true rfl) (Nat.le_of_ble_eq_true rfl) (Nat.le_refl _) (Nat.le_refl _) hlocks hT) ⟨hP, hD, va_S.rf⟩ hl
section
variable {p : Program} {l : Launch} {e : Env} {R : Room} {s : State} {m : MethodId} {args : Array Value} {below : List Frame} {meth : Method} {c : Code} {Q : State → Prop} {ce sl : Nat} {D : va_G} {q : Nat → Nat} {cA : Nat → ClassId} {A : Nat → Prop}
set_option maxHeartbeats 4000000 in
set_option maxRecDepth 100000 in
theorem w_C_count (hx : p.tables.exec = Jvm.exec) (hb : c.code = prog_1_method_14_code) (hml : c.maxLocals = 2) (hown : s.vm.findClass kr_C = some m.cls) (hts : ∀ w ∈ lw_g, w.before args s = true) (hRf : 0 ≤ R.frames) (hRl : 0 ≤ R.locals) (hce : ce ≤ R.cells) (hsl : sl ≤ R.slots) (hA : ∀ x, s.heap.size ≤ x → A x) (hK : va_K D wk_cl (tysW cA) s) (x1 : Int32) (z : Sta) (K : Int32 → Sta → Prop) (T : String → Sta → Prop) (h : wp_C_count x1 z K T) (hret : ∀ (r : Int32) (u : Sta) (H : Heap) (locs : List Loc) (pc : Nat) (ls : Array Slot), K r u → wk_S D q cA A s.heap u H locs → decode prog_1_method_14_code pc = .ok (.ireturn, 1) → W p l e R s m args below meth c H locs ce sl Q (F0 m pc ls [.int r])) (ht61 : ∀ (u : Sta) (H : Heap) (locs : List Loc) (ls : Array Slot), T "java/lang/IndexOutOfBoundsException" u → wk_S D q cA A s.heap u H locs → ls.size = 2 → W p l e R s m args below meth c H locs ce sl Q (F0 m 61 ls [])) {H : Heap} {locs : List Loc} {ls : Array Slot} (hV : wk_S D q cA A s.heap z H locs) (hl : lv_has ls 2 [(0, .ref (q 0)), (1, .int x1)]) : W p l e R s m args below meth c H locs ce sl Q (F0 m 0 ls []) := by
  unfold wp_C_count at h
  refine lv_iload_n hx hb kd_prog_1_method_14_code_0 rfl (lv_at hl 1 rfl) ?_
  by_cases hc0 : x1 = 0
  · have h := h.1 hc0
    refine lv_tableIn (tgt := 32) hx hb kd_prog_1_method_14_code_1 (by rw [hc0]; decide) (by rw [hc0]; decide) (by rw [hc0]; rfl) (by decide) ?_
    refine lv_aload_n hx hb kd_prog_1_method_14_code_32 rfl (lv_at hl 0 rfl) ?_
    refine va_get (D := D) (ci := 0) (v := .ref (q 1)) (C := kr_C) (T := kt_C) (N := kn_C) hx hb hts ki_C hown hK hV.1 0 rfl rfl 0 (by decide) (hts _ hw_173) (fun _ h9 => h9) rfl kd_prog_1_method_14_code_33 ?_
    refine va_get (D := D) (ci := 1) (v := .int (z.1 2)) (C := kr_P) (T := kt_P) (N := kn_P) hx hb hts ki_P hown hK hV.1 1 rfl rfl 0 (by decide) (hts _ hw_31) (fun _ h9 => h9) rfl kd_prog_1_method_14_code_36 ?_
    refine lv_topi (fun v1 ev1 => ?_)
    have h := h v1 ev1
    exact hret v1 z H locs 39 ls h hV kd_prog_1_method_14_code_39
  by_cases hc1 : x1 = 1
  · have h := h.2.1 hc1
    refine lv_tableIn (tgt := 40) hx hb kd_prog_1_method_14_code_1 (by rw [hc1]; decide) (by rw [hc1]; decide) (by rw [hc1]; rfl) (by decide) ?_
    refine lv_aload_n hx hb kd_prog_1_method_14_code_40 rfl (lv_at hl 0 rfl) ?_
    refine va_get (D := D) (ci := 0) (v := .ref (q 1)) (C := kr_C) (T := kt_C) (N := kn_C) hx hb hts ki_C hown hK hV.1 0 rfl rfl 0 (by decide) (hts _ hw_173) (fun _ h9 => h9) rfl kd_prog_1_method_14_code_41 ?_
    refine va_get (D := D) (ci := 1) (v := .int (z.1 3)) (C := kr_P) (T := kt_P) (N := kn_P) hx hb hts ki_P hown hK hV.1 1 rfl rfl 1 (by decide) (hts _ hw_36) (fun _ h9 => h9) rfl kd_prog_1_method_14_code_44 ?_
    refine lv_topi (fun v2 ev2 => ?_)
    have h := h v2 ev2
    exact hret v2 z H locs 47 ls h hV kd_prog_1_method_14_code_47
  by_cases hc2 : x1 = 2
  · have h := h.2.2.1 hc2
    refine lv_tableIn (tgt := 48) hx hb kd_prog_1_method_14_code_1 (by rw [hc2]; decide) (by rw [hc2]; decide) (by rw [hc2]; rfl) (by decide) ?_
    refine lv_aload_n hx hb kd_prog_1_method_14_code_48 rfl (lv_at hl 0 rfl) ?_
    refine va_get (D := D) (ci := 0) (v := .int (z.1 1)) (C := kr_C) (T := kt_C) (N := kn_C) hx hb hts ki_C hown hK hV.1 0 rfl rfl 4 (by decide) (hts _ hw_177) (fun _ h9 => h9) rfl kd_prog_1_method_14_code_49 ?_
    refine lv_topi (fun v3 ev3 => ?_)
    have h := h v3 ev3
    exact hret v3 z H locs 52 ls h hV kd_prog_1_method_14_code_52
  by_cases hc3 : x1 = 3
  · have h := h.2.2.2.1 hc3
    refine lv_tableIn (tgt := 53) hx hb kd_prog_1_method_14_code_1 (by rw [hc3]; decide) (by rw [hc3]; decide) (by rw [hc3]; rfl) (by decide) ?_
    refine lv_aload_n hx hb kd_prog_1_method_14_code_53 rfl (lv_at hl 0 rfl) ?_
    refine va_get (D := D) (ci := 0) (v := .ref (q 3)) (C := kr_C) (T := kt_C) (N := kn_C) hx hb hts ki_C hown hK hV.1 0 rfl rfl 2 (by decide) (hts _ hw_175) (fun _ h9 => h9) rfl kd_prog_1_method_14_code_54 ?_
    refine va_get (D := D) (ci := 3) (v := .int (z.1 6)) (C := kr_K) (T := kt_K) (N := kn_K) hx hb hts ki_K hown hK hV.1 3 rfl rfl 2 (by decide) (hts _ hw_144) (fun _ h9 => h9) rfl kd_prog_1_method_14_code_57 ?_
    refine lv_topi (fun v4 ev4 => ?_)
    have h := h v4 ev4
    exact hret v4 z H locs 60 ls h hV kd_prog_1_method_14_code_60
  have h := h.2.2.2.2 ⟨hc0, hc1, hc2, hc3⟩
  refine lv_tableOut (tgt := 61) hx hb kd_prog_1_method_14_code_1 (by have t0 := lv_neT hc0 (a := 0) (by decide); have t1 := lv_neT hc1 (a := 1) (by decide); have t2 := lv_neT hc2 (a := 2) (by decide); have t3 := lv_neT hc3 (a := 3) (by decide); omega) (by decide) ?_
  exact ht61 z H locs ls h hV hl.1
end
set_option maxHeartbeats 4000000 in
set_option maxRecDepth 100000 in
theorem c_C_count (l : Launch) (hst : l.stackTraces = false) (D : va_G) (q : Nat → Nat) (cA : Nat → ClassId) (SA : Nat → Nat) (x1 : Int32) (z : Sta) (sz : Nat) (K : Int32 → Sta → Prop) (T : String → Sta → Prop) (h : wp_C_count x1 z K T) : vx_Met l ke_C_count (kc_C_count :: lw_g) { frames := 6, cells := 1, slots := 6, locals := 82 } (wk_PcX D q cA SA [.ref (q 0), .int x1] z sz) (va_Qi K (wk_B D q cA (va_A (wW q cA z) sz)) (va_A (wW q cA z) sz)) (wk_XC D q cA T (va_A (wW q cA z) sz)) 1 6 (va_A (wW q cA z) sz) := by
  refine vx_ofW (cc := prog_1_method_14_code) (maxL := 2) (ret := (some .int)) (by decide) rfl ?_
  intro p e s m args below meth c s₁ B hml htab hv
  obtain ⟨rfl, hsz, hP, hK, hD0, hX⟩ := hv
  have hx := B.exec
  have hb := B.bytes
  have hr := B.returns
  have hlocks := B.notSynchronized
  have hts0 := atoms_spec (ws := kc_C_count :: lw_g) B.pre
  have hts : ∀ w ∈ lw_g, w.before ([.ref (q 0), .int x1] : List Value).toArray s = true := fun w hw => hts0 w (List.mem_cons_of_mem _ hw)
  have hown : s.vm.findClass kr_C = some m.cls := findClass_of_methodNamed B.named
  subst hsz
  have hD := hD0.self (sz := s.heap.size)
  generalize hAe : va_A (wW q cA z) s.heap.size = A at hD hX ⊢
  have hA : ∀ x : Nat, s.heap.size ≤ x → A x := fun x hx => by rw [← hAe]; exact Or.inr hx
  have hl := lv_entry ([.ref (q 0), .int x1]) (n := 2) (Nat.le_of_ble_eq_true rfl)
  rw [lg_entry_eq]
  generalize (lg_sl ([.ref (q 0), .int x1]) ++ List.replicate (2 - (lg_sl ([.ref (q 0), .int x1])).length) Slot.unset).toArray = ls at hl ⊢
  have hl : lv_has ls 2 [(0, .ref (q 0)), (1, .int x1)] := hl
  exact w_C_count (ce := 0) (sl := 0) hx hb hml hown hts (Nat.le_of_ble_eq_true rfl) (Nat.le_of_ble_eq_true rfl) (Nat.zero_le _) (Nat.zero_le _) hA hK x1 z K T h (fun r u H locs pc ls hk hV hd => vx_ret (W.widen (k := 1) (n := 6) (Nat.zero_le _) (Nat.zero_le _) (W.iret hx hb hr (fun t ht hW => ⟨⟨r, u, rfl, hk, by rw [ht]; exact hV.1, va_K.moved hW.alike hK, hV.2.1⟩, hV.2.2.F ht⟩) hV.2.2.2.2 hd))) (fun u H locs ls hT hV hs => wk_thr hx hb hst hown hx_116 13 rfl (hts _ hw_446) (hts _ hw_13) hts hX hK hV (hs.trans hml.symm) kd_prog_1_method_14_code_61 kd_prog_1_method_14_code_64 kd_prog_1_method_14_code_65 kd_prog_1_method_14_code_67 kd_prog_1_method_14_code_70 htab (Nat.le_of_ble_eq_true rfl) (Nat.le_of_ble_eq_true rfl) (Nat.le_refl _) (Nat.le_refl _) hlocks hT) ⟨hP, hD, va_S.rf⟩ hl
