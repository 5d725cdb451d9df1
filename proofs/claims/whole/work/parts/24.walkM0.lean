theorem kd_prog_6_method_2_code_0 : decode prog_6_method_2_code 0 = .ok (.aload_n 0, 1) := by decide +kernel
theorem kd_prog_6_method_2_code_1 : decode prog_6_method_2_code 1 = .ok (.getfield 74, 3) := by decide +kernel
theorem kd_prog_6_method_2_code_4 : decode prog_6_method_2_code 4 = .ok (.ireturn, 1) := by decide +kernel
theorem kd_prog_6_method_3_code_0 : decode prog_6_method_3_code 0 = .ok (.aload_n 0, 1) := by decide +kernel
theorem kd_prog_6_method_3_code_1 : decode prog_6_method_3_code 1 = .ok (.iload_n 1, 1) := by decide +kernel
theorem kd_prog_6_method_3_code_2 : decode prog_6_method_3_code 2 = .ok (.putfield 74, 3) := by decide +kernel
theorem kd_prog_6_method_3_code_5 : decode prog_6_method_3_code 5 = .ok (.iconst 0, 1) := by decide +kernel
theorem kd_prog_6_method_3_code_6 : decode prog_6_method_3_code 6 = .ok (.ireturn, 1) := by decide +kernel
theorem kd_prog_6_method_4_code_0 : decode prog_6_method_4_code 0 = .ok (.iload_n 0, 1) := by decide +kernel
theorem kd_prog_6_method_4_code_1 : decode prog_6_method_4_code 1 = .ok (.iload_n 1, 1) := by decide +kernel
theorem kd_prog_6_method_4_code_2 : decode prog_6_method_4_code 2 = .ok (.if_icmp .lt 12, 3) := by decide +kernel
theorem kd_prog_6_method_4_code_5 : decode prog_6_method_4_code 5 = .ok (.iload_n 0, 1) := by decide +kernel
theorem kd_prog_6_method_4_code_6 : decode prog_6_method_4_code 6 = .ok (.iload_n 2, 1) := by decide +kernel
theorem kd_prog_6_method_4_code_7 : decode prog_6_method_4_code 7 = .ok (.if_icmp .gt 7, 3) := by decide +kernel
theorem kd_prog_6_method_4_code_10 : decode prog_6_method_4_code 10 = .ok (.iconst 1, 1) := by decide +kernel
theorem kd_prog_6_method_4_code_11 : decode prog_6_method_4_code 11 = .ok (.goto 4, 3) := by decide +kernel
theorem kd_prog_6_method_4_code_14 : decode prog_6_method_4_code 14 = .ok (.iconst 0, 1) := by decide +kernel
theorem kd_prog_6_method_4_code_15 : decode prog_6_method_4_code 15 = .ok (.ireturn, 1) := by decide +kernel
theorem kd_prog_6_method_5_code_0 : decode prog_6_method_5_code 0 = .ok (.aload_n 0, 1) := by decide +kernel
theorem kd_prog_6_method_5_code_1 : decode prog_6_method_5_code 1 = .ok (.iconst 0, 1) := by decide +kernel
theorem kd_prog_6_method_5_code_2 : decode prog_6_method_5_code 2 = .ok (.putfield 74, 3) := by decide +kernel
theorem kd_prog_6_method_5_code_5 : decode prog_6_method_5_code 5 = .ok (.aload_n 0, 1) := by decide +kernel
theorem kd_prog_6_method_5_code_6 : decode prog_6_method_5_code 6 = .ok (.getfield 78, 3) := by decide +kernel
theorem kd_prog_6_method_5_code_9 : decode prog_6_method_5_code 9 = .ok (.bipush 16, 2) := by decide +kernel
theorem kd_prog_6_method_5_code_11 : decode prog_6_method_5_code 11 = .ok (.if_icmp .ne 9, 3) := by decide +kernel
theorem kd_prog_6_method_5_code_14 : decode prog_6_method_5_code 14 = .ok (.aload_n 0, 1) := by decide +kernel
theorem kd_prog_6_method_5_code_15 : decode prog_6_method_5_code 15 = .ok (.iconst 1, 1) := by decide +kernel
theorem kd_prog_6_method_5_code_16 : decode prog_6_method_5_code 16 = .ok (.invokevirtual 81, 3) := by decide +kernel
theorem kd_prog_6_method_5_code_19 : decode prog_6_method_5_code 19 = .ok (.ireturn, 1) := by decide +kernel
theorem kd_prog_6_method_5_code_20 : decode prog_6_method_5_code 20 = .ok (.aload_n 0, 1) := by decide +kernel
theorem kd_prog_6_method_5_code_21 : decode prog_6_method_5_code 21 = .ok (.getfield 7, 3) := by decide +kernel
theorem kd_prog_6_method_5_code_24 : decode prog_6_method_5_code 24 = .ok (.aload_n 0, 1) := by decide +kernel
theorem kd_prog_6_method_5_code_25 : decode prog_6_method_5_code 25 = .ok (.getfield 78, 3) := by decide +kernel
theorem kd_prog_6_method_5_code_28 : decode prog_6_method_5_code 28 = .ok (.iconst 0, 1) := by decide +kernel
theorem kd_prog_6_method_5_code_29 : decode prog_6_method_5_code 29 = .ok (.iastore, 1) := by decide +kernel
theorem kd_prog_6_method_5_code_30 : decode prog_6_method_5_code 30 = .ok (.aload_n 0, 1) := by decide +kernel
theorem kd_prog_6_method_5_code_31 : decode prog_6_method_5_code 31 = .ok (.getfield 16, 3) := by decide +kernel
theorem kd_prog_6_method_5_code_34 : decode prog_6_method_5_code 34 = .ok (.iconst 4, 1) := by decide +kernel
theorem kd_prog_6_method_5_code_35 : decode prog_6_method_5_code 35 = .ok (.aload_n 0, 1) := by decide +kernel
theorem kd_prog_6_method_5_code_36 : decode prog_6_method_5_code 36 = .ok (.getfield 78, 3) := by decide +kernel
theorem kd_prog_6_method_5_code_39 : decode prog_6_method_5_code 39 = .ok (.imul, 1) := by decide +kernel
theorem kd_prog_6_method_5_code_40 : decode prog_6_method_5_code 40 = .ok (.iconst 0, 1) := by decide +kernel
theorem kd_prog_6_method_5_code_41 : decode prog_6_method_5_code 41 = .ok (.iastore, 1) := by decide +kernel
theorem kd_prog_6_method_5_code_42 : decode prog_6_method_5_code 42 = .ok (.aload_n 0, 1) := by decide +kernel
theorem kd_prog_6_method_5_code_43 : decode prog_6_method_5_code 43 = .ok (.dup, 1) := by decide +kernel
theorem kd_prog_6_method_5_code_44 : decode prog_6_method_5_code 44 = .ok (.getfield 78, 3) := by decide +kernel
theorem kd_prog_6_method_5_code_47 : decode prog_6_method_5_code 47 = .ok (.iconst 1, 1) := by decide +kernel
theorem kd_prog_6_method_5_code_48 : decode prog_6_method_5_code 48 = .ok (.iadd, 1) := by decide +kernel
theorem kd_prog_6_method_5_code_49 : decode prog_6_method_5_code 49 = .ok (.putfield 78, 3) := by decide +kernel
theorem kd_prog_6_method_5_code_52 : decode prog_6_method_5_code 52 = .ok (.aload_n 0, 1) := by decide +kernel
theorem kd_prog_6_method_5_code_53 : decode prog_6_method_5_code 53 = .ok (.iconst 0, 1) := by decide +kernel
theorem kd_prog_6_method_5_code_54 : decode prog_6_method_5_code 54 = .ok (.putfield 85, 3) := by decide +kernel
theorem kd_prog_6_method_5_code_57 : decode prog_6_method_5_code 57 = .ok (.aload_n 0, 1) := by decide +kernel
theorem kd_prog_6_method_5_code_58 : decode prog_6_method_5_code 58 = .ok (.getfield 78, 3) := by decide +kernel
theorem kd_prog_6_method_5_code_61 : decode prog_6_method_5_code 61 = .ok (.iconst 1, 1) := by decide +kernel
theorem kd_prog_6_method_5_code_62 : decode prog_6_method_5_code 62 = .ok (.isub, 1) := by decide +kernel
theorem kd_prog_6_method_5_code_63 : decode prog_6_method_5_code 63 = .ok (.ireturn, 1) := by decide +kernel
theorem kd_prog_6_method_6_code_0 : decode prog_6_method_6_code 0 = .ok (.iconst (-1), 1) := by decide +kernel
theorem kd_prog_6_method_6_code_1 : decode prog_6_method_6_code 1 = .ok (.istore 4, 2) := by decide +kernel
theorem kd_prog_6_method_6_code_3 : decode prog_6_method_6_code 3 = .ok (.iconst 0, 1) := by decide +kernel
theorem kd_prog_6_method_6_code_4 : decode prog_6_method_6_code 4 = .ok (.istore 5, 2) := by decide +kernel
theorem kd_prog_6_method_6_code_6 : decode prog_6_method_6_code 6 = .ok (.iload 5, 2) := by decide +kernel
theorem kd_prog_6_method_6_code_8 : decode prog_6_method_6_code 8 = .ok (.aload_n 0, 1) := by decide +kernel
theorem kd_prog_6_method_6_code_9 : decode prog_6_method_6_code 9 = .ok (.getfield 89, 3) := by decide +kernel
theorem kd_prog_6_method_6_code_12 : decode prog_6_method_6_code 12 = .ok (.if_icmp .ge 51, 3) := by decide +kernel
theorem kd_prog_6_method_6_code_15 : decode prog_6_method_6_code 15 = .ok (.aload_n 0, 1) := by decide +kernel
theorem kd_prog_6_method_6_code_16 : decode prog_6_method_6_code 16 = .ok (.getfield 19, 3) := by decide +kernel
theorem kd_prog_6_method_6_code_19 : decode prog_6_method_6_code 19 = .ok (.iload 5, 2) := by decide +kernel
theorem kd_prog_6_method_6_code_21 : decode prog_6_method_6_code 21 = .ok (.iaload, 1) := by decide +kernel
theorem kd_prog_6_method_6_code_22 : decode prog_6_method_6_code 22 = .ok (.iload_n 1, 1) := by decide +kernel
theorem kd_prog_6_method_6_code_23 : decode prog_6_method_6_code 23 = .ok (.if_icmp .ne 30, 3) := by decide +kernel
theorem kd_prog_6_method_6_code_26 : decode prog_6_method_6_code 26 = .ok (.aload_n 0, 1) := by decide +kernel
theorem kd_prog_6_method_6_code_27 : decode prog_6_method_6_code 27 = .ok (.getfield 22, 3) := by decide +kernel
theorem kd_prog_6_method_6_code_30 : decode prog_6_method_6_code 30 = .ok (.iload 5, 2) := by decide +kernel
theorem kd_prog_6_method_6_code_32 : decode prog_6_method_6_code 32 = .ok (.iaload, 1) := by decide +kernel
theorem kd_prog_6_method_6_code_33 : decode prog_6_method_6_code 33 = .ok (.iload_n 2, 1) := by decide +kernel
theorem kd_prog_6_method_6_code_34 : decode prog_6_method_6_code 34 = .ok (.if_icmp .ne 19, 3) := by decide +kernel
theorem kd_prog_6_method_6_code_37 : decode prog_6_method_6_code 37 = .ok (.aload_n 0, 1) := by decide +kernel
theorem kd_prog_6_method_6_code_38 : decode prog_6_method_6_code 38 = .ok (.getfield 25, 3) := by decide +kernel
theorem kd_prog_6_method_6_code_41 : decode prog_6_method_6_code 41 = .ok (.iload 5, 2) := by decide +kernel
theorem kd_prog_6_method_6_code_43 : decode prog_6_method_6_code 43 = .ok (.iaload, 1) := by decide +kernel
theorem kd_prog_6_method_6_code_44 : decode prog_6_method_6_code 44 = .ok (.iload_n 3, 1) := by decide +kernel
theorem kd_prog_6_method_6_code_45 : decode prog_6_method_6_code 45 = .ok (.if_icmp .ne 8, 3) := by decide +kernel
theorem kd_prog_6_method_6_code_48 : decode prog_6_method_6_code 48 = .ok (.iload 5, 2) := by decide +kernel
theorem kd_prog_6_method_6_code_50 : decode prog_6_method_6_code 50 = .ok (.goto 5, 3) := by decide +kernel
theorem kd_prog_6_method_6_code_53 : decode prog_6_method_6_code 53 = .ok (.iload 4, 2) := by decide +kernel
theorem kd_prog_6_method_6_code_55 : decode prog_6_method_6_code 55 = .ok (.istore 4, 2) := by decide +kernel
theorem kd_prog_6_method_6_code_57 : decode prog_6_method_6_code 57 = .ok (.iinc 5 1, 3) := by decide +kernel
theorem kd_prog_6_method_6_code_60 : decode prog_6_method_6_code 60 = .ok (.goto (-54), 3) := by decide +kernel
theorem kd_prog_6_method_6_code_63 : decode prog_6_method_6_code 63 = .ok (.iload 4, 2) := by decide +kernel
theorem kd_prog_6_method_6_code_65 : decode prog_6_method_6_code 65 = .ok (.ireturn, 1) := by decide +kernel
theorem kd_prog_6_method_7_code_0 : decode prog_6_method_7_code 0 = .ok (.aload_n 0, 1) := by decide +kernel
theorem kd_prog_6_method_7_code_1 : decode prog_6_method_7_code 1 = .ok (.iconst 0, 1) := by decide +kernel
theorem kd_prog_6_method_7_code_2 : decode prog_6_method_7_code 2 = .ok (.putfield 74, 3) := by decide +kernel
theorem kd_prog_6_method_7_code_5 : decode prog_6_method_7_code 5 = .ok (.iload_n 1, 1) := by decide +kernel
theorem kd_prog_6_method_7_code_6 : decode prog_6_method_7_code 6 = .ok (.iconst 0, 1) := by decide +kernel
theorem kd_prog_6_method_7_code_7 : decode prog_6_method_7_code 7 = .ok (.iconst 3, 1) := by decide +kernel
theorem kd_prog_6_method_7_code_8 : decode prog_6_method_7_code 8 = .ok (.invokestatic 92, 3) := by decide +kernel
theorem kd_prog_6_method_7_code_11 : decode prog_6_method_7_code 11 = .ok (.ifCond .eq 16, 3) := by decide +kernel
theorem kd_prog_6_method_7_code_14 : decode prog_6_method_7_code 14 = .ok (.iload_n 2, 1) := by decide +kernel
theorem kd_prog_6_method_7_code_15 : decode prog_6_method_7_code 15 = .ok (.iconst 0, 1) := by decide +kernel
theorem kd_prog_6_method_7_code_16 : decode prog_6_method_7_code 16 = .ok (.iconst 5, 1) := by decide +kernel
theorem kd_prog_6_method_7_code_17 : decode prog_6_method_7_code 17 = .ok (.invokestatic 92, 3) := by decide +kernel
theorem kd_prog_6_method_7_code_20 : decode prog_6_method_7_code 20 = .ok (.ifCond .eq 7, 3) := by decide +kernel
theorem kd_prog_6_method_7_code_23 : decode prog_6_method_7_code 23 = .ok (.iconst 1, 1) := by decide +kernel
theorem kd_prog_6_method_7_code_24 : decode prog_6_method_7_code 24 = .ok (.goto 4, 3) := by decide +kernel
theorem kd_prog_6_method_7_code_27 : decode prog_6_method_7_code 27 = .ok (.iconst 0, 1) := by decide +kernel
theorem kd_prog_6_method_7_code_28 : decode prog_6_method_7_code 28 = .ok (.istore 6, 2) := by decide +kernel
theorem kd_prog_6_method_7_code_30 : decode prog_6_method_7_code 30 = .ok (.iload 6, 2) := by decide +kernel
theorem kd_prog_6_method_7_code_32 : decode prog_6_method_7_code 32 = .ok (.ifCond .eq 72, 3) := by decide +kernel
theorem kd_prog_6_method_7_code_35 : decode prog_6_method_7_code 35 = .ok (.iload_n 1, 1) := by decide +kernel
theorem kd_prog_6_method_7_code_36 : decode prog_6_method_7_code 36 = .ok (.ifCond .ne 12, 3) := by decide +kernel
theorem kd_prog_6_method_7_code_39 : decode prog_6_method_7_code 39 = .ok (.iload_n 3, 1) := by decide +kernel
theorem kd_prog_6_method_7_code_40 : decode prog_6_method_7_code 40 = .ok (.iconst 0, 1) := by decide +kernel
theorem kd_prog_6_method_7_code_41 : decode prog_6_method_7_code 41 = .ok (.iconst 5, 1) := by decide +kernel
theorem kd_prog_6_method_7_code_42 : decode prog_6_method_7_code 42 = .ok (.invokestatic 92, 3) := by decide +kernel
theorem kd_prog_6_method_7_code_45 : decode prog_6_method_7_code 45 = .ok (.ifCond .eq 59, 3) := by decide +kernel
theorem kd_prog_6_method_7_code_48 : decode prog_6_method_7_code 48 = .ok (.iload_n 1, 1) := by decide +kernel
theorem kd_prog_6_method_7_code_49 : decode prog_6_method_7_code 49 = .ok (.iconst 1, 1) := by decide +kernel
theorem kd_prog_6_method_7_code_50 : decode prog_6_method_7_code 50 = .ok (.if_icmp .ne 16, 3) := by decide +kernel
theorem kd_prog_6_method_7_code_53 : decode prog_6_method_7_code 53 = .ok (.iload_n 3, 1) := by decide +kernel
theorem kd_prog_6_method_7_code_54 : decode prog_6_method_7_code 54 = .ok (.sipush (-32768), 3) := by decide +kernel
theorem kd_prog_6_method_7_code_57 : decode prog_6_method_7_code 57 = .ok (.sipush 32767, 3) := by decide +kernel
theorem kd_prog_6_method_7_code_60 : decode prog_6_method_7_code 60 = .ok (.invokestatic 92, 3) := by decide +kernel
theorem kd_prog_6_method_7_code_63 : decode prog_6_method_7_code 63 = .ok (.ifCond .eq 41, 3) := by decide +kernel
theorem kd_prog_6_method_7_code_66 : decode prog_6_method_7_code 66 = .ok (.iload_n 1, 1) := by decide +kernel
theorem kd_prog_6_method_7_code_67 : decode prog_6_method_7_code 67 = .ok (.iconst 2, 1) := by decide +kernel
theorem kd_prog_6_method_7_code_68 : decode prog_6_method_7_code 68 = .ok (.if_icmp .ne 32, 3) := by decide +kernel
theorem kd_prog_6_method_7_code_71 : decode prog_6_method_7_code 71 = .ok (.iload_n 3, 1) := by decide +kernel
theorem kd_prog_6_method_7_code_72 : decode prog_6_method_7_code 72 = .ok (.iconst 0, 1) := by decide +kernel
theorem kd_prog_6_method_7_code_73 : decode prog_6_method_7_code 73 = .ok (.iconst 5, 1) := by decide +kernel
theorem kd_prog_6_method_7_code_74 : decode prog_6_method_7_code 74 = .ok (.invokestatic 92, 3) := by decide +kernel
theorem kd_prog_6_method_7_code_77 : decode prog_6_method_7_code 77 = .ok (.ifCond .eq 27, 3) := by decide +kernel
theorem kd_prog_6_method_7_code_80 : decode prog_6_method_7_code 80 = .ok (.iload 4, 2) := by decide +kernel
theorem kd_prog_6_method_7_code_82 : decode prog_6_method_7_code 82 = .ok (.iconst 0, 1) := by decide +kernel
theorem kd_prog_6_method_7_code_83 : decode prog_6_method_7_code 83 = .ok (.iconst 4, 1) := by decide +kernel
theorem kd_prog_6_method_7_code_84 : decode prog_6_method_7_code 84 = .ok (.invokestatic 92, 3) := by decide +kernel
theorem kd_prog_6_method_7_code_87 : decode prog_6_method_7_code 87 = .ok (.ifCond .eq 17, 3) := by decide +kernel
theorem kd_prog_6_method_7_code_90 : decode prog_6_method_7_code 90 = .ok (.iload 5, 2) := by decide +kernel
theorem kd_prog_6_method_7_code_92 : decode prog_6_method_7_code 92 = .ok (.iconst 0, 1) := by decide +kernel
theorem kd_prog_6_method_7_code_93 : decode prog_6_method_7_code 93 = .ok (.iconst 5, 1) := by decide +kernel
theorem kd_prog_6_method_7_code_94 : decode prog_6_method_7_code 94 = .ok (.invokestatic 92, 3) := by decide +kernel
theorem kd_prog_6_method_7_code_97 : decode prog_6_method_7_code 97 = .ok (.ifCond .eq 7, 3) := by decide +kernel
theorem kd_prog_6_method_7_code_100 : decode prog_6_method_7_code 100 = .ok (.iconst 1, 1) := by decide +kernel
theorem kd_prog_6_method_7_code_101 : decode prog_6_method_7_code 101 = .ok (.goto 4, 3) := by decide +kernel
theorem kd_prog_6_method_7_code_104 : decode prog_6_method_7_code 104 = .ok (.iconst 0, 1) := by decide +kernel
theorem kd_prog_6_method_7_code_105 : decode prog_6_method_7_code 105 = .ok (.istore 6, 2) := by decide +kernel
theorem kd_prog_6_method_7_code_107 : decode prog_6_method_7_code 107 = .ok (.iload 6, 2) := by decide +kernel
theorem kd_prog_6_method_7_code_109 : decode prog_6_method_7_code 109 = .ok (.ifCond .ne 9, 3) := by decide +kernel
theorem kd_prog_6_method_7_code_112 : decode prog_6_method_7_code 112 = .ok (.aload_n 0, 1) := by decide +kernel
theorem kd_prog_6_method_7_code_113 : decode prog_6_method_7_code 113 = .ok (.iconst 1, 1) := by decide +kernel
theorem kd_prog_6_method_7_code_114 : decode prog_6_method_7_code 114 = .ok (.invokevirtual 81, 3) := by decide +kernel
theorem kd_prog_6_method_7_code_117 : decode prog_6_method_7_code 117 = .ok (.ireturn, 1) := by decide +kernel
theorem kd_prog_6_method_7_code_118 : decode prog_6_method_7_code 118 = .ok (.aload_n 0, 1) := by decide +kernel
theorem kd_prog_6_method_7_code_119 : decode prog_6_method_7_code 119 = .ok (.getfield 78, 3) := by decide +kernel
theorem kd_prog_6_method_7_code_122 : decode prog_6_method_7_code 122 = .ok (.ifCond .eq 18, 3) := by decide +kernel
theorem kd_prog_6_method_7_code_125 : decode prog_6_method_7_code 125 = .ok (.aload_n 0, 1) := by decide +kernel
theorem kd_prog_6_method_7_code_126 : decode prog_6_method_7_code 126 = .ok (.getfield 7, 3) := by decide +kernel
theorem kd_prog_6_method_7_code_129 : decode prog_6_method_7_code 129 = .ok (.aload_n 0, 1) := by decide +kernel
theorem kd_prog_6_method_7_code_130 : decode prog_6_method_7_code 130 = .ok (.getfield 78, 3) := by decide +kernel
theorem kd_prog_6_method_7_code_133 : decode prog_6_method_7_code 133 = .ok (.iconst 1, 1) := by decide +kernel
theorem kd_prog_6_method_7_code_134 : decode prog_6_method_7_code 134 = .ok (.isub, 1) := by decide +kernel
theorem kd_prog_6_method_7_code_135 : decode prog_6_method_7_code 135 = .ok (.iaload, 1) := by decide +kernel
theorem kd_prog_6_method_7_code_136 : decode prog_6_method_7_code 136 = .ok (.iconst 5, 1) := by decide +kernel
theorem kd_prog_6_method_7_code_137 : decode prog_6_method_7_code 137 = .ok (.if_icmp .ne 9, 3) := by decide +kernel
theorem kd_prog_6_method_7_code_140 : decode prog_6_method_7_code 140 = .ok (.aload_n 0, 1) := by decide +kernel
theorem kd_prog_6_method_7_code_141 : decode prog_6_method_7_code 141 = .ok (.iconst 2, 1) := by decide +kernel
theorem kd_prog_6_method_7_code_142 : decode prog_6_method_7_code 142 = .ok (.invokevirtual 81, 3) := by decide +kernel
theorem kd_prog_6_method_7_code_145 : decode prog_6_method_7_code 145 = .ok (.ireturn, 1) := by decide +kernel
theorem kd_prog_6_method_7_code_146 : decode prog_6_method_7_code 146 = .ok (.iload_n 1, 1) := by decide +kernel
theorem kd_prog_6_method_7_code_147 : decode prog_6_method_7_code 147 = .ok (.iconst 2, 1) := by decide +kernel
theorem kd_prog_6_method_7_code_148 : decode prog_6_method_7_code 148 = .ok (.if_icmp .ne 15, 3) := by decide +kernel
theorem kd_prog_6_method_7_code_151 : decode prog_6_method_7_code 151 = .ok (.aload_n 0, 1) := by decide +kernel
theorem kd_prog_6_method_7_code_152 : decode prog_6_method_7_code 152 = .ok (.iload_n 3, 1) := by decide +kernel
theorem kd_prog_6_method_7_code_153 : decode prog_6_method_7_code 153 = .ok (.iload 4, 2) := by decide +kernel
theorem kd_prog_6_method_7_code_155 : decode prog_6_method_7_code 155 = .ok (.iload 5, 2) := by decide +kernel
theorem kd_prog_6_method_7_code_157 : decode prog_6_method_7_code 157 = .ok (.invokevirtual 96, 3) := by decide +kernel
theorem kd_prog_6_method_7_code_160 : decode prog_6_method_7_code 160 = .ok (.goto 4, 3) := by decide +kernel
theorem kd_prog_6_method_7_code_163 : decode prog_6_method_7_code 163 = .ok (.iconst (-1), 1) := by decide +kernel
theorem kd_prog_6_method_7_code_164 : decode prog_6_method_7_code 164 = .ok (.istore 7, 2) := by decide +kernel
theorem kd_prog_6_method_7_code_166 : decode prog_6_method_7_code 166 = .ok (.iload_n 1, 1) := by decide +kernel
theorem kd_prog_6_method_7_code_167 : decode prog_6_method_7_code 167 = .ok (.iconst 2, 1) := by decide +kernel
theorem kd_prog_6_method_7_code_168 : decode prog_6_method_7_code 168 = .ok (.if_icmp .ne 65, 3) := by decide +kernel
theorem kd_prog_6_method_7_code_171 : decode prog_6_method_7_code 171 = .ok (.iload 7, 2) := by decide +kernel
theorem kd_prog_6_method_7_code_173 : decode prog_6_method_7_code 173 = .ok (.ifCond .ge 60, 3) := by decide +kernel
theorem kd_prog_6_method_7_code_176 : decode prog_6_method_7_code 176 = .ok (.aload_n 0, 1) := by decide +kernel
theorem kd_prog_6_method_7_code_177 : decode prog_6_method_7_code 177 = .ok (.getfield 89, 3) := by decide +kernel
theorem kd_prog_6_method_7_code_180 : decode prog_6_method_7_code 180 = .ok (.bipush 24, 2) := by decide +kernel
theorem kd_prog_6_method_7_code_182 : decode prog_6_method_7_code 182 = .ok (.if_icmp .ne 9, 3) := by decide +kernel
theorem kd_prog_6_method_7_code_185 : decode prog_6_method_7_code 185 = .ok (.aload_n 0, 1) := by decide +kernel
theorem kd_prog_6_method_7_code_186 : decode prog_6_method_7_code 186 = .ok (.iconst 2, 1) := by decide +kernel
theorem kd_prog_6_method_7_code_187 : decode prog_6_method_7_code 187 = .ok (.invokevirtual 81, 3) := by decide +kernel
theorem kd_prog_6_method_7_code_190 : decode prog_6_method_7_code 190 = .ok (.ireturn, 1) := by decide +kernel
theorem kd_prog_6_method_7_code_191 : decode prog_6_method_7_code 191 = .ok (.aload_n 0, 1) := by decide +kernel
theorem kd_prog_6_method_7_code_192 : decode prog_6_method_7_code 192 = .ok (.getfield 89, 3) := by decide +kernel
theorem kd_prog_6_method_7_code_195 : decode prog_6_method_7_code 195 = .ok (.istore 7, 2) := by decide +kernel
theorem kd_prog_6_method_7_code_197 : decode prog_6_method_7_code 197 = .ok (.aload_n 0, 1) := by decide +kernel
theorem kd_prog_6_method_7_code_198 : decode prog_6_method_7_code 198 = .ok (.getfield 19, 3) := by decide +kernel
theorem kd_prog_6_method_7_code_201 : decode prog_6_method_7_code 201 = .ok (.iload 7, 2) := by decide +kernel
theorem kd_prog_6_method_7_code_203 : decode prog_6_method_7_code 203 = .ok (.iload_n 3, 1) := by decide +kernel
theorem kd_prog_6_method_7_code_204 : decode prog_6_method_7_code 204 = .ok (.iastore, 1) := by decide +kernel
theorem kd_prog_6_method_7_code_205 : decode prog_6_method_7_code 205 = .ok (.aload_n 0, 1) := by decide +kernel
theorem kd_prog_6_method_7_code_206 : decode prog_6_method_7_code 206 = .ok (.getfield 22, 3) := by decide +kernel
theorem kd_prog_6_method_7_code_209 : decode prog_6_method_7_code 209 = .ok (.iload 7, 2) := by decide +kernel
theorem kd_prog_6_method_7_code_211 : decode prog_6_method_7_code 211 = .ok (.iload 4, 2) := by decide +kernel
theorem kd_prog_6_method_7_code_213 : decode prog_6_method_7_code 213 = .ok (.iastore, 1) := by decide +kernel
theorem kd_prog_6_method_7_code_214 : decode prog_6_method_7_code 214 = .ok (.aload_n 0, 1) := by decide +kernel
theorem kd_prog_6_method_7_code_215 : decode prog_6_method_7_code 215 = .ok (.getfield 25, 3) := by decide +kernel
theorem kd_prog_6_method_7_code_218 : decode prog_6_method_7_code 218 = .ok (.iload 7, 2) := by decide +kernel
theorem kd_prog_6_method_7_code_220 : decode prog_6_method_7_code 220 = .ok (.iload 5, 2) := by decide +kernel
theorem kd_prog_6_method_7_code_222 : decode prog_6_method_7_code 222 = .ok (.iastore, 1) := by decide +kernel
theorem kd_prog_6_method_7_code_223 : decode prog_6_method_7_code 223 = .ok (.aload_n 0, 1) := by decide +kernel
theorem kd_prog_6_method_7_code_224 : decode prog_6_method_7_code 224 = .ok (.dup, 1) := by decide +kernel
theorem kd_prog_6_method_7_code_225 : decode prog_6_method_7_code 225 = .ok (.getfield 89, 3) := by decide +kernel
theorem kd_prog_6_method_7_code_228 : decode prog_6_method_7_code 228 = .ok (.iconst 1, 1) := by decide +kernel
theorem kd_prog_6_method_7_code_229 : decode prog_6_method_7_code 229 = .ok (.iadd, 1) := by decide +kernel
theorem kd_prog_6_method_7_code_230 : decode prog_6_method_7_code 230 = .ok (.putfield 89, 3) := by decide +kernel
theorem kd_prog_6_method_7_code_233 : decode prog_6_method_7_code 233 = .ok (.bipush 30, 2) := by decide +kernel
theorem kd_prog_6_method_7_code_235 : decode prog_6_method_7_code 235 = .ok (.aload_n 0, 1) := by decide +kernel
theorem kd_prog_6_method_7_code_236 : decode prog_6_method_7_code 236 = .ok (.getfield 78, 3) := by decide +kernel
theorem kd_prog_6_method_7_code_239 : decode prog_6_method_7_code 239 = .ok (.iconst 1, 1) := by decide +kernel
theorem kd_prog_6_method_7_code_240 : decode prog_6_method_7_code 240 = .ok (.isub, 1) := by decide +kernel
theorem kd_prog_6_method_7_code_241 : decode prog_6_method_7_code 241 = .ok (.imul, 1) := by decide +kernel
theorem kd_prog_6_method_7_code_242 : decode prog_6_method_7_code 242 = .ok (.bipush 6, 2) := by decide +kernel
theorem kd_prog_6_method_7_code_244 : decode prog_6_method_7_code 244 = .ok (.aload_n 0, 1) := by decide +kernel
theorem kd_prog_6_method_7_code_245 : decode prog_6_method_7_code 245 = .ok (.getfield 7, 3) := by decide +kernel
theorem kd_prog_6_method_7_code_248 : decode prog_6_method_7_code 248 = .ok (.aload_n 0, 1) := by decide +kernel
theorem kd_prog_6_method_7_code_249 : decode prog_6_method_7_code 249 = .ok (.getfield 78, 3) := by decide +kernel
theorem kd_prog_6_method_7_code_252 : decode prog_6_method_7_code 252 = .ok (.iconst 1, 1) := by decide +kernel
theorem kd_prog_6_method_7_code_253 : decode prog_6_method_7_code 253 = .ok (.isub, 1) := by decide +kernel
theorem kd_prog_6_method_7_code_254 : decode prog_6_method_7_code 254 = .ok (.iaload, 1) := by decide +kernel
theorem kd_prog_6_method_7_code_255 : decode prog_6_method_7_code 255 = .ok (.imul, 1) := by decide +kernel
theorem kd_prog_6_method_7_code_256 : decode prog_6_method_7_code 256 = .ok (.iadd, 1) := by decide +kernel
theorem kd_prog_6_method_7_code_257 : decode prog_6_method_7_code 257 = .ok (.istore 8, 2) := by decide +kernel
theorem kd_prog_6_method_7_code_259 : decode prog_6_method_7_code 259 = .ok (.aload_n 0, 1) := by decide +kernel
theorem kd_prog_6_method_7_code_260 : decode prog_6_method_7_code 260 = .ok (.getfield 13, 3) := by decide +kernel
theorem kd_prog_6_method_7_code_263 : decode prog_6_method_7_code 263 = .ok (.iload 8, 2) := by decide +kernel
theorem kd_prog_6_method_7_code_265 : decode prog_6_method_7_code 265 = .ok (.iload_n 1, 1) := by decide +kernel
theorem kd_prog_6_method_7_code_266 : decode prog_6_method_7_code 266 = .ok (.iastore, 1) := by decide +kernel
theorem kd_prog_6_method_7_code_267 : decode prog_6_method_7_code 267 = .ok (.aload_n 0, 1) := by decide +kernel
theorem kd_prog_6_method_7_code_268 : decode prog_6_method_7_code 268 = .ok (.getfield 13, 3) := by decide +kernel
theorem kd_prog_6_method_7_code_271 : decode prog_6_method_7_code 271 = .ok (.iload 8, 2) := by decide +kernel
theorem kd_prog_6_method_7_code_273 : decode prog_6_method_7_code 273 = .ok (.iconst 1, 1) := by decide +kernel
theorem kd_prog_6_method_7_code_274 : decode prog_6_method_7_code 274 = .ok (.iadd, 1) := by decide +kernel
theorem kd_prog_6_method_7_code_275 : decode prog_6_method_7_code 275 = .ok (.iload_n 2, 1) := by decide +kernel
theorem kd_prog_6_method_7_code_276 : decode prog_6_method_7_code 276 = .ok (.iastore, 1) := by decide +kernel
theorem kd_prog_6_method_7_code_277 : decode prog_6_method_7_code 277 = .ok (.aload_n 0, 1) := by decide +kernel
theorem kd_prog_6_method_7_code_278 : decode prog_6_method_7_code 278 = .ok (.getfield 13, 3) := by decide +kernel
theorem kd_prog_6_method_7_code_281 : decode prog_6_method_7_code 281 = .ok (.iload 8, 2) := by decide +kernel
theorem kd_prog_6_method_7_code_283 : decode prog_6_method_7_code 283 = .ok (.iconst 2, 1) := by decide +kernel
theorem kd_prog_6_method_7_code_284 : decode prog_6_method_7_code 284 = .ok (.iadd, 1) := by decide +kernel
theorem kd_prog_6_method_7_code_285 : decode prog_6_method_7_code 285 = .ok (.iload_n 3, 1) := by decide +kernel
theorem kd_prog_6_method_7_code_286 : decode prog_6_method_7_code 286 = .ok (.iastore, 1) := by decide +kernel
theorem kd_prog_6_method_7_code_287 : decode prog_6_method_7_code 287 = .ok (.aload_n 0, 1) := by decide +kernel
theorem kd_prog_6_method_7_code_288 : decode prog_6_method_7_code 288 = .ok (.getfield 13, 3) := by decide +kernel
theorem kd_prog_6_method_7_code_291 : decode prog_6_method_7_code 291 = .ok (.iload 8, 2) := by decide +kernel
theorem kd_prog_6_method_7_code_293 : decode prog_6_method_7_code 293 = .ok (.iconst 3, 1) := by decide +kernel
theorem kd_prog_6_method_7_code_294 : decode prog_6_method_7_code 294 = .ok (.iadd, 1) := by decide +kernel
theorem kd_prog_6_method_7_code_295 : decode prog_6_method_7_code 295 = .ok (.iload 4, 2) := by decide +kernel
theorem kd_prog_6_method_7_code_297 : decode prog_6_method_7_code 297 = .ok (.iastore, 1) := by decide +kernel
theorem kd_prog_6_method_7_code_298 : decode prog_6_method_7_code 298 = .ok (.aload_n 0, 1) := by decide +kernel
theorem kd_prog_6_method_7_code_299 : decode prog_6_method_7_code 299 = .ok (.getfield 13, 3) := by decide +kernel
theorem kd_prog_6_method_7_code_302 : decode prog_6_method_7_code 302 = .ok (.iload 8, 2) := by decide +kernel
theorem kd_prog_6_method_7_code_304 : decode prog_6_method_7_code 304 = .ok (.iconst 4, 1) := by decide +kernel
theorem kd_prog_6_method_7_code_305 : decode prog_6_method_7_code 305 = .ok (.iadd, 1) := by decide +kernel
theorem kd_prog_6_method_7_code_306 : decode prog_6_method_7_code 306 = .ok (.iload 5, 2) := by decide +kernel
theorem kd_prog_6_method_7_code_308 : decode prog_6_method_7_code 308 = .ok (.iastore, 1) := by decide +kernel
theorem kd_prog_6_method_7_code_309 : decode prog_6_method_7_code 309 = .ok (.aload_n 0, 1) := by decide +kernel
theorem kd_prog_6_method_7_code_310 : decode prog_6_method_7_code 310 = .ok (.getfield 13, 3) := by decide +kernel
theorem kd_prog_6_method_7_code_313 : decode prog_6_method_7_code 313 = .ok (.iload 8, 2) := by decide +kernel
theorem kd_prog_6_method_7_code_315 : decode prog_6_method_7_code 315 = .ok (.iconst 5, 1) := by decide +kernel
theorem kd_prog_6_method_7_code_316 : decode prog_6_method_7_code 316 = .ok (.iadd, 1) := by decide +kernel
theorem kd_prog_6_method_7_code_317 : decode prog_6_method_7_code 317 = .ok (.iload 7, 2) := by decide +kernel
theorem kd_prog_6_method_7_code_319 : decode prog_6_method_7_code 319 = .ok (.iastore, 1) := by decide +kernel
theorem kd_prog_6_method_7_code_320 : decode prog_6_method_7_code 320 = .ok (.aload_n 0, 1) := by decide +kernel
theorem kd_prog_6_method_7_code_321 : decode prog_6_method_7_code 321 = .ok (.getfield 7, 3) := by decide +kernel
theorem kd_prog_6_method_7_code_324 : decode prog_6_method_7_code 324 = .ok (.aload_n 0, 1) := by decide +kernel
theorem kd_prog_6_method_7_code_325 : decode prog_6_method_7_code 325 = .ok (.getfield 78, 3) := by decide +kernel
theorem kd_prog_6_method_7_code_328 : decode prog_6_method_7_code 328 = .ok (.iconst 1, 1) := by decide +kernel
theorem kd_prog_6_method_7_code_329 : decode prog_6_method_7_code 329 = .ok (.isub, 1) := by decide +kernel
theorem kd_prog_6_method_7_code_330 : decode prog_6_method_7_code 330 = .ok (.dup2, 1) := by decide +kernel
theorem kd_prog_6_method_7_code_331 : decode prog_6_method_7_code 331 = .ok (.iaload, 1) := by decide +kernel
theorem kd_prog_6_method_7_code_332 : decode prog_6_method_7_code 332 = .ok (.iconst 1, 1) := by decide +kernel
theorem kd_prog_6_method_7_code_333 : decode prog_6_method_7_code 333 = .ok (.iadd, 1) := by decide +kernel
theorem kd_prog_6_method_7_code_334 : decode prog_6_method_7_code 334 = .ok (.iastore, 1) := by decide +kernel
theorem kd_prog_6_method_7_code_335 : decode prog_6_method_7_code 335 = .ok (.aload_n 0, 1) := by decide +kernel
theorem kd_prog_6_method_7_code_336 : decode prog_6_method_7_code 336 = .ok (.iconst 0, 1) := by decide +kernel
theorem kd_prog_6_method_7_code_337 : decode prog_6_method_7_code 337 = .ok (.putfield 85, 3) := by decide +kernel
theorem kd_prog_6_method_7_code_340 : decode prog_6_method_7_code 340 = .ok (.aload_n 0, 1) := by decide +kernel
theorem kd_prog_6_method_7_code_341 : decode prog_6_method_7_code 341 = .ok (.getfield 7, 3) := by decide +kernel
theorem kd_prog_6_method_7_code_344 : decode prog_6_method_7_code 344 = .ok (.aload_n 0, 1) := by decide +kernel
theorem kd_prog_6_method_7_code_345 : decode prog_6_method_7_code 345 = .ok (.getfield 78, 3) := by decide +kernel
theorem kd_prog_6_method_7_code_348 : decode prog_6_method_7_code 348 = .ok (.iconst 1, 1) := by decide +kernel
theorem kd_prog_6_method_7_code_349 : decode prog_6_method_7_code 349 = .ok (.isub, 1) := by decide +kernel
theorem kd_prog_6_method_7_code_350 : decode prog_6_method_7_code 350 = .ok (.iaload, 1) := by decide +kernel
theorem kd_prog_6_method_7_code_351 : decode prog_6_method_7_code 351 = .ok (.ireturn, 1) := by decide +kernel
theorem kd_prog_6_method_8_code_0 : decode prog_6_method_8_code 0 = .ok (.aload_n 0, 1) := by decide +kernel
theorem kd_prog_6_method_8_code_1 : decode prog_6_method_8_code 1 = .ok (.iconst 0, 1) := by decide +kernel
theorem kd_prog_6_method_8_code_2 : decode prog_6_method_8_code 2 = .ok (.putfield 74, 3) := by decide +kernel
theorem kd_prog_6_method_8_code_5 : decode prog_6_method_8_code 5 = .ok (.iload_n 1, 1) := by decide +kernel
theorem kd_prog_6_method_8_code_6 : decode prog_6_method_8_code 6 = .ok (.iconst 0, 1) := by decide +kernel
theorem kd_prog_6_method_8_code_7 : decode prog_6_method_8_code 7 = .ok (.aload_n 0, 1) := by decide +kernel
theorem kd_prog_6_method_8_code_8 : decode prog_6_method_8_code 8 = .ok (.getfield 78, 3) := by decide +kernel
theorem kd_prog_6_method_8_code_11 : decode prog_6_method_8_code 11 = .ok (.iconst 1, 1) := by decide +kernel
theorem kd_prog_6_method_8_code_12 : decode prog_6_method_8_code 12 = .ok (.isub, 1) := by decide +kernel
theorem kd_prog_6_method_8_code_13 : decode prog_6_method_8_code 13 = .ok (.invokestatic 92, 3) := by decide +kernel
theorem kd_prog_6_method_8_code_16 : decode prog_6_method_8_code 16 = .ok (.ifCond .eq 56, 3) := by decide +kernel
theorem kd_prog_6_method_8_code_19 : decode prog_6_method_8_code 19 = .ok (.iload_n 2, 1) := by decide +kernel
theorem kd_prog_6_method_8_code_20 : decode prog_6_method_8_code 20 = .ok (.iconst 0, 1) := by decide +kernel
theorem kd_prog_6_method_8_code_21 : decode prog_6_method_8_code 21 = .ok (.iconst 2, 1) := by decide +kernel
theorem kd_prog_6_method_8_code_22 : decode prog_6_method_8_code 22 = .ok (.invokestatic 92, 3) := by decide +kernel
theorem kd_prog_6_method_8_code_25 : decode prog_6_method_8_code 25 = .ok (.ifCond .eq 47, 3) := by decide +kernel
theorem kd_prog_6_method_8_code_28 : decode prog_6_method_8_code 28 = .ok (.iload_n 2, 1) := by decide +kernel
theorem kd_prog_6_method_8_code_29 : decode prog_6_method_8_code 29 = .ok (.ifCond .eq 14, 3) := by decide +kernel
theorem kd_prog_6_method_8_code_32 : decode prog_6_method_8_code 32 = .ok (.iload 4, 2) := by decide +kernel
theorem kd_prog_6_method_8_code_34 : decode prog_6_method_8_code 34 = .ok (.iconst 0, 1) := by decide +kernel
theorem kd_prog_6_method_8_code_35 : decode prog_6_method_8_code 35 = .ok (.bipush 15, 2) := by decide +kernel
theorem kd_prog_6_method_8_code_37 : decode prog_6_method_8_code 37 = .ok (.invokestatic 92, 3) := by decide +kernel
theorem kd_prog_6_method_8_code_40 : decode prog_6_method_8_code 40 = .ok (.ifCond .eq 32, 3) := by decide +kernel
theorem kd_prog_6_method_8_code_43 : decode prog_6_method_8_code 43 = .ok (.iload_n 2, 1) := by decide +kernel
theorem kd_prog_6_method_8_code_44 : decode prog_6_method_8_code 44 = .ok (.iconst 2, 1) := by decide +kernel
theorem kd_prog_6_method_8_code_45 : decode prog_6_method_8_code 45 = .ok (.if_icmp .lt 23, 3) := by decide +kernel
theorem kd_prog_6_method_8_code_48 : decode prog_6_method_8_code 48 = .ok (.iload_n 3, 1) := by decide +kernel
theorem kd_prog_6_method_8_code_49 : decode prog_6_method_8_code 49 = .ok (.iconst 0, 1) := by decide +kernel
theorem kd_prog_6_method_8_code_50 : decode prog_6_method_8_code 50 = .ok (.iconst 5, 1) := by decide +kernel
theorem kd_prog_6_method_8_code_51 : decode prog_6_method_8_code 51 = .ok (.invokestatic 92, 3) := by decide +kernel
theorem kd_prog_6_method_8_code_54 : decode prog_6_method_8_code 54 = .ok (.ifCond .eq 18, 3) := by decide +kernel
theorem kd_prog_6_method_8_code_57 : decode prog_6_method_8_code 57 = .ok (.iload 5, 2) := by decide +kernel
theorem kd_prog_6_method_8_code_59 : decode prog_6_method_8_code 59 = .ok (.iconst 0, 1) := by decide +kernel
theorem kd_prog_6_method_8_code_60 : decode prog_6_method_8_code 60 = .ok (.bipush 15, 2) := by decide +kernel
theorem kd_prog_6_method_8_code_62 : decode prog_6_method_8_code 62 = .ok (.invokestatic 92, 3) := by decide +kernel
theorem kd_prog_6_method_8_code_65 : decode prog_6_method_8_code 65 = .ok (.ifCond .eq 7, 3) := by decide +kernel
theorem kd_prog_6_method_8_code_68 : decode prog_6_method_8_code 68 = .ok (.iconst 1, 1) := by decide +kernel
theorem kd_prog_6_method_8_code_69 : decode prog_6_method_8_code 69 = .ok (.goto 4, 3) := by decide +kernel
theorem kd_prog_6_method_8_code_72 : decode prog_6_method_8_code 72 = .ok (.iconst 0, 1) := by decide +kernel
theorem kd_prog_6_method_8_code_73 : decode prog_6_method_8_code 73 = .ok (.istore 6, 2) := by decide +kernel
theorem kd_prog_6_method_8_code_75 : decode prog_6_method_8_code 75 = .ok (.iload 6, 2) := by decide +kernel
theorem kd_prog_6_method_8_code_77 : decode prog_6_method_8_code 77 = .ok (.ifCond .ne 9, 3) := by decide +kernel
theorem kd_prog_6_method_8_code_80 : decode prog_6_method_8_code 80 = .ok (.aload_n 0, 1) := by decide +kernel
theorem kd_prog_6_method_8_code_81 : decode prog_6_method_8_code 81 = .ok (.iconst 1, 1) := by decide +kernel
theorem kd_prog_6_method_8_code_82 : decode prog_6_method_8_code 82 = .ok (.invokevirtual 81, 3) := by decide +kernel
theorem kd_prog_6_method_8_code_85 : decode prog_6_method_8_code 85 = .ok (.ireturn, 1) := by decide +kernel
theorem kd_prog_6_method_8_code_86 : decode prog_6_method_8_code 86 = .ok (.aload_n 0, 1) := by decide +kernel
theorem kd_prog_6_method_8_code_87 : decode prog_6_method_8_code 87 = .ok (.getfield 16, 3) := by decide +kernel
theorem kd_prog_6_method_8_code_90 : decode prog_6_method_8_code 90 = .ok (.iconst 4, 1) := by decide +kernel
theorem kd_prog_6_method_8_code_91 : decode prog_6_method_8_code 91 = .ok (.iload_n 1, 1) := by decide +kernel
theorem kd_prog_6_method_8_code_92 : decode prog_6_method_8_code 92 = .ok (.imul, 1) := by decide +kernel
theorem kd_prog_6_method_8_code_93 : decode prog_6_method_8_code 93 = .ok (.iload_n 2, 1) := by decide +kernel
theorem kd_prog_6_method_8_code_94 : decode prog_6_method_8_code 94 = .ok (.iastore, 1) := by decide +kernel
theorem kd_prog_6_method_8_code_95 : decode prog_6_method_8_code 95 = .ok (.aload_n 0, 1) := by decide +kernel
theorem kd_prog_6_method_8_code_96 : decode prog_6_method_8_code 96 = .ok (.getfield 16, 3) := by decide +kernel
theorem kd_prog_6_method_8_code_99 : decode prog_6_method_8_code 99 = .ok (.iconst 4, 1) := by decide +kernel
theorem kd_prog_6_method_8_code_100 : decode prog_6_method_8_code 100 = .ok (.iload_n 1, 1) := by decide +kernel
theorem kd_prog_6_method_8_code_101 : decode prog_6_method_8_code 101 = .ok (.imul, 1) := by decide +kernel
theorem kd_prog_6_method_8_code_102 : decode prog_6_method_8_code 102 = .ok (.iconst 1, 1) := by decide +kernel
theorem kd_prog_6_method_8_code_103 : decode prog_6_method_8_code 103 = .ok (.iadd, 1) := by decide +kernel
theorem kd_prog_6_method_8_code_104 : decode prog_6_method_8_code 104 = .ok (.iload_n 3, 1) := by decide +kernel
theorem kd_prog_6_method_8_code_105 : decode prog_6_method_8_code 105 = .ok (.iastore, 1) := by decide +kernel
theorem kd_prog_6_method_8_code_106 : decode prog_6_method_8_code 106 = .ok (.aload_n 0, 1) := by decide +kernel
theorem kd_prog_6_method_8_code_107 : decode prog_6_method_8_code 107 = .ok (.getfield 16, 3) := by decide +kernel
theorem kd_prog_6_method_8_code_110 : decode prog_6_method_8_code 110 = .ok (.iconst 4, 1) := by decide +kernel
theorem kd_prog_6_method_8_code_111 : decode prog_6_method_8_code 111 = .ok (.iload_n 1, 1) := by decide +kernel
theorem kd_prog_6_method_8_code_112 : decode prog_6_method_8_code 112 = .ok (.imul, 1) := by decide +kernel
theorem kd_prog_6_method_8_code_113 : decode prog_6_method_8_code 113 = .ok (.iconst 2, 1) := by decide +kernel
theorem kd_prog_6_method_8_code_114 : decode prog_6_method_8_code 114 = .ok (.iadd, 1) := by decide +kernel
theorem kd_prog_6_method_8_code_115 : decode prog_6_method_8_code 115 = .ok (.iload 4, 2) := by decide +kernel
theorem kd_prog_6_method_8_code_117 : decode prog_6_method_8_code 117 = .ok (.iastore, 1) := by decide +kernel
theorem kd_prog_6_method_8_code_118 : decode prog_6_method_8_code 118 = .ok (.aload_n 0, 1) := by decide +kernel
theorem kd_prog_6_method_8_code_119 : decode prog_6_method_8_code 119 = .ok (.getfield 16, 3) := by decide +kernel
theorem kd_prog_6_method_8_code_122 : decode prog_6_method_8_code 122 = .ok (.iconst 4, 1) := by decide +kernel
theorem kd_prog_6_method_8_code_123 : decode prog_6_method_8_code 123 = .ok (.iload_n 1, 1) := by decide +kernel
theorem kd_prog_6_method_8_code_124 : decode prog_6_method_8_code 124 = .ok (.imul, 1) := by decide +kernel
theorem kd_prog_6_method_8_code_125 : decode prog_6_method_8_code 125 = .ok (.iconst 3, 1) := by decide +kernel
theorem kd_prog_6_method_8_code_126 : decode prog_6_method_8_code 126 = .ok (.iadd, 1) := by decide +kernel
theorem kd_prog_6_method_8_code_127 : decode prog_6_method_8_code 127 = .ok (.iload 5, 2) := by decide +kernel
theorem kd_prog_6_method_8_code_129 : decode prog_6_method_8_code 129 = .ok (.iastore, 1) := by decide +kernel
theorem kd_prog_6_method_8_code_130 : decode prog_6_method_8_code 130 = .ok (.aload_n 0, 1) := by decide +kernel
theorem kd_prog_6_method_8_code_131 : decode prog_6_method_8_code 131 = .ok (.iconst 0, 1) := by decide +kernel
theorem kd_prog_6_method_8_code_132 : decode prog_6_method_8_code 132 = .ok (.putfield 85, 3) := by decide +kernel
theorem kd_prog_6_method_8_code_135 : decode prog_6_method_8_code 135 = .ok (.iload_n 2, 1) := by decide +kernel
theorem kd_prog_6_method_8_code_136 : decode prog_6_method_8_code 136 = .ok (.iconst 2, 1) := by decide +kernel
theorem kd_prog_6_method_8_code_137 : decode prog_6_method_8_code 137 = .ok (.if_icmp .ne 14, 3) := by decide +kernel
theorem kd_prog_6_method_8_code_140 : decode prog_6_method_8_code 140 = .ok (.iload 4, 2) := by decide +kernel
theorem kd_prog_6_method_8_code_142 : decode prog_6_method_8_code 142 = .ok (.iload 5, 2) := by decide +kernel
theorem kd_prog_6_method_8_code_144 : decode prog_6_method_8_code 144 = .ok (.if_icmp .ne 7, 3) := by decide +kernel
theorem kd_prog_6_method_8_code_147 : decode prog_6_method_8_code 147 = .ok (.iconst 1, 1) := by decide +kernel
theorem kd_prog_6_method_8_code_148 : decode prog_6_method_8_code 148 = .ok (.goto 4, 3) := by decide +kernel
theorem kd_prog_6_method_8_code_151 : decode prog_6_method_8_code 151 = .ok (.iload_n 2, 1) := by decide +kernel
theorem kd_prog_6_method_8_code_152 : decode prog_6_method_8_code 152 = .ok (.ireturn, 1) := by decide +kernel
theorem kd_prog_6_method_9_code_0 : decode prog_6_method_9_code 0 = .ok (.aload_n 0, 1) := by decide +kernel
theorem kd_prog_6_method_9_code_1 : decode prog_6_method_9_code 1 = .ok (.getfield 16, 3) := by decide +kernel
theorem kd_prog_6_method_9_code_4 : decode prog_6_method_9_code 4 = .ok (.iconst 4, 1) := by decide +kernel
theorem kd_prog_6_method_9_code_5 : decode prog_6_method_9_code 5 = .ok (.iload_n 1, 1) := by decide +kernel
theorem kd_prog_6_method_9_code_6 : decode prog_6_method_9_code 6 = .ok (.imul, 1) := by decide +kernel
theorem kd_prog_6_method_9_code_7 : decode prog_6_method_9_code 7 = .ok (.iaload, 1) := by decide +kernel
theorem kd_prog_6_method_9_code_8 : decode prog_6_method_9_code 8 = .ok (.istore_n 3, 1) := by decide +kernel
theorem kd_prog_6_method_9_code_9 : decode prog_6_method_9_code 9 = .ok (.iload_n 2, 1) := by decide +kernel
theorem kd_prog_6_method_9_code_10 : decode prog_6_method_9_code 10 = .ok (.ifCond .ne 22, 3) := by decide +kernel
theorem kd_prog_6_method_9_code_13 : decode prog_6_method_9_code 13 = .ok (.iload_n 3, 1) := by decide +kernel
theorem kd_prog_6_method_9_code_14 : decode prog_6_method_9_code 14 = .ok (.ifCond .ne 7, 3) := by decide +kernel
theorem kd_prog_6_method_9_code_17 : decode prog_6_method_9_code 17 = .ok (.iconst (-1), 1) := by decide +kernel
theorem kd_prog_6_method_9_code_18 : decode prog_6_method_9_code 18 = .ok (.goto 13, 3) := by decide +kernel
theorem kd_prog_6_method_9_code_21 : decode prog_6_method_9_code 21 = .ok (.aload_n 0, 1) := by decide +kernel
theorem kd_prog_6_method_9_code_22 : decode prog_6_method_9_code 22 = .ok (.getfield 16, 3) := by decide +kernel
theorem kd_prog_6_method_9_code_25 : decode prog_6_method_9_code 25 = .ok (.iconst 4, 1) := by decide +kernel
theorem kd_prog_6_method_9_code_26 : decode prog_6_method_9_code 26 = .ok (.iload_n 1, 1) := by decide +kernel
theorem kd_prog_6_method_9_code_27 : decode prog_6_method_9_code 27 = .ok (.imul, 1) := by decide +kernel
theorem kd_prog_6_method_9_code_28 : decode prog_6_method_9_code 28 = .ok (.iconst 2, 1) := by decide +kernel
theorem kd_prog_6_method_9_code_29 : decode prog_6_method_9_code 29 = .ok (.iadd, 1) := by decide +kernel
theorem kd_prog_6_method_9_code_30 : decode prog_6_method_9_code 30 = .ok (.iaload, 1) := by decide +kernel
theorem kd_prog_6_method_9_code_31 : decode prog_6_method_9_code 31 = .ok (.ireturn, 1) := by decide +kernel
theorem kd_prog_6_method_9_code_32 : decode prog_6_method_9_code 32 = .ok (.iload_n 3, 1) := by decide +kernel
theorem kd_prog_6_method_9_code_33 : decode prog_6_method_9_code 33 = .ok (.iconst 2, 1) := by decide +kernel
theorem kd_prog_6_method_9_code_34 : decode prog_6_method_9_code 34 = .ok (.if_icmp .ne 39, 3) := by decide +kernel
theorem kd_prog_6_method_9_code_37 : decode prog_6_method_9_code 37 = .ok (.aload_n 0, 1) := by decide +kernel
theorem kd_prog_6_method_9_code_38 : decode prog_6_method_9_code 38 = .ok (.getfield 16, 3) := by decide +kernel
theorem kd_prog_6_method_9_code_41 : decode prog_6_method_9_code 41 = .ok (.iconst 4, 1) := by decide +kernel
theorem kd_prog_6_method_9_code_42 : decode prog_6_method_9_code 42 = .ok (.iload_n 1, 1) := by decide +kernel
theorem kd_prog_6_method_9_code_43 : decode prog_6_method_9_code 43 = .ok (.imul, 1) := by decide +kernel
theorem kd_prog_6_method_9_code_44 : decode prog_6_method_9_code 44 = .ok (.iconst 3, 1) := by decide +kernel
theorem kd_prog_6_method_9_code_45 : decode prog_6_method_9_code 45 = .ok (.iadd, 1) := by decide +kernel
theorem kd_prog_6_method_9_code_46 : decode prog_6_method_9_code 46 = .ok (.iaload, 1) := by decide +kernel
theorem kd_prog_6_method_9_code_47 : decode prog_6_method_9_code 47 = .ok (.aload_n 0, 1) := by decide +kernel
theorem kd_prog_6_method_9_code_48 : decode prog_6_method_9_code 48 = .ok (.getfield 16, 3) := by decide +kernel
theorem kd_prog_6_method_9_code_51 : decode prog_6_method_9_code 51 = .ok (.iconst 4, 1) := by decide +kernel
theorem kd_prog_6_method_9_code_52 : decode prog_6_method_9_code 52 = .ok (.iload_n 1, 1) := by decide +kernel
theorem kd_prog_6_method_9_code_53 : decode prog_6_method_9_code 53 = .ok (.imul, 1) := by decide +kernel
theorem kd_prog_6_method_9_code_54 : decode prog_6_method_9_code 54 = .ok (.iconst 2, 1) := by decide +kernel
theorem kd_prog_6_method_9_code_55 : decode prog_6_method_9_code 55 = .ok (.iadd, 1) := by decide +kernel
theorem kd_prog_6_method_9_code_56 : decode prog_6_method_9_code 56 = .ok (.iaload, 1) := by decide +kernel
theorem kd_prog_6_method_9_code_57 : decode prog_6_method_9_code 57 = .ok (.if_icmp .eq 16, 3) := by decide +kernel
theorem kd_prog_6_method_9_code_60 : decode prog_6_method_9_code 60 = .ok (.aload_n 0, 1) := by decide +kernel
theorem kd_prog_6_method_9_code_61 : decode prog_6_method_9_code 61 = .ok (.getfield 16, 3) := by decide +kernel
theorem kd_prog_6_method_9_code_64 : decode prog_6_method_9_code 64 = .ok (.iconst 4, 1) := by decide +kernel
theorem kd_prog_6_method_9_code_65 : decode prog_6_method_9_code 65 = .ok (.iload_n 1, 1) := by decide +kernel
theorem kd_prog_6_method_9_code_66 : decode prog_6_method_9_code 66 = .ok (.imul, 1) := by decide +kernel
theorem kd_prog_6_method_9_code_67 : decode prog_6_method_9_code 67 = .ok (.iconst 3, 1) := by decide +kernel
theorem kd_prog_6_method_9_code_68 : decode prog_6_method_9_code 68 = .ok (.iadd, 1) := by decide +kernel
theorem kd_prog_6_method_9_code_69 : decode prog_6_method_9_code 69 = .ok (.iaload, 1) := by decide +kernel
theorem kd_prog_6_method_9_code_70 : decode prog_6_method_9_code 70 = .ok (.goto 4, 3) := by decide +kernel
theorem kd_prog_6_method_9_code_73 : decode prog_6_method_9_code 73 = .ok (.iconst (-1), 1) := by decide +kernel
theorem kd_prog_6_method_9_code_74 : decode prog_6_method_9_code 74 = .ok (.ireturn, 1) := by decide +kernel
theorem kd_prog_6_method_10_code_0 : decode prog_6_method_10_code 0 = .ok (.aload_n 0, 1) := by decide +kernel
theorem kd_prog_6_method_10_code_1 : decode prog_6_method_10_code 1 = .ok (.getfield 28, 3) := by decide +kernel
theorem kd_prog_6_method_10_code_4 : decode prog_6_method_10_code 4 = .ok (.iload_n 1, 1) := by decide +kernel
theorem kd_prog_6_method_10_code_5 : decode prog_6_method_10_code 5 = .ok (.baload, 1) := by decide +kernel
theorem kd_prog_6_method_10_code_6 : decode prog_6_method_10_code 6 = .ok (.ifCond .eq 27, 3) := by decide +kernel
theorem kd_prog_6_method_10_code_9 : decode prog_6_method_10_code 9 = .ok (.aload_n 0, 1) := by decide +kernel
theorem kd_prog_6_method_10_code_10 : decode prog_6_method_10_code 10 = .ok (.iload_n 1, 1) := by decide +kernel
theorem kd_prog_6_method_10_code_11 : decode prog_6_method_10_code 11 = .ok (.iconst 0, 1) := by decide +kernel
theorem kd_prog_6_method_10_code_12 : decode prog_6_method_10_code 12 = .ok (.invokevirtual 100, 3) := by decide +kernel
theorem kd_prog_6_method_10_code_15 : decode prog_6_method_10_code 15 = .ok (.iload_n 2, 1) := by decide +kernel
theorem kd_prog_6_method_10_code_16 : decode prog_6_method_10_code 16 = .ok (.if_icmp .eq 13, 3) := by decide +kernel
theorem kd_prog_6_method_10_code_19 : decode prog_6_method_10_code 19 = .ok (.aload_n 0, 1) := by decide +kernel
theorem kd_prog_6_method_10_code_20 : decode prog_6_method_10_code 20 = .ok (.iload_n 1, 1) := by decide +kernel
theorem kd_prog_6_method_10_code_21 : decode prog_6_method_10_code 21 = .ok (.iconst 1, 1) := by decide +kernel
theorem kd_prog_6_method_10_code_22 : decode prog_6_method_10_code 22 = .ok (.invokevirtual 100, 3) := by decide +kernel
theorem kd_prog_6_method_10_code_25 : decode prog_6_method_10_code 25 = .ok (.iload_n 2, 1) := by decide +kernel
theorem kd_prog_6_method_10_code_26 : decode prog_6_method_10_code 26 = .ok (.if_icmp .ne 7, 3) := by decide +kernel
theorem kd_prog_6_method_10_code_29 : decode prog_6_method_10_code 29 = .ok (.iconst 1, 1) := by decide +kernel
theorem kd_prog_6_method_10_code_30 : decode prog_6_method_10_code 30 = .ok (.goto 4, 3) := by decide +kernel
theorem kd_prog_6_method_10_code_33 : decode prog_6_method_10_code 33 = .ok (.iconst 0, 1) := by decide +kernel
theorem kd_prog_6_method_10_code_34 : decode prog_6_method_10_code 34 = .ok (.ireturn, 1) := by decide +kernel
theorem kd_prog_6_method_11_code_0 : decode prog_6_method_11_code 0 = .ok (.iconst 0, 1) := by decide +kernel
theorem kd_prog_6_method_11_code_1 : decode prog_6_method_11_code 1 = .ok (.istore_n 1, 1) := by decide +kernel
theorem kd_prog_6_method_11_code_2 : decode prog_6_method_11_code 2 = .ok (.iload_n 1, 1) := by decide +kernel
theorem kd_prog_6_method_11_code_3 : decode prog_6_method_11_code 3 = .ok (.bipush 16, 2) := by decide +kernel
theorem kd_prog_6_method_11_code_5 : decode prog_6_method_11_code 5 = .ok (.if_icmp .ge 24, 3) := by decide +kernel
theorem kd_prog_6_method_11_code_8 : decode prog_6_method_11_code 8 = .ok (.aload_n 0, 1) := by decide +kernel
theorem kd_prog_6_method_11_code_9 : decode prog_6_method_11_code 9 = .ok (.getfield 28, 3) := by decide +kernel
theorem kd_prog_6_method_11_code_12 : decode prog_6_method_11_code 12 = .ok (.iload_n 1, 1) := by decide +kernel
theorem kd_prog_6_method_11_code_13 : decode prog_6_method_11_code 13 = .ok (.iload_n 1, 1) := by decide +kernel
theorem kd_prog_6_method_11_code_14 : decode prog_6_method_11_code 14 = .ok (.ifCond .ne 7, 3) := by decide +kernel
theorem kd_prog_6_method_11_code_17 : decode prog_6_method_11_code 17 = .ok (.iconst 1, 1) := by decide +kernel
theorem kd_prog_6_method_11_code_18 : decode prog_6_method_11_code 18 = .ok (.goto 4, 3) := by decide +kernel
theorem kd_prog_6_method_11_code_21 : decode prog_6_method_11_code 21 = .ok (.iconst 0, 1) := by decide +kernel
theorem kd_prog_6_method_11_code_22 : decode prog_6_method_11_code 22 = .ok (.bastore, 1) := by decide +kernel
theorem kd_prog_6_method_11_code_23 : decode prog_6_method_11_code 23 = .ok (.iinc 1 1, 3) := by decide +kernel
theorem kd_prog_6_method_11_code_26 : decode prog_6_method_11_code 26 = .ok (.goto (-24), 3) := by decide +kernel
theorem kd_prog_6_method_11_code_29 : decode prog_6_method_11_code 29 = .ok (.iconst 0, 1) := by decide +kernel
theorem kd_prog_6_method_11_code_30 : decode prog_6_method_11_code 30 = .ok (.istore_n 1, 1) := by decide +kernel
theorem kd_prog_6_method_11_code_31 : decode prog_6_method_11_code 31 = .ok (.iload_n 1, 1) := by decide +kernel
theorem kd_prog_6_method_11_code_32 : decode prog_6_method_11_code 32 = .ok (.aload_n 0, 1) := by decide +kernel
theorem kd_prog_6_method_11_code_33 : decode prog_6_method_11_code 33 = .ok (.getfield 78, 3) := by decide +kernel
theorem kd_prog_6_method_11_code_36 : decode prog_6_method_11_code 36 = .ok (.if_icmp .ge 72, 3) := by decide +kernel
theorem kd_prog_6_method_11_code_39 : decode prog_6_method_11_code 39 = .ok (.iconst 0, 1) := by decide +kernel
theorem kd_prog_6_method_11_code_40 : decode prog_6_method_11_code 40 = .ok (.istore_n 2, 1) := by decide +kernel
theorem kd_prog_6_method_11_code_41 : decode prog_6_method_11_code 41 = .ok (.iload_n 2, 1) := by decide +kernel
theorem kd_prog_6_method_11_code_42 : decode prog_6_method_11_code 42 = .ok (.aload_n 0, 1) := by decide +kernel
theorem kd_prog_6_method_11_code_43 : decode prog_6_method_11_code 43 = .ok (.getfield 78, 3) := by decide +kernel
theorem kd_prog_6_method_11_code_46 : decode prog_6_method_11_code 46 = .ok (.if_icmp .ge 56, 3) := by decide +kernel
theorem kd_prog_6_method_11_code_49 : decode prog_6_method_11_code 49 = .ok (.iconst 0, 1) := by decide +kernel
theorem kd_prog_6_method_11_code_50 : decode prog_6_method_11_code 50 = .ok (.istore_n 3, 1) := by decide +kernel
theorem kd_prog_6_method_11_code_51 : decode prog_6_method_11_code 51 = .ok (.iload_n 3, 1) := by decide +kernel
theorem kd_prog_6_method_11_code_52 : decode prog_6_method_11_code 52 = .ok (.iconst 2, 1) := by decide +kernel
theorem kd_prog_6_method_11_code_53 : decode prog_6_method_11_code 53 = .ok (.if_icmp .ge 43, 3) := by decide +kernel
theorem kd_prog_6_method_11_code_56 : decode prog_6_method_11_code 56 = .ok (.aload_n 0, 1) := by decide +kernel
theorem kd_prog_6_method_11_code_57 : decode prog_6_method_11_code 57 = .ok (.getfield 28, 3) := by decide +kernel
theorem kd_prog_6_method_11_code_60 : decode prog_6_method_11_code 60 = .ok (.iload_n 2, 1) := by decide +kernel
theorem kd_prog_6_method_11_code_61 : decode prog_6_method_11_code 61 = .ok (.baload, 1) := by decide +kernel
theorem kd_prog_6_method_11_code_62 : decode prog_6_method_11_code 62 = .ok (.ifCond .eq 12, 3) := by decide +kernel
theorem kd_prog_6_method_11_code_65 : decode prog_6_method_11_code 65 = .ok (.aload_n 0, 1) := by decide +kernel
theorem kd_prog_6_method_11_code_66 : decode prog_6_method_11_code 66 = .ok (.iload_n 2, 1) := by decide +kernel
theorem kd_prog_6_method_11_code_67 : decode prog_6_method_11_code 67 = .ok (.iload_n 3, 1) := by decide +kernel
theorem kd_prog_6_method_11_code_68 : decode prog_6_method_11_code 68 = .ok (.invokevirtual 100, 3) := by decide +kernel
theorem kd_prog_6_method_11_code_71 : decode prog_6_method_11_code 71 = .ok (.goto 4, 3) := by decide +kernel
theorem kd_prog_6_method_11_code_74 : decode prog_6_method_11_code 74 = .ok (.iconst (-1), 1) := by decide +kernel
theorem kd_prog_6_method_11_code_75 : decode prog_6_method_11_code 75 = .ok (.istore 4, 2) := by decide +kernel
theorem kd_prog_6_method_11_code_77 : decode prog_6_method_11_code 77 = .ok (.iload 4, 2) := by decide +kernel
theorem kd_prog_6_method_11_code_79 : decode prog_6_method_11_code 79 = .ok (.ifCond .lt 11, 3) := by decide +kernel
theorem kd_prog_6_method_11_code_82 : decode prog_6_method_11_code 82 = .ok (.aload_n 0, 1) := by decide +kernel
theorem kd_prog_6_method_11_code_83 : decode prog_6_method_11_code 83 = .ok (.getfield 28, 3) := by decide +kernel
theorem kd_prog_6_method_11_code_86 : decode prog_6_method_11_code 86 = .ok (.iload 4, 2) := by decide +kernel
theorem kd_prog_6_method_11_code_88 : decode prog_6_method_11_code 88 = .ok (.iconst 1, 1) := by decide +kernel
theorem kd_prog_6_method_11_code_89 : decode prog_6_method_11_code 89 = .ok (.bastore, 1) := by decide +kernel
theorem kd_prog_6_method_11_code_90 : decode prog_6_method_11_code 90 = .ok (.iinc 3 1, 3) := by decide +kernel
theorem kd_prog_6_method_11_code_93 : decode prog_6_method_11_code 93 = .ok (.goto (-42), 3) := by decide +kernel
theorem kd_prog_6_method_11_code_96 : decode prog_6_method_11_code 96 = .ok (.iinc 2 1, 3) := by decide +kernel
theorem kd_prog_6_method_11_code_99 : decode prog_6_method_11_code 99 = .ok (.goto (-58), 3) := by decide +kernel
theorem kd_prog_6_method_11_code_102 : decode prog_6_method_11_code 102 = .ok (.iinc 1 1, 3) := by decide +kernel
theorem kd_prog_6_method_11_code_105 : decode prog_6_method_11_code 105 = .ok (.goto (-74), 3) := by decide +kernel
theorem kd_prog_6_method_11_code_108 : decode prog_6_method_11_code 108 = .ok (.return_, 1) := by decide +kernel
theorem kd_prog_6_method_12_code_0 : decode prog_6_method_12_code 0 = .ok (.iconst 1, 1) := by decide +kernel
theorem kd_prog_6_method_12_code_1 : decode prog_6_method_12_code 1 = .ok (.istore_n 1, 1) := by decide +kernel
theorem kd_prog_6_method_12_code_2 : decode prog_6_method_12_code 2 = .ok (.iconst 0, 1) := by decide +kernel
theorem kd_prog_6_method_12_code_3 : decode prog_6_method_12_code 3 = .ok (.istore_n 2, 1) := by decide +kernel
theorem kd_prog_6_method_12_code_4 : decode prog_6_method_12_code 4 = .ok (.iload_n 2, 1) := by decide +kernel
theorem kd_prog_6_method_12_code_5 : decode prog_6_method_12_code 5 = .ok (.aload_n 0, 1) := by decide +kernel
theorem kd_prog_6_method_12_code_6 : decode prog_6_method_12_code 6 = .ok (.getfield 78, 3) := by decide +kernel
theorem kd_prog_6_method_12_code_9 : decode prog_6_method_12_code 9 = .ok (.if_icmp .ge 45, 3) := by decide +kernel
theorem kd_prog_6_method_12_code_12 : decode prog_6_method_12_code 12 = .ok (.iload_n 1, 1) := by decide +kernel
theorem kd_prog_6_method_12_code_13 : decode prog_6_method_12_code 13 = .ok (.ifCond .eq 33, 3) := by decide +kernel
theorem kd_prog_6_method_12_code_16 : decode prog_6_method_12_code 16 = .ok (.aload_n 0, 1) := by decide +kernel
theorem kd_prog_6_method_12_code_17 : decode prog_6_method_12_code 17 = .ok (.iload_n 2, 1) := by decide +kernel
theorem kd_prog_6_method_12_code_18 : decode prog_6_method_12_code 18 = .ok (.iconst 0, 1) := by decide +kernel
theorem kd_prog_6_method_12_code_19 : decode prog_6_method_12_code 19 = .ok (.invokevirtual 100, 3) := by decide +kernel
theorem kd_prog_6_method_12_code_22 : decode prog_6_method_12_code 22 = .ok (.aload_n 0, 1) := by decide +kernel
theorem kd_prog_6_method_12_code_23 : decode prog_6_method_12_code 23 = .ok (.getfield 78, 3) := by decide +kernel
theorem kd_prog_6_method_12_code_26 : decode prog_6_method_12_code 26 = .ok (.if_icmp .ge 20, 3) := by decide +kernel
theorem kd_prog_6_method_12_code_29 : decode prog_6_method_12_code 29 = .ok (.aload_n 0, 1) := by decide +kernel
theorem kd_prog_6_method_12_code_30 : decode prog_6_method_12_code 30 = .ok (.iload_n 2, 1) := by decide +kernel
theorem kd_prog_6_method_12_code_31 : decode prog_6_method_12_code 31 = .ok (.iconst 1, 1) := by decide +kernel
theorem kd_prog_6_method_12_code_32 : decode prog_6_method_12_code 32 = .ok (.invokevirtual 100, 3) := by decide +kernel
theorem kd_prog_6_method_12_code_35 : decode prog_6_method_12_code 35 = .ok (.aload_n 0, 1) := by decide +kernel
theorem kd_prog_6_method_12_code_36 : decode prog_6_method_12_code 36 = .ok (.getfield 78, 3) := by decide +kernel
theorem kd_prog_6_method_12_code_39 : decode prog_6_method_12_code 39 = .ok (.if_icmp .ge 7, 3) := by decide +kernel
theorem kd_prog_6_method_12_code_42 : decode prog_6_method_12_code 42 = .ok (.iconst 1, 1) := by decide +kernel
theorem kd_prog_6_method_12_code_43 : decode prog_6_method_12_code 43 = .ok (.goto 4, 3) := by decide +kernel
theorem kd_prog_6_method_12_code_46 : decode prog_6_method_12_code 46 = .ok (.iconst 0, 1) := by decide +kernel
theorem kd_prog_6_method_12_code_47 : decode prog_6_method_12_code 47 = .ok (.istore_n 1, 1) := by decide +kernel
theorem kd_prog_6_method_12_code_48 : decode prog_6_method_12_code 48 = .ok (.iinc 2 1, 3) := by decide +kernel
theorem kd_prog_6_method_12_code_51 : decode prog_6_method_12_code 51 = .ok (.goto (-47), 3) := by decide +kernel
theorem kd_prog_6_method_12_code_54 : decode prog_6_method_12_code 54 = .ok (.iload_n 1, 1) := by decide +kernel
theorem kd_prog_6_method_12_code_55 : decode prog_6_method_12_code 55 = .ok (.ireturn, 1) := by decide +kernel
theorem kd_prog_6_method_13_code_0 : decode prog_6_method_13_code 0 = .ok (.aload_n 0, 1) := by decide +kernel
theorem kd_prog_6_method_13_code_1 : decode prog_6_method_13_code 1 = .ok (.getfield 13, 3) := by decide +kernel
theorem kd_prog_6_method_13_code_4 : decode prog_6_method_13_code 4 = .ok (.iload_n 1, 1) := by decide +kernel
theorem kd_prog_6_method_13_code_5 : decode prog_6_method_13_code 5 = .ok (.iaload, 1) := by decide +kernel
theorem kd_prog_6_method_13_code_6 : decode prog_6_method_13_code 6 = .ok (.iconst 3, 1) := by decide +kernel
theorem kd_prog_6_method_13_code_7 : decode prog_6_method_13_code 7 = .ok (.if_icmp .ge 41, 3) := by decide +kernel
theorem kd_prog_6_method_13_code_10 : decode prog_6_method_13_code 10 = .ok (.aload_n 0, 1) := by decide +kernel
theorem kd_prog_6_method_13_code_11 : decode prog_6_method_13_code 11 = .ok (.getfield 13, 3) := by decide +kernel
theorem kd_prog_6_method_13_code_14 : decode prog_6_method_13_code 14 = .ok (.iload_n 1, 1) := by decide +kernel
theorem kd_prog_6_method_13_code_15 : decode prog_6_method_13_code 15 = .ok (.iconst 1, 1) := by decide +kernel
theorem kd_prog_6_method_13_code_16 : decode prog_6_method_13_code 16 = .ok (.iadd, 1) := by decide +kernel
theorem kd_prog_6_method_13_code_17 : decode prog_6_method_13_code 17 = .ok (.iaload, 1) := by decide +kernel
theorem kd_prog_6_method_13_code_18 : decode prog_6_method_13_code 18 = .ok (.aload_n 0, 1) := by decide +kernel
theorem kd_prog_6_method_13_code_19 : decode prog_6_method_13_code 19 = .ok (.getfield 19, 3) := by decide +kernel
theorem kd_prog_6_method_13_code_22 : decode prog_6_method_13_code 22 = .ok (.iload_n 2, 1) := by decide +kernel
theorem kd_prog_6_method_13_code_23 : decode prog_6_method_13_code 23 = .ok (.iaload, 1) := by decide +kernel
theorem kd_prog_6_method_13_code_24 : decode prog_6_method_13_code 24 = .ok (.if_icmp .eq 20, 3) := by decide +kernel
theorem kd_prog_6_method_13_code_27 : decode prog_6_method_13_code 27 = .ok (.aload_n 0, 1) := by decide +kernel
theorem kd_prog_6_method_13_code_28 : decode prog_6_method_13_code 28 = .ok (.getfield 13, 3) := by decide +kernel
theorem kd_prog_6_method_13_code_31 : decode prog_6_method_13_code 31 = .ok (.iload_n 1, 1) := by decide +kernel
theorem kd_prog_6_method_13_code_32 : decode prog_6_method_13_code 32 = .ok (.iconst 1, 1) := by decide +kernel
theorem kd_prog_6_method_13_code_33 : decode prog_6_method_13_code 33 = .ok (.iadd, 1) := by decide +kernel
theorem kd_prog_6_method_13_code_34 : decode prog_6_method_13_code 34 = .ok (.iaload, 1) := by decide +kernel
theorem kd_prog_6_method_13_code_35 : decode prog_6_method_13_code 35 = .ok (.aload_n 0, 1) := by decide +kernel
theorem kd_prog_6_method_13_code_36 : decode prog_6_method_13_code 36 = .ok (.getfield 25, 3) := by decide +kernel
theorem kd_prog_6_method_13_code_39 : decode prog_6_method_13_code 39 = .ok (.iload_n 2, 1) := by decide +kernel
theorem kd_prog_6_method_13_code_40 : decode prog_6_method_13_code 40 = .ok (.iaload, 1) := by decide +kernel
theorem kd_prog_6_method_13_code_41 : decode prog_6_method_13_code 41 = .ok (.if_icmp .ne 7, 3) := by decide +kernel
theorem kd_prog_6_method_13_code_44 : decode prog_6_method_13_code 44 = .ok (.iconst 1, 1) := by decide +kernel
theorem kd_prog_6_method_13_code_45 : decode prog_6_method_13_code 45 = .ok (.goto 4, 3) := by decide +kernel
theorem kd_prog_6_method_13_code_48 : decode prog_6_method_13_code 48 = .ok (.iconst 0, 1) := by decide +kernel
theorem kd_prog_6_method_13_code_49 : decode prog_6_method_13_code 49 = .ok (.ireturn, 1) := by decide +kernel
theorem kd_prog_6_method_14_code_0 : decode prog_6_method_14_code 0 = .ok (.aload_n 0, 1) := by decide +kernel
theorem kd_prog_6_method_14_code_1 : decode prog_6_method_14_code 1 = .ok (.getfield 38, 3) := by decide +kernel
theorem kd_prog_6_method_14_code_4 : decode prog_6_method_14_code 4 = .ok (.iload_n 1, 1) := by decide +kernel
theorem kd_prog_6_method_14_code_5 : decode prog_6_method_14_code 5 = .ok (.iconst 0, 1) := by decide +kernel
theorem kd_prog_6_method_14_code_6 : decode prog_6_method_14_code 6 = .ok (.bastore, 1) := by decide +kernel
theorem kd_prog_6_method_14_code_7 : decode prog_6_method_14_code 7 = .ok (.aload_n 0, 1) := by decide +kernel
theorem kd_prog_6_method_14_code_8 : decode prog_6_method_14_code 8 = .ok (.getfield 41, 3) := by decide +kernel
theorem kd_prog_6_method_14_code_11 : decode prog_6_method_14_code 11 = .ok (.iload_n 1, 1) := by decide +kernel
theorem kd_prog_6_method_14_code_12 : decode prog_6_method_14_code 12 = .ok (.iconst 0, 1) := by decide +kernel
theorem kd_prog_6_method_14_code_13 : decode prog_6_method_14_code 13 = .ok (.bastore, 1) := by decide +kernel
theorem kd_prog_6_method_14_code_14 : decode prog_6_method_14_code 14 = .ok (.aload_n 0, 1) := by decide +kernel
theorem kd_prog_6_method_14_code_15 : decode prog_6_method_14_code 15 = .ok (.getfield 44, 3) := by decide +kernel
theorem kd_prog_6_method_14_code_18 : decode prog_6_method_14_code 18 = .ok (.iload_n 1, 1) := by decide +kernel
theorem kd_prog_6_method_14_code_19 : decode prog_6_method_14_code 19 = .ok (.iconst 0, 1) := by decide +kernel
theorem kd_prog_6_method_14_code_20 : decode prog_6_method_14_code 20 = .ok (.bastore, 1) := by decide +kernel
theorem kd_prog_6_method_14_code_21 : decode prog_6_method_14_code 21 = .ok (.iconst 0, 1) := by decide +kernel
theorem kd_prog_6_method_14_code_22 : decode prog_6_method_14_code 22 = .ok (.istore_n 3, 1) := by decide +kernel
theorem kd_prog_6_method_14_code_23 : decode prog_6_method_14_code 23 = .ok (.iload_n 3, 1) := by decide +kernel
theorem kd_prog_6_method_14_code_24 : decode prog_6_method_14_code 24 = .ok (.aload_n 0, 1) := by decide +kernel
theorem kd_prog_6_method_14_code_25 : decode prog_6_method_14_code 25 = .ok (.getfield 7, 3) := by decide +kernel
theorem kd_prog_6_method_14_code_28 : decode prog_6_method_14_code 28 = .ok (.iload_n 1, 1) := by decide +kernel
theorem kd_prog_6_method_14_code_29 : decode prog_6_method_14_code 29 = .ok (.iaload, 1) := by decide +kernel
theorem kd_prog_6_method_14_code_30 : decode prog_6_method_14_code 30 = .ok (.if_icmp .ge 150, 3) := by decide +kernel
theorem kd_prog_6_method_14_code_33 : decode prog_6_method_14_code 33 = .ok (.bipush 30, 2) := by decide +kernel
theorem kd_prog_6_method_14_code_35 : decode prog_6_method_14_code 35 = .ok (.iload_n 1, 1) := by decide +kernel
theorem kd_prog_6_method_14_code_36 : decode prog_6_method_14_code 36 = .ok (.imul, 1) := by decide +kernel
theorem kd_prog_6_method_14_code_37 : decode prog_6_method_14_code 37 = .ok (.bipush 6, 2) := by decide +kernel
theorem kd_prog_6_method_14_code_39 : decode prog_6_method_14_code 39 = .ok (.iload_n 3, 1) := by decide +kernel
theorem kd_prog_6_method_14_code_40 : decode prog_6_method_14_code 40 = .ok (.imul, 1) := by decide +kernel
theorem kd_prog_6_method_14_code_41 : decode prog_6_method_14_code 41 = .ok (.iadd, 1) := by decide +kernel
theorem kd_prog_6_method_14_code_42 : decode prog_6_method_14_code 42 = .ok (.istore 4, 2) := by decide +kernel
theorem kd_prog_6_method_14_code_44 : decode prog_6_method_14_code 44 = .ok (.aload_n 0, 1) := by decide +kernel
theorem kd_prog_6_method_14_code_45 : decode prog_6_method_14_code 45 = .ok (.getfield 13, 3) := by decide +kernel
theorem kd_prog_6_method_14_code_48 : decode prog_6_method_14_code 48 = .ok (.iload 4, 2) := by decide +kernel
theorem kd_prog_6_method_14_code_50 : decode prog_6_method_14_code 50 = .ok (.iaload, 1) := by decide +kernel
theorem kd_prog_6_method_14_code_51 : decode prog_6_method_14_code 51 = .ok (.iconst 2, 1) := by decide +kernel
theorem kd_prog_6_method_14_code_52 : decode prog_6_method_14_code 52 = .ok (.if_icmp .ne 20, 3) := by decide +kernel
theorem kd_prog_6_method_14_code_55 : decode prog_6_method_14_code 55 = .ok (.aload_n 0, 1) := by decide +kernel
theorem kd_prog_6_method_14_code_56 : decode prog_6_method_14_code 56 = .ok (.getfield 13, 3) := by decide +kernel
theorem kd_prog_6_method_14_code_59 : decode prog_6_method_14_code 59 = .ok (.iload 4, 2) := by decide +kernel
theorem kd_prog_6_method_14_code_61 : decode prog_6_method_14_code 61 = .ok (.iconst 5, 1) := by decide +kernel
theorem kd_prog_6_method_14_code_62 : decode prog_6_method_14_code 62 = .ok (.iadd, 1) := by decide +kernel
theorem kd_prog_6_method_14_code_63 : decode prog_6_method_14_code 63 = .ok (.iaload, 1) := by decide +kernel
theorem kd_prog_6_method_14_code_64 : decode prog_6_method_14_code 64 = .ok (.iload_n 2, 1) := by decide +kernel
theorem kd_prog_6_method_14_code_65 : decode prog_6_method_14_code 65 = .ok (.if_icmp .ne 7, 3) := by decide +kernel
theorem kd_prog_6_method_14_code_68 : decode prog_6_method_14_code 68 = .ok (.iconst 1, 1) := by decide +kernel
theorem kd_prog_6_method_14_code_69 : decode prog_6_method_14_code 69 = .ok (.goto 4, 3) := by decide +kernel
theorem kd_prog_6_method_14_code_72 : decode prog_6_method_14_code 72 = .ok (.iconst 0, 1) := by decide +kernel
theorem kd_prog_6_method_14_code_73 : decode prog_6_method_14_code 73 = .ok (.istore 5, 2) := by decide +kernel
theorem kd_prog_6_method_14_code_75 : decode prog_6_method_14_code 75 = .ok (.aload_n 0, 1) := by decide +kernel
theorem kd_prog_6_method_14_code_76 : decode prog_6_method_14_code 76 = .ok (.getfield 41, 3) := by decide +kernel
theorem kd_prog_6_method_14_code_79 : decode prog_6_method_14_code 79 = .ok (.iload_n 1, 1) := by decide +kernel
theorem kd_prog_6_method_14_code_80 : decode prog_6_method_14_code 80 = .ok (.aload_n 0, 1) := by decide +kernel
theorem kd_prog_6_method_14_code_81 : decode prog_6_method_14_code 81 = .ok (.getfield 41, 3) := by decide +kernel
theorem kd_prog_6_method_14_code_84 : decode prog_6_method_14_code 84 = .ok (.iload_n 1, 1) := by decide +kernel
theorem kd_prog_6_method_14_code_85 : decode prog_6_method_14_code 85 = .ok (.baload, 1) := by decide +kernel
theorem kd_prog_6_method_14_code_86 : decode prog_6_method_14_code 86 = .ok (.ifCond .ne 17, 3) := by decide +kernel
theorem kd_prog_6_method_14_code_89 : decode prog_6_method_14_code 89 = .ok (.iload 5, 2) := by decide +kernel
theorem kd_prog_6_method_14_code_91 : decode prog_6_method_14_code 91 = .ok (.ifCond .eq 16, 3) := by decide +kernel
theorem kd_prog_6_method_14_code_94 : decode prog_6_method_14_code 94 = .ok (.aload_n 0, 1) := by decide +kernel
theorem kd_prog_6_method_14_code_95 : decode prog_6_method_14_code 95 = .ok (.getfield 38, 3) := by decide +kernel
theorem kd_prog_6_method_14_code_98 : decode prog_6_method_14_code 98 = .ok (.iload_n 1, 1) := by decide +kernel
theorem kd_prog_6_method_14_code_99 : decode prog_6_method_14_code 99 = .ok (.baload, 1) := by decide +kernel
theorem kd_prog_6_method_14_code_100 : decode prog_6_method_14_code 100 = .ok (.ifCond .ne 7, 3) := by decide +kernel
theorem kd_prog_6_method_14_code_103 : decode prog_6_method_14_code 103 = .ok (.iconst 1, 1) := by decide +kernel
theorem kd_prog_6_method_14_code_104 : decode prog_6_method_14_code 104 = .ok (.goto 4, 3) := by decide +kernel
theorem kd_prog_6_method_14_code_107 : decode prog_6_method_14_code 107 = .ok (.iconst 0, 1) := by decide +kernel
theorem kd_prog_6_method_14_code_108 : decode prog_6_method_14_code 108 = .ok (.bastore, 1) := by decide +kernel
theorem kd_prog_6_method_14_code_109 : decode prog_6_method_14_code 109 = .ok (.aload_n 0, 1) := by decide +kernel
theorem kd_prog_6_method_14_code_110 : decode prog_6_method_14_code 110 = .ok (.getfield 44, 3) := by decide +kernel
theorem kd_prog_6_method_14_code_113 : decode prog_6_method_14_code 113 = .ok (.iload_n 1, 1) := by decide +kernel
theorem kd_prog_6_method_14_code_114 : decode prog_6_method_14_code 114 = .ok (.aload_n 0, 1) := by decide +kernel
theorem kd_prog_6_method_14_code_115 : decode prog_6_method_14_code 115 = .ok (.getfield 44, 3) := by decide +kernel
theorem kd_prog_6_method_14_code_118 : decode prog_6_method_14_code 118 = .ok (.iload_n 1, 1) := by decide +kernel
theorem kd_prog_6_method_14_code_119 : decode prog_6_method_14_code 119 = .ok (.baload, 1) := by decide +kernel
theorem kd_prog_6_method_14_code_120 : decode prog_6_method_14_code 120 = .ok (.ifCond .ne 8, 3) := by decide +kernel
theorem kd_prog_6_method_14_code_123 : decode prog_6_method_14_code 123 = .ok (.iload 5, 2) := by decide +kernel
theorem kd_prog_6_method_14_code_125 : decode prog_6_method_14_code 125 = .ok (.ifCond .eq 17, 3) := by decide +kernel
theorem kd_prog_6_method_14_code_128 : decode prog_6_method_14_code 128 = .ok (.aload_n 0, 1) := by decide +kernel
theorem kd_prog_6_method_14_code_129 : decode prog_6_method_14_code 129 = .ok (.iload 4, 2) := by decide +kernel
theorem kd_prog_6_method_14_code_131 : decode prog_6_method_14_code 131 = .ok (.iload_n 2, 1) := by decide +kernel
theorem kd_prog_6_method_14_code_132 : decode prog_6_method_14_code 132 = .ok (.invokevirtual 104, 3) := by decide +kernel
theorem kd_prog_6_method_14_code_135 : decode prog_6_method_14_code 135 = .ok (.ifCond .ne 7, 3) := by decide +kernel
theorem kd_prog_6_method_14_code_138 : decode prog_6_method_14_code 138 = .ok (.iconst 1, 1) := by decide +kernel
theorem kd_prog_6_method_14_code_139 : decode prog_6_method_14_code 139 = .ok (.goto 4, 3) := by decide +kernel
theorem kd_prog_6_method_14_code_142 : decode prog_6_method_14_code 142 = .ok (.iconst 0, 1) := by decide +kernel
theorem kd_prog_6_method_14_code_143 : decode prog_6_method_14_code 143 = .ok (.bastore, 1) := by decide +kernel
theorem kd_prog_6_method_14_code_144 : decode prog_6_method_14_code 144 = .ok (.aload_n 0, 1) := by decide +kernel
theorem kd_prog_6_method_14_code_145 : decode prog_6_method_14_code 145 = .ok (.getfield 38, 3) := by decide +kernel
theorem kd_prog_6_method_14_code_148 : decode prog_6_method_14_code 148 = .ok (.iload_n 1, 1) := by decide +kernel
theorem kd_prog_6_method_14_code_149 : decode prog_6_method_14_code 149 = .ok (.aload_n 0, 1) := by decide +kernel
theorem kd_prog_6_method_14_code_150 : decode prog_6_method_14_code 150 = .ok (.getfield 38, 3) := by decide +kernel
theorem kd_prog_6_method_14_code_153 : decode prog_6_method_14_code 153 = .ok (.iload_n 1, 1) := by decide +kernel
theorem kd_prog_6_method_14_code_154 : decode prog_6_method_14_code 154 = .ok (.baload, 1) := by decide +kernel
theorem kd_prog_6_method_14_code_155 : decode prog_6_method_14_code 155 = .ok (.ifCond .ne 13, 3) := by decide +kernel
theorem kd_prog_6_method_14_code_158 : decode prog_6_method_14_code 158 = .ok (.aload_n 0, 1) := by decide +kernel
theorem kd_prog_6_method_14_code_159 : decode prog_6_method_14_code 159 = .ok (.iload 4, 2) := by decide +kernel
theorem kd_prog_6_method_14_code_161 : decode prog_6_method_14_code 161 = .ok (.iload_n 2, 1) := by decide +kernel
theorem kd_prog_6_method_14_code_162 : decode prog_6_method_14_code 162 = .ok (.invokevirtual 104, 3) := by decide +kernel
theorem kd_prog_6_method_14_code_165 : decode prog_6_method_14_code 165 = .ok (.ifCond .eq 7, 3) := by decide +kernel
theorem kd_prog_6_method_14_code_168 : decode prog_6_method_14_code 168 = .ok (.iconst 1, 1) := by decide +kernel
theorem kd_prog_6_method_14_code_169 : decode prog_6_method_14_code 169 = .ok (.goto 4, 3) := by decide +kernel
theorem kd_prog_6_method_14_code_172 : decode prog_6_method_14_code 172 = .ok (.iconst 0, 1) := by decide +kernel
theorem kd_prog_6_method_14_code_173 : decode prog_6_method_14_code 173 = .ok (.bastore, 1) := by decide +kernel
theorem kd_prog_6_method_14_code_174 : decode prog_6_method_14_code 174 = .ok (.iinc 3 1, 3) := by decide +kernel
theorem kd_prog_6_method_14_code_177 : decode prog_6_method_14_code 177 = .ok (.goto (-154), 3) := by decide +kernel
theorem kd_prog_6_method_14_code_180 : decode prog_6_method_14_code 180 = .ok (.return_, 1) := by decide +kernel
theorem kd_prog_6_method_15_code_0 : decode prog_6_method_15_code 0 = .ok (.iload_n 1, 1) := by decide +kernel
theorem kd_prog_6_method_15_code_1 : decode prog_6_method_15_code 1 = .ok (.ifCond .le 7, 3) := by decide +kernel
theorem kd_prog_6_method_15_code_4 : decode prog_6_method_15_code 4 = .ok (.iconst 1, 1) := by decide +kernel
theorem kd_prog_6_method_15_code_5 : decode prog_6_method_15_code 5 = .ok (.goto 4, 3) := by decide +kernel
theorem kd_prog_6_method_15_code_8 : decode prog_6_method_15_code 8 = .ok (.iconst 0, 1) := by decide +kernel
theorem kd_prog_6_method_15_code_9 : decode prog_6_method_15_code 9 = .ok (.istore_n 2, 1) := by decide +kernel
theorem kd_prog_6_method_15_code_10 : decode prog_6_method_15_code 10 = .ok (.iconst 0, 1) := by decide +kernel
theorem kd_prog_6_method_15_code_11 : decode prog_6_method_15_code 11 = .ok (.istore_n 3, 1) := by decide +kernel
theorem kd_prog_6_method_15_code_12 : decode prog_6_method_15_code 12 = .ok (.iload_n 3, 1) := by decide +kernel
theorem kd_prog_6_method_15_code_13 : decode prog_6_method_15_code 13 = .ok (.aload_n 0, 1) := by decide +kernel
theorem kd_prog_6_method_15_code_14 : decode prog_6_method_15_code 14 = .ok (.getfield 78, 3) := by decide +kernel
theorem kd_prog_6_method_15_code_17 : decode prog_6_method_15_code 17 = .ok (.if_icmp .ge 37, 3) := by decide +kernel
theorem kd_prog_6_method_15_code_20 : decode prog_6_method_15_code 20 = .ok (.iload_n 2, 1) := by decide +kernel
theorem kd_prog_6_method_15_code_21 : decode prog_6_method_15_code 21 = .ok (.ifCond .eq 25, 3) := by decide +kernel
theorem kd_prog_6_method_15_code_24 : decode prog_6_method_15_code 24 = .ok (.aload_n 0, 1) := by decide +kernel
theorem kd_prog_6_method_15_code_25 : decode prog_6_method_15_code 25 = .ok (.iload_n 3, 1) := by decide +kernel
theorem kd_prog_6_method_15_code_26 : decode prog_6_method_15_code 26 = .ok (.iload_n 1, 1) := by decide +kernel
theorem kd_prog_6_method_15_code_27 : decode prog_6_method_15_code 27 = .ok (.invokevirtual 108, 3) := by decide +kernel
theorem kd_prog_6_method_15_code_30 : decode prog_6_method_15_code 30 = .ok (.ifCond .eq 12, 3) := by decide +kernel
theorem kd_prog_6_method_15_code_33 : decode prog_6_method_15_code 33 = .ok (.aload_n 0, 1) := by decide +kernel
theorem kd_prog_6_method_15_code_34 : decode prog_6_method_15_code 34 = .ok (.getfield 50, 3) := by decide +kernel
theorem kd_prog_6_method_15_code_37 : decode prog_6_method_15_code 37 = .ok (.iload_n 3, 1) := by decide +kernel
theorem kd_prog_6_method_15_code_38 : decode prog_6_method_15_code 38 = .ok (.baload, 1) := by decide +kernel
theorem kd_prog_6_method_15_code_39 : decode prog_6_method_15_code 39 = .ok (.ifCond .eq 7, 3) := by decide +kernel
theorem kd_prog_6_method_15_code_42 : decode prog_6_method_15_code 42 = .ok (.iconst 1, 1) := by decide +kernel
theorem kd_prog_6_method_15_code_43 : decode prog_6_method_15_code 43 = .ok (.goto 4, 3) := by decide +kernel
theorem kd_prog_6_method_15_code_46 : decode prog_6_method_15_code 46 = .ok (.iconst 0, 1) := by decide +kernel
theorem kd_prog_6_method_15_code_47 : decode prog_6_method_15_code 47 = .ok (.istore_n 2, 1) := by decide +kernel
theorem kd_prog_6_method_15_code_48 : decode prog_6_method_15_code 48 = .ok (.iinc 3 1, 3) := by decide +kernel
theorem kd_prog_6_method_15_code_51 : decode prog_6_method_15_code 51 = .ok (.goto (-39), 3) := by decide +kernel
theorem kd_prog_6_method_15_code_54 : decode prog_6_method_15_code 54 = .ok (.iload_n 2, 1) := by decide +kernel
theorem kd_prog_6_method_15_code_55 : decode prog_6_method_15_code 55 = .ok (.ireturn, 1) := by decide +kernel
theorem kd_prog_6_method_16_code_0 : decode prog_6_method_16_code 0 = .ok (.iconst 0, 1) := by decide +kernel
theorem kd_prog_6_method_16_code_1 : decode prog_6_method_16_code 1 = .ok (.istore_n 2, 1) := by decide +kernel
theorem kd_prog_6_method_16_code_2 : decode prog_6_method_16_code 2 = .ok (.iconst 1, 1) := by decide +kernel
theorem kd_prog_6_method_16_code_3 : decode prog_6_method_16_code 3 = .ok (.istore_n 3, 1) := by decide +kernel
theorem kd_prog_6_method_16_code_4 : decode prog_6_method_16_code 4 = .ok (.iconst 0, 1) := by decide +kernel
theorem kd_prog_6_method_16_code_5 : decode prog_6_method_16_code 5 = .ok (.istore 4, 2) := by decide +kernel
theorem kd_prog_6_method_16_code_7 : decode prog_6_method_16_code 7 = .ok (.iload 4, 2) := by decide +kernel
theorem kd_prog_6_method_16_code_9 : decode prog_6_method_16_code 9 = .ok (.iconst 2, 1) := by decide +kernel
theorem kd_prog_6_method_16_code_10 : decode prog_6_method_16_code 10 = .ok (.if_icmp .ge 58, 3) := by decide +kernel
theorem kd_prog_6_method_16_code_13 : decode prog_6_method_16_code 13 = .ok (.aload_n 0, 1) := by decide +kernel
theorem kd_prog_6_method_16_code_14 : decode prog_6_method_16_code 14 = .ok (.iload_n 1, 1) := by decide +kernel
theorem kd_prog_6_method_16_code_15 : decode prog_6_method_16_code 15 = .ok (.iload 4, 2) := by decide +kernel
theorem kd_prog_6_method_16_code_17 : decode prog_6_method_16_code 17 = .ok (.invokevirtual 100, 3) := by decide +kernel
theorem kd_prog_6_method_16_code_20 : decode prog_6_method_16_code 20 = .ok (.istore 5, 2) := by decide +kernel
theorem kd_prog_6_method_16_code_22 : decode prog_6_method_16_code 22 = .ok (.iload_n 2, 1) := by decide +kernel
theorem kd_prog_6_method_16_code_23 : decode prog_6_method_16_code 23 = .ok (.ifCond .ne 8, 3) := by decide +kernel
theorem kd_prog_6_method_16_code_26 : decode prog_6_method_16_code 26 = .ok (.iload 5, 2) := by decide +kernel
theorem kd_prog_6_method_16_code_28 : decode prog_6_method_16_code 28 = .ok (.ifCond .lt 7, 3) := by decide +kernel
theorem kd_prog_6_method_16_code_31 : decode prog_6_method_16_code 31 = .ok (.iconst 1, 1) := by decide +kernel
theorem kd_prog_6_method_16_code_32 : decode prog_6_method_16_code 32 = .ok (.goto 4, 3) := by decide +kernel
theorem kd_prog_6_method_16_code_35 : decode prog_6_method_16_code 35 = .ok (.iconst 0, 1) := by decide +kernel
theorem kd_prog_6_method_16_code_36 : decode prog_6_method_16_code 36 = .ok (.istore_n 2, 1) := by decide +kernel
theorem kd_prog_6_method_16_code_37 : decode prog_6_method_16_code 37 = .ok (.iload_n 3, 1) := by decide +kernel
theorem kd_prog_6_method_16_code_38 : decode prog_6_method_16_code 38 = .ok (.ifCond .eq 22, 3) := by decide +kernel
theorem kd_prog_6_method_16_code_41 : decode prog_6_method_16_code 41 = .ok (.iload 5, 2) := by decide +kernel
theorem kd_prog_6_method_16_code_43 : decode prog_6_method_16_code 43 = .ok (.ifCond .lt 13, 3) := by decide +kernel
theorem kd_prog_6_method_16_code_46 : decode prog_6_method_16_code 46 = .ok (.aload_n 0, 1) := by decide +kernel
theorem kd_prog_6_method_16_code_47 : decode prog_6_method_16_code 47 = .ok (.getfield 53, 3) := by decide +kernel
theorem kd_prog_6_method_16_code_50 : decode prog_6_method_16_code 50 = .ok (.iload 5, 2) := by decide +kernel
theorem kd_prog_6_method_16_code_52 : decode prog_6_method_16_code 52 = .ok (.baload, 1) := by decide +kernel
theorem kd_prog_6_method_16_code_53 : decode prog_6_method_16_code 53 = .ok (.ifCond .eq 7, 3) := by decide +kernel
theorem kd_prog_6_method_16_code_56 : decode prog_6_method_16_code 56 = .ok (.iconst 1, 1) := by decide +kernel
theorem kd_prog_6_method_16_code_57 : decode prog_6_method_16_code 57 = .ok (.goto 4, 3) := by decide +kernel
theorem kd_prog_6_method_16_code_60 : decode prog_6_method_16_code 60 = .ok (.iconst 0, 1) := by decide +kernel
theorem kd_prog_6_method_16_code_61 : decode prog_6_method_16_code 61 = .ok (.istore_n 3, 1) := by decide +kernel
theorem kd_prog_6_method_16_code_62 : decode prog_6_method_16_code 62 = .ok (.iinc 4 1, 3) := by decide +kernel
theorem kd_prog_6_method_16_code_65 : decode prog_6_method_16_code 65 = .ok (.goto (-58), 3) := by decide +kernel
theorem kd_prog_6_method_16_code_68 : decode prog_6_method_16_code 68 = .ok (.iload_n 2, 1) := by decide +kernel
theorem kd_prog_6_method_16_code_69 : decode prog_6_method_16_code 69 = .ok (.ifCond .eq 11, 3) := by decide +kernel
theorem kd_prog_6_method_16_code_72 : decode prog_6_method_16_code 72 = .ok (.iload_n 3, 1) := by decide +kernel
theorem kd_prog_6_method_16_code_73 : decode prog_6_method_16_code 73 = .ok (.ifCond .eq 7, 3) := by decide +kernel
theorem kd_prog_6_method_16_code_76 : decode prog_6_method_16_code 76 = .ok (.iconst 1, 1) := by decide +kernel
theorem kd_prog_6_method_16_code_77 : decode prog_6_method_16_code 77 = .ok (.goto 4, 3) := by decide +kernel
theorem kd_prog_6_method_16_code_80 : decode prog_6_method_16_code 80 = .ok (.iconst 0, 1) := by decide +kernel
theorem kd_prog_6_method_16_code_81 : decode prog_6_method_16_code 81 = .ok (.ireturn, 1) := by decide +kernel
theorem kd_prog_6_method_17_code_0 : decode prog_6_method_17_code 0 = .ok (.aload_n 0, 1) := by decide +kernel
theorem kd_prog_6_method_17_code_1 : decode prog_6_method_17_code 1 = .ok (.getfield 53, 3) := by decide +kernel
theorem kd_prog_6_method_17_code_4 : decode prog_6_method_17_code 4 = .ok (.iload_n 2, 1) := by decide +kernel
theorem kd_prog_6_method_17_code_5 : decode prog_6_method_17_code 5 = .ok (.baload, 1) := by decide +kernel
theorem kd_prog_6_method_17_code_6 : decode prog_6_method_17_code 6 = .ok (.ifCond .eq 37, 3) := by decide +kernel
theorem kd_prog_6_method_17_code_9 : decode prog_6_method_17_code 9 = .ok (.iload_n 1, 1) := by decide +kernel
theorem kd_prog_6_method_17_code_10 : decode prog_6_method_17_code 10 = .ok (.ifCond .lt 29, 3) := by decide +kernel
theorem kd_prog_6_method_17_code_13 : decode prog_6_method_17_code 13 = .ok (.aload_n 0, 1) := by decide +kernel
theorem kd_prog_6_method_17_code_14 : decode prog_6_method_17_code 14 = .ok (.getfield 50, 3) := by decide +kernel
theorem kd_prog_6_method_17_code_17 : decode prog_6_method_17_code 17 = .ok (.iload_n 1, 1) := by decide +kernel
theorem kd_prog_6_method_17_code_18 : decode prog_6_method_17_code 18 = .ok (.baload, 1) := by decide +kernel
theorem kd_prog_6_method_17_code_19 : decode prog_6_method_17_code 19 = .ok (.ifCond .ne 24, 3) := by decide +kernel
theorem kd_prog_6_method_17_code_22 : decode prog_6_method_17_code 22 = .ok (.aload_n 0, 1) := by decide +kernel
theorem kd_prog_6_method_17_code_23 : decode prog_6_method_17_code 23 = .ok (.getfield 38, 3) := by decide +kernel
theorem kd_prog_6_method_17_code_26 : decode prog_6_method_17_code 26 = .ok (.iload_n 1, 1) := by decide +kernel
theorem kd_prog_6_method_17_code_27 : decode prog_6_method_17_code 27 = .ok (.baload, 1) := by decide +kernel
theorem kd_prog_6_method_17_code_28 : decode prog_6_method_17_code 28 = .ok (.ifCond .ne 11, 3) := by decide +kernel
theorem kd_prog_6_method_17_code_31 : decode prog_6_method_17_code 31 = .ok (.aload_n 0, 1) := by decide +kernel
theorem kd_prog_6_method_17_code_32 : decode prog_6_method_17_code 32 = .ok (.iload_n 1, 1) := by decide +kernel
theorem kd_prog_6_method_17_code_33 : decode prog_6_method_17_code 33 = .ok (.invokevirtual 111, 3) := by decide +kernel
theorem kd_prog_6_method_17_code_36 : decode prog_6_method_17_code 36 = .ok (.ifCond .ne 7, 3) := by decide +kernel
theorem kd_prog_6_method_17_code_39 : decode prog_6_method_17_code 39 = .ok (.iconst 1, 1) := by decide +kernel
theorem kd_prog_6_method_17_code_40 : decode prog_6_method_17_code 40 = .ok (.goto 4, 3) := by decide +kernel
theorem kd_prog_6_method_17_code_43 : decode prog_6_method_17_code 43 = .ok (.iconst 0, 1) := by decide +kernel
theorem kd_prog_6_method_17_code_44 : decode prog_6_method_17_code 44 = .ok (.ireturn, 1) := by decide +kernel
theorem kd_prog_6_method_18_code_0 : decode prog_6_method_18_code 0 = .ok (.aload_n 0, 1) := by decide +kernel
theorem kd_prog_6_method_18_code_1 : decode prog_6_method_18_code 1 = .ok (.iload_n 1, 1) := by decide +kernel
theorem kd_prog_6_method_18_code_2 : decode prog_6_method_18_code 2 = .ok (.iload_n 2, 1) := by decide +kernel
theorem kd_prog_6_method_18_code_3 : decode prog_6_method_18_code 3 = .ok (.invokevirtual 115, 3) := by decide +kernel
theorem kd_prog_6_method_18_code_6 : decode prog_6_method_18_code 6 = .ok (.ifCond .ne 25, 3) := by decide +kernel
theorem kd_prog_6_method_18_code_9 : decode prog_6_method_18_code 9 = .ok (.iload_n 1, 1) := by decide +kernel
theorem kd_prog_6_method_18_code_10 : decode prog_6_method_18_code 10 = .ok (.ifCond .lt 25, 3) := by decide +kernel
theorem kd_prog_6_method_18_code_13 : decode prog_6_method_18_code 13 = .ok (.aload_n 0, 1) := by decide +kernel
theorem kd_prog_6_method_18_code_14 : decode prog_6_method_18_code 14 = .ok (.getfield 59, 3) := by decide +kernel
theorem kd_prog_6_method_18_code_17 : decode prog_6_method_18_code 17 = .ok (.iload_n 1, 1) := by decide +kernel
theorem kd_prog_6_method_18_code_18 : decode prog_6_method_18_code 18 = .ok (.baload, 1) := by decide +kernel
theorem kd_prog_6_method_18_code_19 : decode prog_6_method_18_code 19 = .ok (.ifCond .eq 16, 3) := by decide +kernel
theorem kd_prog_6_method_18_code_22 : decode prog_6_method_18_code 22 = .ok (.aload_n 0, 1) := by decide +kernel
theorem kd_prog_6_method_18_code_23 : decode prog_6_method_18_code 23 = .ok (.getfield 41, 3) := by decide +kernel
theorem kd_prog_6_method_18_code_26 : decode prog_6_method_18_code 26 = .ok (.iload_n 1, 1) := by decide +kernel
theorem kd_prog_6_method_18_code_27 : decode prog_6_method_18_code 27 = .ok (.baload, 1) := by decide +kernel
theorem kd_prog_6_method_18_code_28 : decode prog_6_method_18_code 28 = .ok (.ifCond .ne 7, 3) := by decide +kernel
theorem kd_prog_6_method_18_code_31 : decode prog_6_method_18_code 31 = .ok (.iconst 1, 1) := by decide +kernel
theorem kd_prog_6_method_18_code_32 : decode prog_6_method_18_code 32 = .ok (.goto 4, 3) := by decide +kernel
theorem kd_prog_6_method_18_code_35 : decode prog_6_method_18_code 35 = .ok (.iconst 0, 1) := by decide +kernel
theorem kd_prog_6_method_18_code_36 : decode prog_6_method_18_code 36 = .ok (.ireturn, 1) := by decide +kernel
theorem kd_prog_6_method_19_code_0 : decode prog_6_method_19_code 0 = .ok (.iload_n 1, 1) := by decide +kernel
theorem kd_prog_6_method_19_code_1 : decode prog_6_method_19_code 1 = .ok (.ifCond .gt 12, 3) := by decide +kernel
theorem kd_prog_6_method_19_code_4 : decode prog_6_method_19_code 4 = .ok (.aload_n 0, 1) := by decide +kernel
theorem kd_prog_6_method_19_code_5 : decode prog_6_method_19_code 5 = .ok (.iconst (-1), 1) := by decide +kernel
theorem kd_prog_6_method_19_code_6 : decode prog_6_method_19_code 6 = .ok (.iconst 0, 1) := by decide +kernel
theorem kd_prog_6_method_19_code_7 : decode prog_6_method_19_code 7 = .ok (.invokevirtual 118, 3) := by decide +kernel
theorem kd_prog_6_method_19_code_10 : decode prog_6_method_19_code 10 = .ok (.ifCond .eq 7, 3) := by decide +kernel
theorem kd_prog_6_method_19_code_13 : decode prog_6_method_19_code 13 = .ok (.iconst 1, 1) := by decide +kernel
theorem kd_prog_6_method_19_code_14 : decode prog_6_method_19_code 14 = .ok (.goto 4, 3) := by decide +kernel
theorem kd_prog_6_method_19_code_17 : decode prog_6_method_19_code 17 = .ok (.iconst 0, 1) := by decide +kernel
theorem kd_prog_6_method_19_code_18 : decode prog_6_method_19_code 18 = .ok (.istore_n 2, 1) := by decide +kernel
theorem kd_prog_6_method_19_code_19 : decode prog_6_method_19_code 19 = .ok (.iconst 0, 1) := by decide +kernel
theorem kd_prog_6_method_19_code_20 : decode prog_6_method_19_code 20 = .ok (.istore_n 3, 1) := by decide +kernel
theorem kd_prog_6_method_19_code_21 : decode prog_6_method_19_code 21 = .ok (.iload_n 3, 1) := by decide +kernel
theorem kd_prog_6_method_19_code_22 : decode prog_6_method_19_code 22 = .ok (.aload_n 0, 1) := by decide +kernel
theorem kd_prog_6_method_19_code_23 : decode prog_6_method_19_code 23 = .ok (.getfield 78, 3) := by decide +kernel
theorem kd_prog_6_method_19_code_26 : decode prog_6_method_19_code 26 = .ok (.if_icmp .ge 37, 3) := by decide +kernel
theorem kd_prog_6_method_19_code_29 : decode prog_6_method_19_code 29 = .ok (.iload_n 2, 1) := by decide +kernel
theorem kd_prog_6_method_19_code_30 : decode prog_6_method_19_code 30 = .ok (.ifCond .eq 25, 3) := by decide +kernel
theorem kd_prog_6_method_19_code_33 : decode prog_6_method_19_code 33 = .ok (.aload_n 0, 1) := by decide +kernel
theorem kd_prog_6_method_19_code_34 : decode prog_6_method_19_code 34 = .ok (.iload_n 3, 1) := by decide +kernel
theorem kd_prog_6_method_19_code_35 : decode prog_6_method_19_code 35 = .ok (.iload_n 1, 1) := by decide +kernel
theorem kd_prog_6_method_19_code_36 : decode prog_6_method_19_code 36 = .ok (.invokevirtual 108, 3) := by decide +kernel
theorem kd_prog_6_method_19_code_39 : decode prog_6_method_19_code 39 = .ok (.ifCond .eq 12, 3) := by decide +kernel
theorem kd_prog_6_method_19_code_42 : decode prog_6_method_19_code 42 = .ok (.aload_n 0, 1) := by decide +kernel
theorem kd_prog_6_method_19_code_43 : decode prog_6_method_19_code 43 = .ok (.iload_n 3, 1) := by decide +kernel
theorem kd_prog_6_method_19_code_44 : decode prog_6_method_19_code 44 = .ok (.iload_n 1, 1) := by decide +kernel
theorem kd_prog_6_method_19_code_45 : decode prog_6_method_19_code 45 = .ok (.invokevirtual 118, 3) := by decide +kernel
theorem kd_prog_6_method_19_code_48 : decode prog_6_method_19_code 48 = .ok (.ifCond .eq 7, 3) := by decide +kernel
theorem kd_prog_6_method_19_code_51 : decode prog_6_method_19_code 51 = .ok (.iconst 1, 1) := by decide +kernel
theorem kd_prog_6_method_19_code_52 : decode prog_6_method_19_code 52 = .ok (.goto 4, 3) := by decide +kernel
theorem kd_prog_6_method_19_code_55 : decode prog_6_method_19_code 55 = .ok (.iconst 0, 1) := by decide +kernel
theorem kd_prog_6_method_19_code_56 : decode prog_6_method_19_code 56 = .ok (.istore_n 2, 1) := by decide +kernel
theorem kd_prog_6_method_19_code_57 : decode prog_6_method_19_code 57 = .ok (.iinc 3 1, 3) := by decide +kernel
theorem kd_prog_6_method_19_code_60 : decode prog_6_method_19_code 60 = .ok (.goto (-39), 3) := by decide +kernel
theorem kd_prog_6_method_19_code_63 : decode prog_6_method_19_code 63 = .ok (.iload_n 2, 1) := by decide +kernel
theorem kd_prog_6_method_19_code_64 : decode prog_6_method_19_code 64 = .ok (.ireturn, 1) := by decide +kernel
section
variable {p : Program} {l : Launch} {e : Env} {R : Room} {s : State} {m : MethodId} {args : Array Value} {below : List Frame} {meth : Method} {c : Code} {Q : State → Prop} {ce sl : Nat} {D : va_G} {q : Nat → Nat} {cA : Nat → ClassId} {A : Nat → Prop}
set_option maxHeartbeats 4000000 in
set_option maxRecDepth 100000 in
theorem w_M_thrown (hx : p.tables.exec = Jvm.exec) (hb : c.code = prog_6_method_2_code) (hml : c.maxLocals = 1) (hown : s.vm.findClass kr_M = some m.cls) (hts : ∀ w ∈ lw_g, w.before args s = true) (hRf : 0 ≤ R.frames) (hRl : 0 ≤ R.locals) (hce : ce ≤ R.cells) (hsl : sl ≤ R.slots) (hA : ∀ x, s.heap.size ≤ x → A x) (hK : va_K D wk_cl (tysW cA) s) (z : Sta) (K : Int32 → Sta → Prop) (h : wp_M_thrown z K) (hret : ∀ (r : Int32) (u : Sta) (H : Heap) (locs : List Loc) (pc : Nat) (ls : Array Slot), K r u → wk_S D q cA A s.heap u H locs → decode prog_6_method_2_code pc = .ok (.ireturn, 1) → W p l e R s m args below meth c H locs ce sl Q (F0 m pc ls [.int r])) {H : Heap} {locs : List Loc} {ls : Array Slot} (hV : wk_S D q cA A s.heap z H locs) (hl : lv_has ls 1 [(0, .ref (q 4))]) : W p l e R s m args below meth c H locs ce sl Q (F0 m 0 ls []) := by
  unfold wp_M_thrown at h
  refine lv_aload_n hx hb kd_prog_6_method_2_code_0 rfl (lv_at hl 0 rfl) ?_
  refine va_get (D := D) (ci := 4) (v := .int (z.1 7)) (C := kr_M) (T := kt_M) (N := kn_M) hx hb hts ki_M hown hK hV.1 4 rfl rfl 0 (by decide) (hts _ hw_582) (fun _ h9 => h9) rfl kd_prog_6_method_2_code_1 ?_
  refine lv_topi (fun v1 ev1 => ?_)
  have h := h v1 ev1
  exact hret v1 z H locs 4 ls h hV kd_prog_6_method_2_code_4
end
set_option maxHeartbeats 4000000 in
set_option maxRecDepth 100000 in
theorem c_M_thrown (l : Launch) (D : va_G) (q : Nat → Nat) (cA : Nat → ClassId) (z : Sta) (sz : Nat) (K : Int32 → Sta → Prop) (h : wp_M_thrown z K) : Met l ke_M_thrown (kc_M_thrown :: lw_g) { frames := 0, cells := 0, slots := 0, locals := 0 } (wk_Pc D q cA [.ref (q 4)] z sz) (va_Qi K (wk_B D q cA (va_A (wW q cA z) sz)) (va_A (wW q cA z) sz)) 0 0 (va_A (wW q cA z) sz) := by
  refine Met.ofW (cc := prog_6_method_2_code) (maxL := 1) (ret := (some .int)) (by decide) rfl ?_
  intro p e s m args below meth c s₁ B hml hv
  obtain ⟨rfl, hsz, hP, hK, hD0⟩ := hv
  have hx := B.exec
  have hb := B.bytes
  have hr := B.returns
  have hlocks := B.notSynchronized
  have hts0 := atoms_spec (ws := kc_M_thrown :: lw_g) B.pre
  have hts : ∀ w ∈ lw_g, w.before ([.ref (q 4)] : List Value).toArray s = true := fun w hw => hts0 w (List.mem_cons_of_mem _ hw)
  have hown : s.vm.findClass kr_M = some m.cls := findClass_of_methodNamed B.named
  subst hsz
  have hD := hD0.self (sz := s.heap.size)
  generalize hAe : va_A (wW q cA z) s.heap.size = A at hD ⊢
  have hA : ∀ x : Nat, s.heap.size ≤ x → A x := fun x hx => by rw [← hAe]; exact Or.inr hx
  have hl := lv_entry ([.ref (q 4)]) (n := 1) (Nat.le_of_ble_eq_true rfl)
  rw [lg_entry_eq]
  generalize (lg_sl ([.ref (q 4)]) ++ List.replicate (1 - (lg_sl ([.ref (q 4)])).length) Slot.unset).toArray = ls at hl ⊢
  have hl : lv_has ls 1 [(0, .ref (q 4))] := hl
  exact w_M_thrown hx hb hml hown hts (Nat.le_refl _) (Nat.le_refl _) (Nat.zero_le _) (Nat.zero_le _) hA hK z K h (fun r u H locs pc ls hk hV hd => W.iret hx hb hr (fun t ht hW => ⟨⟨r, u, rfl, hk, by rw [ht]; exact hV.1, va_K.moved hW.alike hK, hV.2.1⟩, hV.2.2.F ht⟩) hV.2.2.2.2 hd) ⟨hP, hD, va_S.rf⟩ hl
section
variable {p : Program} {l : Launch} {e : Env} {R : Room} {s : State} {m : MethodId} {args : Array Value} {below : List Frame} {meth : Method} {c : Code} {Q : State → Prop} {ce sl : Nat} {D : va_G} {q : Nat → Nat} {cA : Nat → ClassId} {A : Nat → Prop}
set_option maxHeartbeats 4000000 in
set_option maxRecDepth 100000 in
theorem w_M_fail (hx : p.tables.exec = Jvm.exec) (hb : c.code = prog_6_method_3_code) (hml : c.maxLocals = 2) (hown : s.vm.findClass kr_M = some m.cls) (hts : ∀ w ∈ lw_g, w.before args s = true) (hRf : 0 ≤ R.frames) (hRl : 0 ≤ R.locals) (hce : ce ≤ R.cells) (hsl : sl ≤ R.slots) (hA : ∀ x, s.heap.size ≤ x → A x) (hK : va_K D wk_cl (tysW cA) s) (x1 : Int32) (z : Sta) (K : Int32 → Sta → Prop) (h : wp_M_fail x1 z K) (hret : ∀ (r : Int32) (u : Sta) (H : Heap) (locs : List Loc) (pc : Nat) (ls : Array Slot), K r u → wk_S D q cA A s.heap u H locs → decode prog_6_method_3_code pc = .ok (.ireturn, 1) → W p l e R s m args below meth c H locs ce sl Q (F0 m pc ls [.int r])) {H : Heap} {locs : List Loc} {ls : Array Slot} (hV : wk_S D q cA A s.heap z H locs) (hl : lv_has ls 2 [(0, .ref (q 4)), (1, .int x1)]) : W p l e R s m args below meth c H locs ce sl Q (F0 m 0 ls []) := by
  unfold wp_M_fail at h
  refine lv_aload_n hx hb kd_prog_6_method_3_code_0 rfl (lv_at hl 0 rfl) ?_
  refine lv_iload_n hx hb kd_prog_6_method_3_code_1 rfl (lv_at hl 1 rfl) ?_
  refine wk_put (D := D) (ci := 4) (v := .int x1) (ty := .int) (C := kr_M) (T := kt_M) (N := kn_M) (z1 := zI z 7 x1) hx hb hts ki_M ky_M ko_M km_M hown hK hV 4 rfl rfl 0 (by decide) (hts _ hw_582) (fun _ h9 => h9) rfl (by decide +kernel) rfl rfl (Nat.le_of_ble_eq_true rfl) rfl kd_prog_6_method_3_code_2 (fun H locs hV => ?_)
  obtain ⟨z1, ez1⟩ : ∃ x : Sta, x = zI z 7 x1 := ⟨_, rfl⟩
  rw [← ez1] at hV
  have h := h z1 ez1
  refine lv_iconst (v := 0) hx hb kd_prog_6_method_3_code_5 (by decide) ?_
  exact hret 0 z1 H locs 6 ls h hV kd_prog_6_method_3_code_6
end
set_option maxHeartbeats 4000000 in
set_option maxRecDepth 100000 in
theorem c_M_fail (l : Launch) (D : va_G) (q : Nat → Nat) (cA : Nat → ClassId) (x1 : Int32) (z : Sta) (sz : Nat) (K : Int32 → Sta → Prop) (h : wp_M_fail x1 z K) : Met l ke_M_fail (kc_M_fail :: lw_g) { frames := 0, cells := 0, slots := 0, locals := 0 } (wk_Pc D q cA [.ref (q 4), .int x1] z sz) (va_Qi K (wk_B D q cA (va_A (wW q cA z) sz)) (va_A (wW q cA z) sz)) 0 0 (va_A (wW q cA z) sz) := by
  refine Met.ofW (cc := prog_6_method_3_code) (maxL := 2) (ret := (some .int)) (by decide) rfl ?_
  intro p e s m args below meth c s₁ B hml hv
  obtain ⟨rfl, hsz, hP, hK, hD0⟩ := hv
  have hx := B.exec
  have hb := B.bytes
  have hr := B.returns
  have hlocks := B.notSynchronized
  have hts0 := atoms_spec (ws := kc_M_fail :: lw_g) B.pre
  have hts : ∀ w ∈ lw_g, w.before ([.ref (q 4), .int x1] : List Value).toArray s = true := fun w hw => hts0 w (List.mem_cons_of_mem _ hw)
  have hown : s.vm.findClass kr_M = some m.cls := findClass_of_methodNamed B.named
  subst hsz
  have hD := hD0.self (sz := s.heap.size)
  generalize hAe : va_A (wW q cA z) s.heap.size = A at hD ⊢
  have hA : ∀ x : Nat, s.heap.size ≤ x → A x := fun x hx => by rw [← hAe]; exact Or.inr hx
  have hl := lv_entry ([.ref (q 4), .int x1]) (n := 2) (Nat.le_of_ble_eq_true rfl)
  rw [lg_entry_eq]
  generalize (lg_sl ([.ref (q 4), .int x1]) ++ List.replicate (2 - (lg_sl ([.ref (q 4), .int x1])).length) Slot.unset).toArray = ls at hl ⊢
  have hl : lv_has ls 2 [(0, .ref (q 4)), (1, .int x1)] := hl
  exact w_M_fail hx hb hml hown hts (Nat.le_refl _) (Nat.le_refl _) (Nat.zero_le _) (Nat.zero_le _) hA hK x1 z K h (fun r u H locs pc ls hk hV hd => W.iret hx hb hr (fun t ht hW => ⟨⟨r, u, rfl, hk, by rw [ht]; exact hV.1, va_K.moved hW.alike hK, hV.2.1⟩, hV.2.2.F ht⟩) hV.2.2.2.2 hd) ⟨hP, hD, va_S.rf⟩ hl
section
variable {p : Program} {l : Launch} {e : Env} {R : Room} {s : State} {m : MethodId} {args : Array Value} {below : List Frame} {meth : Method} {c : Code} {Q : State → Prop} {ce sl : Nat} {D : va_G} {q : Nat → Nat} {cA : Nat → ClassId} {A : Nat → Prop}
set_option maxHeartbeats 4000000 in
set_option maxRecDepth 100000 in
theorem w_M_within (hx : p.tables.exec = Jvm.exec) (hb : c.code = prog_6_method_4_code) (hml : c.maxLocals = 3) (hown : s.vm.findClass kr_M = some m.cls) (hts : ∀ w ∈ lw_g, w.before args s = true) (hRf : 0 ≤ R.frames) (hRl : 0 ≤ R.locals) (hce : ce ≤ R.cells) (hsl : sl ≤ R.slots) (hA : ∀ x, s.heap.size ≤ x → A x) (hK : va_K D wk_cl (tysW cA) s) (x0 : Int32) (x1 : Int32) (x2 : Int32) (z : Sta) (K : Int32 → Sta → Prop) (h : wp_M_within x0 x1 x2 z K) (hret : ∀ (r : Int32) (u : Sta) (H : Heap) (locs : List Loc) (pc : Nat) (ls : Array Slot), K r u → (r = 0 ∨ r = 1) → wk_S D q cA A s.heap u H locs → decode prog_6_method_4_code pc = .ok (.ireturn, 1) → W p l e R s m args below meth c H locs ce sl Q (F0 m pc ls [.int r])) {H : Heap} {locs : List Loc} {ls : Array Slot} (hV : wk_S D q cA A s.heap z H locs) (hl : lv_has ls 3 [(0, .int x0), (1, .int x1), (2, .int x2)]) : W p l e R s m args below meth c H locs ce sl Q (F0 m 0 ls []) := by
  have J15 : ∀ (y0 : Int32) (z : Sta) (H : Heap) (locs : List Loc) (ls : Array Slot), wk_S D q cA A s.heap z H locs → lv_has ls 3 [] → pj_M_within_15 K y0 z → W p l e R s m args below meth c H locs ce sl Q (F0 m 15 ls [.int y0]) := by
    intro y0 z H locs ls hV hl h
    unfold pj_M_within_15 at h
    obtain ⟨hz, h⟩ := h
    exact hret y0 z H locs 15 ls h hz hV kd_prog_6_method_4_code_15
  have J14 : ∀ (z : Sta) (H : Heap) (locs : List Loc) (ls : Array Slot), wk_S D q cA A s.heap z H locs → lv_has ls 3 [] → pj_M_within_14 K z → W p l e R s m args below meth c H locs ce sl Q (F0 m 14 ls []) := by
    intro z H locs ls hV hl h
    unfold pj_M_within_14 at h
    refine lv_iconst (v := 0) hx hb kd_prog_6_method_4_code_14 (by decide) ?_
    exact J15 0 z H locs ls hV (lv_sub hl [] rfl) h
  unfold wp_M_within at h
  refine lv_iload_n hx hb kd_prog_6_method_4_code_0 rfl (lv_at hl 0 rfl) ?_
  refine lv_iload_n hx hb kd_prog_6_method_4_code_1 rfl (lv_at hl 1 rfl) ?_
  refine lv_icmp_lt (tgt := 14) hx hb kd_prog_6_method_4_code_2 (by decide) (fun hc => ?_) (fun hc => ?_)
  · have h := h.1 hc
    exact J14 z H locs ls hV (lv_sub hl [] rfl) h
  · have h := h.2 hc
    refine lv_iload_n hx hb kd_prog_6_method_4_code_5 rfl (lv_at hl 0 rfl) ?_
    refine lv_iload_n hx hb kd_prog_6_method_4_code_6 rfl (lv_at hl 2 rfl) ?_
    refine lv_icmp_gt (tgt := 14) hx hb kd_prog_6_method_4_code_7 (by decide) (fun hc => ?_) (fun hc => ?_)
    · have h := h.1 hc
      exact J14 z H locs ls hV (lv_sub hl [] rfl) h
    · have h := h.2 hc
      refine lv_iconst (v := 1) hx hb kd_prog_6_method_4_code_10 (by decide) ?_
      refine lv_goto (tgt := 15) hx hb kd_prog_6_method_4_code_11 (by decide) ?_
      exact J15 1 z H locs ls hV (lv_sub hl [] rfl) h
end
set_option maxHeartbeats 4000000 in
set_option maxRecDepth 100000 in
theorem c_M_within (l : Launch) (D : va_G) (q : Nat → Nat) (cA : Nat → ClassId) (x0 : Int32) (x1 : Int32) (x2 : Int32) (z : Sta) (sz : Nat) (K : Int32 → Sta → Prop) (h : wp_M_within x0 x1 x2 z K) : Met l ke_M_within (kc_M_within :: lw_g) { frames := 0, cells := 0, slots := 0, locals := 0 } (wk_Pc D q cA [.int x0, .int x1, .int x2] z sz) (va_Qi K (wk_B D q cA (va_A (wW q cA z) sz)) (va_A (wW q cA z) sz)) 0 0 (va_A (wW q cA z) sz) := by
  refine Met.ofW (cc := prog_6_method_4_code) (maxL := 3) (ret := (some .boolean)) (by decide) rfl ?_
  intro p e s m args below meth c s₁ B hml hv
  obtain ⟨rfl, hsz, hP, hK, hD0⟩ := hv
  have hx := B.exec
  have hb := B.bytes
  have hr := B.returns
  have hlocks := B.notSynchronized
  have hts0 := atoms_spec (ws := kc_M_within :: lw_g) B.pre
  have hts : ∀ w ∈ lw_g, w.before ([.int x0, .int x1, .int x2] : List Value).toArray s = true := fun w hw => hts0 w (List.mem_cons_of_mem _ hw)
  have hown : s.vm.findClass kr_M = some m.cls := findClass_of_methodNamed B.named
  subst hsz
  have hD := hD0.self (sz := s.heap.size)
  generalize hAe : va_A (wW q cA z) s.heap.size = A at hD ⊢
  have hA : ∀ x : Nat, s.heap.size ≤ x → A x := fun x hx => by rw [← hAe]; exact Or.inr hx
  have hl := lv_entry ([.int x0, .int x1, .int x2]) (n := 3) (Nat.le_of_ble_eq_true rfl)
  rw [lg_entry_eq]
  generalize (lg_sl ([.int x0, .int x1, .int x2]) ++ List.replicate (3 - (lg_sl ([.int x0, .int x1, .int x2])).length) Slot.unset).toArray = ls at hl ⊢
  have hl : lv_has ls 3 [(0, .int x0), (1, .int x1), (2, .int x2)] := hl
  exact w_M_within hx hb hml hown hts (Nat.le_refl _) (Nat.le_refl _) (Nat.zero_le _) (Nat.zero_le _) hA hK x0 x1 x2 z K h (fun r u H locs pc ls hk hz hV hd => W.zret (ty := .boolean) hx hb hr (by rcases hz with rfl | rfl <;> rfl) (fun t ht hW => ⟨⟨r, u, rfl, hk, by rw [ht]; exact hV.1, va_K.moved hW.alike hK, hV.2.1⟩, hV.2.2.F ht⟩) hV.2.2.2.2 hd) ⟨hP, hD, va_S.rf⟩ hl
section
variable {p : Program} {l : Launch} {e : Env} {R : Room} {s : State} {m : MethodId} {args : Array Value} {below : List Frame} {meth : Method} {c : Code} {Q : State → Prop} {ce sl : Nat} {D : va_G} {q : Nat → Nat} {cA : Nat → ClassId} {A : Nat → Prop}
set_option maxHeartbeats 4000000 in
set_option maxRecDepth 100000 in
theorem w_M_block (hx : p.tables.exec = Jvm.exec) (hb : c.code = prog_6_method_5_code) (hml : c.maxLocals = 1) (hown : s.vm.findClass kr_M = some m.cls) (hts : ∀ w ∈ lw_g, w.before args s = true) (hRf : 1 ≤ R.frames) (hRl : 21 ≤ R.locals) (hce : ce ≤ R.cells) (hsl : sl ≤ R.slots) (hA : ∀ x, s.heap.size ≤ x → A x) (hK : va_K D wk_cl (tysW cA) s) (z : Sta) (K : Int32 → Sta → Prop) (h : wp_M_block z K) (hret : ∀ (r : Int32) (u : Sta) (H : Heap) (locs : List Loc) (pc : Nat) (ls : Array Slot), K r u → wk_S D q cA A s.heap u H locs → decode prog_6_method_5_code pc = .ok (.ireturn, 1) → W p l e R s m args below meth c H locs ce sl Q (F0 m pc ls [.int r])) {H : Heap} {locs : List Loc} {ls : Array Slot} (hV : wk_S D q cA A s.heap z H locs) (hl : lv_has ls 1 [(0, .ref (q 4))]) : W p l e R s m args below meth c H locs ce sl Q (F0 m 0 ls []) := by
  unfold wp_M_block at h
  refine lv_aload_n hx hb kd_prog_6_method_5_code_0 rfl (lv_at hl 0 rfl) ?_
  refine lv_iconst (v := 0) hx hb kd_prog_6_method_5_code_1 (by decide) ?_
  refine wk_put (D := D) (ci := 4) (v := .int (0 : Int32)) (ty := .int) (C := kr_M) (T := kt_M) (N := kn_M) (z1 := zI z 7 (0 : Int32)) hx hb hts ki_M ky_M ko_M km_M hown hK hV 4 rfl rfl 0 (by decide) (hts _ hw_582) (fun _ h9 => h9) rfl (by decide +kernel) rfl rfl (Nat.le_of_ble_eq_true rfl) rfl kd_prog_6_method_5_code_2 (fun H locs hV => ?_)
  obtain ⟨z1, ez1⟩ : ∃ x : Sta, x = zI z 7 (0 : Int32) := ⟨_, rfl⟩
  rw [← ez1] at hV
  have h := h z1 ez1
  refine lv_aload_n hx hb kd_prog_6_method_5_code_5 rfl (lv_at hl 0 rfl) ?_
  refine va_get (D := D) (ci := 4) (v := .int (z1.1 8)) (C := kr_M) (T := kt_M) (N := kn_M) hx hb hts ki_M hown hK hV.1 4 rfl rfl 1 (by decide) (hts _ hw_583) (fun _ h9 => h9) rfl kd_prog_6_method_5_code_6 ?_
  refine lv_topi (fun v2 ev2 => ?_)
  have h := h v2 ev2
  refine lv_bipush (v := 16) hx hb kd_prog_6_method_5_code_9 (by decide) ?_
  refine lv_icmp_ne (tgt := 20) hx hb kd_prog_6_method_5_code_11 (by decide) (fun hc => ?_) (fun hc => ?_)
  · have h := h.1 hc
    refine lv_aload_n hx hb kd_prog_6_method_5_code_20 rfl (lv_at hl 0 rfl) ?_
    refine va_get (D := D) (ci := 4) (v := .ref (q 30)) (C := kr_M) (T := kt_M) (N := kn_M) hx hb hts ki_M hown hK hV.1 4 rfl rfl 2 (by decide) (hts _ hw_584) (fun _ h9 => h9) rfl kd_prog_6_method_5_code_21 ?_
    refine lv_aload_n hx hb kd_prog_6_method_5_code_24 rfl (lv_at hl 0 rfl) ?_
    refine va_get (D := D) (ci := 4) (v := .int (z1.1 8)) (C := kr_M) (T := kt_M) (N := kn_M) hx hb hts ki_M hown hK hV.1 4 rfl rfl 1 (by decide) (hts _ hw_583) (fun _ h9 => h9) rfl kd_prog_6_method_5_code_25 ?_
    refine lv_topi (fun v3 ev3 => ?_)
    have h := h v3 ev3
    refine lv_iconst (v := 0) hx hb kd_prog_6_method_5_code_28 (by decide) ?_
    obtain ⟨hin, h⟩ := h
    refine wk_iast hx hb hK hV 30 25 15 rfl rfl (ks_30 q cA z1) hin kd_prog_6_method_5_code_29 (fun H locs hV => ?_)
    obtain ⟨z4, ez4⟩ : ∃ x : Sta, x = zA z1 15 (upd (z1.2.1 15) v3.toNatClampNeg (0 : Int32)) := ⟨_, rfl⟩
    rw [← ez4] at hV
    have h := h z4 ez4
    refine lv_aload_n hx hb kd_prog_6_method_5_code_30 rfl (lv_at hl 0 rfl) ?_
    refine va_get (D := D) (ci := 4) (v := .ref (q 32)) (C := kr_M) (T := kt_M) (N := kn_M) hx hb hts ki_M hown hK hV.1 4 rfl rfl 4 (by decide) (hts _ hw_586) (fun _ h9 => h9) rfl kd_prog_6_method_5_code_31 ?_
    refine lv_iconst (v := 4) hx hb kd_prog_6_method_5_code_34 (by decide) ?_
    refine lv_aload_n hx hb kd_prog_6_method_5_code_35 rfl (lv_at hl 0 rfl) ?_
    refine va_get (D := D) (ci := 4) (v := .int (z4.1 8)) (C := kr_M) (T := kt_M) (N := kn_M) hx hb hts ki_M hown hK hV.1 4 rfl rfl 1 (by decide) (hts _ hw_583) (fun _ h9 => h9) rfl kd_prog_6_method_5_code_36 ?_
    refine lv_topi (fun v5 ev5 => ?_)
    have h := h v5 ev5
    refine lv_imul hx hb kd_prog_6_method_5_code_39 ?_
    refine lv_topi (fun v6 ev6 => ?_)
    have h := h v6 ev6
    refine lv_iconst (v := 0) hx hb kd_prog_6_method_5_code_40 (by decide) ?_
    obtain ⟨hin, h⟩ := h
    refine wk_iast hx hb hK hV 32 27 17 rfl rfl (ks_32 q cA z4) hin kd_prog_6_method_5_code_41 (fun H locs hV => ?_)
    obtain ⟨z7, ez7⟩ : ∃ x : Sta, x = zA z4 17 (upd (z4.2.1 17) v6.toNatClampNeg (0 : Int32)) := ⟨_, rfl⟩
    rw [← ez7] at hV
    have h := h z7 ez7
    refine lv_aload_n hx hb kd_prog_6_method_5_code_42 rfl (lv_at hl 0 rfl) ?_
    refine lv_dup hx hb kd_prog_6_method_5_code_43 rfl ?_
    refine va_get (D := D) (ci := 4) (v := .int (z7.1 8)) (C := kr_M) (T := kt_M) (N := kn_M) hx hb hts ki_M hown hK hV.1 4 rfl rfl 1 (by decide) (hts _ hw_583) (fun _ h9 => h9) rfl kd_prog_6_method_5_code_44 ?_
    refine lv_topi (fun v8 ev8 => ?_)
    have h := h v8 ev8
    refine lv_iconst (v := 1) hx hb kd_prog_6_method_5_code_47 (by decide) ?_
    refine lv_iadd hx hb kd_prog_6_method_5_code_48 ?_
    refine lv_topi (fun v9 ev9 => ?_)
    have h := h v9 ev9
    refine wk_put (D := D) (ci := 4) (v := .int v9) (ty := .int) (C := kr_M) (T := kt_M) (N := kn_M) (z1 := zI z7 8 v9) hx hb hts ki_M ky_M ko_M km_M hown hK hV 4 rfl rfl 1 (by decide) (hts _ hw_583) (fun _ h9 => h9) rfl (by decide +kernel) rfl rfl (Nat.le_of_ble_eq_true rfl) rfl kd_prog_6_method_5_code_49 (fun H locs hV => ?_)
    obtain ⟨z10, ez10⟩ : ∃ x : Sta, x = zI z7 8 v9 := ⟨_, rfl⟩
    rw [← ez10] at hV
    have h := h z10 ez10
    refine lv_aload_n hx hb kd_prog_6_method_5_code_52 rfl (lv_at hl 0 rfl) ?_
    refine lv_iconst (v := 0) hx hb kd_prog_6_method_5_code_53 (by decide) ?_
    refine wk_put (D := D) (ci := 4) (v := .int (0 : Int32)) (ty := .boolean) (C := kr_M) (T := kt_M) (N := kn_M) (z1 := zI z10 10 (0 : Int32)) hx hb hts ki_M ky_M ko_M km_M hown hK hV 4 rfl rfl 9 (by decide) (hts _ hw_591) (fun _ h9 => h9) rfl (by decide +kernel) rfl rfl (Nat.le_of_ble_eq_true rfl) rfl kd_prog_6_method_5_code_54 (fun H locs hV => ?_)
    obtain ⟨z11, ez11⟩ : ∃ x : Sta, x = zI z10 10 (0 : Int32) := ⟨_, rfl⟩
    rw [← ez11] at hV
    have h := h z11 ez11
    refine lv_aload_n hx hb kd_prog_6_method_5_code_57 rfl (lv_at hl 0 rfl) ?_
    refine va_get (D := D) (ci := 4) (v := .int (z11.1 8)) (C := kr_M) (T := kt_M) (N := kn_M) hx hb hts ki_M hown hK hV.1 4 rfl rfl 1 (by decide) (hts _ hw_583) (fun _ h9 => h9) rfl kd_prog_6_method_5_code_58 ?_
    refine lv_topi (fun v12 ev12 => ?_)
    have h := h v12 ev12
    refine lv_iconst (v := 1) hx hb kd_prog_6_method_5_code_61 (by decide) ?_
    refine lv_isub hx hb kd_prog_6_method_5_code_62 ?_
    refine lv_topi (fun v13 ev13 => ?_)
    have h := h v13 ev13
    exact hret v13 z11 H locs 63 ls h hV kd_prog_6_method_5_code_63
  · have h := h.2 hc
    refine lv_aload_n hx hb kd_prog_6_method_5_code_14 rfl (lv_at hl 0 rfl) ?_
    refine lv_iconst (v := 1) hx hb kd_prog_6_method_5_code_15 (by decide) ?_
    refine wk_calli (va_runV (As := [.int (1 : Int32)]) (rest := []) ⟨hx, hb, hml, hown, hts⟩ (c_M_fail l D q cA 1 z1 H.size _ h) (cwV 1 hts gs_M_81 rfl rfl rfl (by decide +kernel) ⟨Nat.le_trans (by decide) hRf, Nat.le_trans (by decide) hRl⟩) (wk_preV hK hV 4 4 rfl rfl [.int (1 : Int32)]) rfl rfl hl.1 rfl (lv_room (Nat.le_of_ble_eq_true rfl)) kd_prog_6_method_5_code_16 ⟨hce, hsl⟩) hV hA (fun rz14 z14 H locs h hV => ?_)
    exact hret rz14 z14 H locs 19 ls h hV kd_prog_6_method_5_code_19
end
set_option maxHeartbeats 4000000 in
set_option maxRecDepth 100000 in
theorem c_M_block (l : Launch) (D : va_G) (q : Nat → Nat) (cA : Nat → ClassId) (z : Sta) (sz : Nat) (K : Int32 → Sta → Prop) (h : wp_M_block z K) : Met l ke_M_block (kc_M_block :: lw_g) { frames := 1, cells := 0, slots := 0, locals := 21 } (wk_Pc D q cA [.ref (q 4)] z sz) (va_Qi K (wk_B D q cA (va_A (wW q cA z) sz)) (va_A (wW q cA z) sz)) 0 0 (va_A (wW q cA z) sz) := by
  refine Met.ofW (cc := prog_6_method_5_code) (maxL := 1) (ret := (some .int)) (by decide) rfl ?_
  intro p e s m args below meth c s₁ B hml hv
  obtain ⟨rfl, hsz, hP, hK, hD0⟩ := hv
  have hx := B.exec
  have hb := B.bytes
  have hr := B.returns
  have hlocks := B.notSynchronized
  have hts0 := atoms_spec (ws := kc_M_block :: lw_g) B.pre
  have hts : ∀ w ∈ lw_g, w.before ([.ref (q 4)] : List Value).toArray s = true := fun w hw => hts0 w (List.mem_cons_of_mem _ hw)
  have hown : s.vm.findClass kr_M = some m.cls := findClass_of_methodNamed B.named
  subst hsz
  have hD := hD0.self (sz := s.heap.size)
  generalize hAe : va_A (wW q cA z) s.heap.size = A at hD ⊢
  have hA : ∀ x : Nat, s.heap.size ≤ x → A x := fun x hx => by rw [← hAe]; exact Or.inr hx
  have hl := lv_entry ([.ref (q 4)]) (n := 1) (Nat.le_of_ble_eq_true rfl)
  rw [lg_entry_eq]
  generalize (lg_sl ([.ref (q 4)]) ++ List.replicate (1 - (lg_sl ([.ref (q 4)])).length) Slot.unset).toArray = ls at hl ⊢
  have hl : lv_has ls 1 [(0, .ref (q 4))] := hl
  exact w_M_block hx hb hml hown hts (Nat.le_refl _) (Nat.le_refl _) (Nat.zero_le _) (Nat.zero_le _) hA hK z K h (fun r u H locs pc ls hk hV hd => W.iret hx hb hr (fun t ht hW => ⟨⟨r, u, rfl, hk, by rw [ht]; exact hV.1, va_K.moved hW.alike hK, hV.2.1⟩, hV.2.2.F ht⟩) hV.2.2.2.2 hd) ⟨hP, hD, va_S.rf⟩ hl
section
variable {p : Program} {l : Launch} {e : Env} {R : Room} {s : State} {m : MethodId} {args : Array Value} {below : List Frame} {meth : Method} {c : Code} {Q : State → Prop} {ce sl : Nat} {D : va_G} {q : Nat → Nat} {cA : Nat → ClassId} {A : Nat → Prop}
set_option maxHeartbeats 4000000 in
set_option maxRecDepth 100000 in
theorem w_M_find (hx : p.tables.exec = Jvm.exec) (hb : c.code = prog_6_method_6_code) (hml : c.maxLocals = 6) (hown : s.vm.findClass kr_M = some m.cls) (hts : ∀ w ∈ lw_g, w.before args s = true) (hRf : 0 ≤ R.frames) (hRl : 0 ≤ R.locals) (hce : ce ≤ R.cells) (hsl : sl ≤ R.slots) (hA : ∀ x, s.heap.size ≤ x → A x) (hK : va_K D wk_cl (tysW cA) s) (x1 : Int32) (x2 : Int32) (x3 : Int32) (z : Sta) (K : Int32 → Sta → Prop) (h : wp_M_find x1 x2 x3 z K) (hret : ∀ (r : Int32) (u : Sta) (H : Heap) (locs : List Loc) (pc : Nat) (ls : Array Slot), K r u → wk_S D q cA A s.heap u H locs → decode prog_6_method_6_code pc = .ok (.ireturn, 1) → W p l e R s m args below meth c H locs ce sl Q (F0 m pc ls [.int r])) {H : Heap} {locs : List Loc} {ls : Array Slot} (hV : wk_S D q cA A s.heap z H locs) (hl : lv_has ls 6 [(0, .ref (q 4)), (1, .int x1), (2, .int x2), (3, .int x3)]) : W p l e R s m args below meth c H locs ce sl Q (F0 m 0 ls []) := by
  have L6 : ∀ (n : Nat) (x1 : Int32) (x2 : Int32) (x3 : Int32) (x4 : Int32) (x5 : Int32) (z : Sta) (H : Heap) (locs : List Loc) (ls : Array Slot), wk_S D q cA A s.heap z H locs → lv_has ls 6 [(0, .ref (q 4)), (1, .int x1), (2, .int x2), (3, .int x3), (4, .int x4), (5, .int x5)] → lp_M_find_6 K n x1 x2 x3 x4 x5 z → W p l e R s m args below meth c H locs ce sl Q (F0 m 6 ls []) := by
    intro n6
    induction n6 with
    | zero => intro x1 x2 x3 x4 x5 z H locs ls hV hl h; rw [lp_M_find_6] at h; exact h.elim
    | succ n6 ih6 =>
      have J55 : ∀ (x1 : Int32) (x2 : Int32) (x3 : Int32) (x5 : Int32) (y0 : Int32) (z : Sta) (H : Heap) (locs : List Loc) (ls : Array Slot), wk_S D q cA A s.heap z H locs → lv_has ls 6 [(0, .ref (q 4)), (1, .int x1), (2, .int x2), (3, .int x3), (5, .int x5)] → pj_M_find_55 K (fun x1 x2 x3 x4 x5 z => lp_M_find_6 K n6 x1 x2 x3 x4 x5 z) x1 x2 x3 x5 y0 z → W p l e R s m args below meth c H locs ce sl Q (F0 m 55 ls [.int y0]) := by
        intro x1 x2 x3 x5 y0 z H locs ls hV hl h
        unfold pj_M_find_55 at h
        refine lv_istore hx hb kd_prog_6_method_6_code_55 hl (by decide) rfl (fun ls hl => ?_)
        have hl : lv_has ls 6 [(4, .int y0), (0, .ref (q 4)), (1, .int x1), (2, .int x2), (3, .int x3), (5, .int x5)] := hl
        obtain ⟨v5, ev5⟩ : ∃ v : Int32, v = x5 + 1 := ⟨_, rfl⟩
        have h := h v5 ev5
        refine lv_iinc (v := v5) (k := 5) hx hb kd_prog_6_method_6_code_57 hl rfl (by rw [ev5]; rfl) (by decide) rfl (fun ls hl => ?_)
        have hl : lv_has ls 6 [(5, .int v5), (4, .int y0), (0, .ref (q 4)), (1, .int x1), (2, .int x2), (3, .int x3)] := hl
        refine lv_goto (tgt := 6) hx hb kd_prog_6_method_6_code_60 (by decide) ?_
        exact ih6 x1 x2 x3 y0 v5 z H locs ls hV (lv_sub hl [2, 3, 4, 5, 1, 0] rfl) h
      have J53 : ∀ (x1 : Int32) (x2 : Int32) (x3 : Int32) (x4 : Int32) (x5 : Int32) (z : Sta) (H : Heap) (locs : List Loc) (ls : Array Slot), wk_S D q cA A s.heap z H locs → lv_has ls 6 [(0, .ref (q 4)), (1, .int x1), (2, .int x2), (3, .int x3), (4, .int x4), (5, .int x5)] → pj_M_find_53 K (fun x1 x2 x3 x4 x5 z => lp_M_find_6 K n6 x1 x2 x3 x4 x5 z) x1 x2 x3 x4 x5 z → W p l e R s m args below meth c H locs ce sl Q (F0 m 53 ls []) := by
        intro x1 x2 x3 x4 x5 z H locs ls hV hl h
        unfold pj_M_find_53 at h
        refine lv_iload hx hb kd_prog_6_method_6_code_53 (lv_at hl 4 rfl) ?_
        exact J55 x1 x2 x3 x5 x4 z H locs ls hV (lv_sub hl [0, 1, 2, 3, 5] rfl) h
      intro x1 x2 x3 x4 x5 z H locs ls hV hl h
      rw [lp_M_find_6] at h
      refine lv_iload hx hb kd_prog_6_method_6_code_6 (lv_at hl 5 rfl) ?_
      refine lv_aload_n hx hb kd_prog_6_method_6_code_8 rfl (lv_at hl 0 rfl) ?_
      refine va_get (D := D) (ci := 4) (v := .int (z.1 9)) (C := kr_M) (T := kt_M) (N := kn_M) hx hb hts ki_M hown hK hV.1 4 rfl rfl 5 (by decide) (hts _ hw_587) (fun _ h9 => h9) rfl kd_prog_6_method_6_code_9 ?_
      refine lv_topi (fun v1 ev1 => ?_)
      have h := h v1 ev1
      refine lv_icmp_ge (tgt := 63) hx hb kd_prog_6_method_6_code_12 (by decide) (fun hc => ?_) (fun hc => ?_)
      · have h := h.1 hc
        refine lv_iload hx hb kd_prog_6_method_6_code_63 (lv_at hl 4 rfl) ?_
        exact hret x4 z H locs 65 ls h hV kd_prog_6_method_6_code_65
      · have h := h.2 hc
        refine lv_aload_n hx hb kd_prog_6_method_6_code_15 rfl (lv_at hl 0 rfl) ?_
        refine va_get (D := D) (ci := 4) (v := .ref (q 33)) (C := kr_M) (T := kt_M) (N := kn_M) hx hb hts ki_M hown hK hV.1 4 rfl rfl 6 (by decide) (hts _ hw_588) (fun _ h9 => h9) rfl kd_prog_6_method_6_code_16 ?_
        refine lv_iload hx hb kd_prog_6_method_6_code_19 (lv_at hl 5 rfl) ?_
        obtain ⟨hin, h⟩ := h
        refine va_iald hx hb hK hV.1 33 28 rfl rfl hin kd_prog_6_method_6_code_21 ?_
        refine lv_topi (fun v2 ev2 => ?_)
        have h := h v2 ev2
        refine lv_iload_n hx hb kd_prog_6_method_6_code_22 rfl (lv_at hl 1 rfl) ?_
        refine lv_icmp_ne (tgt := 53) hx hb kd_prog_6_method_6_code_23 (by decide) (fun hc => ?_) (fun hc => ?_)
        · have h := h.1 hc
          exact J53 x1 x2 x3 x4 x5 z H locs ls hV (lv_sub hl [0, 1, 2, 3, 4, 5] rfl) h
        · have h := h.2 hc
          refine lv_aload_n hx hb kd_prog_6_method_6_code_26 rfl (lv_at hl 0 rfl) ?_
          refine va_get (D := D) (ci := 4) (v := .ref (q 34)) (C := kr_M) (T := kt_M) (N := kn_M) hx hb hts ki_M hown hK hV.1 4 rfl rfl 7 (by decide) (hts _ hw_589) (fun _ h9 => h9) rfl kd_prog_6_method_6_code_27 ?_
          refine lv_iload hx hb kd_prog_6_method_6_code_30 (lv_at hl 5 rfl) ?_
          obtain ⟨hin, h⟩ := h
          refine va_iald hx hb hK hV.1 34 29 rfl rfl hin kd_prog_6_method_6_code_32 ?_
          refine lv_topi (fun v3 ev3 => ?_)
          have h := h v3 ev3
          refine lv_iload_n hx hb kd_prog_6_method_6_code_33 rfl (lv_at hl 2 rfl) ?_
          refine lv_icmp_ne (tgt := 53) hx hb kd_prog_6_method_6_code_34 (by decide) (fun hc => ?_) (fun hc => ?_)
          · have h := h.1 hc
            exact J53 x1 x2 x3 x4 x5 z H locs ls hV (lv_sub hl [0, 1, 2, 3, 4, 5] rfl) h
          · have h := h.2 hc
            refine lv_aload_n hx hb kd_prog_6_method_6_code_37 rfl (lv_at hl 0 rfl) ?_
            refine va_get (D := D) (ci := 4) (v := .ref (q 35)) (C := kr_M) (T := kt_M) (N := kn_M) hx hb hts ki_M hown hK hV.1 4 rfl rfl 8 (by decide) (hts _ hw_590) (fun _ h9 => h9) rfl kd_prog_6_method_6_code_38 ?_
            refine lv_iload hx hb kd_prog_6_method_6_code_41 (lv_at hl 5 rfl) ?_
            obtain ⟨hin, h⟩ := h
            refine va_iald hx hb hK hV.1 35 30 rfl rfl hin kd_prog_6_method_6_code_43 ?_
            refine lv_topi (fun v4 ev4 => ?_)
            have h := h v4 ev4
            refine lv_iload_n hx hb kd_prog_6_method_6_code_44 rfl (lv_at hl 3 rfl) ?_
            refine lv_icmp_ne (tgt := 53) hx hb kd_prog_6_method_6_code_45 (by decide) (fun hc => ?_) (fun hc => ?_)
            · have h := h.1 hc
              exact J53 x1 x2 x3 x4 x5 z H locs ls hV (lv_sub hl [0, 1, 2, 3, 4, 5] rfl) h
            · have h := h.2 hc
              refine lv_iload hx hb kd_prog_6_method_6_code_48 (lv_at hl 5 rfl) ?_
              refine lv_goto (tgt := 55) hx hb kd_prog_6_method_6_code_50 (by decide) ?_
              exact J55 x1 x2 x3 x5 x5 z H locs ls hV (lv_sub hl [0, 1, 2, 3, 5] rfl) h
  unfold wp_M_find at h
  refine lv_iconst (v := (-1)) hx hb kd_prog_6_method_6_code_0 (by decide) ?_
  refine lv_istore hx hb kd_prog_6_method_6_code_1 hl (by decide) rfl (fun ls hl => ?_)
  have hl : lv_has ls 6 [(4, .int (-1)), (0, .ref (q 4)), (1, .int x1), (2, .int x2), (3, .int x3)] := hl
  refine lv_iconst (v := 0) hx hb kd_prog_6_method_6_code_3 (by decide) ?_
  refine lv_istore hx hb kd_prog_6_method_6_code_4 hl (by decide) rfl (fun ls hl => ?_)
  have hl : lv_has ls 6 [(5, .int 0), (4, .int (-1)), (0, .ref (q 4)), (1, .int x1), (2, .int x2), (3, .int x3)] := hl
  obtain ⟨n6, h⟩ := h
  exact L6 n6 x1 x2 x3 (-1) 0 z H locs ls hV (lv_sub hl [2, 3, 4, 5, 1, 0] rfl) h
end
set_option maxHeartbeats 4000000 in
set_option maxRecDepth 100000 in
theorem c_M_find (l : Launch) (D : va_G) (q : Nat → Nat) (cA : Nat → ClassId) (x1 : Int32) (x2 : Int32) (x3 : Int32) (z : Sta) (sz : Nat) (K : Int32 → Sta → Prop) (h : wp_M_find x1 x2 x3 z K) : Met l ke_M_find (kc_M_find :: lw_g) { frames := 0, cells := 0, slots := 0, locals := 0 } (wk_Pc D q cA [.ref (q 4), .int x1, .int x2, .int x3] z sz) (va_Qi K (wk_B D q cA (va_A (wW q cA z) sz)) (va_A (wW q cA z) sz)) 0 0 (va_A (wW q cA z) sz) := by
  refine Met.ofW (cc := prog_6_method_6_code) (maxL := 6) (ret := (some .int)) (by decide) rfl ?_
  intro p e s m args below meth c s₁ B hml hv
  obtain ⟨rfl, hsz, hP, hK, hD0⟩ := hv
  have hx := B.exec
  have hb := B.bytes
  have hr := B.returns
  have hlocks := B.notSynchronized
  have hts0 := atoms_spec (ws := kc_M_find :: lw_g) B.pre
  have hts : ∀ w ∈ lw_g, w.before ([.ref (q 4), .int x1, .int x2, .int x3] : List Value).toArray s = true := fun w hw => hts0 w (List.mem_cons_of_mem _ hw)
  have hown : s.vm.findClass kr_M = some m.cls := findClass_of_methodNamed B.named
  subst hsz
  have hD := hD0.self (sz := s.heap.size)
  generalize hAe : va_A (wW q cA z) s.heap.size = A at hD ⊢
  have hA : ∀ x : Nat, s.heap.size ≤ x → A x := fun x hx => by rw [← hAe]; exact Or.inr hx
  have hl := lv_entry ([.ref (q 4), .int x1, .int x2, .int x3]) (n := 6) (Nat.le_of_ble_eq_true rfl)
  rw [lg_entry_eq]
  generalize (lg_sl ([.ref (q 4), .int x1, .int x2, .int x3]) ++ List.replicate (6 - (lg_sl ([.ref (q 4), .int x1, .int x2, .int x3])).length) Slot.unset).toArray = ls at hl ⊢
  have hl : lv_has ls 6 [(0, .ref (q 4)), (1, .int x1), (2, .int x2), (3, .int x3)] := hl
  exact w_M_find hx hb hml hown hts (Nat.le_refl _) (Nat.le_refl _) (Nat.zero_le _) (Nat.zero_le _) hA hK x1 x2 x3 z K h (fun r u H locs pc ls hk hV hd => W.iret hx hb hr (fun t ht hW => ⟨⟨r, u, rfl, hk, by rw [ht]; exact hV.1, va_K.moved hW.alike hK, hV.2.1⟩, hV.2.2.F ht⟩) hV.2.2.2.2 hd) ⟨hP, hD, va_S.rf⟩ hl
section
variable {p : Program} {l : Launch} {e : Env} {R : Room} {s : State} {m : MethodId} {args : Array Value} {below : List Frame} {meth : Method} {c : Code} {Q : State → Prop} {ce sl : Nat} {D : va_G} {q : Nat → Nat} {cA : Nat → ClassId} {A : Nat → Prop}
set_option maxHeartbeats 4000000 in
set_option maxRecDepth 100000 in
theorem w_M_statement (hx : p.tables.exec = Jvm.exec) (hb : c.code = prog_6_method_7_code) (hml : c.maxLocals = 9) (hown : s.vm.findClass kr_M = some m.cls) (hts : ∀ w ∈ lw_g, w.before args s = true) (hRf : 1 ≤ R.frames) (hRl : 25 ≤ R.locals) (hce : ce ≤ R.cells) (hsl : sl ≤ R.slots) (hA : ∀ x, s.heap.size ≤ x → A x) (hK : va_K D wk_cl (tysW cA) s) (x1 : Int32) (x2 : Int32) (x3 : Int32) (x4 : Int32) (x5 : Int32) (z : Sta) (K : Int32 → Sta → Prop) (h : wp_M_statement x1 x2 x3 x4 x5 z K) (hret : ∀ (r : Int32) (u : Sta) (H : Heap) (locs : List Loc) (pc : Nat) (ls : Array Slot), K r u → wk_S D q cA A s.heap u H locs → decode prog_6_method_7_code pc = .ok (.ireturn, 1) → W p l e R s m args below meth c H locs ce sl Q (F0 m pc ls [.int r])) {H : Heap} {locs : List Loc} {ls : Array Slot} (hV : wk_S D q cA A s.heap z H locs) (hl : lv_has ls 9 [(0, .ref (q 4)), (1, .int x1), (2, .int x2), (3, .int x3), (4, .int x4), (5, .int x5)]) : W p l e R s m args below meth c H locs ce sl Q (F0 m 0 ls []) := by
  have J233 : ∀ (x1 : Int32) (x2 : Int32) (x3 : Int32) (x4 : Int32) (x5 : Int32) (x7 : Int32) (z : Sta) (H : Heap) (locs : List Loc) (ls : Array Slot), wk_S D q cA A s.heap z H locs → lv_has ls 9 [(0, .ref (q 4)), (1, .int x1), (2, .int x2), (3, .int x3), (4, .int x4), (5, .int x5), (7, .int x7)] → pj_M_statement_233 K x1 x2 x3 x4 x5 x7 z → W p l e R s m args below meth c H locs ce sl Q (F0 m 233 ls []) := by
    intro x1 x2 x3 x4 x5 x7 z H locs ls hV hl h
    unfold pj_M_statement_233 at h
    refine lv_bipush (v := 30) hx hb kd_prog_6_method_7_code_233 (by decide) ?_
    refine lv_aload_n hx hb kd_prog_6_method_7_code_235 rfl (lv_at hl 0 rfl) ?_
    refine va_get (D := D) (ci := 4) (v := .int (z.1 8)) (C := kr_M) (T := kt_M) (N := kn_M) hx hb hts ki_M hown hK hV.1 4 rfl rfl 1 (by decide) (hts _ hw_583) (fun _ h9 => h9) rfl kd_prog_6_method_7_code_236 ?_
    refine lv_topi (fun v24 ev24 => ?_)
    have h := h v24 ev24
    refine lv_iconst (v := 1) hx hb kd_prog_6_method_7_code_239 (by decide) ?_
    refine lv_isub hx hb kd_prog_6_method_7_code_240 ?_
    refine lv_topi (fun v25 ev25 => ?_)
    have h := h v25 ev25
    refine lv_imul hx hb kd_prog_6_method_7_code_241 ?_
    refine lv_topi (fun v26 ev26 => ?_)
    have h := h v26 ev26
    refine lv_bipush (v := 6) hx hb kd_prog_6_method_7_code_242 (by decide) ?_
    refine lv_aload_n hx hb kd_prog_6_method_7_code_244 rfl (lv_at hl 0 rfl) ?_
    refine va_get (D := D) (ci := 4) (v := .ref (q 30)) (C := kr_M) (T := kt_M) (N := kn_M) hx hb hts ki_M hown hK hV.1 4 rfl rfl 2 (by decide) (hts _ hw_584) (fun _ h9 => h9) rfl kd_prog_6_method_7_code_245 ?_
    refine lv_aload_n hx hb kd_prog_6_method_7_code_248 rfl (lv_at hl 0 rfl) ?_
    refine va_get (D := D) (ci := 4) (v := .int (z.1 8)) (C := kr_M) (T := kt_M) (N := kn_M) hx hb hts ki_M hown hK hV.1 4 rfl rfl 1 (by decide) (hts _ hw_583) (fun _ h9 => h9) rfl kd_prog_6_method_7_code_249 ?_
    refine lv_topi (fun v27 ev27 => ?_)
    have h := h v27 ev27
    refine lv_iconst (v := 1) hx hb kd_prog_6_method_7_code_252 (by decide) ?_
    refine lv_isub hx hb kd_prog_6_method_7_code_253 ?_
    refine lv_topi (fun v28 ev28 => ?_)
    have h := h v28 ev28
    obtain ⟨hin, h⟩ := h
    refine va_iald hx hb hK hV.1 30 25 rfl rfl hin kd_prog_6_method_7_code_254 ?_
    refine lv_topi (fun v29 ev29 => ?_)
    have h := h v29 ev29
    refine lv_imul hx hb kd_prog_6_method_7_code_255 ?_
    refine lv_topi (fun v30 ev30 => ?_)
    have h := h v30 ev30
    refine lv_iadd hx hb kd_prog_6_method_7_code_256 ?_
    refine lv_topi (fun v31 ev31 => ?_)
    have h := h v31 ev31
    refine lv_istore hx hb kd_prog_6_method_7_code_257 hl (by decide) rfl (fun ls hl => ?_)
    have hl : lv_has ls 9 [(8, .int v31), (0, .ref (q 4)), (1, .int x1), (2, .int x2), (3, .int x3), (4, .int x4), (5, .int x5), (7, .int x7)] := hl
    refine lv_aload_n hx hb kd_prog_6_method_7_code_259 rfl (lv_at hl 1 rfl) ?_
    refine va_get (D := D) (ci := 4) (v := .ref (q 31)) (C := kr_M) (T := kt_M) (N := kn_M) hx hb hts ki_M hown hK hV.1 4 rfl rfl 3 (by decide) (hts _ hw_585) (fun _ h9 => h9) rfl kd_prog_6_method_7_code_260 ?_
    refine lv_iload hx hb kd_prog_6_method_7_code_263 (lv_at hl 0 rfl) ?_
    refine lv_iload_n hx hb kd_prog_6_method_7_code_265 rfl (lv_at hl 2 rfl) ?_
    obtain ⟨hin, h⟩ := h
    refine wk_iast hx hb hK hV 31 26 16 rfl rfl (ks_31 q cA z) hin kd_prog_6_method_7_code_266 (fun H locs hV => ?_)
    obtain ⟨z32, ez32⟩ : ∃ x : Sta, x = zA z 16 (upd (z.2.1 16) v31.toNatClampNeg x1) := ⟨_, rfl⟩
    rw [← ez32] at hV
    have h := h z32 ez32
    refine lv_aload_n hx hb kd_prog_6_method_7_code_267 rfl (lv_at hl 1 rfl) ?_
    refine va_get (D := D) (ci := 4) (v := .ref (q 31)) (C := kr_M) (T := kt_M) (N := kn_M) hx hb hts ki_M hown hK hV.1 4 rfl rfl 3 (by decide) (hts _ hw_585) (fun _ h9 => h9) rfl kd_prog_6_method_7_code_268 ?_
    refine lv_iload hx hb kd_prog_6_method_7_code_271 (lv_at hl 0 rfl) ?_
    refine lv_iconst (v := 1) hx hb kd_prog_6_method_7_code_273 (by decide) ?_
    refine lv_iadd hx hb kd_prog_6_method_7_code_274 ?_
    refine lv_topi (fun v33 ev33 => ?_)
    have h := h v33 ev33
    refine lv_iload_n hx hb kd_prog_6_method_7_code_275 rfl (lv_at hl 3 rfl) ?_
    obtain ⟨hin, h⟩ := h
    refine wk_iast hx hb hK hV 31 26 16 rfl rfl (ks_31 q cA z32) hin kd_prog_6_method_7_code_276 (fun H locs hV => ?_)
    obtain ⟨z34, ez34⟩ : ∃ x : Sta, x = zA z32 16 (upd (z32.2.1 16) v33.toNatClampNeg x2) := ⟨_, rfl⟩
    rw [← ez34] at hV
    have h := h z34 ez34
    refine lv_aload_n hx hb kd_prog_6_method_7_code_277 rfl (lv_at hl 1 rfl) ?_
    refine va_get (D := D) (ci := 4) (v := .ref (q 31)) (C := kr_M) (T := kt_M) (N := kn_M) hx hb hts ki_M hown hK hV.1 4 rfl rfl 3 (by decide) (hts _ hw_585) (fun _ h9 => h9) rfl kd_prog_6_method_7_code_278 ?_
    refine lv_iload hx hb kd_prog_6_method_7_code_281 (lv_at hl 0 rfl) ?_
    refine lv_iconst (v := 2) hx hb kd_prog_6_method_7_code_283 (by decide) ?_
    refine lv_iadd hx hb kd_prog_6_method_7_code_284 ?_
    refine lv_topi (fun v35 ev35 => ?_)
    have h := h v35 ev35
    refine lv_iload_n hx hb kd_prog_6_method_7_code_285 rfl (lv_at hl 4 rfl) ?_
    obtain ⟨hin, h⟩ := h
    refine wk_iast hx hb hK hV 31 26 16 rfl rfl (ks_31 q cA z34) hin kd_prog_6_method_7_code_286 (fun H locs hV => ?_)
    obtain ⟨z36, ez36⟩ : ∃ x : Sta, x = zA z34 16 (upd (z34.2.1 16) v35.toNatClampNeg x3) := ⟨_, rfl⟩
    rw [← ez36] at hV
    have h := h z36 ez36
    refine lv_aload_n hx hb kd_prog_6_method_7_code_287 rfl (lv_at hl 1 rfl) ?_
    refine va_get (D := D) (ci := 4) (v := .ref (q 31)) (C := kr_M) (T := kt_M) (N := kn_M) hx hb hts ki_M hown hK hV.1 4 rfl rfl 3 (by decide) (hts _ hw_585) (fun _ h9 => h9) rfl kd_prog_6_method_7_code_288 ?_
    refine lv_iload hx hb kd_prog_6_method_7_code_291 (lv_at hl 0 rfl) ?_
    refine lv_iconst (v := 3) hx hb kd_prog_6_method_7_code_293 (by decide) ?_
    refine lv_iadd hx hb kd_prog_6_method_7_code_294 ?_
    refine lv_topi (fun v37 ev37 => ?_)
    have h := h v37 ev37
    refine lv_iload hx hb kd_prog_6_method_7_code_295 (lv_at hl 5 rfl) ?_
    obtain ⟨hin, h⟩ := h
    refine wk_iast hx hb hK hV 31 26 16 rfl rfl (ks_31 q cA z36) hin kd_prog_6_method_7_code_297 (fun H locs hV => ?_)
    obtain ⟨z38, ez38⟩ : ∃ x : Sta, x = zA z36 16 (upd (z36.2.1 16) v37.toNatClampNeg x4) := ⟨_, rfl⟩
    rw [← ez38] at hV
    have h := h z38 ez38
    refine lv_aload_n hx hb kd_prog_6_method_7_code_298 rfl (lv_at hl 1 rfl) ?_
    refine va_get (D := D) (ci := 4) (v := .ref (q 31)) (C := kr_M) (T := kt_M) (N := kn_M) hx hb hts ki_M hown hK hV.1 4 rfl rfl 3 (by decide) (hts _ hw_585) (fun _ h9 => h9) rfl kd_prog_6_method_7_code_299 ?_
    refine lv_iload hx hb kd_prog_6_method_7_code_302 (lv_at hl 0 rfl) ?_
    refine lv_iconst (v := 4) hx hb kd_prog_6_method_7_code_304 (by decide) ?_
    refine lv_iadd hx hb kd_prog_6_method_7_code_305 ?_
    refine lv_topi (fun v39 ev39 => ?_)
    have h := h v39 ev39
    refine lv_iload hx hb kd_prog_6_method_7_code_306 (lv_at hl 6 rfl) ?_
    obtain ⟨hin, h⟩ := h
    refine wk_iast hx hb hK hV 31 26 16 rfl rfl (ks_31 q cA z38) hin kd_prog_6_method_7_code_308 (fun H locs hV => ?_)
    obtain ⟨z40, ez40⟩ : ∃ x : Sta, x = zA z38 16 (upd (z38.2.1 16) v39.toNatClampNeg x5) := ⟨_, rfl⟩
    rw [← ez40] at hV
    have h := h z40 ez40
    refine lv_aload_n hx hb kd_prog_6_method_7_code_309 rfl (lv_at hl 1 rfl) ?_
    refine va_get (D := D) (ci := 4) (v := .ref (q 31)) (C := kr_M) (T := kt_M) (N := kn_M) hx hb hts ki_M hown hK hV.1 4 rfl rfl 3 (by decide) (hts _ hw_585) (fun _ h9 => h9) rfl kd_prog_6_method_7_code_310 ?_
    refine lv_iload hx hb kd_prog_6_method_7_code_313 (lv_at hl 0 rfl) ?_
    refine lv_iconst (v := 5) hx hb kd_prog_6_method_7_code_315 (by decide) ?_
    refine lv_iadd hx hb kd_prog_6_method_7_code_316 ?_
    refine lv_topi (fun v41 ev41 => ?_)
    have h := h v41 ev41
    refine lv_iload hx hb kd_prog_6_method_7_code_317 (lv_at hl 7 rfl) ?_
    obtain ⟨hin, h⟩ := h
    refine wk_iast hx hb hK hV 31 26 16 rfl rfl (ks_31 q cA z40) hin kd_prog_6_method_7_code_319 (fun H locs hV => ?_)
    obtain ⟨z42, ez42⟩ : ∃ x : Sta, x = zA z40 16 (upd (z40.2.1 16) v41.toNatClampNeg x7) := ⟨_, rfl⟩
    rw [← ez42] at hV
    have h := h z42 ez42
    refine lv_aload_n hx hb kd_prog_6_method_7_code_320 rfl (lv_at hl 1 rfl) ?_
    refine va_get (D := D) (ci := 4) (v := .ref (q 30)) (C := kr_M) (T := kt_M) (N := kn_M) hx hb hts ki_M hown hK hV.1 4 rfl rfl 2 (by decide) (hts _ hw_584) (fun _ h9 => h9) rfl kd_prog_6_method_7_code_321 ?_
    refine lv_aload_n hx hb kd_prog_6_method_7_code_324 rfl (lv_at hl 1 rfl) ?_
    refine va_get (D := D) (ci := 4) (v := .int (z42.1 8)) (C := kr_M) (T := kt_M) (N := kn_M) hx hb hts ki_M hown hK hV.1 4 rfl rfl 1 (by decide) (hts _ hw_583) (fun _ h9 => h9) rfl kd_prog_6_method_7_code_325 ?_
    refine lv_topi (fun v43 ev43 => ?_)
    have h := h v43 ev43
    refine lv_iconst (v := 1) hx hb kd_prog_6_method_7_code_328 (by decide) ?_
    refine lv_isub hx hb kd_prog_6_method_7_code_329 ?_
    refine lv_topi (fun v44 ev44 => ?_)
    have h := h v44 ev44
    refine lv_dup2_11 hx hb kd_prog_6_method_7_code_330 rfl rfl ?_
    obtain ⟨hin, h⟩ := h
    refine va_iald hx hb hK hV.1 30 25 rfl rfl hin kd_prog_6_method_7_code_331 ?_
    refine lv_topi (fun v45 ev45 => ?_)
    have h := h v45 ev45
    refine lv_iconst (v := 1) hx hb kd_prog_6_method_7_code_332 (by decide) ?_
    refine lv_iadd hx hb kd_prog_6_method_7_code_333 ?_
    refine lv_topi (fun v46 ev46 => ?_)
    have h := h v46 ev46
    obtain ⟨hin, h⟩ := h
    refine wk_iast hx hb hK hV 30 25 15 rfl rfl (ks_30 q cA z42) hin kd_prog_6_method_7_code_334 (fun H locs hV => ?_)
    obtain ⟨z47, ez47⟩ : ∃ x : Sta, x = zA z42 15 (upd (z42.2.1 15) v44.toNatClampNeg v46) := ⟨_, rfl⟩
    rw [← ez47] at hV
    have h := h z47 ez47
    refine lv_aload_n hx hb kd_prog_6_method_7_code_335 rfl (lv_at hl 1 rfl) ?_
    refine lv_iconst (v := 0) hx hb kd_prog_6_method_7_code_336 (by decide) ?_
    refine wk_put (D := D) (ci := 4) (v := .int (0 : Int32)) (ty := .boolean) (C := kr_M) (T := kt_M) (N := kn_M) (z1 := zI z47 10 (0 : Int32)) hx hb hts ki_M ky_M ko_M km_M hown hK hV 4 rfl rfl 9 (by decide) (hts _ hw_591) (fun _ h9 => h9) rfl (by decide +kernel) rfl rfl (Nat.le_of_ble_eq_true rfl) rfl kd_prog_6_method_7_code_337 (fun H locs hV => ?_)
    obtain ⟨z48, ez48⟩ : ∃ x : Sta, x = zI z47 10 (0 : Int32) := ⟨_, rfl⟩
    rw [← ez48] at hV
    have h := h z48 ez48
    refine lv_aload_n hx hb kd_prog_6_method_7_code_340 rfl (lv_at hl 1 rfl) ?_
    refine va_get (D := D) (ci := 4) (v := .ref (q 30)) (C := kr_M) (T := kt_M) (N := kn_M) hx hb hts ki_M hown hK hV.1 4 rfl rfl 2 (by decide) (hts _ hw_584) (fun _ h9 => h9) rfl kd_prog_6_method_7_code_341 ?_
    refine lv_aload_n hx hb kd_prog_6_method_7_code_344 rfl (lv_at hl 1 rfl) ?_
    refine va_get (D := D) (ci := 4) (v := .int (z48.1 8)) (C := kr_M) (T := kt_M) (N := kn_M) hx hb hts ki_M hown hK hV.1 4 rfl rfl 1 (by decide) (hts _ hw_583) (fun _ h9 => h9) rfl kd_prog_6_method_7_code_345 ?_
    refine lv_topi (fun v49 ev49 => ?_)
    have h := h v49 ev49
    refine lv_iconst (v := 1) hx hb kd_prog_6_method_7_code_348 (by decide) ?_
    refine lv_isub hx hb kd_prog_6_method_7_code_349 ?_
    refine lv_topi (fun v50 ev50 => ?_)
    have h := h v50 ev50
    obtain ⟨hin, h⟩ := h
    refine va_iald hx hb hK hV.1 30 25 rfl rfl hin kd_prog_6_method_7_code_350 ?_
    refine lv_topi (fun v51 ev51 => ?_)
    have h := h v51 ev51
    exact hret v51 z48 H locs 351 ls h hV kd_prog_6_method_7_code_351
  have J164 : ∀ (x1 : Int32) (x2 : Int32) (x3 : Int32) (x4 : Int32) (x5 : Int32) (y0 : Int32) (z : Sta) (H : Heap) (locs : List Loc) (ls : Array Slot), wk_S D q cA A s.heap z H locs → lv_has ls 9 [(0, .ref (q 4)), (1, .int x1), (2, .int x2), (3, .int x3), (4, .int x4), (5, .int x5)] → pj_M_statement_164 K x1 x2 x3 x4 x5 y0 z → W p l e R s m args below meth c H locs ce sl Q (F0 m 164 ls [.int y0]) := by
    intro x1 x2 x3 x4 x5 y0 z H locs ls hV hl h
    unfold pj_M_statement_164 at h
    refine lv_istore hx hb kd_prog_6_method_7_code_164 hl (by decide) rfl (fun ls hl => ?_)
    have hl : lv_has ls 9 [(7, .int y0), (0, .ref (q 4)), (1, .int x1), (2, .int x2), (3, .int x3), (4, .int x4), (5, .int x5)] := hl
    refine lv_iload_n hx hb kd_prog_6_method_7_code_166 rfl (lv_at hl 2 rfl) ?_
    refine lv_iconst (v := 2) hx hb kd_prog_6_method_7_code_167 (by decide) ?_
    refine lv_icmp_ne (tgt := 233) hx hb kd_prog_6_method_7_code_168 (by decide) (fun hc => ?_) (fun hc => ?_)
    · have h := h.1 hc
      exact J233 x1 x2 x3 x4 x5 y0 z H locs ls hV (lv_sub hl [1, 2, 3, 4, 5, 6, 0] rfl) h
    · have h := h.2 hc
      refine lv_iload hx hb kd_prog_6_method_7_code_171 (lv_at hl 0 rfl) ?_
      refine lv_if_ge (tgt := 233) hx hb kd_prog_6_method_7_code_173 (by decide) (fun hc => ?_) (fun hc => ?_)
      · have h := h.1 hc
        exact J233 x1 x2 x3 x4 x5 y0 z H locs ls hV (lv_sub hl [1, 2, 3, 4, 5, 6, 0] rfl) h
      · have h := h.2 hc
        refine lv_aload_n hx hb kd_prog_6_method_7_code_176 rfl (lv_at hl 1 rfl) ?_
        refine va_get (D := D) (ci := 4) (v := .int (z.1 9)) (C := kr_M) (T := kt_M) (N := kn_M) hx hb hts ki_M hown hK hV.1 4 rfl rfl 5 (by decide) (hts _ hw_587) (fun _ h9 => h9) rfl kd_prog_6_method_7_code_177 ?_
        refine lv_topi (fun v15 ev15 => ?_)
        have h := h v15 ev15
        refine lv_bipush (v := 24) hx hb kd_prog_6_method_7_code_180 (by decide) ?_
        refine lv_icmp_ne (tgt := 191) hx hb kd_prog_6_method_7_code_182 (by decide) (fun hc => ?_) (fun hc => ?_)
        · have h := h.1 hc
          refine lv_aload_n hx hb kd_prog_6_method_7_code_191 rfl (lv_at hl 1 rfl) ?_
          refine va_get (D := D) (ci := 4) (v := .int (z.1 9)) (C := kr_M) (T := kt_M) (N := kn_M) hx hb hts ki_M hown hK hV.1 4 rfl rfl 5 (by decide) (hts _ hw_587) (fun _ h9 => h9) rfl kd_prog_6_method_7_code_192 ?_
          refine lv_topi (fun v16 ev16 => ?_)
          have h := h v16 ev16
          refine lv_istore hx hb kd_prog_6_method_7_code_195 hl (by decide) rfl (fun ls hl => ?_)
          have hl : lv_has ls 9 [(7, .int v16), (0, .ref (q 4)), (1, .int x1), (2, .int x2), (3, .int x3), (4, .int x4), (5, .int x5)] := hl
          refine lv_aload_n hx hb kd_prog_6_method_7_code_197 rfl (lv_at hl 1 rfl) ?_
          refine va_get (D := D) (ci := 4) (v := .ref (q 33)) (C := kr_M) (T := kt_M) (N := kn_M) hx hb hts ki_M hown hK hV.1 4 rfl rfl 6 (by decide) (hts _ hw_588) (fun _ h9 => h9) rfl kd_prog_6_method_7_code_198 ?_
          refine lv_iload hx hb kd_prog_6_method_7_code_201 (lv_at hl 0 rfl) ?_
          refine lv_iload_n hx hb kd_prog_6_method_7_code_203 rfl (lv_at hl 4 rfl) ?_
          obtain ⟨hin, h⟩ := h
          refine wk_iast hx hb hK hV 33 28 18 rfl rfl (ks_33 q cA z) hin kd_prog_6_method_7_code_204 (fun H locs hV => ?_)
          obtain ⟨z17, ez17⟩ : ∃ x : Sta, x = zA z 18 (upd (z.2.1 18) v16.toNatClampNeg x3) := ⟨_, rfl⟩
          rw [← ez17] at hV
          have h := h z17 ez17
          refine lv_aload_n hx hb kd_prog_6_method_7_code_205 rfl (lv_at hl 1 rfl) ?_
          refine va_get (D := D) (ci := 4) (v := .ref (q 34)) (C := kr_M) (T := kt_M) (N := kn_M) hx hb hts ki_M hown hK hV.1 4 rfl rfl 7 (by decide) (hts _ hw_589) (fun _ h9 => h9) rfl kd_prog_6_method_7_code_206 ?_
          refine lv_iload hx hb kd_prog_6_method_7_code_209 (lv_at hl 0 rfl) ?_
          refine lv_iload hx hb kd_prog_6_method_7_code_211 (lv_at hl 5 rfl) ?_
          obtain ⟨hin, h⟩ := h
          refine wk_iast hx hb hK hV 34 29 19 rfl rfl (ks_34 q cA z17) hin kd_prog_6_method_7_code_213 (fun H locs hV => ?_)
          obtain ⟨z18, ez18⟩ : ∃ x : Sta, x = zA z17 19 (upd (z17.2.1 19) v16.toNatClampNeg x4) := ⟨_, rfl⟩
          rw [← ez18] at hV
          have h := h z18 ez18
          refine lv_aload_n hx hb kd_prog_6_method_7_code_214 rfl (lv_at hl 1 rfl) ?_
          refine va_get (D := D) (ci := 4) (v := .ref (q 35)) (C := kr_M) (T := kt_M) (N := kn_M) hx hb hts ki_M hown hK hV.1 4 rfl rfl 8 (by decide) (hts _ hw_590) (fun _ h9 => h9) rfl kd_prog_6_method_7_code_215 ?_
          refine lv_iload hx hb kd_prog_6_method_7_code_218 (lv_at hl 0 rfl) ?_
          refine lv_iload hx hb kd_prog_6_method_7_code_220 (lv_at hl 6 rfl) ?_
          obtain ⟨hin, h⟩ := h
          refine wk_iast hx hb hK hV 35 30 20 rfl rfl (ks_35 q cA z18) hin kd_prog_6_method_7_code_222 (fun H locs hV => ?_)
          obtain ⟨z19, ez19⟩ : ∃ x : Sta, x = zA z18 20 (upd (z18.2.1 20) v16.toNatClampNeg x5) := ⟨_, rfl⟩
          rw [← ez19] at hV
          have h := h z19 ez19
          refine lv_aload_n hx hb kd_prog_6_method_7_code_223 rfl (lv_at hl 1 rfl) ?_
          refine lv_dup hx hb kd_prog_6_method_7_code_224 rfl ?_
          refine va_get (D := D) (ci := 4) (v := .int (z19.1 9)) (C := kr_M) (T := kt_M) (N := kn_M) hx hb hts ki_M hown hK hV.1 4 rfl rfl 5 (by decide) (hts _ hw_587) (fun _ h9 => h9) rfl kd_prog_6_method_7_code_225 ?_
          refine lv_topi (fun v20 ev20 => ?_)
          have h := h v20 ev20
          refine lv_iconst (v := 1) hx hb kd_prog_6_method_7_code_228 (by decide) ?_
          refine lv_iadd hx hb kd_prog_6_method_7_code_229 ?_
          refine lv_topi (fun v21 ev21 => ?_)
          have h := h v21 ev21
          refine wk_put (D := D) (ci := 4) (v := .int v21) (ty := .int) (C := kr_M) (T := kt_M) (N := kn_M) (z1 := zI z19 9 v21) hx hb hts ki_M ky_M ko_M km_M hown hK hV 4 rfl rfl 5 (by decide) (hts _ hw_587) (fun _ h9 => h9) rfl (by decide +kernel) rfl rfl (Nat.le_of_ble_eq_true rfl) rfl kd_prog_6_method_7_code_230 (fun H locs hV => ?_)
          obtain ⟨z22, ez22⟩ : ∃ x : Sta, x = zI z19 9 v21 := ⟨_, rfl⟩
          rw [← ez22] at hV
          have h := h z22 ez22
          exact J233 x1 x2 x3 x4 x5 v16 z22 H locs ls hV (lv_sub hl [1, 2, 3, 4, 5, 6, 0] rfl) h
        · have h := h.2 hc
          refine lv_aload_n hx hb kd_prog_6_method_7_code_185 rfl (lv_at hl 1 rfl) ?_
          refine lv_iconst (v := 2) hx hb kd_prog_6_method_7_code_186 (by decide) ?_
          refine wk_calli (va_runV (As := [.int (2 : Int32)]) (rest := []) ⟨hx, hb, hml, hown, hts⟩ (c_M_fail l D q cA 2 z H.size _ h) (cwV 1 hts gs_M_81 rfl rfl rfl (by decide +kernel) ⟨Nat.le_trans (by decide) hRf, Nat.le_trans (by decide) hRl⟩) (wk_preV hK hV 4 4 rfl rfl [.int (2 : Int32)]) rfl rfl hl.1 rfl (lv_room (Nat.le_of_ble_eq_true rfl)) kd_prog_6_method_7_code_187 ⟨hce, hsl⟩) hV hA (fun rz23 z23 H locs h hV => ?_)
          exact hret rz23 z23 H locs 190 ls h hV kd_prog_6_method_7_code_190
  have J140 : ∀ (z : Sta) (H : Heap) (locs : List Loc) (ls : Array Slot), wk_S D q cA A s.heap z H locs → lv_has ls 9 [(0, .ref (q 4))] → pj_M_statement_140 K z → W p l e R s m args below meth c H locs ce sl Q (F0 m 140 ls []) := by
    intro z H locs ls hV hl h
    unfold pj_M_statement_140 at h
    refine lv_aload_n hx hb kd_prog_6_method_7_code_140 rfl (lv_at hl 0 rfl) ?_
    refine lv_iconst (v := 2) hx hb kd_prog_6_method_7_code_141 (by decide) ?_
    refine wk_calli (va_runV (As := [.int (2 : Int32)]) (rest := []) ⟨hx, hb, hml, hown, hts⟩ (c_M_fail l D q cA 2 z H.size _ h) (cwV 1 hts gs_M_81 rfl rfl rfl (by decide +kernel) ⟨Nat.le_trans (by decide) hRf, Nat.le_trans (by decide) hRl⟩) (wk_preV hK hV 4 4 rfl rfl [.int (2 : Int32)]) rfl rfl hl.1 rfl (lv_room (Nat.le_of_ble_eq_true rfl)) kd_prog_6_method_7_code_142 ⟨hce, hsl⟩) hV hA (fun rz52 z52 H locs h hV => ?_)
    exact hret rz52 z52 H locs 145 ls h hV kd_prog_6_method_7_code_145
  have J105 : ∀ (x1 : Int32) (x2 : Int32) (x3 : Int32) (x4 : Int32) (x5 : Int32) (y0 : Int32) (z : Sta) (H : Heap) (locs : List Loc) (ls : Array Slot), wk_S D q cA A s.heap z H locs → lv_has ls 9 [(0, .ref (q 4)), (1, .int x1), (2, .int x2), (3, .int x3), (4, .int x4), (5, .int x5)] → pj_M_statement_105 K x1 x2 x3 x4 x5 y0 z → W p l e R s m args below meth c H locs ce sl Q (F0 m 105 ls [.int y0]) := by
    intro x1 x2 x3 x4 x5 y0 z H locs ls hV hl h
    unfold pj_M_statement_105 at h
    refine lv_istore hx hb kd_prog_6_method_7_code_105 hl (by decide) rfl (fun ls hl => ?_)
    have hl : lv_has ls 9 [(6, .int y0), (0, .ref (q 4)), (1, .int x1), (2, .int x2), (3, .int x3), (4, .int x4), (5, .int x5)] := hl
    refine lv_iload hx hb kd_prog_6_method_7_code_107 (lv_at hl 0 rfl) ?_
    refine lv_if_ne (tgt := 118) hx hb kd_prog_6_method_7_code_109 (by decide) (fun hc => ?_) (fun hc => ?_)
    · have h := h.1 hc
      refine lv_aload_n hx hb kd_prog_6_method_7_code_118 rfl (lv_at hl 1 rfl) ?_
      refine va_get (D := D) (ci := 4) (v := .int (z.1 8)) (C := kr_M) (T := kt_M) (N := kn_M) hx hb hts ki_M hown hK hV.1 4 rfl rfl 1 (by decide) (hts _ hw_583) (fun _ h9 => h9) rfl kd_prog_6_method_7_code_119 ?_
      refine lv_topi (fun v9 ev9 => ?_)
      have h := h v9 ev9
      refine lv_if_eq (tgt := 140) hx hb kd_prog_6_method_7_code_122 (by decide) (fun hc => ?_) (fun hc => ?_)
      · have h := h.1 hc
        exact J140 z H locs ls hV (lv_sub hl [1] rfl) h
      · have h := h.2 hc
        refine lv_aload_n hx hb kd_prog_6_method_7_code_125 rfl (lv_at hl 1 rfl) ?_
        refine va_get (D := D) (ci := 4) (v := .ref (q 30)) (C := kr_M) (T := kt_M) (N := kn_M) hx hb hts ki_M hown hK hV.1 4 rfl rfl 2 (by decide) (hts _ hw_584) (fun _ h9 => h9) rfl kd_prog_6_method_7_code_126 ?_
        refine lv_aload_n hx hb kd_prog_6_method_7_code_129 rfl (lv_at hl 1 rfl) ?_
        refine va_get (D := D) (ci := 4) (v := .int (z.1 8)) (C := kr_M) (T := kt_M) (N := kn_M) hx hb hts ki_M hown hK hV.1 4 rfl rfl 1 (by decide) (hts _ hw_583) (fun _ h9 => h9) rfl kd_prog_6_method_7_code_130 ?_
        refine lv_topi (fun v10 ev10 => ?_)
        have h := h v10 ev10
        refine lv_iconst (v := 1) hx hb kd_prog_6_method_7_code_133 (by decide) ?_
        refine lv_isub hx hb kd_prog_6_method_7_code_134 ?_
        refine lv_topi (fun v11 ev11 => ?_)
        have h := h v11 ev11
        obtain ⟨hin, h⟩ := h
        refine va_iald hx hb hK hV.1 30 25 rfl rfl hin kd_prog_6_method_7_code_135 ?_
        refine lv_topi (fun v12 ev12 => ?_)
        have h := h v12 ev12
        refine lv_iconst (v := 5) hx hb kd_prog_6_method_7_code_136 (by decide) ?_
        refine lv_icmp_ne (tgt := 146) hx hb kd_prog_6_method_7_code_137 (by decide) (fun hc => ?_) (fun hc => ?_)
        · have h := h.1 hc
          refine lv_iload_n hx hb kd_prog_6_method_7_code_146 rfl (lv_at hl 2 rfl) ?_
          refine lv_iconst (v := 2) hx hb kd_prog_6_method_7_code_147 (by decide) ?_
          refine lv_icmp_ne (tgt := 163) hx hb kd_prog_6_method_7_code_148 (by decide) (fun hc => ?_) (fun hc => ?_)
          · have h := h.1 hc
            refine lv_iconst (v := (-1)) hx hb kd_prog_6_method_7_code_163 (by decide) ?_
            exact J164 x1 x2 x3 x4 x5 (-1) z H locs ls hV (lv_sub hl [1, 2, 3, 4, 5, 6] rfl) h
          · have h := h.2 hc
            refine lv_aload_n hx hb kd_prog_6_method_7_code_151 rfl (lv_at hl 1 rfl) ?_
            refine lv_iload_n hx hb kd_prog_6_method_7_code_152 rfl (lv_at hl 4 rfl) ?_
            refine lv_iload hx hb kd_prog_6_method_7_code_153 (lv_at hl 5 rfl) ?_
            refine lv_iload hx hb kd_prog_6_method_7_code_155 (lv_at hl 6 rfl) ?_
            refine wk_calli (va_runV (As := [.int x3, .int x4, .int x5]) (rest := []) ⟨hx, hb, hml, hown, hts⟩ (c_M_find l D q cA x3 x4 x5 z H.size _ h) (cwV 3 hts gs_M_96 rfl rfl rfl (by decide +kernel) ⟨Nat.le_trans (by decide) hRf, Nat.le_trans (by decide) hRl⟩) (wk_preV hK hV 4 4 rfl rfl [.int x3, .int x4, .int x5]) rfl rfl hl.1 rfl (lv_room (Nat.le_of_ble_eq_true rfl)) kd_prog_6_method_7_code_157 ⟨hce, hsl⟩) hV hA (fun rz13 z13 H locs h hV => ?_)
            refine lv_goto (tgt := 164) hx hb kd_prog_6_method_7_code_160 (by decide) ?_
            exact J164 x1 x2 x3 x4 x5 rz13 z13 H locs ls hV (lv_sub hl [1, 2, 3, 4, 5, 6] rfl) h
        · have h := h.2 hc
          exact J140 z H locs ls hV (lv_sub hl [1] rfl) h
    · have h := h.2 hc
      refine lv_aload_n hx hb kd_prog_6_method_7_code_112 rfl (lv_at hl 1 rfl) ?_
      refine lv_iconst (v := 1) hx hb kd_prog_6_method_7_code_113 (by decide) ?_
      refine wk_calli (va_runV (As := [.int (1 : Int32)]) (rest := []) ⟨hx, hb, hml, hown, hts⟩ (c_M_fail l D q cA 1 z H.size _ h) (cwV 1 hts gs_M_81 rfl rfl rfl (by decide +kernel) ⟨Nat.le_trans (by decide) hRf, Nat.le_trans (by decide) hRl⟩) (wk_preV hK hV 4 4 rfl rfl [.int (1 : Int32)]) rfl rfl hl.1 rfl (lv_room (Nat.le_of_ble_eq_true rfl)) kd_prog_6_method_7_code_114 ⟨hce, hsl⟩) hV hA (fun rz14 z14 H locs h hV => ?_)
      exact hret rz14 z14 H locs 117 ls h hV kd_prog_6_method_7_code_117
  have J104 : ∀ (x1 : Int32) (x2 : Int32) (x3 : Int32) (x4 : Int32) (x5 : Int32) (z : Sta) (H : Heap) (locs : List Loc) (ls : Array Slot), wk_S D q cA A s.heap z H locs → lv_has ls 9 [(0, .ref (q 4)), (1, .int x1), (2, .int x2), (3, .int x3), (4, .int x4), (5, .int x5)] → pj_M_statement_104 K x1 x2 x3 x4 x5 z → W p l e R s m args below meth c H locs ce sl Q (F0 m 104 ls []) := by
    intro x1 x2 x3 x4 x5 z H locs ls hV hl h
    unfold pj_M_statement_104 at h
    refine lv_iconst (v := 0) hx hb kd_prog_6_method_7_code_104 (by decide) ?_
    exact J105 x1 x2 x3 x4 x5 0 z H locs ls hV (lv_sub hl [0, 1, 2, 3, 4, 5] rfl) h
  have J100 : ∀ (x1 : Int32) (x2 : Int32) (x3 : Int32) (x4 : Int32) (x5 : Int32) (z : Sta) (H : Heap) (locs : List Loc) (ls : Array Slot), wk_S D q cA A s.heap z H locs → lv_has ls 9 [(0, .ref (q 4)), (1, .int x1), (2, .int x2), (3, .int x3), (4, .int x4), (5, .int x5)] → pj_M_statement_100 K x1 x2 x3 x4 x5 z → W p l e R s m args below meth c H locs ce sl Q (F0 m 100 ls []) := by
    intro x1 x2 x3 x4 x5 z H locs ls hV hl h
    unfold pj_M_statement_100 at h
    refine lv_iconst (v := 1) hx hb kd_prog_6_method_7_code_100 (by decide) ?_
    refine lv_goto (tgt := 105) hx hb kd_prog_6_method_7_code_101 (by decide) ?_
    exact J105 x1 x2 x3 x4 x5 1 z H locs ls hV (lv_sub hl [0, 1, 2, 3, 4, 5] rfl) h
  have J66 : ∀ (x1 : Int32) (x2 : Int32) (x3 : Int32) (x4 : Int32) (x5 : Int32) (z : Sta) (H : Heap) (locs : List Loc) (ls : Array Slot), wk_S D q cA A s.heap z H locs → lv_has ls 9 [(0, .ref (q 4)), (1, .int x1), (2, .int x2), (3, .int x3), (4, .int x4), (5, .int x5)] → pj_M_statement_66 K x1 x2 x3 x4 x5 z → W p l e R s m args below meth c H locs ce sl Q (F0 m 66 ls []) := by
    intro x1 x2 x3 x4 x5 z H locs ls hV hl h
    unfold pj_M_statement_66 at h
    refine lv_iload_n hx hb kd_prog_6_method_7_code_66 rfl (lv_at hl 1 rfl) ?_
    refine lv_iconst (v := 2) hx hb kd_prog_6_method_7_code_67 (by decide) ?_
    refine lv_icmp_ne (tgt := 100) hx hb kd_prog_6_method_7_code_68 (by decide) (fun hc => ?_) (fun hc => ?_)
    · have h := h.1 hc
      exact J100 x1 x2 x3 x4 x5 z H locs ls hV (lv_sub hl [0, 1, 2, 3, 4, 5] rfl) h
    · have h := h.2 hc
      refine lv_iload_n hx hb kd_prog_6_method_7_code_71 rfl (lv_at hl 3 rfl) ?_
      refine lv_iconst (v := 0) hx hb kd_prog_6_method_7_code_72 (by decide) ?_
      refine lv_iconst (v := 5) hx hb kd_prog_6_method_7_code_73 (by decide) ?_
      refine wk_calli (va_runS (As := [.int x3, .int (0 : Int32), .int (5 : Int32)]) (rest := []) ⟨hx, hb, hml, hown, hts⟩ (c_M_within l D q cA x3 0 5 z H.size _ h) (cwS 3 hts gs_M_92 rfl rfl rfl (by decide +kernel) ⟨Nat.le_trans (by decide) hRf, Nat.le_trans (by decide) hRl⟩) (wk_preS hK hV [.int x3, .int (0 : Int32), .int (5 : Int32)]) rfl rfl hl.1 rfl (lv_room (Nat.le_of_ble_eq_true rfl)) kd_prog_6_method_7_code_74 ⟨hce, hsl⟩) hV hA (fun rz6 z6 H locs h hV => ?_)
      refine lv_if_eq (tgt := 104) hx hb kd_prog_6_method_7_code_77 (by decide) (fun hc => ?_) (fun hc => ?_)
      · have h := h.1 hc
        exact J104 x1 x2 x3 x4 x5 z6 H locs ls hV (lv_sub hl [0, 1, 2, 3, 4, 5] rfl) h
      · have h := h.2 hc
        refine lv_iload hx hb kd_prog_6_method_7_code_80 (lv_at hl 4 rfl) ?_
        refine lv_iconst (v := 0) hx hb kd_prog_6_method_7_code_82 (by decide) ?_
        refine lv_iconst (v := 4) hx hb kd_prog_6_method_7_code_83 (by decide) ?_
        refine wk_calli (va_runS (As := [.int x4, .int (0 : Int32), .int (4 : Int32)]) (rest := []) ⟨hx, hb, hml, hown, hts⟩ (c_M_within l D q cA x4 0 4 z6 H.size _ h) (cwS 3 hts gs_M_92 rfl rfl rfl (by decide +kernel) ⟨Nat.le_trans (by decide) hRf, Nat.le_trans (by decide) hRl⟩) (wk_preS hK hV [.int x4, .int (0 : Int32), .int (4 : Int32)]) rfl rfl hl.1 rfl (lv_room (Nat.le_of_ble_eq_true rfl)) kd_prog_6_method_7_code_84 ⟨hce, hsl⟩) hV hA (fun rz7 z7 H locs h hV => ?_)
        refine lv_if_eq (tgt := 104) hx hb kd_prog_6_method_7_code_87 (by decide) (fun hc => ?_) (fun hc => ?_)
        · have h := h.1 hc
          exact J104 x1 x2 x3 x4 x5 z7 H locs ls hV (lv_sub hl [0, 1, 2, 3, 4, 5] rfl) h
        · have h := h.2 hc
          refine lv_iload hx hb kd_prog_6_method_7_code_90 (lv_at hl 5 rfl) ?_
          refine lv_iconst (v := 0) hx hb kd_prog_6_method_7_code_92 (by decide) ?_
          refine lv_iconst (v := 5) hx hb kd_prog_6_method_7_code_93 (by decide) ?_
          refine wk_calli (va_runS (As := [.int x5, .int (0 : Int32), .int (5 : Int32)]) (rest := []) ⟨hx, hb, hml, hown, hts⟩ (c_M_within l D q cA x5 0 5 z7 H.size _ h) (cwS 3 hts gs_M_92 rfl rfl rfl (by decide +kernel) ⟨Nat.le_trans (by decide) hRf, Nat.le_trans (by decide) hRl⟩) (wk_preS hK hV [.int x5, .int (0 : Int32), .int (5 : Int32)]) rfl rfl hl.1 rfl (lv_room (Nat.le_of_ble_eq_true rfl)) kd_prog_6_method_7_code_94 ⟨hce, hsl⟩) hV hA (fun rz8 z8 H locs h hV => ?_)
          refine lv_if_eq (tgt := 104) hx hb kd_prog_6_method_7_code_97 (by decide) (fun hc => ?_) (fun hc => ?_)
          · have h := h.1 hc
            exact J104 x1 x2 x3 x4 x5 z8 H locs ls hV (lv_sub hl [0, 1, 2, 3, 4, 5] rfl) h
          · have h := h.2 hc
            exact J100 x1 x2 x3 x4 x5 z8 H locs ls hV (lv_sub hl [0, 1, 2, 3, 4, 5] rfl) h
  have J48 : ∀ (x1 : Int32) (x2 : Int32) (x3 : Int32) (x4 : Int32) (x5 : Int32) (z : Sta) (H : Heap) (locs : List Loc) (ls : Array Slot), wk_S D q cA A s.heap z H locs → lv_has ls 9 [(0, .ref (q 4)), (1, .int x1), (2, .int x2), (3, .int x3), (4, .int x4), (5, .int x5)] → pj_M_statement_48 K x1 x2 x3 x4 x5 z → W p l e R s m args below meth c H locs ce sl Q (F0 m 48 ls []) := by
    intro x1 x2 x3 x4 x5 z H locs ls hV hl h
    unfold pj_M_statement_48 at h
    refine lv_iload_n hx hb kd_prog_6_method_7_code_48 rfl (lv_at hl 1 rfl) ?_
    refine lv_iconst (v := 1) hx hb kd_prog_6_method_7_code_49 (by decide) ?_
    refine lv_icmp_ne (tgt := 66) hx hb kd_prog_6_method_7_code_50 (by decide) (fun hc => ?_) (fun hc => ?_)
    · have h := h.1 hc
      exact J66 x1 x2 x3 x4 x5 z H locs ls hV (lv_sub hl [0, 1, 2, 3, 4, 5] rfl) h
    · have h := h.2 hc
      refine lv_iload_n hx hb kd_prog_6_method_7_code_53 rfl (lv_at hl 3 rfl) ?_
      refine lv_sipush (v := (-32768)) hx hb kd_prog_6_method_7_code_54 (by decide) ?_
      refine lv_sipush (v := 32767) hx hb kd_prog_6_method_7_code_57 (by decide) ?_
      refine wk_calli (va_runS (As := [.int x3, .int (-32768 : Int32), .int (32767 : Int32)]) (rest := []) ⟨hx, hb, hml, hown, hts⟩ (c_M_within l D q cA x3 (-32768) 32767 z H.size _ h) (cwS 3 hts gs_M_92 rfl rfl rfl (by decide +kernel) ⟨Nat.le_trans (by decide) hRf, Nat.le_trans (by decide) hRl⟩) (wk_preS hK hV [.int x3, .int (-32768 : Int32), .int (32767 : Int32)]) rfl rfl hl.1 rfl (lv_room (Nat.le_of_ble_eq_true rfl)) kd_prog_6_method_7_code_60 ⟨hce, hsl⟩) hV hA (fun rz5 z5 H locs h hV => ?_)
      refine lv_if_eq (tgt := 104) hx hb kd_prog_6_method_7_code_63 (by decide) (fun hc => ?_) (fun hc => ?_)
      · have h := h.1 hc
        exact J104 x1 x2 x3 x4 x5 z5 H locs ls hV (lv_sub hl [0, 1, 2, 3, 4, 5] rfl) h
      · have h := h.2 hc
        exact J66 x1 x2 x3 x4 x5 z5 H locs ls hV (lv_sub hl [0, 1, 2, 3, 4, 5] rfl) h
  have J28 : ∀ (x1 : Int32) (x2 : Int32) (x3 : Int32) (x4 : Int32) (x5 : Int32) (y0 : Int32) (z : Sta) (H : Heap) (locs : List Loc) (ls : Array Slot), wk_S D q cA A s.heap z H locs → lv_has ls 9 [(0, .ref (q 4)), (1, .int x1), (2, .int x2), (3, .int x3), (4, .int x4), (5, .int x5)] → pj_M_statement_28 K x1 x2 x3 x4 x5 y0 z → W p l e R s m args below meth c H locs ce sl Q (F0 m 28 ls [.int y0]) := by
    intro x1 x2 x3 x4 x5 y0 z H locs ls hV hl h
    unfold pj_M_statement_28 at h
    refine lv_istore hx hb kd_prog_6_method_7_code_28 hl (by decide) rfl (fun ls hl => ?_)
    have hl : lv_has ls 9 [(6, .int y0), (0, .ref (q 4)), (1, .int x1), (2, .int x2), (3, .int x3), (4, .int x4), (5, .int x5)] := hl
    refine lv_iload hx hb kd_prog_6_method_7_code_30 (lv_at hl 0 rfl) ?_
    refine lv_if_eq (tgt := 104) hx hb kd_prog_6_method_7_code_32 (by decide) (fun hc => ?_) (fun hc => ?_)
    · have h := h.1 hc
      exact J104 x1 x2 x3 x4 x5 z H locs ls hV (lv_sub hl [1, 2, 3, 4, 5, 6] rfl) h
    · have h := h.2 hc
      refine lv_iload_n hx hb kd_prog_6_method_7_code_35 rfl (lv_at hl 2 rfl) ?_
      refine lv_if_ne (tgt := 48) hx hb kd_prog_6_method_7_code_36 (by decide) (fun hc => ?_) (fun hc => ?_)
      · have h := h.1 hc
        exact J48 x1 x2 x3 x4 x5 z H locs ls hV (lv_sub hl [1, 2, 3, 4, 5, 6] rfl) h
      · have h := h.2 hc
        refine lv_iload_n hx hb kd_prog_6_method_7_code_39 rfl (lv_at hl 4 rfl) ?_
        refine lv_iconst (v := 0) hx hb kd_prog_6_method_7_code_40 (by decide) ?_
        refine lv_iconst (v := 5) hx hb kd_prog_6_method_7_code_41 (by decide) ?_
        refine wk_calli (va_runS (As := [.int x3, .int (0 : Int32), .int (5 : Int32)]) (rest := []) ⟨hx, hb, hml, hown, hts⟩ (c_M_within l D q cA x3 0 5 z H.size _ h) (cwS 3 hts gs_M_92 rfl rfl rfl (by decide +kernel) ⟨Nat.le_trans (by decide) hRf, Nat.le_trans (by decide) hRl⟩) (wk_preS hK hV [.int x3, .int (0 : Int32), .int (5 : Int32)]) rfl rfl hl.1 rfl (lv_room (Nat.le_of_ble_eq_true rfl)) kd_prog_6_method_7_code_42 ⟨hce, hsl⟩) hV hA (fun rz4 z4 H locs h hV => ?_)
        refine lv_if_eq (tgt := 104) hx hb kd_prog_6_method_7_code_45 (by decide) (fun hc => ?_) (fun hc => ?_)
        · have h := h.1 hc
          exact J104 x1 x2 x3 x4 x5 z4 H locs ls hV (lv_sub hl [1, 2, 3, 4, 5, 6] rfl) h
        · have h := h.2 hc
          exact J48 x1 x2 x3 x4 x5 z4 H locs ls hV (lv_sub hl [1, 2, 3, 4, 5, 6] rfl) h
  have J27 : ∀ (x1 : Int32) (x2 : Int32) (x3 : Int32) (x4 : Int32) (x5 : Int32) (z : Sta) (H : Heap) (locs : List Loc) (ls : Array Slot), wk_S D q cA A s.heap z H locs → lv_has ls 9 [(0, .ref (q 4)), (1, .int x1), (2, .int x2), (3, .int x3), (4, .int x4), (5, .int x5)] → pj_M_statement_27 K x1 x2 x3 x4 x5 z → W p l e R s m args below meth c H locs ce sl Q (F0 m 27 ls []) := by
    intro x1 x2 x3 x4 x5 z H locs ls hV hl h
    unfold pj_M_statement_27 at h
    refine lv_iconst (v := 0) hx hb kd_prog_6_method_7_code_27 (by decide) ?_
    exact J28 x1 x2 x3 x4 x5 0 z H locs ls hV (lv_sub hl [0, 1, 2, 3, 4, 5] rfl) h
  unfold wp_M_statement at h
  refine lv_aload_n hx hb kd_prog_6_method_7_code_0 rfl (lv_at hl 0 rfl) ?_
  refine lv_iconst (v := 0) hx hb kd_prog_6_method_7_code_1 (by decide) ?_
  refine wk_put (D := D) (ci := 4) (v := .int (0 : Int32)) (ty := .int) (C := kr_M) (T := kt_M) (N := kn_M) (z1 := zI z 7 (0 : Int32)) hx hb hts ki_M ky_M ko_M km_M hown hK hV 4 rfl rfl 0 (by decide) (hts _ hw_582) (fun _ h9 => h9) rfl (by decide +kernel) rfl rfl (Nat.le_of_ble_eq_true rfl) rfl kd_prog_6_method_7_code_2 (fun H locs hV => ?_)
  obtain ⟨z1, ez1⟩ : ∃ x : Sta, x = zI z 7 (0 : Int32) := ⟨_, rfl⟩
  rw [← ez1] at hV
  have h := h z1 ez1
  refine lv_iload_n hx hb kd_prog_6_method_7_code_5 rfl (lv_at hl 1 rfl) ?_
  refine lv_iconst (v := 0) hx hb kd_prog_6_method_7_code_6 (by decide) ?_
  refine lv_iconst (v := 3) hx hb kd_prog_6_method_7_code_7 (by decide) ?_
  refine wk_calli (va_runS (As := [.int x1, .int (0 : Int32), .int (3 : Int32)]) (rest := []) ⟨hx, hb, hml, hown, hts⟩ (c_M_within l D q cA x1 0 3 z1 H.size _ h) (cwS 3 hts gs_M_92 rfl rfl rfl (by decide +kernel) ⟨Nat.le_trans (by decide) hRf, Nat.le_trans (by decide) hRl⟩) (wk_preS hK hV [.int x1, .int (0 : Int32), .int (3 : Int32)]) rfl rfl hl.1 rfl (lv_room (Nat.le_of_ble_eq_true rfl)) kd_prog_6_method_7_code_8 ⟨hce, hsl⟩) hV hA (fun rz2 z2 H locs h hV => ?_)
  refine lv_if_eq (tgt := 27) hx hb kd_prog_6_method_7_code_11 (by decide) (fun hc => ?_) (fun hc => ?_)
  · have h := h.1 hc
    exact J27 x1 x2 x3 x4 x5 z2 H locs ls hV (lv_sub hl [0, 1, 2, 3, 4, 5] rfl) h
  · have h := h.2 hc
    refine lv_iload_n hx hb kd_prog_6_method_7_code_14 rfl (lv_at hl 2 rfl) ?_
    refine lv_iconst (v := 0) hx hb kd_prog_6_method_7_code_15 (by decide) ?_
    refine lv_iconst (v := 5) hx hb kd_prog_6_method_7_code_16 (by decide) ?_
    refine wk_calli (va_runS (As := [.int x2, .int (0 : Int32), .int (5 : Int32)]) (rest := []) ⟨hx, hb, hml, hown, hts⟩ (c_M_within l D q cA x2 0 5 z2 H.size _ h) (cwS 3 hts gs_M_92 rfl rfl rfl (by decide +kernel) ⟨Nat.le_trans (by decide) hRf, Nat.le_trans (by decide) hRl⟩) (wk_preS hK hV [.int x2, .int (0 : Int32), .int (5 : Int32)]) rfl rfl hl.1 rfl (lv_room (Nat.le_of_ble_eq_true rfl)) kd_prog_6_method_7_code_17 ⟨hce, hsl⟩) hV hA (fun rz3 z3 H locs h hV => ?_)
    refine lv_if_eq (tgt := 27) hx hb kd_prog_6_method_7_code_20 (by decide) (fun hc => ?_) (fun hc => ?_)
    · have h := h.1 hc
      exact J27 x1 x2 x3 x4 x5 z3 H locs ls hV (lv_sub hl [0, 1, 2, 3, 4, 5] rfl) h
    · have h := h.2 hc
      refine lv_iconst (v := 1) hx hb kd_prog_6_method_7_code_23 (by decide) ?_
      refine lv_goto (tgt := 28) hx hb kd_prog_6_method_7_code_24 (by decide) ?_
      exact J28 x1 x2 x3 x4 x5 1 z3 H locs ls hV (lv_sub hl [0, 1, 2, 3, 4, 5] rfl) h
end
set_option maxHeartbeats 4000000 in
set_option maxRecDepth 100000 in
theorem c_M_statement (l : Launch) (D : va_G) (q : Nat → Nat) (cA : Nat → ClassId) (x1 : Int32) (x2 : Int32) (x3 : Int32) (x4 : Int32) (x5 : Int32) (z : Sta) (sz : Nat) (K : Int32 → Sta → Prop) (h : wp_M_statement x1 x2 x3 x4 x5 z K) : Met l ke_M_statement (kc_M_statement :: lw_g) { frames := 1, cells := 0, slots := 0, locals := 25 } (wk_Pc D q cA [.ref (q 4), .int x1, .int x2, .int x3, .int x4, .int x5] z sz) (va_Qi K (wk_B D q cA (va_A (wW q cA z) sz)) (va_A (wW q cA z) sz)) 0 0 (va_A (wW q cA z) sz) := by
  refine Met.ofW (cc := prog_6_method_7_code) (maxL := 9) (ret := (some .int)) (by decide) rfl ?_
  intro p e s m args below meth c s₁ B hml hv
  obtain ⟨rfl, hsz, hP, hK, hD0⟩ := hv
  have hx := B.exec
  have hb := B.bytes
  have hr := B.returns
  have hlocks := B.notSynchronized
  have hts0 := atoms_spec (ws := kc_M_statement :: lw_g) B.pre
  have hts : ∀ w ∈ lw_g, w.before ([.ref (q 4), .int x1, .int x2, .int x3, .int x4, .int x5] : List Value).toArray s = true := fun w hw => hts0 w (List.mem_cons_of_mem _ hw)
  have hown : s.vm.findClass kr_M = some m.cls := findClass_of_methodNamed B.named
  subst hsz
  have hD := hD0.self (sz := s.heap.size)
  generalize hAe : va_A (wW q cA z) s.heap.size = A at hD ⊢
  have hA : ∀ x : Nat, s.heap.size ≤ x → A x := fun x hx => by rw [← hAe]; exact Or.inr hx
  have hl := lv_entry ([.ref (q 4), .int x1, .int x2, .int x3, .int x4, .int x5]) (n := 9) (Nat.le_of_ble_eq_true rfl)
  rw [lg_entry_eq]
  generalize (lg_sl ([.ref (q 4), .int x1, .int x2, .int x3, .int x4, .int x5]) ++ List.replicate (9 - (lg_sl ([.ref (q 4), .int x1, .int x2, .int x3, .int x4, .int x5])).length) Slot.unset).toArray = ls at hl ⊢
  have hl : lv_has ls 9 [(0, .ref (q 4)), (1, .int x1), (2, .int x2), (3, .int x3), (4, .int x4), (5, .int x5)] := hl
  exact w_M_statement hx hb hml hown hts (Nat.le_refl _) (Nat.le_refl _) (Nat.zero_le _) (Nat.zero_le _) hA hK x1 x2 x3 x4 x5 z K h (fun r u H locs pc ls hk hV hd => W.iret hx hb hr (fun t ht hW => ⟨⟨r, u, rfl, hk, by rw [ht]; exact hV.1, va_K.moved hW.alike hK, hV.2.1⟩, hV.2.2.F ht⟩) hV.2.2.2.2 hd) ⟨hP, hD, va_S.rf⟩ hl
section
variable {p : Program} {l : Launch} {e : Env} {R : Room} {s : State} {m : MethodId} {args : Array Value} {below : List Frame} {meth : Method} {c : Code} {Q : State → Prop} {ce sl : Nat} {D : va_G} {q : Nat → Nat} {cA : Nat → ClassId} {A : Nat → Prop}
set_option maxHeartbeats 4000000 in
set_option maxRecDepth 100000 in
theorem w_M_end (hx : p.tables.exec = Jvm.exec) (hb : c.code = prog_6_method_8_code) (hml : c.maxLocals = 7) (hown : s.vm.findClass kr_M = some m.cls) (hts : ∀ w ∈ lw_g, w.before args s = true) (hRf : 1 ≤ R.frames) (hRl : 22 ≤ R.locals) (hce : ce ≤ R.cells) (hsl : sl ≤ R.slots) (hA : ∀ x, s.heap.size ≤ x → A x) (hK : va_K D wk_cl (tysW cA) s) (x1 : Int32) (x2 : Int32) (x3 : Int32) (x4 : Int32) (x5 : Int32) (z : Sta) (K : Int32 → Sta → Prop) (h : wp_M_end x1 x2 x3 x4 x5 z K) (hret : ∀ (r : Int32) (u : Sta) (H : Heap) (locs : List Loc) (pc : Nat) (ls : Array Slot), K r u → wk_S D q cA A s.heap u H locs → decode prog_6_method_8_code pc = .ok (.ireturn, 1) → W p l e R s m args below meth c H locs ce sl Q (F0 m pc ls [.int r])) {H : Heap} {locs : List Loc} {ls : Array Slot} (hV : wk_S D q cA A s.heap z H locs) (hl : lv_has ls 7 [(0, .ref (q 4)), (1, .int x1), (2, .int x2), (3, .int x3), (4, .int x4), (5, .int x5)]) : W p l e R s m args below meth c H locs ce sl Q (F0 m 0 ls []) := by
  have J152 : ∀ (y0 : Int32) (z : Sta) (H : Heap) (locs : List Loc) (ls : Array Slot), wk_S D q cA A s.heap z H locs → lv_has ls 7 [] → pj_M_end_152 K y0 z → W p l e R s m args below meth c H locs ce sl Q (F0 m 152 ls [.int y0]) := by
    intro y0 z H locs ls hV hl h
    unfold pj_M_end_152 at h
    exact hret y0 z H locs 152 ls h hV kd_prog_6_method_8_code_152
  have J151 : ∀ (x2 : Int32) (z : Sta) (H : Heap) (locs : List Loc) (ls : Array Slot), wk_S D q cA A s.heap z H locs → lv_has ls 7 [(2, .int x2)] → pj_M_end_151 K x2 z → W p l e R s m args below meth c H locs ce sl Q (F0 m 151 ls []) := by
    intro x2 z H locs ls hV hl h
    unfold pj_M_end_151 at h
    refine lv_iload_n hx hb kd_prog_6_method_8_code_151 rfl (lv_at hl 0 rfl) ?_
    exact J152 x2 z H locs ls hV (lv_sub hl [] rfl) h
  have J73 : ∀ (x1 : Int32) (x2 : Int32) (x3 : Int32) (x4 : Int32) (x5 : Int32) (y0 : Int32) (z : Sta) (H : Heap) (locs : List Loc) (ls : Array Slot), wk_S D q cA A s.heap z H locs → lv_has ls 7 [(0, .ref (q 4)), (1, .int x1), (2, .int x2), (3, .int x3), (4, .int x4), (5, .int x5)] → pj_M_end_73 K x1 x2 x3 x4 x5 y0 z → W p l e R s m args below meth c H locs ce sl Q (F0 m 73 ls [.int y0]) := by
    intro x1 x2 x3 x4 x5 y0 z H locs ls hV hl h
    unfold pj_M_end_73 at h
    refine lv_istore hx hb kd_prog_6_method_8_code_73 hl (by decide) rfl (fun ls hl => ?_)
    have hl : lv_has ls 7 [(6, .int y0), (0, .ref (q 4)), (1, .int x1), (2, .int x2), (3, .int x3), (4, .int x4), (5, .int x5)] := hl
    refine lv_iload hx hb kd_prog_6_method_8_code_75 (lv_at hl 0 rfl) ?_
    refine lv_if_ne (tgt := 86) hx hb kd_prog_6_method_8_code_77 (by decide) (fun hc => ?_) (fun hc => ?_)
    · have h := h.1 hc
      refine lv_aload_n hx hb kd_prog_6_method_8_code_86 rfl (lv_at hl 1 rfl) ?_
      refine va_get (D := D) (ci := 4) (v := .ref (q 32)) (C := kr_M) (T := kt_M) (N := kn_M) hx hb hts ki_M hown hK hV.1 4 rfl rfl 4 (by decide) (hts _ hw_586) (fun _ h9 => h9) rfl kd_prog_6_method_8_code_87 ?_
      refine lv_iconst (v := 4) hx hb kd_prog_6_method_8_code_90 (by decide) ?_
      refine lv_iload_n hx hb kd_prog_6_method_8_code_91 rfl (lv_at hl 2 rfl) ?_
      refine lv_imul hx hb kd_prog_6_method_8_code_92 ?_
      refine lv_topi (fun v9 ev9 => ?_)
      have h := h v9 ev9
      refine lv_iload_n hx hb kd_prog_6_method_8_code_93 rfl (lv_at hl 3 rfl) ?_
      obtain ⟨hin, h⟩ := h
      refine wk_iast hx hb hK hV 32 27 17 rfl rfl (ks_32 q cA z) hin kd_prog_6_method_8_code_94 (fun H locs hV => ?_)
      obtain ⟨z10, ez10⟩ : ∃ x : Sta, x = zA z 17 (upd (z.2.1 17) v9.toNatClampNeg x2) := ⟨_, rfl⟩
      rw [← ez10] at hV
      have h := h z10 ez10
      refine lv_aload_n hx hb kd_prog_6_method_8_code_95 rfl (lv_at hl 1 rfl) ?_
      refine va_get (D := D) (ci := 4) (v := .ref (q 32)) (C := kr_M) (T := kt_M) (N := kn_M) hx hb hts ki_M hown hK hV.1 4 rfl rfl 4 (by decide) (hts _ hw_586) (fun _ h9 => h9) rfl kd_prog_6_method_8_code_96 ?_
      refine lv_iconst (v := 4) hx hb kd_prog_6_method_8_code_99 (by decide) ?_
      refine lv_iload_n hx hb kd_prog_6_method_8_code_100 rfl (lv_at hl 2 rfl) ?_
      refine lv_imul hx hb kd_prog_6_method_8_code_101 ?_
      refine lv_topi (fun v11 ev11 => ?_)
      have h := h v11 ev11
      refine lv_iconst (v := 1) hx hb kd_prog_6_method_8_code_102 (by decide) ?_
      refine lv_iadd hx hb kd_prog_6_method_8_code_103 ?_
      refine lv_topi (fun v12 ev12 => ?_)
      have h := h v12 ev12
      refine lv_iload_n hx hb kd_prog_6_method_8_code_104 rfl (lv_at hl 4 rfl) ?_
      obtain ⟨hin, h⟩ := h
      refine wk_iast hx hb hK hV 32 27 17 rfl rfl (ks_32 q cA z10) hin kd_prog_6_method_8_code_105 (fun H locs hV => ?_)
      obtain ⟨z13, ez13⟩ : ∃ x : Sta, x = zA z10 17 (upd (z10.2.1 17) v12.toNatClampNeg x3) := ⟨_, rfl⟩
      rw [← ez13] at hV
      have h := h z13 ez13
      refine lv_aload_n hx hb kd_prog_6_method_8_code_106 rfl (lv_at hl 1 rfl) ?_
      refine va_get (D := D) (ci := 4) (v := .ref (q 32)) (C := kr_M) (T := kt_M) (N := kn_M) hx hb hts ki_M hown hK hV.1 4 rfl rfl 4 (by decide) (hts _ hw_586) (fun _ h9 => h9) rfl kd_prog_6_method_8_code_107 ?_
      refine lv_iconst (v := 4) hx hb kd_prog_6_method_8_code_110 (by decide) ?_
      refine lv_iload_n hx hb kd_prog_6_method_8_code_111 rfl (lv_at hl 2 rfl) ?_
      refine lv_imul hx hb kd_prog_6_method_8_code_112 ?_
      refine lv_topi (fun v14 ev14 => ?_)
      have h := h v14 ev14
      refine lv_iconst (v := 2) hx hb kd_prog_6_method_8_code_113 (by decide) ?_
      refine lv_iadd hx hb kd_prog_6_method_8_code_114 ?_
      refine lv_topi (fun v15 ev15 => ?_)
      have h := h v15 ev15
      refine lv_iload hx hb kd_prog_6_method_8_code_115 (lv_at hl 5 rfl) ?_
      obtain ⟨hin, h⟩ := h
      refine wk_iast hx hb hK hV 32 27 17 rfl rfl (ks_32 q cA z13) hin kd_prog_6_method_8_code_117 (fun H locs hV => ?_)
      obtain ⟨z16, ez16⟩ : ∃ x : Sta, x = zA z13 17 (upd (z13.2.1 17) v15.toNatClampNeg x4) := ⟨_, rfl⟩
      rw [← ez16] at hV
      have h := h z16 ez16
      refine lv_aload_n hx hb kd_prog_6_method_8_code_118 rfl (lv_at hl 1 rfl) ?_
      refine va_get (D := D) (ci := 4) (v := .ref (q 32)) (C := kr_M) (T := kt_M) (N := kn_M) hx hb hts ki_M hown hK hV.1 4 rfl rfl 4 (by decide) (hts _ hw_586) (fun _ h9 => h9) rfl kd_prog_6_method_8_code_119 ?_
      refine lv_iconst (v := 4) hx hb kd_prog_6_method_8_code_122 (by decide) ?_
      refine lv_iload_n hx hb kd_prog_6_method_8_code_123 rfl (lv_at hl 2 rfl) ?_
      refine lv_imul hx hb kd_prog_6_method_8_code_124 ?_
      refine lv_topi (fun v17 ev17 => ?_)
      have h := h v17 ev17
      refine lv_iconst (v := 3) hx hb kd_prog_6_method_8_code_125 (by decide) ?_
      refine lv_iadd hx hb kd_prog_6_method_8_code_126 ?_
      refine lv_topi (fun v18 ev18 => ?_)
      have h := h v18 ev18
      refine lv_iload hx hb kd_prog_6_method_8_code_127 (lv_at hl 6 rfl) ?_
      obtain ⟨hin, h⟩ := h
      refine wk_iast hx hb hK hV 32 27 17 rfl rfl (ks_32 q cA z16) hin kd_prog_6_method_8_code_129 (fun H locs hV => ?_)
      obtain ⟨z19, ez19⟩ : ∃ x : Sta, x = zA z16 17 (upd (z16.2.1 17) v18.toNatClampNeg x5) := ⟨_, rfl⟩
      rw [← ez19] at hV
      have h := h z19 ez19
      refine lv_aload_n hx hb kd_prog_6_method_8_code_130 rfl (lv_at hl 1 rfl) ?_
      refine lv_iconst (v := 0) hx hb kd_prog_6_method_8_code_131 (by decide) ?_
      refine wk_put (D := D) (ci := 4) (v := .int (0 : Int32)) (ty := .boolean) (C := kr_M) (T := kt_M) (N := kn_M) (z1 := zI z19 10 (0 : Int32)) hx hb hts ki_M ky_M ko_M km_M hown hK hV 4 rfl rfl 9 (by decide) (hts _ hw_591) (fun _ h9 => h9) rfl (by decide +kernel) rfl rfl (Nat.le_of_ble_eq_true rfl) rfl kd_prog_6_method_8_code_132 (fun H locs hV => ?_)
      obtain ⟨z20, ez20⟩ : ∃ x : Sta, x = zI z19 10 (0 : Int32) := ⟨_, rfl⟩
      rw [← ez20] at hV
      have h := h z20 ez20
      refine lv_iload_n hx hb kd_prog_6_method_8_code_135 rfl (lv_at hl 3 rfl) ?_
      refine lv_iconst (v := 2) hx hb kd_prog_6_method_8_code_136 (by decide) ?_
      refine lv_icmp_ne (tgt := 151) hx hb kd_prog_6_method_8_code_137 (by decide) (fun hc => ?_) (fun hc => ?_)
      · have h := h.1 hc
        exact J151 x2 z20 H locs ls hV (lv_sub hl [3] rfl) h
      · have h := h.2 hc
        refine lv_iload hx hb kd_prog_6_method_8_code_140 (lv_at hl 5 rfl) ?_
        refine lv_iload hx hb kd_prog_6_method_8_code_142 (lv_at hl 6 rfl) ?_
        refine lv_icmp_ne (tgt := 151) hx hb kd_prog_6_method_8_code_144 (by decide) (fun hc => ?_) (fun hc => ?_)
        · have h := h.1 hc
          exact J151 x2 z20 H locs ls hV (lv_sub hl [3] rfl) h
        · have h := h.2 hc
          refine lv_iconst (v := 1) hx hb kd_prog_6_method_8_code_147 (by decide) ?_
          refine lv_goto (tgt := 152) hx hb kd_prog_6_method_8_code_148 (by decide) ?_
          exact J152 1 z20 H locs ls hV (lv_sub hl [] rfl) h
    · have h := h.2 hc
      refine lv_aload_n hx hb kd_prog_6_method_8_code_80 rfl (lv_at hl 1 rfl) ?_
      refine lv_iconst (v := 1) hx hb kd_prog_6_method_8_code_81 (by decide) ?_
      refine wk_calli (va_runV (As := [.int (1 : Int32)]) (rest := []) ⟨hx, hb, hml, hown, hts⟩ (c_M_fail l D q cA 1 z H.size _ h) (cwV 1 hts gs_M_81 rfl rfl rfl (by decide +kernel) ⟨Nat.le_trans (by decide) hRf, Nat.le_trans (by decide) hRl⟩) (wk_preV hK hV 4 4 rfl rfl [.int (1 : Int32)]) rfl rfl hl.1 rfl (lv_room (Nat.le_of_ble_eq_true rfl)) kd_prog_6_method_8_code_82 ⟨hce, hsl⟩) hV hA (fun rz21 z21 H locs h hV => ?_)
      exact hret rz21 z21 H locs 85 ls h hV kd_prog_6_method_8_code_85
  have J72 : ∀ (x1 : Int32) (x2 : Int32) (x3 : Int32) (x4 : Int32) (x5 : Int32) (z : Sta) (H : Heap) (locs : List Loc) (ls : Array Slot), wk_S D q cA A s.heap z H locs → lv_has ls 7 [(0, .ref (q 4)), (1, .int x1), (2, .int x2), (3, .int x3), (4, .int x4), (5, .int x5)] → pj_M_end_72 K x1 x2 x3 x4 x5 z → W p l e R s m args below meth c H locs ce sl Q (F0 m 72 ls []) := by
    intro x1 x2 x3 x4 x5 z H locs ls hV hl h
    unfold pj_M_end_72 at h
    refine lv_iconst (v := 0) hx hb kd_prog_6_method_8_code_72 (by decide) ?_
    exact J73 x1 x2 x3 x4 x5 0 z H locs ls hV (lv_sub hl [0, 1, 2, 3, 4, 5] rfl) h
  have J68 : ∀ (x1 : Int32) (x2 : Int32) (x3 : Int32) (x4 : Int32) (x5 : Int32) (z : Sta) (H : Heap) (locs : List Loc) (ls : Array Slot), wk_S D q cA A s.heap z H locs → lv_has ls 7 [(0, .ref (q 4)), (1, .int x1), (2, .int x2), (3, .int x3), (4, .int x4), (5, .int x5)] → pj_M_end_68 K x1 x2 x3 x4 x5 z → W p l e R s m args below meth c H locs ce sl Q (F0 m 68 ls []) := by
    intro x1 x2 x3 x4 x5 z H locs ls hV hl h
    unfold pj_M_end_68 at h
    refine lv_iconst (v := 1) hx hb kd_prog_6_method_8_code_68 (by decide) ?_
    refine lv_goto (tgt := 73) hx hb kd_prog_6_method_8_code_69 (by decide) ?_
    exact J73 x1 x2 x3 x4 x5 1 z H locs ls hV (lv_sub hl [0, 1, 2, 3, 4, 5] rfl) h
  have J43 : ∀ (x1 : Int32) (x2 : Int32) (x3 : Int32) (x4 : Int32) (x5 : Int32) (z : Sta) (H : Heap) (locs : List Loc) (ls : Array Slot), wk_S D q cA A s.heap z H locs → lv_has ls 7 [(0, .ref (q 4)), (1, .int x1), (2, .int x2), (3, .int x3), (4, .int x4), (5, .int x5)] → pj_M_end_43 K x1 x2 x3 x4 x5 z → W p l e R s m args below meth c H locs ce sl Q (F0 m 43 ls []) := by
    intro x1 x2 x3 x4 x5 z H locs ls hV hl h
    unfold pj_M_end_43 at h
    refine lv_iload_n hx hb kd_prog_6_method_8_code_43 rfl (lv_at hl 2 rfl) ?_
    refine lv_iconst (v := 2) hx hb kd_prog_6_method_8_code_44 (by decide) ?_
    refine lv_icmp_lt (tgt := 68) hx hb kd_prog_6_method_8_code_45 (by decide) (fun hc => ?_) (fun hc => ?_)
    · have h := h.1 hc
      exact J68 x1 x2 x3 x4 x5 z H locs ls hV (lv_sub hl [0, 1, 2, 3, 4, 5] rfl) h
    · have h := h.2 hc
      refine lv_iload_n hx hb kd_prog_6_method_8_code_48 rfl (lv_at hl 3 rfl) ?_
      refine lv_iconst (v := 0) hx hb kd_prog_6_method_8_code_49 (by decide) ?_
      refine lv_iconst (v := 5) hx hb kd_prog_6_method_8_code_50 (by decide) ?_
      refine wk_calli (va_runS (As := [.int x3, .int (0 : Int32), .int (5 : Int32)]) (rest := []) ⟨hx, hb, hml, hown, hts⟩ (c_M_within l D q cA x3 0 5 z H.size _ h) (cwS 3 hts gs_M_92 rfl rfl rfl (by decide +kernel) ⟨Nat.le_trans (by decide) hRf, Nat.le_trans (by decide) hRl⟩) (wk_preS hK hV [.int x3, .int (0 : Int32), .int (5 : Int32)]) rfl rfl hl.1 rfl (lv_room (Nat.le_of_ble_eq_true rfl)) kd_prog_6_method_8_code_51 ⟨hce, hsl⟩) hV hA (fun rz7 z7 H locs h hV => ?_)
      refine lv_if_eq (tgt := 72) hx hb kd_prog_6_method_8_code_54 (by decide) (fun hc => ?_) (fun hc => ?_)
      · have h := h.1 hc
        exact J72 x1 x2 x3 x4 x5 z7 H locs ls hV (lv_sub hl [0, 1, 2, 3, 4, 5] rfl) h
      · have h := h.2 hc
        refine lv_iload hx hb kd_prog_6_method_8_code_57 (lv_at hl 5 rfl) ?_
        refine lv_iconst (v := 0) hx hb kd_prog_6_method_8_code_59 (by decide) ?_
        refine lv_bipush (v := 15) hx hb kd_prog_6_method_8_code_60 (by decide) ?_
        refine wk_calli (va_runS (As := [.int x5, .int (0 : Int32), .int (15 : Int32)]) (rest := []) ⟨hx, hb, hml, hown, hts⟩ (c_M_within l D q cA x5 0 15 z7 H.size _ h) (cwS 3 hts gs_M_92 rfl rfl rfl (by decide +kernel) ⟨Nat.le_trans (by decide) hRf, Nat.le_trans (by decide) hRl⟩) (wk_preS hK hV [.int x5, .int (0 : Int32), .int (15 : Int32)]) rfl rfl hl.1 rfl (lv_room (Nat.le_of_ble_eq_true rfl)) kd_prog_6_method_8_code_62 ⟨hce, hsl⟩) hV hA (fun rz8 z8 H locs h hV => ?_)
        refine lv_if_eq (tgt := 72) hx hb kd_prog_6_method_8_code_65 (by decide) (fun hc => ?_) (fun hc => ?_)
        · have h := h.1 hc
          exact J72 x1 x2 x3 x4 x5 z8 H locs ls hV (lv_sub hl [0, 1, 2, 3, 4, 5] rfl) h
        · have h := h.2 hc
          exact J68 x1 x2 x3 x4 x5 z8 H locs ls hV (lv_sub hl [0, 1, 2, 3, 4, 5] rfl) h
  unfold wp_M_end at h
  refine lv_aload_n hx hb kd_prog_6_method_8_code_0 rfl (lv_at hl 0 rfl) ?_
  refine lv_iconst (v := 0) hx hb kd_prog_6_method_8_code_1 (by decide) ?_
  refine wk_put (D := D) (ci := 4) (v := .int (0 : Int32)) (ty := .int) (C := kr_M) (T := kt_M) (N := kn_M) (z1 := zI z 7 (0 : Int32)) hx hb hts ki_M ky_M ko_M km_M hown hK hV 4 rfl rfl 0 (by decide) (hts _ hw_582) (fun _ h9 => h9) rfl (by decide +kernel) rfl rfl (Nat.le_of_ble_eq_true rfl) rfl kd_prog_6_method_8_code_2 (fun H locs hV => ?_)
  obtain ⟨z1, ez1⟩ : ∃ x : Sta, x = zI z 7 (0 : Int32) := ⟨_, rfl⟩
  rw [← ez1] at hV
  have h := h z1 ez1
  refine lv_iload_n hx hb kd_prog_6_method_8_code_5 rfl (lv_at hl 1 rfl) ?_
  refine lv_iconst (v := 0) hx hb kd_prog_6_method_8_code_6 (by decide) ?_
  refine lv_aload_n hx hb kd_prog_6_method_8_code_7 rfl (lv_at hl 0 rfl) ?_
  refine va_get (D := D) (ci := 4) (v := .int (z1.1 8)) (C := kr_M) (T := kt_M) (N := kn_M) hx hb hts ki_M hown hK hV.1 4 rfl rfl 1 (by decide) (hts _ hw_583) (fun _ h9 => h9) rfl kd_prog_6_method_8_code_8 ?_
  refine lv_topi (fun v2 ev2 => ?_)
  have h := h v2 ev2
  refine lv_iconst (v := 1) hx hb kd_prog_6_method_8_code_11 (by decide) ?_
  refine lv_isub hx hb kd_prog_6_method_8_code_12 ?_
  refine lv_topi (fun v3 ev3 => ?_)
  have h := h v3 ev3
  refine wk_calli (va_runS (As := [.int x1, .int (0 : Int32), .int v3]) (rest := []) ⟨hx, hb, hml, hown, hts⟩ (c_M_within l D q cA x1 0 v3 z1 H.size _ h) (cwS 3 hts gs_M_92 rfl rfl rfl (by decide +kernel) ⟨Nat.le_trans (by decide) hRf, Nat.le_trans (by decide) hRl⟩) (wk_preS hK hV [.int x1, .int (0 : Int32), .int v3]) rfl rfl hl.1 rfl (lv_room (Nat.le_of_ble_eq_true rfl)) kd_prog_6_method_8_code_13 ⟨hce, hsl⟩) hV hA (fun rz4 z4 H locs h hV => ?_)
  refine lv_if_eq (tgt := 72) hx hb kd_prog_6_method_8_code_16 (by decide) (fun hc => ?_) (fun hc => ?_)
  · have h := h.1 hc
    exact J72 x1 x2 x3 x4 x5 z4 H locs ls hV (lv_sub hl [0, 1, 2, 3, 4, 5] rfl) h
  · have h := h.2 hc
    refine lv_iload_n hx hb kd_prog_6_method_8_code_19 rfl (lv_at hl 2 rfl) ?_
    refine lv_iconst (v := 0) hx hb kd_prog_6_method_8_code_20 (by decide) ?_
    refine lv_iconst (v := 2) hx hb kd_prog_6_method_8_code_21 (by decide) ?_
    refine wk_calli (va_runS (As := [.int x2, .int (0 : Int32), .int (2 : Int32)]) (rest := []) ⟨hx, hb, hml, hown, hts⟩ (c_M_within l D q cA x2 0 2 z4 H.size _ h) (cwS 3 hts gs_M_92 rfl rfl rfl (by decide +kernel) ⟨Nat.le_trans (by decide) hRf, Nat.le_trans (by decide) hRl⟩) (wk_preS hK hV [.int x2, .int (0 : Int32), .int (2 : Int32)]) rfl rfl hl.1 rfl (lv_room (Nat.le_of_ble_eq_true rfl)) kd_prog_6_method_8_code_22 ⟨hce, hsl⟩) hV hA (fun rz5 z5 H locs h hV => ?_)
    refine lv_if_eq (tgt := 72) hx hb kd_prog_6_method_8_code_25 (by decide) (fun hc => ?_) (fun hc => ?_)
    · have h := h.1 hc
      exact J72 x1 x2 x3 x4 x5 z5 H locs ls hV (lv_sub hl [0, 1, 2, 3, 4, 5] rfl) h
    · have h := h.2 hc
      refine lv_iload_n hx hb kd_prog_6_method_8_code_28 rfl (lv_at hl 2 rfl) ?_
      refine lv_if_eq (tgt := 43) hx hb kd_prog_6_method_8_code_29 (by decide) (fun hc => ?_) (fun hc => ?_)
      · have h := h.1 hc
        exact J43 x1 x2 x3 x4 x5 z5 H locs ls hV (lv_sub hl [0, 1, 2, 3, 4, 5] rfl) h
      · have h := h.2 hc
        refine lv_iload hx hb kd_prog_6_method_8_code_32 (lv_at hl 4 rfl) ?_
        refine lv_iconst (v := 0) hx hb kd_prog_6_method_8_code_34 (by decide) ?_
        refine lv_bipush (v := 15) hx hb kd_prog_6_method_8_code_35 (by decide) ?_
        refine wk_calli (va_runS (As := [.int x4, .int (0 : Int32), .int (15 : Int32)]) (rest := []) ⟨hx, hb, hml, hown, hts⟩ (c_M_within l D q cA x4 0 15 z5 H.size _ h) (cwS 3 hts gs_M_92 rfl rfl rfl (by decide +kernel) ⟨Nat.le_trans (by decide) hRf, Nat.le_trans (by decide) hRl⟩) (wk_preS hK hV [.int x4, .int (0 : Int32), .int (15 : Int32)]) rfl rfl hl.1 rfl (lv_room (Nat.le_of_ble_eq_true rfl)) kd_prog_6_method_8_code_37 ⟨hce, hsl⟩) hV hA (fun rz6 z6 H locs h hV => ?_)
        refine lv_if_eq (tgt := 72) hx hb kd_prog_6_method_8_code_40 (by decide) (fun hc => ?_) (fun hc => ?_)
        · have h := h.1 hc
          exact J72 x1 x2 x3 x4 x5 z6 H locs ls hV (lv_sub hl [0, 1, 2, 3, 4, 5] rfl) h
        · have h := h.2 hc
          exact J43 x1 x2 x3 x4 x5 z6 H locs ls hV (lv_sub hl [0, 1, 2, 3, 4, 5] rfl) h
end
set_option maxHeartbeats 4000000 in
set_option maxRecDepth 100000 in
theorem c_M_end (l : Launch) (D : va_G) (q : Nat → Nat) (cA : Nat → ClassId) (x1 : Int32) (x2 : Int32) (x3 : Int32) (x4 : Int32) (x5 : Int32) (z : Sta) (sz : Nat) (K : Int32 → Sta → Prop) (h : wp_M_end x1 x2 x3 x4 x5 z K) : Met l ke_M_end (kc_M_end :: lw_g) { frames := 1, cells := 0, slots := 0, locals := 22 } (wk_Pc D q cA [.ref (q 4), .int x1, .int x2, .int x3, .int x4, .int x5] z sz) (va_Qi K (wk_B D q cA (va_A (wW q cA z) sz)) (va_A (wW q cA z) sz)) 0 0 (va_A (wW q cA z) sz) := by
  refine Met.ofW (cc := prog_6_method_8_code) (maxL := 7) (ret := (some .int)) (by decide) rfl ?_
  intro p e s m args below meth c s₁ B hml hv
  obtain ⟨rfl, hsz, hP, hK, hD0⟩ := hv
  have hx := B.exec
  have hb := B.bytes
  have hr := B.returns
  have hlocks := B.notSynchronized
  have hts0 := atoms_spec (ws := kc_M_end :: lw_g) B.pre
  have hts : ∀ w ∈ lw_g, w.before ([.ref (q 4), .int x1, .int x2, .int x3, .int x4, .int x5] : List Value).toArray s = true := fun w hw => hts0 w (List.mem_cons_of_mem _ hw)
  have hown : s.vm.findClass kr_M = some m.cls := findClass_of_methodNamed B.named
  subst hsz
  have hD := hD0.self (sz := s.heap.size)
  generalize hAe : va_A (wW q cA z) s.heap.size = A at hD ⊢
  have hA : ∀ x : Nat, s.heap.size ≤ x → A x := fun x hx => by rw [← hAe]; exact Or.inr hx
  have hl := lv_entry ([.ref (q 4), .int x1, .int x2, .int x3, .int x4, .int x5]) (n := 7) (Nat.le_of_ble_eq_true rfl)
  rw [lg_entry_eq]
  generalize (lg_sl ([.ref (q 4), .int x1, .int x2, .int x3, .int x4, .int x5]) ++ List.replicate (7 - (lg_sl ([.ref (q 4), .int x1, .int x2, .int x3, .int x4, .int x5])).length) Slot.unset).toArray = ls at hl ⊢
  have hl : lv_has ls 7 [(0, .ref (q 4)), (1, .int x1), (2, .int x2), (3, .int x3), (4, .int x4), (5, .int x5)] := hl
  exact w_M_end hx hb hml hown hts (Nat.le_refl _) (Nat.le_refl _) (Nat.zero_le _) (Nat.zero_le _) hA hK x1 x2 x3 x4 x5 z K h (fun r u H locs pc ls hk hV hd => W.iret hx hb hr (fun t ht hW => ⟨⟨r, u, rfl, hk, by rw [ht]; exact hV.1, va_K.moved hW.alike hK, hV.2.1⟩, hV.2.2.F ht⟩) hV.2.2.2.2 hd) ⟨hP, hD, va_S.rf⟩ hl
section
variable {p : Program} {l : Launch} {e : Env} {R : Room} {s : State} {m : MethodId} {args : Array Value} {below : List Frame} {meth : Method} {c : Code} {Q : State → Prop} {ce sl : Nat} {D : va_G} {q : Nat → Nat} {cA : Nat → ClassId} {A : Nat → Prop}
set_option maxHeartbeats 4000000 in
set_option maxRecDepth 100000 in
theorem w_M_next (hx : p.tables.exec = Jvm.exec) (hb : c.code = prog_6_method_9_code) (hml : c.maxLocals = 4) (hown : s.vm.findClass kr_M = some m.cls) (hts : ∀ w ∈ lw_g, w.before args s = true) (hRf : 0 ≤ R.frames) (hRl : 0 ≤ R.locals) (hce : ce ≤ R.cells) (hsl : sl ≤ R.slots) (hA : ∀ x, s.heap.size ≤ x → A x) (hK : va_K D wk_cl (tysW cA) s) (x1 : Int32) (x2 : Int32) (z : Sta) (K : Int32 → Sta → Prop) (h : wp_M_next x1 x2 z K) (hret : ∀ (r : Int32) (u : Sta) (H : Heap) (locs : List Loc) (pc : Nat) (ls : Array Slot), K r u → wk_S D q cA A s.heap u H locs → decode prog_6_method_9_code pc = .ok (.ireturn, 1) → W p l e R s m args below meth c H locs ce sl Q (F0 m pc ls [.int r])) {H : Heap} {locs : List Loc} {ls : Array Slot} (hV : wk_S D q cA A s.heap z H locs) (hl : lv_has ls 4 [(0, .ref (q 4)), (1, .int x1), (2, .int x2)]) : W p l e R s m args below meth c H locs ce sl Q (F0 m 0 ls []) := by
  have J74 : ∀ (y0 : Int32) (z : Sta) (H : Heap) (locs : List Loc) (ls : Array Slot), wk_S D q cA A s.heap z H locs → lv_has ls 4 [] → pj_M_next_74 K y0 z → W p l e R s m args below meth c H locs ce sl Q (F0 m 74 ls [.int y0]) := by
    intro y0 z H locs ls hV hl h
    unfold pj_M_next_74 at h
    exact hret y0 z H locs 74 ls h hV kd_prog_6_method_9_code_74
  have J73 : ∀ (z : Sta) (H : Heap) (locs : List Loc) (ls : Array Slot), wk_S D q cA A s.heap z H locs → lv_has ls 4 [] → pj_M_next_73 K z → W p l e R s m args below meth c H locs ce sl Q (F0 m 73 ls []) := by
    intro z H locs ls hV hl h
    unfold pj_M_next_73 at h
    refine lv_iconst (v := (-1)) hx hb kd_prog_6_method_9_code_73 (by decide) ?_
    exact J74 (-1) z H locs ls hV (lv_sub hl [] rfl) h
  have J31 : ∀ (y0 : Int32) (z : Sta) (H : Heap) (locs : List Loc) (ls : Array Slot), wk_S D q cA A s.heap z H locs → lv_has ls 4 [] → pj_M_next_31 K y0 z → W p l e R s m args below meth c H locs ce sl Q (F0 m 31 ls [.int y0]) := by
    intro y0 z H locs ls hV hl h
    unfold pj_M_next_31 at h
    exact hret y0 z H locs 31 ls h hV kd_prog_6_method_9_code_31
  unfold wp_M_next at h
  refine lv_aload_n hx hb kd_prog_6_method_9_code_0 rfl (lv_at hl 0 rfl) ?_
  refine va_get (D := D) (ci := 4) (v := .ref (q 32)) (C := kr_M) (T := kt_M) (N := kn_M) hx hb hts ki_M hown hK hV.1 4 rfl rfl 4 (by decide) (hts _ hw_586) (fun _ h9 => h9) rfl kd_prog_6_method_9_code_1 ?_
  refine lv_iconst (v := 4) hx hb kd_prog_6_method_9_code_4 (by decide) ?_
  refine lv_iload_n hx hb kd_prog_6_method_9_code_5 rfl (lv_at hl 1 rfl) ?_
  refine lv_imul hx hb kd_prog_6_method_9_code_6 ?_
  refine lv_topi (fun v1 ev1 => ?_)
  have h := h v1 ev1
  obtain ⟨hin, h⟩ := h
  refine va_iald hx hb hK hV.1 32 27 rfl rfl hin kd_prog_6_method_9_code_7 ?_
  refine lv_topi (fun v2 ev2 => ?_)
  have h := h v2 ev2
  refine lv_istore_n hx hb kd_prog_6_method_9_code_8 rfl hl (by decide) rfl (fun ls hl => ?_)
  have hl : lv_has ls 4 [(3, .int v2), (0, .ref (q 4)), (1, .int x1), (2, .int x2)] := hl
  refine lv_iload_n hx hb kd_prog_6_method_9_code_9 rfl (lv_at hl 3 rfl) ?_
  refine lv_if_ne (tgt := 32) hx hb kd_prog_6_method_9_code_10 (by decide) (fun hc => ?_) (fun hc => ?_)
  · have h := h.1 hc
    refine lv_iload_n hx hb kd_prog_6_method_9_code_32 rfl (lv_at hl 0 rfl) ?_
    refine lv_iconst (v := 2) hx hb kd_prog_6_method_9_code_33 (by decide) ?_
    refine lv_icmp_ne (tgt := 73) hx hb kd_prog_6_method_9_code_34 (by decide) (fun hc => ?_) (fun hc => ?_)
    · have h := h.1 hc
      exact J73 z H locs ls hV (lv_sub hl [] rfl) h
    · have h := h.2 hc
      refine lv_aload_n hx hb kd_prog_6_method_9_code_37 rfl (lv_at hl 1 rfl) ?_
      refine va_get (D := D) (ci := 4) (v := .ref (q 32)) (C := kr_M) (T := kt_M) (N := kn_M) hx hb hts ki_M hown hK hV.1 4 rfl rfl 4 (by decide) (hts _ hw_586) (fun _ h9 => h9) rfl kd_prog_6_method_9_code_38 ?_
      refine lv_iconst (v := 4) hx hb kd_prog_6_method_9_code_41 (by decide) ?_
      refine lv_iload_n hx hb kd_prog_6_method_9_code_42 rfl (lv_at hl 2 rfl) ?_
      refine lv_imul hx hb kd_prog_6_method_9_code_43 ?_
      refine lv_topi (fun v3 ev3 => ?_)
      have h := h v3 ev3
      refine lv_iconst (v := 3) hx hb kd_prog_6_method_9_code_44 (by decide) ?_
      refine lv_iadd hx hb kd_prog_6_method_9_code_45 ?_
      refine lv_topi (fun v4 ev4 => ?_)
      have h := h v4 ev4
      obtain ⟨hin, h⟩ := h
      refine va_iald hx hb hK hV.1 32 27 rfl rfl hin kd_prog_6_method_9_code_46 ?_
      refine lv_topi (fun v5 ev5 => ?_)
      have h := h v5 ev5
      refine lv_aload_n hx hb kd_prog_6_method_9_code_47 rfl (lv_at hl 1 rfl) ?_
      refine va_get (D := D) (ci := 4) (v := .ref (q 32)) (C := kr_M) (T := kt_M) (N := kn_M) hx hb hts ki_M hown hK hV.1 4 rfl rfl 4 (by decide) (hts _ hw_586) (fun _ h9 => h9) rfl kd_prog_6_method_9_code_48 ?_
      refine lv_iconst (v := 4) hx hb kd_prog_6_method_9_code_51 (by decide) ?_
      refine lv_iload_n hx hb kd_prog_6_method_9_code_52 rfl (lv_at hl 2 rfl) ?_
      refine lv_imul hx hb kd_prog_6_method_9_code_53 ?_
      refine lv_topi (fun v6 ev6 => ?_)
      have h := h v6 ev6
      refine lv_iconst (v := 2) hx hb kd_prog_6_method_9_code_54 (by decide) ?_
      refine lv_iadd hx hb kd_prog_6_method_9_code_55 ?_
      refine lv_topi (fun v7 ev7 => ?_)
      have h := h v7 ev7
      obtain ⟨hin, h⟩ := h
      refine va_iald hx hb hK hV.1 32 27 rfl rfl hin kd_prog_6_method_9_code_56 ?_
      refine lv_topi (fun v8 ev8 => ?_)
      have h := h v8 ev8
      refine lv_icmp_eq (tgt := 73) hx hb kd_prog_6_method_9_code_57 (by decide) (fun hc => ?_) (fun hc => ?_)
      · have h := h.1 hc
        exact J73 z H locs ls hV (lv_sub hl [] rfl) h
      · have h := h.2 hc
        refine lv_aload_n hx hb kd_prog_6_method_9_code_60 rfl (lv_at hl 1 rfl) ?_
        refine va_get (D := D) (ci := 4) (v := .ref (q 32)) (C := kr_M) (T := kt_M) (N := kn_M) hx hb hts ki_M hown hK hV.1 4 rfl rfl 4 (by decide) (hts _ hw_586) (fun _ h9 => h9) rfl kd_prog_6_method_9_code_61 ?_
        refine lv_iconst (v := 4) hx hb kd_prog_6_method_9_code_64 (by decide) ?_
        refine lv_iload_n hx hb kd_prog_6_method_9_code_65 rfl (lv_at hl 2 rfl) ?_
        refine lv_imul hx hb kd_prog_6_method_9_code_66 ?_
        refine lv_topi (fun v9 ev9 => ?_)
        have h := h v9 ev9
        refine lv_iconst (v := 3) hx hb kd_prog_6_method_9_code_67 (by decide) ?_
        refine lv_iadd hx hb kd_prog_6_method_9_code_68 ?_
        refine lv_topi (fun v10 ev10 => ?_)
        have h := h v10 ev10
        obtain ⟨hin, h⟩ := h
        refine va_iald hx hb hK hV.1 32 27 rfl rfl hin kd_prog_6_method_9_code_69 ?_
        refine lv_topi (fun v11 ev11 => ?_)
        have h := h v11 ev11
        refine lv_goto (tgt := 74) hx hb kd_prog_6_method_9_code_70 (by decide) ?_
        exact J74 v11 z H locs ls hV (lv_sub hl [] rfl) h
  · have h := h.2 hc
    refine lv_iload_n hx hb kd_prog_6_method_9_code_13 rfl (lv_at hl 0 rfl) ?_
    refine lv_if_ne (tgt := 21) hx hb kd_prog_6_method_9_code_14 (by decide) (fun hc => ?_) (fun hc => ?_)
    · have h := h.1 hc
      refine lv_aload_n hx hb kd_prog_6_method_9_code_21 rfl (lv_at hl 1 rfl) ?_
      refine va_get (D := D) (ci := 4) (v := .ref (q 32)) (C := kr_M) (T := kt_M) (N := kn_M) hx hb hts ki_M hown hK hV.1 4 rfl rfl 4 (by decide) (hts _ hw_586) (fun _ h9 => h9) rfl kd_prog_6_method_9_code_22 ?_
      refine lv_iconst (v := 4) hx hb kd_prog_6_method_9_code_25 (by decide) ?_
      refine lv_iload_n hx hb kd_prog_6_method_9_code_26 rfl (lv_at hl 2 rfl) ?_
      refine lv_imul hx hb kd_prog_6_method_9_code_27 ?_
      refine lv_topi (fun v12 ev12 => ?_)
      have h := h v12 ev12
      refine lv_iconst (v := 2) hx hb kd_prog_6_method_9_code_28 (by decide) ?_
      refine lv_iadd hx hb kd_prog_6_method_9_code_29 ?_
      refine lv_topi (fun v13 ev13 => ?_)
      have h := h v13 ev13
      obtain ⟨hin, h⟩ := h
      refine va_iald hx hb hK hV.1 32 27 rfl rfl hin kd_prog_6_method_9_code_30 ?_
      refine lv_topi (fun v14 ev14 => ?_)
      have h := h v14 ev14
      exact J31 v14 z H locs ls hV (lv_sub hl [] rfl) h
    · have h := h.2 hc
      refine lv_iconst (v := (-1)) hx hb kd_prog_6_method_9_code_17 (by decide) ?_
      refine lv_goto (tgt := 31) hx hb kd_prog_6_method_9_code_18 (by decide) ?_
      exact J31 (-1) z H locs ls hV (lv_sub hl [] rfl) h
end
set_option maxHeartbeats 4000000 in
set_option maxRecDepth 100000 in
theorem c_M_next (l : Launch) (D : va_G) (q : Nat → Nat) (cA : Nat → ClassId) (x1 : Int32) (x2 : Int32) (z : Sta) (sz : Nat) (K : Int32 → Sta → Prop) (h : wp_M_next x1 x2 z K) : Met l ke_M_next (kc_M_next :: lw_g) { frames := 0, cells := 0, slots := 0, locals := 0 } (wk_Pc D q cA [.ref (q 4), .int x1, .int x2] z sz) (va_Qi K (wk_B D q cA (va_A (wW q cA z) sz)) (va_A (wW q cA z) sz)) 0 0 (va_A (wW q cA z) sz) := by
  refine Met.ofW (cc := prog_6_method_9_code) (maxL := 4) (ret := (some .int)) (by decide) rfl ?_
  intro p e s m args below meth c s₁ B hml hv
  obtain ⟨rfl, hsz, hP, hK, hD0⟩ := hv
  have hx := B.exec
  have hb := B.bytes
  have hr := B.returns
  have hlocks := B.notSynchronized
  have hts0 := atoms_spec (ws := kc_M_next :: lw_g) B.pre
  have hts : ∀ w ∈ lw_g, w.before ([.ref (q 4), .int x1, .int x2] : List Value).toArray s = true := fun w hw => hts0 w (List.mem_cons_of_mem _ hw)
  have hown : s.vm.findClass kr_M = some m.cls := findClass_of_methodNamed B.named
  subst hsz
  have hD := hD0.self (sz := s.heap.size)
  generalize hAe : va_A (wW q cA z) s.heap.size = A at hD ⊢
  have hA : ∀ x : Nat, s.heap.size ≤ x → A x := fun x hx => by rw [← hAe]; exact Or.inr hx
  have hl := lv_entry ([.ref (q 4), .int x1, .int x2]) (n := 4) (Nat.le_of_ble_eq_true rfl)
  rw [lg_entry_eq]
  generalize (lg_sl ([.ref (q 4), .int x1, .int x2]) ++ List.replicate (4 - (lg_sl ([.ref (q 4), .int x1, .int x2])).length) Slot.unset).toArray = ls at hl ⊢
  have hl : lv_has ls 4 [(0, .ref (q 4)), (1, .int x1), (2, .int x2)] := hl
  exact w_M_next hx hb hml hown hts (Nat.le_refl _) (Nat.le_refl _) (Nat.zero_le _) (Nat.zero_le _) hA hK x1 x2 z K h (fun r u H locs pc ls hk hV hd => W.iret hx hb hr (fun t ht hW => ⟨⟨r, u, rfl, hk, by rw [ht]; exact hV.1, va_K.moved hW.alike hK, hV.2.1⟩, hV.2.2.F ht⟩) hV.2.2.2.2 hd) ⟨hP, hD, va_S.rf⟩ hl
section
variable {p : Program} {l : Launch} {e : Env} {R : Room} {s : State} {m : MethodId} {args : Array Value} {below : List Frame} {meth : Method} {c : Code} {Q : State → Prop} {ce sl : Nat} {D : va_G} {q : Nat → Nat} {cA : Nat → ClassId} {A : Nat → Prop}
set_option maxHeartbeats 4000000 in
set_option maxRecDepth 100000 in
theorem w_M_edge (hx : p.tables.exec = Jvm.exec) (hb : c.code = prog_6_method_10_code) (hml : c.maxLocals = 3) (hown : s.vm.findClass kr_M = some m.cls) (hts : ∀ w ∈ lw_g, w.before args s = true) (hRf : 1 ≤ R.frames) (hRl : 23 ≤ R.locals) (hce : ce ≤ R.cells) (hsl : sl ≤ R.slots) (hA : ∀ x, s.heap.size ≤ x → A x) (hK : va_K D wk_cl (tysW cA) s) (x1 : Int32) (x2 : Int32) (z : Sta) (K : Int32 → Sta → Prop) (h : wp_M_edge x1 x2 z K) (hret : ∀ (r : Int32) (u : Sta) (H : Heap) (locs : List Loc) (pc : Nat) (ls : Array Slot), K r u → (r = 0 ∨ r = 1) → wk_S D q cA A s.heap u H locs → decode prog_6_method_10_code pc = .ok (.ireturn, 1) → W p l e R s m args below meth c H locs ce sl Q (F0 m pc ls [.int r])) {H : Heap} {locs : List Loc} {ls : Array Slot} (hV : wk_S D q cA A s.heap z H locs) (hl : lv_has ls 3 [(0, .ref (q 4)), (1, .int x1), (2, .int x2)]) : W p l e R s m args below meth c H locs ce sl Q (F0 m 0 ls []) := by
  have J34 : ∀ (y0 : Int32) (z : Sta) (H : Heap) (locs : List Loc) (ls : Array Slot), wk_S D q cA A s.heap z H locs → lv_has ls 3 [] → pj_M_edge_34 K y0 z → W p l e R s m args below meth c H locs ce sl Q (F0 m 34 ls [.int y0]) := by
    intro y0 z H locs ls hV hl h
    unfold pj_M_edge_34 at h
    obtain ⟨hz, h⟩ := h
    exact hret y0 z H locs 34 ls h hz hV kd_prog_6_method_10_code_34
  have J33 : ∀ (z : Sta) (H : Heap) (locs : List Loc) (ls : Array Slot), wk_S D q cA A s.heap z H locs → lv_has ls 3 [] → pj_M_edge_33 K z → W p l e R s m args below meth c H locs ce sl Q (F0 m 33 ls []) := by
    intro z H locs ls hV hl h
    unfold pj_M_edge_33 at h
    refine lv_iconst (v := 0) hx hb kd_prog_6_method_10_code_33 (by decide) ?_
    exact J34 0 z H locs ls hV (lv_sub hl [] rfl) h
  have J29 : ∀ (z : Sta) (H : Heap) (locs : List Loc) (ls : Array Slot), wk_S D q cA A s.heap z H locs → lv_has ls 3 [] → pj_M_edge_29 K z → W p l e R s m args below meth c H locs ce sl Q (F0 m 29 ls []) := by
    intro z H locs ls hV hl h
    unfold pj_M_edge_29 at h
    refine lv_iconst (v := 1) hx hb kd_prog_6_method_10_code_29 (by decide) ?_
    refine lv_goto (tgt := 34) hx hb kd_prog_6_method_10_code_30 (by decide) ?_
    exact J34 1 z H locs ls hV (lv_sub hl [] rfl) h
  unfold wp_M_edge at h
  refine lv_aload_n hx hb kd_prog_6_method_10_code_0 rfl (lv_at hl 0 rfl) ?_
  refine va_get (D := D) (ci := 4) (v := .ref (q 36)) (C := kr_M) (T := kt_M) (N := kn_M) hx hb hts ki_M hown hK hV.1 4 rfl rfl 12 (by decide) (hts _ hw_594) (fun _ h9 => h9) rfl kd_prog_6_method_10_code_1 ?_
  refine lv_iload_n hx hb kd_prog_6_method_10_code_4 rfl (lv_at hl 1 rfl) ?_
  obtain ⟨hin, h⟩ := h
  refine va_zald hx hb hK hV.1 36 31 rfl rfl hin kd_prog_6_method_10_code_5 ?_
  refine lv_topi (fun v1 ev1 => ?_)
  have h := h v1 ev1
  refine lv_if_eq (tgt := 33) hx hb kd_prog_6_method_10_code_6 (by decide) (fun hc => ?_) (fun hc => ?_)
  · have h := h.1 hc
    exact J33 z H locs ls hV (lv_sub hl [] rfl) h
  · have h := h.2 hc
    refine lv_aload_n hx hb kd_prog_6_method_10_code_9 rfl (lv_at hl 0 rfl) ?_
    refine lv_iload_n hx hb kd_prog_6_method_10_code_10 rfl (lv_at hl 1 rfl) ?_
    refine lv_iconst (v := 0) hx hb kd_prog_6_method_10_code_11 (by decide) ?_
    refine wk_calli (va_runV (As := [.int x1, .int (0 : Int32)]) (rest := []) ⟨hx, hb, hml, hown, hts⟩ (c_M_next l D q cA x1 0 z H.size _ h) (cwV 2 hts gs_M_100 rfl rfl rfl (by decide +kernel) ⟨Nat.le_trans (by decide) hRf, Nat.le_trans (by decide) hRl⟩) (wk_preV hK hV 4 4 rfl rfl [.int x1, .int (0 : Int32)]) rfl rfl hl.1 rfl (lv_room (Nat.le_of_ble_eq_true rfl)) kd_prog_6_method_10_code_12 ⟨hce, hsl⟩) hV hA (fun rz2 z2 H locs h hV => ?_)
    refine lv_iload_n hx hb kd_prog_6_method_10_code_15 rfl (lv_at hl 2 rfl) ?_
    refine lv_icmp_eq (tgt := 29) hx hb kd_prog_6_method_10_code_16 (by decide) (fun hc => ?_) (fun hc => ?_)
    · have h := h.1 hc
      exact J29 z2 H locs ls hV (lv_sub hl [] rfl) h
    · have h := h.2 hc
      refine lv_aload_n hx hb kd_prog_6_method_10_code_19 rfl (lv_at hl 0 rfl) ?_
      refine lv_iload_n hx hb kd_prog_6_method_10_code_20 rfl (lv_at hl 1 rfl) ?_
      refine lv_iconst (v := 1) hx hb kd_prog_6_method_10_code_21 (by decide) ?_
      refine wk_calli (va_runV (As := [.int x1, .int (1 : Int32)]) (rest := []) ⟨hx, hb, hml, hown, hts⟩ (c_M_next l D q cA x1 1 z2 H.size _ h) (cwV 2 hts gs_M_100 rfl rfl rfl (by decide +kernel) ⟨Nat.le_trans (by decide) hRf, Nat.le_trans (by decide) hRl⟩) (wk_preV hK hV 4 4 rfl rfl [.int x1, .int (1 : Int32)]) rfl rfl hl.1 rfl (lv_room (Nat.le_of_ble_eq_true rfl)) kd_prog_6_method_10_code_22 ⟨hce, hsl⟩) hV hA (fun rz3 z3 H locs h hV => ?_)
      refine lv_iload_n hx hb kd_prog_6_method_10_code_25 rfl (lv_at hl 2 rfl) ?_
      refine lv_icmp_ne (tgt := 33) hx hb kd_prog_6_method_10_code_26 (by decide) (fun hc => ?_) (fun hc => ?_)
      · have h := h.1 hc
        exact J33 z3 H locs ls hV (lv_sub hl [] rfl) h
      · have h := h.2 hc
        exact J29 z3 H locs ls hV (lv_sub hl [] rfl) h
end
set_option maxHeartbeats 4000000 in
set_option maxRecDepth 100000 in
theorem c_M_edge (l : Launch) (D : va_G) (q : Nat → Nat) (cA : Nat → ClassId) (x1 : Int32) (x2 : Int32) (z : Sta) (sz : Nat) (K : Int32 → Sta → Prop) (h : wp_M_edge x1 x2 z K) : Met l ke_M_edge (kc_M_edge :: lw_g) { frames := 1, cells := 0, slots := 0, locals := 23 } (wk_Pc D q cA [.ref (q 4), .int x1, .int x2] z sz) (va_Qi K (wk_B D q cA (va_A (wW q cA z) sz)) (va_A (wW q cA z) sz)) 0 0 (va_A (wW q cA z) sz) := by
  refine Met.ofW (cc := prog_6_method_10_code) (maxL := 3) (ret := (some .boolean)) (by decide) rfl ?_
  intro p e s m args below meth c s₁ B hml hv
  obtain ⟨rfl, hsz, hP, hK, hD0⟩ := hv
  have hx := B.exec
  have hb := B.bytes
  have hr := B.returns
  have hlocks := B.notSynchronized
  have hts0 := atoms_spec (ws := kc_M_edge :: lw_g) B.pre
  have hts : ∀ w ∈ lw_g, w.before ([.ref (q 4), .int x1, .int x2] : List Value).toArray s = true := fun w hw => hts0 w (List.mem_cons_of_mem _ hw)
  have hown : s.vm.findClass kr_M = some m.cls := findClass_of_methodNamed B.named
  subst hsz
  have hD := hD0.self (sz := s.heap.size)
  generalize hAe : va_A (wW q cA z) s.heap.size = A at hD ⊢
  have hA : ∀ x : Nat, s.heap.size ≤ x → A x := fun x hx => by rw [← hAe]; exact Or.inr hx
  have hl := lv_entry ([.ref (q 4), .int x1, .int x2]) (n := 3) (Nat.le_of_ble_eq_true rfl)
  rw [lg_entry_eq]
  generalize (lg_sl ([.ref (q 4), .int x1, .int x2]) ++ List.replicate (3 - (lg_sl ([.ref (q 4), .int x1, .int x2])).length) Slot.unset).toArray = ls at hl ⊢
  have hl : lv_has ls 3 [(0, .ref (q 4)), (1, .int x1), (2, .int x2)] := hl
  exact w_M_edge hx hb hml hown hts (Nat.le_refl _) (Nat.le_refl _) (Nat.zero_le _) (Nat.zero_le _) hA hK x1 x2 z K h (fun r u H locs pc ls hk hz hV hd => W.zret (ty := .boolean) hx hb hr (by rcases hz with rfl | rfl <;> rfl) (fun t ht hW => ⟨⟨r, u, rfl, hk, by rw [ht]; exact hV.1, va_K.moved hW.alike hK, hV.2.1⟩, hV.2.2.F ht⟩) hV.2.2.2.2 hd) ⟨hP, hD, va_S.rf⟩ hl
section
variable {p : Program} {l : Launch} {e : Env} {R : Room} {s : State} {m : MethodId} {args : Array Value} {below : List Frame} {meth : Method} {c : Code} {Q : State → Prop} {ce sl : Nat} {D : va_G} {q : Nat → Nat} {cA : Nat → ClassId} {A : Nat → Prop}
set_option maxHeartbeats 4000000 in
set_option maxRecDepth 100000 in
theorem w_M_reach (hx : p.tables.exec = Jvm.exec) (hb : c.code = prog_6_method_11_code) (hml : c.maxLocals = 5) (hown : s.vm.findClass kr_M = some m.cls) (hts : ∀ w ∈ lw_g, w.before args s = true) (hRf : 1 ≤ R.frames) (hRl : 23 ≤ R.locals) (hce : ce ≤ R.cells) (hsl : sl ≤ R.slots) (hA : ∀ x, s.heap.size ≤ x → A x) (hK : va_K D wk_cl (tysW cA) s) (z : Sta) (K : Sta → Prop) (h : wp_M_reach z K) (hret : ∀ (u : Sta) (H : Heap) (locs : List Loc) (pc : Nat) (ls : Array Slot), K u → wk_S D q cA A s.heap u H locs → decode prog_6_method_11_code pc = .ok (.return_, 1) → W p l e R s m args below meth c H locs ce sl Q (F0 m pc ls [])) {H : Heap} {locs : List Loc} {ls : Array Slot} (hV : wk_S D q cA A s.heap z H locs) (hl : lv_has ls 5 [(0, .ref (q 4))]) : W p l e R s m args below meth c H locs ce sl Q (F0 m 0 ls []) := by
  have L31 : ∀ (n : Nat) (x1 : Int32) (z : Sta) (H : Heap) (locs : List Loc) (ls : Array Slot), wk_S D q cA A s.heap z H locs → lv_has ls 5 [(0, .ref (q 4)), (1, .int x1)] → lp_M_reach_31 K n x1 z → W p l e R s m args below meth c H locs ce sl Q (F0 m 31 ls []) := by
    intro n31
    induction n31 with
    | zero => intro x1 z H locs ls hV hl h; rw [lp_M_reach_31] at h; exact h.elim
    | succ n31 ih31 =>
      have L41 : ∀ (n : Nat) (x1 : Int32) (x2 : Int32) (z : Sta) (H : Heap) (locs : List Loc) (ls : Array Slot), wk_S D q cA A s.heap z H locs → lv_has ls 5 [(0, .ref (q 4)), (1, .int x1), (2, .int x2)] → lp_M_reach_41 K (fun x1 z => lp_M_reach_31 K n31 x1 z) n x1 x2 z → W p l e R s m args below meth c H locs ce sl Q (F0 m 41 ls []) := by
        intro n41
        induction n41 with
        | zero => intro x1 x2 z H locs ls hV hl h; rw [lp_M_reach_41] at h; exact h.elim
        | succ n41 ih41 =>
          have L51 : ∀ (n : Nat) (x1 : Int32) (x2 : Int32) (x3 : Int32) (z : Sta) (H : Heap) (locs : List Loc) (ls : Array Slot), wk_S D q cA A s.heap z H locs → lv_has ls 5 [(0, .ref (q 4)), (1, .int x1), (2, .int x2), (3, .int x3)] → lp_M_reach_51 K (fun x1 x2 z => lp_M_reach_41 K (fun x1 z => lp_M_reach_31 K n31 x1 z) n41 x1 x2 z) n x1 x2 x3 z → W p l e R s m args below meth c H locs ce sl Q (F0 m 51 ls []) := by
            intro n51
            induction n51 with
            | zero => intro x1 x2 x3 z H locs ls hV hl h; rw [lp_M_reach_51] at h; exact h.elim
            | succ n51 ih51 =>
              have J90 : ∀ (x1 : Int32) (x2 : Int32) (x3 : Int32) (z : Sta) (H : Heap) (locs : List Loc) (ls : Array Slot), wk_S D q cA A s.heap z H locs → lv_has ls 5 [(0, .ref (q 4)), (1, .int x1), (2, .int x2), (3, .int x3)] → pj_M_reach_90 K (fun x1 x2 x3 z => lp_M_reach_51 K (fun x1 x2 z => lp_M_reach_41 K (fun x1 z => lp_M_reach_31 K n31 x1 z) n41 x1 x2 z) n51 x1 x2 x3 z) x1 x2 x3 z → W p l e R s m args below meth c H locs ce sl Q (F0 m 90 ls []) := by
                intro x1 x2 x3 z H locs ls hV hl h
                unfold pj_M_reach_90 at h
                obtain ⟨v10, ev10⟩ : ∃ v : Int32, v = x3 + 1 := ⟨_, rfl⟩
                have h := h v10 ev10
                refine lv_iinc (v := v10) (k := 3) hx hb kd_prog_6_method_11_code_90 hl rfl (by rw [ev10]; rfl) (by decide) rfl (fun ls hl => ?_)
                have hl : lv_has ls 5 [(3, .int v10), (0, .ref (q 4)), (1, .int x1), (2, .int x2)] := hl
                refine lv_goto (tgt := 51) hx hb kd_prog_6_method_11_code_93 (by decide) ?_
                exact ih51 x1 x2 v10 z H locs ls hV (lv_sub hl [1, 2, 3, 0] rfl) h
              have J75 : ∀ (x1 : Int32) (x2 : Int32) (x3 : Int32) (y0 : Int32) (z : Sta) (H : Heap) (locs : List Loc) (ls : Array Slot), wk_S D q cA A s.heap z H locs → lv_has ls 5 [(0, .ref (q 4)), (1, .int x1), (2, .int x2), (3, .int x3)] → pj_M_reach_75 K (fun x1 x2 x3 z => lp_M_reach_51 K (fun x1 x2 z => lp_M_reach_41 K (fun x1 z => lp_M_reach_31 K n31 x1 z) n41 x1 x2 z) n51 x1 x2 x3 z) x1 x2 x3 y0 z → W p l e R s m args below meth c H locs ce sl Q (F0 m 75 ls [.int y0]) := by
                intro x1 x2 x3 y0 z H locs ls hV hl h
                unfold pj_M_reach_75 at h
                refine lv_istore hx hb kd_prog_6_method_11_code_75 hl (by decide) rfl (fun ls hl => ?_)
                have hl : lv_has ls 5 [(4, .int y0), (0, .ref (q 4)), (1, .int x1), (2, .int x2), (3, .int x3)] := hl
                refine lv_iload hx hb kd_prog_6_method_11_code_77 (lv_at hl 0 rfl) ?_
                refine lv_if_lt (tgt := 90) hx hb kd_prog_6_method_11_code_79 (by decide) (fun hc => ?_) (fun hc => ?_)
                · have h := h.1 hc
                  exact J90 x1 x2 x3 z H locs ls hV (lv_sub hl [1, 2, 3, 4] rfl) h
                · have h := h.2 hc
                  refine lv_aload_n hx hb kd_prog_6_method_11_code_82 rfl (lv_at hl 1 rfl) ?_
                  refine va_get (D := D) (ci := 4) (v := .ref (q 36)) (C := kr_M) (T := kt_M) (N := kn_M) hx hb hts ki_M hown hK hV.1 4 rfl rfl 12 (by decide) (hts _ hw_594) (fun _ h9 => h9) rfl kd_prog_6_method_11_code_83 ?_
                  refine lv_iload hx hb kd_prog_6_method_11_code_86 (lv_at hl 0 rfl) ?_
                  refine lv_iconst (v := 1) hx hb kd_prog_6_method_11_code_88 (by decide) ?_
                  obtain ⟨hin, h⟩ := h
                  refine wk_zast hx hb hK hV 36 31 21 rfl rfl (ks_36 q cA z) hin kd_prog_6_method_11_code_89 (fun H locs hV => ?_)
                  obtain ⟨z9, ez9⟩ : ∃ x : Sta, x = zA z 21 (upd (z.2.1 21) y0.toNatClampNeg (vp_nar .boolean (1 : Int32))) := ⟨_, rfl⟩
                  rw [← ez9] at hV
                  have h := h z9 ez9
                  exact J90 x1 x2 x3 z9 H locs ls hV (lv_sub hl [1, 2, 3, 4] rfl) h
              intro x1 x2 x3 z H locs ls hV hl h
              rw [lp_M_reach_51] at h
              refine lv_iload_n hx hb kd_prog_6_method_11_code_51 rfl (lv_at hl 3 rfl) ?_
              refine lv_iconst (v := 2) hx hb kd_prog_6_method_11_code_52 (by decide) ?_
              refine lv_icmp_ge (tgt := 96) hx hb kd_prog_6_method_11_code_53 (by decide) (fun hc => ?_) (fun hc => ?_)
              · have h := h.1 hc
                obtain ⟨v6, ev6⟩ : ∃ v : Int32, v = x2 + 1 := ⟨_, rfl⟩
                have h := h v6 ev6
                refine lv_iinc (v := v6) (k := 2) hx hb kd_prog_6_method_11_code_96 hl rfl (by rw [ev6]; rfl) (by decide) rfl (fun ls hl => ?_)
                have hl : lv_has ls 5 [(2, .int v6), (0, .ref (q 4)), (1, .int x1), (3, .int x3)] := hl
                refine lv_goto (tgt := 41) hx hb kd_prog_6_method_11_code_99 (by decide) ?_
                exact ih41 x1 v6 z H locs ls hV (lv_sub hl [1, 2, 0] rfl) h
              · have h := h.2 hc
                refine lv_aload_n hx hb kd_prog_6_method_11_code_56 rfl (lv_at hl 0 rfl) ?_
                refine va_get (D := D) (ci := 4) (v := .ref (q 36)) (C := kr_M) (T := kt_M) (N := kn_M) hx hb hts ki_M hown hK hV.1 4 rfl rfl 12 (by decide) (hts _ hw_594) (fun _ h9 => h9) rfl kd_prog_6_method_11_code_57 ?_
                refine lv_iload_n hx hb kd_prog_6_method_11_code_60 rfl (lv_at hl 2 rfl) ?_
                obtain ⟨hin, h⟩ := h
                refine va_zald hx hb hK hV.1 36 31 rfl rfl hin kd_prog_6_method_11_code_61 ?_
                refine lv_topi (fun v7 ev7 => ?_)
                have h := h v7 ev7
                refine lv_if_eq (tgt := 74) hx hb kd_prog_6_method_11_code_62 (by decide) (fun hc => ?_) (fun hc => ?_)
                · have h := h.1 hc
                  refine lv_iconst (v := (-1)) hx hb kd_prog_6_method_11_code_74 (by decide) ?_
                  exact J75 x1 x2 x3 (-1) z H locs ls hV (lv_sub hl [0, 1, 2, 3] rfl) h
                · have h := h.2 hc
                  refine lv_aload_n hx hb kd_prog_6_method_11_code_65 rfl (lv_at hl 0 rfl) ?_
                  refine lv_iload_n hx hb kd_prog_6_method_11_code_66 rfl (lv_at hl 2 rfl) ?_
                  refine lv_iload_n hx hb kd_prog_6_method_11_code_67 rfl (lv_at hl 3 rfl) ?_
                  refine wk_calli (va_runV (As := [.int x2, .int x3]) (rest := []) ⟨hx, hb, hml, hown, hts⟩ (c_M_next l D q cA x2 x3 z H.size _ h) (cwV 2 hts gs_M_100 rfl rfl rfl (by decide +kernel) ⟨Nat.le_trans (by decide) hRf, Nat.le_trans (by decide) hRl⟩) (wk_preV hK hV 4 4 rfl rfl [.int x2, .int x3]) rfl rfl hl.1 rfl (lv_room (Nat.le_of_ble_eq_true rfl)) kd_prog_6_method_11_code_68 ⟨hce, hsl⟩) hV hA (fun rz8 z8 H locs h hV => ?_)
                  refine lv_goto (tgt := 75) hx hb kd_prog_6_method_11_code_71 (by decide) ?_
                  exact J75 x1 x2 x3 rz8 z8 H locs ls hV (lv_sub hl [0, 1, 2, 3] rfl) h
          intro x1 x2 z H locs ls hV hl h
          rw [lp_M_reach_41] at h
          refine lv_iload_n hx hb kd_prog_6_method_11_code_41 rfl (lv_at hl 2 rfl) ?_
          refine lv_aload_n hx hb kd_prog_6_method_11_code_42 rfl (lv_at hl 0 rfl) ?_
          refine va_get (D := D) (ci := 4) (v := .int (z.1 8)) (C := kr_M) (T := kt_M) (N := kn_M) hx hb hts ki_M hown hK hV.1 4 rfl rfl 1 (by decide) (hts _ hw_583) (fun _ h9 => h9) rfl kd_prog_6_method_11_code_43 ?_
          refine lv_topi (fun v4 ev4 => ?_)
          have h := h v4 ev4
          refine lv_icmp_ge (tgt := 102) hx hb kd_prog_6_method_11_code_46 (by decide) (fun hc => ?_) (fun hc => ?_)
          · have h := h.1 hc
            obtain ⟨v5, ev5⟩ : ∃ v : Int32, v = x1 + 1 := ⟨_, rfl⟩
            have h := h v5 ev5
            refine lv_iinc (v := v5) (k := 1) hx hb kd_prog_6_method_11_code_102 hl rfl (by rw [ev5]; rfl) (by decide) rfl (fun ls hl => ?_)
            have hl : lv_has ls 5 [(1, .int v5), (0, .ref (q 4)), (2, .int x2)] := hl
            refine lv_goto (tgt := 31) hx hb kd_prog_6_method_11_code_105 (by decide) ?_
            exact ih31 v5 z H locs ls hV (lv_sub hl [1, 0] rfl) h
          · have h := h.2 hc
            refine lv_iconst (v := 0) hx hb kd_prog_6_method_11_code_49 (by decide) ?_
            refine lv_istore_n hx hb kd_prog_6_method_11_code_50 rfl hl (by decide) rfl (fun ls hl => ?_)
            have hl : lv_has ls 5 [(3, .int 0), (0, .ref (q 4)), (1, .int x1), (2, .int x2)] := hl
            obtain ⟨n51, h⟩ := h
            exact L51 n51 x1 x2 0 z H locs ls hV (lv_sub hl [1, 2, 3, 0] rfl) h
      intro x1 z H locs ls hV hl h
      rw [lp_M_reach_31] at h
      refine lv_iload_n hx hb kd_prog_6_method_11_code_31 rfl (lv_at hl 1 rfl) ?_
      refine lv_aload_n hx hb kd_prog_6_method_11_code_32 rfl (lv_at hl 0 rfl) ?_
      refine va_get (D := D) (ci := 4) (v := .int (z.1 8)) (C := kr_M) (T := kt_M) (N := kn_M) hx hb hts ki_M hown hK hV.1 4 rfl rfl 1 (by decide) (hts _ hw_583) (fun _ h9 => h9) rfl kd_prog_6_method_11_code_33 ?_
      refine lv_topi (fun v3 ev3 => ?_)
      have h := h v3 ev3
      refine lv_icmp_ge (tgt := 108) hx hb kd_prog_6_method_11_code_36 (by decide) (fun hc => ?_) (fun hc => ?_)
      · have h := h.1 hc
        exact hret z H locs 108 ls h hV kd_prog_6_method_11_code_108
      · have h := h.2 hc
        refine lv_iconst (v := 0) hx hb kd_prog_6_method_11_code_39 (by decide) ?_
        refine lv_istore_n hx hb kd_prog_6_method_11_code_40 rfl hl (by decide) rfl (fun ls hl => ?_)
        have hl : lv_has ls 5 [(2, .int 0), (0, .ref (q 4)), (1, .int x1)] := hl
        obtain ⟨n41, h⟩ := h
        exact L41 n41 x1 0 z H locs ls hV (lv_sub hl [1, 2, 0] rfl) h
  have L2 : ∀ (n : Nat) (x1 : Int32) (z : Sta) (H : Heap) (locs : List Loc) (ls : Array Slot), wk_S D q cA A s.heap z H locs → lv_has ls 5 [(0, .ref (q 4)), (1, .int x1)] → lp_M_reach_2 K n x1 z → W p l e R s m args below meth c H locs ce sl Q (F0 m 2 ls []) := by
    intro n2
    induction n2 with
    | zero => intro x1 z H locs ls hV hl h; rw [lp_M_reach_2] at h; exact h.elim
    | succ n2 ih2 =>
      have J22 : ∀ (x1 : Int32) (y0 : Int32) (y1 : Int32) (z : Sta) (H : Heap) (locs : List Loc) (ls : Array Slot), wk_S D q cA A s.heap z H locs → lv_has ls 5 [(0, .ref (q 4)), (1, .int x1)] → pj_M_reach_22 K (fun x1 z => lp_M_reach_2 K n2 x1 z) x1 y0 y1 z → W p l e R s m args below meth c H locs ce sl Q (F0 m 22 ls [.int y0, .int y1, .ref (q 36)]) := by
        intro x1 y0 y1 z H locs ls hV hl h
        unfold pj_M_reach_22 at h
        obtain ⟨hin, h⟩ := h
        refine wk_zast hx hb hK hV 36 31 21 rfl rfl (ks_36 q cA z) hin kd_prog_6_method_11_code_22 (fun H locs hV => ?_)
        obtain ⟨z1, ez1⟩ : ∃ x : Sta, x = zA z 21 (upd (z.2.1 21) y1.toNatClampNeg (vp_nar .boolean y0)) := ⟨_, rfl⟩
        rw [← ez1] at hV
        have h := h z1 ez1
        obtain ⟨v2, ev2⟩ : ∃ v : Int32, v = x1 + 1 := ⟨_, rfl⟩
        have h := h v2 ev2
        refine lv_iinc (v := v2) (k := 1) hx hb kd_prog_6_method_11_code_23 hl rfl (by rw [ev2]; rfl) (by decide) rfl (fun ls hl => ?_)
        have hl : lv_has ls 5 [(1, .int v2), (0, .ref (q 4))] := hl
        refine lv_goto (tgt := 2) hx hb kd_prog_6_method_11_code_26 (by decide) ?_
        exact ih2 v2 z1 H locs ls hV (lv_sub hl [1, 0] rfl) h
      intro x1 z H locs ls hV hl h
      rw [lp_M_reach_2] at h
      refine lv_iload_n hx hb kd_prog_6_method_11_code_2 rfl (lv_at hl 1 rfl) ?_
      refine lv_bipush (v := 16) hx hb kd_prog_6_method_11_code_3 (by decide) ?_
      refine lv_icmp_ge (tgt := 29) hx hb kd_prog_6_method_11_code_5 (by decide) (fun hc => ?_) (fun hc => ?_)
      · have h := h.1 hc
        refine lv_iconst (v := 0) hx hb kd_prog_6_method_11_code_29 (by decide) ?_
        refine lv_istore_n hx hb kd_prog_6_method_11_code_30 rfl hl (by decide) rfl (fun ls hl => ?_)
        have hl : lv_has ls 5 [(1, .int 0), (0, .ref (q 4))] := hl
        obtain ⟨n31, h⟩ := h
        exact L31 n31 0 z H locs ls hV (lv_sub hl [1, 0] rfl) h
      · have h := h.2 hc
        refine lv_aload_n hx hb kd_prog_6_method_11_code_8 rfl (lv_at hl 0 rfl) ?_
        refine va_get (D := D) (ci := 4) (v := .ref (q 36)) (C := kr_M) (T := kt_M) (N := kn_M) hx hb hts ki_M hown hK hV.1 4 rfl rfl 12 (by decide) (hts _ hw_594) (fun _ h9 => h9) rfl kd_prog_6_method_11_code_9 ?_
        refine lv_iload_n hx hb kd_prog_6_method_11_code_12 rfl (lv_at hl 1 rfl) ?_
        refine lv_iload_n hx hb kd_prog_6_method_11_code_13 rfl (lv_at hl 1 rfl) ?_
        refine lv_if_ne (tgt := 21) hx hb kd_prog_6_method_11_code_14 (by decide) (fun hc => ?_) (fun hc => ?_)
        · have h := h.1 hc
          refine lv_iconst (v := 0) hx hb kd_prog_6_method_11_code_21 (by decide) ?_
          exact J22 x1 0 x1 z H locs ls hV (lv_sub hl [0, 1] rfl) h
        · have h := h.2 hc
          refine lv_iconst (v := 1) hx hb kd_prog_6_method_11_code_17 (by decide) ?_
          refine lv_goto (tgt := 22) hx hb kd_prog_6_method_11_code_18 (by decide) ?_
          exact J22 x1 1 x1 z H locs ls hV (lv_sub hl [0, 1] rfl) h
  unfold wp_M_reach at h
  refine lv_iconst (v := 0) hx hb kd_prog_6_method_11_code_0 (by decide) ?_
  refine lv_istore_n hx hb kd_prog_6_method_11_code_1 rfl hl (by decide) rfl (fun ls hl => ?_)
  have hl : lv_has ls 5 [(1, .int 0), (0, .ref (q 4))] := hl
  obtain ⟨n2, h⟩ := h
  exact L2 n2 0 z H locs ls hV (lv_sub hl [1, 0] rfl) h
end
set_option maxHeartbeats 4000000 in
set_option maxRecDepth 100000 in
theorem c_M_reach (l : Launch) (D : va_G) (q : Nat → Nat) (cA : Nat → ClassId) (z : Sta) (sz : Nat) (K : Sta → Prop) (h : wp_M_reach z K) : Met l ke_M_reach (kc_M_reach :: lw_g) { frames := 1, cells := 0, slots := 0, locals := 23 } (wk_Pc D q cA [.ref (q 4)] z sz) (va_Qv K (wk_B D q cA (va_A (wW q cA z) sz)) (va_A (wW q cA z) sz)) 0 0 (va_A (wW q cA z) sz) := by
  refine Met.ofW (cc := prog_6_method_11_code) (maxL := 5) (ret := none) (by decide) rfl ?_
  intro p e s m args below meth c s₁ B hml hv
  obtain ⟨rfl, hsz, hP, hK, hD0⟩ := hv
  have hx := B.exec
  have hb := B.bytes
  have hr := B.returns
  have hlocks := B.notSynchronized
  have hts0 := atoms_spec (ws := kc_M_reach :: lw_g) B.pre
  have hts : ∀ w ∈ lw_g, w.before ([.ref (q 4)] : List Value).toArray s = true := fun w hw => hts0 w (List.mem_cons_of_mem _ hw)
  have hown : s.vm.findClass kr_M = some m.cls := findClass_of_methodNamed B.named
  subst hsz
  have hD := hD0.self (sz := s.heap.size)
  generalize hAe : va_A (wW q cA z) s.heap.size = A at hD ⊢
  have hA : ∀ x : Nat, s.heap.size ≤ x → A x := fun x hx => by rw [← hAe]; exact Or.inr hx
  have hl := lv_entry ([.ref (q 4)]) (n := 5) (Nat.le_of_ble_eq_true rfl)
  rw [lg_entry_eq]
  generalize (lg_sl ([.ref (q 4)]) ++ List.replicate (5 - (lg_sl ([.ref (q 4)])).length) Slot.unset).toArray = ls at hl ⊢
  have hl : lv_has ls 5 [(0, .ref (q 4))] := hl
  exact w_M_reach hx hb hml hown hts (Nat.le_refl _) (Nat.le_refl _) (Nat.zero_le _) (Nat.zero_le _) hA hK z K h (fun u H locs pc ls hk hV hd => W.vret hx hb hr (fun t ht hW => ⟨⟨u, rfl, hk, by rw [ht]; exact hV.1, va_K.moved hW.alike hK, hV.2.1⟩, hV.2.2.F ht⟩) hV.2.2.2.2 hd) ⟨hP, hD, va_S.rf⟩ hl
section
variable {p : Program} {l : Launch} {e : Env} {R : Room} {s : State} {m : MethodId} {args : Array Value} {below : List Frame} {meth : Method} {c : Code} {Q : State → Prop} {ce sl : Nat} {D : va_G} {q : Nat → Nat} {cA : Nat → ClassId} {A : Nat → Prop}
set_option maxHeartbeats 4000000 in
set_option maxRecDepth 100000 in
theorem w_M_whole (hx : p.tables.exec = Jvm.exec) (hb : c.code = prog_6_method_12_code) (hml : c.maxLocals = 3) (hown : s.vm.findClass kr_M = some m.cls) (hts : ∀ w ∈ lw_g, w.before args s = true) (hRf : 1 ≤ R.frames) (hRl : 23 ≤ R.locals) (hce : ce ≤ R.cells) (hsl : sl ≤ R.slots) (hA : ∀ x, s.heap.size ≤ x → A x) (hK : va_K D wk_cl (tysW cA) s) (z : Sta) (K : Int32 → Sta → Prop) (h : wp_M_whole z K) (hret : ∀ (r : Int32) (u : Sta) (H : Heap) (locs : List Loc) (pc : Nat) (ls : Array Slot), K r u → (r = 0 ∨ r = 1) → wk_S D q cA A s.heap u H locs → decode prog_6_method_12_code pc = .ok (.ireturn, 1) → W p l e R s m args below meth c H locs ce sl Q (F0 m pc ls [.int r])) {H : Heap} {locs : List Loc} {ls : Array Slot} (hV : wk_S D q cA A s.heap z H locs) (hl : lv_has ls 3 [(0, .ref (q 4))]) : W p l e R s m args below meth c H locs ce sl Q (F0 m 0 ls []) := by
  have L4 : ∀ (n : Nat) (x1 : Int32) (x2 : Int32) (z : Sta) (H : Heap) (locs : List Loc) (ls : Array Slot), wk_S D q cA A s.heap z H locs → lv_has ls 3 [(0, .ref (q 4)), (1, .int x1), (2, .int x2)] → lp_M_whole_4 K n x1 x2 z → W p l e R s m args below meth c H locs ce sl Q (F0 m 4 ls []) := by
    intro n4
    induction n4 with
    | zero => intro x1 x2 z H locs ls hV hl h; rw [lp_M_whole_4] at h; exact h.elim
    | succ n4 ih4 =>
      have J47 : ∀ (x2 : Int32) (y0 : Int32) (z : Sta) (H : Heap) (locs : List Loc) (ls : Array Slot), wk_S D q cA A s.heap z H locs → lv_has ls 3 [(0, .ref (q 4)), (2, .int x2)] → pj_M_whole_47 K (fun x1 x2 z => lp_M_whole_4 K n4 x1 x2 z) x2 y0 z → W p l e R s m args below meth c H locs ce sl Q (F0 m 47 ls [.int y0]) := by
        intro x2 y0 z H locs ls hV hl h
        unfold pj_M_whole_47 at h
        refine lv_istore_n hx hb kd_prog_6_method_12_code_47 rfl hl (by decide) rfl (fun ls hl => ?_)
        have hl : lv_has ls 3 [(1, .int y0), (0, .ref (q 4)), (2, .int x2)] := hl
        obtain ⟨v6, ev6⟩ : ∃ v : Int32, v = x2 + 1 := ⟨_, rfl⟩
        have h := h v6 ev6
        refine lv_iinc (v := v6) (k := 2) hx hb kd_prog_6_method_12_code_48 hl rfl (by rw [ev6]; rfl) (by decide) rfl (fun ls hl => ?_)
        have hl : lv_has ls 3 [(2, .int v6), (1, .int y0), (0, .ref (q 4))] := hl
        refine lv_goto (tgt := 4) hx hb kd_prog_6_method_12_code_51 (by decide) ?_
        exact ih4 y0 v6 z H locs ls hV (lv_sub hl [2, 1, 0] rfl) h
      have J46 : ∀ (x2 : Int32) (z : Sta) (H : Heap) (locs : List Loc) (ls : Array Slot), wk_S D q cA A s.heap z H locs → lv_has ls 3 [(0, .ref (q 4)), (2, .int x2)] → pj_M_whole_46 K (fun x1 x2 z => lp_M_whole_4 K n4 x1 x2 z) x2 z → W p l e R s m args below meth c H locs ce sl Q (F0 m 46 ls []) := by
        intro x2 z H locs ls hV hl h
        unfold pj_M_whole_46 at h
        refine lv_iconst (v := 0) hx hb kd_prog_6_method_12_code_46 (by decide) ?_
        exact J47 x2 0 z H locs ls hV (lv_sub hl [0, 1] rfl) h
      intro x1 x2 z H locs ls hV hl h
      rw [lp_M_whole_4] at h
      refine lv_iload_n hx hb kd_prog_6_method_12_code_4 rfl (lv_at hl 2 rfl) ?_
      refine lv_aload_n hx hb kd_prog_6_method_12_code_5 rfl (lv_at hl 0 rfl) ?_
      refine va_get (D := D) (ci := 4) (v := .int (z.1 8)) (C := kr_M) (T := kt_M) (N := kn_M) hx hb hts ki_M hown hK hV.1 4 rfl rfl 1 (by decide) (hts _ hw_583) (fun _ h9 => h9) rfl kd_prog_6_method_12_code_6 ?_
      refine lv_topi (fun v1 ev1 => ?_)
      have h := h v1 ev1
      refine lv_icmp_ge (tgt := 54) hx hb kd_prog_6_method_12_code_9 (by decide) (fun hc => ?_) (fun hc => ?_)
      · have h := h.1 hc
        refine lv_iload_n hx hb kd_prog_6_method_12_code_54 rfl (lv_at hl 1 rfl) ?_
        obtain ⟨hz, h⟩ := h
        exact hret x1 z H locs 55 ls h hz hV kd_prog_6_method_12_code_55
      · have h := h.2 hc
        refine lv_iload_n hx hb kd_prog_6_method_12_code_12 rfl (lv_at hl 1 rfl) ?_
        refine lv_if_eq (tgt := 46) hx hb kd_prog_6_method_12_code_13 (by decide) (fun hc => ?_) (fun hc => ?_)
        · have h := h.1 hc
          exact J46 x2 z H locs ls hV (lv_sub hl [0, 2] rfl) h
        · have h := h.2 hc
          refine lv_aload_n hx hb kd_prog_6_method_12_code_16 rfl (lv_at hl 0 rfl) ?_
          refine lv_iload_n hx hb kd_prog_6_method_12_code_17 rfl (lv_at hl 2 rfl) ?_
          refine lv_iconst (v := 0) hx hb kd_prog_6_method_12_code_18 (by decide) ?_
          refine wk_calli (va_runV (As := [.int x2, .int (0 : Int32)]) (rest := []) ⟨hx, hb, hml, hown, hts⟩ (c_M_next l D q cA x2 0 z H.size _ h) (cwV 2 hts gs_M_100 rfl rfl rfl (by decide +kernel) ⟨Nat.le_trans (by decide) hRf, Nat.le_trans (by decide) hRl⟩) (wk_preV hK hV 4 4 rfl rfl [.int x2, .int (0 : Int32)]) rfl rfl hl.1 rfl (lv_room (Nat.le_of_ble_eq_true rfl)) kd_prog_6_method_12_code_19 ⟨hce, hsl⟩) hV hA (fun rz2 z2 H locs h hV => ?_)
          refine lv_aload_n hx hb kd_prog_6_method_12_code_22 rfl (lv_at hl 0 rfl) ?_
          refine va_get (D := D) (ci := 4) (v := .int (z2.1 8)) (C := kr_M) (T := kt_M) (N := kn_M) hx hb hts ki_M hown hK hV.1 4 rfl rfl 1 (by decide) (hts _ hw_583) (fun _ h9 => h9) rfl kd_prog_6_method_12_code_23 ?_
          refine lv_topi (fun v3 ev3 => ?_)
          have h := h v3 ev3
          refine lv_icmp_ge (tgt := 46) hx hb kd_prog_6_method_12_code_26 (by decide) (fun hc => ?_) (fun hc => ?_)
          · have h := h.1 hc
            exact J46 x2 z2 H locs ls hV (lv_sub hl [0, 2] rfl) h
          · have h := h.2 hc
            refine lv_aload_n hx hb kd_prog_6_method_12_code_29 rfl (lv_at hl 0 rfl) ?_
            refine lv_iload_n hx hb kd_prog_6_method_12_code_30 rfl (lv_at hl 2 rfl) ?_
            refine lv_iconst (v := 1) hx hb kd_prog_6_method_12_code_31 (by decide) ?_
            refine wk_calli (va_runV (As := [.int x2, .int (1 : Int32)]) (rest := []) ⟨hx, hb, hml, hown, hts⟩ (c_M_next l D q cA x2 1 z2 H.size _ h) (cwV 2 hts gs_M_100 rfl rfl rfl (by decide +kernel) ⟨Nat.le_trans (by decide) hRf, Nat.le_trans (by decide) hRl⟩) (wk_preV hK hV 4 4 rfl rfl [.int x2, .int (1 : Int32)]) rfl rfl hl.1 rfl (lv_room (Nat.le_of_ble_eq_true rfl)) kd_prog_6_method_12_code_32 ⟨hce, hsl⟩) hV hA (fun rz4 z4 H locs h hV => ?_)
            refine lv_aload_n hx hb kd_prog_6_method_12_code_35 rfl (lv_at hl 0 rfl) ?_
            refine va_get (D := D) (ci := 4) (v := .int (z4.1 8)) (C := kr_M) (T := kt_M) (N := kn_M) hx hb hts ki_M hown hK hV.1 4 rfl rfl 1 (by decide) (hts _ hw_583) (fun _ h9 => h9) rfl kd_prog_6_method_12_code_36 ?_
            refine lv_topi (fun v5 ev5 => ?_)
            have h := h v5 ev5
            refine lv_icmp_ge (tgt := 46) hx hb kd_prog_6_method_12_code_39 (by decide) (fun hc => ?_) (fun hc => ?_)
            · have h := h.1 hc
              exact J46 x2 z4 H locs ls hV (lv_sub hl [0, 2] rfl) h
            · have h := h.2 hc
              refine lv_iconst (v := 1) hx hb kd_prog_6_method_12_code_42 (by decide) ?_
              refine lv_goto (tgt := 47) hx hb kd_prog_6_method_12_code_43 (by decide) ?_
              exact J47 x2 1 z4 H locs ls hV (lv_sub hl [0, 2] rfl) h
  unfold wp_M_whole at h
  refine lv_iconst (v := 1) hx hb kd_prog_6_method_12_code_0 (by decide) ?_
  refine lv_istore_n hx hb kd_prog_6_method_12_code_1 rfl hl (by decide) rfl (fun ls hl => ?_)
  have hl : lv_has ls 3 [(1, .int 1), (0, .ref (q 4))] := hl
  refine lv_iconst (v := 0) hx hb kd_prog_6_method_12_code_2 (by decide) ?_
  refine lv_istore_n hx hb kd_prog_6_method_12_code_3 rfl hl (by decide) rfl (fun ls hl => ?_)
  have hl : lv_has ls 3 [(2, .int 0), (1, .int 1), (0, .ref (q 4))] := hl
  obtain ⟨n4, h⟩ := h
  exact L4 n4 1 0 z H locs ls hV (lv_sub hl [2, 1, 0] rfl) h
end
set_option maxHeartbeats 4000000 in
set_option maxRecDepth 100000 in
theorem c_M_whole (l : Launch) (D : va_G) (q : Nat → Nat) (cA : Nat → ClassId) (z : Sta) (sz : Nat) (K : Int32 → Sta → Prop) (h : wp_M_whole z K) : Met l ke_M_whole (kc_M_whole :: lw_g) { frames := 1, cells := 0, slots := 0, locals := 23 } (wk_Pc D q cA [.ref (q 4)] z sz) (va_Qi K (wk_B D q cA (va_A (wW q cA z) sz)) (va_A (wW q cA z) sz)) 0 0 (va_A (wW q cA z) sz) := by
  refine Met.ofW (cc := prog_6_method_12_code) (maxL := 3) (ret := (some .boolean)) (by decide) rfl ?_
  intro p e s m args below meth c s₁ B hml hv
  obtain ⟨rfl, hsz, hP, hK, hD0⟩ := hv
  have hx := B.exec
  have hb := B.bytes
  have hr := B.returns
  have hlocks := B.notSynchronized
  have hts0 := atoms_spec (ws := kc_M_whole :: lw_g) B.pre
  have hts : ∀ w ∈ lw_g, w.before ([.ref (q 4)] : List Value).toArray s = true := fun w hw => hts0 w (List.mem_cons_of_mem _ hw)
  have hown : s.vm.findClass kr_M = some m.cls := findClass_of_methodNamed B.named
  subst hsz
  have hD := hD0.self (sz := s.heap.size)
  generalize hAe : va_A (wW q cA z) s.heap.size = A at hD ⊢
  have hA : ∀ x : Nat, s.heap.size ≤ x → A x := fun x hx => by rw [← hAe]; exact Or.inr hx
  have hl := lv_entry ([.ref (q 4)]) (n := 3) (Nat.le_of_ble_eq_true rfl)
  rw [lg_entry_eq]
  generalize (lg_sl ([.ref (q 4)]) ++ List.replicate (3 - (lg_sl ([.ref (q 4)])).length) Slot.unset).toArray = ls at hl ⊢
  have hl : lv_has ls 3 [(0, .ref (q 4))] := hl
  exact w_M_whole hx hb hml hown hts (Nat.le_refl _) (Nat.le_refl _) (Nat.zero_le _) (Nat.zero_le _) hA hK z K h (fun r u H locs pc ls hk hz hV hd => W.zret (ty := .boolean) hx hb hr (by rcases hz with rfl | rfl <;> rfl) (fun t ht hW => ⟨⟨r, u, rfl, hk, by rw [ht]; exact hV.1, va_K.moved hW.alike hK, hV.2.1⟩, hV.2.2.F ht⟩) hV.2.2.2.2 hd) ⟨hP, hD, va_S.rf⟩ hl
section
variable {p : Program} {l : Launch} {e : Env} {R : Room} {s : State} {m : MethodId} {args : Array Value} {below : List Frame} {meth : Method} {c : Code} {Q : State → Prop} {ce sl : Nat} {D : va_G} {q : Nat → Nat} {cA : Nat → ClassId} {A : Nat → Prop}
set_option maxHeartbeats 4000000 in
set_option maxRecDepth 100000 in
theorem w_M_gives (hx : p.tables.exec = Jvm.exec) (hb : c.code = prog_6_method_13_code) (hml : c.maxLocals = 3) (hown : s.vm.findClass kr_M = some m.cls) (hts : ∀ w ∈ lw_g, w.before args s = true) (hRf : 0 ≤ R.frames) (hRl : 0 ≤ R.locals) (hce : ce ≤ R.cells) (hsl : sl ≤ R.slots) (hA : ∀ x, s.heap.size ≤ x → A x) (hK : va_K D wk_cl (tysW cA) s) (x1 : Int32) (x2 : Int32) (z : Sta) (K : Int32 → Sta → Prop) (h : wp_M_gives x1 x2 z K) (hret : ∀ (r : Int32) (u : Sta) (H : Heap) (locs : List Loc) (pc : Nat) (ls : Array Slot), K r u → (r = 0 ∨ r = 1) → wk_S D q cA A s.heap u H locs → decode prog_6_method_13_code pc = .ok (.ireturn, 1) → W p l e R s m args below meth c H locs ce sl Q (F0 m pc ls [.int r])) {H : Heap} {locs : List Loc} {ls : Array Slot} (hV : wk_S D q cA A s.heap z H locs) (hl : lv_has ls 3 [(0, .ref (q 4)), (1, .int x1), (2, .int x2)]) : W p l e R s m args below meth c H locs ce sl Q (F0 m 0 ls []) := by
  have J49 : ∀ (y0 : Int32) (z : Sta) (H : Heap) (locs : List Loc) (ls : Array Slot), wk_S D q cA A s.heap z H locs → lv_has ls 3 [] → pj_M_gives_49 K y0 z → W p l e R s m args below meth c H locs ce sl Q (F0 m 49 ls [.int y0]) := by
    intro y0 z H locs ls hV hl h
    unfold pj_M_gives_49 at h
    obtain ⟨hz, h⟩ := h
    exact hret y0 z H locs 49 ls h hz hV kd_prog_6_method_13_code_49
  have J48 : ∀ (z : Sta) (H : Heap) (locs : List Loc) (ls : Array Slot), wk_S D q cA A s.heap z H locs → lv_has ls 3 [] → pj_M_gives_48 K z → W p l e R s m args below meth c H locs ce sl Q (F0 m 48 ls []) := by
    intro z H locs ls hV hl h
    unfold pj_M_gives_48 at h
    refine lv_iconst (v := 0) hx hb kd_prog_6_method_13_code_48 (by decide) ?_
    exact J49 0 z H locs ls hV (lv_sub hl [] rfl) h
  have J44 : ∀ (z : Sta) (H : Heap) (locs : List Loc) (ls : Array Slot), wk_S D q cA A s.heap z H locs → lv_has ls 3 [] → pj_M_gives_44 K z → W p l e R s m args below meth c H locs ce sl Q (F0 m 44 ls []) := by
    intro z H locs ls hV hl h
    unfold pj_M_gives_44 at h
    refine lv_iconst (v := 1) hx hb kd_prog_6_method_13_code_44 (by decide) ?_
    refine lv_goto (tgt := 49) hx hb kd_prog_6_method_13_code_45 (by decide) ?_
    exact J49 1 z H locs ls hV (lv_sub hl [] rfl) h
  unfold wp_M_gives at h
  refine lv_aload_n hx hb kd_prog_6_method_13_code_0 rfl (lv_at hl 0 rfl) ?_
  refine va_get (D := D) (ci := 4) (v := .ref (q 31)) (C := kr_M) (T := kt_M) (N := kn_M) hx hb hts ki_M hown hK hV.1 4 rfl rfl 3 (by decide) (hts _ hw_585) (fun _ h9 => h9) rfl kd_prog_6_method_13_code_1 ?_
  refine lv_iload_n hx hb kd_prog_6_method_13_code_4 rfl (lv_at hl 1 rfl) ?_
  obtain ⟨hin, h⟩ := h
  refine va_iald hx hb hK hV.1 31 26 rfl rfl hin kd_prog_6_method_13_code_5 ?_
  refine lv_topi (fun v1 ev1 => ?_)
  have h := h v1 ev1
  refine lv_iconst (v := 3) hx hb kd_prog_6_method_13_code_6 (by decide) ?_
  refine lv_icmp_ge (tgt := 48) hx hb kd_prog_6_method_13_code_7 (by decide) (fun hc => ?_) (fun hc => ?_)
  · have h := h.1 hc
    exact J48 z H locs ls hV (lv_sub hl [] rfl) h
  · have h := h.2 hc
    refine lv_aload_n hx hb kd_prog_6_method_13_code_10 rfl (lv_at hl 0 rfl) ?_
    refine va_get (D := D) (ci := 4) (v := .ref (q 31)) (C := kr_M) (T := kt_M) (N := kn_M) hx hb hts ki_M hown hK hV.1 4 rfl rfl 3 (by decide) (hts _ hw_585) (fun _ h9 => h9) rfl kd_prog_6_method_13_code_11 ?_
    refine lv_iload_n hx hb kd_prog_6_method_13_code_14 rfl (lv_at hl 1 rfl) ?_
    refine lv_iconst (v := 1) hx hb kd_prog_6_method_13_code_15 (by decide) ?_
    refine lv_iadd hx hb kd_prog_6_method_13_code_16 ?_
    refine lv_topi (fun v2 ev2 => ?_)
    have h := h v2 ev2
    obtain ⟨hin, h⟩ := h
    refine va_iald hx hb hK hV.1 31 26 rfl rfl hin kd_prog_6_method_13_code_17 ?_
    refine lv_topi (fun v3 ev3 => ?_)
    have h := h v3 ev3
    refine lv_aload_n hx hb kd_prog_6_method_13_code_18 rfl (lv_at hl 0 rfl) ?_
    refine va_get (D := D) (ci := 4) (v := .ref (q 33)) (C := kr_M) (T := kt_M) (N := kn_M) hx hb hts ki_M hown hK hV.1 4 rfl rfl 6 (by decide) (hts _ hw_588) (fun _ h9 => h9) rfl kd_prog_6_method_13_code_19 ?_
    refine lv_iload_n hx hb kd_prog_6_method_13_code_22 rfl (lv_at hl 2 rfl) ?_
    obtain ⟨hin, h⟩ := h
    refine va_iald hx hb hK hV.1 33 28 rfl rfl hin kd_prog_6_method_13_code_23 ?_
    refine lv_topi (fun v4 ev4 => ?_)
    have h := h v4 ev4
    refine lv_icmp_eq (tgt := 44) hx hb kd_prog_6_method_13_code_24 (by decide) (fun hc => ?_) (fun hc => ?_)
    · have h := h.1 hc
      exact J44 z H locs ls hV (lv_sub hl [] rfl) h
    · have h := h.2 hc
      refine lv_aload_n hx hb kd_prog_6_method_13_code_27 rfl (lv_at hl 0 rfl) ?_
      refine va_get (D := D) (ci := 4) (v := .ref (q 31)) (C := kr_M) (T := kt_M) (N := kn_M) hx hb hts ki_M hown hK hV.1 4 rfl rfl 3 (by decide) (hts _ hw_585) (fun _ h9 => h9) rfl kd_prog_6_method_13_code_28 ?_
      refine lv_iload_n hx hb kd_prog_6_method_13_code_31 rfl (lv_at hl 1 rfl) ?_
      refine lv_iconst (v := 1) hx hb kd_prog_6_method_13_code_32 (by decide) ?_
      refine lv_iadd hx hb kd_prog_6_method_13_code_33 ?_
      refine lv_topi (fun v5 ev5 => ?_)
      have h := h v5 ev5
      obtain ⟨hin, h⟩ := h
      refine va_iald hx hb hK hV.1 31 26 rfl rfl hin kd_prog_6_method_13_code_34 ?_
      refine lv_topi (fun v6 ev6 => ?_)
      have h := h v6 ev6
      refine lv_aload_n hx hb kd_prog_6_method_13_code_35 rfl (lv_at hl 0 rfl) ?_
      refine va_get (D := D) (ci := 4) (v := .ref (q 35)) (C := kr_M) (T := kt_M) (N := kn_M) hx hb hts ki_M hown hK hV.1 4 rfl rfl 8 (by decide) (hts _ hw_590) (fun _ h9 => h9) rfl kd_prog_6_method_13_code_36 ?_
      refine lv_iload_n hx hb kd_prog_6_method_13_code_39 rfl (lv_at hl 2 rfl) ?_
      obtain ⟨hin, h⟩ := h
      refine va_iald hx hb hK hV.1 35 30 rfl rfl hin kd_prog_6_method_13_code_40 ?_
      refine lv_topi (fun v7 ev7 => ?_)
      have h := h v7 ev7
      refine lv_icmp_ne (tgt := 48) hx hb kd_prog_6_method_13_code_41 (by decide) (fun hc => ?_) (fun hc => ?_)
      · have h := h.1 hc
        exact J48 z H locs ls hV (lv_sub hl [] rfl) h
      · have h := h.2 hc
        exact J44 z H locs ls hV (lv_sub hl [] rfl) h
end
set_option maxHeartbeats 4000000 in
set_option maxRecDepth 100000 in
theorem c_M_gives (l : Launch) (D : va_G) (q : Nat → Nat) (cA : Nat → ClassId) (x1 : Int32) (x2 : Int32) (z : Sta) (sz : Nat) (K : Int32 → Sta → Prop) (h : wp_M_gives x1 x2 z K) : Met l ke_M_gives (kc_M_gives :: lw_g) { frames := 0, cells := 0, slots := 0, locals := 0 } (wk_Pc D q cA [.ref (q 4), .int x1, .int x2] z sz) (va_Qi K (wk_B D q cA (va_A (wW q cA z) sz)) (va_A (wW q cA z) sz)) 0 0 (va_A (wW q cA z) sz) := by
  refine Met.ofW (cc := prog_6_method_13_code) (maxL := 3) (ret := (some .boolean)) (by decide) rfl ?_
  intro p e s m args below meth c s₁ B hml hv
  obtain ⟨rfl, hsz, hP, hK, hD0⟩ := hv
  have hx := B.exec
  have hb := B.bytes
  have hr := B.returns
  have hlocks := B.notSynchronized
  have hts0 := atoms_spec (ws := kc_M_gives :: lw_g) B.pre
  have hts : ∀ w ∈ lw_g, w.before ([.ref (q 4), .int x1, .int x2] : List Value).toArray s = true := fun w hw => hts0 w (List.mem_cons_of_mem _ hw)
  have hown : s.vm.findClass kr_M = some m.cls := findClass_of_methodNamed B.named
  subst hsz
  have hD := hD0.self (sz := s.heap.size)
  generalize hAe : va_A (wW q cA z) s.heap.size = A at hD ⊢
  have hA : ∀ x : Nat, s.heap.size ≤ x → A x := fun x hx => by rw [← hAe]; exact Or.inr hx
  have hl := lv_entry ([.ref (q 4), .int x1, .int x2]) (n := 3) (Nat.le_of_ble_eq_true rfl)
  rw [lg_entry_eq]
  generalize (lg_sl ([.ref (q 4), .int x1, .int x2]) ++ List.replicate (3 - (lg_sl ([.ref (q 4), .int x1, .int x2])).length) Slot.unset).toArray = ls at hl ⊢
  have hl : lv_has ls 3 [(0, .ref (q 4)), (1, .int x1), (2, .int x2)] := hl
  exact w_M_gives hx hb hml hown hts (Nat.le_refl _) (Nat.le_refl _) (Nat.zero_le _) (Nat.zero_le _) hA hK x1 x2 z K h (fun r u H locs pc ls hk hz hV hd => W.zret (ty := .boolean) hx hb hr (by rcases hz with rfl | rfl <;> rfl) (fun t ht hW => ⟨⟨r, u, rfl, hk, by rw [ht]; exact hV.1, va_K.moved hW.alike hK, hV.2.1⟩, hV.2.2.F ht⟩) hV.2.2.2.2 hd) ⟨hP, hD, va_S.rf⟩ hl
section
variable {p : Program} {l : Launch} {e : Env} {R : Room} {s : State} {m : MethodId} {args : Array Value} {below : List Frame} {meth : Method} {c : Code} {Q : State → Prop} {ce sl : Nat} {D : va_G} {q : Nat → Nat} {cA : Nat → ClassId} {A : Nat → Prop}
set_option maxHeartbeats 4000000 in
set_option maxRecDepth 100000 in
theorem w_M_look (hx : p.tables.exec = Jvm.exec) (hb : c.code = prog_6_method_14_code) (hml : c.maxLocals = 6) (hown : s.vm.findClass kr_M = some m.cls) (hts : ∀ w ∈ lw_g, w.before args s = true) (hRf : 1 ≤ R.frames) (hRl : 22 ≤ R.locals) (hce : ce ≤ R.cells) (hsl : sl ≤ R.slots) (hA : ∀ x, s.heap.size ≤ x → A x) (hK : va_K D wk_cl (tysW cA) s) (x1 : Int32) (x2 : Int32) (z : Sta) (K : Sta → Prop) (h : wp_M_look x1 x2 z K) (hret : ∀ (u : Sta) (H : Heap) (locs : List Loc) (pc : Nat) (ls : Array Slot), K u → wk_S D q cA A s.heap u H locs → decode prog_6_method_14_code pc = .ok (.return_, 1) → W p l e R s m args below meth c H locs ce sl Q (F0 m pc ls [])) {H : Heap} {locs : List Loc} {ls : Array Slot} (hV : wk_S D q cA A s.heap z H locs) (hl : lv_has ls 6 [(0, .ref (q 4)), (1, .int x1), (2, .int x2)]) : W p l e R s m args below meth c H locs ce sl Q (F0 m 0 ls []) := by
  have L23 : ∀ (n : Nat) (x1 : Int32) (x2 : Int32) (x3 : Int32) (z : Sta) (H : Heap) (locs : List Loc) (ls : Array Slot), wk_S D q cA A s.heap z H locs → lv_has ls 6 [(0, .ref (q 4)), (1, .int x1), (2, .int x2), (3, .int x3)] → lp_M_look_23 K n x1 x2 x3 z → W p l e R s m args below meth c H locs ce sl Q (F0 m 23 ls []) := by
    intro n23
    induction n23 with
    | zero => intro x1 x2 x3 z H locs ls hV hl h; rw [lp_M_look_23] at h; exact h.elim
    | succ n23 ih23 =>
      have J173 : ∀ (x1 : Int32) (x2 : Int32) (x3 : Int32) (y0 : Int32) (y1 : Int32) (z : Sta) (H : Heap) (locs : List Loc) (ls : Array Slot), wk_S D q cA A s.heap z H locs → lv_has ls 6 [(0, .ref (q 4)), (1, .int x1), (2, .int x2), (3, .int x3)] → pj_M_look_173 K (fun x1 x2 x3 z => lp_M_look_23 K n23 x1 x2 x3 z) x1 x2 x3 y0 y1 z → W p l e R s m args below meth c H locs ce sl Q (F0 m 173 ls [.int y0, .int y1, .ref (q 39)]) := by
        intro x1 x2 x3 y0 y1 z H locs ls hV hl h
        unfold pj_M_look_173 at h
        obtain ⟨hin, h⟩ := h
        refine wk_zast hx hb hK hV 39 34 24 rfl rfl (ks_39 q cA z) hin kd_prog_6_method_14_code_173 (fun H locs hV => ?_)
        obtain ⟨z18, ez18⟩ : ∃ x : Sta, x = zA z 24 (upd (z.2.1 24) y1.toNatClampNeg (vp_nar .boolean y0)) := ⟨_, rfl⟩
        rw [← ez18] at hV
        have h := h z18 ez18
        obtain ⟨v19, ev19⟩ : ∃ v : Int32, v = x3 + 1 := ⟨_, rfl⟩
        have h := h v19 ev19
        refine lv_iinc (v := v19) (k := 3) hx hb kd_prog_6_method_14_code_174 hl rfl (by rw [ev19]; rfl) (by decide) rfl (fun ls hl => ?_)
        have hl : lv_has ls 6 [(3, .int v19), (0, .ref (q 4)), (1, .int x1), (2, .int x2)] := hl
        refine lv_goto (tgt := 23) hx hb kd_prog_6_method_14_code_177 (by decide) ?_
        exact ih23 x1 x2 v19 z18 H locs ls hV (lv_sub hl [1, 2, 3, 0] rfl) h
      have J168 : ∀ (x1 : Int32) (x2 : Int32) (x3 : Int32) (y0 : Int32) (z : Sta) (H : Heap) (locs : List Loc) (ls : Array Slot), wk_S D q cA A s.heap z H locs → lv_has ls 6 [(0, .ref (q 4)), (1, .int x1), (2, .int x2), (3, .int x3)] → pj_M_look_168 K (fun x1 x2 x3 z => lp_M_look_23 K n23 x1 x2 x3 z) x1 x2 x3 y0 z → W p l e R s m args below meth c H locs ce sl Q (F0 m 168 ls [.int y0, .ref (q 39)]) := by
        intro x1 x2 x3 y0 z H locs ls hV hl h
        unfold pj_M_look_168 at h
        refine lv_iconst (v := 1) hx hb kd_prog_6_method_14_code_168 (by decide) ?_
        refine lv_goto (tgt := 173) hx hb kd_prog_6_method_14_code_169 (by decide) ?_
        exact J173 x1 x2 x3 1 y0 z H locs ls hV (lv_sub hl [0, 1, 2, 3] rfl) h
      have J143 : ∀ (x1 : Int32) (x2 : Int32) (x3 : Int32) (x4 : Int32) (y0 : Int32) (y1 : Int32) (z : Sta) (H : Heap) (locs : List Loc) (ls : Array Slot), wk_S D q cA A s.heap z H locs → lv_has ls 6 [(0, .ref (q 4)), (1, .int x1), (2, .int x2), (3, .int x3), (4, .int x4)] → pj_M_look_143 K (fun x1 x2 x3 z => lp_M_look_23 K n23 x1 x2 x3 z) x1 x2 x3 x4 y0 y1 z → W p l e R s m args below meth c H locs ce sl Q (F0 m 143 ls [.int y0, .int y1, .ref (q 41)]) := by
        intro x1 x2 x3 x4 y0 y1 z H locs ls hV hl h
        unfold pj_M_look_143 at h
        obtain ⟨hin, h⟩ := h
        refine wk_zast hx hb hK hV 41 36 26 rfl rfl (ks_41 q cA z) hin kd_prog_6_method_14_code_143 (fun H locs hV => ?_)
        obtain ⟨z15, ez15⟩ : ∃ x : Sta, x = zA z 26 (upd (z.2.1 26) y1.toNatClampNeg (vp_nar .boolean y0)) := ⟨_, rfl⟩
        rw [← ez15] at hV
        have h := h z15 ez15
        refine lv_aload_n hx hb kd_prog_6_method_14_code_144 rfl (lv_at hl 0 rfl) ?_
        refine va_get (D := D) (ci := 4) (v := .ref (q 39)) (C := kr_M) (T := kt_M) (N := kn_M) hx hb hts ki_M hown hK hV.1 4 rfl rfl 15 (by decide) (hts _ hw_597) (fun _ h9 => h9) rfl kd_prog_6_method_14_code_145 ?_
        refine lv_iload_n hx hb kd_prog_6_method_14_code_148 rfl (lv_at hl 1 rfl) ?_
        refine lv_aload_n hx hb kd_prog_6_method_14_code_149 rfl (lv_at hl 0 rfl) ?_
        refine va_get (D := D) (ci := 4) (v := .ref (q 39)) (C := kr_M) (T := kt_M) (N := kn_M) hx hb hts ki_M hown hK hV.1 4 rfl rfl 15 (by decide) (hts _ hw_597) (fun _ h9 => h9) rfl kd_prog_6_method_14_code_150 ?_
        refine lv_iload_n hx hb kd_prog_6_method_14_code_153 rfl (lv_at hl 1 rfl) ?_
        obtain ⟨hin, h⟩ := h
        refine va_zald hx hb hK hV.1 39 34 rfl rfl hin kd_prog_6_method_14_code_154 ?_
        refine lv_topi (fun v16 ev16 => ?_)
        have h := h v16 ev16
        refine lv_if_ne (tgt := 168) hx hb kd_prog_6_method_14_code_155 (by decide) (fun hc => ?_) (fun hc => ?_)
        · have h := h.1 hc
          exact J168 x1 x2 x3 x1 z15 H locs ls hV (lv_sub hl [0, 1, 2, 3] rfl) h
        · have h := h.2 hc
          refine lv_aload_n hx hb kd_prog_6_method_14_code_158 rfl (lv_at hl 0 rfl) ?_
          refine lv_iload hx hb kd_prog_6_method_14_code_159 (lv_at hl 4 rfl) ?_
          refine lv_iload_n hx hb kd_prog_6_method_14_code_161 rfl (lv_at hl 2 rfl) ?_
          refine wk_calli (va_runV (As := [.int x4, .int x2]) (rest := [.int x1, .ref (q 39)]) ⟨hx, hb, hml, hown, hts⟩ (c_M_gives l D q cA x4 x2 z15 H.size _ h) (cwV 2 hts gs_M_104 rfl rfl rfl (by decide +kernel) ⟨Nat.le_trans (by decide) hRf, Nat.le_trans (by decide) hRl⟩) (wk_preV hK hV 4 4 rfl rfl [.int x4, .int x2]) rfl rfl hl.1 rfl (lv_room (Nat.le_of_ble_eq_true rfl)) kd_prog_6_method_14_code_162 ⟨hce, hsl⟩) hV hA (fun rz17 z17 H locs h hV => ?_)
          refine lv_if_eq (tgt := 172) hx hb kd_prog_6_method_14_code_165 (by decide) (fun hc => ?_) (fun hc => ?_)
          · have h := h.1 hc
            refine lv_iconst (v := 0) hx hb kd_prog_6_method_14_code_172 (by decide) ?_
            exact J173 x1 x2 x3 0 x1 z17 H locs ls hV (lv_sub hl [0, 1, 2, 3] rfl) h
          · have h := h.2 hc
            exact J168 x1 x2 x3 x1 z17 H locs ls hV (lv_sub hl [0, 1, 2, 3] rfl) h
      have J142 : ∀ (x1 : Int32) (x2 : Int32) (x3 : Int32) (x4 : Int32) (y0 : Int32) (z : Sta) (H : Heap) (locs : List Loc) (ls : Array Slot), wk_S D q cA A s.heap z H locs → lv_has ls 6 [(0, .ref (q 4)), (1, .int x1), (2, .int x2), (3, .int x3), (4, .int x4)] → pj_M_look_142 K (fun x1 x2 x3 z => lp_M_look_23 K n23 x1 x2 x3 z) x1 x2 x3 x4 y0 z → W p l e R s m args below meth c H locs ce sl Q (F0 m 142 ls [.int y0, .ref (q 41)]) := by
        intro x1 x2 x3 x4 y0 z H locs ls hV hl h
        unfold pj_M_look_142 at h
        refine lv_iconst (v := 0) hx hb kd_prog_6_method_14_code_142 (by decide) ?_
        exact J143 x1 x2 x3 x4 0 y0 z H locs ls hV (lv_sub hl [0, 1, 2, 3, 4] rfl) h
      have J128 : ∀ (x1 : Int32) (x2 : Int32) (x3 : Int32) (x4 : Int32) (y0 : Int32) (z : Sta) (H : Heap) (locs : List Loc) (ls : Array Slot), wk_S D q cA A s.heap z H locs → lv_has ls 6 [(0, .ref (q 4)), (1, .int x1), (2, .int x2), (3, .int x3), (4, .int x4)] → pj_M_look_128 K (fun x1 x2 x3 z => lp_M_look_23 K n23 x1 x2 x3 z) x1 x2 x3 x4 y0 z → W p l e R s m args below meth c H locs ce sl Q (F0 m 128 ls [.int y0, .ref (q 41)]) := by
        intro x1 x2 x3 x4 y0 z H locs ls hV hl h
        unfold pj_M_look_128 at h
        refine lv_aload_n hx hb kd_prog_6_method_14_code_128 rfl (lv_at hl 0 rfl) ?_
        refine lv_iload hx hb kd_prog_6_method_14_code_129 (lv_at hl 4 rfl) ?_
        refine lv_iload_n hx hb kd_prog_6_method_14_code_131 rfl (lv_at hl 2 rfl) ?_
        refine wk_calli (va_runV (As := [.int x4, .int x2]) (rest := [.int y0, .ref (q 41)]) ⟨hx, hb, hml, hown, hts⟩ (c_M_gives l D q cA x4 x2 z H.size _ h) (cwV 2 hts gs_M_104 rfl rfl rfl (by decide +kernel) ⟨Nat.le_trans (by decide) hRf, Nat.le_trans (by decide) hRl⟩) (wk_preV hK hV 4 4 rfl rfl [.int x4, .int x2]) rfl rfl hl.1 rfl (lv_room (Nat.le_of_ble_eq_true rfl)) kd_prog_6_method_14_code_132 ⟨hce, hsl⟩) hV hA (fun rz20 z20 H locs h hV => ?_)
        refine lv_if_ne (tgt := 142) hx hb kd_prog_6_method_14_code_135 (by decide) (fun hc => ?_) (fun hc => ?_)
        · have h := h.1 hc
          exact J142 x1 x2 x3 x4 y0 z20 H locs ls hV (lv_sub hl [0, 1, 2, 3, 4] rfl) h
        · have h := h.2 hc
          refine lv_iconst (v := 1) hx hb kd_prog_6_method_14_code_138 (by decide) ?_
          refine lv_goto (tgt := 143) hx hb kd_prog_6_method_14_code_139 (by decide) ?_
          exact J143 x1 x2 x3 x4 1 y0 z20 H locs ls hV (lv_sub hl [0, 1, 2, 3, 4] rfl) h
      have J108 : ∀ (x1 : Int32) (x2 : Int32) (x3 : Int32) (x4 : Int32) (x5 : Int32) (y0 : Int32) (y1 : Int32) (z : Sta) (H : Heap) (locs : List Loc) (ls : Array Slot), wk_S D q cA A s.heap z H locs → lv_has ls 6 [(0, .ref (q 4)), (1, .int x1), (2, .int x2), (3, .int x3), (4, .int x4), (5, .int x5)] → pj_M_look_108 K (fun x1 x2 x3 z => lp_M_look_23 K n23 x1 x2 x3 z) x1 x2 x3 x4 x5 y0 y1 z → W p l e R s m args below meth c H locs ce sl Q (F0 m 108 ls [.int y0, .int y1, .ref (q 40)]) := by
        intro x1 x2 x3 x4 x5 y0 y1 z H locs ls hV hl h
        unfold pj_M_look_108 at h
        obtain ⟨hin, h⟩ := h
        refine wk_zast hx hb hK hV 40 35 25 rfl rfl (ks_40 q cA z) hin kd_prog_6_method_14_code_108 (fun H locs hV => ?_)
        obtain ⟨z13, ez13⟩ : ∃ x : Sta, x = zA z 25 (upd (z.2.1 25) y1.toNatClampNeg (vp_nar .boolean y0)) := ⟨_, rfl⟩
        rw [← ez13] at hV
        have h := h z13 ez13
        refine lv_aload_n hx hb kd_prog_6_method_14_code_109 rfl (lv_at hl 0 rfl) ?_
        refine va_get (D := D) (ci := 4) (v := .ref (q 41)) (C := kr_M) (T := kt_M) (N := kn_M) hx hb hts ki_M hown hK hV.1 4 rfl rfl 17 (by decide) (hts _ hw_599) (fun _ h9 => h9) rfl kd_prog_6_method_14_code_110 ?_
        refine lv_iload_n hx hb kd_prog_6_method_14_code_113 rfl (lv_at hl 1 rfl) ?_
        refine lv_aload_n hx hb kd_prog_6_method_14_code_114 rfl (lv_at hl 0 rfl) ?_
        refine va_get (D := D) (ci := 4) (v := .ref (q 41)) (C := kr_M) (T := kt_M) (N := kn_M) hx hb hts ki_M hown hK hV.1 4 rfl rfl 17 (by decide) (hts _ hw_599) (fun _ h9 => h9) rfl kd_prog_6_method_14_code_115 ?_
        refine lv_iload_n hx hb kd_prog_6_method_14_code_118 rfl (lv_at hl 1 rfl) ?_
        obtain ⟨hin, h⟩ := h
        refine va_zald hx hb hK hV.1 41 36 rfl rfl hin kd_prog_6_method_14_code_119 ?_
        refine lv_topi (fun v14 ev14 => ?_)
        have h := h v14 ev14
        refine lv_if_ne (tgt := 128) hx hb kd_prog_6_method_14_code_120 (by decide) (fun hc => ?_) (fun hc => ?_)
        · have h := h.1 hc
          exact J128 x1 x2 x3 x4 x1 z13 H locs ls hV (lv_sub hl [0, 1, 2, 3, 4] rfl) h
        · have h := h.2 hc
          refine lv_iload hx hb kd_prog_6_method_14_code_123 (lv_at hl 5 rfl) ?_
          refine lv_if_eq (tgt := 142) hx hb kd_prog_6_method_14_code_125 (by decide) (fun hc => ?_) (fun hc => ?_)
          · have h := h.1 hc
            exact J142 x1 x2 x3 x4 x1 z13 H locs ls hV (lv_sub hl [0, 1, 2, 3, 4] rfl) h
          · have h := h.2 hc
            exact J128 x1 x2 x3 x4 x1 z13 H locs ls hV (lv_sub hl [0, 1, 2, 3, 4] rfl) h
      have J107 : ∀ (x1 : Int32) (x2 : Int32) (x3 : Int32) (x4 : Int32) (x5 : Int32) (y0 : Int32) (z : Sta) (H : Heap) (locs : List Loc) (ls : Array Slot), wk_S D q cA A s.heap z H locs → lv_has ls 6 [(0, .ref (q 4)), (1, .int x1), (2, .int x2), (3, .int x3), (4, .int x4), (5, .int x5)] → pj_M_look_107 K (fun x1 x2 x3 z => lp_M_look_23 K n23 x1 x2 x3 z) x1 x2 x3 x4 x5 y0 z → W p l e R s m args below meth c H locs ce sl Q (F0 m 107 ls [.int y0, .ref (q 40)]) := by
        intro x1 x2 x3 x4 x5 y0 z H locs ls hV hl h
        unfold pj_M_look_107 at h
        refine lv_iconst (v := 0) hx hb kd_prog_6_method_14_code_107 (by decide) ?_
        exact J108 x1 x2 x3 x4 x5 0 y0 z H locs ls hV (lv_sub hl [0, 1, 2, 3, 4, 5] rfl) h
      have J103 : ∀ (x1 : Int32) (x2 : Int32) (x3 : Int32) (x4 : Int32) (x5 : Int32) (y0 : Int32) (z : Sta) (H : Heap) (locs : List Loc) (ls : Array Slot), wk_S D q cA A s.heap z H locs → lv_has ls 6 [(0, .ref (q 4)), (1, .int x1), (2, .int x2), (3, .int x3), (4, .int x4), (5, .int x5)] → pj_M_look_103 K (fun x1 x2 x3 z => lp_M_look_23 K n23 x1 x2 x3 z) x1 x2 x3 x4 x5 y0 z → W p l e R s m args below meth c H locs ce sl Q (F0 m 103 ls [.int y0, .ref (q 40)]) := by
        intro x1 x2 x3 x4 x5 y0 z H locs ls hV hl h
        unfold pj_M_look_103 at h
        refine lv_iconst (v := 1) hx hb kd_prog_6_method_14_code_103 (by decide) ?_
        refine lv_goto (tgt := 108) hx hb kd_prog_6_method_14_code_104 (by decide) ?_
        exact J108 x1 x2 x3 x4 x5 1 y0 z H locs ls hV (lv_sub hl [0, 1, 2, 3, 4, 5] rfl) h
      have J73 : ∀ (x1 : Int32) (x2 : Int32) (x3 : Int32) (x4 : Int32) (y0 : Int32) (z : Sta) (H : Heap) (locs : List Loc) (ls : Array Slot), wk_S D q cA A s.heap z H locs → lv_has ls 6 [(0, .ref (q 4)), (1, .int x1), (2, .int x2), (3, .int x3), (4, .int x4)] → pj_M_look_73 K (fun x1 x2 x3 z => lp_M_look_23 K n23 x1 x2 x3 z) x1 x2 x3 x4 y0 z → W p l e R s m args below meth c H locs ce sl Q (F0 m 73 ls [.int y0]) := by
        intro x1 x2 x3 x4 y0 z H locs ls hV hl h
        unfold pj_M_look_73 at h
        refine lv_istore hx hb kd_prog_6_method_14_code_73 hl (by decide) rfl (fun ls hl => ?_)
        have hl : lv_has ls 6 [(5, .int y0), (0, .ref (q 4)), (1, .int x1), (2, .int x2), (3, .int x3), (4, .int x4)] := hl
        refine lv_aload_n hx hb kd_prog_6_method_14_code_75 rfl (lv_at hl 1 rfl) ?_
        refine va_get (D := D) (ci := 4) (v := .ref (q 40)) (C := kr_M) (T := kt_M) (N := kn_M) hx hb hts ki_M hown hK hV.1 4 rfl rfl 16 (by decide) (hts _ hw_598) (fun _ h9 => h9) rfl kd_prog_6_method_14_code_76 ?_
        refine lv_iload_n hx hb kd_prog_6_method_14_code_79 rfl (lv_at hl 2 rfl) ?_
        refine lv_aload_n hx hb kd_prog_6_method_14_code_80 rfl (lv_at hl 1 rfl) ?_
        refine va_get (D := D) (ci := 4) (v := .ref (q 40)) (C := kr_M) (T := kt_M) (N := kn_M) hx hb hts ki_M hown hK hV.1 4 rfl rfl 16 (by decide) (hts _ hw_598) (fun _ h9 => h9) rfl kd_prog_6_method_14_code_81 ?_
        refine lv_iload_n hx hb kd_prog_6_method_14_code_84 rfl (lv_at hl 2 rfl) ?_
        obtain ⟨hin, h⟩ := h
        refine va_zald hx hb hK hV.1 40 35 rfl rfl hin kd_prog_6_method_14_code_85 ?_
        refine lv_topi (fun v11 ev11 => ?_)
        have h := h v11 ev11
        refine lv_if_ne (tgt := 103) hx hb kd_prog_6_method_14_code_86 (by decide) (fun hc => ?_) (fun hc => ?_)
        · have h := h.1 hc
          exact J103 x1 x2 x3 x4 y0 x1 z H locs ls hV (lv_sub hl [1, 2, 3, 4, 5, 0] rfl) h
        · have h := h.2 hc
          refine lv_iload hx hb kd_prog_6_method_14_code_89 (lv_at hl 0 rfl) ?_
          refine lv_if_eq (tgt := 107) hx hb kd_prog_6_method_14_code_91 (by decide) (fun hc => ?_) (fun hc => ?_)
          · have h := h.1 hc
            exact J107 x1 x2 x3 x4 y0 x1 z H locs ls hV (lv_sub hl [1, 2, 3, 4, 5, 0] rfl) h
          · have h := h.2 hc
            refine lv_aload_n hx hb kd_prog_6_method_14_code_94 rfl (lv_at hl 1 rfl) ?_
            refine va_get (D := D) (ci := 4) (v := .ref (q 39)) (C := kr_M) (T := kt_M) (N := kn_M) hx hb hts ki_M hown hK hV.1 4 rfl rfl 15 (by decide) (hts _ hw_597) (fun _ h9 => h9) rfl kd_prog_6_method_14_code_95 ?_
            refine lv_iload_n hx hb kd_prog_6_method_14_code_98 rfl (lv_at hl 2 rfl) ?_
            obtain ⟨hin, h⟩ := h
            refine va_zald hx hb hK hV.1 39 34 rfl rfl hin kd_prog_6_method_14_code_99 ?_
            refine lv_topi (fun v12 ev12 => ?_)
            have h := h v12 ev12
            refine lv_if_ne (tgt := 107) hx hb kd_prog_6_method_14_code_100 (by decide) (fun hc => ?_) (fun hc => ?_)
            · have h := h.1 hc
              exact J107 x1 x2 x3 x4 y0 x1 z H locs ls hV (lv_sub hl [1, 2, 3, 4, 5, 0] rfl) h
            · have h := h.2 hc
              exact J103 x1 x2 x3 x4 y0 x1 z H locs ls hV (lv_sub hl [1, 2, 3, 4, 5, 0] rfl) h
      have J72 : ∀ (x1 : Int32) (x2 : Int32) (x3 : Int32) (x4 : Int32) (z : Sta) (H : Heap) (locs : List Loc) (ls : Array Slot), wk_S D q cA A s.heap z H locs → lv_has ls 6 [(0, .ref (q 4)), (1, .int x1), (2, .int x2), (3, .int x3), (4, .int x4)] → pj_M_look_72 K (fun x1 x2 x3 z => lp_M_look_23 K n23 x1 x2 x3 z) x1 x2 x3 x4 z → W p l e R s m args below meth c H locs ce sl Q (F0 m 72 ls []) := by
        intro x1 x2 x3 x4 z H locs ls hV hl h
        unfold pj_M_look_72 at h
        refine lv_iconst (v := 0) hx hb kd_prog_6_method_14_code_72 (by decide) ?_
        exact J73 x1 x2 x3 x4 0 z H locs ls hV (lv_sub hl [0, 1, 2, 3, 4] rfl) h
      intro x1 x2 x3 z H locs ls hV hl h
      rw [lp_M_look_23] at h
      refine lv_iload_n hx hb kd_prog_6_method_14_code_23 rfl (lv_at hl 3 rfl) ?_
      refine lv_aload_n hx hb kd_prog_6_method_14_code_24 rfl (lv_at hl 0 rfl) ?_
      refine va_get (D := D) (ci := 4) (v := .ref (q 30)) (C := kr_M) (T := kt_M) (N := kn_M) hx hb hts ki_M hown hK hV.1 4 rfl rfl 2 (by decide) (hts _ hw_584) (fun _ h9 => h9) rfl kd_prog_6_method_14_code_25 ?_
      refine lv_iload_n hx hb kd_prog_6_method_14_code_28 rfl (lv_at hl 1 rfl) ?_
      obtain ⟨hin, h⟩ := h
      refine va_iald hx hb hK hV.1 30 25 rfl rfl hin kd_prog_6_method_14_code_29 ?_
      refine lv_topi (fun v4 ev4 => ?_)
      have h := h v4 ev4
      refine lv_icmp_ge (tgt := 180) hx hb kd_prog_6_method_14_code_30 (by decide) (fun hc => ?_) (fun hc => ?_)
      · have h := h.1 hc
        exact hret z H locs 180 ls h hV kd_prog_6_method_14_code_180
      · have h := h.2 hc
        refine lv_bipush (v := 30) hx hb kd_prog_6_method_14_code_33 (by decide) ?_
        refine lv_iload_n hx hb kd_prog_6_method_14_code_35 rfl (lv_at hl 1 rfl) ?_
        refine lv_imul hx hb kd_prog_6_method_14_code_36 ?_
        refine lv_topi (fun v5 ev5 => ?_)
        have h := h v5 ev5
        refine lv_bipush (v := 6) hx hb kd_prog_6_method_14_code_37 (by decide) ?_
        refine lv_iload_n hx hb kd_prog_6_method_14_code_39 rfl (lv_at hl 3 rfl) ?_
        refine lv_imul hx hb kd_prog_6_method_14_code_40 ?_
        refine lv_topi (fun v6 ev6 => ?_)
        have h := h v6 ev6
        refine lv_iadd hx hb kd_prog_6_method_14_code_41 ?_
        refine lv_topi (fun v7 ev7 => ?_)
        have h := h v7 ev7
        refine lv_istore hx hb kd_prog_6_method_14_code_42 hl (by decide) rfl (fun ls hl => ?_)
        have hl : lv_has ls 6 [(4, .int v7), (0, .ref (q 4)), (1, .int x1), (2, .int x2), (3, .int x3)] := hl
        refine lv_aload_n hx hb kd_prog_6_method_14_code_44 rfl (lv_at hl 1 rfl) ?_
        refine va_get (D := D) (ci := 4) (v := .ref (q 31)) (C := kr_M) (T := kt_M) (N := kn_M) hx hb hts ki_M hown hK hV.1 4 rfl rfl 3 (by decide) (hts _ hw_585) (fun _ h9 => h9) rfl kd_prog_6_method_14_code_45 ?_
        refine lv_iload hx hb kd_prog_6_method_14_code_48 (lv_at hl 0 rfl) ?_
        obtain ⟨hin, h⟩ := h
        refine va_iald hx hb hK hV.1 31 26 rfl rfl hin kd_prog_6_method_14_code_50 ?_
        refine lv_topi (fun v8 ev8 => ?_)
        have h := h v8 ev8
        refine lv_iconst (v := 2) hx hb kd_prog_6_method_14_code_51 (by decide) ?_
        refine lv_icmp_ne (tgt := 72) hx hb kd_prog_6_method_14_code_52 (by decide) (fun hc => ?_) (fun hc => ?_)
        · have h := h.1 hc
          exact J72 x1 x2 x3 v7 z H locs ls hV (lv_sub hl [1, 2, 3, 4, 0] rfl) h
        · have h := h.2 hc
          refine lv_aload_n hx hb kd_prog_6_method_14_code_55 rfl (lv_at hl 1 rfl) ?_
          refine va_get (D := D) (ci := 4) (v := .ref (q 31)) (C := kr_M) (T := kt_M) (N := kn_M) hx hb hts ki_M hown hK hV.1 4 rfl rfl 3 (by decide) (hts _ hw_585) (fun _ h9 => h9) rfl kd_prog_6_method_14_code_56 ?_
          refine lv_iload hx hb kd_prog_6_method_14_code_59 (lv_at hl 0 rfl) ?_
          refine lv_iconst (v := 5) hx hb kd_prog_6_method_14_code_61 (by decide) ?_
          refine lv_iadd hx hb kd_prog_6_method_14_code_62 ?_
          refine lv_topi (fun v9 ev9 => ?_)
          have h := h v9 ev9
          obtain ⟨hin, h⟩ := h
          refine va_iald hx hb hK hV.1 31 26 rfl rfl hin kd_prog_6_method_14_code_63 ?_
          refine lv_topi (fun v10 ev10 => ?_)
          have h := h v10 ev10
          refine lv_iload_n hx hb kd_prog_6_method_14_code_64 rfl (lv_at hl 3 rfl) ?_
          refine lv_icmp_ne (tgt := 72) hx hb kd_prog_6_method_14_code_65 (by decide) (fun hc => ?_) (fun hc => ?_)
          · have h := h.1 hc
            exact J72 x1 x2 x3 v7 z H locs ls hV (lv_sub hl [1, 2, 3, 4, 0] rfl) h
          · have h := h.2 hc
            refine lv_iconst (v := 1) hx hb kd_prog_6_method_14_code_68 (by decide) ?_
            refine lv_goto (tgt := 73) hx hb kd_prog_6_method_14_code_69 (by decide) ?_
            exact J73 x1 x2 x3 v7 1 z H locs ls hV (lv_sub hl [1, 2, 3, 4, 0] rfl) h
  unfold wp_M_look at h
  refine lv_aload_n hx hb kd_prog_6_method_14_code_0 rfl (lv_at hl 0 rfl) ?_
  refine va_get (D := D) (ci := 4) (v := .ref (q 39)) (C := kr_M) (T := kt_M) (N := kn_M) hx hb hts ki_M hown hK hV.1 4 rfl rfl 15 (by decide) (hts _ hw_597) (fun _ h9 => h9) rfl kd_prog_6_method_14_code_1 ?_
  refine lv_iload_n hx hb kd_prog_6_method_14_code_4 rfl (lv_at hl 1 rfl) ?_
  refine lv_iconst (v := 0) hx hb kd_prog_6_method_14_code_5 (by decide) ?_
  obtain ⟨hin, h⟩ := h
  refine wk_zast hx hb hK hV 39 34 24 rfl rfl (ks_39 q cA z) hin kd_prog_6_method_14_code_6 (fun H locs hV => ?_)
  obtain ⟨z1, ez1⟩ : ∃ x : Sta, x = zA z 24 (upd (z.2.1 24) x1.toNatClampNeg (vp_nar .boolean (0 : Int32))) := ⟨_, rfl⟩
  rw [← ez1] at hV
  have h := h z1 ez1
  refine lv_aload_n hx hb kd_prog_6_method_14_code_7 rfl (lv_at hl 0 rfl) ?_
  refine va_get (D := D) (ci := 4) (v := .ref (q 40)) (C := kr_M) (T := kt_M) (N := kn_M) hx hb hts ki_M hown hK hV.1 4 rfl rfl 16 (by decide) (hts _ hw_598) (fun _ h9 => h9) rfl kd_prog_6_method_14_code_8 ?_
  refine lv_iload_n hx hb kd_prog_6_method_14_code_11 rfl (lv_at hl 1 rfl) ?_
  refine lv_iconst (v := 0) hx hb kd_prog_6_method_14_code_12 (by decide) ?_
  obtain ⟨hin, h⟩ := h
  refine wk_zast hx hb hK hV 40 35 25 rfl rfl (ks_40 q cA z1) hin kd_prog_6_method_14_code_13 (fun H locs hV => ?_)
  obtain ⟨z2, ez2⟩ : ∃ x : Sta, x = zA z1 25 (upd (z1.2.1 25) x1.toNatClampNeg (vp_nar .boolean (0 : Int32))) := ⟨_, rfl⟩
  rw [← ez2] at hV
  have h := h z2 ez2
  refine lv_aload_n hx hb kd_prog_6_method_14_code_14 rfl (lv_at hl 0 rfl) ?_
  refine va_get (D := D) (ci := 4) (v := .ref (q 41)) (C := kr_M) (T := kt_M) (N := kn_M) hx hb hts ki_M hown hK hV.1 4 rfl rfl 17 (by decide) (hts _ hw_599) (fun _ h9 => h9) rfl kd_prog_6_method_14_code_15 ?_
  refine lv_iload_n hx hb kd_prog_6_method_14_code_18 rfl (lv_at hl 1 rfl) ?_
  refine lv_iconst (v := 0) hx hb kd_prog_6_method_14_code_19 (by decide) ?_
  obtain ⟨hin, h⟩ := h
  refine wk_zast hx hb hK hV 41 36 26 rfl rfl (ks_41 q cA z2) hin kd_prog_6_method_14_code_20 (fun H locs hV => ?_)
  obtain ⟨z3, ez3⟩ : ∃ x : Sta, x = zA z2 26 (upd (z2.2.1 26) x1.toNatClampNeg (vp_nar .boolean (0 : Int32))) := ⟨_, rfl⟩
  rw [← ez3] at hV
  have h := h z3 ez3
  refine lv_iconst (v := 0) hx hb kd_prog_6_method_14_code_21 (by decide) ?_
  refine lv_istore_n hx hb kd_prog_6_method_14_code_22 rfl hl (by decide) rfl (fun ls hl => ?_)
  have hl : lv_has ls 6 [(3, .int 0), (0, .ref (q 4)), (1, .int x1), (2, .int x2)] := hl
  obtain ⟨n23, h⟩ := h
  exact L23 n23 x1 x2 0 z3 H locs ls hV (lv_sub hl [1, 2, 3, 0] rfl) h
end
set_option maxHeartbeats 4000000 in
set_option maxRecDepth 100000 in
theorem c_M_look (l : Launch) (D : va_G) (q : Nat → Nat) (cA : Nat → ClassId) (x1 : Int32) (x2 : Int32) (z : Sta) (sz : Nat) (K : Sta → Prop) (h : wp_M_look x1 x2 z K) : Met l ke_M_look (kc_M_look :: lw_g) { frames := 1, cells := 0, slots := 0, locals := 22 } (wk_Pc D q cA [.ref (q 4), .int x1, .int x2] z sz) (va_Qv K (wk_B D q cA (va_A (wW q cA z) sz)) (va_A (wW q cA z) sz)) 0 0 (va_A (wW q cA z) sz) := by
  refine Met.ofW (cc := prog_6_method_14_code) (maxL := 6) (ret := none) (by decide) rfl ?_
  intro p e s m args below meth c s₁ B hml hv
  obtain ⟨rfl, hsz, hP, hK, hD0⟩ := hv
  have hx := B.exec
  have hb := B.bytes
  have hr := B.returns
  have hlocks := B.notSynchronized
  have hts0 := atoms_spec (ws := kc_M_look :: lw_g) B.pre
  have hts : ∀ w ∈ lw_g, w.before ([.ref (q 4), .int x1, .int x2] : List Value).toArray s = true := fun w hw => hts0 w (List.mem_cons_of_mem _ hw)
  have hown : s.vm.findClass kr_M = some m.cls := findClass_of_methodNamed B.named
  subst hsz
  have hD := hD0.self (sz := s.heap.size)
  generalize hAe : va_A (wW q cA z) s.heap.size = A at hD ⊢
  have hA : ∀ x : Nat, s.heap.size ≤ x → A x := fun x hx => by rw [← hAe]; exact Or.inr hx
  have hl := lv_entry ([.ref (q 4), .int x1, .int x2]) (n := 6) (Nat.le_of_ble_eq_true rfl)
  rw [lg_entry_eq]
  generalize (lg_sl ([.ref (q 4), .int x1, .int x2]) ++ List.replicate (6 - (lg_sl ([.ref (q 4), .int x1, .int x2])).length) Slot.unset).toArray = ls at hl ⊢
  have hl : lv_has ls 6 [(0, .ref (q 4)), (1, .int x1), (2, .int x2)] := hl
  exact w_M_look hx hb hml hown hts (Nat.le_refl _) (Nat.le_refl _) (Nat.zero_le _) (Nat.zero_le _) hA hK x1 x2 z K h (fun u H locs pc ls hk hV hd => W.vret hx hb hr (fun t ht hW => ⟨⟨u, rfl, hk, by rw [ht]; exact hV.1, va_K.moved hW.alike hK, hV.2.1⟩, hV.2.2.F ht⟩) hV.2.2.2.2 hd) ⟨hP, hD, va_S.rf⟩ hl
section
variable {p : Program} {l : Launch} {e : Env} {R : Room} {s : State} {m : MethodId} {args : Array Value} {below : List Frame} {meth : Method} {c : Code} {Q : State → Prop} {ce sl : Nat} {D : va_G} {q : Nat → Nat} {cA : Nat → ClassId} {A : Nat → Prop}
set_option maxHeartbeats 4000000 in
set_option maxRecDepth 100000 in
theorem w_M_thereBefore (hx : p.tables.exec = Jvm.exec) (hb : c.code = prog_6_method_15_code) (hml : c.maxLocals = 4) (hown : s.vm.findClass kr_M = some m.cls) (hts : ∀ w ∈ lw_g, w.before args s = true) (hRf : 2 ≤ R.frames) (hRl : 45 ≤ R.locals) (hce : ce ≤ R.cells) (hsl : sl ≤ R.slots) (hA : ∀ x, s.heap.size ≤ x → A x) (hK : va_K D wk_cl (tysW cA) s) (x1 : Int32) (z : Sta) (K : Int32 → Sta → Prop) (h : wp_M_thereBefore x1 z K) (hret : ∀ (r : Int32) (u : Sta) (H : Heap) (locs : List Loc) (pc : Nat) (ls : Array Slot), K r u → (r = 0 ∨ r = 1) → wk_S D q cA A s.heap u H locs → decode prog_6_method_15_code pc = .ok (.ireturn, 1) → W p l e R s m args below meth c H locs ce sl Q (F0 m pc ls [.int r])) {H : Heap} {locs : List Loc} {ls : Array Slot} (hV : wk_S D q cA A s.heap z H locs) (hl : lv_has ls 4 [(0, .ref (q 4)), (1, .int x1)]) : W p l e R s m args below meth c H locs ce sl Q (F0 m 0 ls []) := by
  have L12 : ∀ (n : Nat) (x1 : Int32) (x2 : Int32) (x3 : Int32) (z : Sta) (H : Heap) (locs : List Loc) (ls : Array Slot), wk_S D q cA A s.heap z H locs → lv_has ls 4 [(0, .ref (q 4)), (1, .int x1), (2, .int x2), (3, .int x3)] → lp_M_thereBefore_12 K n x1 x2 x3 z → W p l e R s m args below meth c H locs ce sl Q (F0 m 12 ls []) := by
    intro n12
    induction n12 with
    | zero => intro x1 x2 x3 z H locs ls hV hl h; rw [lp_M_thereBefore_12] at h; exact h.elim
    | succ n12 ih12 =>
      have J47 : ∀ (x1 : Int32) (x3 : Int32) (y0 : Int32) (z : Sta) (H : Heap) (locs : List Loc) (ls : Array Slot), wk_S D q cA A s.heap z H locs → lv_has ls 4 [(0, .ref (q 4)), (1, .int x1), (3, .int x3)] → pj_M_thereBefore_47 K (fun x1 x2 x3 z => lp_M_thereBefore_12 K n12 x1 x2 x3 z) x1 x3 y0 z → W p l e R s m args below meth c H locs ce sl Q (F0 m 47 ls [.int y0]) := by
        intro x1 x3 y0 z H locs ls hV hl h
        unfold pj_M_thereBefore_47 at h
        refine lv_istore_n hx hb kd_prog_6_method_15_code_47 rfl hl (by decide) rfl (fun ls hl => ?_)
        have hl : lv_has ls 4 [(2, .int y0), (0, .ref (q 4)), (1, .int x1), (3, .int x3)] := hl
        obtain ⟨v4, ev4⟩ : ∃ v : Int32, v = x3 + 1 := ⟨_, rfl⟩
        have h := h v4 ev4
        refine lv_iinc (v := v4) (k := 3) hx hb kd_prog_6_method_15_code_48 hl rfl (by rw [ev4]; rfl) (by decide) rfl (fun ls hl => ?_)
        have hl : lv_has ls 4 [(3, .int v4), (2, .int y0), (0, .ref (q 4)), (1, .int x1)] := hl
        refine lv_goto (tgt := 12) hx hb kd_prog_6_method_15_code_51 (by decide) ?_
        exact ih12 x1 y0 v4 z H locs ls hV (lv_sub hl [2, 3, 1, 0] rfl) h
      have J46 : ∀ (x1 : Int32) (x3 : Int32) (z : Sta) (H : Heap) (locs : List Loc) (ls : Array Slot), wk_S D q cA A s.heap z H locs → lv_has ls 4 [(0, .ref (q 4)), (1, .int x1), (3, .int x3)] → pj_M_thereBefore_46 K (fun x1 x2 x3 z => lp_M_thereBefore_12 K n12 x1 x2 x3 z) x1 x3 z → W p l e R s m args below meth c H locs ce sl Q (F0 m 46 ls []) := by
        intro x1 x3 z H locs ls hV hl h
        unfold pj_M_thereBefore_46 at h
        refine lv_iconst (v := 0) hx hb kd_prog_6_method_15_code_46 (by decide) ?_
        exact J47 x1 x3 0 z H locs ls hV (lv_sub hl [0, 1, 2] rfl) h
      have J42 : ∀ (x1 : Int32) (x3 : Int32) (z : Sta) (H : Heap) (locs : List Loc) (ls : Array Slot), wk_S D q cA A s.heap z H locs → lv_has ls 4 [(0, .ref (q 4)), (1, .int x1), (3, .int x3)] → pj_M_thereBefore_42 K (fun x1 x2 x3 z => lp_M_thereBefore_12 K n12 x1 x2 x3 z) x1 x3 z → W p l e R s m args below meth c H locs ce sl Q (F0 m 42 ls []) := by
        intro x1 x3 z H locs ls hV hl h
        unfold pj_M_thereBefore_42 at h
        refine lv_iconst (v := 1) hx hb kd_prog_6_method_15_code_42 (by decide) ?_
        refine lv_goto (tgt := 47) hx hb kd_prog_6_method_15_code_43 (by decide) ?_
        exact J47 x1 x3 1 z H locs ls hV (lv_sub hl [0, 1, 2] rfl) h
      intro x1 x2 x3 z H locs ls hV hl h
      rw [lp_M_thereBefore_12] at h
      refine lv_iload_n hx hb kd_prog_6_method_15_code_12 rfl (lv_at hl 3 rfl) ?_
      refine lv_aload_n hx hb kd_prog_6_method_15_code_13 rfl (lv_at hl 0 rfl) ?_
      refine va_get (D := D) (ci := 4) (v := .int (z.1 8)) (C := kr_M) (T := kt_M) (N := kn_M) hx hb hts ki_M hown hK hV.1 4 rfl rfl 1 (by decide) (hts _ hw_583) (fun _ h9 => h9) rfl kd_prog_6_method_15_code_14 ?_
      refine lv_topi (fun v1 ev1 => ?_)
      have h := h v1 ev1
      refine lv_icmp_ge (tgt := 54) hx hb kd_prog_6_method_15_code_17 (by decide) (fun hc => ?_) (fun hc => ?_)
      · have h := h.1 hc
        refine lv_iload_n hx hb kd_prog_6_method_15_code_54 rfl (lv_at hl 2 rfl) ?_
        obtain ⟨hz, h⟩ := h
        exact hret x2 z H locs 55 ls h hz hV kd_prog_6_method_15_code_55
      · have h := h.2 hc
        refine lv_iload_n hx hb kd_prog_6_method_15_code_20 rfl (lv_at hl 2 rfl) ?_
        refine lv_if_eq (tgt := 46) hx hb kd_prog_6_method_15_code_21 (by decide) (fun hc => ?_) (fun hc => ?_)
        · have h := h.1 hc
          exact J46 x1 x3 z H locs ls hV (lv_sub hl [0, 1, 3] rfl) h
        · have h := h.2 hc
          refine lv_aload_n hx hb kd_prog_6_method_15_code_24 rfl (lv_at hl 0 rfl) ?_
          refine lv_iload_n hx hb kd_prog_6_method_15_code_25 rfl (lv_at hl 3 rfl) ?_
          refine lv_iload_n hx hb kd_prog_6_method_15_code_26 rfl (lv_at hl 1 rfl) ?_
          refine wk_calli (va_runV (As := [.int x3, .int x1]) (rest := []) ⟨hx, hb, hml, hown, hts⟩ (c_M_edge l D q cA x3 x1 z H.size _ h) (cwV 2 hts gs_M_108 rfl rfl rfl (by decide +kernel) ⟨Nat.le_trans (by decide) hRf, Nat.le_trans (by decide) hRl⟩) (wk_preV hK hV 4 4 rfl rfl [.int x3, .int x1]) rfl rfl hl.1 rfl (lv_room (Nat.le_of_ble_eq_true rfl)) kd_prog_6_method_15_code_27 ⟨hce, hsl⟩) hV hA (fun rz2 z2 H locs h hV => ?_)
          refine lv_if_eq (tgt := 42) hx hb kd_prog_6_method_15_code_30 (by decide) (fun hc => ?_) (fun hc => ?_)
          · have h := h.1 hc
            exact J42 x1 x3 z2 H locs ls hV (lv_sub hl [0, 1, 3] rfl) h
          · have h := h.2 hc
            refine lv_aload_n hx hb kd_prog_6_method_15_code_33 rfl (lv_at hl 0 rfl) ?_
            refine va_get (D := D) (ci := 4) (v := .ref (q 43)) (C := kr_M) (T := kt_M) (N := kn_M) hx hb hts ki_M hown hK hV.1 4 rfl rfl 19 (by decide) (hts _ hw_601) (fun _ h9 => h9) rfl kd_prog_6_method_15_code_34 ?_
            refine lv_iload_n hx hb kd_prog_6_method_15_code_37 rfl (lv_at hl 3 rfl) ?_
            obtain ⟨hin, h⟩ := h
            refine va_zald hx hb hK hV.1 43 38 rfl rfl hin kd_prog_6_method_15_code_38 ?_
            refine lv_topi (fun v3 ev3 => ?_)
            have h := h v3 ev3
            refine lv_if_eq (tgt := 46) hx hb kd_prog_6_method_15_code_39 (by decide) (fun hc => ?_) (fun hc => ?_)
            · have h := h.1 hc
              exact J46 x1 x3 z2 H locs ls hV (lv_sub hl [0, 1, 3] rfl) h
            · have h := h.2 hc
              exact J42 x1 x3 z2 H locs ls hV (lv_sub hl [0, 1, 3] rfl) h
  have J9 : ∀ (x1 : Int32) (y0 : Int32) (z : Sta) (H : Heap) (locs : List Loc) (ls : Array Slot), wk_S D q cA A s.heap z H locs → lv_has ls 4 [(0, .ref (q 4)), (1, .int x1)] → pj_M_thereBefore_9 K x1 y0 z → W p l e R s m args below meth c H locs ce sl Q (F0 m 9 ls [.int y0]) := by
    intro x1 y0 z H locs ls hV hl h
    unfold pj_M_thereBefore_9 at h
    refine lv_istore_n hx hb kd_prog_6_method_15_code_9 rfl hl (by decide) rfl (fun ls hl => ?_)
    have hl : lv_has ls 4 [(2, .int y0), (0, .ref (q 4)), (1, .int x1)] := hl
    refine lv_iconst (v := 0) hx hb kd_prog_6_method_15_code_10 (by decide) ?_
    refine lv_istore_n hx hb kd_prog_6_method_15_code_11 rfl hl (by decide) rfl (fun ls hl => ?_)
    have hl : lv_has ls 4 [(3, .int 0), (2, .int y0), (0, .ref (q 4)), (1, .int x1)] := hl
    obtain ⟨n12, h⟩ := h
    exact L12 n12 x1 y0 0 z H locs ls hV (lv_sub hl [2, 3, 1, 0] rfl) h
  unfold wp_M_thereBefore at h
  refine lv_iload_n hx hb kd_prog_6_method_15_code_0 rfl (lv_at hl 1 rfl) ?_
  refine lv_if_le (tgt := 8) hx hb kd_prog_6_method_15_code_1 (by decide) (fun hc => ?_) (fun hc => ?_)
  · have h := h.1 hc
    refine lv_iconst (v := 0) hx hb kd_prog_6_method_15_code_8 (by decide) ?_
    exact J9 x1 0 z H locs ls hV (lv_sub hl [0, 1] rfl) h
  · have h := h.2 hc
    refine lv_iconst (v := 1) hx hb kd_prog_6_method_15_code_4 (by decide) ?_
    refine lv_goto (tgt := 9) hx hb kd_prog_6_method_15_code_5 (by decide) ?_
    exact J9 x1 1 z H locs ls hV (lv_sub hl [0, 1] rfl) h
end
set_option maxHeartbeats 4000000 in
set_option maxRecDepth 100000 in
theorem c_M_thereBefore (l : Launch) (D : va_G) (q : Nat → Nat) (cA : Nat → ClassId) (x1 : Int32) (z : Sta) (sz : Nat) (K : Int32 → Sta → Prop) (h : wp_M_thereBefore x1 z K) : Met l ke_M_thereBefore (kc_M_thereBefore :: lw_g) { frames := 2, cells := 0, slots := 0, locals := 45 } (wk_Pc D q cA [.ref (q 4), .int x1] z sz) (va_Qi K (wk_B D q cA (va_A (wW q cA z) sz)) (va_A (wW q cA z) sz)) 0 0 (va_A (wW q cA z) sz) := by
  refine Met.ofW (cc := prog_6_method_15_code) (maxL := 4) (ret := (some .boolean)) (by decide) rfl ?_
  intro p e s m args below meth c s₁ B hml hv
  obtain ⟨rfl, hsz, hP, hK, hD0⟩ := hv
  have hx := B.exec
  have hb := B.bytes
  have hr := B.returns
  have hlocks := B.notSynchronized
  have hts0 := atoms_spec (ws := kc_M_thereBefore :: lw_g) B.pre
  have hts : ∀ w ∈ lw_g, w.before ([.ref (q 4), .int x1] : List Value).toArray s = true := fun w hw => hts0 w (List.mem_cons_of_mem _ hw)
  have hown : s.vm.findClass kr_M = some m.cls := findClass_of_methodNamed B.named
  subst hsz
  have hD := hD0.self (sz := s.heap.size)
  generalize hAe : va_A (wW q cA z) s.heap.size = A at hD ⊢
  have hA : ∀ x : Nat, s.heap.size ≤ x → A x := fun x hx => by rw [← hAe]; exact Or.inr hx
  have hl := lv_entry ([.ref (q 4), .int x1]) (n := 4) (Nat.le_of_ble_eq_true rfl)
  rw [lg_entry_eq]
  generalize (lg_sl ([.ref (q 4), .int x1]) ++ List.replicate (4 - (lg_sl ([.ref (q 4), .int x1])).length) Slot.unset).toArray = ls at hl ⊢
  have hl : lv_has ls 4 [(0, .ref (q 4)), (1, .int x1)] := hl
  exact w_M_thereBefore hx hb hml hown hts (Nat.le_refl _) (Nat.le_refl _) (Nat.zero_le _) (Nat.zero_le _) hA hK x1 z K h (fun r u H locs pc ls hk hz hV hd => W.zret (ty := .boolean) hx hb hr (by rcases hz with rfl | rfl <;> rfl) (fun t ht hW => ⟨⟨r, u, rfl, hk, by rw [ht]; exact hV.1, va_K.moved hW.alike hK, hV.2.1⟩, hV.2.2.F ht⟩) hV.2.2.2.2 hd) ⟨hP, hD, va_S.rf⟩ hl
section
variable {p : Program} {l : Launch} {e : Env} {R : Room} {s : State} {m : MethodId} {args : Array Value} {below : List Frame} {meth : Method} {c : Code} {Q : State → Prop} {ce sl : Nat} {D : va_G} {q : Nat → Nat} {cA : Nat → ClassId} {A : Nat → Prop}
set_option maxHeartbeats 4000000 in
set_option maxRecDepth 100000 in
theorem w_M_wantedBehind (hx : p.tables.exec = Jvm.exec) (hb : c.code = prog_6_method_16_code) (hml : c.maxLocals = 6) (hown : s.vm.findClass kr_M = some m.cls) (hts : ∀ w ∈ lw_g, w.before args s = true) (hRf : 1 ≤ R.frames) (hRl : 23 ≤ R.locals) (hce : ce ≤ R.cells) (hsl : sl ≤ R.slots) (hA : ∀ x, s.heap.size ≤ x → A x) (hK : va_K D wk_cl (tysW cA) s) (x1 : Int32) (z : Sta) (K : Int32 → Sta → Prop) (h : wp_M_wantedBehind x1 z K) (hret : ∀ (r : Int32) (u : Sta) (H : Heap) (locs : List Loc) (pc : Nat) (ls : Array Slot), K r u → (r = 0 ∨ r = 1) → wk_S D q cA A s.heap u H locs → decode prog_6_method_16_code pc = .ok (.ireturn, 1) → W p l e R s m args below meth c H locs ce sl Q (F0 m pc ls [.int r])) {H : Heap} {locs : List Loc} {ls : Array Slot} (hV : wk_S D q cA A s.heap z H locs) (hl : lv_has ls 6 [(0, .ref (q 4)), (1, .int x1)]) : W p l e R s m args below meth c H locs ce sl Q (F0 m 0 ls []) := by
  have J81 : ∀ (y0 : Int32) (z : Sta) (H : Heap) (locs : List Loc) (ls : Array Slot), wk_S D q cA A s.heap z H locs → lv_has ls 6 [] → pj_M_wantedBehind_81 K y0 z → W p l e R s m args below meth c H locs ce sl Q (F0 m 81 ls [.int y0]) := by
    intro y0 z H locs ls hV hl h
    unfold pj_M_wantedBehind_81 at h
    obtain ⟨hz, h⟩ := h
    exact hret y0 z H locs 81 ls h hz hV kd_prog_6_method_16_code_81
  have J80 : ∀ (z : Sta) (H : Heap) (locs : List Loc) (ls : Array Slot), wk_S D q cA A s.heap z H locs → lv_has ls 6 [] → pj_M_wantedBehind_80 K z → W p l e R s m args below meth c H locs ce sl Q (F0 m 80 ls []) := by
    intro z H locs ls hV hl h
    unfold pj_M_wantedBehind_80 at h
    refine lv_iconst (v := 0) hx hb kd_prog_6_method_16_code_80 (by decide) ?_
    exact J81 0 z H locs ls hV (lv_sub hl [] rfl) h
  have L7 : ∀ (n : Nat) (x1 : Int32) (x2 : Int32) (x3 : Int32) (x4 : Int32) (z : Sta) (H : Heap) (locs : List Loc) (ls : Array Slot), wk_S D q cA A s.heap z H locs → lv_has ls 6 [(0, .ref (q 4)), (1, .int x1), (2, .int x2), (3, .int x3), (4, .int x4)] → lp_M_wantedBehind_7 K n x1 x2 x3 x4 z → W p l e R s m args below meth c H locs ce sl Q (F0 m 7 ls []) := by
    intro n7
    induction n7 with
    | zero => intro x1 x2 x3 x4 z H locs ls hV hl h; rw [lp_M_wantedBehind_7] at h; exact h.elim
    | succ n7 ih7 =>
      have J61 : ∀ (x1 : Int32) (x2 : Int32) (x4 : Int32) (y0 : Int32) (z : Sta) (H : Heap) (locs : List Loc) (ls : Array Slot), wk_S D q cA A s.heap z H locs → lv_has ls 6 [(0, .ref (q 4)), (1, .int x1), (2, .int x2), (4, .int x4)] → pj_M_wantedBehind_61 K (fun x1 x2 x3 x4 z => lp_M_wantedBehind_7 K n7 x1 x2 x3 x4 z) x1 x2 x4 y0 z → W p l e R s m args below meth c H locs ce sl Q (F0 m 61 ls [.int y0]) := by
        intro x1 x2 x4 y0 z H locs ls hV hl h
        unfold pj_M_wantedBehind_61 at h
        refine lv_istore_n hx hb kd_prog_6_method_16_code_61 rfl hl (by decide) rfl (fun ls hl => ?_)
        have hl : lv_has ls 6 [(3, .int y0), (0, .ref (q 4)), (1, .int x1), (2, .int x2), (4, .int x4)] := hl
        obtain ⟨v3, ev3⟩ : ∃ v : Int32, v = x4 + 1 := ⟨_, rfl⟩
        have h := h v3 ev3
        refine lv_iinc (v := v3) (k := 4) hx hb kd_prog_6_method_16_code_62 hl rfl (by rw [ev3]; rfl) (by decide) rfl (fun ls hl => ?_)
        have hl : lv_has ls 6 [(4, .int v3), (3, .int y0), (0, .ref (q 4)), (1, .int x1), (2, .int x2)] := hl
        refine lv_goto (tgt := 7) hx hb kd_prog_6_method_16_code_65 (by decide) ?_
        exact ih7 x1 x2 y0 v3 z H locs ls hV (lv_sub hl [2, 3, 4, 1, 0] rfl) h
      have J60 : ∀ (x1 : Int32) (x2 : Int32) (x4 : Int32) (z : Sta) (H : Heap) (locs : List Loc) (ls : Array Slot), wk_S D q cA A s.heap z H locs → lv_has ls 6 [(0, .ref (q 4)), (1, .int x1), (2, .int x2), (4, .int x4)] → pj_M_wantedBehind_60 K (fun x1 x2 x3 x4 z => lp_M_wantedBehind_7 K n7 x1 x2 x3 x4 z) x1 x2 x4 z → W p l e R s m args below meth c H locs ce sl Q (F0 m 60 ls []) := by
        intro x1 x2 x4 z H locs ls hV hl h
        unfold pj_M_wantedBehind_60 at h
        refine lv_iconst (v := 0) hx hb kd_prog_6_method_16_code_60 (by decide) ?_
        exact J61 x1 x2 x4 0 z H locs ls hV (lv_sub hl [0, 1, 2, 3] rfl) h
      have J56 : ∀ (x1 : Int32) (x2 : Int32) (x4 : Int32) (z : Sta) (H : Heap) (locs : List Loc) (ls : Array Slot), wk_S D q cA A s.heap z H locs → lv_has ls 6 [(0, .ref (q 4)), (1, .int x1), (2, .int x2), (4, .int x4)] → pj_M_wantedBehind_56 K (fun x1 x2 x3 x4 z => lp_M_wantedBehind_7 K n7 x1 x2 x3 x4 z) x1 x2 x4 z → W p l e R s m args below meth c H locs ce sl Q (F0 m 56 ls []) := by
        intro x1 x2 x4 z H locs ls hV hl h
        unfold pj_M_wantedBehind_56 at h
        refine lv_iconst (v := 1) hx hb kd_prog_6_method_16_code_56 (by decide) ?_
        refine lv_goto (tgt := 61) hx hb kd_prog_6_method_16_code_57 (by decide) ?_
        exact J61 x1 x2 x4 1 z H locs ls hV (lv_sub hl [0, 1, 2, 3] rfl) h
      have J36 : ∀ (x1 : Int32) (x3 : Int32) (x4 : Int32) (x5 : Int32) (y0 : Int32) (z : Sta) (H : Heap) (locs : List Loc) (ls : Array Slot), wk_S D q cA A s.heap z H locs → lv_has ls 6 [(0, .ref (q 4)), (1, .int x1), (3, .int x3), (4, .int x4), (5, .int x5)] → pj_M_wantedBehind_36 K (fun x1 x2 x3 x4 z => lp_M_wantedBehind_7 K n7 x1 x2 x3 x4 z) x1 x3 x4 x5 y0 z → W p l e R s m args below meth c H locs ce sl Q (F0 m 36 ls [.int y0]) := by
        intro x1 x3 x4 x5 y0 z H locs ls hV hl h
        unfold pj_M_wantedBehind_36 at h
        refine lv_istore_n hx hb kd_prog_6_method_16_code_36 rfl hl (by decide) rfl (fun ls hl => ?_)
        have hl : lv_has ls 6 [(2, .int y0), (0, .ref (q 4)), (1, .int x1), (3, .int x3), (4, .int x4), (5, .int x5)] := hl
        refine lv_iload_n hx hb kd_prog_6_method_16_code_37 rfl (lv_at hl 3 rfl) ?_
        refine lv_if_eq (tgt := 60) hx hb kd_prog_6_method_16_code_38 (by decide) (fun hc => ?_) (fun hc => ?_)
        · have h := h.1 hc
          exact J60 x1 y0 x4 z H locs ls hV (lv_sub hl [1, 2, 0, 4] rfl) h
        · have h := h.2 hc
          refine lv_iload hx hb kd_prog_6_method_16_code_41 (lv_at hl 5 rfl) ?_
          refine lv_if_lt (tgt := 56) hx hb kd_prog_6_method_16_code_43 (by decide) (fun hc => ?_) (fun hc => ?_)
          · have h := h.1 hc
            exact J56 x1 y0 x4 z H locs ls hV (lv_sub hl [1, 2, 0, 4] rfl) h
          · have h := h.2 hc
            refine lv_aload_n hx hb kd_prog_6_method_16_code_46 rfl (lv_at hl 1 rfl) ?_
            refine va_get (D := D) (ci := 4) (v := .ref (q 44)) (C := kr_M) (T := kt_M) (N := kn_M) hx hb hts ki_M hown hK hV.1 4 rfl rfl 20 (by decide) (hts _ hw_602) (fun _ h9 => h9) rfl kd_prog_6_method_16_code_47 ?_
            refine lv_iload hx hb kd_prog_6_method_16_code_50 (lv_at hl 5 rfl) ?_
            obtain ⟨hin, h⟩ := h
            refine va_zald hx hb hK hV.1 44 39 rfl rfl hin kd_prog_6_method_16_code_52 ?_
            refine lv_topi (fun v2 ev2 => ?_)
            have h := h v2 ev2
            refine lv_if_eq (tgt := 60) hx hb kd_prog_6_method_16_code_53 (by decide) (fun hc => ?_) (fun hc => ?_)
            · have h := h.1 hc
              exact J60 x1 y0 x4 z H locs ls hV (lv_sub hl [1, 2, 0, 4] rfl) h
            · have h := h.2 hc
              exact J56 x1 y0 x4 z H locs ls hV (lv_sub hl [1, 2, 0, 4] rfl) h
      have J31 : ∀ (x1 : Int32) (x3 : Int32) (x4 : Int32) (x5 : Int32) (z : Sta) (H : Heap) (locs : List Loc) (ls : Array Slot), wk_S D q cA A s.heap z H locs → lv_has ls 6 [(0, .ref (q 4)), (1, .int x1), (3, .int x3), (4, .int x4), (5, .int x5)] → pj_M_wantedBehind_31 K (fun x1 x2 x3 x4 z => lp_M_wantedBehind_7 K n7 x1 x2 x3 x4 z) x1 x3 x4 x5 z → W p l e R s m args below meth c H locs ce sl Q (F0 m 31 ls []) := by
        intro x1 x3 x4 x5 z H locs ls hV hl h
        unfold pj_M_wantedBehind_31 at h
        refine lv_iconst (v := 1) hx hb kd_prog_6_method_16_code_31 (by decide) ?_
        refine lv_goto (tgt := 36) hx hb kd_prog_6_method_16_code_32 (by decide) ?_
        exact J36 x1 x3 x4 x5 1 z H locs ls hV (lv_sub hl [0, 1, 2, 3, 4] rfl) h
      intro x1 x2 x3 x4 z H locs ls hV hl h
      rw [lp_M_wantedBehind_7] at h
      refine lv_iload hx hb kd_prog_6_method_16_code_7 (lv_at hl 4 rfl) ?_
      refine lv_iconst (v := 2) hx hb kd_prog_6_method_16_code_9 (by decide) ?_
      refine lv_icmp_ge (tgt := 68) hx hb kd_prog_6_method_16_code_10 (by decide) (fun hc => ?_) (fun hc => ?_)
      · have h := h.1 hc
        refine lv_iload_n hx hb kd_prog_6_method_16_code_68 rfl (lv_at hl 2 rfl) ?_
        refine lv_if_eq (tgt := 80) hx hb kd_prog_6_method_16_code_69 (by decide) (fun hc => ?_) (fun hc => ?_)
        · have h := h.1 hc
          exact J80 z H locs ls hV (lv_sub hl [] rfl) h
        · have h := h.2 hc
          refine lv_iload_n hx hb kd_prog_6_method_16_code_72 rfl (lv_at hl 3 rfl) ?_
          refine lv_if_eq (tgt := 80) hx hb kd_prog_6_method_16_code_73 (by decide) (fun hc => ?_) (fun hc => ?_)
          · have h := h.1 hc
            exact J80 z H locs ls hV (lv_sub hl [] rfl) h
          · have h := h.2 hc
            refine lv_iconst (v := 1) hx hb kd_prog_6_method_16_code_76 (by decide) ?_
            refine lv_goto (tgt := 81) hx hb kd_prog_6_method_16_code_77 (by decide) ?_
            exact J81 1 z H locs ls hV (lv_sub hl [] rfl) h
      · have h := h.2 hc
        refine lv_aload_n hx hb kd_prog_6_method_16_code_13 rfl (lv_at hl 0 rfl) ?_
        refine lv_iload_n hx hb kd_prog_6_method_16_code_14 rfl (lv_at hl 1 rfl) ?_
        refine lv_iload hx hb kd_prog_6_method_16_code_15 (lv_at hl 4 rfl) ?_
        refine wk_calli (va_runV (As := [.int x1, .int x4]) (rest := []) ⟨hx, hb, hml, hown, hts⟩ (c_M_next l D q cA x1 x4 z H.size _ h) (cwV 2 hts gs_M_100 rfl rfl rfl (by decide +kernel) ⟨Nat.le_trans (by decide) hRf, Nat.le_trans (by decide) hRl⟩) (wk_preV hK hV 4 4 rfl rfl [.int x1, .int x4]) rfl rfl hl.1 rfl (lv_room (Nat.le_of_ble_eq_true rfl)) kd_prog_6_method_16_code_17 ⟨hce, hsl⟩) hV hA (fun rz1 z1 H locs h hV => ?_)
        refine lv_istore hx hb kd_prog_6_method_16_code_20 hl (by decide) rfl (fun ls hl => ?_)
        have hl : lv_has ls 6 [(5, .int rz1), (0, .ref (q 4)), (1, .int x1), (2, .int x2), (3, .int x3), (4, .int x4)] := hl
        refine lv_iload_n hx hb kd_prog_6_method_16_code_22 rfl (lv_at hl 3 rfl) ?_
        refine lv_if_ne (tgt := 31) hx hb kd_prog_6_method_16_code_23 (by decide) (fun hc => ?_) (fun hc => ?_)
        · have h := h.1 hc
          exact J31 x1 x3 x4 rz1 z1 H locs ls hV (lv_sub hl [1, 2, 4, 5, 0] rfl) h
        · have h := h.2 hc
          refine lv_iload hx hb kd_prog_6_method_16_code_26 (lv_at hl 0 rfl) ?_
          refine lv_if_lt (tgt := 35) hx hb kd_prog_6_method_16_code_28 (by decide) (fun hc => ?_) (fun hc => ?_)
          · have h := h.1 hc
            refine lv_iconst (v := 0) hx hb kd_prog_6_method_16_code_35 (by decide) ?_
            exact J36 x1 x3 x4 rz1 0 z1 H locs ls hV (lv_sub hl [1, 2, 4, 5, 0] rfl) h
          · have h := h.2 hc
            exact J31 x1 x3 x4 rz1 z1 H locs ls hV (lv_sub hl [1, 2, 4, 5, 0] rfl) h
  unfold wp_M_wantedBehind at h
  refine lv_iconst (v := 0) hx hb kd_prog_6_method_16_code_0 (by decide) ?_
  refine lv_istore_n hx hb kd_prog_6_method_16_code_1 rfl hl (by decide) rfl (fun ls hl => ?_)
  have hl : lv_has ls 6 [(2, .int 0), (0, .ref (q 4)), (1, .int x1)] := hl
  refine lv_iconst (v := 1) hx hb kd_prog_6_method_16_code_2 (by decide) ?_
  refine lv_istore_n hx hb kd_prog_6_method_16_code_3 rfl hl (by decide) rfl (fun ls hl => ?_)
  have hl : lv_has ls 6 [(3, .int 1), (2, .int 0), (0, .ref (q 4)), (1, .int x1)] := hl
  refine lv_iconst (v := 0) hx hb kd_prog_6_method_16_code_4 (by decide) ?_
  refine lv_istore hx hb kd_prog_6_method_16_code_5 hl (by decide) rfl (fun ls hl => ?_)
  have hl : lv_has ls 6 [(4, .int 0), (3, .int 1), (2, .int 0), (0, .ref (q 4)), (1, .int x1)] := hl
  obtain ⟨n7, h⟩ := h
  exact L7 n7 x1 0 1 0 z H locs ls hV (lv_sub hl [3, 4, 2, 1, 0] rfl) h
end
set_option maxHeartbeats 4000000 in
set_option maxRecDepth 100000 in
theorem c_M_wantedBehind (l : Launch) (D : va_G) (q : Nat → Nat) (cA : Nat → ClassId) (x1 : Int32) (z : Sta) (sz : Nat) (K : Int32 → Sta → Prop) (h : wp_M_wantedBehind x1 z K) : Met l ke_M_wantedBehind (kc_M_wantedBehind :: lw_g) { frames := 1, cells := 0, slots := 0, locals := 23 } (wk_Pc D q cA [.ref (q 4), .int x1] z sz) (va_Qi K (wk_B D q cA (va_A (wW q cA z) sz)) (va_A (wW q cA z) sz)) 0 0 (va_A (wW q cA z) sz) := by
  refine Met.ofW (cc := prog_6_method_16_code) (maxL := 6) (ret := (some .boolean)) (by decide) rfl ?_
  intro p e s m args below meth c s₁ B hml hv
  obtain ⟨rfl, hsz, hP, hK, hD0⟩ := hv
  have hx := B.exec
  have hb := B.bytes
  have hr := B.returns
  have hlocks := B.notSynchronized
  have hts0 := atoms_spec (ws := kc_M_wantedBehind :: lw_g) B.pre
  have hts : ∀ w ∈ lw_g, w.before ([.ref (q 4), .int x1] : List Value).toArray s = true := fun w hw => hts0 w (List.mem_cons_of_mem _ hw)
  have hown : s.vm.findClass kr_M = some m.cls := findClass_of_methodNamed B.named
  subst hsz
  have hD := hD0.self (sz := s.heap.size)
  generalize hAe : va_A (wW q cA z) s.heap.size = A at hD ⊢
  have hA : ∀ x : Nat, s.heap.size ≤ x → A x := fun x hx => by rw [← hAe]; exact Or.inr hx
  have hl := lv_entry ([.ref (q 4), .int x1]) (n := 6) (Nat.le_of_ble_eq_true rfl)
  rw [lg_entry_eq]
  generalize (lg_sl ([.ref (q 4), .int x1]) ++ List.replicate (6 - (lg_sl ([.ref (q 4), .int x1])).length) Slot.unset).toArray = ls at hl ⊢
  have hl : lv_has ls 6 [(0, .ref (q 4)), (1, .int x1)] := hl
  exact w_M_wantedBehind hx hb hml hown hts (Nat.le_refl _) (Nat.le_refl _) (Nat.zero_le _) (Nat.zero_le _) hA hK x1 z K h (fun r u H locs pc ls hk hz hV hd => W.zret (ty := .boolean) hx hb hr (by rcases hz with rfl | rfl <;> rfl) (fun t ht hW => ⟨⟨r, u, rfl, hk, by rw [ht]; exact hV.1, va_K.moved hW.alike hK, hV.2.1⟩, hV.2.2.F ht⟩) hV.2.2.2.2 hd) ⟨hP, hD, va_S.rf⟩ hl
section
variable {p : Program} {l : Launch} {e : Env} {R : Room} {s : State} {m : MethodId} {args : Array Value} {below : List Frame} {meth : Method} {c : Code} {Q : State → Prop} {ce sl : Nat} {D : va_G} {q : Nat → Nat} {cA : Nat → ClassId} {A : Nat → Prop}
set_option maxHeartbeats 4000000 in
set_option maxRecDepth 100000 in
theorem w_M_earliest (hx : p.tables.exec = Jvm.exec) (hb : c.code = prog_6_method_17_code) (hml : c.maxLocals = 3) (hown : s.vm.findClass kr_M = some m.cls) (hts : ∀ w ∈ lw_g, w.before args s = true) (hRf : 2 ≤ R.frames) (hRl : 48 ≤ R.locals) (hce : ce ≤ R.cells) (hsl : sl ≤ R.slots) (hA : ∀ x, s.heap.size ≤ x → A x) (hK : va_K D wk_cl (tysW cA) s) (x1 : Int32) (x2 : Int32) (z : Sta) (K : Int32 → Sta → Prop) (h : wp_M_earliest x1 x2 z K) (hret : ∀ (r : Int32) (u : Sta) (H : Heap) (locs : List Loc) (pc : Nat) (ls : Array Slot), K r u → (r = 0 ∨ r = 1) → wk_S D q cA A s.heap u H locs → decode prog_6_method_17_code pc = .ok (.ireturn, 1) → W p l e R s m args below meth c H locs ce sl Q (F0 m pc ls [.int r])) {H : Heap} {locs : List Loc} {ls : Array Slot} (hV : wk_S D q cA A s.heap z H locs) (hl : lv_has ls 3 [(0, .ref (q 4)), (1, .int x1), (2, .int x2)]) : W p l e R s m args below meth c H locs ce sl Q (F0 m 0 ls []) := by
  have J44 : ∀ (y0 : Int32) (z : Sta) (H : Heap) (locs : List Loc) (ls : Array Slot), wk_S D q cA A s.heap z H locs → lv_has ls 3 [] → pj_M_earliest_44 K y0 z → W p l e R s m args below meth c H locs ce sl Q (F0 m 44 ls [.int y0]) := by
    intro y0 z H locs ls hV hl h
    unfold pj_M_earliest_44 at h
    obtain ⟨hz, h⟩ := h
    exact hret y0 z H locs 44 ls h hz hV kd_prog_6_method_17_code_44
  have J43 : ∀ (z : Sta) (H : Heap) (locs : List Loc) (ls : Array Slot), wk_S D q cA A s.heap z H locs → lv_has ls 3 [] → pj_M_earliest_43 K z → W p l e R s m args below meth c H locs ce sl Q (F0 m 43 ls []) := by
    intro z H locs ls hV hl h
    unfold pj_M_earliest_43 at h
    refine lv_iconst (v := 0) hx hb kd_prog_6_method_17_code_43 (by decide) ?_
    exact J44 0 z H locs ls hV (lv_sub hl [] rfl) h
  have J39 : ∀ (z : Sta) (H : Heap) (locs : List Loc) (ls : Array Slot), wk_S D q cA A s.heap z H locs → lv_has ls 3 [] → pj_M_earliest_39 K z → W p l e R s m args below meth c H locs ce sl Q (F0 m 39 ls []) := by
    intro z H locs ls hV hl h
    unfold pj_M_earliest_39 at h
    refine lv_iconst (v := 1) hx hb kd_prog_6_method_17_code_39 (by decide) ?_
    refine lv_goto (tgt := 44) hx hb kd_prog_6_method_17_code_40 (by decide) ?_
    exact J44 1 z H locs ls hV (lv_sub hl [] rfl) h
  unfold wp_M_earliest at h
  refine lv_aload_n hx hb kd_prog_6_method_17_code_0 rfl (lv_at hl 0 rfl) ?_
  refine va_get (D := D) (ci := 4) (v := .ref (q 44)) (C := kr_M) (T := kt_M) (N := kn_M) hx hb hts ki_M hown hK hV.1 4 rfl rfl 20 (by decide) (hts _ hw_602) (fun _ h9 => h9) rfl kd_prog_6_method_17_code_1 ?_
  refine lv_iload_n hx hb kd_prog_6_method_17_code_4 rfl (lv_at hl 2 rfl) ?_
  obtain ⟨hin, h⟩ := h
  refine va_zald hx hb hK hV.1 44 39 rfl rfl hin kd_prog_6_method_17_code_5 ?_
  refine lv_topi (fun v1 ev1 => ?_)
  have h := h v1 ev1
  refine lv_if_eq (tgt := 43) hx hb kd_prog_6_method_17_code_6 (by decide) (fun hc => ?_) (fun hc => ?_)
  · have h := h.1 hc
    exact J43 z H locs ls hV (lv_sub hl [] rfl) h
  · have h := h.2 hc
    refine lv_iload_n hx hb kd_prog_6_method_17_code_9 rfl (lv_at hl 1 rfl) ?_
    refine lv_if_lt (tgt := 39) hx hb kd_prog_6_method_17_code_10 (by decide) (fun hc => ?_) (fun hc => ?_)
    · have h := h.1 hc
      exact J39 z H locs ls hV (lv_sub hl [] rfl) h
    · have h := h.2 hc
      refine lv_aload_n hx hb kd_prog_6_method_17_code_13 rfl (lv_at hl 0 rfl) ?_
      refine va_get (D := D) (ci := 4) (v := .ref (q 43)) (C := kr_M) (T := kt_M) (N := kn_M) hx hb hts ki_M hown hK hV.1 4 rfl rfl 19 (by decide) (hts _ hw_601) (fun _ h9 => h9) rfl kd_prog_6_method_17_code_14 ?_
      refine lv_iload_n hx hb kd_prog_6_method_17_code_17 rfl (lv_at hl 1 rfl) ?_
      obtain ⟨hin, h⟩ := h
      refine va_zald hx hb hK hV.1 43 38 rfl rfl hin kd_prog_6_method_17_code_18 ?_
      refine lv_topi (fun v2 ev2 => ?_)
      have h := h v2 ev2
      refine lv_if_ne (tgt := 43) hx hb kd_prog_6_method_17_code_19 (by decide) (fun hc => ?_) (fun hc => ?_)
      · have h := h.1 hc
        exact J43 z H locs ls hV (lv_sub hl [] rfl) h
      · have h := h.2 hc
        refine lv_aload_n hx hb kd_prog_6_method_17_code_22 rfl (lv_at hl 0 rfl) ?_
        refine va_get (D := D) (ci := 4) (v := .ref (q 39)) (C := kr_M) (T := kt_M) (N := kn_M) hx hb hts ki_M hown hK hV.1 4 rfl rfl 15 (by decide) (hts _ hw_597) (fun _ h9 => h9) rfl kd_prog_6_method_17_code_23 ?_
        refine lv_iload_n hx hb kd_prog_6_method_17_code_26 rfl (lv_at hl 1 rfl) ?_
        obtain ⟨hin, h⟩ := h
        refine va_zald hx hb hK hV.1 39 34 rfl rfl hin kd_prog_6_method_17_code_27 ?_
        refine lv_topi (fun v3 ev3 => ?_)
        have h := h v3 ev3
        refine lv_if_ne (tgt := 39) hx hb kd_prog_6_method_17_code_28 (by decide) (fun hc => ?_) (fun hc => ?_)
        · have h := h.1 hc
          exact J39 z H locs ls hV (lv_sub hl [] rfl) h
        · have h := h.2 hc
          refine lv_aload_n hx hb kd_prog_6_method_17_code_31 rfl (lv_at hl 0 rfl) ?_
          refine lv_iload_n hx hb kd_prog_6_method_17_code_32 rfl (lv_at hl 1 rfl) ?_
          refine wk_calli (va_runV (As := [.int x1]) (rest := []) ⟨hx, hb, hml, hown, hts⟩ (c_M_wantedBehind l D q cA x1 z H.size _ h) (cwV 1 hts gs_M_111 rfl rfl rfl (by decide +kernel) ⟨Nat.le_trans (by decide) hRf, Nat.le_trans (by decide) hRl⟩) (wk_preV hK hV 4 4 rfl rfl [.int x1]) rfl rfl hl.1 rfl (lv_room (Nat.le_of_ble_eq_true rfl)) kd_prog_6_method_17_code_33 ⟨hce, hsl⟩) hV hA (fun rz4 z4 H locs h hV => ?_)
          refine lv_if_ne (tgt := 43) hx hb kd_prog_6_method_17_code_36 (by decide) (fun hc => ?_) (fun hc => ?_)
          · have h := h.1 hc
            exact J43 z4 H locs ls hV (lv_sub hl [] rfl) h
          · have h := h.2 hc
            exact J39 z4 H locs ls hV (lv_sub hl [] rfl) h
end
set_option maxHeartbeats 4000000 in
set_option maxRecDepth 100000 in
theorem c_M_earliest (l : Launch) (D : va_G) (q : Nat → Nat) (cA : Nat → ClassId) (x1 : Int32) (x2 : Int32) (z : Sta) (sz : Nat) (K : Int32 → Sta → Prop) (h : wp_M_earliest x1 x2 z K) : Met l ke_M_earliest (kc_M_earliest :: lw_g) { frames := 2, cells := 0, slots := 0, locals := 48 } (wk_Pc D q cA [.ref (q 4), .int x1, .int x2] z sz) (va_Qi K (wk_B D q cA (va_A (wW q cA z) sz)) (va_A (wW q cA z) sz)) 0 0 (va_A (wW q cA z) sz) := by
  refine Met.ofW (cc := prog_6_method_17_code) (maxL := 3) (ret := (some .boolean)) (by decide) rfl ?_
  intro p e s m args below meth c s₁ B hml hv
  obtain ⟨rfl, hsz, hP, hK, hD0⟩ := hv
  have hx := B.exec
  have hb := B.bytes
  have hr := B.returns
  have hlocks := B.notSynchronized
  have hts0 := atoms_spec (ws := kc_M_earliest :: lw_g) B.pre
  have hts : ∀ w ∈ lw_g, w.before ([.ref (q 4), .int x1, .int x2] : List Value).toArray s = true := fun w hw => hts0 w (List.mem_cons_of_mem _ hw)
  have hown : s.vm.findClass kr_M = some m.cls := findClass_of_methodNamed B.named
  subst hsz
  have hD := hD0.self (sz := s.heap.size)
  generalize hAe : va_A (wW q cA z) s.heap.size = A at hD ⊢
  have hA : ∀ x : Nat, s.heap.size ≤ x → A x := fun x hx => by rw [← hAe]; exact Or.inr hx
  have hl := lv_entry ([.ref (q 4), .int x1, .int x2]) (n := 3) (Nat.le_of_ble_eq_true rfl)
  rw [lg_entry_eq]
  generalize (lg_sl ([.ref (q 4), .int x1, .int x2]) ++ List.replicate (3 - (lg_sl ([.ref (q 4), .int x1, .int x2])).length) Slot.unset).toArray = ls at hl ⊢
  have hl : lv_has ls 3 [(0, .ref (q 4)), (1, .int x1), (2, .int x2)] := hl
  exact w_M_earliest hx hb hml hown hts (Nat.le_refl _) (Nat.le_refl _) (Nat.zero_le _) (Nat.zero_le _) hA hK x1 x2 z K h (fun r u H locs pc ls hk hz hV hd => W.zret (ty := .boolean) hx hb hr (by rcases hz with rfl | rfl <;> rfl) (fun t ht hW => ⟨⟨r, u, rfl, hk, by rw [ht]; exact hV.1, va_K.moved hW.alike hK, hV.2.1⟩, hV.2.2.F ht⟩) hV.2.2.2.2 hd) ⟨hP, hD, va_S.rf⟩ hl
section
variable {p : Program} {l : Launch} {e : Env} {R : Room} {s : State} {m : MethodId} {args : Array Value} {below : List Frame} {meth : Method} {c : Code} {Q : State → Prop} {ce sl : Nat} {D : va_G} {q : Nat → Nat} {cA : Nat → ClassId} {A : Nat → Prop}
set_option maxHeartbeats 4000000 in
set_option maxRecDepth 100000 in
theorem w_M_laterOn (hx : p.tables.exec = Jvm.exec) (hb : c.code = prog_6_method_18_code) (hml : c.maxLocals = 3) (hown : s.vm.findClass kr_M = some m.cls) (hts : ∀ w ∈ lw_g, w.before args s = true) (hRf : 3 ≤ R.frames) (hRl : 70 ≤ R.locals) (hce : ce ≤ R.cells) (hsl : sl ≤ R.slots) (hA : ∀ x, s.heap.size ≤ x → A x) (hK : va_K D wk_cl (tysW cA) s) (x1 : Int32) (x2 : Int32) (z : Sta) (K : Int32 → Sta → Prop) (h : wp_M_laterOn x1 x2 z K) (hret : ∀ (r : Int32) (u : Sta) (H : Heap) (locs : List Loc) (pc : Nat) (ls : Array Slot), K r u → (r = 0 ∨ r = 1) → wk_S D q cA A s.heap u H locs → decode prog_6_method_18_code pc = .ok (.ireturn, 1) → W p l e R s m args below meth c H locs ce sl Q (F0 m pc ls [.int r])) {H : Heap} {locs : List Loc} {ls : Array Slot} (hV : wk_S D q cA A s.heap z H locs) (hl : lv_has ls 3 [(0, .ref (q 4)), (1, .int x1), (2, .int x2)]) : W p l e R s m args below meth c H locs ce sl Q (F0 m 0 ls []) := by
  have J36 : ∀ (y0 : Int32) (z : Sta) (H : Heap) (locs : List Loc) (ls : Array Slot), wk_S D q cA A s.heap z H locs → lv_has ls 3 [] → pj_M_laterOn_36 K y0 z → W p l e R s m args below meth c H locs ce sl Q (F0 m 36 ls [.int y0]) := by
    intro y0 z H locs ls hV hl h
    unfold pj_M_laterOn_36 at h
    obtain ⟨hz, h⟩ := h
    exact hret y0 z H locs 36 ls h hz hV kd_prog_6_method_18_code_36
  have J35 : ∀ (z : Sta) (H : Heap) (locs : List Loc) (ls : Array Slot), wk_S D q cA A s.heap z H locs → lv_has ls 3 [] → pj_M_laterOn_35 K z → W p l e R s m args below meth c H locs ce sl Q (F0 m 35 ls []) := by
    intro z H locs ls hV hl h
    unfold pj_M_laterOn_35 at h
    refine lv_iconst (v := 0) hx hb kd_prog_6_method_18_code_35 (by decide) ?_
    exact J36 0 z H locs ls hV (lv_sub hl [] rfl) h
  have J31 : ∀ (z : Sta) (H : Heap) (locs : List Loc) (ls : Array Slot), wk_S D q cA A s.heap z H locs → lv_has ls 3 [] → pj_M_laterOn_31 K z → W p l e R s m args below meth c H locs ce sl Q (F0 m 31 ls []) := by
    intro z H locs ls hV hl h
    unfold pj_M_laterOn_31 at h
    refine lv_iconst (v := 1) hx hb kd_prog_6_method_18_code_31 (by decide) ?_
    refine lv_goto (tgt := 36) hx hb kd_prog_6_method_18_code_32 (by decide) ?_
    exact J36 1 z H locs ls hV (lv_sub hl [] rfl) h
  unfold wp_M_laterOn at h
  refine lv_aload_n hx hb kd_prog_6_method_18_code_0 rfl (lv_at hl 0 rfl) ?_
  refine lv_iload_n hx hb kd_prog_6_method_18_code_1 rfl (lv_at hl 1 rfl) ?_
  refine lv_iload_n hx hb kd_prog_6_method_18_code_2 rfl (lv_at hl 2 rfl) ?_
  refine wk_calli (va_runV (As := [.int x1, .int x2]) (rest := []) ⟨hx, hb, hml, hown, hts⟩ (c_M_earliest l D q cA x1 x2 z H.size _ h) (cwV 2 hts gs_M_115 rfl rfl rfl (by decide +kernel) ⟨Nat.le_trans (by decide) hRf, Nat.le_trans (by decide) hRl⟩) (wk_preV hK hV 4 4 rfl rfl [.int x1, .int x2]) rfl rfl hl.1 rfl (lv_room (Nat.le_of_ble_eq_true rfl)) kd_prog_6_method_18_code_3 ⟨hce, hsl⟩) hV hA (fun rz1 z1 H locs h hV => ?_)
  refine lv_if_ne (tgt := 31) hx hb kd_prog_6_method_18_code_6 (by decide) (fun hc => ?_) (fun hc => ?_)
  · have h := h.1 hc
    exact J31 z1 H locs ls hV (lv_sub hl [] rfl) h
  · have h := h.2 hc
    refine lv_iload_n hx hb kd_prog_6_method_18_code_9 rfl (lv_at hl 1 rfl) ?_
    refine lv_if_lt (tgt := 35) hx hb kd_prog_6_method_18_code_10 (by decide) (fun hc => ?_) (fun hc => ?_)
    · have h := h.1 hc
      exact J35 z1 H locs ls hV (lv_sub hl [] rfl) h
    · have h := h.2 hc
      refine lv_aload_n hx hb kd_prog_6_method_18_code_13 rfl (lv_at hl 0 rfl) ?_
      refine va_get (D := D) (ci := 4) (v := .ref (q 46)) (C := kr_M) (T := kt_M) (N := kn_M) hx hb hts ki_M hown hK hV.1 4 rfl rfl 22 (by decide) (hts _ hw_604) (fun _ h9 => h9) rfl kd_prog_6_method_18_code_14 ?_
      refine lv_iload_n hx hb kd_prog_6_method_18_code_17 rfl (lv_at hl 1 rfl) ?_
      obtain ⟨hin, h⟩ := h
      refine va_zald hx hb hK hV.1 46 41 rfl rfl hin kd_prog_6_method_18_code_18 ?_
      refine lv_topi (fun v2 ev2 => ?_)
      have h := h v2 ev2
      refine lv_if_eq (tgt := 35) hx hb kd_prog_6_method_18_code_19 (by decide) (fun hc => ?_) (fun hc => ?_)
      · have h := h.1 hc
        exact J35 z1 H locs ls hV (lv_sub hl [] rfl) h
      · have h := h.2 hc
        refine lv_aload_n hx hb kd_prog_6_method_18_code_22 rfl (lv_at hl 0 rfl) ?_
        refine va_get (D := D) (ci := 4) (v := .ref (q 40)) (C := kr_M) (T := kt_M) (N := kn_M) hx hb hts ki_M hown hK hV.1 4 rfl rfl 16 (by decide) (hts _ hw_598) (fun _ h9 => h9) rfl kd_prog_6_method_18_code_23 ?_
        refine lv_iload_n hx hb kd_prog_6_method_18_code_26 rfl (lv_at hl 1 rfl) ?_
        obtain ⟨hin, h⟩ := h
        refine va_zald hx hb hK hV.1 40 35 rfl rfl hin kd_prog_6_method_18_code_27 ?_
        refine lv_topi (fun v3 ev3 => ?_)
        have h := h v3 ev3
        refine lv_if_ne (tgt := 35) hx hb kd_prog_6_method_18_code_28 (by decide) (fun hc => ?_) (fun hc => ?_)
        · have h := h.1 hc
          exact J35 z1 H locs ls hV (lv_sub hl [] rfl) h
        · have h := h.2 hc
          exact J31 z1 H locs ls hV (lv_sub hl [] rfl) h
end
set_option maxHeartbeats 4000000 in
set_option maxRecDepth 100000 in
theorem c_M_laterOn (l : Launch) (D : va_G) (q : Nat → Nat) (cA : Nat → ClassId) (x1 : Int32) (x2 : Int32) (z : Sta) (sz : Nat) (K : Int32 → Sta → Prop) (h : wp_M_laterOn x1 x2 z K) : Met l ke_M_laterOn (kc_M_laterOn :: lw_g) { frames := 3, cells := 0, slots := 0, locals := 70 } (wk_Pc D q cA [.ref (q 4), .int x1, .int x2] z sz) (va_Qi K (wk_B D q cA (va_A (wW q cA z) sz)) (va_A (wW q cA z) sz)) 0 0 (va_A (wW q cA z) sz) := by
  refine Met.ofW (cc := prog_6_method_18_code) (maxL := 3) (ret := (some .boolean)) (by decide) rfl ?_
  intro p e s m args below meth c s₁ B hml hv
  obtain ⟨rfl, hsz, hP, hK, hD0⟩ := hv
  have hx := B.exec
  have hb := B.bytes
  have hr := B.returns
  have hlocks := B.notSynchronized
  have hts0 := atoms_spec (ws := kc_M_laterOn :: lw_g) B.pre
  have hts : ∀ w ∈ lw_g, w.before ([.ref (q 4), .int x1, .int x2] : List Value).toArray s = true := fun w hw => hts0 w (List.mem_cons_of_mem _ hw)
  have hown : s.vm.findClass kr_M = some m.cls := findClass_of_methodNamed B.named
  subst hsz
  have hD := hD0.self (sz := s.heap.size)
  generalize hAe : va_A (wW q cA z) s.heap.size = A at hD ⊢
  have hA : ∀ x : Nat, s.heap.size ≤ x → A x := fun x hx => by rw [← hAe]; exact Or.inr hx
  have hl := lv_entry ([.ref (q 4), .int x1, .int x2]) (n := 3) (Nat.le_of_ble_eq_true rfl)
  rw [lg_entry_eq]
  generalize (lg_sl ([.ref (q 4), .int x1, .int x2]) ++ List.replicate (3 - (lg_sl ([.ref (q 4), .int x1, .int x2])).length) Slot.unset).toArray = ls at hl ⊢
  have hl : lv_has ls 3 [(0, .ref (q 4)), (1, .int x1), (2, .int x2)] := hl
  exact w_M_laterOn hx hb hml hown hts (Nat.le_refl _) (Nat.le_refl _) (Nat.zero_le _) (Nat.zero_le _) hA hK x1 x2 z K h (fun r u H locs pc ls hk hz hV hd => W.zret (ty := .boolean) hx hb hr (by rcases hz with rfl | rfl <;> rfl) (fun t ht hW => ⟨⟨r, u, rfl, hk, by rw [ht]; exact hV.1, va_K.moved hW.alike hK, hV.2.1⟩, hV.2.2.F ht⟩) hV.2.2.2.2 hd) ⟨hP, hD, va_S.rf⟩ hl
section
variable {p : Program} {l : Launch} {e : Env} {R : Room} {s : State} {m : MethodId} {args : Array Value} {below : List Frame} {meth : Method} {c : Code} {Q : State → Prop} {ce sl : Nat} {D : va_G} {q : Nat → Nat} {cA : Nat → ClassId} {A : Nat → Prop}
set_option maxHeartbeats 4000000 in
set_option maxRecDepth 100000 in
theorem w_M_lateBefore (hx : p.tables.exec = Jvm.exec) (hb : c.code = prog_6_method_19_code) (hml : c.maxLocals = 4) (hown : s.vm.findClass kr_M = some m.cls) (hts : ∀ w ∈ lw_g, w.before args s = true) (hRf : 4 ≤ R.frames) (hRl : 92 ≤ R.locals) (hce : ce ≤ R.cells) (hsl : sl ≤ R.slots) (hA : ∀ x, s.heap.size ≤ x → A x) (hK : va_K D wk_cl (tysW cA) s) (x1 : Int32) (z : Sta) (K : Int32 → Sta → Prop) (h : wp_M_lateBefore x1 z K) (hret : ∀ (r : Int32) (u : Sta) (H : Heap) (locs : List Loc) (pc : Nat) (ls : Array Slot), K r u → (r = 0 ∨ r = 1) → wk_S D q cA A s.heap u H locs → decode prog_6_method_19_code pc = .ok (.ireturn, 1) → W p l e R s m args below meth c H locs ce sl Q (F0 m pc ls [.int r])) {H : Heap} {locs : List Loc} {ls : Array Slot} (hV : wk_S D q cA A s.heap z H locs) (hl : lv_has ls 4 [(0, .ref (q 4)), (1, .int x1)]) : W p l e R s m args below meth c H locs ce sl Q (F0 m 0 ls []) := by
  have L21 : ∀ (n : Nat) (x1 : Int32) (x2 : Int32) (x3 : Int32) (z : Sta) (H : Heap) (locs : List Loc) (ls : Array Slot), wk_S D q cA A s.heap z H locs → lv_has ls 4 [(0, .ref (q 4)), (1, .int x1), (2, .int x2), (3, .int x3)] → lp_M_lateBefore_21 K n x1 x2 x3 z → W p l e R s m args below meth c H locs ce sl Q (F0 m 21 ls []) := by
    intro n21
    induction n21 with
    | zero => intro x1 x2 x3 z H locs ls hV hl h; rw [lp_M_lateBefore_21] at h; exact h.elim
    | succ n21 ih21 =>
      have J56 : ∀ (x1 : Int32) (x3 : Int32) (y0 : Int32) (z : Sta) (H : Heap) (locs : List Loc) (ls : Array Slot), wk_S D q cA A s.heap z H locs → lv_has ls 4 [(0, .ref (q 4)), (1, .int x1), (3, .int x3)] → pj_M_lateBefore_56 K (fun x1 x2 x3 z => lp_M_lateBefore_21 K n21 x1 x2 x3 z) x1 x3 y0 z → W p l e R s m args below meth c H locs ce sl Q (F0 m 56 ls [.int y0]) := by
        intro x1 x3 y0 z H locs ls hV hl h
        unfold pj_M_lateBefore_56 at h
        refine lv_istore_n hx hb kd_prog_6_method_19_code_56 rfl hl (by decide) rfl (fun ls hl => ?_)
        have hl : lv_has ls 4 [(2, .int y0), (0, .ref (q 4)), (1, .int x1), (3, .int x3)] := hl
        obtain ⟨v5, ev5⟩ : ∃ v : Int32, v = x3 + 1 := ⟨_, rfl⟩
        have h := h v5 ev5
        refine lv_iinc (v := v5) (k := 3) hx hb kd_prog_6_method_19_code_57 hl rfl (by rw [ev5]; rfl) (by decide) rfl (fun ls hl => ?_)
        have hl : lv_has ls 4 [(3, .int v5), (2, .int y0), (0, .ref (q 4)), (1, .int x1)] := hl
        refine lv_goto (tgt := 21) hx hb kd_prog_6_method_19_code_60 (by decide) ?_
        exact ih21 x1 y0 v5 z H locs ls hV (lv_sub hl [2, 3, 1, 0] rfl) h
      have J55 : ∀ (x1 : Int32) (x3 : Int32) (z : Sta) (H : Heap) (locs : List Loc) (ls : Array Slot), wk_S D q cA A s.heap z H locs → lv_has ls 4 [(0, .ref (q 4)), (1, .int x1), (3, .int x3)] → pj_M_lateBefore_55 K (fun x1 x2 x3 z => lp_M_lateBefore_21 K n21 x1 x2 x3 z) x1 x3 z → W p l e R s m args below meth c H locs ce sl Q (F0 m 55 ls []) := by
        intro x1 x3 z H locs ls hV hl h
        unfold pj_M_lateBefore_55 at h
        refine lv_iconst (v := 0) hx hb kd_prog_6_method_19_code_55 (by decide) ?_
        exact J56 x1 x3 0 z H locs ls hV (lv_sub hl [0, 1, 2] rfl) h
      have J51 : ∀ (x1 : Int32) (x3 : Int32) (z : Sta) (H : Heap) (locs : List Loc) (ls : Array Slot), wk_S D q cA A s.heap z H locs → lv_has ls 4 [(0, .ref (q 4)), (1, .int x1), (3, .int x3)] → pj_M_lateBefore_51 K (fun x1 x2 x3 z => lp_M_lateBefore_21 K n21 x1 x2 x3 z) x1 x3 z → W p l e R s m args below meth c H locs ce sl Q (F0 m 51 ls []) := by
        intro x1 x3 z H locs ls hV hl h
        unfold pj_M_lateBefore_51 at h
        refine lv_iconst (v := 1) hx hb kd_prog_6_method_19_code_51 (by decide) ?_
        refine lv_goto (tgt := 56) hx hb kd_prog_6_method_19_code_52 (by decide) ?_
        exact J56 x1 x3 1 z H locs ls hV (lv_sub hl [0, 1, 2] rfl) h
      intro x1 x2 x3 z H locs ls hV hl h
      rw [lp_M_lateBefore_21] at h
      refine lv_iload_n hx hb kd_prog_6_method_19_code_21 rfl (lv_at hl 3 rfl) ?_
      refine lv_aload_n hx hb kd_prog_6_method_19_code_22 rfl (lv_at hl 0 rfl) ?_
      refine va_get (D := D) (ci := 4) (v := .int (z.1 8)) (C := kr_M) (T := kt_M) (N := kn_M) hx hb hts ki_M hown hK hV.1 4 rfl rfl 1 (by decide) (hts _ hw_583) (fun _ h9 => h9) rfl kd_prog_6_method_19_code_23 ?_
      refine lv_topi (fun v2 ev2 => ?_)
      have h := h v2 ev2
      refine lv_icmp_ge (tgt := 63) hx hb kd_prog_6_method_19_code_26 (by decide) (fun hc => ?_) (fun hc => ?_)
      · have h := h.1 hc
        refine lv_iload_n hx hb kd_prog_6_method_19_code_63 rfl (lv_at hl 2 rfl) ?_
        obtain ⟨hz, h⟩ := h
        exact hret x2 z H locs 64 ls h hz hV kd_prog_6_method_19_code_64
      · have h := h.2 hc
        refine lv_iload_n hx hb kd_prog_6_method_19_code_29 rfl (lv_at hl 2 rfl) ?_
        refine lv_if_eq (tgt := 55) hx hb kd_prog_6_method_19_code_30 (by decide) (fun hc => ?_) (fun hc => ?_)
        · have h := h.1 hc
          exact J55 x1 x3 z H locs ls hV (lv_sub hl [0, 1, 3] rfl) h
        · have h := h.2 hc
          refine lv_aload_n hx hb kd_prog_6_method_19_code_33 rfl (lv_at hl 0 rfl) ?_
          refine lv_iload_n hx hb kd_prog_6_method_19_code_34 rfl (lv_at hl 3 rfl) ?_
          refine lv_iload_n hx hb kd_prog_6_method_19_code_35 rfl (lv_at hl 1 rfl) ?_
          refine wk_calli (va_runV (As := [.int x3, .int x1]) (rest := []) ⟨hx, hb, hml, hown, hts⟩ (c_M_edge l D q cA x3 x1 z H.size _ h) (cwV 2 hts gs_M_108 rfl rfl rfl (by decide +kernel) ⟨Nat.le_trans (by decide) hRf, Nat.le_trans (by decide) hRl⟩) (wk_preV hK hV 4 4 rfl rfl [.int x3, .int x1]) rfl rfl hl.1 rfl (lv_room (Nat.le_of_ble_eq_true rfl)) kd_prog_6_method_19_code_36 ⟨hce, hsl⟩) hV hA (fun rz3 z3 H locs h hV => ?_)
          refine lv_if_eq (tgt := 51) hx hb kd_prog_6_method_19_code_39 (by decide) (fun hc => ?_) (fun hc => ?_)
          · have h := h.1 hc
            exact J51 x1 x3 z3 H locs ls hV (lv_sub hl [0, 1, 3] rfl) h
          · have h := h.2 hc
            refine lv_aload_n hx hb kd_prog_6_method_19_code_42 rfl (lv_at hl 0 rfl) ?_
            refine lv_iload_n hx hb kd_prog_6_method_19_code_43 rfl (lv_at hl 3 rfl) ?_
            refine lv_iload_n hx hb kd_prog_6_method_19_code_44 rfl (lv_at hl 1 rfl) ?_
            refine wk_calli (va_runV (As := [.int x3, .int x1]) (rest := []) ⟨hx, hb, hml, hown, hts⟩ (c_M_laterOn l D q cA x3 x1 z3 H.size _ h) (cwV 2 hts gs_M_118 rfl rfl rfl (by decide +kernel) ⟨Nat.le_trans (by decide) hRf, Nat.le_trans (by decide) hRl⟩) (wk_preV hK hV 4 4 rfl rfl [.int x3, .int x1]) rfl rfl hl.1 rfl (lv_room (Nat.le_of_ble_eq_true rfl)) kd_prog_6_method_19_code_45 ⟨hce, hsl⟩) hV hA (fun rz4 z4 H locs h hV => ?_)
            refine lv_if_eq (tgt := 55) hx hb kd_prog_6_method_19_code_48 (by decide) (fun hc => ?_) (fun hc => ?_)
            · have h := h.1 hc
              exact J55 x1 x3 z4 H locs ls hV (lv_sub hl [0, 1, 3] rfl) h
            · have h := h.2 hc
              exact J51 x1 x3 z4 H locs ls hV (lv_sub hl [0, 1, 3] rfl) h
  have J18 : ∀ (x1 : Int32) (y0 : Int32) (z : Sta) (H : Heap) (locs : List Loc) (ls : Array Slot), wk_S D q cA A s.heap z H locs → lv_has ls 4 [(0, .ref (q 4)), (1, .int x1)] → pj_M_lateBefore_18 K x1 y0 z → W p l e R s m args below meth c H locs ce sl Q (F0 m 18 ls [.int y0]) := by
    intro x1 y0 z H locs ls hV hl h
    unfold pj_M_lateBefore_18 at h
    refine lv_istore_n hx hb kd_prog_6_method_19_code_18 rfl hl (by decide) rfl (fun ls hl => ?_)
    have hl : lv_has ls 4 [(2, .int y0), (0, .ref (q 4)), (1, .int x1)] := hl
    refine lv_iconst (v := 0) hx hb kd_prog_6_method_19_code_19 (by decide) ?_
    refine lv_istore_n hx hb kd_prog_6_method_19_code_20 rfl hl (by decide) rfl (fun ls hl => ?_)
    have hl : lv_has ls 4 [(3, .int 0), (2, .int y0), (0, .ref (q 4)), (1, .int x1)] := hl
    obtain ⟨n21, h⟩ := h
    exact L21 n21 x1 y0 0 z H locs ls hV (lv_sub hl [2, 3, 1, 0] rfl) h
  have J13 : ∀ (x1 : Int32) (z : Sta) (H : Heap) (locs : List Loc) (ls : Array Slot), wk_S D q cA A s.heap z H locs → lv_has ls 4 [(0, .ref (q 4)), (1, .int x1)] → pj_M_lateBefore_13 K x1 z → W p l e R s m args below meth c H locs ce sl Q (F0 m 13 ls []) := by
    intro x1 z H locs ls hV hl h
    unfold pj_M_lateBefore_13 at h
    refine lv_iconst (v := 1) hx hb kd_prog_6_method_19_code_13 (by decide) ?_
    refine lv_goto (tgt := 18) hx hb kd_prog_6_method_19_code_14 (by decide) ?_
    exact J18 x1 1 z H locs ls hV (lv_sub hl [0, 1] rfl) h
  unfold wp_M_lateBefore at h
  refine lv_iload_n hx hb kd_prog_6_method_19_code_0 rfl (lv_at hl 1 rfl) ?_
  refine lv_if_gt (tgt := 13) hx hb kd_prog_6_method_19_code_1 (by decide) (fun hc => ?_) (fun hc => ?_)
  · have h := h.1 hc
    exact J13 x1 z H locs ls hV (lv_sub hl [0, 1] rfl) h
  · have h := h.2 hc
    refine lv_aload_n hx hb kd_prog_6_method_19_code_4 rfl (lv_at hl 0 rfl) ?_
    refine lv_iconst (v := (-1)) hx hb kd_prog_6_method_19_code_5 (by decide) ?_
    refine lv_iconst (v := 0) hx hb kd_prog_6_method_19_code_6 (by decide) ?_
    refine wk_calli (va_runV (As := [.int (-1 : Int32), .int (0 : Int32)]) (rest := []) ⟨hx, hb, hml, hown, hts⟩ (c_M_laterOn l D q cA (-1) 0 z H.size _ h) (cwV 2 hts gs_M_118 rfl rfl rfl (by decide +kernel) ⟨Nat.le_trans (by decide) hRf, Nat.le_trans (by decide) hRl⟩) (wk_preV hK hV 4 4 rfl rfl [.int (-1 : Int32), .int (0 : Int32)]) rfl rfl hl.1 rfl (lv_room (Nat.le_of_ble_eq_true rfl)) kd_prog_6_method_19_code_7 ⟨hce, hsl⟩) hV hA (fun rz1 z1 H locs h hV => ?_)
    refine lv_if_eq (tgt := 17) hx hb kd_prog_6_method_19_code_10 (by decide) (fun hc => ?_) (fun hc => ?_)
    · have h := h.1 hc
      refine lv_iconst (v := 0) hx hb kd_prog_6_method_19_code_17 (by decide) ?_
      exact J18 x1 0 z1 H locs ls hV (lv_sub hl [0, 1] rfl) h
    · have h := h.2 hc
      exact J13 x1 z1 H locs ls hV (lv_sub hl [0, 1] rfl) h
end
set_option maxHeartbeats 4000000 in
set_option maxRecDepth 100000 in
theorem c_M_lateBefore (l : Launch) (D : va_G) (q : Nat → Nat) (cA : Nat → ClassId) (x1 : Int32) (z : Sta) (sz : Nat) (K : Int32 → Sta → Prop) (h : wp_M_lateBefore x1 z K) : Met l ke_M_lateBefore (kc_M_lateBefore :: lw_g) { frames := 4, cells := 0, slots := 0, locals := 92 } (wk_Pc D q cA [.ref (q 4), .int x1] z sz) (va_Qi K (wk_B D q cA (va_A (wW q cA z) sz)) (va_A (wW q cA z) sz)) 0 0 (va_A (wW q cA z) sz) := by
  refine Met.ofW (cc := prog_6_method_19_code) (maxL := 4) (ret := (some .boolean)) (by decide) rfl ?_
  intro p e s m args below meth c s₁ B hml hv
  obtain ⟨rfl, hsz, hP, hK, hD0⟩ := hv
  have hx := B.exec
  have hb := B.bytes
  have hr := B.returns
  have hlocks := B.notSynchronized
  have hts0 := atoms_spec (ws := kc_M_lateBefore :: lw_g) B.pre
  have hts : ∀ w ∈ lw_g, w.before ([.ref (q 4), .int x1] : List Value).toArray s = true := fun w hw => hts0 w (List.mem_cons_of_mem _ hw)
  have hown : s.vm.findClass kr_M = some m.cls := findClass_of_methodNamed B.named
  subst hsz
  have hD := hD0.self (sz := s.heap.size)
  generalize hAe : va_A (wW q cA z) s.heap.size = A at hD ⊢
  have hA : ∀ x : Nat, s.heap.size ≤ x → A x := fun x hx => by rw [← hAe]; exact Or.inr hx
  have hl := lv_entry ([.ref (q 4), .int x1]) (n := 4) (Nat.le_of_ble_eq_true rfl)
  rw [lg_entry_eq]
  generalize (lg_sl ([.ref (q 4), .int x1]) ++ List.replicate (4 - (lg_sl ([.ref (q 4), .int x1])).length) Slot.unset).toArray = ls at hl ⊢
  have hl : lv_has ls 4 [(0, .ref (q 4)), (1, .int x1)] := hl
  exact w_M_lateBefore hx hb hml hown hts (Nat.le_refl _) (Nat.le_refl _) (Nat.zero_le _) (Nat.zero_le _) hA hK x1 z K h (fun r u H locs pc ls hk hz hV hd => W.zret (ty := .boolean) hx hb hr (by rcases hz with rfl | rfl <;> rfl) (fun t ht hW => ⟨⟨r, u, rfl, hk, by rw [ht]; exact hV.1, va_K.moved hW.alike hK, hV.2.1⟩, hV.2.2.F ht⟩) hV.2.2.2.2 hd) ⟨hP, hD, va_S.rf⟩ hl
