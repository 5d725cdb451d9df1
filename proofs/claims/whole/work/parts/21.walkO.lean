theorem kd_prog_3_method_9_code_0 : decode prog_3_method_9_code 0 = .ok (.iload_n 1, 1) := by decide +kernel
theorem kd_prog_3_method_9_code_1 : decode prog_3_method_9_code 1 = .ok (.iconst (-1), 1) := by decide +kernel
theorem kd_prog_3_method_9_code_2 : decode prog_3_method_9_code 2 = .ok (.if_icmp .eq 12, 3) := by decide +kernel
theorem kd_prog_3_method_9_code_5 : decode prog_3_method_9_code 5 = .ok (.aload_n 0, 1) := by decide +kernel
theorem kd_prog_3_method_9_code_6 : decode prog_3_method_9_code 6 = .ok (.getfield 9, 3) := by decide +kernel
theorem kd_prog_3_method_9_code_9 : decode prog_3_method_9_code 9 = .ok (.iload_n 1, 1) := by decide +kernel
theorem kd_prog_3_method_9_code_10 : decode prog_3_method_9_code 10 = .ok (.baload, 1) := by decide +kernel
theorem kd_prog_3_method_9_code_11 : decode prog_3_method_9_code 11 = .ok (.ifCond .eq 5, 3) := by decide +kernel
theorem kd_prog_3_method_9_code_14 : decode prog_3_method_9_code 14 = .ok (.iconst 0, 1) := by decide +kernel
theorem kd_prog_3_method_9_code_15 : decode prog_3_method_9_code 15 = .ok (.ireturn, 1) := by decide +kernel
theorem kd_prog_3_method_9_code_16 : decode prog_3_method_9_code 16 = .ok (.aload_n 0, 1) := by decide +kernel
theorem kd_prog_3_method_9_code_17 : decode prog_3_method_9_code 17 = .ok (.getfield 9, 3) := by decide +kernel
theorem kd_prog_3_method_9_code_20 : decode prog_3_method_9_code 20 = .ok (.iload_n 1, 1) := by decide +kernel
theorem kd_prog_3_method_9_code_21 : decode prog_3_method_9_code 21 = .ok (.iconst 1, 1) := by decide +kernel
theorem kd_prog_3_method_9_code_22 : decode prog_3_method_9_code 22 = .ok (.bastore, 1) := by decide +kernel
theorem kd_prog_3_method_9_code_23 : decode prog_3_method_9_code 23 = .ok (.iconst 1, 1) := by decide +kernel
theorem kd_prog_3_method_9_code_24 : decode prog_3_method_9_code 24 = .ok (.ireturn, 1) := by decide +kernel
theorem kd_prog_3_method_8_code_0 : decode prog_3_method_8_code 0 = .ok (.iconst 0, 1) := by decide +kernel
theorem kd_prog_3_method_8_code_1 : decode prog_3_method_8_code 1 = .ok (.istore_n 1, 1) := by decide +kernel
theorem kd_prog_3_method_8_code_2 : decode prog_3_method_8_code 2 = .ok (.iload_n 1, 1) := by decide +kernel
theorem kd_prog_3_method_8_code_3 : decode prog_3_method_8_code 3 = .ok (.bipush 16, 2) := by decide +kernel
theorem kd_prog_3_method_8_code_5 : decode prog_3_method_8_code 5 = .ok (.if_icmp .ge 24, 3) := by decide +kernel
theorem kd_prog_3_method_8_code_8 : decode prog_3_method_8_code 8 = .ok (.aload_n 0, 1) := by decide +kernel
theorem kd_prog_3_method_8_code_9 : decode prog_3_method_8_code 9 = .ok (.getfield 9, 3) := by decide +kernel
theorem kd_prog_3_method_8_code_12 : decode prog_3_method_8_code 12 = .ok (.iload_n 1, 1) := by decide +kernel
theorem kd_prog_3_method_8_code_13 : decode prog_3_method_8_code 13 = .ok (.iload_n 1, 1) := by decide +kernel
theorem kd_prog_3_method_8_code_14 : decode prog_3_method_8_code 14 = .ok (.ifCond .ne 7, 3) := by decide +kernel
theorem kd_prog_3_method_8_code_17 : decode prog_3_method_8_code 17 = .ok (.iconst 1, 1) := by decide +kernel
theorem kd_prog_3_method_8_code_18 : decode prog_3_method_8_code 18 = .ok (.goto 4, 3) := by decide +kernel
theorem kd_prog_3_method_8_code_21 : decode prog_3_method_8_code 21 = .ok (.iconst 0, 1) := by decide +kernel
theorem kd_prog_3_method_8_code_22 : decode prog_3_method_8_code 22 = .ok (.bastore, 1) := by decide +kernel
theorem kd_prog_3_method_8_code_23 : decode prog_3_method_8_code 23 = .ok (.iinc 1 1, 3) := by decide +kernel
theorem kd_prog_3_method_8_code_26 : decode prog_3_method_8_code 26 = .ok (.goto (-24), 3) := by decide +kernel
theorem kd_prog_3_method_8_code_29 : decode prog_3_method_8_code 29 = .ok (.iconst 1, 1) := by decide +kernel
theorem kd_prog_3_method_8_code_30 : decode prog_3_method_8_code 30 = .ok (.istore_n 1, 1) := by decide +kernel
theorem kd_prog_3_method_8_code_31 : decode prog_3_method_8_code 31 = .ok (.iconst 0, 1) := by decide +kernel
theorem kd_prog_3_method_8_code_32 : decode prog_3_method_8_code 32 = .ok (.istore_n 2, 1) := by decide +kernel
theorem kd_prog_3_method_8_code_33 : decode prog_3_method_8_code 33 = .ok (.iload_n 1, 1) := by decide +kernel
theorem kd_prog_3_method_8_code_34 : decode prog_3_method_8_code 34 = .ok (.ifCond .eq 77, 3) := by decide +kernel
theorem kd_prog_3_method_8_code_37 : decode prog_3_method_8_code 37 = .ok (.iload_n 2, 1) := by decide +kernel
theorem kd_prog_3_method_8_code_38 : decode prog_3_method_8_code 38 = .ok (.bipush 16, 2) := by decide +kernel
theorem kd_prog_3_method_8_code_40 : decode prog_3_method_8_code 40 = .ok (.if_icmp .ge 71, 3) := by decide +kernel
theorem kd_prog_3_method_8_code_43 : decode prog_3_method_8_code 43 = .ok (.iconst 0, 1) := by decide +kernel
theorem kd_prog_3_method_8_code_44 : decode prog_3_method_8_code 44 = .ok (.istore_n 1, 1) := by decide +kernel
theorem kd_prog_3_method_8_code_45 : decode prog_3_method_8_code 45 = .ok (.iconst 0, 1) := by decide +kernel
theorem kd_prog_3_method_8_code_46 : decode prog_3_method_8_code 46 = .ok (.istore_n 3, 1) := by decide +kernel
theorem kd_prog_3_method_8_code_47 : decode prog_3_method_8_code 47 = .ok (.iload_n 3, 1) := by decide +kernel
theorem kd_prog_3_method_8_code_48 : decode prog_3_method_8_code 48 = .ok (.aload_n 0, 1) := by decide +kernel
theorem kd_prog_3_method_8_code_49 : decode prog_3_method_8_code 49 = .ok (.getfield 43, 3) := by decide +kernel
theorem kd_prog_3_method_8_code_52 : decode prog_3_method_8_code 52 = .ok (.getfield 50, 3) := by decide +kernel
theorem kd_prog_3_method_8_code_55 : decode prog_3_method_8_code 55 = .ok (.if_icmp .ge 50, 3) := by decide +kernel
theorem kd_prog_3_method_8_code_58 : decode prog_3_method_8_code 58 = .ok (.aload_n 0, 1) := by decide +kernel
theorem kd_prog_3_method_8_code_59 : decode prog_3_method_8_code 59 = .ok (.getfield 9, 3) := by decide +kernel
theorem kd_prog_3_method_8_code_62 : decode prog_3_method_8_code 62 = .ok (.iload_n 3, 1) := by decide +kernel
theorem kd_prog_3_method_8_code_63 : decode prog_3_method_8_code 63 = .ok (.baload, 1) := by decide +kernel
theorem kd_prog_3_method_8_code_64 : decode prog_3_method_8_code 64 = .ok (.ifCond .eq 35, 3) := by decide +kernel
theorem kd_prog_3_method_8_code_67 : decode prog_3_method_8_code 67 = .ok (.iload_n 1, 1) := by decide +kernel
theorem kd_prog_3_method_8_code_68 : decode prog_3_method_8_code 68 = .ok (.aload_n 0, 1) := by decide +kernel
theorem kd_prog_3_method_8_code_69 : decode prog_3_method_8_code 69 = .ok (.aload_n 0, 1) := by decide +kernel
theorem kd_prog_3_method_8_code_70 : decode prog_3_method_8_code 70 = .ok (.getfield 43, 3) := by decide +kernel
theorem kd_prog_3_method_8_code_73 : decode prog_3_method_8_code 73 = .ok (.getfield 84, 3) := by decide +kernel
theorem kd_prog_3_method_8_code_76 : decode prog_3_method_8_code 76 = .ok (.iload_n 3, 1) := by decide +kernel
theorem kd_prog_3_method_8_code_77 : decode prog_3_method_8_code 77 = .ok (.iaload, 1) := by decide +kernel
theorem kd_prog_3_method_8_code_78 : decode prog_3_method_8_code 78 = .ok (.invokevirtual 95, 3) := by decide +kernel
theorem kd_prog_3_method_8_code_81 : decode prog_3_method_8_code 81 = .ok (.ior, 1) := by decide +kernel
theorem kd_prog_3_method_8_code_82 : decode prog_3_method_8_code 82 = .ok (.istore_n 1, 1) := by decide +kernel
theorem kd_prog_3_method_8_code_83 : decode prog_3_method_8_code 83 = .ok (.iload_n 1, 1) := by decide +kernel
theorem kd_prog_3_method_8_code_84 : decode prog_3_method_8_code 84 = .ok (.aload_n 0, 1) := by decide +kernel
theorem kd_prog_3_method_8_code_85 : decode prog_3_method_8_code 85 = .ok (.aload_n 0, 1) := by decide +kernel
theorem kd_prog_3_method_8_code_86 : decode prog_3_method_8_code 86 = .ok (.getfield 43, 3) := by decide +kernel
theorem kd_prog_3_method_8_code_89 : decode prog_3_method_8_code 89 = .ok (.getfield 88, 3) := by decide +kernel
theorem kd_prog_3_method_8_code_92 : decode prog_3_method_8_code 92 = .ok (.iload_n 3, 1) := by decide +kernel
theorem kd_prog_3_method_8_code_93 : decode prog_3_method_8_code 93 = .ok (.iaload, 1) := by decide +kernel
theorem kd_prog_3_method_8_code_94 : decode prog_3_method_8_code 94 = .ok (.invokevirtual 95, 3) := by decide +kernel
theorem kd_prog_3_method_8_code_97 : decode prog_3_method_8_code 97 = .ok (.ior, 1) := by decide +kernel
theorem kd_prog_3_method_8_code_98 : decode prog_3_method_8_code 98 = .ok (.istore_n 1, 1) := by decide +kernel
theorem kd_prog_3_method_8_code_99 : decode prog_3_method_8_code 99 = .ok (.iinc 3 1, 3) := by decide +kernel
theorem kd_prog_3_method_8_code_102 : decode prog_3_method_8_code 102 = .ok (.goto (-55), 3) := by decide +kernel
theorem kd_prog_3_method_8_code_105 : decode prog_3_method_8_code 105 = .ok (.iinc 2 1, 3) := by decide +kernel
theorem kd_prog_3_method_8_code_108 : decode prog_3_method_8_code 108 = .ok (.goto (-75), 3) := by decide +kernel
theorem kd_prog_3_method_8_code_111 : decode prog_3_method_8_code 111 = .ok (.return_, 1) := by decide +kernel
theorem kd_prog_3_method_17_code_0 : decode prog_3_method_17_code 0 = .ok (.iload_n 1, 1) := by decide +kernel
theorem kd_prog_3_method_17_code_1 : decode prog_3_method_17_code 1 = .ok (.iconst (-1), 1) := by decide +kernel
theorem kd_prog_3_method_17_code_2 : decode prog_3_method_17_code 2 = .ok (.if_icmp .ne 5, 3) := by decide +kernel
theorem kd_prog_3_method_17_code_5 : decode prog_3_method_17_code 5 = .ok (.iconst 0, 1) := by decide +kernel
theorem kd_prog_3_method_17_code_6 : decode prog_3_method_17_code 6 = .ok (.ireturn, 1) := by decide +kernel
theorem kd_prog_3_method_17_code_7 : decode prog_3_method_17_code 7 = .ok (.aload_n 0, 1) := by decide +kernel
theorem kd_prog_3_method_17_code_8 : decode prog_3_method_17_code 8 = .ok (.iload_n 1, 1) := by decide +kernel
theorem kd_prog_3_method_17_code_9 : decode prog_3_method_17_code 9 = .ok (.laload, 1) := by decide +kernel
theorem kd_prog_3_method_17_code_10 : decode prog_3_method_17_code 10 = .ok (.lstore 4, 2) := by decide +kernel
theorem kd_prog_3_method_17_code_12 : decode prog_3_method_17_code 12 = .ok (.aload_n 0, 1) := by decide +kernel
theorem kd_prog_3_method_17_code_13 : decode prog_3_method_17_code 13 = .ok (.iload_n 1, 1) := by decide +kernel
theorem kd_prog_3_method_17_code_14 : decode prog_3_method_17_code 14 = .ok (.lload 4, 2) := by decide +kernel
theorem kd_prog_3_method_17_code_16 : decode prog_3_method_17_code 16 = .ok (.lload_n 2, 1) := by decide +kernel
theorem kd_prog_3_method_17_code_17 : decode prog_3_method_17_code 17 = .ok (.land, 1) := by decide +kernel
theorem kd_prog_3_method_17_code_18 : decode prog_3_method_17_code 18 = .ok (.lastore, 1) := by decide +kernel
theorem kd_prog_3_method_17_code_19 : decode prog_3_method_17_code 19 = .ok (.aload_n 0, 1) := by decide +kernel
theorem kd_prog_3_method_17_code_20 : decode prog_3_method_17_code 20 = .ok (.iload_n 1, 1) := by decide +kernel
theorem kd_prog_3_method_17_code_21 : decode prog_3_method_17_code 21 = .ok (.laload, 1) := by decide +kernel
theorem kd_prog_3_method_17_code_22 : decode prog_3_method_17_code 22 = .ok (.lload 4, 2) := by decide +kernel
theorem kd_prog_3_method_17_code_24 : decode prog_3_method_17_code 24 = .ok (.lcmp, 1) := by decide +kernel
theorem kd_prog_3_method_17_code_25 : decode prog_3_method_17_code 25 = .ok (.ifCond .eq 7, 3) := by decide +kernel
theorem kd_prog_3_method_17_code_28 : decode prog_3_method_17_code 28 = .ok (.iconst 1, 1) := by decide +kernel
theorem kd_prog_3_method_17_code_29 : decode prog_3_method_17_code 29 = .ok (.goto 4, 3) := by decide +kernel
theorem kd_prog_3_method_17_code_32 : decode prog_3_method_17_code 32 = .ok (.iconst 0, 1) := by decide +kernel
theorem kd_prog_3_method_17_code_33 : decode prog_3_method_17_code 33 = .ok (.ireturn, 1) := by decide +kernel
theorem kd_prog_3_method_12_code_0 : decode prog_3_method_12_code 0 = .ok (.aload_n 0, 1) := by decide +kernel
theorem kd_prog_3_method_12_code_1 : decode prog_3_method_12_code 1 = .ok (.getfield 25, 3) := by decide +kernel
theorem kd_prog_3_method_12_code_4 : decode prog_3_method_12_code 4 = .ok (.iconst 0, 1) := by decide +kernel
theorem kd_prog_3_method_12_code_5 : decode prog_3_method_12_code 5 = .ok (.lconst 0, 1) := by decide +kernel
theorem kd_prog_3_method_12_code_6 : decode prog_3_method_12_code 6 = .ok (.lastore, 1) := by decide +kernel
theorem kd_prog_3_method_12_code_7 : decode prog_3_method_12_code 7 = .ok (.iconst 1, 1) := by decide +kernel
theorem kd_prog_3_method_12_code_8 : decode prog_3_method_12_code 8 = .ok (.istore_n 1, 1) := by decide +kernel
theorem kd_prog_3_method_12_code_9 : decode prog_3_method_12_code 9 = .ok (.iconst 0, 1) := by decide +kernel
theorem kd_prog_3_method_12_code_10 : decode prog_3_method_12_code 10 = .ok (.istore_n 2, 1) := by decide +kernel
theorem kd_prog_3_method_12_code_11 : decode prog_3_method_12_code 11 = .ok (.iload_n 1, 1) := by decide +kernel
theorem kd_prog_3_method_12_code_12 : decode prog_3_method_12_code 12 = .ok (.ifCond .eq 126, 3) := by decide +kernel
theorem kd_prog_3_method_12_code_15 : decode prog_3_method_12_code 15 = .ok (.iload_n 2, 1) := by decide +kernel
theorem kd_prog_3_method_12_code_16 : decode prog_3_method_12_code 16 = .ok (.sipush 385, 3) := by decide +kernel
theorem kd_prog_3_method_12_code_19 : decode prog_3_method_12_code 19 = .ok (.if_icmp .ge 119, 3) := by decide +kernel
theorem kd_prog_3_method_12_code_22 : decode prog_3_method_12_code 22 = .ok (.iconst 0, 1) := by decide +kernel
theorem kd_prog_3_method_12_code_23 : decode prog_3_method_12_code 23 = .ok (.istore_n 1, 1) := by decide +kernel
theorem kd_prog_3_method_12_code_24 : decode prog_3_method_12_code 24 = .ok (.iconst 0, 1) := by decide +kernel
theorem kd_prog_3_method_12_code_25 : decode prog_3_method_12_code 25 = .ok (.istore_n 3, 1) := by decide +kernel
theorem kd_prog_3_method_12_code_26 : decode prog_3_method_12_code 26 = .ok (.iload_n 3, 1) := by decide +kernel
theorem kd_prog_3_method_12_code_27 : decode prog_3_method_12_code 27 = .ok (.aload_n 0, 1) := by decide +kernel
theorem kd_prog_3_method_12_code_28 : decode prog_3_method_12_code 28 = .ok (.getfield 43, 3) := by decide +kernel
theorem kd_prog_3_method_12_code_31 : decode prog_3_method_12_code 31 = .ok (.getfield 50, 3) := by decide +kernel
theorem kd_prog_3_method_12_code_34 : decode prog_3_method_12_code 34 = .ok (.if_icmp .ge 98, 3) := by decide +kernel
theorem kd_prog_3_method_12_code_37 : decode prog_3_method_12_code 37 = .ok (.aload_n 0, 1) := by decide +kernel
theorem kd_prog_3_method_12_code_38 : decode prog_3_method_12_code 38 = .ok (.getfield 9, 3) := by decide +kernel
theorem kd_prog_3_method_12_code_41 : decode prog_3_method_12_code 41 = .ok (.iload_n 3, 1) := by decide +kernel
theorem kd_prog_3_method_12_code_42 : decode prog_3_method_12_code 42 = .ok (.baload, 1) := by decide +kernel
theorem kd_prog_3_method_12_code_43 : decode prog_3_method_12_code 43 = .ok (.ifCond .eq 83, 3) := by decide +kernel
theorem kd_prog_3_method_12_code_46 : decode prog_3_method_12_code 46 = .ok (.aload_n 0, 1) := by decide +kernel
theorem kd_prog_3_method_12_code_47 : decode prog_3_method_12_code 47 = .ok (.getfield 28, 3) := by decide +kernel
theorem kd_prog_3_method_12_code_50 : decode prog_3_method_12_code 50 = .ok (.iload_n 3, 1) := by decide +kernel
theorem kd_prog_3_method_12_code_51 : decode prog_3_method_12_code 51 = .ok (.aload_n 0, 1) := by decide +kernel
theorem kd_prog_3_method_12_code_52 : decode prog_3_method_12_code 52 = .ok (.getfield 22, 3) := by decide +kernel
theorem kd_prog_3_method_12_code_55 : decode prog_3_method_12_code 55 = .ok (.iload_n 3, 1) := by decide +kernel
theorem kd_prog_3_method_12_code_56 : decode prog_3_method_12_code 56 = .ok (.laload, 1) := by decide +kernel
theorem kd_prog_3_method_12_code_57 : decode prog_3_method_12_code 57 = .ok (.aload_n 0, 1) := by decide +kernel
theorem kd_prog_3_method_12_code_58 : decode prog_3_method_12_code 58 = .ok (.getfield 25, 3) := by decide +kernel
theorem kd_prog_3_method_12_code_61 : decode prog_3_method_12_code 61 = .ok (.iload_n 3, 1) := by decide +kernel
theorem kd_prog_3_method_12_code_62 : decode prog_3_method_12_code 62 = .ok (.laload, 1) := by decide +kernel
theorem kd_prog_3_method_12_code_63 : decode prog_3_method_12_code 63 = .ok (.aload_n 0, 1) := by decide +kernel
theorem kd_prog_3_method_12_code_64 : decode prog_3_method_12_code 64 = .ok (.getfield 15, 3) := by decide +kernel
theorem kd_prog_3_method_12_code_67 : decode prog_3_method_12_code 67 = .ok (.iload_n 3, 1) := by decide +kernel
theorem kd_prog_3_method_12_code_68 : decode prog_3_method_12_code 68 = .ok (.laload, 1) := by decide +kernel
theorem kd_prog_3_method_12_code_69 : decode prog_3_method_12_code 69 = .ok (.ldc2_w 72, 3) := by decide +kernel
theorem kd_prog_3_method_12_code_72 : decode prog_3_method_12_code 72 = .ok (.lxor, 1) := by decide +kernel
theorem kd_prog_3_method_12_code_73 : decode prog_3_method_12_code 73 = .ok (.land, 1) := by decide +kernel
theorem kd_prog_3_method_12_code_74 : decode prog_3_method_12_code 74 = .ok (.lor, 1) := by decide +kernel
theorem kd_prog_3_method_12_code_75 : decode prog_3_method_12_code 75 = .ok (.lastore, 1) := by decide +kernel
theorem kd_prog_3_method_12_code_76 : decode prog_3_method_12_code 76 = .ok (.iload_n 1, 1) := by decide +kernel
theorem kd_prog_3_method_12_code_77 : decode prog_3_method_12_code 77 = .ok (.aload_n 0, 1) := by decide +kernel
theorem kd_prog_3_method_12_code_78 : decode prog_3_method_12_code 78 = .ok (.getfield 25, 3) := by decide +kernel
theorem kd_prog_3_method_12_code_81 : decode prog_3_method_12_code 81 = .ok (.aload_n 0, 1) := by decide +kernel
theorem kd_prog_3_method_12_code_82 : decode prog_3_method_12_code 82 = .ok (.getfield 43, 3) := by decide +kernel
theorem kd_prog_3_method_12_code_85 : decode prog_3_method_12_code 85 = .ok (.getfield 84, 3) := by decide +kernel
theorem kd_prog_3_method_12_code_88 : decode prog_3_method_12_code 88 = .ok (.iload_n 3, 1) := by decide +kernel
theorem kd_prog_3_method_12_code_89 : decode prog_3_method_12_code 89 = .ok (.iaload, 1) := by decide +kernel
theorem kd_prog_3_method_12_code_90 : decode prog_3_method_12_code 90 = .ok (.aload_n 0, 1) := by decide +kernel
theorem kd_prog_3_method_12_code_91 : decode prog_3_method_12_code 91 = .ok (.getfield 28, 3) := by decide +kernel
theorem kd_prog_3_method_12_code_94 : decode prog_3_method_12_code 94 = .ok (.iload_n 3, 1) := by decide +kernel
theorem kd_prog_3_method_12_code_95 : decode prog_3_method_12_code 95 = .ok (.laload, 1) := by decide +kernel
theorem kd_prog_3_method_12_code_96 : decode prog_3_method_12_code 96 = .ok (.invokestatic 116, 3) := by decide +kernel
theorem kd_prog_3_method_12_code_99 : decode prog_3_method_12_code 99 = .ok (.ior, 1) := by decide +kernel
theorem kd_prog_3_method_12_code_100 : decode prog_3_method_12_code 100 = .ok (.istore_n 1, 1) := by decide +kernel
theorem kd_prog_3_method_12_code_101 : decode prog_3_method_12_code 101 = .ok (.iload_n 1, 1) := by decide +kernel
theorem kd_prog_3_method_12_code_102 : decode prog_3_method_12_code 102 = .ok (.aload_n 0, 1) := by decide +kernel
theorem kd_prog_3_method_12_code_103 : decode prog_3_method_12_code 103 = .ok (.getfield 25, 3) := by decide +kernel
theorem kd_prog_3_method_12_code_106 : decode prog_3_method_12_code 106 = .ok (.aload_n 0, 1) := by decide +kernel
theorem kd_prog_3_method_12_code_107 : decode prog_3_method_12_code 107 = .ok (.getfield 43, 3) := by decide +kernel
theorem kd_prog_3_method_12_code_110 : decode prog_3_method_12_code 110 = .ok (.getfield 88, 3) := by decide +kernel
theorem kd_prog_3_method_12_code_113 : decode prog_3_method_12_code 113 = .ok (.iload_n 3, 1) := by decide +kernel
theorem kd_prog_3_method_12_code_114 : decode prog_3_method_12_code 114 = .ok (.iaload, 1) := by decide +kernel
theorem kd_prog_3_method_12_code_115 : decode prog_3_method_12_code 115 = .ok (.aload_n 0, 1) := by decide +kernel
theorem kd_prog_3_method_12_code_116 : decode prog_3_method_12_code 116 = .ok (.getfield 28, 3) := by decide +kernel
theorem kd_prog_3_method_12_code_119 : decode prog_3_method_12_code 119 = .ok (.iload_n 3, 1) := by decide +kernel
theorem kd_prog_3_method_12_code_120 : decode prog_3_method_12_code 120 = .ok (.laload, 1) := by decide +kernel
theorem kd_prog_3_method_12_code_121 : decode prog_3_method_12_code 121 = .ok (.invokestatic 116, 3) := by decide +kernel
theorem kd_prog_3_method_12_code_124 : decode prog_3_method_12_code 124 = .ok (.ior, 1) := by decide +kernel
theorem kd_prog_3_method_12_code_125 : decode prog_3_method_12_code 125 = .ok (.istore_n 1, 1) := by decide +kernel
theorem kd_prog_3_method_12_code_126 : decode prog_3_method_12_code 126 = .ok (.iinc 3 1, 3) := by decide +kernel
theorem kd_prog_3_method_12_code_129 : decode prog_3_method_12_code 129 = .ok (.goto (-103), 3) := by decide +kernel
theorem kd_prog_3_method_12_code_132 : decode prog_3_method_12_code 132 = .ok (.iinc 2 1, 3) := by decide +kernel
theorem kd_prog_3_method_12_code_135 : decode prog_3_method_12_code 135 = .ok (.goto (-124), 3) := by decide +kernel
theorem kd_prog_3_method_12_code_138 : decode prog_3_method_12_code 138 = .ok (.return_, 1) := by decide +kernel
theorem kd_prog_3_method_14_code_0 : decode prog_3_method_14_code 0 = .ok (.iload_n 1, 1) := by decide +kernel
theorem kd_prog_3_method_14_code_1 : decode prog_3_method_14_code 1 = .ok (.iconst (-1), 1) := by decide +kernel
theorem kd_prog_3_method_14_code_2 : decode prog_3_method_14_code 2 = .ok (.if_icmp .eq 8, 3) := by decide +kernel
theorem kd_prog_3_method_14_code_5 : decode prog_3_method_14_code 5 = .ok (.iload_n 2, 1) := by decide +kernel
theorem kd_prog_3_method_14_code_6 : decode prog_3_method_14_code 6 = .ok (.iconst (-1), 1) := by decide +kernel
theorem kd_prog_3_method_14_code_7 : decode prog_3_method_14_code 7 = .ok (.if_icmp .ne 5, 3) := by decide +kernel
theorem kd_prog_3_method_14_code_10 : decode prog_3_method_14_code 10 = .ok (.lconst 0, 1) := by decide +kernel
theorem kd_prog_3_method_14_code_11 : decode prog_3_method_14_code 11 = .ok (.lreturn, 1) := by decide +kernel
theorem kd_prog_3_method_14_code_12 : decode prog_3_method_14_code 12 = .ok (.aload_n 0, 1) := by decide +kernel
theorem kd_prog_3_method_14_code_13 : decode prog_3_method_14_code 13 = .ok (.getfield 31, 3) := by decide +kernel
theorem kd_prog_3_method_14_code_16 : decode prog_3_method_14_code 16 = .ok (.iload_n 1, 1) := by decide +kernel
theorem kd_prog_3_method_14_code_17 : decode prog_3_method_14_code 17 = .ok (.laload, 1) := by decide +kernel
theorem kd_prog_3_method_14_code_18 : decode prog_3_method_14_code 18 = .ok (.aload_n 0, 1) := by decide +kernel
theorem kd_prog_3_method_14_code_19 : decode prog_3_method_14_code 19 = .ok (.getfield 31, 3) := by decide +kernel
theorem kd_prog_3_method_14_code_22 : decode prog_3_method_14_code 22 = .ok (.iload_n 2, 1) := by decide +kernel
theorem kd_prog_3_method_14_code_23 : decode prog_3_method_14_code 23 = .ok (.laload, 1) := by decide +kernel
theorem kd_prog_3_method_14_code_24 : decode prog_3_method_14_code 24 = .ok (.land, 1) := by decide +kernel
theorem kd_prog_3_method_14_code_25 : decode prog_3_method_14_code 25 = .ok (.lreturn, 1) := by decide +kernel
theorem kd_prog_3_method_13_code_0 : decode prog_3_method_13_code 0 = .ok (.iconst 1, 1) := by decide +kernel
theorem kd_prog_3_method_13_code_1 : decode prog_3_method_13_code 1 = .ok (.istore_n 1, 1) := by decide +kernel
theorem kd_prog_3_method_13_code_2 : decode prog_3_method_13_code 2 = .ok (.iconst 0, 1) := by decide +kernel
theorem kd_prog_3_method_13_code_3 : decode prog_3_method_13_code 3 = .ok (.istore_n 2, 1) := by decide +kernel
theorem kd_prog_3_method_13_code_4 : decode prog_3_method_13_code 4 = .ok (.iload_n 1, 1) := by decide +kernel
theorem kd_prog_3_method_13_code_5 : decode prog_3_method_13_code 5 = .ok (.ifCond .eq 110, 3) := by decide +kernel
theorem kd_prog_3_method_13_code_8 : decode prog_3_method_13_code 8 = .ok (.iload_n 2, 1) := by decide +kernel
theorem kd_prog_3_method_13_code_9 : decode prog_3_method_13_code 9 = .ok (.sipush 385, 3) := by decide +kernel
theorem kd_prog_3_method_13_code_12 : decode prog_3_method_13_code 12 = .ok (.if_icmp .ge 103, 3) := by decide +kernel
theorem kd_prog_3_method_13_code_15 : decode prog_3_method_13_code 15 = .ok (.iconst 0, 1) := by decide +kernel
theorem kd_prog_3_method_13_code_16 : decode prog_3_method_13_code 16 = .ok (.istore_n 1, 1) := by decide +kernel
theorem kd_prog_3_method_13_code_17 : decode prog_3_method_13_code 17 = .ok (.aload_n 0, 1) := by decide +kernel
theorem kd_prog_3_method_13_code_18 : decode prog_3_method_13_code 18 = .ok (.getfield 43, 3) := by decide +kernel
theorem kd_prog_3_method_13_code_21 : decode prog_3_method_13_code 21 = .ok (.getfield 50, 3) := by decide +kernel
theorem kd_prog_3_method_13_code_24 : decode prog_3_method_13_code 24 = .ok (.iconst 1, 1) := by decide +kernel
theorem kd_prog_3_method_13_code_25 : decode prog_3_method_13_code 25 = .ok (.isub, 1) := by decide +kernel
theorem kd_prog_3_method_13_code_26 : decode prog_3_method_13_code 26 = .ok (.istore_n 3, 1) := by decide +kernel
theorem kd_prog_3_method_13_code_27 : decode prog_3_method_13_code 27 = .ok (.iload_n 3, 1) := by decide +kernel
theorem kd_prog_3_method_13_code_28 : decode prog_3_method_13_code 28 = .ok (.ifCond .lt 81, 3) := by decide +kernel
theorem kd_prog_3_method_13_code_31 : decode prog_3_method_13_code 31 = .ok (.aload_n 0, 1) := by decide +kernel
theorem kd_prog_3_method_13_code_32 : decode prog_3_method_13_code 32 = .ok (.getfield 9, 3) := by decide +kernel
theorem kd_prog_3_method_13_code_35 : decode prog_3_method_13_code 35 = .ok (.iload_n 3, 1) := by decide +kernel
theorem kd_prog_3_method_13_code_36 : decode prog_3_method_13_code 36 = .ok (.baload, 1) := by decide +kernel
theorem kd_prog_3_method_13_code_37 : decode prog_3_method_13_code 37 = .ok (.ifCond .eq 66, 3) := by decide +kernel
theorem kd_prog_3_method_13_code_40 : decode prog_3_method_13_code 40 = .ok (.aload_n 0, 1) := by decide +kernel
theorem kd_prog_3_method_13_code_41 : decode prog_3_method_13_code 41 = .ok (.getfield 34, 3) := by decide +kernel
theorem kd_prog_3_method_13_code_44 : decode prog_3_method_13_code 44 = .ok (.iload_n 3, 1) := by decide +kernel
theorem kd_prog_3_method_13_code_45 : decode prog_3_method_13_code 45 = .ok (.aload_n 0, 1) := by decide +kernel
theorem kd_prog_3_method_13_code_46 : decode prog_3_method_13_code 46 = .ok (.aload_n 0, 1) := by decide +kernel
theorem kd_prog_3_method_13_code_47 : decode prog_3_method_13_code 47 = .ok (.getfield 43, 3) := by decide +kernel
theorem kd_prog_3_method_13_code_50 : decode prog_3_method_13_code 50 = .ok (.getfield 84, 3) := by decide +kernel
theorem kd_prog_3_method_13_code_53 : decode prog_3_method_13_code 53 = .ok (.iload_n 3, 1) := by decide +kernel
theorem kd_prog_3_method_13_code_54 : decode prog_3_method_13_code 54 = .ok (.iaload, 1) := by decide +kernel
theorem kd_prog_3_method_13_code_55 : decode prog_3_method_13_code 55 = .ok (.aload_n 0, 1) := by decide +kernel
theorem kd_prog_3_method_13_code_56 : decode prog_3_method_13_code 56 = .ok (.getfield 43, 3) := by decide +kernel
theorem kd_prog_3_method_13_code_59 : decode prog_3_method_13_code 59 = .ok (.getfield 88, 3) := by decide +kernel
theorem kd_prog_3_method_13_code_62 : decode prog_3_method_13_code 62 = .ok (.iload_n 3, 1) := by decide +kernel
theorem kd_prog_3_method_13_code_63 : decode prog_3_method_13_code 63 = .ok (.iaload, 1) := by decide +kernel
theorem kd_prog_3_method_13_code_64 : decode prog_3_method_13_code 64 = .ok (.invokevirtual 120, 3) := by decide +kernel
theorem kd_prog_3_method_13_code_67 : decode prog_3_method_13_code 67 = .ok (.lastore, 1) := by decide +kernel
theorem kd_prog_3_method_13_code_68 : decode prog_3_method_13_code 68 = .ok (.iload_n 1, 1) := by decide +kernel
theorem kd_prog_3_method_13_code_69 : decode prog_3_method_13_code 69 = .ok (.aload_n 0, 1) := by decide +kernel
theorem kd_prog_3_method_13_code_70 : decode prog_3_method_13_code 70 = .ok (.getfield 31, 3) := by decide +kernel
theorem kd_prog_3_method_13_code_73 : decode prog_3_method_13_code 73 = .ok (.iload_n 3, 1) := by decide +kernel
theorem kd_prog_3_method_13_code_74 : decode prog_3_method_13_code 74 = .ok (.aload_n 0, 1) := by decide +kernel
theorem kd_prog_3_method_13_code_75 : decode prog_3_method_13_code 75 = .ok (.getfield 19, 3) := by decide +kernel
theorem kd_prog_3_method_13_code_78 : decode prog_3_method_13_code 78 = .ok (.iload_n 3, 1) := by decide +kernel
theorem kd_prog_3_method_13_code_79 : decode prog_3_method_13_code 79 = .ok (.laload, 1) := by decide +kernel
theorem kd_prog_3_method_13_code_80 : decode prog_3_method_13_code 80 = .ok (.aload_n 0, 1) := by decide +kernel
theorem kd_prog_3_method_13_code_81 : decode prog_3_method_13_code 81 = .ok (.getfield 34, 3) := by decide +kernel
theorem kd_prog_3_method_13_code_84 : decode prog_3_method_13_code 84 = .ok (.iload_n 3, 1) := by decide +kernel
theorem kd_prog_3_method_13_code_85 : decode prog_3_method_13_code 85 = .ok (.laload, 1) := by decide +kernel
theorem kd_prog_3_method_13_code_86 : decode prog_3_method_13_code 86 = .ok (.aload_n 0, 1) := by decide +kernel
theorem kd_prog_3_method_13_code_87 : decode prog_3_method_13_code 87 = .ok (.getfield 15, 3) := by decide +kernel
theorem kd_prog_3_method_13_code_90 : decode prog_3_method_13_code 90 = .ok (.iload_n 3, 1) := by decide +kernel
theorem kd_prog_3_method_13_code_91 : decode prog_3_method_13_code 91 = .ok (.laload, 1) := by decide +kernel
theorem kd_prog_3_method_13_code_92 : decode prog_3_method_13_code 92 = .ok (.ldc2_w 72, 3) := by decide +kernel
theorem kd_prog_3_method_13_code_95 : decode prog_3_method_13_code 95 = .ok (.lxor, 1) := by decide +kernel
theorem kd_prog_3_method_13_code_96 : decode prog_3_method_13_code 96 = .ok (.land, 1) := by decide +kernel
theorem kd_prog_3_method_13_code_97 : decode prog_3_method_13_code 97 = .ok (.lor, 1) := by decide +kernel
theorem kd_prog_3_method_13_code_98 : decode prog_3_method_13_code 98 = .ok (.invokestatic 116, 3) := by decide +kernel
theorem kd_prog_3_method_13_code_101 : decode prog_3_method_13_code 101 = .ok (.ior, 1) := by decide +kernel
theorem kd_prog_3_method_13_code_102 : decode prog_3_method_13_code 102 = .ok (.istore_n 1, 1) := by decide +kernel
theorem kd_prog_3_method_13_code_103 : decode prog_3_method_13_code 103 = .ok (.iinc 3 (-1), 3) := by decide +kernel
theorem kd_prog_3_method_13_code_106 : decode prog_3_method_13_code 106 = .ok (.goto (-79), 3) := by decide +kernel
theorem kd_prog_3_method_13_code_109 : decode prog_3_method_13_code 109 = .ok (.iinc 2 1, 3) := by decide +kernel
theorem kd_prog_3_method_13_code_112 : decode prog_3_method_13_code 112 = .ok (.goto (-108), 3) := by decide +kernel
theorem kd_prog_3_method_13_code_115 : decode prog_3_method_13_code 115 = .ok (.return_, 1) := by decide +kernel
theorem kd_prog_3_method_7_code_0 : decode prog_3_method_7_code 0 = .ok (.iload_n 1, 1) := by decide +kernel
theorem kd_prog_3_method_7_code_1 : decode prog_3_method_7_code 1 = .ok (.iconst (-1), 1) := by decide +kernel
theorem kd_prog_3_method_7_code_2 : decode prog_3_method_7_code 2 = .ok (.if_icmp .ne 10, 3) := by decide +kernel
theorem kd_prog_3_method_7_code_5 : decode prog_3_method_7_code 5 = .ok (.aload_n 0, 1) := by decide +kernel
theorem kd_prog_3_method_7_code_6 : decode prog_3_method_7_code 6 = .ok (.getfield 31, 3) := by decide +kernel
theorem kd_prog_3_method_7_code_9 : decode prog_3_method_7_code 9 = .ok (.iload_n 2, 1) := by decide +kernel
theorem kd_prog_3_method_7_code_10 : decode prog_3_method_7_code 10 = .ok (.laload, 1) := by decide +kernel
theorem kd_prog_3_method_7_code_11 : decode prog_3_method_7_code 11 = .ok (.lreturn, 1) := by decide +kernel
theorem kd_prog_3_method_7_code_12 : decode prog_3_method_7_code 12 = .ok (.aload_n 0, 1) := by decide +kernel
theorem kd_prog_3_method_7_code_13 : decode prog_3_method_7_code 13 = .ok (.getfield 31, 3) := by decide +kernel
theorem kd_prog_3_method_7_code_16 : decode prog_3_method_7_code 16 = .ok (.iload_n 2, 1) := by decide +kernel
theorem kd_prog_3_method_7_code_17 : decode prog_3_method_7_code 17 = .ok (.laload, 1) := by decide +kernel
theorem kd_prog_3_method_7_code_18 : decode prog_3_method_7_code 18 = .ok (.aload_n 0, 1) := by decide +kernel
theorem kd_prog_3_method_7_code_19 : decode prog_3_method_7_code 19 = .ok (.getfield 28, 3) := by decide +kernel
theorem kd_prog_3_method_7_code_22 : decode prog_3_method_7_code 22 = .ok (.iload_n 1, 1) := by decide +kernel
theorem kd_prog_3_method_7_code_23 : decode prog_3_method_7_code 23 = .ok (.laload, 1) := by decide +kernel
theorem kd_prog_3_method_7_code_24 : decode prog_3_method_7_code 24 = .ok (.ldc2_w 72, 3) := by decide +kernel
theorem kd_prog_3_method_7_code_27 : decode prog_3_method_7_code 27 = .ok (.lxor, 1) := by decide +kernel
theorem kd_prog_3_method_7_code_28 : decode prog_3_method_7_code 28 = .ok (.land, 1) := by decide +kernel
theorem kd_prog_3_method_7_code_29 : decode prog_3_method_7_code 29 = .ok (.aload_n 0, 1) := by decide +kernel
theorem kd_prog_3_method_7_code_30 : decode prog_3_method_7_code 30 = .ok (.getfield 15, 3) := by decide +kernel
theorem kd_prog_3_method_7_code_33 : decode prog_3_method_7_code 33 = .ok (.iload_n 1, 1) := by decide +kernel
theorem kd_prog_3_method_7_code_34 : decode prog_3_method_7_code 34 = .ok (.laload, 1) := by decide +kernel
theorem kd_prog_3_method_7_code_35 : decode prog_3_method_7_code 35 = .ok (.aload_n 0, 1) := by decide +kernel
theorem kd_prog_3_method_7_code_36 : decode prog_3_method_7_code 36 = .ok (.getfield 34, 3) := by decide +kernel
theorem kd_prog_3_method_7_code_39 : decode prog_3_method_7_code 39 = .ok (.iload_n 1, 1) := by decide +kernel
theorem kd_prog_3_method_7_code_40 : decode prog_3_method_7_code 40 = .ok (.laload, 1) := by decide +kernel
theorem kd_prog_3_method_7_code_41 : decode prog_3_method_7_code 41 = .ok (.ldc2_w 72, 3) := by decide +kernel
theorem kd_prog_3_method_7_code_44 : decode prog_3_method_7_code 44 = .ok (.lxor, 1) := by decide +kernel
theorem kd_prog_3_method_7_code_45 : decode prog_3_method_7_code 45 = .ok (.lor, 1) := by decide +kernel
theorem kd_prog_3_method_7_code_46 : decode prog_3_method_7_code 46 = .ok (.land, 1) := by decide +kernel
theorem kd_prog_3_method_7_code_47 : decode prog_3_method_7_code 47 = .ok (.lstore_n 3, 1) := by decide +kernel
theorem kd_prog_3_method_7_code_48 : decode prog_3_method_7_code 48 = .ok (.lload_n 3, 1) := by decide +kernel
theorem kd_prog_3_method_7_code_49 : decode prog_3_method_7_code 49 = .ok (.aload_n 0, 1) := by decide +kernel
theorem kd_prog_3_method_7_code_50 : decode prog_3_method_7_code 50 = .ok (.getfield 37, 3) := by decide +kernel
theorem kd_prog_3_method_7_code_53 : decode prog_3_method_7_code 53 = .ok (.iload_n 1, 1) := by decide +kernel
theorem kd_prog_3_method_7_code_54 : decode prog_3_method_7_code 54 = .ok (.laload, 1) := by decide +kernel
theorem kd_prog_3_method_7_code_55 : decode prog_3_method_7_code 55 = .ok (.aload_n 0, 1) := by decide +kernel
theorem kd_prog_3_method_7_code_56 : decode prog_3_method_7_code 56 = .ok (.getfield 19, 3) := by decide +kernel
theorem kd_prog_3_method_7_code_59 : decode prog_3_method_7_code 59 = .ok (.iload_n 1, 1) := by decide +kernel
theorem kd_prog_3_method_7_code_60 : decode prog_3_method_7_code 60 = .ok (.laload, 1) := by decide +kernel
theorem kd_prog_3_method_7_code_61 : decode prog_3_method_7_code 61 = .ok (.ldc2_w 72, 3) := by decide +kernel
theorem kd_prog_3_method_7_code_64 : decode prog_3_method_7_code 64 = .ok (.lxor, 1) := by decide +kernel
theorem kd_prog_3_method_7_code_65 : decode prog_3_method_7_code 65 = .ok (.land, 1) := by decide +kernel
theorem kd_prog_3_method_7_code_66 : decode prog_3_method_7_code 66 = .ok (.lor, 1) := by decide +kernel
theorem kd_prog_3_method_7_code_67 : decode prog_3_method_7_code 67 = .ok (.lreturn, 1) := by decide +kernel
theorem kd_prog_3_method_16_code_0 : decode prog_3_method_16_code 0 = .ok (.iload_n 2, 1) := by decide +kernel
theorem kd_prog_3_method_16_code_1 : decode prog_3_method_16_code 1 = .ok (.iconst (-1), 1) := by decide +kernel
theorem kd_prog_3_method_16_code_2 : decode prog_3_method_16_code 2 = .ok (.if_icmp .eq 24, 3) := by decide +kernel
theorem kd_prog_3_method_16_code_5 : decode prog_3_method_16_code 5 = .ok (.aload_n 0, 1) := by decide +kernel
theorem kd_prog_3_method_16_code_6 : decode prog_3_method_16_code 6 = .ok (.getfield 37, 3) := by decide +kernel
theorem kd_prog_3_method_16_code_9 : decode prog_3_method_16_code 9 = .ok (.iload_n 2, 1) := by decide +kernel
theorem kd_prog_3_method_16_code_10 : decode prog_3_method_16_code 10 = .ok (.aload_n 0, 1) := by decide +kernel
theorem kd_prog_3_method_16_code_11 : decode prog_3_method_16_code 11 = .ok (.iload_n 1, 1) := by decide +kernel
theorem kd_prog_3_method_16_code_12 : decode prog_3_method_16_code 12 = .ok (.iload_n 2, 1) := by decide +kernel
theorem kd_prog_3_method_16_code_13 : decode prog_3_method_16_code 13 = .ok (.invokevirtual 91, 3) := by decide +kernel
theorem kd_prog_3_method_16_code_16 : decode prog_3_method_16_code 16 = .ok (.invokestatic 116, 3) := by decide +kernel
theorem kd_prog_3_method_16_code_19 : decode prog_3_method_16_code 19 = .ok (.ifCond .eq 7, 3) := by decide +kernel
theorem kd_prog_3_method_16_code_22 : decode prog_3_method_16_code 22 = .ok (.iconst 1, 1) := by decide +kernel
theorem kd_prog_3_method_16_code_23 : decode prog_3_method_16_code 23 = .ok (.goto 4, 3) := by decide +kernel
theorem kd_prog_3_method_16_code_26 : decode prog_3_method_16_code 26 = .ok (.iconst 0, 1) := by decide +kernel
theorem kd_prog_3_method_16_code_27 : decode prog_3_method_16_code 27 = .ok (.ireturn, 1) := by decide +kernel
theorem kd_prog_3_method_15_code_0 : decode prog_3_method_15_code 0 = .ok (.aload_n 0, 1) := by decide +kernel
theorem kd_prog_3_method_15_code_1 : decode prog_3_method_15_code 1 = .ok (.getfield 37, 3) := by decide +kernel
theorem kd_prog_3_method_15_code_4 : decode prog_3_method_15_code 4 = .ok (.iconst 0, 1) := by decide +kernel
theorem kd_prog_3_method_15_code_5 : decode prog_3_method_15_code 5 = .ok (.aload_n 0, 1) := by decide +kernel
theorem kd_prog_3_method_15_code_6 : decode prog_3_method_15_code 6 = .ok (.iconst (-1), 1) := by decide +kernel
theorem kd_prog_3_method_15_code_7 : decode prog_3_method_15_code 7 = .ok (.iconst 0, 1) := by decide +kernel
theorem kd_prog_3_method_15_code_8 : decode prog_3_method_15_code 8 = .ok (.invokevirtual 91, 3) := by decide +kernel
theorem kd_prog_3_method_15_code_11 : decode prog_3_method_15_code 11 = .ok (.lastore, 1) := by decide +kernel
theorem kd_prog_3_method_15_code_12 : decode prog_3_method_15_code 12 = .ok (.iconst 1, 1) := by decide +kernel
theorem kd_prog_3_method_15_code_13 : decode prog_3_method_15_code 13 = .ok (.istore_n 1, 1) := by decide +kernel
theorem kd_prog_3_method_15_code_14 : decode prog_3_method_15_code 14 = .ok (.iconst 0, 1) := by decide +kernel
theorem kd_prog_3_method_15_code_15 : decode prog_3_method_15_code 15 = .ok (.istore_n 2, 1) := by decide +kernel
theorem kd_prog_3_method_15_code_16 : decode prog_3_method_15_code 16 = .ok (.iload_n 1, 1) := by decide +kernel
theorem kd_prog_3_method_15_code_17 : decode prog_3_method_15_code 17 = .ok (.ifCond .eq 80, 3) := by decide +kernel
theorem kd_prog_3_method_15_code_20 : decode prog_3_method_15_code 20 = .ok (.iload_n 2, 1) := by decide +kernel
theorem kd_prog_3_method_15_code_21 : decode prog_3_method_15_code 21 = .ok (.sipush 385, 3) := by decide +kernel
theorem kd_prog_3_method_15_code_24 : decode prog_3_method_15_code 24 = .ok (.if_icmp .ge 73, 3) := by decide +kernel
theorem kd_prog_3_method_15_code_27 : decode prog_3_method_15_code 27 = .ok (.iconst 0, 1) := by decide +kernel
theorem kd_prog_3_method_15_code_28 : decode prog_3_method_15_code 28 = .ok (.istore_n 1, 1) := by decide +kernel
theorem kd_prog_3_method_15_code_29 : decode prog_3_method_15_code 29 = .ok (.iconst 0, 1) := by decide +kernel
theorem kd_prog_3_method_15_code_30 : decode prog_3_method_15_code 30 = .ok (.istore_n 3, 1) := by decide +kernel
theorem kd_prog_3_method_15_code_31 : decode prog_3_method_15_code 31 = .ok (.iload_n 3, 1) := by decide +kernel
theorem kd_prog_3_method_15_code_32 : decode prog_3_method_15_code 32 = .ok (.aload_n 0, 1) := by decide +kernel
theorem kd_prog_3_method_15_code_33 : decode prog_3_method_15_code 33 = .ok (.getfield 43, 3) := by decide +kernel
theorem kd_prog_3_method_15_code_36 : decode prog_3_method_15_code 36 = .ok (.getfield 50, 3) := by decide +kernel
theorem kd_prog_3_method_15_code_39 : decode prog_3_method_15_code 39 = .ok (.if_icmp .ge 52, 3) := by decide +kernel
theorem kd_prog_3_method_15_code_42 : decode prog_3_method_15_code 42 = .ok (.aload_n 0, 1) := by decide +kernel
theorem kd_prog_3_method_15_code_43 : decode prog_3_method_15_code 43 = .ok (.getfield 9, 3) := by decide +kernel
theorem kd_prog_3_method_15_code_46 : decode prog_3_method_15_code 46 = .ok (.iload_n 3, 1) := by decide +kernel
theorem kd_prog_3_method_15_code_47 : decode prog_3_method_15_code 47 = .ok (.baload, 1) := by decide +kernel
theorem kd_prog_3_method_15_code_48 : decode prog_3_method_15_code 48 = .ok (.ifCond .eq 37, 3) := by decide +kernel
theorem kd_prog_3_method_15_code_51 : decode prog_3_method_15_code 51 = .ok (.iload_n 1, 1) := by decide +kernel
theorem kd_prog_3_method_15_code_52 : decode prog_3_method_15_code 52 = .ok (.aload_n 0, 1) := by decide +kernel
theorem kd_prog_3_method_15_code_53 : decode prog_3_method_15_code 53 = .ok (.iload_n 3, 1) := by decide +kernel
theorem kd_prog_3_method_15_code_54 : decode prog_3_method_15_code 54 = .ok (.aload_n 0, 1) := by decide +kernel
theorem kd_prog_3_method_15_code_55 : decode prog_3_method_15_code 55 = .ok (.getfield 43, 3) := by decide +kernel
theorem kd_prog_3_method_15_code_58 : decode prog_3_method_15_code 58 = .ok (.getfield 84, 3) := by decide +kernel
theorem kd_prog_3_method_15_code_61 : decode prog_3_method_15_code 61 = .ok (.iload_n 3, 1) := by decide +kernel
theorem kd_prog_3_method_15_code_62 : decode prog_3_method_15_code 62 = .ok (.iaload, 1) := by decide +kernel
theorem kd_prog_3_method_15_code_63 : decode prog_3_method_15_code 63 = .ok (.invokevirtual 123, 3) := by decide +kernel
theorem kd_prog_3_method_15_code_66 : decode prog_3_method_15_code 66 = .ok (.ior, 1) := by decide +kernel
theorem kd_prog_3_method_15_code_67 : decode prog_3_method_15_code 67 = .ok (.istore_n 1, 1) := by decide +kernel
theorem kd_prog_3_method_15_code_68 : decode prog_3_method_15_code 68 = .ok (.iload_n 1, 1) := by decide +kernel
theorem kd_prog_3_method_15_code_69 : decode prog_3_method_15_code 69 = .ok (.aload_n 0, 1) := by decide +kernel
theorem kd_prog_3_method_15_code_70 : decode prog_3_method_15_code 70 = .ok (.iload_n 3, 1) := by decide +kernel
theorem kd_prog_3_method_15_code_71 : decode prog_3_method_15_code 71 = .ok (.aload_n 0, 1) := by decide +kernel
theorem kd_prog_3_method_15_code_72 : decode prog_3_method_15_code 72 = .ok (.getfield 43, 3) := by decide +kernel
theorem kd_prog_3_method_15_code_75 : decode prog_3_method_15_code 75 = .ok (.getfield 88, 3) := by decide +kernel
theorem kd_prog_3_method_15_code_78 : decode prog_3_method_15_code 78 = .ok (.iload_n 3, 1) := by decide +kernel
theorem kd_prog_3_method_15_code_79 : decode prog_3_method_15_code 79 = .ok (.iaload, 1) := by decide +kernel
theorem kd_prog_3_method_15_code_80 : decode prog_3_method_15_code 80 = .ok (.invokevirtual 123, 3) := by decide +kernel
theorem kd_prog_3_method_15_code_83 : decode prog_3_method_15_code 83 = .ok (.ior, 1) := by decide +kernel
theorem kd_prog_3_method_15_code_84 : decode prog_3_method_15_code 84 = .ok (.istore_n 1, 1) := by decide +kernel
theorem kd_prog_3_method_15_code_85 : decode prog_3_method_15_code 85 = .ok (.iinc 3 1, 3) := by decide +kernel
theorem kd_prog_3_method_15_code_88 : decode prog_3_method_15_code 88 = .ok (.goto (-57), 3) := by decide +kernel
theorem kd_prog_3_method_15_code_91 : decode prog_3_method_15_code 91 = .ok (.iinc 2 1, 3) := by decide +kernel
theorem kd_prog_3_method_15_code_94 : decode prog_3_method_15_code 94 = .ok (.goto (-78), 3) := by decide +kernel
theorem kd_prog_3_method_15_code_97 : decode prog_3_method_15_code 97 = .ok (.return_, 1) := by decide +kernel
theorem kd_prog_3_method_10_code_0 : decode prog_3_method_10_code 0 = .ok (.aload_n 0, 1) := by decide +kernel
theorem kd_prog_3_method_10_code_1 : decode prog_3_method_10_code 1 = .ok (.getfield 15, 3) := by decide +kernel
theorem kd_prog_3_method_10_code_4 : decode prog_3_method_10_code 4 = .ok (.iload_n 1, 1) := by decide +kernel
theorem kd_prog_3_method_10_code_5 : decode prog_3_method_10_code 5 = .ok (.lconst 0, 1) := by decide +kernel
theorem kd_prog_3_method_10_code_6 : decode prog_3_method_10_code 6 = .ok (.lastore, 1) := by decide +kernel
theorem kd_prog_3_method_10_code_7 : decode prog_3_method_10_code 7 = .ok (.aload_n 0, 1) := by decide +kernel
theorem kd_prog_3_method_10_code_8 : decode prog_3_method_10_code 8 = .ok (.getfield 19, 3) := by decide +kernel
theorem kd_prog_3_method_10_code_11 : decode prog_3_method_10_code 11 = .ok (.iload_n 1, 1) := by decide +kernel
theorem kd_prog_3_method_10_code_12 : decode prog_3_method_10_code 12 = .ok (.lconst 0, 1) := by decide +kernel
theorem kd_prog_3_method_10_code_13 : decode prog_3_method_10_code 13 = .ok (.lastore, 1) := by decide +kernel
theorem kd_prog_3_method_10_code_14 : decode prog_3_method_10_code 14 = .ok (.aload_n 0, 1) := by decide +kernel
theorem kd_prog_3_method_10_code_15 : decode prog_3_method_10_code 15 = .ok (.getfield 22, 3) := by decide +kernel
theorem kd_prog_3_method_10_code_18 : decode prog_3_method_10_code 18 = .ok (.iload_n 1, 1) := by decide +kernel
theorem kd_prog_3_method_10_code_19 : decode prog_3_method_10_code 19 = .ok (.lconst 0, 1) := by decide +kernel
theorem kd_prog_3_method_10_code_20 : decode prog_3_method_10_code 20 = .ok (.lastore, 1) := by decide +kernel
theorem kd_prog_3_method_10_code_21 : decode prog_3_method_10_code 21 = .ok (.aload_n 0, 1) := by decide +kernel
theorem kd_prog_3_method_10_code_22 : decode prog_3_method_10_code 22 = .ok (.getfield 9, 3) := by decide +kernel
theorem kd_prog_3_method_10_code_25 : decode prog_3_method_10_code 25 = .ok (.iload_n 1, 1) := by decide +kernel
theorem kd_prog_3_method_10_code_26 : decode prog_3_method_10_code 26 = .ok (.baload, 1) := by decide +kernel
theorem kd_prog_3_method_10_code_27 : decode prog_3_method_10_code 27 = .ok (.ifCond .ne 4, 3) := by decide +kernel
theorem kd_prog_3_method_10_code_30 : decode prog_3_method_10_code 30 = .ok (.return_, 1) := by decide +kernel
theorem kd_prog_3_method_10_code_31 : decode prog_3_method_10_code 31 = .ok (.iload_n 1, 1) := by decide +kernel
theorem kd_prog_3_method_10_code_32 : decode prog_3_method_10_code 32 = .ok (.iconst 5, 1) := by decide +kernel
theorem kd_prog_3_method_10_code_33 : decode prog_3_method_10_code 33 = .ok (.imul, 1) := by decide +kernel
theorem kd_prog_3_method_10_code_34 : decode prog_3_method_10_code 34 = .ok (.istore_n 2, 1) := by decide +kernel
theorem kd_prog_3_method_10_code_35 : decode prog_3_method_10_code 35 = .ok (.iload_n 2, 1) := by decide +kernel
theorem kd_prog_3_method_10_code_36 : decode prog_3_method_10_code 36 = .ok (.istore_n 3, 1) := by decide +kernel
theorem kd_prog_3_method_10_code_37 : decode prog_3_method_10_code 37 = .ok (.iload_n 3, 1) := by decide +kernel
theorem kd_prog_3_method_10_code_38 : decode prog_3_method_10_code 38 = .ok (.iload_n 2, 1) := by decide +kernel
theorem kd_prog_3_method_10_code_39 : decode prog_3_method_10_code 39 = .ok (.aload_n 0, 1) := by decide +kernel
theorem kd_prog_3_method_10_code_40 : decode prog_3_method_10_code 40 = .ok (.getfield 43, 3) := by decide +kernel
theorem kd_prog_3_method_10_code_43 : decode prog_3_method_10_code 43 = .ok (.getfield 98, 3) := by decide +kernel
theorem kd_prog_3_method_10_code_46 : decode prog_3_method_10_code 46 = .ok (.iload_n 1, 1) := by decide +kernel
theorem kd_prog_3_method_10_code_47 : decode prog_3_method_10_code 47 = .ok (.iaload, 1) := by decide +kernel
theorem kd_prog_3_method_10_code_48 : decode prog_3_method_10_code 48 = .ok (.iadd, 1) := by decide +kernel
theorem kd_prog_3_method_10_code_49 : decode prog_3_method_10_code 49 = .ok (.if_icmp .ge 126, 3) := by decide +kernel
theorem kd_prog_3_method_10_code_52 : decode prog_3_method_10_code 52 = .ok (.aload_n 0, 1) := by decide +kernel
theorem kd_prog_3_method_10_code_53 : decode prog_3_method_10_code 53 = .ok (.getfield 43, 3) := by decide +kernel
theorem kd_prog_3_method_10_code_56 : decode prog_3_method_10_code 56 = .ok (.getfield 101, 3) := by decide +kernel
theorem kd_prog_3_method_10_code_59 : decode prog_3_method_10_code 59 = .ok (.iload_n 3, 1) := by decide +kernel
theorem kd_prog_3_method_10_code_60 : decode prog_3_method_10_code 60 = .ok (.iaload, 1) := by decide +kernel
theorem kd_prog_3_method_10_code_61 : decode prog_3_method_10_code 61 = .ok (.iconst 2, 1) := by decide +kernel
theorem kd_prog_3_method_10_code_62 : decode prog_3_method_10_code 62 = .ok (.if_icmp .ne 49, 3) := by decide +kernel
theorem kd_prog_3_method_10_code_65 : decode prog_3_method_10_code 65 = .ok (.lconst 1, 1) := by decide +kernel
theorem kd_prog_3_method_10_code_66 : decode prog_3_method_10_code 66 = .ok (.aload_n 0, 1) := by decide +kernel
theorem kd_prog_3_method_10_code_67 : decode prog_3_method_10_code 67 = .ok (.getfield 43, 3) := by decide +kernel
theorem kd_prog_3_method_10_code_70 : decode prog_3_method_10_code 70 = .ok (.getfield 104, 3) := by decide +kernel
theorem kd_prog_3_method_10_code_73 : decode prog_3_method_10_code 73 = .ok (.iload_n 3, 1) := by decide +kernel
theorem kd_prog_3_method_10_code_74 : decode prog_3_method_10_code 74 = .ok (.iaload, 1) := by decide +kernel
theorem kd_prog_3_method_10_code_75 : decode prog_3_method_10_code 75 = .ok (.lshl, 1) := by decide +kernel
theorem kd_prog_3_method_10_code_76 : decode prog_3_method_10_code 76 = .ok (.lstore 4, 2) := by decide +kernel
theorem kd_prog_3_method_10_code_78 : decode prog_3_method_10_code 78 = .ok (.aload_n 0, 1) := by decide +kernel
theorem kd_prog_3_method_10_code_79 : decode prog_3_method_10_code 79 = .ok (.getfield 19, 3) := by decide +kernel
theorem kd_prog_3_method_10_code_82 : decode prog_3_method_10_code 82 = .ok (.iload_n 1, 1) := by decide +kernel
theorem kd_prog_3_method_10_code_83 : decode prog_3_method_10_code 83 = .ok (.dup2, 1) := by decide +kernel
theorem kd_prog_3_method_10_code_84 : decode prog_3_method_10_code 84 = .ok (.laload, 1) := by decide +kernel
theorem kd_prog_3_method_10_code_85 : decode prog_3_method_10_code 85 = .ok (.lload 4, 2) := by decide +kernel
theorem kd_prog_3_method_10_code_87 : decode prog_3_method_10_code 87 = .ok (.aload_n 0, 1) := by decide +kernel
theorem kd_prog_3_method_10_code_88 : decode prog_3_method_10_code 88 = .ok (.getfield 15, 3) := by decide +kernel
theorem kd_prog_3_method_10_code_91 : decode prog_3_method_10_code 91 = .ok (.iload_n 1, 1) := by decide +kernel
theorem kd_prog_3_method_10_code_92 : decode prog_3_method_10_code 92 = .ok (.laload, 1) := by decide +kernel
theorem kd_prog_3_method_10_code_93 : decode prog_3_method_10_code 93 = .ok (.ldc2_w 72, 3) := by decide +kernel
theorem kd_prog_3_method_10_code_96 : decode prog_3_method_10_code 96 = .ok (.lxor, 1) := by decide +kernel
theorem kd_prog_3_method_10_code_97 : decode prog_3_method_10_code 97 = .ok (.land, 1) := by decide +kernel
theorem kd_prog_3_method_10_code_98 : decode prog_3_method_10_code 98 = .ok (.lor, 1) := by decide +kernel
theorem kd_prog_3_method_10_code_99 : decode prog_3_method_10_code 99 = .ok (.lastore, 1) := by decide +kernel
theorem kd_prog_3_method_10_code_100 : decode prog_3_method_10_code 100 = .ok (.aload_n 0, 1) := by decide +kernel
theorem kd_prog_3_method_10_code_101 : decode prog_3_method_10_code 101 = .ok (.getfield 22, 3) := by decide +kernel
theorem kd_prog_3_method_10_code_104 : decode prog_3_method_10_code 104 = .ok (.iload_n 1, 1) := by decide +kernel
theorem kd_prog_3_method_10_code_105 : decode prog_3_method_10_code 105 = .ok (.dup2, 1) := by decide +kernel
theorem kd_prog_3_method_10_code_106 : decode prog_3_method_10_code 106 = .ok (.laload, 1) := by decide +kernel
theorem kd_prog_3_method_10_code_107 : decode prog_3_method_10_code 107 = .ok (.lload 4, 2) := by decide +kernel
theorem kd_prog_3_method_10_code_109 : decode prog_3_method_10_code 109 = .ok (.lor, 1) := by decide +kernel
theorem kd_prog_3_method_10_code_110 : decode prog_3_method_10_code 110 = .ok (.lastore, 1) := by decide +kernel
theorem kd_prog_3_method_10_code_111 : decode prog_3_method_10_code 111 = .ok (.aload_n 0, 1) := by decide +kernel
theorem kd_prog_3_method_10_code_112 : decode prog_3_method_10_code 112 = .ok (.getfield 43, 3) := by decide +kernel
theorem kd_prog_3_method_10_code_115 : decode prog_3_method_10_code 115 = .ok (.getfield 101, 3) := by decide +kernel
theorem kd_prog_3_method_10_code_118 : decode prog_3_method_10_code 118 = .ok (.iload_n 3, 1) := by decide +kernel
theorem kd_prog_3_method_10_code_119 : decode prog_3_method_10_code 119 = .ok (.iaload, 1) := by decide +kernel
theorem kd_prog_3_method_10_code_120 : decode prog_3_method_10_code 120 = .ok (.iconst 3, 1) := by decide +kernel
theorem kd_prog_3_method_10_code_121 : decode prog_3_method_10_code 121 = .ok (.if_icmp .eq 48, 3) := by decide +kernel
theorem kd_prog_3_method_10_code_124 : decode prog_3_method_10_code 124 = .ok (.aload_n 0, 1) := by decide +kernel
theorem kd_prog_3_method_10_code_125 : decode prog_3_method_10_code 125 = .ok (.getfield 43, 3) := by decide +kernel
theorem kd_prog_3_method_10_code_128 : decode prog_3_method_10_code 128 = .ok (.getfield 107, 3) := by decide +kernel
theorem kd_prog_3_method_10_code_131 : decode prog_3_method_10_code 131 = .ok (.aload_n 0, 1) := by decide +kernel
theorem kd_prog_3_method_10_code_132 : decode prog_3_method_10_code 132 = .ok (.getfield 43, 3) := by decide +kernel
theorem kd_prog_3_method_10_code_135 : decode prog_3_method_10_code 135 = .ok (.getfield 110, 3) := by decide +kernel
theorem kd_prog_3_method_10_code_138 : decode prog_3_method_10_code 138 = .ok (.iload_n 3, 1) := by decide +kernel
theorem kd_prog_3_method_10_code_139 : decode prog_3_method_10_code 139 = .ok (.iaload, 1) := by decide +kernel
theorem kd_prog_3_method_10_code_140 : decode prog_3_method_10_code 140 = .ok (.laload, 1) := by decide +kernel
theorem kd_prog_3_method_10_code_141 : decode prog_3_method_10_code 141 = .ok (.lstore 4, 2) := by decide +kernel
theorem kd_prog_3_method_10_code_143 : decode prog_3_method_10_code 143 = .ok (.aload_n 0, 1) := by decide +kernel
theorem kd_prog_3_method_10_code_144 : decode prog_3_method_10_code 144 = .ok (.getfield 15, 3) := by decide +kernel
theorem kd_prog_3_method_10_code_147 : decode prog_3_method_10_code 147 = .ok (.iload_n 1, 1) := by decide +kernel
theorem kd_prog_3_method_10_code_148 : decode prog_3_method_10_code 148 = .ok (.dup2, 1) := by decide +kernel
theorem kd_prog_3_method_10_code_149 : decode prog_3_method_10_code 149 = .ok (.laload, 1) := by decide +kernel
theorem kd_prog_3_method_10_code_150 : decode prog_3_method_10_code 150 = .ok (.lload 4, 2) := by decide +kernel
theorem kd_prog_3_method_10_code_152 : decode prog_3_method_10_code 152 = .ok (.lor, 1) := by decide +kernel
theorem kd_prog_3_method_10_code_153 : decode prog_3_method_10_code 153 = .ok (.lastore, 1) := by decide +kernel
theorem kd_prog_3_method_10_code_154 : decode prog_3_method_10_code 154 = .ok (.aload_n 0, 1) := by decide +kernel
theorem kd_prog_3_method_10_code_155 : decode prog_3_method_10_code 155 = .ok (.getfield 22, 3) := by decide +kernel
theorem kd_prog_3_method_10_code_158 : decode prog_3_method_10_code 158 = .ok (.iload_n 1, 1) := by decide +kernel
theorem kd_prog_3_method_10_code_159 : decode prog_3_method_10_code 159 = .ok (.dup2, 1) := by decide +kernel
theorem kd_prog_3_method_10_code_160 : decode prog_3_method_10_code 160 = .ok (.laload, 1) := by decide +kernel
theorem kd_prog_3_method_10_code_161 : decode prog_3_method_10_code 161 = .ok (.lload 4, 2) := by decide +kernel
theorem kd_prog_3_method_10_code_163 : decode prog_3_method_10_code 163 = .ok (.ldc2_w 72, 3) := by decide +kernel
theorem kd_prog_3_method_10_code_166 : decode prog_3_method_10_code 166 = .ok (.lxor, 1) := by decide +kernel
theorem kd_prog_3_method_10_code_167 : decode prog_3_method_10_code 167 = .ok (.land, 1) := by decide +kernel
theorem kd_prog_3_method_10_code_168 : decode prog_3_method_10_code 168 = .ok (.lastore, 1) := by decide +kernel
theorem kd_prog_3_method_10_code_169 : decode prog_3_method_10_code 169 = .ok (.iinc 3 1, 3) := by decide +kernel
theorem kd_prog_3_method_10_code_172 : decode prog_3_method_10_code 172 = .ok (.goto (-135), 3) := by decide +kernel
theorem kd_prog_3_method_10_code_175 : decode prog_3_method_10_code 175 = .ok (.return_, 1) := by decide +kernel
theorem kd_prog_3_method_11_code_0 : decode prog_3_method_11_code 0 = .ok (.aload_n 0, 1) := by decide +kernel
theorem kd_prog_3_method_11_code_1 : decode prog_3_method_11_code 1 = .ok (.getfield 9, 3) := by decide +kernel
theorem kd_prog_3_method_11_code_4 : decode prog_3_method_11_code 4 = .ok (.iload_n 1, 1) := by decide +kernel
theorem kd_prog_3_method_11_code_5 : decode prog_3_method_11_code 5 = .ok (.baload, 1) := by decide +kernel
theorem kd_prog_3_method_11_code_6 : decode prog_3_method_11_code 6 = .ok (.ifCond .eq 17, 3) := by decide +kernel
theorem kd_prog_3_method_11_code_9 : decode prog_3_method_11_code 9 = .ok (.lconst 1, 1) := by decide +kernel
theorem kd_prog_3_method_11_code_10 : decode prog_3_method_11_code 10 = .ok (.aload_n 0, 1) := by decide +kernel
theorem kd_prog_3_method_11_code_11 : decode prog_3_method_11_code 11 = .ok (.getfield 43, 3) := by decide +kernel
theorem kd_prog_3_method_11_code_14 : decode prog_3_method_11_code 14 = .ok (.getfield 113, 3) := by decide +kernel
theorem kd_prog_3_method_11_code_17 : decode prog_3_method_11_code 17 = .ok (.lshl, 1) := by decide +kernel
theorem kd_prog_3_method_11_code_18 : decode prog_3_method_11_code 18 = .ok (.lconst 1, 1) := by decide +kernel
theorem kd_prog_3_method_11_code_19 : decode prog_3_method_11_code 19 = .ok (.lsub, 1) := by decide +kernel
theorem kd_prog_3_method_11_code_20 : decode prog_3_method_11_code 20 = .ok (.goto 4, 3) := by decide +kernel
theorem kd_prog_3_method_11_code_23 : decode prog_3_method_11_code 23 = .ok (.lconst 0, 1) := by decide +kernel
theorem kd_prog_3_method_11_code_24 : decode prog_3_method_11_code 24 = .ok (.lstore_n 2, 1) := by decide +kernel
theorem kd_prog_3_method_11_code_25 : decode prog_3_method_11_code 25 = .ok (.aload_n 0, 1) := by decide +kernel
theorem kd_prog_3_method_11_code_26 : decode prog_3_method_11_code 26 = .ok (.getfield 25, 3) := by decide +kernel
theorem kd_prog_3_method_11_code_29 : decode prog_3_method_11_code 29 = .ok (.iload_n 1, 1) := by decide +kernel
theorem kd_prog_3_method_11_code_30 : decode prog_3_method_11_code 30 = .ok (.lload_n 2, 1) := by decide +kernel
theorem kd_prog_3_method_11_code_31 : decode prog_3_method_11_code 31 = .ok (.lastore, 1) := by decide +kernel
theorem kd_prog_3_method_11_code_32 : decode prog_3_method_11_code 32 = .ok (.aload_n 0, 1) := by decide +kernel
theorem kd_prog_3_method_11_code_33 : decode prog_3_method_11_code 33 = .ok (.getfield 28, 3) := by decide +kernel
theorem kd_prog_3_method_11_code_36 : decode prog_3_method_11_code 36 = .ok (.iload_n 1, 1) := by decide +kernel
theorem kd_prog_3_method_11_code_37 : decode prog_3_method_11_code 37 = .ok (.lload_n 2, 1) := by decide +kernel
theorem kd_prog_3_method_11_code_38 : decode prog_3_method_11_code 38 = .ok (.lastore, 1) := by decide +kernel
theorem kd_prog_3_method_11_code_39 : decode prog_3_method_11_code 39 = .ok (.aload_n 0, 1) := by decide +kernel
theorem kd_prog_3_method_11_code_40 : decode prog_3_method_11_code 40 = .ok (.getfield 31, 3) := by decide +kernel
theorem kd_prog_3_method_11_code_43 : decode prog_3_method_11_code 43 = .ok (.iload_n 1, 1) := by decide +kernel
theorem kd_prog_3_method_11_code_44 : decode prog_3_method_11_code 44 = .ok (.lload_n 2, 1) := by decide +kernel
theorem kd_prog_3_method_11_code_45 : decode prog_3_method_11_code 45 = .ok (.lastore, 1) := by decide +kernel
theorem kd_prog_3_method_11_code_46 : decode prog_3_method_11_code 46 = .ok (.aload_n 0, 1) := by decide +kernel
theorem kd_prog_3_method_11_code_47 : decode prog_3_method_11_code 47 = .ok (.getfield 34, 3) := by decide +kernel
theorem kd_prog_3_method_11_code_50 : decode prog_3_method_11_code 50 = .ok (.iload_n 1, 1) := by decide +kernel
theorem kd_prog_3_method_11_code_51 : decode prog_3_method_11_code 51 = .ok (.lload_n 2, 1) := by decide +kernel
theorem kd_prog_3_method_11_code_52 : decode prog_3_method_11_code 52 = .ok (.lastore, 1) := by decide +kernel
theorem kd_prog_3_method_11_code_53 : decode prog_3_method_11_code 53 = .ok (.aload_n 0, 1) := by decide +kernel
theorem kd_prog_3_method_11_code_54 : decode prog_3_method_11_code 54 = .ok (.getfield 37, 3) := by decide +kernel
theorem kd_prog_3_method_11_code_57 : decode prog_3_method_11_code 57 = .ok (.iload_n 1, 1) := by decide +kernel
theorem kd_prog_3_method_11_code_58 : decode prog_3_method_11_code 58 = .ok (.lload_n 2, 1) := by decide +kernel
theorem kd_prog_3_method_11_code_59 : decode prog_3_method_11_code 59 = .ok (.lastore, 1) := by decide +kernel
theorem kd_prog_3_method_11_code_60 : decode prog_3_method_11_code 60 = .ok (.return_, 1) := by decide +kernel
theorem kd_prog_3_method_2_code_0 : decode prog_3_method_2_code 0 = .ok (.aload_n 0, 1) := by decide +kernel
theorem kd_prog_3_method_2_code_1 : decode prog_3_method_2_code 1 = .ok (.invokevirtual 47, 3) := by decide +kernel
theorem kd_prog_3_method_2_code_4 : decode prog_3_method_2_code 4 = .ok (.iconst 0, 1) := by decide +kernel
theorem kd_prog_3_method_2_code_5 : decode prog_3_method_2_code 5 = .ok (.istore_n 1, 1) := by decide +kernel
theorem kd_prog_3_method_2_code_6 : decode prog_3_method_2_code 6 = .ok (.iload_n 1, 1) := by decide +kernel
theorem kd_prog_3_method_2_code_7 : decode prog_3_method_2_code 7 = .ok (.aload_n 0, 1) := by decide +kernel
theorem kd_prog_3_method_2_code_8 : decode prog_3_method_2_code 8 = .ok (.getfield 43, 3) := by decide +kernel
theorem kd_prog_3_method_2_code_11 : decode prog_3_method_2_code 11 = .ok (.getfield 50, 3) := by decide +kernel
theorem kd_prog_3_method_2_code_14 : decode prog_3_method_2_code 14 = .ok (.if_icmp .ge 19, 3) := by decide +kernel
theorem kd_prog_3_method_2_code_17 : decode prog_3_method_2_code 17 = .ok (.aload_n 0, 1) := by decide +kernel
theorem kd_prog_3_method_2_code_18 : decode prog_3_method_2_code 18 = .ok (.iload_n 1, 1) := by decide +kernel
theorem kd_prog_3_method_2_code_19 : decode prog_3_method_2_code 19 = .ok (.invokevirtual 56, 3) := by decide +kernel
theorem kd_prog_3_method_2_code_22 : decode prog_3_method_2_code 22 = .ok (.aload_n 0, 1) := by decide +kernel
theorem kd_prog_3_method_2_code_23 : decode prog_3_method_2_code 23 = .ok (.iload_n 1, 1) := by decide +kernel
theorem kd_prog_3_method_2_code_24 : decode prog_3_method_2_code 24 = .ok (.invokevirtual 60, 3) := by decide +kernel
theorem kd_prog_3_method_2_code_27 : decode prog_3_method_2_code 27 = .ok (.iinc 1 1, 3) := by decide +kernel
theorem kd_prog_3_method_2_code_30 : decode prog_3_method_2_code 30 = .ok (.goto (-24), 3) := by decide +kernel
theorem kd_prog_3_method_2_code_33 : decode prog_3_method_2_code 33 = .ok (.aload_n 0, 1) := by decide +kernel
theorem kd_prog_3_method_2_code_34 : decode prog_3_method_2_code 34 = .ok (.invokevirtual 63, 3) := by decide +kernel
theorem kd_prog_3_method_2_code_37 : decode prog_3_method_2_code 37 = .ok (.aload_n 0, 1) := by decide +kernel
theorem kd_prog_3_method_2_code_38 : decode prog_3_method_2_code 38 = .ok (.invokevirtual 66, 3) := by decide +kernel
theorem kd_prog_3_method_2_code_41 : decode prog_3_method_2_code 41 = .ok (.aload_n 0, 1) := by decide +kernel
theorem kd_prog_3_method_2_code_42 : decode prog_3_method_2_code 42 = .ok (.invokevirtual 69, 3) := by decide +kernel
theorem kd_prog_3_method_2_code_45 : decode prog_3_method_2_code 45 = .ok (.iconst 0, 1) := by decide +kernel
theorem kd_prog_3_method_2_code_46 : decode prog_3_method_2_code 46 = .ok (.istore_n 1, 1) := by decide +kernel
theorem kd_prog_3_method_2_code_47 : decode prog_3_method_2_code 47 = .ok (.iload_n 1, 1) := by decide +kernel
theorem kd_prog_3_method_2_code_48 : decode prog_3_method_2_code 48 = .ok (.aload_n 0, 1) := by decide +kernel
theorem kd_prog_3_method_2_code_49 : decode prog_3_method_2_code 49 = .ok (.getfield 43, 3) := by decide +kernel
theorem kd_prog_3_method_2_code_52 : decode prog_3_method_2_code 52 = .ok (.getfield 50, 3) := by decide +kernel
theorem kd_prog_3_method_2_code_55 : decode prog_3_method_2_code 55 = .ok (.if_icmp .ge 32, 3) := by decide +kernel
theorem kd_prog_3_method_2_code_58 : decode prog_3_method_2_code 58 = .ok (.aload_n 0, 1) := by decide +kernel
theorem kd_prog_3_method_2_code_59 : decode prog_3_method_2_code 59 = .ok (.getfield 40, 3) := by decide +kernel
theorem kd_prog_3_method_2_code_62 : decode prog_3_method_2_code 62 = .ok (.iload_n 1, 1) := by decide +kernel
theorem kd_prog_3_method_2_code_63 : decode prog_3_method_2_code 63 = .ok (.aload_n 0, 1) := by decide +kernel
theorem kd_prog_3_method_2_code_64 : decode prog_3_method_2_code 64 = .ok (.getfield 19, 3) := by decide +kernel
theorem kd_prog_3_method_2_code_67 : decode prog_3_method_2_code 67 = .ok (.iload_n 1, 1) := by decide +kernel
theorem kd_prog_3_method_2_code_68 : decode prog_3_method_2_code 68 = .ok (.laload, 1) := by decide +kernel
theorem kd_prog_3_method_2_code_69 : decode prog_3_method_2_code 69 = .ok (.aload_n 0, 1) := by decide +kernel
theorem kd_prog_3_method_2_code_70 : decode prog_3_method_2_code 70 = .ok (.getfield 37, 3) := by decide +kernel
theorem kd_prog_3_method_2_code_73 : decode prog_3_method_2_code 73 = .ok (.iload_n 1, 1) := by decide +kernel
theorem kd_prog_3_method_2_code_74 : decode prog_3_method_2_code 74 = .ok (.laload, 1) := by decide +kernel
theorem kd_prog_3_method_2_code_75 : decode prog_3_method_2_code 75 = .ok (.ldc2_w 72, 3) := by decide +kernel
theorem kd_prog_3_method_2_code_78 : decode prog_3_method_2_code 78 = .ok (.lxor, 1) := by decide +kernel
theorem kd_prog_3_method_2_code_79 : decode prog_3_method_2_code 79 = .ok (.land, 1) := by decide +kernel
theorem kd_prog_3_method_2_code_80 : decode prog_3_method_2_code 80 = .ok (.lastore, 1) := by decide +kernel
theorem kd_prog_3_method_2_code_81 : decode prog_3_method_2_code 81 = .ok (.iinc 1 1, 3) := by decide +kernel
theorem kd_prog_3_method_2_code_84 : decode prog_3_method_2_code 84 = .ok (.goto (-37), 3) := by decide +kernel
theorem kd_prog_3_method_2_code_87 : decode prog_3_method_2_code 87 = .ok (.return_, 1) := by decide +kernel
theorem kd_prog_3_method_3_code_0 : decode prog_3_method_3_code 0 = .ok (.lconst 0, 1) := by decide +kernel
theorem kd_prog_3_method_3_code_1 : decode prog_3_method_3_code 1 = .ok (.lstore_n 1, 1) := by decide +kernel
theorem kd_prog_3_method_3_code_2 : decode prog_3_method_3_code 2 = .ok (.iconst 0, 1) := by decide +kernel
theorem kd_prog_3_method_3_code_3 : decode prog_3_method_3_code 3 = .ok (.istore_n 3, 1) := by decide +kernel
theorem kd_prog_3_method_3_code_4 : decode prog_3_method_3_code 4 = .ok (.iload_n 3, 1) := by decide +kernel
theorem kd_prog_3_method_3_code_5 : decode prog_3_method_3_code 5 = .ok (.aload_n 0, 1) := by decide +kernel
theorem kd_prog_3_method_3_code_6 : decode prog_3_method_3_code 6 = .ok (.getfield 43, 3) := by decide +kernel
theorem kd_prog_3_method_3_code_9 : decode prog_3_method_3_code 9 = .ok (.getfield 50, 3) := by decide +kernel
theorem kd_prog_3_method_3_code_12 : decode prog_3_method_3_code 12 = .ok (.if_icmp .ge 18, 3) := by decide +kernel
theorem kd_prog_3_method_3_code_15 : decode prog_3_method_3_code 15 = .ok (.lload_n 1, 1) := by decide +kernel
theorem kd_prog_3_method_3_code_16 : decode prog_3_method_3_code 16 = .ok (.aload_n 0, 1) := by decide +kernel
theorem kd_prog_3_method_3_code_17 : decode prog_3_method_3_code 17 = .ok (.getfield 40, 3) := by decide +kernel
theorem kd_prog_3_method_3_code_20 : decode prog_3_method_3_code 20 = .ok (.iload_n 3, 1) := by decide +kernel
theorem kd_prog_3_method_3_code_21 : decode prog_3_method_3_code 21 = .ok (.laload, 1) := by decide +kernel
theorem kd_prog_3_method_3_code_22 : decode prog_3_method_3_code 22 = .ok (.lor, 1) := by decide +kernel
theorem kd_prog_3_method_3_code_23 : decode prog_3_method_3_code 23 = .ok (.lstore_n 1, 1) := by decide +kernel
theorem kd_prog_3_method_3_code_24 : decode prog_3_method_3_code 24 = .ok (.iinc 3 1, 3) := by decide +kernel
theorem kd_prog_3_method_3_code_27 : decode prog_3_method_3_code 27 = .ok (.goto (-23), 3) := by decide +kernel
theorem kd_prog_3_method_3_code_30 : decode prog_3_method_3_code 30 = .ok (.lload_n 1, 1) := by decide +kernel
theorem kd_prog_3_method_3_code_31 : decode prog_3_method_3_code 31 = .ok (.invokestatic 74, 3) := by decide +kernel
theorem kd_prog_3_method_3_code_34 : decode prog_3_method_3_code 34 = .ok (.ireturn, 1) := by decide +kernel
theorem kd_prog_3_method_4_code_0 : decode prog_3_method_4_code 0 = .ok (.iload_n 2, 1) := by decide +kernel
theorem kd_prog_3_method_4_code_1 : decode prog_3_method_4_code 1 = .ok (.tableswitch 70 0 4 #[35, 42, 49, 56, 63], 35) := by decide +kernel
theorem kd_prog_3_method_4_code_36 : decode prog_3_method_4_code 36 = .ok (.aload_n 0, 1) := by decide +kernel
theorem kd_prog_3_method_4_code_37 : decode prog_3_method_4_code 37 = .ok (.getfield 25, 3) := by decide +kernel
theorem kd_prog_3_method_4_code_40 : decode prog_3_method_4_code 40 = .ok (.iload_n 1, 1) := by decide +kernel
theorem kd_prog_3_method_4_code_41 : decode prog_3_method_4_code 41 = .ok (.laload, 1) := by decide +kernel
theorem kd_prog_3_method_4_code_42 : decode prog_3_method_4_code 42 = .ok (.lreturn, 1) := by decide +kernel
theorem kd_prog_3_method_4_code_43 : decode prog_3_method_4_code 43 = .ok (.aload_n 0, 1) := by decide +kernel
theorem kd_prog_3_method_4_code_44 : decode prog_3_method_4_code 44 = .ok (.getfield 28, 3) := by decide +kernel
theorem kd_prog_3_method_4_code_47 : decode prog_3_method_4_code 47 = .ok (.iload_n 1, 1) := by decide +kernel
theorem kd_prog_3_method_4_code_48 : decode prog_3_method_4_code 48 = .ok (.laload, 1) := by decide +kernel
theorem kd_prog_3_method_4_code_49 : decode prog_3_method_4_code 49 = .ok (.lreturn, 1) := by decide +kernel
theorem kd_prog_3_method_4_code_50 : decode prog_3_method_4_code 50 = .ok (.aload_n 0, 1) := by decide +kernel
theorem kd_prog_3_method_4_code_51 : decode prog_3_method_4_code 51 = .ok (.getfield 31, 3) := by decide +kernel
theorem kd_prog_3_method_4_code_54 : decode prog_3_method_4_code 54 = .ok (.iload_n 1, 1) := by decide +kernel
theorem kd_prog_3_method_4_code_55 : decode prog_3_method_4_code 55 = .ok (.laload, 1) := by decide +kernel
theorem kd_prog_3_method_4_code_56 : decode prog_3_method_4_code 56 = .ok (.lreturn, 1) := by decide +kernel
theorem kd_prog_3_method_4_code_57 : decode prog_3_method_4_code 57 = .ok (.aload_n 0, 1) := by decide +kernel
theorem kd_prog_3_method_4_code_58 : decode prog_3_method_4_code 58 = .ok (.getfield 34, 3) := by decide +kernel
theorem kd_prog_3_method_4_code_61 : decode prog_3_method_4_code 61 = .ok (.iload_n 1, 1) := by decide +kernel
theorem kd_prog_3_method_4_code_62 : decode prog_3_method_4_code 62 = .ok (.laload, 1) := by decide +kernel
theorem kd_prog_3_method_4_code_63 : decode prog_3_method_4_code 63 = .ok (.lreturn, 1) := by decide +kernel
theorem kd_prog_3_method_4_code_64 : decode prog_3_method_4_code 64 = .ok (.aload_n 0, 1) := by decide +kernel
theorem kd_prog_3_method_4_code_65 : decode prog_3_method_4_code 65 = .ok (.getfield 37, 3) := by decide +kernel
theorem kd_prog_3_method_4_code_68 : decode prog_3_method_4_code 68 = .ok (.iload_n 1, 1) := by decide +kernel
theorem kd_prog_3_method_4_code_69 : decode prog_3_method_4_code 69 = .ok (.laload, 1) := by decide +kernel
theorem kd_prog_3_method_4_code_70 : decode prog_3_method_4_code 70 = .ok (.lreturn, 1) := by decide +kernel
theorem kd_prog_3_method_4_code_71 : decode prog_3_method_4_code 71 = .ok (.aload_n 0, 1) := by decide +kernel
theorem kd_prog_3_method_4_code_72 : decode prog_3_method_4_code 72 = .ok (.getfield 40, 3) := by decide +kernel
theorem kd_prog_3_method_4_code_75 : decode prog_3_method_4_code 75 = .ok (.iload_n 1, 1) := by decide +kernel
theorem kd_prog_3_method_4_code_76 : decode prog_3_method_4_code 76 = .ok (.laload, 1) := by decide +kernel
theorem kd_prog_3_method_4_code_77 : decode prog_3_method_4_code 77 = .ok (.lreturn, 1) := by decide +kernel
theorem kd_prog_3_method_5_code_0 : decode prog_3_method_5_code 0 = .ok (.iload_n 1, 1) := by decide +kernel
theorem kd_prog_3_method_5_code_1 : decode prog_3_method_5_code 1 = .ok (.iconst (-1), 1) := by decide +kernel
theorem kd_prog_3_method_5_code_2 : decode prog_3_method_5_code 2 = .ok (.if_icmp .ne 13, 3) := by decide +kernel
theorem kd_prog_3_method_5_code_5 : decode prog_3_method_5_code 5 = .ok (.iload_n 2, 1) := by decide +kernel
theorem kd_prog_3_method_5_code_6 : decode prog_3_method_5_code 6 = .ok (.ifCond .ne 7, 3) := by decide +kernel
theorem kd_prog_3_method_5_code_9 : decode prog_3_method_5_code 9 = .ok (.iconst 1, 1) := by decide +kernel
theorem kd_prog_3_method_5_code_10 : decode prog_3_method_5_code 10 = .ok (.goto 4, 3) := by decide +kernel
theorem kd_prog_3_method_5_code_13 : decode prog_3_method_5_code 13 = .ok (.iconst 0, 1) := by decide +kernel
theorem kd_prog_3_method_5_code_14 : decode prog_3_method_5_code 14 = .ok (.ireturn, 1) := by decide +kernel
theorem kd_prog_3_method_5_code_15 : decode prog_3_method_5_code 15 = .ok (.aload_n 0, 1) := by decide +kernel
theorem kd_prog_3_method_5_code_16 : decode prog_3_method_5_code 16 = .ok (.getfield 43, 3) := by decide +kernel
theorem kd_prog_3_method_5_code_19 : decode prog_3_method_5_code 19 = .ok (.iload_n 1, 1) := by decide +kernel
theorem kd_prog_3_method_5_code_20 : decode prog_3_method_5_code 20 = .ok (.invokevirtual 80, 3) := by decide +kernel
theorem kd_prog_3_method_5_code_23 : decode prog_3_method_5_code 23 = .ok (.ifCond .eq 17, 3) := by decide +kernel
theorem kd_prog_3_method_5_code_26 : decode prog_3_method_5_code 26 = .ok (.aload_n 0, 1) := by decide +kernel
theorem kd_prog_3_method_5_code_27 : decode prog_3_method_5_code 27 = .ok (.getfield 9, 3) := by decide +kernel
theorem kd_prog_3_method_5_code_30 : decode prog_3_method_5_code 30 = .ok (.iload_n 1, 1) := by decide +kernel
theorem kd_prog_3_method_5_code_31 : decode prog_3_method_5_code 31 = .ok (.baload, 1) := by decide +kernel
theorem kd_prog_3_method_5_code_32 : decode prog_3_method_5_code 32 = .ok (.ifCond .eq 8, 3) := by decide +kernel
theorem kd_prog_3_method_5_code_35 : decode prog_3_method_5_code 35 = .ok (.iload_n 2, 1) := by decide +kernel
theorem kd_prog_3_method_5_code_36 : decode prog_3_method_5_code 36 = .ok (.iconst (-1), 1) := by decide +kernel
theorem kd_prog_3_method_5_code_37 : decode prog_3_method_5_code 37 = .ok (.if_icmp .ne 5, 3) := by decide +kernel
theorem kd_prog_3_method_5_code_40 : decode prog_3_method_5_code 40 = .ok (.iconst 0, 1) := by decide +kernel
theorem kd_prog_3_method_5_code_41 : decode prog_3_method_5_code 41 = .ok (.ireturn, 1) := by decide +kernel
theorem kd_prog_3_method_5_code_42 : decode prog_3_method_5_code 42 = .ok (.aload_n 0, 1) := by decide +kernel
theorem kd_prog_3_method_5_code_43 : decode prog_3_method_5_code 43 = .ok (.getfield 43, 3) := by decide +kernel
theorem kd_prog_3_method_5_code_46 : decode prog_3_method_5_code 46 = .ok (.getfield 84, 3) := by decide +kernel
theorem kd_prog_3_method_5_code_49 : decode prog_3_method_5_code 49 = .ok (.iload_n 1, 1) := by decide +kernel
theorem kd_prog_3_method_5_code_50 : decode prog_3_method_5_code 50 = .ok (.iaload, 1) := by decide +kernel
theorem kd_prog_3_method_5_code_51 : decode prog_3_method_5_code 51 = .ok (.iload_n 2, 1) := by decide +kernel
theorem kd_prog_3_method_5_code_52 : decode prog_3_method_5_code 52 = .ok (.if_icmp .eq 16, 3) := by decide +kernel
theorem kd_prog_3_method_5_code_55 : decode prog_3_method_5_code 55 = .ok (.aload_n 0, 1) := by decide +kernel
theorem kd_prog_3_method_5_code_56 : decode prog_3_method_5_code 56 = .ok (.getfield 43, 3) := by decide +kernel
theorem kd_prog_3_method_5_code_59 : decode prog_3_method_5_code 59 = .ok (.getfield 88, 3) := by decide +kernel
theorem kd_prog_3_method_5_code_62 : decode prog_3_method_5_code 62 = .ok (.iload_n 1, 1) := by decide +kernel
theorem kd_prog_3_method_5_code_63 : decode prog_3_method_5_code 63 = .ok (.iaload, 1) := by decide +kernel
theorem kd_prog_3_method_5_code_64 : decode prog_3_method_5_code 64 = .ok (.iload_n 2, 1) := by decide +kernel
theorem kd_prog_3_method_5_code_65 : decode prog_3_method_5_code 65 = .ok (.if_icmp .ne 7, 3) := by decide +kernel
theorem kd_prog_3_method_5_code_68 : decode prog_3_method_5_code 68 = .ok (.iconst 1, 1) := by decide +kernel
theorem kd_prog_3_method_5_code_69 : decode prog_3_method_5_code 69 = .ok (.goto 4, 3) := by decide +kernel
theorem kd_prog_3_method_5_code_72 : decode prog_3_method_5_code 72 = .ok (.iconst 0, 1) := by decide +kernel
theorem kd_prog_3_method_5_code_73 : decode prog_3_method_5_code 73 = .ok (.ireturn, 1) := by decide +kernel
theorem kd_prog_3_method_6_code_0 : decode prog_3_method_6_code 0 = .ok (.aload_n 0, 1) := by decide +kernel
theorem kd_prog_3_method_6_code_1 : decode prog_3_method_6_code 1 = .ok (.iload_n 1, 1) := by decide +kernel
theorem kd_prog_3_method_6_code_2 : decode prog_3_method_6_code 2 = .ok (.iload_n 2, 1) := by decide +kernel
theorem kd_prog_3_method_6_code_3 : decode prog_3_method_6_code 3 = .ok (.invokevirtual 91, 3) := by decide +kernel
theorem kd_prog_3_method_6_code_6 : decode prog_3_method_6_code 6 = .ok (.aload_n 0, 1) := by decide +kernel
theorem kd_prog_3_method_6_code_7 : decode prog_3_method_6_code 7 = .ok (.getfield 37, 3) := by decide +kernel
theorem kd_prog_3_method_6_code_10 : decode prog_3_method_6_code 10 = .ok (.iload_n 2, 1) := by decide +kernel
theorem kd_prog_3_method_6_code_11 : decode prog_3_method_6_code 11 = .ok (.laload, 1) := by decide +kernel
theorem kd_prog_3_method_6_code_12 : decode prog_3_method_6_code 12 = .ok (.ldc2_w 72, 3) := by decide +kernel
theorem kd_prog_3_method_6_code_15 : decode prog_3_method_6_code 15 = .ok (.lxor, 1) := by decide +kernel
theorem kd_prog_3_method_6_code_16 : decode prog_3_method_6_code 16 = .ok (.land, 1) := by decide +kernel
theorem kd_prog_3_method_6_code_17 : decode prog_3_method_6_code 17 = .ok (.lreturn, 1) := by decide +kernel
section
variable {p : Program} {l : Launch} {e : Env} {R : Room} {s : State} {m : MethodId} {args : Array Value} {below : List Frame} {meth : Method} {c : Code} {Q : State → Prop} {ce sl : Nat} {D : va_G} {q : Nat → Nat} {cA : Nat → ClassId} {A : Nat → Prop}
set_option maxHeartbeats 4000000 in
set_option maxRecDepth 100000 in
theorem w_O_reach (hx : p.tables.exec = Jvm.exec) (hb : c.code = prog_3_method_9_code) (hml : c.maxLocals = 2) (hown : s.vm.findClass kr_O = some m.cls) (hts : ∀ w ∈ lw_g, w.before args s = true) (hRf : 0 ≤ R.frames) (hRl : 0 ≤ R.locals) (hce : ce ≤ R.cells) (hsl : sl ≤ R.slots) (hA : ∀ x, s.heap.size ≤ x → A x) (hK : va_K D wk_cl (tysW cA) s) (x1 : Int32) (z : Sta) (K : Int32 → Sta → Prop) (h : wp_O_reach x1 z K) (hret : ∀ (r : Int32) (u : Sta) (H : Heap) (locs : List Loc) (pc : Nat) (ls : Array Slot), K r u → (r = 0 ∨ r = 1) → wk_S D q cA A s.heap u H locs → decode prog_3_method_9_code pc = .ok (.ireturn, 1) → W p l e R s m args below meth c H locs ce sl Q (F0 m pc ls [.int r])) {H : Heap} {locs : List Loc} {ls : Array Slot} (hV : wk_S D q cA A s.heap z H locs) (hl : lv_has ls 2 [(0, .ref (q 2)), (1, .int x1)]) : W p l e R s m args below meth c H locs ce sl Q (F0 m 0 ls []) := by
  have J14 : ∀ (z : Sta) (H : Heap) (locs : List Loc) (ls : Array Slot), wk_S D q cA A s.heap z H locs → lv_has ls 2 [] → pj_O_reach_14 K z → W p l e R s m args below meth c H locs ce sl Q (F0 m 14 ls []) := by
    intro z H locs ls hV hl h
    unfold pj_O_reach_14 at h
    refine lv_iconst (v := 0) hx hb kd_prog_3_method_9_code_14 (by decide) ?_
    obtain ⟨hz, h⟩ := h
    exact hret 0 z H locs 15 ls h hz hV kd_prog_3_method_9_code_15
  unfold wp_O_reach at h
  refine lv_iload_n hx hb kd_prog_3_method_9_code_0 rfl (lv_at hl 1 rfl) ?_
  refine lv_iconst (v := (-1)) hx hb kd_prog_3_method_9_code_1 (by decide) ?_
  refine lv_icmp_eq (tgt := 14) hx hb kd_prog_3_method_9_code_2 (by decide) (fun hc => ?_) (fun hc => ?_)
  · have h := h.1 hc
    exact J14 z H locs ls hV (lv_sub hl [] rfl) h
  · have h := h.2 hc
    refine lv_aload_n hx hb kd_prog_3_method_9_code_5 rfl (lv_at hl 0 rfl) ?_
    refine va_get (D := D) (ci := 2) (v := .ref (q 16)) (C := kr_O) (T := kt_O) (N := kn_O) hx hb hts ki_O hown hK hV.1 2 rfl rfl 1 (by decide) (hts _ hw_98) (fun _ h9 => h9) rfl kd_prog_3_method_9_code_6 ?_
    refine lv_iload_n hx hb kd_prog_3_method_9_code_9 rfl (lv_at hl 1 rfl) ?_
    obtain ⟨hin, h⟩ := h
    refine va_zald hx hb hK hV.1 16 11 rfl rfl hin kd_prog_3_method_9_code_10 ?_
    refine lv_topi (fun v1 ev1 => ?_)
    have h := h v1 ev1
    refine lv_if_eq (tgt := 16) hx hb kd_prog_3_method_9_code_11 (by decide) (fun hc => ?_) (fun hc => ?_)
    · have h := h.1 hc
      refine lv_aload_n hx hb kd_prog_3_method_9_code_16 rfl (lv_at hl 0 rfl) ?_
      refine va_get (D := D) (ci := 2) (v := .ref (q 16)) (C := kr_O) (T := kt_O) (N := kn_O) hx hb hts ki_O hown hK hV.1 2 rfl rfl 1 (by decide) (hts _ hw_98) (fun _ h9 => h9) rfl kd_prog_3_method_9_code_17 ?_
      refine lv_iload_n hx hb kd_prog_3_method_9_code_20 rfl (lv_at hl 1 rfl) ?_
      refine lv_iconst (v := 1) hx hb kd_prog_3_method_9_code_21 (by decide) ?_
      obtain ⟨hin, h⟩ := h
      refine wk_zast hx hb hK hV 16 11 10 rfl rfl (ks_16 q cA z) hin kd_prog_3_method_9_code_22 (fun H locs hV => ?_)
      obtain ⟨z2, ez2⟩ : ∃ x : Sta, x = zA z 10 (upd (z.2.1 10) x1.toNatClampNeg (vp_nar .boolean (1 : Int32))) := ⟨_, rfl⟩
      rw [← ez2] at hV
      have h := h z2 ez2
      refine lv_iconst (v := 1) hx hb kd_prog_3_method_9_code_23 (by decide) ?_
      obtain ⟨hz, h⟩ := h
      exact hret 1 z2 H locs 24 ls h hz hV kd_prog_3_method_9_code_24
    · have h := h.2 hc
      exact J14 z H locs ls hV (lv_sub hl [] rfl) h
end
set_option maxHeartbeats 4000000 in
set_option maxRecDepth 100000 in
theorem c_O_reach (l : Launch) (D : va_G) (q : Nat → Nat) (cA : Nat → ClassId) (x1 : Int32) (z : Sta) (sz : Nat) (K : Int32 → Sta → Prop) (h : wp_O_reach x1 z K) : Met l ke_O_reach (kc_O_reach :: lw_g) { frames := 0, cells := 0, slots := 0, locals := 0 } (wk_Pc D q cA [.ref (q 2), .int x1] z sz) (va_Qi K (wk_B D q cA (va_A (wW q cA z) sz)) (va_A (wW q cA z) sz)) 0 0 (va_A (wW q cA z) sz) := by
  refine Met.ofW (cc := prog_3_method_9_code) (maxL := 2) (ret := (some .boolean)) (by decide) rfl ?_
  intro p e s m args below meth c s₁ B hml hv
  obtain ⟨rfl, hsz, hP, hK, hD0⟩ := hv
  have hx := B.exec
  have hb := B.bytes
  have hr := B.returns
  have hlocks := B.notSynchronized
  have hts0 := atoms_spec (ws := kc_O_reach :: lw_g) B.pre
  have hts : ∀ w ∈ lw_g, w.before ([.ref (q 2), .int x1] : List Value).toArray s = true := fun w hw => hts0 w (List.mem_cons_of_mem _ hw)
  have hown : s.vm.findClass kr_O = some m.cls := findClass_of_methodNamed B.named
  subst hsz
  have hD := hD0.self (sz := s.heap.size)
  generalize hAe : va_A (wW q cA z) s.heap.size = A at hD ⊢
  have hA : ∀ x : Nat, s.heap.size ≤ x → A x := fun x hx => by rw [← hAe]; exact Or.inr hx
  have hl := lv_entry ([.ref (q 2), .int x1]) (n := 2) (Nat.le_of_ble_eq_true rfl)
  rw [lg_entry_eq]
  generalize (lg_sl ([.ref (q 2), .int x1]) ++ List.replicate (2 - (lg_sl ([.ref (q 2), .int x1])).length) Slot.unset).toArray = ls at hl ⊢
  have hl : lv_has ls 2 [(0, .ref (q 2)), (1, .int x1)] := hl
  exact w_O_reach hx hb hml hown hts (Nat.le_refl _) (Nat.le_refl _) (Nat.zero_le _) (Nat.zero_le _) hA hK x1 z K h (fun r u H locs pc ls hk hz hV hd => W.zret (ty := .boolean) hx hb hr (by rcases hz with rfl | rfl <;> rfl) (fun t ht hW => ⟨⟨r, u, rfl, hk, by rw [ht]; exact hV.1, va_K.moved hW.alike hK, hV.2.1⟩, hV.2.2.F ht⟩) hV.2.2.2.2 hd) ⟨hP, hD, va_S.rf⟩ hl
section
variable {p : Program} {l : Launch} {e : Env} {R : Room} {s : State} {m : MethodId} {args : Array Value} {below : List Frame} {meth : Method} {c : Code} {Q : State → Prop} {ce sl : Nat} {D : va_G} {q : Nat → Nat} {cA : Nat → ClassId} {A : Nat → Prop}
set_option maxHeartbeats 4000000 in
set_option maxRecDepth 100000 in
theorem w_O_findReached (hx : p.tables.exec = Jvm.exec) (hb : c.code = prog_3_method_8_code) (hml : c.maxLocals = 4) (hown : s.vm.findClass kr_O = some m.cls) (hts : ∀ w ∈ lw_g, w.before args s = true) (hRf : 1 ≤ R.frames) (hRl : 21 ≤ R.locals) (hce : ce ≤ R.cells) (hsl : sl ≤ R.slots) (hA : ∀ x, s.heap.size ≤ x → A x) (hK : va_K D wk_cl (tysW cA) s) (z : Sta) (K : Sta → Prop) (h : wp_O_findReached z K) (hret : ∀ (u : Sta) (H : Heap) (locs : List Loc) (pc : Nat) (ls : Array Slot), K u → wk_S D q cA A s.heap u H locs → decode prog_3_method_8_code pc = .ok (.return_, 1) → W p l e R s m args below meth c H locs ce sl Q (F0 m pc ls [])) {H : Heap} {locs : List Loc} {ls : Array Slot} (hV : wk_S D q cA A s.heap z H locs) (hl : lv_has ls 4 [(0, .ref (q 2))]) : W p l e R s m args below meth c H locs ce sl Q (F0 m 0 ls []) := by
  have J111 : ∀ (z : Sta) (H : Heap) (locs : List Loc) (ls : Array Slot), wk_S D q cA A s.heap z H locs → lv_has ls 4 [] → pj_O_findReached_111 K z → W p l e R s m args below meth c H locs ce sl Q (F0 m 111 ls []) := by
    intro z H locs ls hV hl h
    unfold pj_O_findReached_111 at h
    exact hret z H locs 111 ls h hV kd_prog_3_method_8_code_111
  have L33 : ∀ (n : Nat) (x1 : Int32) (x2 : Int32) (z : Sta) (H : Heap) (locs : List Loc) (ls : Array Slot), wk_S D q cA A s.heap z H locs → lv_has ls 4 [(0, .ref (q 2)), (1, .int x1), (2, .int x2)] → lp_O_findReached_33 K n x1 x2 z → W p l e R s m args below meth c H locs ce sl Q (F0 m 33 ls []) := by
    intro n33
    induction n33 with
    | zero => intro x1 x2 z H locs ls hV hl h; rw [lp_O_findReached_33] at h; exact h.elim
    | succ n33 ih33 =>
      have L47 : ∀ (n : Nat) (x1 : Int32) (x2 : Int32) (x3 : Int32) (z : Sta) (H : Heap) (locs : List Loc) (ls : Array Slot), wk_S D q cA A s.heap z H locs → lv_has ls 4 [(0, .ref (q 2)), (1, .int x1), (2, .int x2), (3, .int x3)] → lp_O_findReached_47 K (fun x1 x2 z => lp_O_findReached_33 K n33 x1 x2 z) n x1 x2 x3 z → W p l e R s m args below meth c H locs ce sl Q (F0 m 47 ls []) := by
        intro n47
        induction n47 with
        | zero => intro x1 x2 x3 z H locs ls hV hl h; rw [lp_O_findReached_47] at h; exact h.elim
        | succ n47 ih47 =>
          have J99 : ∀ (x1 : Int32) (x2 : Int32) (x3 : Int32) (z : Sta) (H : Heap) (locs : List Loc) (ls : Array Slot), wk_S D q cA A s.heap z H locs → lv_has ls 4 [(0, .ref (q 2)), (1, .int x1), (2, .int x2), (3, .int x3)] → pj_O_findReached_99 K (fun x1 x2 x3 z => lp_O_findReached_47 K (fun x1 x2 z => lp_O_findReached_33 K n33 x1 x2 z) n47 x1 x2 x3 z) x1 x2 x3 z → W p l e R s m args below meth c H locs ce sl Q (F0 m 99 ls []) := by
            intro x1 x2 x3 z H locs ls hV hl h
            unfold pj_O_findReached_99 at h
            obtain ⟨v12, ev12⟩ : ∃ v : Int32, v = x3 + 1 := ⟨_, rfl⟩
            have h := h v12 ev12
            refine lv_iinc (v := v12) (k := 3) hx hb kd_prog_3_method_8_code_99 hl rfl (by rw [ev12]; rfl) (by decide) rfl (fun ls hl => ?_)
            have hl : lv_has ls 4 [(3, .int v12), (0, .ref (q 2)), (1, .int x1), (2, .int x2)] := hl
            refine lv_goto (tgt := 47) hx hb kd_prog_3_method_8_code_102 (by decide) ?_
            exact ih47 x1 x2 v12 z H locs ls hV (lv_sub hl [1, 2, 3, 0] rfl) h
          intro x1 x2 x3 z H locs ls hV hl h
          rw [lp_O_findReached_47] at h
          refine lv_iload_n hx hb kd_prog_3_method_8_code_47 rfl (lv_at hl 3 rfl) ?_
          refine lv_aload_n hx hb kd_prog_3_method_8_code_48 rfl (lv_at hl 0 rfl) ?_
          refine va_get (D := D) (ci := 2) (v := .ref (q 1)) (C := kr_O) (T := kt_O) (N := kn_O) hx hb hts ki_O hown hK hV.1 2 rfl rfl 0 (by decide) (hts _ hw_97) (fun _ h9 => h9) rfl kd_prog_3_method_8_code_49 ?_
          refine va_get (D := D) (ci := 1) (v := .int (z.1 2)) (C := kr_P) (T := kt_P) (N := kn_P) hx hb hts ki_P hown hK hV.1 1 rfl rfl 0 (by decide) (hts _ hw_32) (fun _ h9 => h9) rfl kd_prog_3_method_8_code_52 ?_
          refine lv_topi (fun v3 ev3 => ?_)
          have h := h v3 ev3
          refine lv_icmp_ge (tgt := 105) hx hb kd_prog_3_method_8_code_55 (by decide) (fun hc => ?_) (fun hc => ?_)
          · have h := h.1 hc
            obtain ⟨v4, ev4⟩ : ∃ v : Int32, v = x2 + 1 := ⟨_, rfl⟩
            have h := h v4 ev4
            refine lv_iinc (v := v4) (k := 2) hx hb kd_prog_3_method_8_code_105 hl rfl (by rw [ev4]; rfl) (by decide) rfl (fun ls hl => ?_)
            have hl : lv_has ls 4 [(2, .int v4), (0, .ref (q 2)), (1, .int x1), (3, .int x3)] := hl
            refine lv_goto (tgt := 33) hx hb kd_prog_3_method_8_code_108 (by decide) ?_
            exact ih33 x1 v4 z H locs ls hV (lv_sub hl [1, 2, 0] rfl) h
          · have h := h.2 hc
            refine lv_aload_n hx hb kd_prog_3_method_8_code_58 rfl (lv_at hl 0 rfl) ?_
            refine va_get (D := D) (ci := 2) (v := .ref (q 16)) (C := kr_O) (T := kt_O) (N := kn_O) hx hb hts ki_O hown hK hV.1 2 rfl rfl 1 (by decide) (hts _ hw_98) (fun _ h9 => h9) rfl kd_prog_3_method_8_code_59 ?_
            refine lv_iload_n hx hb kd_prog_3_method_8_code_62 rfl (lv_at hl 3 rfl) ?_
            obtain ⟨hin, h⟩ := h
            refine va_zald hx hb hK hV.1 16 11 rfl rfl hin kd_prog_3_method_8_code_63 ?_
            refine lv_topi (fun v5 ev5 => ?_)
            have h := h v5 ev5
            refine lv_if_eq (tgt := 99) hx hb kd_prog_3_method_8_code_64 (by decide) (fun hc => ?_) (fun hc => ?_)
            · have h := h.1 hc
              exact J99 x1 x2 x3 z H locs ls hV (lv_sub hl [0, 1, 2, 3] rfl) h
            · have h := h.2 hc
              refine lv_iload_n hx hb kd_prog_3_method_8_code_67 rfl (lv_at hl 1 rfl) ?_
              refine lv_aload_n hx hb kd_prog_3_method_8_code_68 rfl (lv_at hl 0 rfl) ?_
              refine lv_aload_n hx hb kd_prog_3_method_8_code_69 rfl (lv_at hl 0 rfl) ?_
              refine va_get (D := D) (ci := 2) (v := .ref (q 1)) (C := kr_O) (T := kt_O) (N := kn_O) hx hb hts ki_O hown hK hV.1 2 rfl rfl 0 (by decide) (hts _ hw_97) (fun _ h9 => h9) rfl kd_prog_3_method_8_code_70 ?_
              refine va_get (D := D) (ci := 1) (v := .ref (q 10)) (C := kr_P) (T := kt_P) (N := kn_P) hx hb hts ki_P hown hK hV.1 1 rfl rfl 7 (by decide) (hts _ hw_53) (fun _ h9 => h9) rfl kd_prog_3_method_8_code_73 ?_
              refine lv_iload_n hx hb kd_prog_3_method_8_code_76 rfl (lv_at hl 3 rfl) ?_
              obtain ⟨hin, h⟩ := h
              refine va_iald hx hb hK hV.1 10 5 rfl rfl hin kd_prog_3_method_8_code_77 ?_
              refine lv_topi (fun v6 ev6 => ?_)
              have h := h v6 ev6
              refine wk_calli (va_runV (As := [.int v6]) (rest := [.int x1]) ⟨hx, hb, hml, hown, hts⟩ (c_O_reach l D q cA v6 z H.size _ h) (cwV 1 hts gs_O_95 rfl rfl rfl (by decide +kernel) ⟨Nat.le_trans (by decide) hRf, Nat.le_trans (by decide) hRl⟩) (wk_preV hK hV 2 2 rfl rfl [.int v6]) rfl rfl hl.1 rfl (lv_room (Nat.le_of_ble_eq_true rfl)) kd_prog_3_method_8_code_78 ⟨hce, hsl⟩) hV hA (fun rz7 z7 H locs h hV => ?_)
              refine lv_ior hx hb kd_prog_3_method_8_code_81 ?_
              refine lv_topi (fun v8 ev8 => ?_)
              have h := h v8 ev8
              refine lv_istore_n hx hb kd_prog_3_method_8_code_82 rfl hl (by decide) rfl (fun ls hl => ?_)
              have hl : lv_has ls 4 [(1, .int v8), (0, .ref (q 2)), (2, .int x2), (3, .int x3)] := hl
              refine lv_iload_n hx hb kd_prog_3_method_8_code_83 rfl (lv_at hl 0 rfl) ?_
              refine lv_aload_n hx hb kd_prog_3_method_8_code_84 rfl (lv_at hl 1 rfl) ?_
              refine lv_aload_n hx hb kd_prog_3_method_8_code_85 rfl (lv_at hl 1 rfl) ?_
              refine va_get (D := D) (ci := 2) (v := .ref (q 1)) (C := kr_O) (T := kt_O) (N := kn_O) hx hb hts ki_O hown hK hV.1 2 rfl rfl 0 (by decide) (hts _ hw_97) (fun _ h9 => h9) rfl kd_prog_3_method_8_code_86 ?_
              refine va_get (D := D) (ci := 1) (v := .ref (q 11)) (C := kr_P) (T := kt_P) (N := kn_P) hx hb hts ki_P hown hK hV.1 1 rfl rfl 8 (by decide) (hts _ hw_56) (fun _ h9 => h9) rfl kd_prog_3_method_8_code_89 ?_
              refine lv_iload_n hx hb kd_prog_3_method_8_code_92 rfl (lv_at hl 3 rfl) ?_
              obtain ⟨hin, h⟩ := h
              refine va_iald hx hb hK hV.1 11 6 rfl rfl hin kd_prog_3_method_8_code_93 ?_
              refine lv_topi (fun v9 ev9 => ?_)
              have h := h v9 ev9
              refine wk_calli (va_runV (As := [.int v9]) (rest := [.int v8]) ⟨hx, hb, hml, hown, hts⟩ (c_O_reach l D q cA v9 z7 H.size _ h) (cwV 1 hts gs_O_95 rfl rfl rfl (by decide +kernel) ⟨Nat.le_trans (by decide) hRf, Nat.le_trans (by decide) hRl⟩) (wk_preV hK hV 2 2 rfl rfl [.int v9]) rfl rfl hl.1 rfl (lv_room (Nat.le_of_ble_eq_true rfl)) kd_prog_3_method_8_code_94 ⟨hce, hsl⟩) hV hA (fun rz10 z10 H locs h hV => ?_)
              refine lv_ior hx hb kd_prog_3_method_8_code_97 ?_
              refine lv_topi (fun v11 ev11 => ?_)
              have h := h v11 ev11
              refine lv_istore_n hx hb kd_prog_3_method_8_code_98 rfl hl (by decide) rfl (fun ls hl => ?_)
              have hl : lv_has ls 4 [(1, .int v11), (0, .ref (q 2)), (2, .int x2), (3, .int x3)] := hl
              exact J99 v11 x2 x3 z10 H locs ls hV (lv_sub hl [1, 0, 2, 3] rfl) h
      intro x1 x2 z H locs ls hV hl h
      rw [lp_O_findReached_33] at h
      refine lv_iload_n hx hb kd_prog_3_method_8_code_33 rfl (lv_at hl 1 rfl) ?_
      refine lv_if_eq (tgt := 111) hx hb kd_prog_3_method_8_code_34 (by decide) (fun hc => ?_) (fun hc => ?_)
      · have h := h.1 hc
        exact J111 z H locs ls hV (lv_sub hl [] rfl) h
      · have h := h.2 hc
        refine lv_iload_n hx hb kd_prog_3_method_8_code_37 rfl (lv_at hl 2 rfl) ?_
        refine lv_bipush (v := 16) hx hb kd_prog_3_method_8_code_38 (by decide) ?_
        refine lv_icmp_ge (tgt := 111) hx hb kd_prog_3_method_8_code_40 (by decide) (fun hc => ?_) (fun hc => ?_)
        · have h := h.1 hc
          exact J111 z H locs ls hV (lv_sub hl [] rfl) h
        · have h := h.2 hc
          refine lv_iconst (v := 0) hx hb kd_prog_3_method_8_code_43 (by decide) ?_
          refine lv_istore_n hx hb kd_prog_3_method_8_code_44 rfl hl (by decide) rfl (fun ls hl => ?_)
          have hl : lv_has ls 4 [(1, .int 0), (0, .ref (q 2)), (2, .int x2)] := hl
          refine lv_iconst (v := 0) hx hb kd_prog_3_method_8_code_45 (by decide) ?_
          refine lv_istore_n hx hb kd_prog_3_method_8_code_46 rfl hl (by decide) rfl (fun ls hl => ?_)
          have hl : lv_has ls 4 [(3, .int 0), (1, .int 0), (0, .ref (q 2)), (2, .int x2)] := hl
          obtain ⟨n47, h⟩ := h
          exact L47 n47 0 x2 0 z H locs ls hV (lv_sub hl [2, 1, 3, 0] rfl) h
  have L2 : ∀ (n : Nat) (x1 : Int32) (z : Sta) (H : Heap) (locs : List Loc) (ls : Array Slot), wk_S D q cA A s.heap z H locs → lv_has ls 4 [(0, .ref (q 2)), (1, .int x1)] → lp_O_findReached_2 K n x1 z → W p l e R s m args below meth c H locs ce sl Q (F0 m 2 ls []) := by
    intro n2
    induction n2 with
    | zero => intro x1 z H locs ls hV hl h; rw [lp_O_findReached_2] at h; exact h.elim
    | succ n2 ih2 =>
      have J22 : ∀ (x1 : Int32) (y0 : Int32) (y1 : Int32) (z : Sta) (H : Heap) (locs : List Loc) (ls : Array Slot), wk_S D q cA A s.heap z H locs → lv_has ls 4 [(0, .ref (q 2)), (1, .int x1)] → pj_O_findReached_22 K (fun x1 z => lp_O_findReached_2 K n2 x1 z) x1 y0 y1 z → W p l e R s m args below meth c H locs ce sl Q (F0 m 22 ls [.int y0, .int y1, .ref (q 16)]) := by
        intro x1 y0 y1 z H locs ls hV hl h
        unfold pj_O_findReached_22 at h
        obtain ⟨hin, h⟩ := h
        refine wk_zast hx hb hK hV 16 11 10 rfl rfl (ks_16 q cA z) hin kd_prog_3_method_8_code_22 (fun H locs hV => ?_)
        obtain ⟨z1, ez1⟩ : ∃ x : Sta, x = zA z 10 (upd (z.2.1 10) y1.toNatClampNeg (vp_nar .boolean y0)) := ⟨_, rfl⟩
        rw [← ez1] at hV
        have h := h z1 ez1
        obtain ⟨v2, ev2⟩ : ∃ v : Int32, v = x1 + 1 := ⟨_, rfl⟩
        have h := h v2 ev2
        refine lv_iinc (v := v2) (k := 1) hx hb kd_prog_3_method_8_code_23 hl rfl (by rw [ev2]; rfl) (by decide) rfl (fun ls hl => ?_)
        have hl : lv_has ls 4 [(1, .int v2), (0, .ref (q 2))] := hl
        refine lv_goto (tgt := 2) hx hb kd_prog_3_method_8_code_26 (by decide) ?_
        exact ih2 v2 z1 H locs ls hV (lv_sub hl [1, 0] rfl) h
      intro x1 z H locs ls hV hl h
      rw [lp_O_findReached_2] at h
      refine lv_iload_n hx hb kd_prog_3_method_8_code_2 rfl (lv_at hl 1 rfl) ?_
      refine lv_bipush (v := 16) hx hb kd_prog_3_method_8_code_3 (by decide) ?_
      refine lv_icmp_ge (tgt := 29) hx hb kd_prog_3_method_8_code_5 (by decide) (fun hc => ?_) (fun hc => ?_)
      · have h := h.1 hc
        refine lv_iconst (v := 1) hx hb kd_prog_3_method_8_code_29 (by decide) ?_
        refine lv_istore_n hx hb kd_prog_3_method_8_code_30 rfl hl (by decide) rfl (fun ls hl => ?_)
        have hl : lv_has ls 4 [(1, .int 1), (0, .ref (q 2))] := hl
        refine lv_iconst (v := 0) hx hb kd_prog_3_method_8_code_31 (by decide) ?_
        refine lv_istore_n hx hb kd_prog_3_method_8_code_32 rfl hl (by decide) rfl (fun ls hl => ?_)
        have hl : lv_has ls 4 [(2, .int 0), (1, .int 1), (0, .ref (q 2))] := hl
        obtain ⟨n33, h⟩ := h
        exact L33 n33 1 0 z H locs ls hV (lv_sub hl [2, 1, 0] rfl) h
      · have h := h.2 hc
        refine lv_aload_n hx hb kd_prog_3_method_8_code_8 rfl (lv_at hl 0 rfl) ?_
        refine va_get (D := D) (ci := 2) (v := .ref (q 16)) (C := kr_O) (T := kt_O) (N := kn_O) hx hb hts ki_O hown hK hV.1 2 rfl rfl 1 (by decide) (hts _ hw_98) (fun _ h9 => h9) rfl kd_prog_3_method_8_code_9 ?_
        refine lv_iload_n hx hb kd_prog_3_method_8_code_12 rfl (lv_at hl 1 rfl) ?_
        refine lv_iload_n hx hb kd_prog_3_method_8_code_13 rfl (lv_at hl 1 rfl) ?_
        refine lv_if_ne (tgt := 21) hx hb kd_prog_3_method_8_code_14 (by decide) (fun hc => ?_) (fun hc => ?_)
        · have h := h.1 hc
          refine lv_iconst (v := 0) hx hb kd_prog_3_method_8_code_21 (by decide) ?_
          exact J22 x1 0 x1 z H locs ls hV (lv_sub hl [0, 1] rfl) h
        · have h := h.2 hc
          refine lv_iconst (v := 1) hx hb kd_prog_3_method_8_code_17 (by decide) ?_
          refine lv_goto (tgt := 22) hx hb kd_prog_3_method_8_code_18 (by decide) ?_
          exact J22 x1 1 x1 z H locs ls hV (lv_sub hl [0, 1] rfl) h
  unfold wp_O_findReached at h
  refine lv_iconst (v := 0) hx hb kd_prog_3_method_8_code_0 (by decide) ?_
  refine lv_istore_n hx hb kd_prog_3_method_8_code_1 rfl hl (by decide) rfl (fun ls hl => ?_)
  have hl : lv_has ls 4 [(1, .int 0), (0, .ref (q 2))] := hl
  obtain ⟨n2, h⟩ := h
  exact L2 n2 0 z H locs ls hV (lv_sub hl [1, 0] rfl) h
end
set_option maxHeartbeats 4000000 in
set_option maxRecDepth 100000 in
theorem c_O_findReached (l : Launch) (D : va_G) (q : Nat → Nat) (cA : Nat → ClassId) (z : Sta) (sz : Nat) (K : Sta → Prop) (h : wp_O_findReached z K) : Met l ke_O_findReached (kc_O_findReached :: lw_g) { frames := 1, cells := 0, slots := 0, locals := 21 } (wk_Pc D q cA [.ref (q 2)] z sz) (va_Qv K (wk_B D q cA (va_A (wW q cA z) sz)) (va_A (wW q cA z) sz)) 0 0 (va_A (wW q cA z) sz) := by
  refine Met.ofW (cc := prog_3_method_8_code) (maxL := 4) (ret := none) (by decide) rfl ?_
  intro p e s m args below meth c s₁ B hml hv
  obtain ⟨rfl, hsz, hP, hK, hD0⟩ := hv
  have hx := B.exec
  have hb := B.bytes
  have hr := B.returns
  have hlocks := B.notSynchronized
  have hts0 := atoms_spec (ws := kc_O_findReached :: lw_g) B.pre
  have hts : ∀ w ∈ lw_g, w.before ([.ref (q 2)] : List Value).toArray s = true := fun w hw => hts0 w (List.mem_cons_of_mem _ hw)
  have hown : s.vm.findClass kr_O = some m.cls := findClass_of_methodNamed B.named
  subst hsz
  have hD := hD0.self (sz := s.heap.size)
  generalize hAe : va_A (wW q cA z) s.heap.size = A at hD ⊢
  have hA : ∀ x : Nat, s.heap.size ≤ x → A x := fun x hx => by rw [← hAe]; exact Or.inr hx
  have hl := lv_entry ([.ref (q 2)]) (n := 4) (Nat.le_of_ble_eq_true rfl)
  rw [lg_entry_eq]
  generalize (lg_sl ([.ref (q 2)]) ++ List.replicate (4 - (lg_sl ([.ref (q 2)])).length) Slot.unset).toArray = ls at hl ⊢
  have hl : lv_has ls 4 [(0, .ref (q 2))] := hl
  exact w_O_findReached hx hb hml hown hts (Nat.le_refl _) (Nat.le_refl _) (Nat.zero_le _) (Nat.zero_le _) hA hK z K h (fun u H locs pc ls hk hV hd => W.vret hx hb hr (fun t ht hW => ⟨⟨u, rfl, hk, by rw [ht]; exact hV.1, va_K.moved hW.alike hK, hV.2.1⟩, hV.2.2.F ht⟩) hV.2.2.2.2 hd) ⟨hP, hD, va_S.rf⟩ hl
section
variable {p : Program} {l : Launch} {e : Env} {R : Room} {s : State} {m : MethodId} {args : Array Value} {below : List Frame} {meth : Method} {c : Code} {Q : State → Prop} {ce sl : Nat} {D : va_G} {q : Nat → Nat} {cA : Nat → ClassId} {A : Nat → Prop}
set_option maxHeartbeats 4000000 in
set_option maxRecDepth 100000 in
theorem w_O_narrow_20 (hx : p.tables.exec = Jvm.exec) (hb : c.code = prog_3_method_17_code) (hml : c.maxLocals = 6) (hown : s.vm.findClass kr_O = some m.cls) (hts : ∀ w ∈ lw_g, w.before args s = true) (hRf : 0 ≤ R.frames) (hRl : 0 ≤ R.locals) (hce : ce ≤ R.cells) (hsl : sl ≤ R.slots) (hA : ∀ x, s.heap.size ≤ x → A x) (hK : va_K D wk_cl (tysW cA) s) (x1 : Int32) (x2 : Int64) (z : Sta) (K : Int32 → Sta → Prop) (h : wp_O_narrow_20 x1 x2 z K) (hret : ∀ (r : Int32) (u : Sta) (H : Heap) (locs : List Loc) (pc : Nat) (ls : Array Slot), K r u → (r = 0 ∨ r = 1) → wk_S D q cA A s.heap u H locs → decode prog_3_method_17_code pc = .ok (.ireturn, 1) → W p l e R s m args below meth c H locs ce sl Q (F0 m pc ls [.int r])) {H : Heap} {locs : List Loc} {ls : Array Slot} (hV : wk_S D q cA A s.heap z H locs) (hl : lv_has ls 6 [(0, .ref (q 20)), (1, .int x1), (2, .long x2)]) : W p l e R s m args below meth c H locs ce sl Q (F0 m 0 ls []) := by
  have J33 : ∀ (y0 : Int32) (z : Sta) (H : Heap) (locs : List Loc) (ls : Array Slot), wk_S D q cA A s.heap z H locs → lv_has ls 6 [] → pj_O_narrow_20_33 K y0 z → W p l e R s m args below meth c H locs ce sl Q (F0 m 33 ls [.int y0]) := by
    intro y0 z H locs ls hV hl h
    unfold pj_O_narrow_20_33 at h
    obtain ⟨hz, h⟩ := h
    exact hret y0 z H locs 33 ls h hz hV kd_prog_3_method_17_code_33
  unfold wp_O_narrow_20 at h
  refine lv_iload_n hx hb kd_prog_3_method_17_code_0 rfl (lv_at hl 1 rfl) ?_
  refine lv_iconst (v := (-1)) hx hb kd_prog_3_method_17_code_1 (by decide) ?_
  refine lv_icmp_ne (tgt := 7) hx hb kd_prog_3_method_17_code_2 (by decide) (fun hc => ?_) (fun hc => ?_)
  · have h := h.1 hc
    refine lv_aload_n hx hb kd_prog_3_method_17_code_7 rfl (lv_at hl 0 rfl) ?_
    refine lv_iload_n hx hb kd_prog_3_method_17_code_8 rfl (lv_at hl 1 rfl) ?_
    obtain ⟨hin, h⟩ := h
    refine va_lald hx hb hK hV.1 20 15 rfl rfl hin kd_prog_3_method_17_code_9 ?_
    refine lv_topl (fun v1 ev1 => ?_)
    have h := h v1 ev1
    refine lv_lstore hx hb kd_prog_3_method_17_code_10 hl (by decide) rfl (fun ls hl => ?_)
    have hl : lv_has ls 6 [(4, .long v1), (0, .ref (q 20)), (1, .int x1), (2, .long x2)] := hl
    refine lv_aload_n hx hb kd_prog_3_method_17_code_12 rfl (lv_at hl 1 rfl) ?_
    refine lv_iload_n hx hb kd_prog_3_method_17_code_13 rfl (lv_at hl 2 rfl) ?_
    refine lv_lload hx hb kd_prog_3_method_17_code_14 (lv_at hl 0 rfl) ?_
    refine lv_lload_n hx hb kd_prog_3_method_17_code_16 rfl (lv_at hl 3 rfl) ?_
    refine lv_land hx hb kd_prog_3_method_17_code_17 ?_
    refine lv_topl (fun v2 ev2 => ?_)
    have h := h v2 ev2
    obtain ⟨hin, h⟩ := h
    refine wk_last hx hb hK hV 20 15 4 rfl rfl (ks_20 q cA z) hin kd_prog_3_method_17_code_18 (fun H locs hV => ?_)
    obtain ⟨z3, ez3⟩ : ∃ x : Sta, x = zL z 4 (vp_updL (z.2.2 4) x1.toNatClampNeg v2) := ⟨_, rfl⟩
    rw [← ez3] at hV
    have h := h z3 ez3
    refine lv_aload_n hx hb kd_prog_3_method_17_code_19 rfl (lv_at hl 1 rfl) ?_
    refine lv_iload_n hx hb kd_prog_3_method_17_code_20 rfl (lv_at hl 2 rfl) ?_
    obtain ⟨hin, h⟩ := h
    refine va_lald hx hb hK hV.1 20 15 rfl rfl hin kd_prog_3_method_17_code_21 ?_
    refine lv_topl (fun v4 ev4 => ?_)
    have h := h v4 ev4
    refine lv_lload hx hb kd_prog_3_method_17_code_22 (lv_at hl 0 rfl) ?_
    refine W.lcmp hx hb kd_prog_3_method_17_code_24 ?_
    refine lv_topi (fun v5 ev5 => ?_)
    have h := h v5 ev5
    refine lv_if_eq (tgt := 32) hx hb kd_prog_3_method_17_code_25 (by decide) (fun hc => ?_) (fun hc => ?_)
    · have h := h.1 hc
      refine lv_iconst (v := 0) hx hb kd_prog_3_method_17_code_32 (by decide) ?_
      exact J33 0 z3 H locs ls hV (lv_sub hl [] rfl) h
    · have h := h.2 hc
      refine lv_iconst (v := 1) hx hb kd_prog_3_method_17_code_28 (by decide) ?_
      refine lv_goto (tgt := 33) hx hb kd_prog_3_method_17_code_29 (by decide) ?_
      exact J33 1 z3 H locs ls hV (lv_sub hl [] rfl) h
  · have h := h.2 hc
    refine lv_iconst (v := 0) hx hb kd_prog_3_method_17_code_5 (by decide) ?_
    obtain ⟨hz, h⟩ := h
    exact hret 0 z H locs 6 ls h hz hV kd_prog_3_method_17_code_6
end
set_option maxHeartbeats 4000000 in
set_option maxRecDepth 100000 in
theorem c_O_narrow_20 (l : Launch) (D : va_G) (q : Nat → Nat) (cA : Nat → ClassId) (x1 : Int32) (x2 : Int64) (z : Sta) (sz : Nat) (K : Int32 → Sta → Prop) (h : wp_O_narrow_20 x1 x2 z K) : Met l ke_O_narrow (kc_O_narrow :: lw_g) { frames := 0, cells := 0, slots := 0, locals := 0 } (wk_Pc D q cA [.ref (q 20), .int x1, .long x2] z sz) (va_Qi K (wk_B D q cA (va_A (wW q cA z) sz)) (va_A (wW q cA z) sz)) 0 0 (va_A (wW q cA z) sz) := by
  refine Met.ofW (cc := prog_3_method_17_code) (maxL := 6) (ret := (some .boolean)) (by decide) rfl ?_
  intro p e s m args below meth c s₁ B hml hv
  obtain ⟨rfl, hsz, hP, hK, hD0⟩ := hv
  have hx := B.exec
  have hb := B.bytes
  have hr := B.returns
  have hlocks := B.notSynchronized
  have hts0 := atoms_spec (ws := kc_O_narrow :: lw_g) B.pre
  have hts : ∀ w ∈ lw_g, w.before ([.ref (q 20), .int x1, .long x2] : List Value).toArray s = true := fun w hw => hts0 w (List.mem_cons_of_mem _ hw)
  have hown : s.vm.findClass kr_O = some m.cls := findClass_of_methodNamed B.named
  subst hsz
  have hD := hD0.self (sz := s.heap.size)
  generalize hAe : va_A (wW q cA z) s.heap.size = A at hD ⊢
  have hA : ∀ x : Nat, s.heap.size ≤ x → A x := fun x hx => by rw [← hAe]; exact Or.inr hx
  have hl := lv_entry ([.ref (q 20), .int x1, .long x2]) (n := 6) (Nat.le_of_ble_eq_true rfl)
  rw [lg_entry_eq]
  generalize (lg_sl ([.ref (q 20), .int x1, .long x2]) ++ List.replicate (6 - (lg_sl ([.ref (q 20), .int x1, .long x2])).length) Slot.unset).toArray = ls at hl ⊢
  have hl : lv_has ls 6 [(0, .ref (q 20)), (1, .int x1), (2, .long x2)] := hl
  exact w_O_narrow_20 hx hb hml hown hts (Nat.le_refl _) (Nat.le_refl _) (Nat.zero_le _) (Nat.zero_le _) hA hK x1 x2 z K h (fun r u H locs pc ls hk hz hV hd => W.zret (ty := .boolean) hx hb hr (by rcases hz with rfl | rfl <;> rfl) (fun t ht hW => ⟨⟨r, u, rfl, hk, by rw [ht]; exact hV.1, va_K.moved hW.alike hK, hV.2.1⟩, hV.2.2.F ht⟩) hV.2.2.2.2 hd) ⟨hP, hD, va_S.rf⟩ hl
section
variable {p : Program} {l : Launch} {e : Env} {R : Room} {s : State} {m : MethodId} {args : Array Value} {below : List Frame} {meth : Method} {c : Code} {Q : State → Prop} {ce sl : Nat} {D : va_G} {q : Nat → Nat} {cA : Nat → ClassId} {A : Nat → Prop}
set_option maxHeartbeats 4000000 in
set_option maxRecDepth 100000 in
theorem w_O_flowThere (hx : p.tables.exec = Jvm.exec) (hb : c.code = prog_3_method_12_code) (hml : c.maxLocals = 4) (hown : s.vm.findClass kr_O = some m.cls) (hts : ∀ w ∈ lw_g, w.before args s = true) (hRf : 1 ≤ R.frames) (hRl : 25 ≤ R.locals) (hce : ce ≤ R.cells) (hsl : sl ≤ R.slots) (hA : ∀ x, s.heap.size ≤ x → A x) (hK : va_K D wk_cl (tysW cA) s) (z : Sta) (K : Sta → Prop) (h : wp_O_flowThere z K) (hret : ∀ (u : Sta) (H : Heap) (locs : List Loc) (pc : Nat) (ls : Array Slot), K u → wk_S D q cA A s.heap u H locs → decode prog_3_method_12_code pc = .ok (.return_, 1) → W p l e R s m args below meth c H locs ce sl Q (F0 m pc ls [])) {H : Heap} {locs : List Loc} {ls : Array Slot} (hV : wk_S D q cA A s.heap z H locs) (hl : lv_has ls 4 [(0, .ref (q 2))]) : W p l e R s m args below meth c H locs ce sl Q (F0 m 0 ls []) := by
  have J138 : ∀ (z : Sta) (H : Heap) (locs : List Loc) (ls : Array Slot), wk_S D q cA A s.heap z H locs → lv_has ls 4 [] → pj_O_flowThere_138 K z → W p l e R s m args below meth c H locs ce sl Q (F0 m 138 ls []) := by
    intro z H locs ls hV hl h
    unfold pj_O_flowThere_138 at h
    exact hret z H locs 138 ls h hV kd_prog_3_method_12_code_138
  have L11 : ∀ (n : Nat) (x1 : Int32) (x2 : Int32) (z : Sta) (H : Heap) (locs : List Loc) (ls : Array Slot), wk_S D q cA A s.heap z H locs → lv_has ls 4 [(0, .ref (q 2)), (1, .int x1), (2, .int x2)] → lp_O_flowThere_11 K n x1 x2 z → W p l e R s m args below meth c H locs ce sl Q (F0 m 11 ls []) := by
    intro n11
    induction n11 with
    | zero => intro x1 x2 z H locs ls hV hl h; rw [lp_O_flowThere_11] at h; exact h.elim
    | succ n11 ih11 =>
      have L26 : ∀ (n : Nat) (x1 : Int32) (x2 : Int32) (x3 : Int32) (z : Sta) (H : Heap) (locs : List Loc) (ls : Array Slot), wk_S D q cA A s.heap z H locs → lv_has ls 4 [(0, .ref (q 2)), (1, .int x1), (2, .int x2), (3, .int x3)] → lp_O_flowThere_26 K (fun x1 x2 z => lp_O_flowThere_11 K n11 x1 x2 z) n x1 x2 x3 z → W p l e R s m args below meth c H locs ce sl Q (F0 m 26 ls []) := by
        intro n26
        induction n26 with
        | zero => intro x1 x2 x3 z H locs ls hV hl h; rw [lp_O_flowThere_26] at h; exact h.elim
        | succ n26 ih26 =>
          have J126 : ∀ (x1 : Int32) (x2 : Int32) (x3 : Int32) (z : Sta) (H : Heap) (locs : List Loc) (ls : Array Slot), wk_S D q cA A s.heap z H locs → lv_has ls 4 [(0, .ref (q 2)), (1, .int x1), (2, .int x2), (3, .int x3)] → pj_O_flowThere_126 K (fun x1 x2 x3 z => lp_O_flowThere_26 K (fun x1 x2 z => lp_O_flowThere_11 K n11 x1 x2 z) n26 x1 x2 x3 z) x1 x2 x3 z → W p l e R s m args below meth c H locs ce sl Q (F0 m 126 ls []) := by
            intro x1 x2 x3 z H locs ls hV hl h
            unfold pj_O_flowThere_126 at h
            obtain ⟨v20, ev20⟩ : ∃ v : Int32, v = x3 + 1 := ⟨_, rfl⟩
            have h := h v20 ev20
            refine lv_iinc (v := v20) (k := 3) hx hb kd_prog_3_method_12_code_126 hl rfl (by rw [ev20]; rfl) (by decide) rfl (fun ls hl => ?_)
            have hl : lv_has ls 4 [(3, .int v20), (0, .ref (q 2)), (1, .int x1), (2, .int x2)] := hl
            refine lv_goto (tgt := 26) hx hb kd_prog_3_method_12_code_129 (by decide) ?_
            exact ih26 x1 x2 v20 z H locs ls hV (lv_sub hl [1, 2, 3, 0] rfl) h
          intro x1 x2 x3 z H locs ls hV hl h
          rw [lp_O_flowThere_26] at h
          refine lv_iload_n hx hb kd_prog_3_method_12_code_26 rfl (lv_at hl 3 rfl) ?_
          refine lv_aload_n hx hb kd_prog_3_method_12_code_27 rfl (lv_at hl 0 rfl) ?_
          refine va_get (D := D) (ci := 2) (v := .ref (q 1)) (C := kr_O) (T := kt_O) (N := kn_O) hx hb hts ki_O hown hK hV.1 2 rfl rfl 0 (by decide) (hts _ hw_97) (fun _ h9 => h9) rfl kd_prog_3_method_12_code_28 ?_
          refine va_get (D := D) (ci := 1) (v := .int (z.1 2)) (C := kr_P) (T := kt_P) (N := kn_P) hx hb hts ki_P hown hK hV.1 1 rfl rfl 0 (by decide) (hts _ hw_32) (fun _ h9 => h9) rfl kd_prog_3_method_12_code_31 ?_
          refine lv_topi (fun v2 ev2 => ?_)
          have h := h v2 ev2
          refine lv_icmp_ge (tgt := 132) hx hb kd_prog_3_method_12_code_34 (by decide) (fun hc => ?_) (fun hc => ?_)
          · have h := h.1 hc
            obtain ⟨v3, ev3⟩ : ∃ v : Int32, v = x2 + 1 := ⟨_, rfl⟩
            have h := h v3 ev3
            refine lv_iinc (v := v3) (k := 2) hx hb kd_prog_3_method_12_code_132 hl rfl (by rw [ev3]; rfl) (by decide) rfl (fun ls hl => ?_)
            have hl : lv_has ls 4 [(2, .int v3), (0, .ref (q 2)), (1, .int x1), (3, .int x3)] := hl
            refine lv_goto (tgt := 11) hx hb kd_prog_3_method_12_code_135 (by decide) ?_
            exact ih11 x1 v3 z H locs ls hV (lv_sub hl [1, 2, 0] rfl) h
          · have h := h.2 hc
            refine lv_aload_n hx hb kd_prog_3_method_12_code_37 rfl (lv_at hl 0 rfl) ?_
            refine va_get (D := D) (ci := 2) (v := .ref (q 16)) (C := kr_O) (T := kt_O) (N := kn_O) hx hb hts ki_O hown hK hV.1 2 rfl rfl 1 (by decide) (hts _ hw_98) (fun _ h9 => h9) rfl kd_prog_3_method_12_code_38 ?_
            refine lv_iload_n hx hb kd_prog_3_method_12_code_41 rfl (lv_at hl 3 rfl) ?_
            obtain ⟨hin, h⟩ := h
            refine va_zald hx hb hK hV.1 16 11 rfl rfl hin kd_prog_3_method_12_code_42 ?_
            refine lv_topi (fun v4 ev4 => ?_)
            have h := h v4 ev4
            refine lv_if_eq (tgt := 126) hx hb kd_prog_3_method_12_code_43 (by decide) (fun hc => ?_) (fun hc => ?_)
            · have h := h.1 hc
              exact J126 x1 x2 x3 z H locs ls hV (lv_sub hl [0, 1, 2, 3] rfl) h
            · have h := h.2 hc
              refine lv_aload_n hx hb kd_prog_3_method_12_code_46 rfl (lv_at hl 0 rfl) ?_
              refine va_get (D := D) (ci := 2) (v := .ref (q 21)) (C := kr_O) (T := kt_O) (N := kn_O) hx hb hts ki_O hown hK hV.1 2 rfl rfl 6 (by decide) (hts _ hw_103) (fun _ h9 => h9) rfl kd_prog_3_method_12_code_47 ?_
              refine lv_iload_n hx hb kd_prog_3_method_12_code_50 rfl (lv_at hl 3 rfl) ?_
              refine lv_aload_n hx hb kd_prog_3_method_12_code_51 rfl (lv_at hl 0 rfl) ?_
              refine va_get (D := D) (ci := 2) (v := .ref (q 19)) (C := kr_O) (T := kt_O) (N := kn_O) hx hb hts ki_O hown hK hV.1 2 rfl rfl 4 (by decide) (hts _ hw_101) (fun _ h9 => h9) rfl kd_prog_3_method_12_code_52 ?_
              refine lv_iload_n hx hb kd_prog_3_method_12_code_55 rfl (lv_at hl 3 rfl) ?_
              obtain ⟨hin, h⟩ := h
              refine va_lald hx hb hK hV.1 19 14 rfl rfl hin kd_prog_3_method_12_code_56 ?_
              refine lv_topl (fun v5 ev5 => ?_)
              have h := h v5 ev5
              refine lv_aload_n hx hb kd_prog_3_method_12_code_57 rfl (lv_at hl 0 rfl) ?_
              refine va_get (D := D) (ci := 2) (v := .ref (q 20)) (C := kr_O) (T := kt_O) (N := kn_O) hx hb hts ki_O hown hK hV.1 2 rfl rfl 5 (by decide) (hts _ hw_102) (fun _ h9 => h9) rfl kd_prog_3_method_12_code_58 ?_
              refine lv_iload_n hx hb kd_prog_3_method_12_code_61 rfl (lv_at hl 3 rfl) ?_
              obtain ⟨hin, h⟩ := h
              refine va_lald hx hb hK hV.1 20 15 rfl rfl hin kd_prog_3_method_12_code_62 ?_
              refine lv_topl (fun v6 ev6 => ?_)
              have h := h v6 ev6
              refine lv_aload_n hx hb kd_prog_3_method_12_code_63 rfl (lv_at hl 0 rfl) ?_
              refine va_get (D := D) (ci := 2) (v := .ref (q 17)) (C := kr_O) (T := kt_O) (N := kn_O) hx hb hts ki_O hown hK hV.1 2 rfl rfl 2 (by decide) (hts _ hw_99) (fun _ h9 => h9) rfl kd_prog_3_method_12_code_64 ?_
              refine lv_iload_n hx hb kd_prog_3_method_12_code_67 rfl (lv_at hl 3 rfl) ?_
              obtain ⟨hin, h⟩ := h
              refine va_lald hx hb hK hV.1 17 12 rfl rfl hin kd_prog_3_method_12_code_68 ?_
              refine lv_topl (fun v7 ev7 => ?_)
              have h := h v7 ev7
              refine lv_ldc2 (v := (-1)) hx hb hown (hts _ hw_395) kd_prog_3_method_12_code_69 ?_
              refine lv_lxor hx hb kd_prog_3_method_12_code_72 ?_
              refine lv_topl (fun v8 ev8 => ?_)
              have h := h v8 ev8
              refine lv_land hx hb kd_prog_3_method_12_code_73 ?_
              refine lv_topl (fun v9 ev9 => ?_)
              have h := h v9 ev9
              refine lv_lor hx hb kd_prog_3_method_12_code_74 ?_
              refine lv_topl (fun v10 ev10 => ?_)
              have h := h v10 ev10
              obtain ⟨hin, h⟩ := h
              refine wk_last hx hb hK hV 21 16 5 rfl rfl (ks_21 q cA z) hin kd_prog_3_method_12_code_75 (fun H locs hV => ?_)
              obtain ⟨z11, ez11⟩ : ∃ x : Sta, x = zL z 5 (vp_updL (z.2.2 5) x3.toNatClampNeg v10) := ⟨_, rfl⟩
              rw [← ez11] at hV
              have h := h z11 ez11
              refine lv_iload_n hx hb kd_prog_3_method_12_code_76 rfl (lv_at hl 1 rfl) ?_
              refine lv_aload_n hx hb kd_prog_3_method_12_code_77 rfl (lv_at hl 0 rfl) ?_
              refine va_get (D := D) (ci := 2) (v := .ref (q 20)) (C := kr_O) (T := kt_O) (N := kn_O) hx hb hts ki_O hown hK hV.1 2 rfl rfl 5 (by decide) (hts _ hw_102) (fun _ h9 => h9) rfl kd_prog_3_method_12_code_78 ?_
              refine lv_aload_n hx hb kd_prog_3_method_12_code_81 rfl (lv_at hl 0 rfl) ?_
              refine va_get (D := D) (ci := 2) (v := .ref (q 1)) (C := kr_O) (T := kt_O) (N := kn_O) hx hb hts ki_O hown hK hV.1 2 rfl rfl 0 (by decide) (hts _ hw_97) (fun _ h9 => h9) rfl kd_prog_3_method_12_code_82 ?_
              refine va_get (D := D) (ci := 1) (v := .ref (q 10)) (C := kr_P) (T := kt_P) (N := kn_P) hx hb hts ki_P hown hK hV.1 1 rfl rfl 7 (by decide) (hts _ hw_53) (fun _ h9 => h9) rfl kd_prog_3_method_12_code_85 ?_
              refine lv_iload_n hx hb kd_prog_3_method_12_code_88 rfl (lv_at hl 3 rfl) ?_
              obtain ⟨hin, h⟩ := h
              refine va_iald hx hb hK hV.1 10 5 rfl rfl hin kd_prog_3_method_12_code_89 ?_
              refine lv_topi (fun v12 ev12 => ?_)
              have h := h v12 ev12
              refine lv_aload_n hx hb kd_prog_3_method_12_code_90 rfl (lv_at hl 0 rfl) ?_
              refine va_get (D := D) (ci := 2) (v := .ref (q 21)) (C := kr_O) (T := kt_O) (N := kn_O) hx hb hts ki_O hown hK hV.1 2 rfl rfl 6 (by decide) (hts _ hw_103) (fun _ h9 => h9) rfl kd_prog_3_method_12_code_91 ?_
              refine lv_iload_n hx hb kd_prog_3_method_12_code_94 rfl (lv_at hl 3 rfl) ?_
              obtain ⟨hin, h⟩ := h
              refine va_lald hx hb hK hV.1 21 16 rfl rfl hin kd_prog_3_method_12_code_95 ?_
              refine lv_topl (fun v13 ev13 => ?_)
              have h := h v13 ev13
              refine wk_calli (va_runS (As := [.ref (q 20), .int v12, .long v13]) (rest := [.int x1]) ⟨hx, hb, hml, hown, hts⟩ (c_O_narrow_20 l D q cA v12 v13 z11 H.size _ h) (cwS 3 hts gs_O_116 rfl rfl rfl (by decide +kernel) ⟨Nat.le_trans (by decide) hRf, Nat.le_trans (by decide) hRl⟩) (wk_preS hK hV [.ref (q 20), .int v12, .long v13]) rfl rfl hl.1 rfl (lv_room (Nat.le_of_ble_eq_true rfl)) kd_prog_3_method_12_code_96 ⟨hce, hsl⟩) hV hA (fun rz14 z14 H locs h hV => ?_)
              refine lv_ior hx hb kd_prog_3_method_12_code_99 ?_
              refine lv_topi (fun v15 ev15 => ?_)
              have h := h v15 ev15
              refine lv_istore_n hx hb kd_prog_3_method_12_code_100 rfl hl (by decide) rfl (fun ls hl => ?_)
              have hl : lv_has ls 4 [(1, .int v15), (0, .ref (q 2)), (2, .int x2), (3, .int x3)] := hl
              refine lv_iload_n hx hb kd_prog_3_method_12_code_101 rfl (lv_at hl 0 rfl) ?_
              refine lv_aload_n hx hb kd_prog_3_method_12_code_102 rfl (lv_at hl 1 rfl) ?_
              refine va_get (D := D) (ci := 2) (v := .ref (q 20)) (C := kr_O) (T := kt_O) (N := kn_O) hx hb hts ki_O hown hK hV.1 2 rfl rfl 5 (by decide) (hts _ hw_102) (fun _ h9 => h9) rfl kd_prog_3_method_12_code_103 ?_
              refine lv_aload_n hx hb kd_prog_3_method_12_code_106 rfl (lv_at hl 1 rfl) ?_
              refine va_get (D := D) (ci := 2) (v := .ref (q 1)) (C := kr_O) (T := kt_O) (N := kn_O) hx hb hts ki_O hown hK hV.1 2 rfl rfl 0 (by decide) (hts _ hw_97) (fun _ h9 => h9) rfl kd_prog_3_method_12_code_107 ?_
              refine va_get (D := D) (ci := 1) (v := .ref (q 11)) (C := kr_P) (T := kt_P) (N := kn_P) hx hb hts ki_P hown hK hV.1 1 rfl rfl 8 (by decide) (hts _ hw_56) (fun _ h9 => h9) rfl kd_prog_3_method_12_code_110 ?_
              refine lv_iload_n hx hb kd_prog_3_method_12_code_113 rfl (lv_at hl 3 rfl) ?_
              obtain ⟨hin, h⟩ := h
              refine va_iald hx hb hK hV.1 11 6 rfl rfl hin kd_prog_3_method_12_code_114 ?_
              refine lv_topi (fun v16 ev16 => ?_)
              have h := h v16 ev16
              refine lv_aload_n hx hb kd_prog_3_method_12_code_115 rfl (lv_at hl 1 rfl) ?_
              refine va_get (D := D) (ci := 2) (v := .ref (q 21)) (C := kr_O) (T := kt_O) (N := kn_O) hx hb hts ki_O hown hK hV.1 2 rfl rfl 6 (by decide) (hts _ hw_103) (fun _ h9 => h9) rfl kd_prog_3_method_12_code_116 ?_
              refine lv_iload_n hx hb kd_prog_3_method_12_code_119 rfl (lv_at hl 3 rfl) ?_
              obtain ⟨hin, h⟩ := h
              refine va_lald hx hb hK hV.1 21 16 rfl rfl hin kd_prog_3_method_12_code_120 ?_
              refine lv_topl (fun v17 ev17 => ?_)
              have h := h v17 ev17
              refine wk_calli (va_runS (As := [.ref (q 20), .int v16, .long v17]) (rest := [.int v15]) ⟨hx, hb, hml, hown, hts⟩ (c_O_narrow_20 l D q cA v16 v17 z14 H.size _ h) (cwS 3 hts gs_O_116 rfl rfl rfl (by decide +kernel) ⟨Nat.le_trans (by decide) hRf, Nat.le_trans (by decide) hRl⟩) (wk_preS hK hV [.ref (q 20), .int v16, .long v17]) rfl rfl hl.1 rfl (lv_room (Nat.le_of_ble_eq_true rfl)) kd_prog_3_method_12_code_121 ⟨hce, hsl⟩) hV hA (fun rz18 z18 H locs h hV => ?_)
              refine lv_ior hx hb kd_prog_3_method_12_code_124 ?_
              refine lv_topi (fun v19 ev19 => ?_)
              have h := h v19 ev19
              refine lv_istore_n hx hb kd_prog_3_method_12_code_125 rfl hl (by decide) rfl (fun ls hl => ?_)
              have hl : lv_has ls 4 [(1, .int v19), (0, .ref (q 2)), (2, .int x2), (3, .int x3)] := hl
              exact J126 v19 x2 x3 z18 H locs ls hV (lv_sub hl [1, 0, 2, 3] rfl) h
      intro x1 x2 z H locs ls hV hl h
      rw [lp_O_flowThere_11] at h
      refine lv_iload_n hx hb kd_prog_3_method_12_code_11 rfl (lv_at hl 1 rfl) ?_
      refine lv_if_eq (tgt := 138) hx hb kd_prog_3_method_12_code_12 (by decide) (fun hc => ?_) (fun hc => ?_)
      · have h := h.1 hc
        exact J138 z H locs ls hV (lv_sub hl [] rfl) h
      · have h := h.2 hc
        refine lv_iload_n hx hb kd_prog_3_method_12_code_15 rfl (lv_at hl 2 rfl) ?_
        refine lv_sipush (v := 385) hx hb kd_prog_3_method_12_code_16 (by decide) ?_
        refine lv_icmp_ge (tgt := 138) hx hb kd_prog_3_method_12_code_19 (by decide) (fun hc => ?_) (fun hc => ?_)
        · have h := h.1 hc
          exact J138 z H locs ls hV (lv_sub hl [] rfl) h
        · have h := h.2 hc
          refine lv_iconst (v := 0) hx hb kd_prog_3_method_12_code_22 (by decide) ?_
          refine lv_istore_n hx hb kd_prog_3_method_12_code_23 rfl hl (by decide) rfl (fun ls hl => ?_)
          have hl : lv_has ls 4 [(1, .int 0), (0, .ref (q 2)), (2, .int x2)] := hl
          refine lv_iconst (v := 0) hx hb kd_prog_3_method_12_code_24 (by decide) ?_
          refine lv_istore_n hx hb kd_prog_3_method_12_code_25 rfl hl (by decide) rfl (fun ls hl => ?_)
          have hl : lv_has ls 4 [(3, .int 0), (1, .int 0), (0, .ref (q 2)), (2, .int x2)] := hl
          obtain ⟨n26, h⟩ := h
          exact L26 n26 0 x2 0 z H locs ls hV (lv_sub hl [2, 1, 3, 0] rfl) h
  unfold wp_O_flowThere at h
  refine lv_aload_n hx hb kd_prog_3_method_12_code_0 rfl (lv_at hl 0 rfl) ?_
  refine va_get (D := D) (ci := 2) (v := .ref (q 20)) (C := kr_O) (T := kt_O) (N := kn_O) hx hb hts ki_O hown hK hV.1 2 rfl rfl 5 (by decide) (hts _ hw_102) (fun _ h9 => h9) rfl kd_prog_3_method_12_code_1 ?_
  refine lv_iconst (v := 0) hx hb kd_prog_3_method_12_code_4 (by decide) ?_
  refine lv_lconst (v := 0) hx hb kd_prog_3_method_12_code_5 (by decide) ?_
  obtain ⟨hin, h⟩ := h
  refine wk_last hx hb hK hV 20 15 4 rfl rfl (ks_20 q cA z) hin kd_prog_3_method_12_code_6 (fun H locs hV => ?_)
  obtain ⟨z1, ez1⟩ : ∃ x : Sta, x = zL z 4 (vp_updL (z.2.2 4) (0 : Int32).toNatClampNeg (0 : Int64)) := ⟨_, rfl⟩
  rw [← ez1] at hV
  have h := h z1 ez1
  refine lv_iconst (v := 1) hx hb kd_prog_3_method_12_code_7 (by decide) ?_
  refine lv_istore_n hx hb kd_prog_3_method_12_code_8 rfl hl (by decide) rfl (fun ls hl => ?_)
  have hl : lv_has ls 4 [(1, .int 1), (0, .ref (q 2))] := hl
  refine lv_iconst (v := 0) hx hb kd_prog_3_method_12_code_9 (by decide) ?_
  refine lv_istore_n hx hb kd_prog_3_method_12_code_10 rfl hl (by decide) rfl (fun ls hl => ?_)
  have hl : lv_has ls 4 [(2, .int 0), (1, .int 1), (0, .ref (q 2))] := hl
  obtain ⟨n11, h⟩ := h
  exact L11 n11 1 0 z1 H locs ls hV (lv_sub hl [2, 1, 0] rfl) h
end
set_option maxHeartbeats 4000000 in
set_option maxRecDepth 100000 in
theorem c_O_flowThere (l : Launch) (D : va_G) (q : Nat → Nat) (cA : Nat → ClassId) (z : Sta) (sz : Nat) (K : Sta → Prop) (h : wp_O_flowThere z K) : Met l ke_O_flowThere (kc_O_flowThere :: lw_g) { frames := 1, cells := 0, slots := 0, locals := 25 } (wk_Pc D q cA [.ref (q 2)] z sz) (va_Qv K (wk_B D q cA (va_A (wW q cA z) sz)) (va_A (wW q cA z) sz)) 0 0 (va_A (wW q cA z) sz) := by
  refine Met.ofW (cc := prog_3_method_12_code) (maxL := 4) (ret := none) (by decide) rfl ?_
  intro p e s m args below meth c s₁ B hml hv
  obtain ⟨rfl, hsz, hP, hK, hD0⟩ := hv
  have hx := B.exec
  have hb := B.bytes
  have hr := B.returns
  have hlocks := B.notSynchronized
  have hts0 := atoms_spec (ws := kc_O_flowThere :: lw_g) B.pre
  have hts : ∀ w ∈ lw_g, w.before ([.ref (q 2)] : List Value).toArray s = true := fun w hw => hts0 w (List.mem_cons_of_mem _ hw)
  have hown : s.vm.findClass kr_O = some m.cls := findClass_of_methodNamed B.named
  subst hsz
  have hD := hD0.self (sz := s.heap.size)
  generalize hAe : va_A (wW q cA z) s.heap.size = A at hD ⊢
  have hA : ∀ x : Nat, s.heap.size ≤ x → A x := fun x hx => by rw [← hAe]; exact Or.inr hx
  have hl := lv_entry ([.ref (q 2)]) (n := 4) (Nat.le_of_ble_eq_true rfl)
  rw [lg_entry_eq]
  generalize (lg_sl ([.ref (q 2)]) ++ List.replicate (4 - (lg_sl ([.ref (q 2)])).length) Slot.unset).toArray = ls at hl ⊢
  have hl : lv_has ls 4 [(0, .ref (q 2))] := hl
  exact w_O_flowThere hx hb hml hown hts (Nat.le_refl _) (Nat.le_refl _) (Nat.zero_le _) (Nat.zero_le _) hA hK z K h (fun u H locs pc ls hk hV hd => W.vret hx hb hr (fun t ht hW => ⟨⟨u, rfl, hk, by rw [ht]; exact hV.1, va_K.moved hW.alike hK, hV.2.1⟩, hV.2.2.F ht⟩) hV.2.2.2.2 hd) ⟨hP, hD, va_S.rf⟩ hl
section
variable {p : Program} {l : Launch} {e : Env} {R : Room} {s : State} {m : MethodId} {args : Array Value} {below : List Frame} {meth : Method} {c : Code} {Q : State → Prop} {ce sl : Nat} {D : va_G} {q : Nat → Nat} {cA : Nat → ClassId} {A : Nat → Prop}
set_option maxHeartbeats 4000000 in
set_option maxRecDepth 100000 in
theorem w_O_wantedByAll (hx : p.tables.exec = Jvm.exec) (hb : c.code = prog_3_method_14_code) (hml : c.maxLocals = 3) (hown : s.vm.findClass kr_O = some m.cls) (hts : ∀ w ∈ lw_g, w.before args s = true) (hRf : 0 ≤ R.frames) (hRl : 0 ≤ R.locals) (hce : ce ≤ R.cells) (hsl : sl ≤ R.slots) (hA : ∀ x, s.heap.size ≤ x → A x) (hK : va_K D wk_cl (tysW cA) s) (x1 : Int32) (x2 : Int32) (z : Sta) (K : Int64 → Sta → Prop) (h : wp_O_wantedByAll x1 x2 z K) (hret : ∀ (r : Int64) (u : Sta) (H : Heap) (locs : List Loc) (pc : Nat) (ls : Array Slot), K r u → wk_S D q cA A s.heap u H locs → decode prog_3_method_14_code pc = .ok (.lreturn, 1) → W p l e R s m args below meth c H locs ce sl Q (F0 m pc ls [.long r])) {H : Heap} {locs : List Loc} {ls : Array Slot} (hV : wk_S D q cA A s.heap z H locs) (hl : lv_has ls 3 [(0, .ref (q 2)), (1, .int x1), (2, .int x2)]) : W p l e R s m args below meth c H locs ce sl Q (F0 m 0 ls []) := by
  have J10 : ∀ (z : Sta) (H : Heap) (locs : List Loc) (ls : Array Slot), wk_S D q cA A s.heap z H locs → lv_has ls 3 [] → pj_O_wantedByAll_10 K z → W p l e R s m args below meth c H locs ce sl Q (F0 m 10 ls []) := by
    intro z H locs ls hV hl h
    unfold pj_O_wantedByAll_10 at h
    refine lv_lconst (v := 0) hx hb kd_prog_3_method_14_code_10 (by decide) ?_
    exact hret 0 z H locs 11 ls h hV kd_prog_3_method_14_code_11
  unfold wp_O_wantedByAll at h
  refine lv_iload_n hx hb kd_prog_3_method_14_code_0 rfl (lv_at hl 1 rfl) ?_
  refine lv_iconst (v := (-1)) hx hb kd_prog_3_method_14_code_1 (by decide) ?_
  refine lv_icmp_eq (tgt := 10) hx hb kd_prog_3_method_14_code_2 (by decide) (fun hc => ?_) (fun hc => ?_)
  · have h := h.1 hc
    exact J10 z H locs ls hV (lv_sub hl [] rfl) h
  · have h := h.2 hc
    refine lv_iload_n hx hb kd_prog_3_method_14_code_5 rfl (lv_at hl 2 rfl) ?_
    refine lv_iconst (v := (-1)) hx hb kd_prog_3_method_14_code_6 (by decide) ?_
    refine lv_icmp_ne (tgt := 12) hx hb kd_prog_3_method_14_code_7 (by decide) (fun hc => ?_) (fun hc => ?_)
    · have h := h.1 hc
      refine lv_aload_n hx hb kd_prog_3_method_14_code_12 rfl (lv_at hl 0 rfl) ?_
      refine va_get (D := D) (ci := 2) (v := .ref (q 22)) (C := kr_O) (T := kt_O) (N := kn_O) hx hb hts ki_O hown hK hV.1 2 rfl rfl 7 (by decide) (hts _ hw_104) (fun _ h9 => h9) rfl kd_prog_3_method_14_code_13 ?_
      refine lv_iload_n hx hb kd_prog_3_method_14_code_16 rfl (lv_at hl 1 rfl) ?_
      obtain ⟨hin, h⟩ := h
      refine va_lald hx hb hK hV.1 22 17 rfl rfl hin kd_prog_3_method_14_code_17 ?_
      refine lv_topl (fun v1 ev1 => ?_)
      have h := h v1 ev1
      refine lv_aload_n hx hb kd_prog_3_method_14_code_18 rfl (lv_at hl 0 rfl) ?_
      refine va_get (D := D) (ci := 2) (v := .ref (q 22)) (C := kr_O) (T := kt_O) (N := kn_O) hx hb hts ki_O hown hK hV.1 2 rfl rfl 7 (by decide) (hts _ hw_104) (fun _ h9 => h9) rfl kd_prog_3_method_14_code_19 ?_
      refine lv_iload_n hx hb kd_prog_3_method_14_code_22 rfl (lv_at hl 2 rfl) ?_
      obtain ⟨hin, h⟩ := h
      refine va_lald hx hb hK hV.1 22 17 rfl rfl hin kd_prog_3_method_14_code_23 ?_
      refine lv_topl (fun v2 ev2 => ?_)
      have h := h v2 ev2
      refine lv_land hx hb kd_prog_3_method_14_code_24 ?_
      refine lv_topl (fun v3 ev3 => ?_)
      have h := h v3 ev3
      exact hret v3 z H locs 25 ls h hV kd_prog_3_method_14_code_25
    · have h := h.2 hc
      exact J10 z H locs ls hV (lv_sub hl [] rfl) h
end
set_option maxHeartbeats 4000000 in
set_option maxRecDepth 100000 in
theorem c_O_wantedByAll (l : Launch) (D : va_G) (q : Nat → Nat) (cA : Nat → ClassId) (x1 : Int32) (x2 : Int32) (z : Sta) (sz : Nat) (K : Int64 → Sta → Prop) (h : wp_O_wantedByAll x1 x2 z K) : Met l ke_O_wantedByAll (kc_O_wantedByAll :: lw_g) { frames := 0, cells := 0, slots := 0, locals := 0 } (wk_Pc D q cA [.ref (q 2), .int x1, .int x2] z sz) (va_Ql K (wk_B D q cA (va_A (wW q cA z) sz)) (va_A (wW q cA z) sz)) 0 0 (va_A (wW q cA z) sz) := by
  refine Met.ofW (cc := prog_3_method_14_code) (maxL := 3) (ret := (some .long)) (by decide) rfl ?_
  intro p e s m args below meth c s₁ B hml hv
  obtain ⟨rfl, hsz, hP, hK, hD0⟩ := hv
  have hx := B.exec
  have hb := B.bytes
  have hr := B.returns
  have hlocks := B.notSynchronized
  have hts0 := atoms_spec (ws := kc_O_wantedByAll :: lw_g) B.pre
  have hts : ∀ w ∈ lw_g, w.before ([.ref (q 2), .int x1, .int x2] : List Value).toArray s = true := fun w hw => hts0 w (List.mem_cons_of_mem _ hw)
  have hown : s.vm.findClass kr_O = some m.cls := findClass_of_methodNamed B.named
  subst hsz
  have hD := hD0.self (sz := s.heap.size)
  generalize hAe : va_A (wW q cA z) s.heap.size = A at hD ⊢
  have hA : ∀ x : Nat, s.heap.size ≤ x → A x := fun x hx => by rw [← hAe]; exact Or.inr hx
  have hl := lv_entry ([.ref (q 2), .int x1, .int x2]) (n := 3) (Nat.le_of_ble_eq_true rfl)
  rw [lg_entry_eq]
  generalize (lg_sl ([.ref (q 2), .int x1, .int x2]) ++ List.replicate (3 - (lg_sl ([.ref (q 2), .int x1, .int x2])).length) Slot.unset).toArray = ls at hl ⊢
  have hl : lv_has ls 3 [(0, .ref (q 2)), (1, .int x1), (2, .int x2)] := hl
  exact w_O_wantedByAll hx hb hml hown hts (Nat.le_refl _) (Nat.le_refl _) (Nat.zero_le _) (Nat.zero_le _) hA hK x1 x2 z K h (fun r u H locs pc ls hk hV hd => W.lret hx hb hr (fun t ht hW => ⟨⟨r, u, rfl, hk, by rw [ht]; exact hV.1, va_K.moved hW.alike hK, hV.2.1⟩, hV.2.2.F ht⟩) hV.2.2.2.2 hd) ⟨hP, hD, va_S.rf⟩ hl
section
variable {p : Program} {l : Launch} {e : Env} {R : Room} {s : State} {m : MethodId} {args : Array Value} {below : List Frame} {meth : Method} {c : Code} {Q : State → Prop} {ce sl : Nat} {D : va_G} {q : Nat → Nat} {cA : Nat → ClassId} {A : Nat → Prop}
set_option maxHeartbeats 4000000 in
set_option maxRecDepth 100000 in
theorem w_O_narrow_22 (hx : p.tables.exec = Jvm.exec) (hb : c.code = prog_3_method_17_code) (hml : c.maxLocals = 6) (hown : s.vm.findClass kr_O = some m.cls) (hts : ∀ w ∈ lw_g, w.before args s = true) (hRf : 0 ≤ R.frames) (hRl : 0 ≤ R.locals) (hce : ce ≤ R.cells) (hsl : sl ≤ R.slots) (hA : ∀ x, s.heap.size ≤ x → A x) (hK : va_K D wk_cl (tysW cA) s) (x1 : Int32) (x2 : Int64) (z : Sta) (K : Int32 → Sta → Prop) (h : wp_O_narrow_22 x1 x2 z K) (hret : ∀ (r : Int32) (u : Sta) (H : Heap) (locs : List Loc) (pc : Nat) (ls : Array Slot), K r u → (r = 0 ∨ r = 1) → wk_S D q cA A s.heap u H locs → decode prog_3_method_17_code pc = .ok (.ireturn, 1) → W p l e R s m args below meth c H locs ce sl Q (F0 m pc ls [.int r])) {H : Heap} {locs : List Loc} {ls : Array Slot} (hV : wk_S D q cA A s.heap z H locs) (hl : lv_has ls 6 [(0, .ref (q 22)), (1, .int x1), (2, .long x2)]) : W p l e R s m args below meth c H locs ce sl Q (F0 m 0 ls []) := by
  have J33 : ∀ (y0 : Int32) (z : Sta) (H : Heap) (locs : List Loc) (ls : Array Slot), wk_S D q cA A s.heap z H locs → lv_has ls 6 [] → pj_O_narrow_22_33 K y0 z → W p l e R s m args below meth c H locs ce sl Q (F0 m 33 ls [.int y0]) := by
    intro y0 z H locs ls hV hl h
    unfold pj_O_narrow_22_33 at h
    obtain ⟨hz, h⟩ := h
    exact hret y0 z H locs 33 ls h hz hV kd_prog_3_method_17_code_33
  unfold wp_O_narrow_22 at h
  refine lv_iload_n hx hb kd_prog_3_method_17_code_0 rfl (lv_at hl 1 rfl) ?_
  refine lv_iconst (v := (-1)) hx hb kd_prog_3_method_17_code_1 (by decide) ?_
  refine lv_icmp_ne (tgt := 7) hx hb kd_prog_3_method_17_code_2 (by decide) (fun hc => ?_) (fun hc => ?_)
  · have h := h.1 hc
    refine lv_aload_n hx hb kd_prog_3_method_17_code_7 rfl (lv_at hl 0 rfl) ?_
    refine lv_iload_n hx hb kd_prog_3_method_17_code_8 rfl (lv_at hl 1 rfl) ?_
    obtain ⟨hin, h⟩ := h
    refine va_lald hx hb hK hV.1 22 17 rfl rfl hin kd_prog_3_method_17_code_9 ?_
    refine lv_topl (fun v1 ev1 => ?_)
    have h := h v1 ev1
    refine lv_lstore hx hb kd_prog_3_method_17_code_10 hl (by decide) rfl (fun ls hl => ?_)
    have hl : lv_has ls 6 [(4, .long v1), (0, .ref (q 22)), (1, .int x1), (2, .long x2)] := hl
    refine lv_aload_n hx hb kd_prog_3_method_17_code_12 rfl (lv_at hl 1 rfl) ?_
    refine lv_iload_n hx hb kd_prog_3_method_17_code_13 rfl (lv_at hl 2 rfl) ?_
    refine lv_lload hx hb kd_prog_3_method_17_code_14 (lv_at hl 0 rfl) ?_
    refine lv_lload_n hx hb kd_prog_3_method_17_code_16 rfl (lv_at hl 3 rfl) ?_
    refine lv_land hx hb kd_prog_3_method_17_code_17 ?_
    refine lv_topl (fun v2 ev2 => ?_)
    have h := h v2 ev2
    obtain ⟨hin, h⟩ := h
    refine wk_last hx hb hK hV 22 17 6 rfl rfl (ks_22 q cA z) hin kd_prog_3_method_17_code_18 (fun H locs hV => ?_)
    obtain ⟨z3, ez3⟩ : ∃ x : Sta, x = zL z 6 (vp_updL (z.2.2 6) x1.toNatClampNeg v2) := ⟨_, rfl⟩
    rw [← ez3] at hV
    have h := h z3 ez3
    refine lv_aload_n hx hb kd_prog_3_method_17_code_19 rfl (lv_at hl 1 rfl) ?_
    refine lv_iload_n hx hb kd_prog_3_method_17_code_20 rfl (lv_at hl 2 rfl) ?_
    obtain ⟨hin, h⟩ := h
    refine va_lald hx hb hK hV.1 22 17 rfl rfl hin kd_prog_3_method_17_code_21 ?_
    refine lv_topl (fun v4 ev4 => ?_)
    have h := h v4 ev4
    refine lv_lload hx hb kd_prog_3_method_17_code_22 (lv_at hl 0 rfl) ?_
    refine W.lcmp hx hb kd_prog_3_method_17_code_24 ?_
    refine lv_topi (fun v5 ev5 => ?_)
    have h := h v5 ev5
    refine lv_if_eq (tgt := 32) hx hb kd_prog_3_method_17_code_25 (by decide) (fun hc => ?_) (fun hc => ?_)
    · have h := h.1 hc
      refine lv_iconst (v := 0) hx hb kd_prog_3_method_17_code_32 (by decide) ?_
      exact J33 0 z3 H locs ls hV (lv_sub hl [] rfl) h
    · have h := h.2 hc
      refine lv_iconst (v := 1) hx hb kd_prog_3_method_17_code_28 (by decide) ?_
      refine lv_goto (tgt := 33) hx hb kd_prog_3_method_17_code_29 (by decide) ?_
      exact J33 1 z3 H locs ls hV (lv_sub hl [] rfl) h
  · have h := h.2 hc
    refine lv_iconst (v := 0) hx hb kd_prog_3_method_17_code_5 (by decide) ?_
    obtain ⟨hz, h⟩ := h
    exact hret 0 z H locs 6 ls h hz hV kd_prog_3_method_17_code_6
end
set_option maxHeartbeats 4000000 in
set_option maxRecDepth 100000 in
theorem c_O_narrow_22 (l : Launch) (D : va_G) (q : Nat → Nat) (cA : Nat → ClassId) (x1 : Int32) (x2 : Int64) (z : Sta) (sz : Nat) (K : Int32 → Sta → Prop) (h : wp_O_narrow_22 x1 x2 z K) : Met l ke_O_narrow (kc_O_narrow :: lw_g) { frames := 0, cells := 0, slots := 0, locals := 0 } (wk_Pc D q cA [.ref (q 22), .int x1, .long x2] z sz) (va_Qi K (wk_B D q cA (va_A (wW q cA z) sz)) (va_A (wW q cA z) sz)) 0 0 (va_A (wW q cA z) sz) := by
  refine Met.ofW (cc := prog_3_method_17_code) (maxL := 6) (ret := (some .boolean)) (by decide) rfl ?_
  intro p e s m args below meth c s₁ B hml hv
  obtain ⟨rfl, hsz, hP, hK, hD0⟩ := hv
  have hx := B.exec
  have hb := B.bytes
  have hr := B.returns
  have hlocks := B.notSynchronized
  have hts0 := atoms_spec (ws := kc_O_narrow :: lw_g) B.pre
  have hts : ∀ w ∈ lw_g, w.before ([.ref (q 22), .int x1, .long x2] : List Value).toArray s = true := fun w hw => hts0 w (List.mem_cons_of_mem _ hw)
  have hown : s.vm.findClass kr_O = some m.cls := findClass_of_methodNamed B.named
  subst hsz
  have hD := hD0.self (sz := s.heap.size)
  generalize hAe : va_A (wW q cA z) s.heap.size = A at hD ⊢
  have hA : ∀ x : Nat, s.heap.size ≤ x → A x := fun x hx => by rw [← hAe]; exact Or.inr hx
  have hl := lv_entry ([.ref (q 22), .int x1, .long x2]) (n := 6) (Nat.le_of_ble_eq_true rfl)
  rw [lg_entry_eq]
  generalize (lg_sl ([.ref (q 22), .int x1, .long x2]) ++ List.replicate (6 - (lg_sl ([.ref (q 22), .int x1, .long x2])).length) Slot.unset).toArray = ls at hl ⊢
  have hl : lv_has ls 6 [(0, .ref (q 22)), (1, .int x1), (2, .long x2)] := hl
  exact w_O_narrow_22 hx hb hml hown hts (Nat.le_refl _) (Nat.le_refl _) (Nat.zero_le _) (Nat.zero_le _) hA hK x1 x2 z K h (fun r u H locs pc ls hk hz hV hd => W.zret (ty := .boolean) hx hb hr (by rcases hz with rfl | rfl <;> rfl) (fun t ht hW => ⟨⟨r, u, rfl, hk, by rw [ht]; exact hV.1, va_K.moved hW.alike hK, hV.2.1⟩, hV.2.2.F ht⟩) hV.2.2.2.2 hd) ⟨hP, hD, va_S.rf⟩ hl
section
variable {p : Program} {l : Launch} {e : Env} {R : Room} {s : State} {m : MethodId} {args : Array Value} {below : List Frame} {meth : Method} {c : Code} {Q : State → Prop} {ce sl : Nat} {D : va_G} {q : Nat → Nat} {cA : Nat → ClassId} {A : Nat → Prop}
set_option maxHeartbeats 4000000 in
set_option maxRecDepth 100000 in
theorem w_O_flowWanted (hx : p.tables.exec = Jvm.exec) (hb : c.code = prog_3_method_13_code) (hml : c.maxLocals = 4) (hown : s.vm.findClass kr_O = some m.cls) (hts : ∀ w ∈ lw_g, w.before args s = true) (hRf : 1 ≤ R.frames) (hRl : 25 ≤ R.locals) (hce : ce ≤ R.cells) (hsl : sl ≤ R.slots) (hA : ∀ x, s.heap.size ≤ x → A x) (hK : va_K D wk_cl (tysW cA) s) (z : Sta) (K : Sta → Prop) (h : wp_O_flowWanted z K) (hret : ∀ (u : Sta) (H : Heap) (locs : List Loc) (pc : Nat) (ls : Array Slot), K u → wk_S D q cA A s.heap u H locs → decode prog_3_method_13_code pc = .ok (.return_, 1) → W p l e R s m args below meth c H locs ce sl Q (F0 m pc ls [])) {H : Heap} {locs : List Loc} {ls : Array Slot} (hV : wk_S D q cA A s.heap z H locs) (hl : lv_has ls 4 [(0, .ref (q 2))]) : W p l e R s m args below meth c H locs ce sl Q (F0 m 0 ls []) := by
  have J115 : ∀ (z : Sta) (H : Heap) (locs : List Loc) (ls : Array Slot), wk_S D q cA A s.heap z H locs → lv_has ls 4 [] → pj_O_flowWanted_115 K z → W p l e R s m args below meth c H locs ce sl Q (F0 m 115 ls []) := by
    intro z H locs ls hV hl h
    unfold pj_O_flowWanted_115 at h
    exact hret z H locs 115 ls h hV kd_prog_3_method_13_code_115
  have L4 : ∀ (n : Nat) (x1 : Int32) (x2 : Int32) (z : Sta) (H : Heap) (locs : List Loc) (ls : Array Slot), wk_S D q cA A s.heap z H locs → lv_has ls 4 [(0, .ref (q 2)), (1, .int x1), (2, .int x2)] → lp_O_flowWanted_4 K n x1 x2 z → W p l e R s m args below meth c H locs ce sl Q (F0 m 4 ls []) := by
    intro n4
    induction n4 with
    | zero => intro x1 x2 z H locs ls hV hl h; rw [lp_O_flowWanted_4] at h; exact h.elim
    | succ n4 ih4 =>
      have L27 : ∀ (n : Nat) (x1 : Int32) (x2 : Int32) (x3 : Int32) (z : Sta) (H : Heap) (locs : List Loc) (ls : Array Slot), wk_S D q cA A s.heap z H locs → lv_has ls 4 [(0, .ref (q 2)), (1, .int x1), (2, .int x2), (3, .int x3)] → lp_O_flowWanted_27 K (fun x1 x2 z => lp_O_flowWanted_4 K n4 x1 x2 z) n x1 x2 x3 z → W p l e R s m args below meth c H locs ce sl Q (F0 m 27 ls []) := by
        intro n27
        induction n27 with
        | zero => intro x1 x2 x3 z H locs ls hV hl h; rw [lp_O_flowWanted_27] at h; exact h.elim
        | succ n27 ih27 =>
          have J103 : ∀ (x1 : Int32) (x2 : Int32) (x3 : Int32) (z : Sta) (H : Heap) (locs : List Loc) (ls : Array Slot), wk_S D q cA A s.heap z H locs → lv_has ls 4 [(0, .ref (q 2)), (1, .int x1), (2, .int x2), (3, .int x3)] → pj_O_flowWanted_103 K (fun x1 x2 x3 z => lp_O_flowWanted_27 K (fun x1 x2 z => lp_O_flowWanted_4 K n4 x1 x2 z) n27 x1 x2 x3 z) x1 x2 x3 z → W p l e R s m args below meth c H locs ce sl Q (F0 m 103 ls []) := by
            intro x1 x2 x3 z H locs ls hV hl h
            unfold pj_O_flowWanted_103 at h
            obtain ⟨v17, ev17⟩ : ∃ v : Int32, v = x3 + (-1) := ⟨_, rfl⟩
            have h := h v17 ev17
            refine lv_iinc (v := v17) (k := 3) hx hb kd_prog_3_method_13_code_103 hl rfl (by rw [ev17]; rfl) (by decide) rfl (fun ls hl => ?_)
            have hl : lv_has ls 4 [(3, .int v17), (0, .ref (q 2)), (1, .int x1), (2, .int x2)] := hl
            refine lv_goto (tgt := 27) hx hb kd_prog_3_method_13_code_106 (by decide) ?_
            exact ih27 x1 x2 v17 z H locs ls hV (lv_sub hl [1, 2, 3, 0] rfl) h
          intro x1 x2 x3 z H locs ls hV hl h
          rw [lp_O_flowWanted_27] at h
          refine lv_iload_n hx hb kd_prog_3_method_13_code_27 rfl (lv_at hl 3 rfl) ?_
          refine lv_if_lt (tgt := 109) hx hb kd_prog_3_method_13_code_28 (by decide) (fun hc => ?_) (fun hc => ?_)
          · have h := h.1 hc
            obtain ⟨v3, ev3⟩ : ∃ v : Int32, v = x2 + 1 := ⟨_, rfl⟩
            have h := h v3 ev3
            refine lv_iinc (v := v3) (k := 2) hx hb kd_prog_3_method_13_code_109 hl rfl (by rw [ev3]; rfl) (by decide) rfl (fun ls hl => ?_)
            have hl : lv_has ls 4 [(2, .int v3), (0, .ref (q 2)), (1, .int x1), (3, .int x3)] := hl
            refine lv_goto (tgt := 4) hx hb kd_prog_3_method_13_code_112 (by decide) ?_
            exact ih4 x1 v3 z H locs ls hV (lv_sub hl [1, 2, 0] rfl) h
          · have h := h.2 hc
            refine lv_aload_n hx hb kd_prog_3_method_13_code_31 rfl (lv_at hl 0 rfl) ?_
            refine va_get (D := D) (ci := 2) (v := .ref (q 16)) (C := kr_O) (T := kt_O) (N := kn_O) hx hb hts ki_O hown hK hV.1 2 rfl rfl 1 (by decide) (hts _ hw_98) (fun _ h9 => h9) rfl kd_prog_3_method_13_code_32 ?_
            refine lv_iload_n hx hb kd_prog_3_method_13_code_35 rfl (lv_at hl 3 rfl) ?_
            obtain ⟨hin, h⟩ := h
            refine va_zald hx hb hK hV.1 16 11 rfl rfl hin kd_prog_3_method_13_code_36 ?_
            refine lv_topi (fun v4 ev4 => ?_)
            have h := h v4 ev4
            refine lv_if_eq (tgt := 103) hx hb kd_prog_3_method_13_code_37 (by decide) (fun hc => ?_) (fun hc => ?_)
            · have h := h.1 hc
              exact J103 x1 x2 x3 z H locs ls hV (lv_sub hl [0, 1, 2, 3] rfl) h
            · have h := h.2 hc
              refine lv_aload_n hx hb kd_prog_3_method_13_code_40 rfl (lv_at hl 0 rfl) ?_
              refine va_get (D := D) (ci := 2) (v := .ref (q 23)) (C := kr_O) (T := kt_O) (N := kn_O) hx hb hts ki_O hown hK hV.1 2 rfl rfl 8 (by decide) (hts _ hw_105) (fun _ h9 => h9) rfl kd_prog_3_method_13_code_41 ?_
              refine lv_iload_n hx hb kd_prog_3_method_13_code_44 rfl (lv_at hl 3 rfl) ?_
              refine lv_aload_n hx hb kd_prog_3_method_13_code_45 rfl (lv_at hl 0 rfl) ?_
              refine lv_aload_n hx hb kd_prog_3_method_13_code_46 rfl (lv_at hl 0 rfl) ?_
              refine va_get (D := D) (ci := 2) (v := .ref (q 1)) (C := kr_O) (T := kt_O) (N := kn_O) hx hb hts ki_O hown hK hV.1 2 rfl rfl 0 (by decide) (hts _ hw_97) (fun _ h9 => h9) rfl kd_prog_3_method_13_code_47 ?_
              refine va_get (D := D) (ci := 1) (v := .ref (q 10)) (C := kr_P) (T := kt_P) (N := kn_P) hx hb hts ki_P hown hK hV.1 1 rfl rfl 7 (by decide) (hts _ hw_53) (fun _ h9 => h9) rfl kd_prog_3_method_13_code_50 ?_
              refine lv_iload_n hx hb kd_prog_3_method_13_code_53 rfl (lv_at hl 3 rfl) ?_
              obtain ⟨hin, h⟩ := h
              refine va_iald hx hb hK hV.1 10 5 rfl rfl hin kd_prog_3_method_13_code_54 ?_
              refine lv_topi (fun v5 ev5 => ?_)
              have h := h v5 ev5
              refine lv_aload_n hx hb kd_prog_3_method_13_code_55 rfl (lv_at hl 0 rfl) ?_
              refine va_get (D := D) (ci := 2) (v := .ref (q 1)) (C := kr_O) (T := kt_O) (N := kn_O) hx hb hts ki_O hown hK hV.1 2 rfl rfl 0 (by decide) (hts _ hw_97) (fun _ h9 => h9) rfl kd_prog_3_method_13_code_56 ?_
              refine va_get (D := D) (ci := 1) (v := .ref (q 11)) (C := kr_P) (T := kt_P) (N := kn_P) hx hb hts ki_P hown hK hV.1 1 rfl rfl 8 (by decide) (hts _ hw_56) (fun _ h9 => h9) rfl kd_prog_3_method_13_code_59 ?_
              refine lv_iload_n hx hb kd_prog_3_method_13_code_62 rfl (lv_at hl 3 rfl) ?_
              obtain ⟨hin, h⟩ := h
              refine va_iald hx hb hK hV.1 11 6 rfl rfl hin kd_prog_3_method_13_code_63 ?_
              refine lv_topi (fun v6 ev6 => ?_)
              have h := h v6 ev6
              refine wk_calll (va_runV (As := [.int v5, .int v6]) (rest := [.int x3, .ref (q 23)]) ⟨hx, hb, hml, hown, hts⟩ (c_O_wantedByAll l D q cA v5 v6 z H.size _ h) (cwV 2 hts gs_O_120 rfl rfl rfl (by decide +kernel) ⟨Nat.le_trans (by decide) hRf, Nat.le_trans (by decide) hRl⟩) (wk_preV hK hV 2 2 rfl rfl [.int v5, .int v6]) rfl rfl hl.1 rfl (lv_room (Nat.le_of_ble_eq_true rfl)) kd_prog_3_method_13_code_64 ⟨hce, hsl⟩) hV hA (fun rz7 z7 H locs h hV => ?_)
              obtain ⟨hin, h⟩ := h
              refine wk_last hx hb hK hV 23 18 7 rfl rfl (ks_23 q cA z7) hin kd_prog_3_method_13_code_67 (fun H locs hV => ?_)
              obtain ⟨z8, ez8⟩ : ∃ x : Sta, x = zL z7 7 (vp_updL (z7.2.2 7) x3.toNatClampNeg rz7) := ⟨_, rfl⟩
              rw [← ez8] at hV
              have h := h z8 ez8
              refine lv_iload_n hx hb kd_prog_3_method_13_code_68 rfl (lv_at hl 1 rfl) ?_
              refine lv_aload_n hx hb kd_prog_3_method_13_code_69 rfl (lv_at hl 0 rfl) ?_
              refine va_get (D := D) (ci := 2) (v := .ref (q 22)) (C := kr_O) (T := kt_O) (N := kn_O) hx hb hts ki_O hown hK hV.1 2 rfl rfl 7 (by decide) (hts _ hw_104) (fun _ h9 => h9) rfl kd_prog_3_method_13_code_70 ?_
              refine lv_iload_n hx hb kd_prog_3_method_13_code_73 rfl (lv_at hl 3 rfl) ?_
              refine lv_aload_n hx hb kd_prog_3_method_13_code_74 rfl (lv_at hl 0 rfl) ?_
              refine va_get (D := D) (ci := 2) (v := .ref (q 18)) (C := kr_O) (T := kt_O) (N := kn_O) hx hb hts ki_O hown hK hV.1 2 rfl rfl 3 (by decide) (hts _ hw_100) (fun _ h9 => h9) rfl kd_prog_3_method_13_code_75 ?_
              refine lv_iload_n hx hb kd_prog_3_method_13_code_78 rfl (lv_at hl 3 rfl) ?_
              obtain ⟨hin, h⟩ := h
              refine va_lald hx hb hK hV.1 18 13 rfl rfl hin kd_prog_3_method_13_code_79 ?_
              refine lv_topl (fun v9 ev9 => ?_)
              have h := h v9 ev9
              refine lv_aload_n hx hb kd_prog_3_method_13_code_80 rfl (lv_at hl 0 rfl) ?_
              refine va_get (D := D) (ci := 2) (v := .ref (q 23)) (C := kr_O) (T := kt_O) (N := kn_O) hx hb hts ki_O hown hK hV.1 2 rfl rfl 8 (by decide) (hts _ hw_105) (fun _ h9 => h9) rfl kd_prog_3_method_13_code_81 ?_
              refine lv_iload_n hx hb kd_prog_3_method_13_code_84 rfl (lv_at hl 3 rfl) ?_
              obtain ⟨hin, h⟩ := h
              refine va_lald hx hb hK hV.1 23 18 rfl rfl hin kd_prog_3_method_13_code_85 ?_
              refine lv_topl (fun v10 ev10 => ?_)
              have h := h v10 ev10
              refine lv_aload_n hx hb kd_prog_3_method_13_code_86 rfl (lv_at hl 0 rfl) ?_
              refine va_get (D := D) (ci := 2) (v := .ref (q 17)) (C := kr_O) (T := kt_O) (N := kn_O) hx hb hts ki_O hown hK hV.1 2 rfl rfl 2 (by decide) (hts _ hw_99) (fun _ h9 => h9) rfl kd_prog_3_method_13_code_87 ?_
              refine lv_iload_n hx hb kd_prog_3_method_13_code_90 rfl (lv_at hl 3 rfl) ?_
              obtain ⟨hin, h⟩ := h
              refine va_lald hx hb hK hV.1 17 12 rfl rfl hin kd_prog_3_method_13_code_91 ?_
              refine lv_topl (fun v11 ev11 => ?_)
              have h := h v11 ev11
              refine lv_ldc2 (v := (-1)) hx hb hown (hts _ hw_395) kd_prog_3_method_13_code_92 ?_
              refine lv_lxor hx hb kd_prog_3_method_13_code_95 ?_
              refine lv_topl (fun v12 ev12 => ?_)
              have h := h v12 ev12
              refine lv_land hx hb kd_prog_3_method_13_code_96 ?_
              refine lv_topl (fun v13 ev13 => ?_)
              have h := h v13 ev13
              refine lv_lor hx hb kd_prog_3_method_13_code_97 ?_
              refine lv_topl (fun v14 ev14 => ?_)
              have h := h v14 ev14
              refine wk_calli (va_runS (As := [.ref (q 22), .int x3, .long v14]) (rest := [.int x1]) ⟨hx, hb, hml, hown, hts⟩ (c_O_narrow_22 l D q cA x3 v14 z8 H.size _ h) (cwS 3 hts gs_O_116 rfl rfl rfl (by decide +kernel) ⟨Nat.le_trans (by decide) hRf, Nat.le_trans (by decide) hRl⟩) (wk_preS hK hV [.ref (q 22), .int x3, .long v14]) rfl rfl hl.1 rfl (lv_room (Nat.le_of_ble_eq_true rfl)) kd_prog_3_method_13_code_98 ⟨hce, hsl⟩) hV hA (fun rz15 z15 H locs h hV => ?_)
              refine lv_ior hx hb kd_prog_3_method_13_code_101 ?_
              refine lv_topi (fun v16 ev16 => ?_)
              have h := h v16 ev16
              refine lv_istore_n hx hb kd_prog_3_method_13_code_102 rfl hl (by decide) rfl (fun ls hl => ?_)
              have hl : lv_has ls 4 [(1, .int v16), (0, .ref (q 2)), (2, .int x2), (3, .int x3)] := hl
              exact J103 v16 x2 x3 z15 H locs ls hV (lv_sub hl [1, 0, 2, 3] rfl) h
      intro x1 x2 z H locs ls hV hl h
      rw [lp_O_flowWanted_4] at h
      refine lv_iload_n hx hb kd_prog_3_method_13_code_4 rfl (lv_at hl 1 rfl) ?_
      refine lv_if_eq (tgt := 115) hx hb kd_prog_3_method_13_code_5 (by decide) (fun hc => ?_) (fun hc => ?_)
      · have h := h.1 hc
        exact J115 z H locs ls hV (lv_sub hl [] rfl) h
      · have h := h.2 hc
        refine lv_iload_n hx hb kd_prog_3_method_13_code_8 rfl (lv_at hl 2 rfl) ?_
        refine lv_sipush (v := 385) hx hb kd_prog_3_method_13_code_9 (by decide) ?_
        refine lv_icmp_ge (tgt := 115) hx hb kd_prog_3_method_13_code_12 (by decide) (fun hc => ?_) (fun hc => ?_)
        · have h := h.1 hc
          exact J115 z H locs ls hV (lv_sub hl [] rfl) h
        · have h := h.2 hc
          refine lv_iconst (v := 0) hx hb kd_prog_3_method_13_code_15 (by decide) ?_
          refine lv_istore_n hx hb kd_prog_3_method_13_code_16 rfl hl (by decide) rfl (fun ls hl => ?_)
          have hl : lv_has ls 4 [(1, .int 0), (0, .ref (q 2)), (2, .int x2)] := hl
          refine lv_aload_n hx hb kd_prog_3_method_13_code_17 rfl (lv_at hl 1 rfl) ?_
          refine va_get (D := D) (ci := 2) (v := .ref (q 1)) (C := kr_O) (T := kt_O) (N := kn_O) hx hb hts ki_O hown hK hV.1 2 rfl rfl 0 (by decide) (hts _ hw_97) (fun _ h9 => h9) rfl kd_prog_3_method_13_code_18 ?_
          refine va_get (D := D) (ci := 1) (v := .int (z.1 2)) (C := kr_P) (T := kt_P) (N := kn_P) hx hb hts ki_P hown hK hV.1 1 rfl rfl 0 (by decide) (hts _ hw_32) (fun _ h9 => h9) rfl kd_prog_3_method_13_code_21 ?_
          refine lv_topi (fun v1 ev1 => ?_)
          have h := h v1 ev1
          refine lv_iconst (v := 1) hx hb kd_prog_3_method_13_code_24 (by decide) ?_
          refine lv_isub hx hb kd_prog_3_method_13_code_25 ?_
          refine lv_topi (fun v2 ev2 => ?_)
          have h := h v2 ev2
          refine lv_istore_n hx hb kd_prog_3_method_13_code_26 rfl hl (by decide) rfl (fun ls hl => ?_)
          have hl : lv_has ls 4 [(3, .int v2), (1, .int 0), (0, .ref (q 2)), (2, .int x2)] := hl
          obtain ⟨n27, h⟩ := h
          exact L27 n27 0 x2 v2 z H locs ls hV (lv_sub hl [2, 1, 3, 0] rfl) h
  unfold wp_O_flowWanted at h
  refine lv_iconst (v := 1) hx hb kd_prog_3_method_13_code_0 (by decide) ?_
  refine lv_istore_n hx hb kd_prog_3_method_13_code_1 rfl hl (by decide) rfl (fun ls hl => ?_)
  have hl : lv_has ls 4 [(1, .int 1), (0, .ref (q 2))] := hl
  refine lv_iconst (v := 0) hx hb kd_prog_3_method_13_code_2 (by decide) ?_
  refine lv_istore_n hx hb kd_prog_3_method_13_code_3 rfl hl (by decide) rfl (fun ls hl => ?_)
  have hl : lv_has ls 4 [(2, .int 0), (1, .int 1), (0, .ref (q 2))] := hl
  obtain ⟨n4, h⟩ := h
  exact L4 n4 1 0 z H locs ls hV (lv_sub hl [2, 1, 0] rfl) h
end
set_option maxHeartbeats 4000000 in
set_option maxRecDepth 100000 in
theorem c_O_flowWanted (l : Launch) (D : va_G) (q : Nat → Nat) (cA : Nat → ClassId) (z : Sta) (sz : Nat) (K : Sta → Prop) (h : wp_O_flowWanted z K) : Met l ke_O_flowWanted (kc_O_flowWanted :: lw_g) { frames := 1, cells := 0, slots := 0, locals := 25 } (wk_Pc D q cA [.ref (q 2)] z sz) (va_Qv K (wk_B D q cA (va_A (wW q cA z) sz)) (va_A (wW q cA z) sz)) 0 0 (va_A (wW q cA z) sz) := by
  refine Met.ofW (cc := prog_3_method_13_code) (maxL := 4) (ret := none) (by decide) rfl ?_
  intro p e s m args below meth c s₁ B hml hv
  obtain ⟨rfl, hsz, hP, hK, hD0⟩ := hv
  have hx := B.exec
  have hb := B.bytes
  have hr := B.returns
  have hlocks := B.notSynchronized
  have hts0 := atoms_spec (ws := kc_O_flowWanted :: lw_g) B.pre
  have hts : ∀ w ∈ lw_g, w.before ([.ref (q 2)] : List Value).toArray s = true := fun w hw => hts0 w (List.mem_cons_of_mem _ hw)
  have hown : s.vm.findClass kr_O = some m.cls := findClass_of_methodNamed B.named
  subst hsz
  have hD := hD0.self (sz := s.heap.size)
  generalize hAe : va_A (wW q cA z) s.heap.size = A at hD ⊢
  have hA : ∀ x : Nat, s.heap.size ≤ x → A x := fun x hx => by rw [← hAe]; exact Or.inr hx
  have hl := lv_entry ([.ref (q 2)]) (n := 4) (Nat.le_of_ble_eq_true rfl)
  rw [lg_entry_eq]
  generalize (lg_sl ([.ref (q 2)]) ++ List.replicate (4 - (lg_sl ([.ref (q 2)])).length) Slot.unset).toArray = ls at hl ⊢
  have hl : lv_has ls 4 [(0, .ref (q 2))] := hl
  exact w_O_flowWanted hx hb hml hown hts (Nat.le_refl _) (Nat.le_refl _) (Nat.zero_le _) (Nat.zero_le _) hA hK z K h (fun u H locs pc ls hk hV hd => W.vret hx hb hr (fun t ht hW => ⟨⟨u, rfl, hk, by rw [ht]; exact hV.1, va_K.moved hW.alike hK, hV.2.1⟩, hV.2.2.F ht⟩) hV.2.2.2.2 hd) ⟨hP, hD, va_S.rf⟩ hl
section
variable {p : Program} {l : Launch} {e : Env} {R : Room} {s : State} {m : MethodId} {args : Array Value} {below : List Frame} {meth : Method} {c : Code} {Q : State → Prop} {ce sl : Nat} {D : va_G} {q : Nat → Nat} {cA : Nat → ClassId} {A : Nat → Prop}
set_option maxHeartbeats 4000000 in
set_option maxRecDepth 100000 in
theorem w_O_laterOn (hx : p.tables.exec = Jvm.exec) (hb : c.code = prog_3_method_7_code) (hml : c.maxLocals = 5) (hown : s.vm.findClass kr_O = some m.cls) (hts : ∀ w ∈ lw_g, w.before args s = true) (hRf : 0 ≤ R.frames) (hRl : 0 ≤ R.locals) (hce : ce ≤ R.cells) (hsl : sl ≤ R.slots) (hA : ∀ x, s.heap.size ≤ x → A x) (hK : va_K D wk_cl (tysW cA) s) (x1 : Int32) (x2 : Int32) (z : Sta) (K : Int64 → Sta → Prop) (h : wp_O_laterOn x1 x2 z K) (hret : ∀ (r : Int64) (u : Sta) (H : Heap) (locs : List Loc) (pc : Nat) (ls : Array Slot), K r u → wk_S D q cA A s.heap u H locs → decode prog_3_method_7_code pc = .ok (.lreturn, 1) → W p l e R s m args below meth c H locs ce sl Q (F0 m pc ls [.long r])) {H : Heap} {locs : List Loc} {ls : Array Slot} (hV : wk_S D q cA A s.heap z H locs) (hl : lv_has ls 5 [(0, .ref (q 2)), (1, .int x1), (2, .int x2)]) : W p l e R s m args below meth c H locs ce sl Q (F0 m 0 ls []) := by
  unfold wp_O_laterOn at h
  refine lv_iload_n hx hb kd_prog_3_method_7_code_0 rfl (lv_at hl 1 rfl) ?_
  refine lv_iconst (v := (-1)) hx hb kd_prog_3_method_7_code_1 (by decide) ?_
  refine lv_icmp_ne (tgt := 12) hx hb kd_prog_3_method_7_code_2 (by decide) (fun hc => ?_) (fun hc => ?_)
  · have h := h.1 hc
    refine lv_aload_n hx hb kd_prog_3_method_7_code_12 rfl (lv_at hl 0 rfl) ?_
    refine va_get (D := D) (ci := 2) (v := .ref (q 22)) (C := kr_O) (T := kt_O) (N := kn_O) hx hb hts ki_O hown hK hV.1 2 rfl rfl 7 (by decide) (hts _ hw_104) (fun _ h9 => h9) rfl kd_prog_3_method_7_code_13 ?_
    refine lv_iload_n hx hb kd_prog_3_method_7_code_16 rfl (lv_at hl 2 rfl) ?_
    obtain ⟨hin, h⟩ := h
    refine va_lald hx hb hK hV.1 22 17 rfl rfl hin kd_prog_3_method_7_code_17 ?_
    refine lv_topl (fun v1 ev1 => ?_)
    have h := h v1 ev1
    refine lv_aload_n hx hb kd_prog_3_method_7_code_18 rfl (lv_at hl 0 rfl) ?_
    refine va_get (D := D) (ci := 2) (v := .ref (q 21)) (C := kr_O) (T := kt_O) (N := kn_O) hx hb hts ki_O hown hK hV.1 2 rfl rfl 6 (by decide) (hts _ hw_103) (fun _ h9 => h9) rfl kd_prog_3_method_7_code_19 ?_
    refine lv_iload_n hx hb kd_prog_3_method_7_code_22 rfl (lv_at hl 1 rfl) ?_
    obtain ⟨hin, h⟩ := h
    refine va_lald hx hb hK hV.1 21 16 rfl rfl hin kd_prog_3_method_7_code_23 ?_
    refine lv_topl (fun v2 ev2 => ?_)
    have h := h v2 ev2
    refine lv_ldc2 (v := (-1)) hx hb hown (hts _ hw_395) kd_prog_3_method_7_code_24 ?_
    refine lv_lxor hx hb kd_prog_3_method_7_code_27 ?_
    refine lv_topl (fun v3 ev3 => ?_)
    have h := h v3 ev3
    refine lv_land hx hb kd_prog_3_method_7_code_28 ?_
    refine lv_topl (fun v4 ev4 => ?_)
    have h := h v4 ev4
    refine lv_aload_n hx hb kd_prog_3_method_7_code_29 rfl (lv_at hl 0 rfl) ?_
    refine va_get (D := D) (ci := 2) (v := .ref (q 17)) (C := kr_O) (T := kt_O) (N := kn_O) hx hb hts ki_O hown hK hV.1 2 rfl rfl 2 (by decide) (hts _ hw_99) (fun _ h9 => h9) rfl kd_prog_3_method_7_code_30 ?_
    refine lv_iload_n hx hb kd_prog_3_method_7_code_33 rfl (lv_at hl 1 rfl) ?_
    obtain ⟨hin, h⟩ := h
    refine va_lald hx hb hK hV.1 17 12 rfl rfl hin kd_prog_3_method_7_code_34 ?_
    refine lv_topl (fun v5 ev5 => ?_)
    have h := h v5 ev5
    refine lv_aload_n hx hb kd_prog_3_method_7_code_35 rfl (lv_at hl 0 rfl) ?_
    refine va_get (D := D) (ci := 2) (v := .ref (q 23)) (C := kr_O) (T := kt_O) (N := kn_O) hx hb hts ki_O hown hK hV.1 2 rfl rfl 8 (by decide) (hts _ hw_105) (fun _ h9 => h9) rfl kd_prog_3_method_7_code_36 ?_
    refine lv_iload_n hx hb kd_prog_3_method_7_code_39 rfl (lv_at hl 1 rfl) ?_
    obtain ⟨hin, h⟩ := h
    refine va_lald hx hb hK hV.1 23 18 rfl rfl hin kd_prog_3_method_7_code_40 ?_
    refine lv_topl (fun v6 ev6 => ?_)
    have h := h v6 ev6
    refine lv_ldc2 (v := (-1)) hx hb hown (hts _ hw_395) kd_prog_3_method_7_code_41 ?_
    refine lv_lxor hx hb kd_prog_3_method_7_code_44 ?_
    refine lv_topl (fun v7 ev7 => ?_)
    have h := h v7 ev7
    refine lv_lor hx hb kd_prog_3_method_7_code_45 ?_
    refine lv_topl (fun v8 ev8 => ?_)
    have h := h v8 ev8
    refine lv_land hx hb kd_prog_3_method_7_code_46 ?_
    refine lv_topl (fun v9 ev9 => ?_)
    have h := h v9 ev9
    refine lv_lstore_n hx hb kd_prog_3_method_7_code_47 rfl hl (by decide) rfl (fun ls hl => ?_)
    have hl : lv_has ls 5 [(3, .long v9), (0, .ref (q 2)), (1, .int x1), (2, .int x2)] := hl
    refine lv_lload_n hx hb kd_prog_3_method_7_code_48 rfl (lv_at hl 0 rfl) ?_
    refine lv_aload_n hx hb kd_prog_3_method_7_code_49 rfl (lv_at hl 1 rfl) ?_
    refine va_get (D := D) (ci := 2) (v := .ref (q 24)) (C := kr_O) (T := kt_O) (N := kn_O) hx hb hts ki_O hown hK hV.1 2 rfl rfl 9 (by decide) (hts _ hw_106) (fun _ h9 => h9) rfl kd_prog_3_method_7_code_50 ?_
    refine lv_iload_n hx hb kd_prog_3_method_7_code_53 rfl (lv_at hl 2 rfl) ?_
    obtain ⟨hin, h⟩ := h
    refine va_lald hx hb hK hV.1 24 19 rfl rfl hin kd_prog_3_method_7_code_54 ?_
    refine lv_topl (fun v10 ev10 => ?_)
    have h := h v10 ev10
    refine lv_aload_n hx hb kd_prog_3_method_7_code_55 rfl (lv_at hl 1 rfl) ?_
    refine va_get (D := D) (ci := 2) (v := .ref (q 18)) (C := kr_O) (T := kt_O) (N := kn_O) hx hb hts ki_O hown hK hV.1 2 rfl rfl 3 (by decide) (hts _ hw_100) (fun _ h9 => h9) rfl kd_prog_3_method_7_code_56 ?_
    refine lv_iload_n hx hb kd_prog_3_method_7_code_59 rfl (lv_at hl 2 rfl) ?_
    obtain ⟨hin, h⟩ := h
    refine va_lald hx hb hK hV.1 18 13 rfl rfl hin kd_prog_3_method_7_code_60 ?_
    refine lv_topl (fun v11 ev11 => ?_)
    have h := h v11 ev11
    refine lv_ldc2 (v := (-1)) hx hb hown (hts _ hw_395) kd_prog_3_method_7_code_61 ?_
    refine lv_lxor hx hb kd_prog_3_method_7_code_64 ?_
    refine lv_topl (fun v12 ev12 => ?_)
    have h := h v12 ev12
    refine lv_land hx hb kd_prog_3_method_7_code_65 ?_
    refine lv_topl (fun v13 ev13 => ?_)
    have h := h v13 ev13
    refine lv_lor hx hb kd_prog_3_method_7_code_66 ?_
    refine lv_topl (fun v14 ev14 => ?_)
    have h := h v14 ev14
    exact hret v14 z H locs 67 ls h hV kd_prog_3_method_7_code_67
  · have h := h.2 hc
    refine lv_aload_n hx hb kd_prog_3_method_7_code_5 rfl (lv_at hl 0 rfl) ?_
    refine va_get (D := D) (ci := 2) (v := .ref (q 22)) (C := kr_O) (T := kt_O) (N := kn_O) hx hb hts ki_O hown hK hV.1 2 rfl rfl 7 (by decide) (hts _ hw_104) (fun _ h9 => h9) rfl kd_prog_3_method_7_code_6 ?_
    refine lv_iload_n hx hb kd_prog_3_method_7_code_9 rfl (lv_at hl 2 rfl) ?_
    obtain ⟨hin, h⟩ := h
    refine va_lald hx hb hK hV.1 22 17 rfl rfl hin kd_prog_3_method_7_code_10 ?_
    refine lv_topl (fun v15 ev15 => ?_)
    have h := h v15 ev15
    exact hret v15 z H locs 11 ls h hV kd_prog_3_method_7_code_11
end
set_option maxHeartbeats 4000000 in
set_option maxRecDepth 100000 in
theorem c_O_laterOn (l : Launch) (D : va_G) (q : Nat → Nat) (cA : Nat → ClassId) (x1 : Int32) (x2 : Int32) (z : Sta) (sz : Nat) (K : Int64 → Sta → Prop) (h : wp_O_laterOn x1 x2 z K) : Met l ke_O_laterOn (kc_O_laterOn :: lw_g) { frames := 0, cells := 0, slots := 0, locals := 0 } (wk_Pc D q cA [.ref (q 2), .int x1, .int x2] z sz) (va_Ql K (wk_B D q cA (va_A (wW q cA z) sz)) (va_A (wW q cA z) sz)) 0 0 (va_A (wW q cA z) sz) := by
  refine Met.ofW (cc := prog_3_method_7_code) (maxL := 5) (ret := (some .long)) (by decide) rfl ?_
  intro p e s m args below meth c s₁ B hml hv
  obtain ⟨rfl, hsz, hP, hK, hD0⟩ := hv
  have hx := B.exec
  have hb := B.bytes
  have hr := B.returns
  have hlocks := B.notSynchronized
  have hts0 := atoms_spec (ws := kc_O_laterOn :: lw_g) B.pre
  have hts : ∀ w ∈ lw_g, w.before ([.ref (q 2), .int x1, .int x2] : List Value).toArray s = true := fun w hw => hts0 w (List.mem_cons_of_mem _ hw)
  have hown : s.vm.findClass kr_O = some m.cls := findClass_of_methodNamed B.named
  subst hsz
  have hD := hD0.self (sz := s.heap.size)
  generalize hAe : va_A (wW q cA z) s.heap.size = A at hD ⊢
  have hA : ∀ x : Nat, s.heap.size ≤ x → A x := fun x hx => by rw [← hAe]; exact Or.inr hx
  have hl := lv_entry ([.ref (q 2), .int x1, .int x2]) (n := 5) (Nat.le_of_ble_eq_true rfl)
  rw [lg_entry_eq]
  generalize (lg_sl ([.ref (q 2), .int x1, .int x2]) ++ List.replicate (5 - (lg_sl ([.ref (q 2), .int x1, .int x2])).length) Slot.unset).toArray = ls at hl ⊢
  have hl : lv_has ls 5 [(0, .ref (q 2)), (1, .int x1), (2, .int x2)] := hl
  exact w_O_laterOn hx hb hml hown hts (Nat.le_refl _) (Nat.le_refl _) (Nat.zero_le _) (Nat.zero_le _) hA hK x1 x2 z K h (fun r u H locs pc ls hk hV hd => W.lret hx hb hr (fun t ht hW => ⟨⟨r, u, rfl, hk, by rw [ht]; exact hV.1, va_K.moved hW.alike hK, hV.2.1⟩, hV.2.2.F ht⟩) hV.2.2.2.2 hd) ⟨hP, hD, va_S.rf⟩ hl
section
variable {p : Program} {l : Launch} {e : Env} {R : Room} {s : State} {m : MethodId} {args : Array Value} {below : List Frame} {meth : Method} {c : Code} {Q : State → Prop} {ce sl : Nat} {D : va_G} {q : Nat → Nat} {cA : Nat → ClassId} {A : Nat → Prop}
set_option maxHeartbeats 4000000 in
set_option maxRecDepth 100000 in
theorem w_O_narrow_24 (hx : p.tables.exec = Jvm.exec) (hb : c.code = prog_3_method_17_code) (hml : c.maxLocals = 6) (hown : s.vm.findClass kr_O = some m.cls) (hts : ∀ w ∈ lw_g, w.before args s = true) (hRf : 0 ≤ R.frames) (hRl : 0 ≤ R.locals) (hce : ce ≤ R.cells) (hsl : sl ≤ R.slots) (hA : ∀ x, s.heap.size ≤ x → A x) (hK : va_K D wk_cl (tysW cA) s) (x1 : Int32) (x2 : Int64) (z : Sta) (K : Int32 → Sta → Prop) (h : wp_O_narrow_24 x1 x2 z K) (hret : ∀ (r : Int32) (u : Sta) (H : Heap) (locs : List Loc) (pc : Nat) (ls : Array Slot), K r u → (r = 0 ∨ r = 1) → wk_S D q cA A s.heap u H locs → decode prog_3_method_17_code pc = .ok (.ireturn, 1) → W p l e R s m args below meth c H locs ce sl Q (F0 m pc ls [.int r])) {H : Heap} {locs : List Loc} {ls : Array Slot} (hV : wk_S D q cA A s.heap z H locs) (hl : lv_has ls 6 [(0, .ref (q 24)), (1, .int x1), (2, .long x2)]) : W p l e R s m args below meth c H locs ce sl Q (F0 m 0 ls []) := by
  have J33 : ∀ (y0 : Int32) (z : Sta) (H : Heap) (locs : List Loc) (ls : Array Slot), wk_S D q cA A s.heap z H locs → lv_has ls 6 [] → pj_O_narrow_24_33 K y0 z → W p l e R s m args below meth c H locs ce sl Q (F0 m 33 ls [.int y0]) := by
    intro y0 z H locs ls hV hl h
    unfold pj_O_narrow_24_33 at h
    obtain ⟨hz, h⟩ := h
    exact hret y0 z H locs 33 ls h hz hV kd_prog_3_method_17_code_33
  unfold wp_O_narrow_24 at h
  refine lv_iload_n hx hb kd_prog_3_method_17_code_0 rfl (lv_at hl 1 rfl) ?_
  refine lv_iconst (v := (-1)) hx hb kd_prog_3_method_17_code_1 (by decide) ?_
  refine lv_icmp_ne (tgt := 7) hx hb kd_prog_3_method_17_code_2 (by decide) (fun hc => ?_) (fun hc => ?_)
  · have h := h.1 hc
    refine lv_aload_n hx hb kd_prog_3_method_17_code_7 rfl (lv_at hl 0 rfl) ?_
    refine lv_iload_n hx hb kd_prog_3_method_17_code_8 rfl (lv_at hl 1 rfl) ?_
    obtain ⟨hin, h⟩ := h
    refine va_lald hx hb hK hV.1 24 19 rfl rfl hin kd_prog_3_method_17_code_9 ?_
    refine lv_topl (fun v1 ev1 => ?_)
    have h := h v1 ev1
    refine lv_lstore hx hb kd_prog_3_method_17_code_10 hl (by decide) rfl (fun ls hl => ?_)
    have hl : lv_has ls 6 [(4, .long v1), (0, .ref (q 24)), (1, .int x1), (2, .long x2)] := hl
    refine lv_aload_n hx hb kd_prog_3_method_17_code_12 rfl (lv_at hl 1 rfl) ?_
    refine lv_iload_n hx hb kd_prog_3_method_17_code_13 rfl (lv_at hl 2 rfl) ?_
    refine lv_lload hx hb kd_prog_3_method_17_code_14 (lv_at hl 0 rfl) ?_
    refine lv_lload_n hx hb kd_prog_3_method_17_code_16 rfl (lv_at hl 3 rfl) ?_
    refine lv_land hx hb kd_prog_3_method_17_code_17 ?_
    refine lv_topl (fun v2 ev2 => ?_)
    have h := h v2 ev2
    obtain ⟨hin, h⟩ := h
    refine wk_last hx hb hK hV 24 19 8 rfl rfl (ks_24 q cA z) hin kd_prog_3_method_17_code_18 (fun H locs hV => ?_)
    obtain ⟨z3, ez3⟩ : ∃ x : Sta, x = zL z 8 (vp_updL (z.2.2 8) x1.toNatClampNeg v2) := ⟨_, rfl⟩
    rw [← ez3] at hV
    have h := h z3 ez3
    refine lv_aload_n hx hb kd_prog_3_method_17_code_19 rfl (lv_at hl 1 rfl) ?_
    refine lv_iload_n hx hb kd_prog_3_method_17_code_20 rfl (lv_at hl 2 rfl) ?_
    obtain ⟨hin, h⟩ := h
    refine va_lald hx hb hK hV.1 24 19 rfl rfl hin kd_prog_3_method_17_code_21 ?_
    refine lv_topl (fun v4 ev4 => ?_)
    have h := h v4 ev4
    refine lv_lload hx hb kd_prog_3_method_17_code_22 (lv_at hl 0 rfl) ?_
    refine W.lcmp hx hb kd_prog_3_method_17_code_24 ?_
    refine lv_topi (fun v5 ev5 => ?_)
    have h := h v5 ev5
    refine lv_if_eq (tgt := 32) hx hb kd_prog_3_method_17_code_25 (by decide) (fun hc => ?_) (fun hc => ?_)
    · have h := h.1 hc
      refine lv_iconst (v := 0) hx hb kd_prog_3_method_17_code_32 (by decide) ?_
      exact J33 0 z3 H locs ls hV (lv_sub hl [] rfl) h
    · have h := h.2 hc
      refine lv_iconst (v := 1) hx hb kd_prog_3_method_17_code_28 (by decide) ?_
      refine lv_goto (tgt := 33) hx hb kd_prog_3_method_17_code_29 (by decide) ?_
      exact J33 1 z3 H locs ls hV (lv_sub hl [] rfl) h
  · have h := h.2 hc
    refine lv_iconst (v := 0) hx hb kd_prog_3_method_17_code_5 (by decide) ?_
    obtain ⟨hz, h⟩ := h
    exact hret 0 z H locs 6 ls h hz hV kd_prog_3_method_17_code_6
end
set_option maxHeartbeats 4000000 in
set_option maxRecDepth 100000 in
theorem c_O_narrow_24 (l : Launch) (D : va_G) (q : Nat → Nat) (cA : Nat → ClassId) (x1 : Int32) (x2 : Int64) (z : Sta) (sz : Nat) (K : Int32 → Sta → Prop) (h : wp_O_narrow_24 x1 x2 z K) : Met l ke_O_narrow (kc_O_narrow :: lw_g) { frames := 0, cells := 0, slots := 0, locals := 0 } (wk_Pc D q cA [.ref (q 24), .int x1, .long x2] z sz) (va_Qi K (wk_B D q cA (va_A (wW q cA z) sz)) (va_A (wW q cA z) sz)) 0 0 (va_A (wW q cA z) sz) := by
  refine Met.ofW (cc := prog_3_method_17_code) (maxL := 6) (ret := (some .boolean)) (by decide) rfl ?_
  intro p e s m args below meth c s₁ B hml hv
  obtain ⟨rfl, hsz, hP, hK, hD0⟩ := hv
  have hx := B.exec
  have hb := B.bytes
  have hr := B.returns
  have hlocks := B.notSynchronized
  have hts0 := atoms_spec (ws := kc_O_narrow :: lw_g) B.pre
  have hts : ∀ w ∈ lw_g, w.before ([.ref (q 24), .int x1, .long x2] : List Value).toArray s = true := fun w hw => hts0 w (List.mem_cons_of_mem _ hw)
  have hown : s.vm.findClass kr_O = some m.cls := findClass_of_methodNamed B.named
  subst hsz
  have hD := hD0.self (sz := s.heap.size)
  generalize hAe : va_A (wW q cA z) s.heap.size = A at hD ⊢
  have hA : ∀ x : Nat, s.heap.size ≤ x → A x := fun x hx => by rw [← hAe]; exact Or.inr hx
  have hl := lv_entry ([.ref (q 24), .int x1, .long x2]) (n := 6) (Nat.le_of_ble_eq_true rfl)
  rw [lg_entry_eq]
  generalize (lg_sl ([.ref (q 24), .int x1, .long x2]) ++ List.replicate (6 - (lg_sl ([.ref (q 24), .int x1, .long x2])).length) Slot.unset).toArray = ls at hl ⊢
  have hl : lv_has ls 6 [(0, .ref (q 24)), (1, .int x1), (2, .long x2)] := hl
  exact w_O_narrow_24 hx hb hml hown hts (Nat.le_refl _) (Nat.le_refl _) (Nat.zero_le _) (Nat.zero_le _) hA hK x1 x2 z K h (fun r u H locs pc ls hk hz hV hd => W.zret (ty := .boolean) hx hb hr (by rcases hz with rfl | rfl <;> rfl) (fun t ht hW => ⟨⟨r, u, rfl, hk, by rw [ht]; exact hV.1, va_K.moved hW.alike hK, hV.2.1⟩, hV.2.2.F ht⟩) hV.2.2.2.2 hd) ⟨hP, hD, va_S.rf⟩ hl
section
variable {p : Program} {l : Launch} {e : Env} {R : Room} {s : State} {m : MethodId} {args : Array Value} {below : List Frame} {meth : Method} {c : Code} {Q : State → Prop} {ce sl : Nat} {D : va_G} {q : Nat → Nat} {cA : Nat → ClassId} {A : Nat → Prop}
set_option maxHeartbeats 4000000 in
set_option maxRecDepth 100000 in
theorem w_O_narrowLate (hx : p.tables.exec = Jvm.exec) (hb : c.code = prog_3_method_16_code) (hml : c.maxLocals = 3) (hown : s.vm.findClass kr_O = some m.cls) (hts : ∀ w ∈ lw_g, w.before args s = true) (hRf : 1 ≤ R.frames) (hRl : 25 ≤ R.locals) (hce : ce ≤ R.cells) (hsl : sl ≤ R.slots) (hA : ∀ x, s.heap.size ≤ x → A x) (hK : va_K D wk_cl (tysW cA) s) (x1 : Int32) (x2 : Int32) (z : Sta) (K : Int32 → Sta → Prop) (h : wp_O_narrowLate x1 x2 z K) (hret : ∀ (r : Int32) (u : Sta) (H : Heap) (locs : List Loc) (pc : Nat) (ls : Array Slot), K r u → (r = 0 ∨ r = 1) → wk_S D q cA A s.heap u H locs → decode prog_3_method_16_code pc = .ok (.ireturn, 1) → W p l e R s m args below meth c H locs ce sl Q (F0 m pc ls [.int r])) {H : Heap} {locs : List Loc} {ls : Array Slot} (hV : wk_S D q cA A s.heap z H locs) (hl : lv_has ls 3 [(0, .ref (q 2)), (1, .int x1), (2, .int x2)]) : W p l e R s m args below meth c H locs ce sl Q (F0 m 0 ls []) := by
  have J27 : ∀ (y0 : Int32) (z : Sta) (H : Heap) (locs : List Loc) (ls : Array Slot), wk_S D q cA A s.heap z H locs → lv_has ls 3 [] → pj_O_narrowLate_27 K y0 z → W p l e R s m args below meth c H locs ce sl Q (F0 m 27 ls [.int y0]) := by
    intro y0 z H locs ls hV hl h
    unfold pj_O_narrowLate_27 at h
    obtain ⟨hz, h⟩ := h
    exact hret y0 z H locs 27 ls h hz hV kd_prog_3_method_16_code_27
  have J26 : ∀ (z : Sta) (H : Heap) (locs : List Loc) (ls : Array Slot), wk_S D q cA A s.heap z H locs → lv_has ls 3 [] → pj_O_narrowLate_26 K z → W p l e R s m args below meth c H locs ce sl Q (F0 m 26 ls []) := by
    intro z H locs ls hV hl h
    unfold pj_O_narrowLate_26 at h
    refine lv_iconst (v := 0) hx hb kd_prog_3_method_16_code_26 (by decide) ?_
    exact J27 0 z H locs ls hV (lv_sub hl [] rfl) h
  unfold wp_O_narrowLate at h
  refine lv_iload_n hx hb kd_prog_3_method_16_code_0 rfl (lv_at hl 2 rfl) ?_
  refine lv_iconst (v := (-1)) hx hb kd_prog_3_method_16_code_1 (by decide) ?_
  refine lv_icmp_eq (tgt := 26) hx hb kd_prog_3_method_16_code_2 (by decide) (fun hc => ?_) (fun hc => ?_)
  · have h := h.1 hc
    exact J26 z H locs ls hV (lv_sub hl [] rfl) h
  · have h := h.2 hc
    refine lv_aload_n hx hb kd_prog_3_method_16_code_5 rfl (lv_at hl 0 rfl) ?_
    refine va_get (D := D) (ci := 2) (v := .ref (q 24)) (C := kr_O) (T := kt_O) (N := kn_O) hx hb hts ki_O hown hK hV.1 2 rfl rfl 9 (by decide) (hts _ hw_106) (fun _ h9 => h9) rfl kd_prog_3_method_16_code_6 ?_
    refine lv_iload_n hx hb kd_prog_3_method_16_code_9 rfl (lv_at hl 2 rfl) ?_
    refine lv_aload_n hx hb kd_prog_3_method_16_code_10 rfl (lv_at hl 0 rfl) ?_
    refine lv_iload_n hx hb kd_prog_3_method_16_code_11 rfl (lv_at hl 1 rfl) ?_
    refine lv_iload_n hx hb kd_prog_3_method_16_code_12 rfl (lv_at hl 2 rfl) ?_
    refine wk_calll (va_runV (As := [.int x1, .int x2]) (rest := [.int x2, .ref (q 24)]) ⟨hx, hb, hml, hown, hts⟩ (c_O_laterOn l D q cA x1 x2 z H.size _ h) (cwV 2 hts gs_O_91 rfl rfl rfl (by decide +kernel) ⟨Nat.le_trans (by decide) hRf, Nat.le_trans (by decide) hRl⟩) (wk_preV hK hV 2 2 rfl rfl [.int x1, .int x2]) rfl rfl hl.1 rfl (lv_room (Nat.le_of_ble_eq_true rfl)) kd_prog_3_method_16_code_13 ⟨hce, hsl⟩) hV hA (fun rz1 z1 H locs h hV => ?_)
    refine wk_calli (va_runS (As := [.ref (q 24), .int x2, .long rz1]) (rest := []) ⟨hx, hb, hml, hown, hts⟩ (c_O_narrow_24 l D q cA x2 rz1 z1 H.size _ h) (cwS 3 hts gs_O_116 rfl rfl rfl (by decide +kernel) ⟨Nat.le_trans (by decide) hRf, Nat.le_trans (by decide) hRl⟩) (wk_preS hK hV [.ref (q 24), .int x2, .long rz1]) rfl rfl hl.1 rfl (lv_room (Nat.le_of_ble_eq_true rfl)) kd_prog_3_method_16_code_16 ⟨hce, hsl⟩) hV hA (fun rz2 z2 H locs h hV => ?_)
    refine lv_if_eq (tgt := 26) hx hb kd_prog_3_method_16_code_19 (by decide) (fun hc => ?_) (fun hc => ?_)
    · have h := h.1 hc
      exact J26 z2 H locs ls hV (lv_sub hl [] rfl) h
    · have h := h.2 hc
      refine lv_iconst (v := 1) hx hb kd_prog_3_method_16_code_22 (by decide) ?_
      refine lv_goto (tgt := 27) hx hb kd_prog_3_method_16_code_23 (by decide) ?_
      exact J27 1 z2 H locs ls hV (lv_sub hl [] rfl) h
end
set_option maxHeartbeats 4000000 in
set_option maxRecDepth 100000 in
theorem c_O_narrowLate (l : Launch) (D : va_G) (q : Nat → Nat) (cA : Nat → ClassId) (x1 : Int32) (x2 : Int32) (z : Sta) (sz : Nat) (K : Int32 → Sta → Prop) (h : wp_O_narrowLate x1 x2 z K) : Met l ke_O_narrowLate (kc_O_narrowLate :: lw_g) { frames := 1, cells := 0, slots := 0, locals := 25 } (wk_Pc D q cA [.ref (q 2), .int x1, .int x2] z sz) (va_Qi K (wk_B D q cA (va_A (wW q cA z) sz)) (va_A (wW q cA z) sz)) 0 0 (va_A (wW q cA z) sz) := by
  refine Met.ofW (cc := prog_3_method_16_code) (maxL := 3) (ret := (some .boolean)) (by decide) rfl ?_
  intro p e s m args below meth c s₁ B hml hv
  obtain ⟨rfl, hsz, hP, hK, hD0⟩ := hv
  have hx := B.exec
  have hb := B.bytes
  have hr := B.returns
  have hlocks := B.notSynchronized
  have hts0 := atoms_spec (ws := kc_O_narrowLate :: lw_g) B.pre
  have hts : ∀ w ∈ lw_g, w.before ([.ref (q 2), .int x1, .int x2] : List Value).toArray s = true := fun w hw => hts0 w (List.mem_cons_of_mem _ hw)
  have hown : s.vm.findClass kr_O = some m.cls := findClass_of_methodNamed B.named
  subst hsz
  have hD := hD0.self (sz := s.heap.size)
  generalize hAe : va_A (wW q cA z) s.heap.size = A at hD ⊢
  have hA : ∀ x : Nat, s.heap.size ≤ x → A x := fun x hx => by rw [← hAe]; exact Or.inr hx
  have hl := lv_entry ([.ref (q 2), .int x1, .int x2]) (n := 3) (Nat.le_of_ble_eq_true rfl)
  rw [lg_entry_eq]
  generalize (lg_sl ([.ref (q 2), .int x1, .int x2]) ++ List.replicate (3 - (lg_sl ([.ref (q 2), .int x1, .int x2])).length) Slot.unset).toArray = ls at hl ⊢
  have hl : lv_has ls 3 [(0, .ref (q 2)), (1, .int x1), (2, .int x2)] := hl
  exact w_O_narrowLate hx hb hml hown hts (Nat.le_refl _) (Nat.le_refl _) (Nat.zero_le _) (Nat.zero_le _) hA hK x1 x2 z K h (fun r u H locs pc ls hk hz hV hd => W.zret (ty := .boolean) hx hb hr (by rcases hz with rfl | rfl <;> rfl) (fun t ht hW => ⟨⟨r, u, rfl, hk, by rw [ht]; exact hV.1, va_K.moved hW.alike hK, hV.2.1⟩, hV.2.2.F ht⟩) hV.2.2.2.2 hd) ⟨hP, hD, va_S.rf⟩ hl
section
variable {p : Program} {l : Launch} {e : Env} {R : Room} {s : State} {m : MethodId} {args : Array Value} {below : List Frame} {meth : Method} {c : Code} {Q : State → Prop} {ce sl : Nat} {D : va_G} {q : Nat → Nat} {cA : Nat → ClassId} {A : Nat → Prop}
set_option maxHeartbeats 4000000 in
set_option maxRecDepth 100000 in
theorem w_O_flowLate (hx : p.tables.exec = Jvm.exec) (hb : c.code = prog_3_method_15_code) (hml : c.maxLocals = 4) (hown : s.vm.findClass kr_O = some m.cls) (hts : ∀ w ∈ lw_g, w.before args s = true) (hRf : 2 ≤ R.frames) (hRl : 47 ≤ R.locals) (hce : ce ≤ R.cells) (hsl : sl ≤ R.slots) (hA : ∀ x, s.heap.size ≤ x → A x) (hK : va_K D wk_cl (tysW cA) s) (z : Sta) (K : Sta → Prop) (h : wp_O_flowLate z K) (hret : ∀ (u : Sta) (H : Heap) (locs : List Loc) (pc : Nat) (ls : Array Slot), K u → wk_S D q cA A s.heap u H locs → decode prog_3_method_15_code pc = .ok (.return_, 1) → W p l e R s m args below meth c H locs ce sl Q (F0 m pc ls [])) {H : Heap} {locs : List Loc} {ls : Array Slot} (hV : wk_S D q cA A s.heap z H locs) (hl : lv_has ls 4 [(0, .ref (q 2))]) : W p l e R s m args below meth c H locs ce sl Q (F0 m 0 ls []) := by
  have J97 : ∀ (z : Sta) (H : Heap) (locs : List Loc) (ls : Array Slot), wk_S D q cA A s.heap z H locs → lv_has ls 4 [] → pj_O_flowLate_97 K z → W p l e R s m args below meth c H locs ce sl Q (F0 m 97 ls []) := by
    intro z H locs ls hV hl h
    unfold pj_O_flowLate_97 at h
    exact hret z H locs 97 ls h hV kd_prog_3_method_15_code_97
  have L16 : ∀ (n : Nat) (x1 : Int32) (x2 : Int32) (z : Sta) (H : Heap) (locs : List Loc) (ls : Array Slot), wk_S D q cA A s.heap z H locs → lv_has ls 4 [(0, .ref (q 2)), (1, .int x1), (2, .int x2)] → lp_O_flowLate_16 K n x1 x2 z → W p l e R s m args below meth c H locs ce sl Q (F0 m 16 ls []) := by
    intro n16
    induction n16 with
    | zero => intro x1 x2 z H locs ls hV hl h; rw [lp_O_flowLate_16] at h; exact h.elim
    | succ n16 ih16 =>
      have L31 : ∀ (n : Nat) (x1 : Int32) (x2 : Int32) (x3 : Int32) (z : Sta) (H : Heap) (locs : List Loc) (ls : Array Slot), wk_S D q cA A s.heap z H locs → lv_has ls 4 [(0, .ref (q 2)), (1, .int x1), (2, .int x2), (3, .int x3)] → lp_O_flowLate_31 K (fun x1 x2 z => lp_O_flowLate_16 K n16 x1 x2 z) n x1 x2 x3 z → W p l e R s m args below meth c H locs ce sl Q (F0 m 31 ls []) := by
        intro n31
        induction n31 with
        | zero => intro x1 x2 x3 z H locs ls hV hl h; rw [lp_O_flowLate_31] at h; exact h.elim
        | succ n31 ih31 =>
          have J85 : ∀ (x1 : Int32) (x2 : Int32) (x3 : Int32) (z : Sta) (H : Heap) (locs : List Loc) (ls : Array Slot), wk_S D q cA A s.heap z H locs → lv_has ls 4 [(0, .ref (q 2)), (1, .int x1), (2, .int x2), (3, .int x3)] → pj_O_flowLate_85 K (fun x1 x2 x3 z => lp_O_flowLate_31 K (fun x1 x2 z => lp_O_flowLate_16 K n16 x1 x2 z) n31 x1 x2 x3 z) x1 x2 x3 z → W p l e R s m args below meth c H locs ce sl Q (F0 m 85 ls []) := by
            intro x1 x2 x3 z H locs ls hV hl h
            unfold pj_O_flowLate_85 at h
            obtain ⟨v12, ev12⟩ : ∃ v : Int32, v = x3 + 1 := ⟨_, rfl⟩
            have h := h v12 ev12
            refine lv_iinc (v := v12) (k := 3) hx hb kd_prog_3_method_15_code_85 hl rfl (by rw [ev12]; rfl) (by decide) rfl (fun ls hl => ?_)
            have hl : lv_has ls 4 [(3, .int v12), (0, .ref (q 2)), (1, .int x1), (2, .int x2)] := hl
            refine lv_goto (tgt := 31) hx hb kd_prog_3_method_15_code_88 (by decide) ?_
            exact ih31 x1 x2 v12 z H locs ls hV (lv_sub hl [1, 2, 3, 0] rfl) h
          intro x1 x2 x3 z H locs ls hV hl h
          rw [lp_O_flowLate_31] at h
          refine lv_iload_n hx hb kd_prog_3_method_15_code_31 rfl (lv_at hl 3 rfl) ?_
          refine lv_aload_n hx hb kd_prog_3_method_15_code_32 rfl (lv_at hl 0 rfl) ?_
          refine va_get (D := D) (ci := 2) (v := .ref (q 1)) (C := kr_O) (T := kt_O) (N := kn_O) hx hb hts ki_O hown hK hV.1 2 rfl rfl 0 (by decide) (hts _ hw_97) (fun _ h9 => h9) rfl kd_prog_3_method_15_code_33 ?_
          refine va_get (D := D) (ci := 1) (v := .int (z.1 2)) (C := kr_P) (T := kt_P) (N := kn_P) hx hb hts ki_P hown hK hV.1 1 rfl rfl 0 (by decide) (hts _ hw_32) (fun _ h9 => h9) rfl kd_prog_3_method_15_code_36 ?_
          refine lv_topi (fun v3 ev3 => ?_)
          have h := h v3 ev3
          refine lv_icmp_ge (tgt := 91) hx hb kd_prog_3_method_15_code_39 (by decide) (fun hc => ?_) (fun hc => ?_)
          · have h := h.1 hc
            obtain ⟨v4, ev4⟩ : ∃ v : Int32, v = x2 + 1 := ⟨_, rfl⟩
            have h := h v4 ev4
            refine lv_iinc (v := v4) (k := 2) hx hb kd_prog_3_method_15_code_91 hl rfl (by rw [ev4]; rfl) (by decide) rfl (fun ls hl => ?_)
            have hl : lv_has ls 4 [(2, .int v4), (0, .ref (q 2)), (1, .int x1), (3, .int x3)] := hl
            refine lv_goto (tgt := 16) hx hb kd_prog_3_method_15_code_94 (by decide) ?_
            exact ih16 x1 v4 z H locs ls hV (lv_sub hl [1, 2, 0] rfl) h
          · have h := h.2 hc
            refine lv_aload_n hx hb kd_prog_3_method_15_code_42 rfl (lv_at hl 0 rfl) ?_
            refine va_get (D := D) (ci := 2) (v := .ref (q 16)) (C := kr_O) (T := kt_O) (N := kn_O) hx hb hts ki_O hown hK hV.1 2 rfl rfl 1 (by decide) (hts _ hw_98) (fun _ h9 => h9) rfl kd_prog_3_method_15_code_43 ?_
            refine lv_iload_n hx hb kd_prog_3_method_15_code_46 rfl (lv_at hl 3 rfl) ?_
            obtain ⟨hin, h⟩ := h
            refine va_zald hx hb hK hV.1 16 11 rfl rfl hin kd_prog_3_method_15_code_47 ?_
            refine lv_topi (fun v5 ev5 => ?_)
            have h := h v5 ev5
            refine lv_if_eq (tgt := 85) hx hb kd_prog_3_method_15_code_48 (by decide) (fun hc => ?_) (fun hc => ?_)
            · have h := h.1 hc
              exact J85 x1 x2 x3 z H locs ls hV (lv_sub hl [0, 1, 2, 3] rfl) h
            · have h := h.2 hc
              refine lv_iload_n hx hb kd_prog_3_method_15_code_51 rfl (lv_at hl 1 rfl) ?_
              refine lv_aload_n hx hb kd_prog_3_method_15_code_52 rfl (lv_at hl 0 rfl) ?_
              refine lv_iload_n hx hb kd_prog_3_method_15_code_53 rfl (lv_at hl 3 rfl) ?_
              refine lv_aload_n hx hb kd_prog_3_method_15_code_54 rfl (lv_at hl 0 rfl) ?_
              refine va_get (D := D) (ci := 2) (v := .ref (q 1)) (C := kr_O) (T := kt_O) (N := kn_O) hx hb hts ki_O hown hK hV.1 2 rfl rfl 0 (by decide) (hts _ hw_97) (fun _ h9 => h9) rfl kd_prog_3_method_15_code_55 ?_
              refine va_get (D := D) (ci := 1) (v := .ref (q 10)) (C := kr_P) (T := kt_P) (N := kn_P) hx hb hts ki_P hown hK hV.1 1 rfl rfl 7 (by decide) (hts _ hw_53) (fun _ h9 => h9) rfl kd_prog_3_method_15_code_58 ?_
              refine lv_iload_n hx hb kd_prog_3_method_15_code_61 rfl (lv_at hl 3 rfl) ?_
              obtain ⟨hin, h⟩ := h
              refine va_iald hx hb hK hV.1 10 5 rfl rfl hin kd_prog_3_method_15_code_62 ?_
              refine lv_topi (fun v6 ev6 => ?_)
              have h := h v6 ev6
              refine wk_calli (va_runV (As := [.int x3, .int v6]) (rest := [.int x1]) ⟨hx, hb, hml, hown, hts⟩ (c_O_narrowLate l D q cA x3 v6 z H.size _ h) (cwV 2 hts gs_O_123 rfl rfl rfl (by decide +kernel) ⟨Nat.le_trans (by decide) hRf, Nat.le_trans (by decide) hRl⟩) (wk_preV hK hV 2 2 rfl rfl [.int x3, .int v6]) rfl rfl hl.1 rfl (lv_room (Nat.le_of_ble_eq_true rfl)) kd_prog_3_method_15_code_63 ⟨hce, hsl⟩) hV hA (fun rz7 z7 H locs h hV => ?_)
              refine lv_ior hx hb kd_prog_3_method_15_code_66 ?_
              refine lv_topi (fun v8 ev8 => ?_)
              have h := h v8 ev8
              refine lv_istore_n hx hb kd_prog_3_method_15_code_67 rfl hl (by decide) rfl (fun ls hl => ?_)
              have hl : lv_has ls 4 [(1, .int v8), (0, .ref (q 2)), (2, .int x2), (3, .int x3)] := hl
              refine lv_iload_n hx hb kd_prog_3_method_15_code_68 rfl (lv_at hl 0 rfl) ?_
              refine lv_aload_n hx hb kd_prog_3_method_15_code_69 rfl (lv_at hl 1 rfl) ?_
              refine lv_iload_n hx hb kd_prog_3_method_15_code_70 rfl (lv_at hl 3 rfl) ?_
              refine lv_aload_n hx hb kd_prog_3_method_15_code_71 rfl (lv_at hl 1 rfl) ?_
              refine va_get (D := D) (ci := 2) (v := .ref (q 1)) (C := kr_O) (T := kt_O) (N := kn_O) hx hb hts ki_O hown hK hV.1 2 rfl rfl 0 (by decide) (hts _ hw_97) (fun _ h9 => h9) rfl kd_prog_3_method_15_code_72 ?_
              refine va_get (D := D) (ci := 1) (v := .ref (q 11)) (C := kr_P) (T := kt_P) (N := kn_P) hx hb hts ki_P hown hK hV.1 1 rfl rfl 8 (by decide) (hts _ hw_56) (fun _ h9 => h9) rfl kd_prog_3_method_15_code_75 ?_
              refine lv_iload_n hx hb kd_prog_3_method_15_code_78 rfl (lv_at hl 3 rfl) ?_
              obtain ⟨hin, h⟩ := h
              refine va_iald hx hb hK hV.1 11 6 rfl rfl hin kd_prog_3_method_15_code_79 ?_
              refine lv_topi (fun v9 ev9 => ?_)
              have h := h v9 ev9
              refine wk_calli (va_runV (As := [.int x3, .int v9]) (rest := [.int v8]) ⟨hx, hb, hml, hown, hts⟩ (c_O_narrowLate l D q cA x3 v9 z7 H.size _ h) (cwV 2 hts gs_O_123 rfl rfl rfl (by decide +kernel) ⟨Nat.le_trans (by decide) hRf, Nat.le_trans (by decide) hRl⟩) (wk_preV hK hV 2 2 rfl rfl [.int x3, .int v9]) rfl rfl hl.1 rfl (lv_room (Nat.le_of_ble_eq_true rfl)) kd_prog_3_method_15_code_80 ⟨hce, hsl⟩) hV hA (fun rz10 z10 H locs h hV => ?_)
              refine lv_ior hx hb kd_prog_3_method_15_code_83 ?_
              refine lv_topi (fun v11 ev11 => ?_)
              have h := h v11 ev11
              refine lv_istore_n hx hb kd_prog_3_method_15_code_84 rfl hl (by decide) rfl (fun ls hl => ?_)
              have hl : lv_has ls 4 [(1, .int v11), (0, .ref (q 2)), (2, .int x2), (3, .int x3)] := hl
              exact J85 v11 x2 x3 z10 H locs ls hV (lv_sub hl [1, 0, 2, 3] rfl) h
      intro x1 x2 z H locs ls hV hl h
      rw [lp_O_flowLate_16] at h
      refine lv_iload_n hx hb kd_prog_3_method_15_code_16 rfl (lv_at hl 1 rfl) ?_
      refine lv_if_eq (tgt := 97) hx hb kd_prog_3_method_15_code_17 (by decide) (fun hc => ?_) (fun hc => ?_)
      · have h := h.1 hc
        exact J97 z H locs ls hV (lv_sub hl [] rfl) h
      · have h := h.2 hc
        refine lv_iload_n hx hb kd_prog_3_method_15_code_20 rfl (lv_at hl 2 rfl) ?_
        refine lv_sipush (v := 385) hx hb kd_prog_3_method_15_code_21 (by decide) ?_
        refine lv_icmp_ge (tgt := 97) hx hb kd_prog_3_method_15_code_24 (by decide) (fun hc => ?_) (fun hc => ?_)
        · have h := h.1 hc
          exact J97 z H locs ls hV (lv_sub hl [] rfl) h
        · have h := h.2 hc
          refine lv_iconst (v := 0) hx hb kd_prog_3_method_15_code_27 (by decide) ?_
          refine lv_istore_n hx hb kd_prog_3_method_15_code_28 rfl hl (by decide) rfl (fun ls hl => ?_)
          have hl : lv_has ls 4 [(1, .int 0), (0, .ref (q 2)), (2, .int x2)] := hl
          refine lv_iconst (v := 0) hx hb kd_prog_3_method_15_code_29 (by decide) ?_
          refine lv_istore_n hx hb kd_prog_3_method_15_code_30 rfl hl (by decide) rfl (fun ls hl => ?_)
          have hl : lv_has ls 4 [(3, .int 0), (1, .int 0), (0, .ref (q 2)), (2, .int x2)] := hl
          obtain ⟨n31, h⟩ := h
          exact L31 n31 0 x2 0 z H locs ls hV (lv_sub hl [2, 1, 3, 0] rfl) h
  unfold wp_O_flowLate at h
  refine lv_aload_n hx hb kd_prog_3_method_15_code_0 rfl (lv_at hl 0 rfl) ?_
  refine va_get (D := D) (ci := 2) (v := .ref (q 24)) (C := kr_O) (T := kt_O) (N := kn_O) hx hb hts ki_O hown hK hV.1 2 rfl rfl 9 (by decide) (hts _ hw_106) (fun _ h9 => h9) rfl kd_prog_3_method_15_code_1 ?_
  refine lv_iconst (v := 0) hx hb kd_prog_3_method_15_code_4 (by decide) ?_
  refine lv_aload_n hx hb kd_prog_3_method_15_code_5 rfl (lv_at hl 0 rfl) ?_
  refine lv_iconst (v := (-1)) hx hb kd_prog_3_method_15_code_6 (by decide) ?_
  refine lv_iconst (v := 0) hx hb kd_prog_3_method_15_code_7 (by decide) ?_
  refine wk_calll (va_runV (As := [.int (-1 : Int32), .int (0 : Int32)]) (rest := [.int (0 : Int32), .ref (q 24)]) ⟨hx, hb, hml, hown, hts⟩ (c_O_laterOn l D q cA (-1) 0 z H.size _ h) (cwV 2 hts gs_O_91 rfl rfl rfl (by decide +kernel) ⟨Nat.le_trans (by decide) hRf, Nat.le_trans (by decide) hRl⟩) (wk_preV hK hV 2 2 rfl rfl [.int (-1 : Int32), .int (0 : Int32)]) rfl rfl hl.1 rfl (lv_room (Nat.le_of_ble_eq_true rfl)) kd_prog_3_method_15_code_8 ⟨hce, hsl⟩) hV hA (fun rz1 z1 H locs h hV => ?_)
  obtain ⟨hin, h⟩ := h
  refine wk_last hx hb hK hV 24 19 8 rfl rfl (ks_24 q cA z1) hin kd_prog_3_method_15_code_11 (fun H locs hV => ?_)
  obtain ⟨z2, ez2⟩ : ∃ x : Sta, x = zL z1 8 (vp_updL (z1.2.2 8) (0 : Int32).toNatClampNeg rz1) := ⟨_, rfl⟩
  rw [← ez2] at hV
  have h := h z2 ez2
  refine lv_iconst (v := 1) hx hb kd_prog_3_method_15_code_12 (by decide) ?_
  refine lv_istore_n hx hb kd_prog_3_method_15_code_13 rfl hl (by decide) rfl (fun ls hl => ?_)
  have hl : lv_has ls 4 [(1, .int 1), (0, .ref (q 2))] := hl
  refine lv_iconst (v := 0) hx hb kd_prog_3_method_15_code_14 (by decide) ?_
  refine lv_istore_n hx hb kd_prog_3_method_15_code_15 rfl hl (by decide) rfl (fun ls hl => ?_)
  have hl : lv_has ls 4 [(2, .int 0), (1, .int 1), (0, .ref (q 2))] := hl
  obtain ⟨n16, h⟩ := h
  exact L16 n16 1 0 z2 H locs ls hV (lv_sub hl [2, 1, 0] rfl) h
end
set_option maxHeartbeats 4000000 in
set_option maxRecDepth 100000 in
theorem c_O_flowLate (l : Launch) (D : va_G) (q : Nat → Nat) (cA : Nat → ClassId) (z : Sta) (sz : Nat) (K : Sta → Prop) (h : wp_O_flowLate z K) : Met l ke_O_flowLate (kc_O_flowLate :: lw_g) { frames := 2, cells := 0, slots := 0, locals := 47 } (wk_Pc D q cA [.ref (q 2)] z sz) (va_Qv K (wk_B D q cA (va_A (wW q cA z) sz)) (va_A (wW q cA z) sz)) 0 0 (va_A (wW q cA z) sz) := by
  refine Met.ofW (cc := prog_3_method_15_code) (maxL := 4) (ret := none) (by decide) rfl ?_
  intro p e s m args below meth c s₁ B hml hv
  obtain ⟨rfl, hsz, hP, hK, hD0⟩ := hv
  have hx := B.exec
  have hb := B.bytes
  have hr := B.returns
  have hlocks := B.notSynchronized
  have hts0 := atoms_spec (ws := kc_O_flowLate :: lw_g) B.pre
  have hts : ∀ w ∈ lw_g, w.before ([.ref (q 2)] : List Value).toArray s = true := fun w hw => hts0 w (List.mem_cons_of_mem _ hw)
  have hown : s.vm.findClass kr_O = some m.cls := findClass_of_methodNamed B.named
  subst hsz
  have hD := hD0.self (sz := s.heap.size)
  generalize hAe : va_A (wW q cA z) s.heap.size = A at hD ⊢
  have hA : ∀ x : Nat, s.heap.size ≤ x → A x := fun x hx => by rw [← hAe]; exact Or.inr hx
  have hl := lv_entry ([.ref (q 2)]) (n := 4) (Nat.le_of_ble_eq_true rfl)
  rw [lg_entry_eq]
  generalize (lg_sl ([.ref (q 2)]) ++ List.replicate (4 - (lg_sl ([.ref (q 2)])).length) Slot.unset).toArray = ls at hl ⊢
  have hl : lv_has ls 4 [(0, .ref (q 2))] := hl
  exact w_O_flowLate hx hb hml hown hts (Nat.le_refl _) (Nat.le_refl _) (Nat.zero_le _) (Nat.zero_le _) hA hK z K h (fun u H locs pc ls hk hV hd => W.vret hx hb hr (fun t ht hW => ⟨⟨u, rfl, hk, by rw [ht]; exact hV.1, va_K.moved hW.alike hK, hV.2.1⟩, hV.2.2.F ht⟩) hV.2.2.2.2 hd) ⟨hP, hD, va_S.rf⟩ hl
section
variable {p : Program} {l : Launch} {e : Env} {R : Room} {s : State} {m : MethodId} {args : Array Value} {below : List Frame} {meth : Method} {c : Code} {Q : State → Prop} {ce sl : Nat} {D : va_G} {q : Nat → Nat} {cA : Nat → ClassId} {A : Nat → Prop}
set_option maxHeartbeats 4000000 in
set_option maxRecDepth 100000 in
theorem w_O_readBlock (hx : p.tables.exec = Jvm.exec) (hb : c.code = prog_3_method_10_code) (hml : c.maxLocals = 6) (hown : s.vm.findClass kr_O = some m.cls) (hts : ∀ w ∈ lw_g, w.before args s = true) (hRf : 0 ≤ R.frames) (hRl : 0 ≤ R.locals) (hce : ce ≤ R.cells) (hsl : sl ≤ R.slots) (hA : ∀ x, s.heap.size ≤ x → A x) (hK : va_K D wk_cl (tysW cA) s) (x1 : Int32) (z : Sta) (K : Sta → Prop) (h : wp_O_readBlock x1 z K) (hret : ∀ (u : Sta) (H : Heap) (locs : List Loc) (pc : Nat) (ls : Array Slot), K u → wk_S D q cA A s.heap u H locs → decode prog_3_method_10_code pc = .ok (.return_, 1) → W p l e R s m args below meth c H locs ce sl Q (F0 m pc ls [])) {H : Heap} {locs : List Loc} {ls : Array Slot} (hV : wk_S D q cA A s.heap z H locs) (hl : lv_has ls 6 [(0, .ref (q 2)), (1, .int x1)]) : W p l e R s m args below meth c H locs ce sl Q (F0 m 0 ls []) := by
  have L37 : ∀ (n : Nat) (x1 : Int32) (x2 : Int32) (x3 : Int32) (z : Sta) (H : Heap) (locs : List Loc) (ls : Array Slot), wk_S D q cA A s.heap z H locs → lv_has ls 6 [(0, .ref (q 2)), (1, .int x1), (2, .int x2), (3, .int x3)] → lp_O_readBlock_37 K n x1 x2 x3 z → W p l e R s m args below meth c H locs ce sl Q (F0 m 37 ls []) := by
    intro n37
    induction n37 with
    | zero => intro x1 x2 x3 z H locs ls hV hl h; rw [lp_O_readBlock_37] at h; exact h.elim
    | succ n37 ih37 =>
      have J169 : ∀ (x1 : Int32) (x2 : Int32) (x3 : Int32) (z : Sta) (H : Heap) (locs : List Loc) (ls : Array Slot), wk_S D q cA A s.heap z H locs → lv_has ls 6 [(0, .ref (q 2)), (1, .int x1), (2, .int x2), (3, .int x3)] → pj_O_readBlock_169 K (fun x1 x2 x3 z => lp_O_readBlock_37 K n37 x1 x2 x3 z) x1 x2 x3 z → W p l e R s m args below meth c H locs ce sl Q (F0 m 169 ls []) := by
        intro x1 x2 x3 z H locs ls hV hl h
        unfold pj_O_readBlock_169 at h
        obtain ⟨v30, ev30⟩ : ∃ v : Int32, v = x3 + 1 := ⟨_, rfl⟩
        have h := h v30 ev30
        refine lv_iinc (v := v30) (k := 3) hx hb kd_prog_3_method_10_code_169 hl rfl (by rw [ev30]; rfl) (by decide) rfl (fun ls hl => ?_)
        have hl : lv_has ls 6 [(3, .int v30), (0, .ref (q 2)), (1, .int x1), (2, .int x2)] := hl
        refine lv_goto (tgt := 37) hx hb kd_prog_3_method_10_code_172 (by decide) ?_
        exact ih37 x1 x2 v30 z H locs ls hV (lv_sub hl [1, 2, 3, 0] rfl) h
      have J111 : ∀ (x1 : Int32) (x2 : Int32) (x3 : Int32) (z : Sta) (H : Heap) (locs : List Loc) (ls : Array Slot), wk_S D q cA A s.heap z H locs → lv_has ls 6 [(0, .ref (q 2)), (1, .int x1), (2, .int x2), (3, .int x3)] → pj_O_readBlock_111 K (fun x1 x2 x3 z => lp_O_readBlock_37 K n37 x1 x2 x3 z) x1 x2 x3 z → W p l e R s m args below meth c H locs ce sl Q (F0 m 111 ls []) := by
        intro x1 x2 x3 z H locs ls hV hl h
        unfold pj_O_readBlock_111 at h
        refine lv_aload_n hx hb kd_prog_3_method_10_code_111 rfl (lv_at hl 0 rfl) ?_
        refine va_get (D := D) (ci := 2) (v := .ref (q 1)) (C := kr_O) (T := kt_O) (N := kn_O) hx hb hts ki_O hown hK hV.1 2 rfl rfl 0 (by decide) (hts _ hw_97) (fun _ h9 => h9) rfl kd_prog_3_method_10_code_112 ?_
        refine va_get (D := D) (ci := 1) (v := .ref (q 6)) (C := kr_P) (T := kt_P) (N := kn_P) hx hb hts ki_P hown hK hV.1 1 rfl rfl 3 (by decide) (hts _ hw_42) (fun _ h9 => h9) rfl kd_prog_3_method_10_code_115 ?_
        refine lv_iload_n hx hb kd_prog_3_method_10_code_118 rfl (lv_at hl 3 rfl) ?_
        obtain ⟨hin, h⟩ := h
        refine va_iald hx hb hK hV.1 6 1 rfl rfl hin kd_prog_3_method_10_code_119 ?_
        refine lv_topi (fun v20 ev20 => ?_)
        have h := h v20 ev20
        refine lv_iconst (v := 3) hx hb kd_prog_3_method_10_code_120 (by decide) ?_
        refine lv_icmp_eq (tgt := 169) hx hb kd_prog_3_method_10_code_121 (by decide) (fun hc => ?_) (fun hc => ?_)
        · have h := h.1 hc
          exact J169 x1 x2 x3 z H locs ls hV (lv_sub hl [0, 1, 2, 3] rfl) h
        · have h := h.2 hc
          refine lv_aload_n hx hb kd_prog_3_method_10_code_124 rfl (lv_at hl 0 rfl) ?_
          refine va_get (D := D) (ci := 2) (v := .ref (q 1)) (C := kr_O) (T := kt_O) (N := kn_O) hx hb hts ki_O hown hK hV.1 2 rfl rfl 0 (by decide) (hts _ hw_97) (fun _ h9 => h9) rfl kd_prog_3_method_10_code_125 ?_
          refine va_get (D := D) (ci := 1) (v := .ref (q 15)) (C := kr_P) (T := kt_P) (N := kn_P) hx hb hts ki_P hown hK hV.1 1 rfl rfl 12 (by decide) (hts _ hw_61) (fun _ h9 => h9) rfl kd_prog_3_method_10_code_128 ?_
          refine lv_aload_n hx hb kd_prog_3_method_10_code_131 rfl (lv_at hl 0 rfl) ?_
          refine va_get (D := D) (ci := 2) (v := .ref (q 1)) (C := kr_O) (T := kt_O) (N := kn_O) hx hb hts ki_O hown hK hV.1 2 rfl rfl 0 (by decide) (hts _ hw_97) (fun _ h9 => h9) rfl kd_prog_3_method_10_code_132 ?_
          refine va_get (D := D) (ci := 1) (v := .ref (q 7)) (C := kr_P) (T := kt_P) (N := kn_P) hx hb hts ki_P hown hK hV.1 1 rfl rfl 4 (by decide) (hts _ hw_45) (fun _ h9 => h9) rfl kd_prog_3_method_10_code_135 ?_
          refine lv_iload_n hx hb kd_prog_3_method_10_code_138 rfl (lv_at hl 3 rfl) ?_
          obtain ⟨hin, h⟩ := h
          refine va_iald hx hb hK hV.1 7 2 rfl rfl hin kd_prog_3_method_10_code_139 ?_
          refine lv_topi (fun v21 ev21 => ?_)
          have h := h v21 ev21
          obtain ⟨hin, h⟩ := h
          refine va_lald hx hb hK hV.1 15 10 rfl rfl hin kd_prog_3_method_10_code_140 ?_
          refine lv_topl (fun v22 ev22 => ?_)
          have h := h v22 ev22
          refine lv_lstore hx hb kd_prog_3_method_10_code_141 hl (by decide) rfl (fun ls hl => ?_)
          have hl : lv_has ls 6 [(4, .long v22), (0, .ref (q 2)), (1, .int x1), (2, .int x2), (3, .int x3)] := hl
          refine lv_aload_n hx hb kd_prog_3_method_10_code_143 rfl (lv_at hl 1 rfl) ?_
          refine va_get (D := D) (ci := 2) (v := .ref (q 17)) (C := kr_O) (T := kt_O) (N := kn_O) hx hb hts ki_O hown hK hV.1 2 rfl rfl 2 (by decide) (hts _ hw_99) (fun _ h9 => h9) rfl kd_prog_3_method_10_code_144 ?_
          refine lv_iload_n hx hb kd_prog_3_method_10_code_147 rfl (lv_at hl 2 rfl) ?_
          refine lv_dup2_11 hx hb kd_prog_3_method_10_code_148 rfl rfl ?_
          obtain ⟨hin, h⟩ := h
          refine va_lald hx hb hK hV.1 17 12 rfl rfl hin kd_prog_3_method_10_code_149 ?_
          refine lv_topl (fun v23 ev23 => ?_)
          have h := h v23 ev23
          refine lv_lload hx hb kd_prog_3_method_10_code_150 (lv_at hl 0 rfl) ?_
          refine lv_lor hx hb kd_prog_3_method_10_code_152 ?_
          refine lv_topl (fun v24 ev24 => ?_)
          have h := h v24 ev24
          obtain ⟨hin, h⟩ := h
          refine wk_last hx hb hK hV 17 12 1 rfl rfl (ks_17 q cA z) hin kd_prog_3_method_10_code_153 (fun H locs hV => ?_)
          obtain ⟨z25, ez25⟩ : ∃ x : Sta, x = zL z 1 (vp_updL (z.2.2 1) x1.toNatClampNeg v24) := ⟨_, rfl⟩
          rw [← ez25] at hV
          have h := h z25 ez25
          refine lv_aload_n hx hb kd_prog_3_method_10_code_154 rfl (lv_at hl 1 rfl) ?_
          refine va_get (D := D) (ci := 2) (v := .ref (q 19)) (C := kr_O) (T := kt_O) (N := kn_O) hx hb hts ki_O hown hK hV.1 2 rfl rfl 4 (by decide) (hts _ hw_101) (fun _ h9 => h9) rfl kd_prog_3_method_10_code_155 ?_
          refine lv_iload_n hx hb kd_prog_3_method_10_code_158 rfl (lv_at hl 2 rfl) ?_
          refine lv_dup2_11 hx hb kd_prog_3_method_10_code_159 rfl rfl ?_
          obtain ⟨hin, h⟩ := h
          refine va_lald hx hb hK hV.1 19 14 rfl rfl hin kd_prog_3_method_10_code_160 ?_
          refine lv_topl (fun v26 ev26 => ?_)
          have h := h v26 ev26
          refine lv_lload hx hb kd_prog_3_method_10_code_161 (lv_at hl 0 rfl) ?_
          refine lv_ldc2 (v := (-1)) hx hb hown (hts _ hw_395) kd_prog_3_method_10_code_163 ?_
          refine lv_lxor hx hb kd_prog_3_method_10_code_166 ?_
          refine lv_topl (fun v27 ev27 => ?_)
          have h := h v27 ev27
          refine lv_land hx hb kd_prog_3_method_10_code_167 ?_
          refine lv_topl (fun v28 ev28 => ?_)
          have h := h v28 ev28
          obtain ⟨hin, h⟩ := h
          refine wk_last hx hb hK hV 19 14 3 rfl rfl (ks_19 q cA z25) hin kd_prog_3_method_10_code_168 (fun H locs hV => ?_)
          obtain ⟨z29, ez29⟩ : ∃ x : Sta, x = zL z25 3 (vp_updL (z25.2.2 3) x1.toNatClampNeg v28) := ⟨_, rfl⟩
          rw [← ez29] at hV
          have h := h z29 ez29
          exact J169 x1 x2 x3 z29 H locs ls hV (lv_sub hl [1, 2, 3, 4] rfl) h
      intro x1 x2 x3 z H locs ls hV hl h
      rw [lp_O_readBlock_37] at h
      refine lv_iload_n hx hb kd_prog_3_method_10_code_37 rfl (lv_at hl 3 rfl) ?_
      refine lv_iload_n hx hb kd_prog_3_method_10_code_38 rfl (lv_at hl 2 rfl) ?_
      refine lv_aload_n hx hb kd_prog_3_method_10_code_39 rfl (lv_at hl 0 rfl) ?_
      refine va_get (D := D) (ci := 2) (v := .ref (q 1)) (C := kr_O) (T := kt_O) (N := kn_O) hx hb hts ki_O hown hK hV.1 2 rfl rfl 0 (by decide) (hts _ hw_97) (fun _ h9 => h9) rfl kd_prog_3_method_10_code_40 ?_
      refine va_get (D := D) (ci := 1) (v := .ref (q 5)) (C := kr_P) (T := kt_P) (N := kn_P) hx hb hts ki_P hown hK hV.1 1 rfl rfl 2 (by decide) (hts _ hw_39) (fun _ h9 => h9) rfl kd_prog_3_method_10_code_43 ?_
      refine lv_iload_n hx hb kd_prog_3_method_10_code_46 rfl (lv_at hl 1 rfl) ?_
      obtain ⟨hin, h⟩ := h
      refine va_iald hx hb hK hV.1 5 0 rfl rfl hin kd_prog_3_method_10_code_47 ?_
      refine lv_topi (fun v6 ev6 => ?_)
      have h := h v6 ev6
      refine lv_iadd hx hb kd_prog_3_method_10_code_48 ?_
      refine lv_topi (fun v7 ev7 => ?_)
      have h := h v7 ev7
      refine lv_icmp_ge (tgt := 175) hx hb kd_prog_3_method_10_code_49 (by decide) (fun hc => ?_) (fun hc => ?_)
      · have h := h.1 hc
        exact hret z H locs 175 ls h hV kd_prog_3_method_10_code_175
      · have h := h.2 hc
        refine lv_aload_n hx hb kd_prog_3_method_10_code_52 rfl (lv_at hl 0 rfl) ?_
        refine va_get (D := D) (ci := 2) (v := .ref (q 1)) (C := kr_O) (T := kt_O) (N := kn_O) hx hb hts ki_O hown hK hV.1 2 rfl rfl 0 (by decide) (hts _ hw_97) (fun _ h9 => h9) rfl kd_prog_3_method_10_code_53 ?_
        refine va_get (D := D) (ci := 1) (v := .ref (q 6)) (C := kr_P) (T := kt_P) (N := kn_P) hx hb hts ki_P hown hK hV.1 1 rfl rfl 3 (by decide) (hts _ hw_42) (fun _ h9 => h9) rfl kd_prog_3_method_10_code_56 ?_
        refine lv_iload_n hx hb kd_prog_3_method_10_code_59 rfl (lv_at hl 3 rfl) ?_
        obtain ⟨hin, h⟩ := h
        refine va_iald hx hb hK hV.1 6 1 rfl rfl hin kd_prog_3_method_10_code_60 ?_
        refine lv_topi (fun v8 ev8 => ?_)
        have h := h v8 ev8
        refine lv_iconst (v := 2) hx hb kd_prog_3_method_10_code_61 (by decide) ?_
        refine lv_icmp_ne (tgt := 111) hx hb kd_prog_3_method_10_code_62 (by decide) (fun hc => ?_) (fun hc => ?_)
        · have h := h.1 hc
          exact J111 x1 x2 x3 z H locs ls hV (lv_sub hl [0, 1, 2, 3] rfl) h
        · have h := h.2 hc
          refine lv_lconst (v := 1) hx hb kd_prog_3_method_10_code_65 (by decide) ?_
          refine lv_aload_n hx hb kd_prog_3_method_10_code_66 rfl (lv_at hl 0 rfl) ?_
          refine va_get (D := D) (ci := 2) (v := .ref (q 1)) (C := kr_O) (T := kt_O) (N := kn_O) hx hb hts ki_O hown hK hV.1 2 rfl rfl 0 (by decide) (hts _ hw_97) (fun _ h9 => h9) rfl kd_prog_3_method_10_code_67 ?_
          refine va_get (D := D) (ci := 1) (v := .ref (q 8)) (C := kr_P) (T := kt_P) (N := kn_P) hx hb hts ki_P hown hK hV.1 1 rfl rfl 5 (by decide) (hts _ hw_48) (fun _ h9 => h9) rfl kd_prog_3_method_10_code_70 ?_
          refine lv_iload_n hx hb kd_prog_3_method_10_code_73 rfl (lv_at hl 3 rfl) ?_
          obtain ⟨hin, h⟩ := h
          refine va_iald hx hb hK hV.1 8 3 rfl rfl hin kd_prog_3_method_10_code_74 ?_
          refine lv_topi (fun v9 ev9 => ?_)
          have h := h v9 ev9
          refine lv_lshl hx hb kd_prog_3_method_10_code_75 rfl ?_
          refine lv_topl (fun v10 ev10 => ?_)
          have h := h v10 ev10
          refine lv_lstore hx hb kd_prog_3_method_10_code_76 hl (by decide) rfl (fun ls hl => ?_)
          have hl : lv_has ls 6 [(4, .long v10), (0, .ref (q 2)), (1, .int x1), (2, .int x2), (3, .int x3)] := hl
          refine lv_aload_n hx hb kd_prog_3_method_10_code_78 rfl (lv_at hl 1 rfl) ?_
          refine va_get (D := D) (ci := 2) (v := .ref (q 18)) (C := kr_O) (T := kt_O) (N := kn_O) hx hb hts ki_O hown hK hV.1 2 rfl rfl 3 (by decide) (hts _ hw_100) (fun _ h9 => h9) rfl kd_prog_3_method_10_code_79 ?_
          refine lv_iload_n hx hb kd_prog_3_method_10_code_82 rfl (lv_at hl 2 rfl) ?_
          refine lv_dup2_11 hx hb kd_prog_3_method_10_code_83 rfl rfl ?_
          obtain ⟨hin, h⟩ := h
          refine va_lald hx hb hK hV.1 18 13 rfl rfl hin kd_prog_3_method_10_code_84 ?_
          refine lv_topl (fun v11 ev11 => ?_)
          have h := h v11 ev11
          refine lv_lload hx hb kd_prog_3_method_10_code_85 (lv_at hl 0 rfl) ?_
          refine lv_aload_n hx hb kd_prog_3_method_10_code_87 rfl (lv_at hl 1 rfl) ?_
          refine va_get (D := D) (ci := 2) (v := .ref (q 17)) (C := kr_O) (T := kt_O) (N := kn_O) hx hb hts ki_O hown hK hV.1 2 rfl rfl 2 (by decide) (hts _ hw_99) (fun _ h9 => h9) rfl kd_prog_3_method_10_code_88 ?_
          refine lv_iload_n hx hb kd_prog_3_method_10_code_91 rfl (lv_at hl 2 rfl) ?_
          obtain ⟨hin, h⟩ := h
          refine va_lald hx hb hK hV.1 17 12 rfl rfl hin kd_prog_3_method_10_code_92 ?_
          refine lv_topl (fun v12 ev12 => ?_)
          have h := h v12 ev12
          refine lv_ldc2 (v := (-1)) hx hb hown (hts _ hw_395) kd_prog_3_method_10_code_93 ?_
          refine lv_lxor hx hb kd_prog_3_method_10_code_96 ?_
          refine lv_topl (fun v13 ev13 => ?_)
          have h := h v13 ev13
          refine lv_land hx hb kd_prog_3_method_10_code_97 ?_
          refine lv_topl (fun v14 ev14 => ?_)
          have h := h v14 ev14
          refine lv_lor hx hb kd_prog_3_method_10_code_98 ?_
          refine lv_topl (fun v15 ev15 => ?_)
          have h := h v15 ev15
          obtain ⟨hin, h⟩ := h
          refine wk_last hx hb hK hV 18 13 2 rfl rfl (ks_18 q cA z) hin kd_prog_3_method_10_code_99 (fun H locs hV => ?_)
          obtain ⟨z16, ez16⟩ : ∃ x : Sta, x = zL z 2 (vp_updL (z.2.2 2) x1.toNatClampNeg v15) := ⟨_, rfl⟩
          rw [← ez16] at hV
          have h := h z16 ez16
          refine lv_aload_n hx hb kd_prog_3_method_10_code_100 rfl (lv_at hl 1 rfl) ?_
          refine va_get (D := D) (ci := 2) (v := .ref (q 19)) (C := kr_O) (T := kt_O) (N := kn_O) hx hb hts ki_O hown hK hV.1 2 rfl rfl 4 (by decide) (hts _ hw_101) (fun _ h9 => h9) rfl kd_prog_3_method_10_code_101 ?_
          refine lv_iload_n hx hb kd_prog_3_method_10_code_104 rfl (lv_at hl 2 rfl) ?_
          refine lv_dup2_11 hx hb kd_prog_3_method_10_code_105 rfl rfl ?_
          obtain ⟨hin, h⟩ := h
          refine va_lald hx hb hK hV.1 19 14 rfl rfl hin kd_prog_3_method_10_code_106 ?_
          refine lv_topl (fun v17 ev17 => ?_)
          have h := h v17 ev17
          refine lv_lload hx hb kd_prog_3_method_10_code_107 (lv_at hl 0 rfl) ?_
          refine lv_lor hx hb kd_prog_3_method_10_code_109 ?_
          refine lv_topl (fun v18 ev18 => ?_)
          have h := h v18 ev18
          obtain ⟨hin, h⟩ := h
          refine wk_last hx hb hK hV 19 14 3 rfl rfl (ks_19 q cA z16) hin kd_prog_3_method_10_code_110 (fun H locs hV => ?_)
          obtain ⟨z19, ez19⟩ : ∃ x : Sta, x = zL z16 3 (vp_updL (z16.2.2 3) x1.toNatClampNeg v18) := ⟨_, rfl⟩
          rw [← ez19] at hV
          have h := h z19 ez19
          exact J111 x1 x2 x3 z19 H locs ls hV (lv_sub hl [1, 2, 3, 4] rfl) h
  unfold wp_O_readBlock at h
  refine lv_aload_n hx hb kd_prog_3_method_10_code_0 rfl (lv_at hl 0 rfl) ?_
  refine va_get (D := D) (ci := 2) (v := .ref (q 17)) (C := kr_O) (T := kt_O) (N := kn_O) hx hb hts ki_O hown hK hV.1 2 rfl rfl 2 (by decide) (hts _ hw_99) (fun _ h9 => h9) rfl kd_prog_3_method_10_code_1 ?_
  refine lv_iload_n hx hb kd_prog_3_method_10_code_4 rfl (lv_at hl 1 rfl) ?_
  refine lv_lconst (v := 0) hx hb kd_prog_3_method_10_code_5 (by decide) ?_
  obtain ⟨hin, h⟩ := h
  refine wk_last hx hb hK hV 17 12 1 rfl rfl (ks_17 q cA z) hin kd_prog_3_method_10_code_6 (fun H locs hV => ?_)
  obtain ⟨z1, ez1⟩ : ∃ x : Sta, x = zL z 1 (vp_updL (z.2.2 1) x1.toNatClampNeg (0 : Int64)) := ⟨_, rfl⟩
  rw [← ez1] at hV
  have h := h z1 ez1
  refine lv_aload_n hx hb kd_prog_3_method_10_code_7 rfl (lv_at hl 0 rfl) ?_
  refine va_get (D := D) (ci := 2) (v := .ref (q 18)) (C := kr_O) (T := kt_O) (N := kn_O) hx hb hts ki_O hown hK hV.1 2 rfl rfl 3 (by decide) (hts _ hw_100) (fun _ h9 => h9) rfl kd_prog_3_method_10_code_8 ?_
  refine lv_iload_n hx hb kd_prog_3_method_10_code_11 rfl (lv_at hl 1 rfl) ?_
  refine lv_lconst (v := 0) hx hb kd_prog_3_method_10_code_12 (by decide) ?_
  obtain ⟨hin, h⟩ := h
  refine wk_last hx hb hK hV 18 13 2 rfl rfl (ks_18 q cA z1) hin kd_prog_3_method_10_code_13 (fun H locs hV => ?_)
  obtain ⟨z2, ez2⟩ : ∃ x : Sta, x = zL z1 2 (vp_updL (z1.2.2 2) x1.toNatClampNeg (0 : Int64)) := ⟨_, rfl⟩
  rw [← ez2] at hV
  have h := h z2 ez2
  refine lv_aload_n hx hb kd_prog_3_method_10_code_14 rfl (lv_at hl 0 rfl) ?_
  refine va_get (D := D) (ci := 2) (v := .ref (q 19)) (C := kr_O) (T := kt_O) (N := kn_O) hx hb hts ki_O hown hK hV.1 2 rfl rfl 4 (by decide) (hts _ hw_101) (fun _ h9 => h9) rfl kd_prog_3_method_10_code_15 ?_
  refine lv_iload_n hx hb kd_prog_3_method_10_code_18 rfl (lv_at hl 1 rfl) ?_
  refine lv_lconst (v := 0) hx hb kd_prog_3_method_10_code_19 (by decide) ?_
  obtain ⟨hin, h⟩ := h
  refine wk_last hx hb hK hV 19 14 3 rfl rfl (ks_19 q cA z2) hin kd_prog_3_method_10_code_20 (fun H locs hV => ?_)
  obtain ⟨z3, ez3⟩ : ∃ x : Sta, x = zL z2 3 (vp_updL (z2.2.2 3) x1.toNatClampNeg (0 : Int64)) := ⟨_, rfl⟩
  rw [← ez3] at hV
  have h := h z3 ez3
  refine lv_aload_n hx hb kd_prog_3_method_10_code_21 rfl (lv_at hl 0 rfl) ?_
  refine va_get (D := D) (ci := 2) (v := .ref (q 16)) (C := kr_O) (T := kt_O) (N := kn_O) hx hb hts ki_O hown hK hV.1 2 rfl rfl 1 (by decide) (hts _ hw_98) (fun _ h9 => h9) rfl kd_prog_3_method_10_code_22 ?_
  refine lv_iload_n hx hb kd_prog_3_method_10_code_25 rfl (lv_at hl 1 rfl) ?_
  obtain ⟨hin, h⟩ := h
  refine va_zald hx hb hK hV.1 16 11 rfl rfl hin kd_prog_3_method_10_code_26 ?_
  refine lv_topi (fun v4 ev4 => ?_)
  have h := h v4 ev4
  refine lv_if_ne (tgt := 31) hx hb kd_prog_3_method_10_code_27 (by decide) (fun hc => ?_) (fun hc => ?_)
  · have h := h.1 hc
    refine lv_iload_n hx hb kd_prog_3_method_10_code_31 rfl (lv_at hl 1 rfl) ?_
    refine lv_iconst (v := 5) hx hb kd_prog_3_method_10_code_32 (by decide) ?_
    refine lv_imul hx hb kd_prog_3_method_10_code_33 ?_
    refine lv_topi (fun v5 ev5 => ?_)
    have h := h v5 ev5
    refine lv_istore_n hx hb kd_prog_3_method_10_code_34 rfl hl (by decide) rfl (fun ls hl => ?_)
    have hl : lv_has ls 6 [(2, .int v5), (0, .ref (q 2)), (1, .int x1)] := hl
    refine lv_iload_n hx hb kd_prog_3_method_10_code_35 rfl (lv_at hl 0 rfl) ?_
    refine lv_istore_n hx hb kd_prog_3_method_10_code_36 rfl hl (by decide) rfl (fun ls hl => ?_)
    have hl : lv_has ls 6 [(3, .int v5), (2, .int v5), (0, .ref (q 2)), (1, .int x1)] := hl
    obtain ⟨n37, h⟩ := h
    exact L37 n37 x1 v5 v5 z3 H locs ls hV (lv_sub hl [2, 3, 1, 0] rfl) h
  · have h := h.2 hc
    exact hret z3 H locs 30 ls h hV kd_prog_3_method_10_code_30
end
set_option maxHeartbeats 4000000 in
set_option maxRecDepth 100000 in
theorem c_O_readBlock (l : Launch) (D : va_G) (q : Nat → Nat) (cA : Nat → ClassId) (x1 : Int32) (z : Sta) (sz : Nat) (K : Sta → Prop) (h : wp_O_readBlock x1 z K) : Met l ke_O_readBlock (kc_O_readBlock :: lw_g) { frames := 0, cells := 0, slots := 0, locals := 0 } (wk_Pc D q cA [.ref (q 2), .int x1] z sz) (va_Qv K (wk_B D q cA (va_A (wW q cA z) sz)) (va_A (wW q cA z) sz)) 0 0 (va_A (wW q cA z) sz) := by
  refine Met.ofW (cc := prog_3_method_10_code) (maxL := 6) (ret := none) (by decide) rfl ?_
  intro p e s m args below meth c s₁ B hml hv
  obtain ⟨rfl, hsz, hP, hK, hD0⟩ := hv
  have hx := B.exec
  have hb := B.bytes
  have hr := B.returns
  have hlocks := B.notSynchronized
  have hts0 := atoms_spec (ws := kc_O_readBlock :: lw_g) B.pre
  have hts : ∀ w ∈ lw_g, w.before ([.ref (q 2), .int x1] : List Value).toArray s = true := fun w hw => hts0 w (List.mem_cons_of_mem _ hw)
  have hown : s.vm.findClass kr_O = some m.cls := findClass_of_methodNamed B.named
  subst hsz
  have hD := hD0.self (sz := s.heap.size)
  generalize hAe : va_A (wW q cA z) s.heap.size = A at hD ⊢
  have hA : ∀ x : Nat, s.heap.size ≤ x → A x := fun x hx => by rw [← hAe]; exact Or.inr hx
  have hl := lv_entry ([.ref (q 2), .int x1]) (n := 6) (Nat.le_of_ble_eq_true rfl)
  rw [lg_entry_eq]
  generalize (lg_sl ([.ref (q 2), .int x1]) ++ List.replicate (6 - (lg_sl ([.ref (q 2), .int x1])).length) Slot.unset).toArray = ls at hl ⊢
  have hl : lv_has ls 6 [(0, .ref (q 2)), (1, .int x1)] := hl
  exact w_O_readBlock hx hb hml hown hts (Nat.le_refl _) (Nat.le_refl _) (Nat.zero_le _) (Nat.zero_le _) hA hK x1 z K h (fun u H locs pc ls hk hV hd => W.vret hx hb hr (fun t ht hW => ⟨⟨u, rfl, hk, by rw [ht]; exact hV.1, va_K.moved hW.alike hK, hV.2.1⟩, hV.2.2.F ht⟩) hV.2.2.2.2 hd) ⟨hP, hD, va_S.rf⟩ hl
section
variable {p : Program} {l : Launch} {e : Env} {R : Room} {s : State} {m : MethodId} {args : Array Value} {below : List Frame} {meth : Method} {c : Code} {Q : State → Prop} {ce sl : Nat} {D : va_G} {q : Nat → Nat} {cA : Nat → ClassId} {A : Nat → Prop}
set_option maxHeartbeats 4000000 in
set_option maxRecDepth 100000 in
theorem w_O_fillSets (hx : p.tables.exec = Jvm.exec) (hb : c.code = prog_3_method_11_code) (hml : c.maxLocals = 4) (hown : s.vm.findClass kr_O = some m.cls) (hts : ∀ w ∈ lw_g, w.before args s = true) (hRf : 0 ≤ R.frames) (hRl : 0 ≤ R.locals) (hce : ce ≤ R.cells) (hsl : sl ≤ R.slots) (hA : ∀ x, s.heap.size ≤ x → A x) (hK : va_K D wk_cl (tysW cA) s) (x1 : Int32) (z : Sta) (K : Sta → Prop) (h : wp_O_fillSets x1 z K) (hret : ∀ (u : Sta) (H : Heap) (locs : List Loc) (pc : Nat) (ls : Array Slot), K u → wk_S D q cA A s.heap u H locs → decode prog_3_method_11_code pc = .ok (.return_, 1) → W p l e R s m args below meth c H locs ce sl Q (F0 m pc ls [])) {H : Heap} {locs : List Loc} {ls : Array Slot} (hV : wk_S D q cA A s.heap z H locs) (hl : lv_has ls 4 [(0, .ref (q 2)), (1, .int x1)]) : W p l e R s m args below meth c H locs ce sl Q (F0 m 0 ls []) := by
  have J24 : ∀ (x1 : Int32) (y0 : Int64) (z : Sta) (H : Heap) (locs : List Loc) (ls : Array Slot), wk_S D q cA A s.heap z H locs → lv_has ls 4 [(0, .ref (q 2)), (1, .int x1)] → pj_O_fillSets_24 K x1 y0 z → W p l e R s m args below meth c H locs ce sl Q (F0 m 24 ls [.long y0]) := by
    intro x1 y0 z H locs ls hV hl h
    unfold pj_O_fillSets_24 at h
    refine lv_lstore_n hx hb kd_prog_3_method_11_code_24 rfl hl (by decide) rfl (fun ls hl => ?_)
    have hl : lv_has ls 4 [(2, .long y0), (0, .ref (q 2)), (1, .int x1)] := hl
    refine lv_aload_n hx hb kd_prog_3_method_11_code_25 rfl (lv_at hl 1 rfl) ?_
    refine va_get (D := D) (ci := 2) (v := .ref (q 20)) (C := kr_O) (T := kt_O) (N := kn_O) hx hb hts ki_O hown hK hV.1 2 rfl rfl 5 (by decide) (hts _ hw_102) (fun _ h9 => h9) rfl kd_prog_3_method_11_code_26 ?_
    refine lv_iload_n hx hb kd_prog_3_method_11_code_29 rfl (lv_at hl 2 rfl) ?_
    refine lv_lload_n hx hb kd_prog_3_method_11_code_30 rfl (lv_at hl 0 rfl) ?_
    obtain ⟨hin, h⟩ := h
    refine wk_last hx hb hK hV 20 15 4 rfl rfl (ks_20 q cA z) hin kd_prog_3_method_11_code_31 (fun H locs hV => ?_)
    obtain ⟨z5, ez5⟩ : ∃ x : Sta, x = zL z 4 (vp_updL (z.2.2 4) x1.toNatClampNeg y0) := ⟨_, rfl⟩
    rw [← ez5] at hV
    have h := h z5 ez5
    refine lv_aload_n hx hb kd_prog_3_method_11_code_32 rfl (lv_at hl 1 rfl) ?_
    refine va_get (D := D) (ci := 2) (v := .ref (q 21)) (C := kr_O) (T := kt_O) (N := kn_O) hx hb hts ki_O hown hK hV.1 2 rfl rfl 6 (by decide) (hts _ hw_103) (fun _ h9 => h9) rfl kd_prog_3_method_11_code_33 ?_
    refine lv_iload_n hx hb kd_prog_3_method_11_code_36 rfl (lv_at hl 2 rfl) ?_
    refine lv_lload_n hx hb kd_prog_3_method_11_code_37 rfl (lv_at hl 0 rfl) ?_
    obtain ⟨hin, h⟩ := h
    refine wk_last hx hb hK hV 21 16 5 rfl rfl (ks_21 q cA z5) hin kd_prog_3_method_11_code_38 (fun H locs hV => ?_)
    obtain ⟨z6, ez6⟩ : ∃ x : Sta, x = zL z5 5 (vp_updL (z5.2.2 5) x1.toNatClampNeg y0) := ⟨_, rfl⟩
    rw [← ez6] at hV
    have h := h z6 ez6
    refine lv_aload_n hx hb kd_prog_3_method_11_code_39 rfl (lv_at hl 1 rfl) ?_
    refine va_get (D := D) (ci := 2) (v := .ref (q 22)) (C := kr_O) (T := kt_O) (N := kn_O) hx hb hts ki_O hown hK hV.1 2 rfl rfl 7 (by decide) (hts _ hw_104) (fun _ h9 => h9) rfl kd_prog_3_method_11_code_40 ?_
    refine lv_iload_n hx hb kd_prog_3_method_11_code_43 rfl (lv_at hl 2 rfl) ?_
    refine lv_lload_n hx hb kd_prog_3_method_11_code_44 rfl (lv_at hl 0 rfl) ?_
    obtain ⟨hin, h⟩ := h
    refine wk_last hx hb hK hV 22 17 6 rfl rfl (ks_22 q cA z6) hin kd_prog_3_method_11_code_45 (fun H locs hV => ?_)
    obtain ⟨z7, ez7⟩ : ∃ x : Sta, x = zL z6 6 (vp_updL (z6.2.2 6) x1.toNatClampNeg y0) := ⟨_, rfl⟩
    rw [← ez7] at hV
    have h := h z7 ez7
    refine lv_aload_n hx hb kd_prog_3_method_11_code_46 rfl (lv_at hl 1 rfl) ?_
    refine va_get (D := D) (ci := 2) (v := .ref (q 23)) (C := kr_O) (T := kt_O) (N := kn_O) hx hb hts ki_O hown hK hV.1 2 rfl rfl 8 (by decide) (hts _ hw_105) (fun _ h9 => h9) rfl kd_prog_3_method_11_code_47 ?_
    refine lv_iload_n hx hb kd_prog_3_method_11_code_50 rfl (lv_at hl 2 rfl) ?_
    refine lv_lload_n hx hb kd_prog_3_method_11_code_51 rfl (lv_at hl 0 rfl) ?_
    obtain ⟨hin, h⟩ := h
    refine wk_last hx hb hK hV 23 18 7 rfl rfl (ks_23 q cA z7) hin kd_prog_3_method_11_code_52 (fun H locs hV => ?_)
    obtain ⟨z8, ez8⟩ : ∃ x : Sta, x = zL z7 7 (vp_updL (z7.2.2 7) x1.toNatClampNeg y0) := ⟨_, rfl⟩
    rw [← ez8] at hV
    have h := h z8 ez8
    refine lv_aload_n hx hb kd_prog_3_method_11_code_53 rfl (lv_at hl 1 rfl) ?_
    refine va_get (D := D) (ci := 2) (v := .ref (q 24)) (C := kr_O) (T := kt_O) (N := kn_O) hx hb hts ki_O hown hK hV.1 2 rfl rfl 9 (by decide) (hts _ hw_106) (fun _ h9 => h9) rfl kd_prog_3_method_11_code_54 ?_
    refine lv_iload_n hx hb kd_prog_3_method_11_code_57 rfl (lv_at hl 2 rfl) ?_
    refine lv_lload_n hx hb kd_prog_3_method_11_code_58 rfl (lv_at hl 0 rfl) ?_
    obtain ⟨hin, h⟩ := h
    refine wk_last hx hb hK hV 24 19 8 rfl rfl (ks_24 q cA z8) hin kd_prog_3_method_11_code_59 (fun H locs hV => ?_)
    obtain ⟨z9, ez9⟩ : ∃ x : Sta, x = zL z8 8 (vp_updL (z8.2.2 8) x1.toNatClampNeg y0) := ⟨_, rfl⟩
    rw [← ez9] at hV
    have h := h z9 ez9
    exact hret z9 H locs 60 ls h hV kd_prog_3_method_11_code_60
  unfold wp_O_fillSets at h
  refine lv_aload_n hx hb kd_prog_3_method_11_code_0 rfl (lv_at hl 0 rfl) ?_
  refine va_get (D := D) (ci := 2) (v := .ref (q 16)) (C := kr_O) (T := kt_O) (N := kn_O) hx hb hts ki_O hown hK hV.1 2 rfl rfl 1 (by decide) (hts _ hw_98) (fun _ h9 => h9) rfl kd_prog_3_method_11_code_1 ?_
  refine lv_iload_n hx hb kd_prog_3_method_11_code_4 rfl (lv_at hl 1 rfl) ?_
  obtain ⟨hin, h⟩ := h
  refine va_zald hx hb hK hV.1 16 11 rfl rfl hin kd_prog_3_method_11_code_5 ?_
  refine lv_topi (fun v1 ev1 => ?_)
  have h := h v1 ev1
  refine lv_if_eq (tgt := 23) hx hb kd_prog_3_method_11_code_6 (by decide) (fun hc => ?_) (fun hc => ?_)
  · have h := h.1 hc
    refine lv_lconst (v := 0) hx hb kd_prog_3_method_11_code_23 (by decide) ?_
    exact J24 x1 0 z H locs ls hV (lv_sub hl [0, 1] rfl) h
  · have h := h.2 hc
    refine lv_lconst (v := 1) hx hb kd_prog_3_method_11_code_9 (by decide) ?_
    refine lv_aload_n hx hb kd_prog_3_method_11_code_10 rfl (lv_at hl 0 rfl) ?_
    refine va_get (D := D) (ci := 2) (v := .ref (q 1)) (C := kr_O) (T := kt_O) (N := kn_O) hx hb hts ki_O hown hK hV.1 2 rfl rfl 0 (by decide) (hts _ hw_97) (fun _ h9 => h9) rfl kd_prog_3_method_11_code_11 ?_
    refine va_get (D := D) (ci := 1) (v := .int (z.1 3)) (C := kr_P) (T := kt_P) (N := kn_P) hx hb hts ki_P hown hK hV.1 1 rfl rfl 1 (by decide) (hts _ hw_35) (fun _ h9 => h9) rfl kd_prog_3_method_11_code_14 ?_
    refine lv_topi (fun v2 ev2 => ?_)
    have h := h v2 ev2
    refine lv_lshl hx hb kd_prog_3_method_11_code_17 rfl ?_
    refine lv_topl (fun v3 ev3 => ?_)
    have h := h v3 ev3
    refine lv_lconst (v := 1) hx hb kd_prog_3_method_11_code_18 (by decide) ?_
    refine lv_lsub hx hb kd_prog_3_method_11_code_19 ?_
    refine lv_topl (fun v4 ev4 => ?_)
    have h := h v4 ev4
    refine lv_goto (tgt := 24) hx hb kd_prog_3_method_11_code_20 (by decide) ?_
    exact J24 x1 v4 z H locs ls hV (lv_sub hl [0, 1] rfl) h
end
set_option maxHeartbeats 4000000 in
set_option maxRecDepth 100000 in
theorem c_O_fillSets (l : Launch) (D : va_G) (q : Nat → Nat) (cA : Nat → ClassId) (x1 : Int32) (z : Sta) (sz : Nat) (K : Sta → Prop) (h : wp_O_fillSets x1 z K) : Met l ke_O_fillSets (kc_O_fillSets :: lw_g) { frames := 0, cells := 0, slots := 0, locals := 0 } (wk_Pc D q cA [.ref (q 2), .int x1] z sz) (va_Qv K (wk_B D q cA (va_A (wW q cA z) sz)) (va_A (wW q cA z) sz)) 0 0 (va_A (wW q cA z) sz) := by
  refine Met.ofW (cc := prog_3_method_11_code) (maxL := 4) (ret := none) (by decide) rfl ?_
  intro p e s m args below meth c s₁ B hml hv
  obtain ⟨rfl, hsz, hP, hK, hD0⟩ := hv
  have hx := B.exec
  have hb := B.bytes
  have hr := B.returns
  have hlocks := B.notSynchronized
  have hts0 := atoms_spec (ws := kc_O_fillSets :: lw_g) B.pre
  have hts : ∀ w ∈ lw_g, w.before ([.ref (q 2), .int x1] : List Value).toArray s = true := fun w hw => hts0 w (List.mem_cons_of_mem _ hw)
  have hown : s.vm.findClass kr_O = some m.cls := findClass_of_methodNamed B.named
  subst hsz
  have hD := hD0.self (sz := s.heap.size)
  generalize hAe : va_A (wW q cA z) s.heap.size = A at hD ⊢
  have hA : ∀ x : Nat, s.heap.size ≤ x → A x := fun x hx => by rw [← hAe]; exact Or.inr hx
  have hl := lv_entry ([.ref (q 2), .int x1]) (n := 4) (Nat.le_of_ble_eq_true rfl)
  rw [lg_entry_eq]
  generalize (lg_sl ([.ref (q 2), .int x1]) ++ List.replicate (4 - (lg_sl ([.ref (q 2), .int x1])).length) Slot.unset).toArray = ls at hl ⊢
  have hl : lv_has ls 4 [(0, .ref (q 2)), (1, .int x1)] := hl
  exact w_O_fillSets hx hb hml hown hts (Nat.le_refl _) (Nat.le_refl _) (Nat.zero_le _) (Nat.zero_le _) hA hK x1 z K h (fun u H locs pc ls hk hV hd => W.vret hx hb hr (fun t ht hW => ⟨⟨u, rfl, hk, by rw [ht]; exact hV.1, va_K.moved hW.alike hK, hV.2.1⟩, hV.2.2.F ht⟩) hV.2.2.2.2 hd) ⟨hP, hD, va_S.rf⟩ hl
section
variable {p : Program} {l : Launch} {e : Env} {R : Room} {s : State} {m : MethodId} {args : Array Value} {below : List Frame} {meth : Method} {c : Code} {Q : State → Prop} {ce sl : Nat} {D : va_G} {q : Nat → Nat} {cA : Nat → ClassId} {A : Nat → Prop}
set_option maxHeartbeats 4000000 in
set_option maxRecDepth 100000 in
theorem w_O_findSets (hx : p.tables.exec = Jvm.exec) (hb : c.code = prog_3_method_2_code) (hml : c.maxLocals = 2) (hown : s.vm.findClass kr_O = some m.cls) (hts : ∀ w ∈ lw_g, w.before args s = true) (hRf : 3 ≤ R.frames) (hRl : 70 ≤ R.locals) (hce : ce ≤ R.cells) (hsl : sl ≤ R.slots) (hA : ∀ x, s.heap.size ≤ x → A x) (hK : va_K D wk_cl (tysW cA) s) (z : Sta) (K : Sta → Prop) (h : wp_O_findSets z K) (hret : ∀ (u : Sta) (H : Heap) (locs : List Loc) (pc : Nat) (ls : Array Slot), K u → wk_S D q cA A s.heap u H locs → decode prog_3_method_2_code pc = .ok (.return_, 1) → W p l e R s m args below meth c H locs ce sl Q (F0 m pc ls [])) {H : Heap} {locs : List Loc} {ls : Array Slot} (hV : wk_S D q cA A s.heap z H locs) (hl : lv_has ls 2 [(0, .ref (q 2))]) : W p l e R s m args below meth c H locs ce sl Q (F0 m 0 ls []) := by
  have L47 : ∀ (n : Nat) (x1 : Int32) (z : Sta) (H : Heap) (locs : List Loc) (ls : Array Slot), wk_S D q cA A s.heap z H locs → lv_has ls 2 [(0, .ref (q 2)), (1, .int x1)] → lp_O_findSets_47 K n x1 z → W p l e R s m args below meth c H locs ce sl Q (F0 m 47 ls []) := by
    intro n47
    induction n47 with
    | zero => intro x1 z H locs ls hV hl h; rw [lp_O_findSets_47] at h; exact h.elim
    | succ n47 ih47 =>
      intro x1 z H locs ls hV hl h
      rw [lp_O_findSets_47] at h
      refine lv_iload_n hx hb kd_prog_3_method_2_code_47 rfl (lv_at hl 1 rfl) ?_
      refine lv_aload_n hx hb kd_prog_3_method_2_code_48 rfl (lv_at hl 0 rfl) ?_
      refine va_get (D := D) (ci := 2) (v := .ref (q 1)) (C := kr_O) (T := kt_O) (N := kn_O) hx hb hts ki_O hown hK hV.1 2 rfl rfl 0 (by decide) (hts _ hw_97) (fun _ h9 => h9) rfl kd_prog_3_method_2_code_49 ?_
      refine va_get (D := D) (ci := 1) (v := .int (z.1 2)) (C := kr_P) (T := kt_P) (N := kn_P) hx hb hts ki_P hown hK hV.1 1 rfl rfl 0 (by decide) (hts _ hw_32) (fun _ h9 => h9) rfl kd_prog_3_method_2_code_52 ?_
      refine lv_topi (fun v9 ev9 => ?_)
      have h := h v9 ev9
      refine lv_icmp_ge (tgt := 87) hx hb kd_prog_3_method_2_code_55 (by decide) (fun hc => ?_) (fun hc => ?_)
      · have h := h.1 hc
        exact hret z H locs 87 ls h hV kd_prog_3_method_2_code_87
      · have h := h.2 hc
        refine lv_aload_n hx hb kd_prog_3_method_2_code_58 rfl (lv_at hl 0 rfl) ?_
        refine va_get (D := D) (ci := 2) (v := .ref (q 25)) (C := kr_O) (T := kt_O) (N := kn_O) hx hb hts ki_O hown hK hV.1 2 rfl rfl 10 (by decide) (hts _ hw_107) (fun _ h9 => h9) rfl kd_prog_3_method_2_code_59 ?_
        refine lv_iload_n hx hb kd_prog_3_method_2_code_62 rfl (lv_at hl 1 rfl) ?_
        refine lv_aload_n hx hb kd_prog_3_method_2_code_63 rfl (lv_at hl 0 rfl) ?_
        refine va_get (D := D) (ci := 2) (v := .ref (q 18)) (C := kr_O) (T := kt_O) (N := kn_O) hx hb hts ki_O hown hK hV.1 2 rfl rfl 3 (by decide) (hts _ hw_100) (fun _ h9 => h9) rfl kd_prog_3_method_2_code_64 ?_
        refine lv_iload_n hx hb kd_prog_3_method_2_code_67 rfl (lv_at hl 1 rfl) ?_
        obtain ⟨hin, h⟩ := h
        refine va_lald hx hb hK hV.1 18 13 rfl rfl hin kd_prog_3_method_2_code_68 ?_
        refine lv_topl (fun v10 ev10 => ?_)
        have h := h v10 ev10
        refine lv_aload_n hx hb kd_prog_3_method_2_code_69 rfl (lv_at hl 0 rfl) ?_
        refine va_get (D := D) (ci := 2) (v := .ref (q 24)) (C := kr_O) (T := kt_O) (N := kn_O) hx hb hts ki_O hown hK hV.1 2 rfl rfl 9 (by decide) (hts _ hw_106) (fun _ h9 => h9) rfl kd_prog_3_method_2_code_70 ?_
        refine lv_iload_n hx hb kd_prog_3_method_2_code_73 rfl (lv_at hl 1 rfl) ?_
        obtain ⟨hin, h⟩ := h
        refine va_lald hx hb hK hV.1 24 19 rfl rfl hin kd_prog_3_method_2_code_74 ?_
        refine lv_topl (fun v11 ev11 => ?_)
        have h := h v11 ev11
        refine lv_ldc2 (v := (-1)) hx hb hown (hts _ hw_395) kd_prog_3_method_2_code_75 ?_
        refine lv_lxor hx hb kd_prog_3_method_2_code_78 ?_
        refine lv_topl (fun v12 ev12 => ?_)
        have h := h v12 ev12
        refine lv_land hx hb kd_prog_3_method_2_code_79 ?_
        refine lv_topl (fun v13 ev13 => ?_)
        have h := h v13 ev13
        obtain ⟨hin, h⟩ := h
        refine wk_last hx hb hK hV 25 20 9 rfl rfl (ks_25 q cA z) hin kd_prog_3_method_2_code_80 (fun H locs hV => ?_)
        obtain ⟨z14, ez14⟩ : ∃ x : Sta, x = zL z 9 (vp_updL (z.2.2 9) x1.toNatClampNeg v13) := ⟨_, rfl⟩
        rw [← ez14] at hV
        have h := h z14 ez14
        obtain ⟨v15, ev15⟩ : ∃ v : Int32, v = x1 + 1 := ⟨_, rfl⟩
        have h := h v15 ev15
        refine lv_iinc (v := v15) (k := 1) hx hb kd_prog_3_method_2_code_81 hl rfl (by rw [ev15]; rfl) (by decide) rfl (fun ls hl => ?_)
        have hl : lv_has ls 2 [(1, .int v15), (0, .ref (q 2))] := hl
        refine lv_goto (tgt := 47) hx hb kd_prog_3_method_2_code_84 (by decide) ?_
        exact ih47 v15 z14 H locs ls hV (lv_sub hl [1, 0] rfl) h
  have L6 : ∀ (n : Nat) (x1 : Int32) (z : Sta) (H : Heap) (locs : List Loc) (ls : Array Slot), wk_S D q cA A s.heap z H locs → lv_has ls 2 [(0, .ref (q 2)), (1, .int x1)] → lp_O_findSets_6 K n x1 z → W p l e R s m args below meth c H locs ce sl Q (F0 m 6 ls []) := by
    intro n6
    induction n6 with
    | zero => intro x1 z H locs ls hV hl h; rw [lp_O_findSets_6] at h; exact h.elim
    | succ n6 ih6 =>
      intro x1 z H locs ls hV hl h
      rw [lp_O_findSets_6] at h
      refine lv_iload_n hx hb kd_prog_3_method_2_code_6 rfl (lv_at hl 1 rfl) ?_
      refine lv_aload_n hx hb kd_prog_3_method_2_code_7 rfl (lv_at hl 0 rfl) ?_
      refine va_get (D := D) (ci := 2) (v := .ref (q 1)) (C := kr_O) (T := kt_O) (N := kn_O) hx hb hts ki_O hown hK hV.1 2 rfl rfl 0 (by decide) (hts _ hw_97) (fun _ h9 => h9) rfl kd_prog_3_method_2_code_8 ?_
      refine va_get (D := D) (ci := 1) (v := .int (z.1 2)) (C := kr_P) (T := kt_P) (N := kn_P) hx hb hts ki_P hown hK hV.1 1 rfl rfl 0 (by decide) (hts _ hw_32) (fun _ h9 => h9) rfl kd_prog_3_method_2_code_11 ?_
      refine lv_topi (fun v2 ev2 => ?_)
      have h := h v2 ev2
      refine lv_icmp_ge (tgt := 33) hx hb kd_prog_3_method_2_code_14 (by decide) (fun hc => ?_) (fun hc => ?_)
      · have h := h.1 hc
        refine lv_aload_n hx hb kd_prog_3_method_2_code_33 rfl (lv_at hl 0 rfl) ?_
        refine wk_callv (va_runV (As := []) (rest := []) ⟨hx, hb, hml, hown, hts⟩ (c_O_flowThere l D q cA z H.size _ h) (cwV 0 hts gs_O_63 rfl rfl rfl (by decide +kernel) ⟨Nat.le_trans (by decide) hRf, Nat.le_trans (by decide) hRl⟩) (wk_preV hK hV 2 2 rfl rfl []) rfl rfl hl.1 rfl (lv_room (Nat.le_of_ble_eq_true rfl)) kd_prog_3_method_2_code_34 ⟨hce, hsl⟩) hV hA (fun z3 H locs h hV => ?_)
        refine lv_aload_n hx hb kd_prog_3_method_2_code_37 rfl (lv_at hl 0 rfl) ?_
        refine wk_callv (va_runV (As := []) (rest := []) ⟨hx, hb, hml, hown, hts⟩ (c_O_flowWanted l D q cA z3 H.size _ h) (cwV 0 hts gs_O_66 rfl rfl rfl (by decide +kernel) ⟨Nat.le_trans (by decide) hRf, Nat.le_trans (by decide) hRl⟩) (wk_preV hK hV 2 2 rfl rfl []) rfl rfl hl.1 rfl (lv_room (Nat.le_of_ble_eq_true rfl)) kd_prog_3_method_2_code_38 ⟨hce, hsl⟩) hV hA (fun z4 H locs h hV => ?_)
        refine lv_aload_n hx hb kd_prog_3_method_2_code_41 rfl (lv_at hl 0 rfl) ?_
        refine wk_callv (va_runV (As := []) (rest := []) ⟨hx, hb, hml, hown, hts⟩ (c_O_flowLate l D q cA z4 H.size _ h) (cwV 0 hts gs_O_69 rfl rfl rfl (by decide +kernel) ⟨Nat.le_trans (by decide) hRf, Nat.le_trans (by decide) hRl⟩) (wk_preV hK hV 2 2 rfl rfl []) rfl rfl hl.1 rfl (lv_room (Nat.le_of_ble_eq_true rfl)) kd_prog_3_method_2_code_42 ⟨hce, hsl⟩) hV hA (fun z5 H locs h hV => ?_)
        refine lv_iconst (v := 0) hx hb kd_prog_3_method_2_code_45 (by decide) ?_
        refine lv_istore_n hx hb kd_prog_3_method_2_code_46 rfl hl (by decide) rfl (fun ls hl => ?_)
        have hl : lv_has ls 2 [(1, .int 0), (0, .ref (q 2))] := hl
        obtain ⟨n47, h⟩ := h
        exact L47 n47 0 z5 H locs ls hV (lv_sub hl [1, 0] rfl) h
      · have h := h.2 hc
        refine lv_aload_n hx hb kd_prog_3_method_2_code_17 rfl (lv_at hl 0 rfl) ?_
        refine lv_iload_n hx hb kd_prog_3_method_2_code_18 rfl (lv_at hl 1 rfl) ?_
        refine wk_callv (va_runV (As := [.int x1]) (rest := []) ⟨hx, hb, hml, hown, hts⟩ (c_O_readBlock l D q cA x1 z H.size _ h) (cwV 1 hts gs_O_56 rfl rfl rfl (by decide +kernel) ⟨Nat.le_trans (by decide) hRf, Nat.le_trans (by decide) hRl⟩) (wk_preV hK hV 2 2 rfl rfl [.int x1]) rfl rfl hl.1 rfl (lv_room (Nat.le_of_ble_eq_true rfl)) kd_prog_3_method_2_code_19 ⟨hce, hsl⟩) hV hA (fun z6 H locs h hV => ?_)
        refine lv_aload_n hx hb kd_prog_3_method_2_code_22 rfl (lv_at hl 0 rfl) ?_
        refine lv_iload_n hx hb kd_prog_3_method_2_code_23 rfl (lv_at hl 1 rfl) ?_
        refine wk_callv (va_runV (As := [.int x1]) (rest := []) ⟨hx, hb, hml, hown, hts⟩ (c_O_fillSets l D q cA x1 z6 H.size _ h) (cwV 1 hts gs_O_60 rfl rfl rfl (by decide +kernel) ⟨Nat.le_trans (by decide) hRf, Nat.le_trans (by decide) hRl⟩) (wk_preV hK hV 2 2 rfl rfl [.int x1]) rfl rfl hl.1 rfl (lv_room (Nat.le_of_ble_eq_true rfl)) kd_prog_3_method_2_code_24 ⟨hce, hsl⟩) hV hA (fun z7 H locs h hV => ?_)
        obtain ⟨v8, ev8⟩ : ∃ v : Int32, v = x1 + 1 := ⟨_, rfl⟩
        have h := h v8 ev8
        refine lv_iinc (v := v8) (k := 1) hx hb kd_prog_3_method_2_code_27 hl rfl (by rw [ev8]; rfl) (by decide) rfl (fun ls hl => ?_)
        have hl : lv_has ls 2 [(1, .int v8), (0, .ref (q 2))] := hl
        refine lv_goto (tgt := 6) hx hb kd_prog_3_method_2_code_30 (by decide) ?_
        exact ih6 v8 z7 H locs ls hV (lv_sub hl [1, 0] rfl) h
  unfold wp_O_findSets at h
  refine lv_aload_n hx hb kd_prog_3_method_2_code_0 rfl (lv_at hl 0 rfl) ?_
  refine wk_callv (va_runV (As := []) (rest := []) ⟨hx, hb, hml, hown, hts⟩ (c_O_findReached l D q cA z H.size _ h) (cwV 0 hts gs_O_47 rfl rfl rfl (by decide +kernel) ⟨Nat.le_trans (by decide) hRf, Nat.le_trans (by decide) hRl⟩) (wk_preV hK hV 2 2 rfl rfl []) rfl rfl hl.1 rfl (lv_room (Nat.le_of_ble_eq_true rfl)) kd_prog_3_method_2_code_1 ⟨hce, hsl⟩) hV hA (fun z1 H locs h hV => ?_)
  refine lv_iconst (v := 0) hx hb kd_prog_3_method_2_code_4 (by decide) ?_
  refine lv_istore_n hx hb kd_prog_3_method_2_code_5 rfl hl (by decide) rfl (fun ls hl => ?_)
  have hl : lv_has ls 2 [(1, .int 0), (0, .ref (q 2))] := hl
  obtain ⟨n6, h⟩ := h
  exact L6 n6 0 z1 H locs ls hV (lv_sub hl [1, 0] rfl) h
end
set_option maxHeartbeats 4000000 in
set_option maxRecDepth 100000 in
theorem c_O_findSets (l : Launch) (D : va_G) (q : Nat → Nat) (cA : Nat → ClassId) (z : Sta) (sz : Nat) (K : Sta → Prop) (h : wp_O_findSets z K) : Met l ke_O_findSets (kc_O_findSets :: lw_g) { frames := 3, cells := 0, slots := 0, locals := 70 } (wk_Pc D q cA [.ref (q 2)] z sz) (va_Qv K (wk_B D q cA (va_A (wW q cA z) sz)) (va_A (wW q cA z) sz)) 0 0 (va_A (wW q cA z) sz) := by
  refine Met.ofW (cc := prog_3_method_2_code) (maxL := 2) (ret := none) (by decide) rfl ?_
  intro p e s m args below meth c s₁ B hml hv
  obtain ⟨rfl, hsz, hP, hK, hD0⟩ := hv
  have hx := B.exec
  have hb := B.bytes
  have hr := B.returns
  have hlocks := B.notSynchronized
  have hts0 := atoms_spec (ws := kc_O_findSets :: lw_g) B.pre
  have hts : ∀ w ∈ lw_g, w.before ([.ref (q 2)] : List Value).toArray s = true := fun w hw => hts0 w (List.mem_cons_of_mem _ hw)
  have hown : s.vm.findClass kr_O = some m.cls := findClass_of_methodNamed B.named
  subst hsz
  have hD := hD0.self (sz := s.heap.size)
  generalize hAe : va_A (wW q cA z) s.heap.size = A at hD ⊢
  have hA : ∀ x : Nat, s.heap.size ≤ x → A x := fun x hx => by rw [← hAe]; exact Or.inr hx
  have hl := lv_entry ([.ref (q 2)]) (n := 2) (Nat.le_of_ble_eq_true rfl)
  rw [lg_entry_eq]
  generalize (lg_sl ([.ref (q 2)]) ++ List.replicate (2 - (lg_sl ([.ref (q 2)])).length) Slot.unset).toArray = ls at hl ⊢
  have hl : lv_has ls 2 [(0, .ref (q 2))] := hl
  exact w_O_findSets hx hb hml hown hts (Nat.le_refl _) (Nat.le_refl _) (Nat.zero_le _) (Nat.zero_le _) hA hK z K h (fun u H locs pc ls hk hV hd => W.vret hx hb hr (fun t ht hW => ⟨⟨u, rfl, hk, by rw [ht]; exact hV.1, va_K.moved hW.alike hK, hV.2.1⟩, hV.2.2.F ht⟩) hV.2.2.2.2 hd) ⟨hP, hD, va_S.rf⟩ hl
section
variable {p : Program} {l : Launch} {e : Env} {R : Room} {s : State} {m : MethodId} {args : Array Value} {below : List Frame} {meth : Method} {c : Code} {Q : State → Prop} {ce sl : Nat} {D : va_G} {q : Nat → Nat} {cA : Nat → ClassId} {A : Nat → Prop}
set_option maxHeartbeats 4000000 in
set_option maxRecDepth 100000 in
theorem w_O_countMoved (hx : p.tables.exec = Jvm.exec) (hb : c.code = prog_3_method_3_code) (hml : c.maxLocals = 4) (hown : s.vm.findClass kr_O = some m.cls) (hts : ∀ w ∈ lw_g, w.before args s = true) (hRf : 1 ≤ R.frames) (hRl : 21 ≤ R.locals) (hce : ce ≤ R.cells) (hsl : sl ≤ R.slots) (hA : ∀ x, s.heap.size ≤ x → A x) (hK : va_K D wk_cl (tysW cA) s) (z : Sta) (K : Int32 → Sta → Prop) (h : wp_O_countMoved z K) (hret : ∀ (r : Int32) (u : Sta) (H : Heap) (locs : List Loc) (pc : Nat) (ls : Array Slot), K r u → wk_S D q cA A s.heap u H locs → decode prog_3_method_3_code pc = .ok (.ireturn, 1) → W p l e R s m args below meth c H locs ce sl Q (F0 m pc ls [.int r])) {H : Heap} {locs : List Loc} {ls : Array Slot} (hV : wk_S D q cA A s.heap z H locs) (hl : lv_has ls 4 [(0, .ref (q 2))]) : W p l e R s m args below meth c H locs ce sl Q (F0 m 0 ls []) := by
  have L4 : ∀ (n : Nat) (x1 : Int64) (x3 : Int32) (z : Sta) (H : Heap) (locs : List Loc) (ls : Array Slot), wk_S D q cA A s.heap z H locs → lv_has ls 4 [(0, .ref (q 2)), (1, .long x1), (3, .int x3)] → lp_O_countMoved_4 K n x1 x3 z → W p l e R s m args below meth c H locs ce sl Q (F0 m 4 ls []) := by
    intro n4
    induction n4 with
    | zero => intro x1 x3 z H locs ls hV hl h; rw [lp_O_countMoved_4] at h; exact h.elim
    | succ n4 ih4 =>
      intro x1 x3 z H locs ls hV hl h
      rw [lp_O_countMoved_4] at h
      refine lv_iload_n hx hb kd_prog_3_method_3_code_4 rfl (lv_at hl 2 rfl) ?_
      refine lv_aload_n hx hb kd_prog_3_method_3_code_5 rfl (lv_at hl 0 rfl) ?_
      refine va_get (D := D) (ci := 2) (v := .ref (q 1)) (C := kr_O) (T := kt_O) (N := kn_O) hx hb hts ki_O hown hK hV.1 2 rfl rfl 0 (by decide) (hts _ hw_97) (fun _ h9 => h9) rfl kd_prog_3_method_3_code_6 ?_
      refine va_get (D := D) (ci := 1) (v := .int (z.1 2)) (C := kr_P) (T := kt_P) (N := kn_P) hx hb hts ki_P hown hK hV.1 1 rfl rfl 0 (by decide) (hts _ hw_32) (fun _ h9 => h9) rfl kd_prog_3_method_3_code_9 ?_
      refine lv_topi (fun v1 ev1 => ?_)
      have h := h v1 ev1
      refine lv_icmp_ge (tgt := 30) hx hb kd_prog_3_method_3_code_12 (by decide) (fun hc => ?_) (fun hc => ?_)
      · have h := h.1 hc
        refine lv_lload_n hx hb kd_prog_3_method_3_code_30 rfl (lv_at hl 1 rfl) ?_
        refine wk_calli (va_runS (As := [.long x1]) (rest := []) ⟨hx, hb, hml, hown, hts⟩ (c_G_bitCount l D q cA x1 z H.size _ h) (va_cwS 1 hts gs_O_74 rfl rfl rfl (by decide +kernel) ⟨Nat.le_trans (by decide) hRf, Nat.le_trans (by decide) hRl⟩) (wk_preS hK hV [.long x1]) rfl rfl hl.1 rfl (lv_room (Nat.le_of_ble_eq_true rfl)) kd_prog_3_method_3_code_31 ⟨hce, hsl⟩) hV hA (fun rz2 z2 H locs h hV => ?_)
        exact hret rz2 z2 H locs 34 ls h hV kd_prog_3_method_3_code_34
      · have h := h.2 hc
        refine lv_lload_n hx hb kd_prog_3_method_3_code_15 rfl (lv_at hl 1 rfl) ?_
        refine lv_aload_n hx hb kd_prog_3_method_3_code_16 rfl (lv_at hl 0 rfl) ?_
        refine va_get (D := D) (ci := 2) (v := .ref (q 25)) (C := kr_O) (T := kt_O) (N := kn_O) hx hb hts ki_O hown hK hV.1 2 rfl rfl 10 (by decide) (hts _ hw_107) (fun _ h9 => h9) rfl kd_prog_3_method_3_code_17 ?_
        refine lv_iload_n hx hb kd_prog_3_method_3_code_20 rfl (lv_at hl 2 rfl) ?_
        obtain ⟨hin, h⟩ := h
        refine va_lald hx hb hK hV.1 25 20 rfl rfl hin kd_prog_3_method_3_code_21 ?_
        refine lv_topl (fun v3 ev3 => ?_)
        have h := h v3 ev3
        refine lv_lor hx hb kd_prog_3_method_3_code_22 ?_
        refine lv_topl (fun v4 ev4 => ?_)
        have h := h v4 ev4
        refine lv_lstore_n hx hb kd_prog_3_method_3_code_23 rfl hl (by decide) rfl (fun ls hl => ?_)
        have hl : lv_has ls 4 [(1, .long v4), (0, .ref (q 2)), (3, .int x3)] := hl
        obtain ⟨v5, ev5⟩ : ∃ v : Int32, v = x3 + 1 := ⟨_, rfl⟩
        have h := h v5 ev5
        refine lv_iinc (v := v5) (k := 2) hx hb kd_prog_3_method_3_code_24 hl rfl (by rw [ev5]; rfl) (by decide) rfl (fun ls hl => ?_)
        have hl : lv_has ls 4 [(3, .int v5), (1, .long v4), (0, .ref (q 2))] := hl
        refine lv_goto (tgt := 4) hx hb kd_prog_3_method_3_code_27 (by decide) ?_
        exact ih4 v4 v5 z H locs ls hV (lv_sub hl [2, 1, 0] rfl) h
  unfold wp_O_countMoved at h
  refine lv_lconst (v := 0) hx hb kd_prog_3_method_3_code_0 (by decide) ?_
  refine lv_lstore_n hx hb kd_prog_3_method_3_code_1 rfl hl (by decide) rfl (fun ls hl => ?_)
  have hl : lv_has ls 4 [(1, .long 0), (0, .ref (q 2))] := hl
  refine lv_iconst (v := 0) hx hb kd_prog_3_method_3_code_2 (by decide) ?_
  refine lv_istore_n hx hb kd_prog_3_method_3_code_3 rfl hl (by decide) rfl (fun ls hl => ?_)
  have hl : lv_has ls 4 [(3, .int 0), (1, .long 0), (0, .ref (q 2))] := hl
  obtain ⟨n4, h⟩ := h
  exact L4 n4 0 0 z H locs ls hV (lv_sub hl [2, 1, 0] rfl) h
end
set_option maxHeartbeats 4000000 in
set_option maxRecDepth 100000 in
theorem c_O_countMoved (l : Launch) (D : va_G) (q : Nat → Nat) (cA : Nat → ClassId) (z : Sta) (sz : Nat) (K : Int32 → Sta → Prop) (h : wp_O_countMoved z K) : Met l ke_O_countMoved (kc_O_countMoved :: lw_g) { frames := 1, cells := 0, slots := 0, locals := 21 } (wk_Pc D q cA [.ref (q 2)] z sz) (va_Qi K (wk_B D q cA (va_A (wW q cA z) sz)) (va_A (wW q cA z) sz)) 0 0 (va_A (wW q cA z) sz) := by
  refine Met.ofW (cc := prog_3_method_3_code) (maxL := 4) (ret := (some .int)) (by decide) rfl ?_
  intro p e s m args below meth c s₁ B hml hv
  obtain ⟨rfl, hsz, hP, hK, hD0⟩ := hv
  have hx := B.exec
  have hb := B.bytes
  have hr := B.returns
  have hlocks := B.notSynchronized
  have hts0 := atoms_spec (ws := kc_O_countMoved :: lw_g) B.pre
  have hts : ∀ w ∈ lw_g, w.before ([.ref (q 2)] : List Value).toArray s = true := fun w hw => hts0 w (List.mem_cons_of_mem _ hw)
  have hown : s.vm.findClass kr_O = some m.cls := findClass_of_methodNamed B.named
  subst hsz
  have hD := hD0.self (sz := s.heap.size)
  generalize hAe : va_A (wW q cA z) s.heap.size = A at hD ⊢
  have hA : ∀ x : Nat, s.heap.size ≤ x → A x := fun x hx => by rw [← hAe]; exact Or.inr hx
  have hl := lv_entry ([.ref (q 2)]) (n := 4) (Nat.le_of_ble_eq_true rfl)
  rw [lg_entry_eq]
  generalize (lg_sl ([.ref (q 2)]) ++ List.replicate (4 - (lg_sl ([.ref (q 2)])).length) Slot.unset).toArray = ls at hl ⊢
  have hl : lv_has ls 4 [(0, .ref (q 2))] := hl
  exact w_O_countMoved hx hb hml hown hts (Nat.le_refl _) (Nat.le_refl _) (Nat.zero_le _) (Nat.zero_le _) hA hK z K h (fun r u H locs pc ls hk hV hd => W.iret hx hb hr (fun t ht hW => ⟨⟨r, u, rfl, hk, by rw [ht]; exact hV.1, va_K.moved hW.alike hK, hV.2.1⟩, hV.2.2.F ht⟩) hV.2.2.2.2 hd) ⟨hP, hD, va_S.rf⟩ hl
section
variable {p : Program} {l : Launch} {e : Env} {R : Room} {s : State} {m : MethodId} {args : Array Value} {below : List Frame} {meth : Method} {c : Code} {Q : State → Prop} {ce sl : Nat} {D : va_G} {q : Nat → Nat} {cA : Nat → ClassId} {A : Nat → Prop}
set_option maxHeartbeats 4000000 in
set_option maxRecDepth 100000 in
theorem w_O_setOf (hx : p.tables.exec = Jvm.exec) (hb : c.code = prog_3_method_4_code) (hml : c.maxLocals = 3) (hown : s.vm.findClass kr_O = some m.cls) (hts : ∀ w ∈ lw_g, w.before args s = true) (hRf : 0 ≤ R.frames) (hRl : 0 ≤ R.locals) (hce : ce ≤ R.cells) (hsl : sl ≤ R.slots) (hA : ∀ x, s.heap.size ≤ x → A x) (hK : va_K D wk_cl (tysW cA) s) (x1 : Int32) (x2 : Int32) (z : Sta) (K : Int64 → Sta → Prop) (h : wp_O_setOf x1 x2 z K) (hret : ∀ (r : Int64) (u : Sta) (H : Heap) (locs : List Loc) (pc : Nat) (ls : Array Slot), K r u → wk_S D q cA A s.heap u H locs → decode prog_3_method_4_code pc = .ok (.lreturn, 1) → W p l e R s m args below meth c H locs ce sl Q (F0 m pc ls [.long r])) {H : Heap} {locs : List Loc} {ls : Array Slot} (hV : wk_S D q cA A s.heap z H locs) (hl : lv_has ls 3 [(0, .ref (q 2)), (1, .int x1), (2, .int x2)]) : W p l e R s m args below meth c H locs ce sl Q (F0 m 0 ls []) := by
  unfold wp_O_setOf at h
  refine lv_iload_n hx hb kd_prog_3_method_4_code_0 rfl (lv_at hl 2 rfl) ?_
  by_cases hc0 : x2 = 0
  · have h := h.1 hc0
    refine lv_tableIn (tgt := 36) hx hb kd_prog_3_method_4_code_1 (by rw [hc0]; decide) (by rw [hc0]; decide) (by rw [hc0]; rfl) (by decide) ?_
    refine lv_aload_n hx hb kd_prog_3_method_4_code_36 rfl (lv_at hl 0 rfl) ?_
    refine va_get (D := D) (ci := 2) (v := .ref (q 20)) (C := kr_O) (T := kt_O) (N := kn_O) hx hb hts ki_O hown hK hV.1 2 rfl rfl 5 (by decide) (hts _ hw_102) (fun _ h9 => h9) rfl kd_prog_3_method_4_code_37 ?_
    refine lv_iload_n hx hb kd_prog_3_method_4_code_40 rfl (lv_at hl 1 rfl) ?_
    obtain ⟨hin, h⟩ := h
    refine va_lald hx hb hK hV.1 20 15 rfl rfl hin kd_prog_3_method_4_code_41 ?_
    refine lv_topl (fun v1 ev1 => ?_)
    have h := h v1 ev1
    exact hret v1 z H locs 42 ls h hV kd_prog_3_method_4_code_42
  by_cases hc1 : x2 = 1
  · have h := h.2.1 hc1
    refine lv_tableIn (tgt := 43) hx hb kd_prog_3_method_4_code_1 (by rw [hc1]; decide) (by rw [hc1]; decide) (by rw [hc1]; rfl) (by decide) ?_
    refine lv_aload_n hx hb kd_prog_3_method_4_code_43 rfl (lv_at hl 0 rfl) ?_
    refine va_get (D := D) (ci := 2) (v := .ref (q 21)) (C := kr_O) (T := kt_O) (N := kn_O) hx hb hts ki_O hown hK hV.1 2 rfl rfl 6 (by decide) (hts _ hw_103) (fun _ h9 => h9) rfl kd_prog_3_method_4_code_44 ?_
    refine lv_iload_n hx hb kd_prog_3_method_4_code_47 rfl (lv_at hl 1 rfl) ?_
    obtain ⟨hin, h⟩ := h
    refine va_lald hx hb hK hV.1 21 16 rfl rfl hin kd_prog_3_method_4_code_48 ?_
    refine lv_topl (fun v2 ev2 => ?_)
    have h := h v2 ev2
    exact hret v2 z H locs 49 ls h hV kd_prog_3_method_4_code_49
  by_cases hc2 : x2 = 2
  · have h := h.2.2.1 hc2
    refine lv_tableIn (tgt := 50) hx hb kd_prog_3_method_4_code_1 (by rw [hc2]; decide) (by rw [hc2]; decide) (by rw [hc2]; rfl) (by decide) ?_
    refine lv_aload_n hx hb kd_prog_3_method_4_code_50 rfl (lv_at hl 0 rfl) ?_
    refine va_get (D := D) (ci := 2) (v := .ref (q 22)) (C := kr_O) (T := kt_O) (N := kn_O) hx hb hts ki_O hown hK hV.1 2 rfl rfl 7 (by decide) (hts _ hw_104) (fun _ h9 => h9) rfl kd_prog_3_method_4_code_51 ?_
    refine lv_iload_n hx hb kd_prog_3_method_4_code_54 rfl (lv_at hl 1 rfl) ?_
    obtain ⟨hin, h⟩ := h
    refine va_lald hx hb hK hV.1 22 17 rfl rfl hin kd_prog_3_method_4_code_55 ?_
    refine lv_topl (fun v3 ev3 => ?_)
    have h := h v3 ev3
    exact hret v3 z H locs 56 ls h hV kd_prog_3_method_4_code_56
  by_cases hc3 : x2 = 3
  · have h := h.2.2.2.1 hc3
    refine lv_tableIn (tgt := 57) hx hb kd_prog_3_method_4_code_1 (by rw [hc3]; decide) (by rw [hc3]; decide) (by rw [hc3]; rfl) (by decide) ?_
    refine lv_aload_n hx hb kd_prog_3_method_4_code_57 rfl (lv_at hl 0 rfl) ?_
    refine va_get (D := D) (ci := 2) (v := .ref (q 23)) (C := kr_O) (T := kt_O) (N := kn_O) hx hb hts ki_O hown hK hV.1 2 rfl rfl 8 (by decide) (hts _ hw_105) (fun _ h9 => h9) rfl kd_prog_3_method_4_code_58 ?_
    refine lv_iload_n hx hb kd_prog_3_method_4_code_61 rfl (lv_at hl 1 rfl) ?_
    obtain ⟨hin, h⟩ := h
    refine va_lald hx hb hK hV.1 23 18 rfl rfl hin kd_prog_3_method_4_code_62 ?_
    refine lv_topl (fun v4 ev4 => ?_)
    have h := h v4 ev4
    exact hret v4 z H locs 63 ls h hV kd_prog_3_method_4_code_63
  by_cases hc4 : x2 = 4
  · have h := h.2.2.2.2.1 hc4
    refine lv_tableIn (tgt := 64) hx hb kd_prog_3_method_4_code_1 (by rw [hc4]; decide) (by rw [hc4]; decide) (by rw [hc4]; rfl) (by decide) ?_
    refine lv_aload_n hx hb kd_prog_3_method_4_code_64 rfl (lv_at hl 0 rfl) ?_
    refine va_get (D := D) (ci := 2) (v := .ref (q 24)) (C := kr_O) (T := kt_O) (N := kn_O) hx hb hts ki_O hown hK hV.1 2 rfl rfl 9 (by decide) (hts _ hw_106) (fun _ h9 => h9) rfl kd_prog_3_method_4_code_65 ?_
    refine lv_iload_n hx hb kd_prog_3_method_4_code_68 rfl (lv_at hl 1 rfl) ?_
    obtain ⟨hin, h⟩ := h
    refine va_lald hx hb hK hV.1 24 19 rfl rfl hin kd_prog_3_method_4_code_69 ?_
    refine lv_topl (fun v5 ev5 => ?_)
    have h := h v5 ev5
    exact hret v5 z H locs 70 ls h hV kd_prog_3_method_4_code_70
  have h := h.2.2.2.2.2 ⟨hc0, hc1, hc2, hc3, hc4⟩
  refine lv_tableOut (tgt := 71) hx hb kd_prog_3_method_4_code_1 (by have t0 := lv_neT hc0 (a := 0) (by decide); have t1 := lv_neT hc1 (a := 1) (by decide); have t2 := lv_neT hc2 (a := 2) (by decide); have t3 := lv_neT hc3 (a := 3) (by decide); have t4 := lv_neT hc4 (a := 4) (by decide); omega) (by decide) ?_
  refine lv_aload_n hx hb kd_prog_3_method_4_code_71 rfl (lv_at hl 0 rfl) ?_
  refine va_get (D := D) (ci := 2) (v := .ref (q 25)) (C := kr_O) (T := kt_O) (N := kn_O) hx hb hts ki_O hown hK hV.1 2 rfl rfl 10 (by decide) (hts _ hw_107) (fun _ h9 => h9) rfl kd_prog_3_method_4_code_72 ?_
  refine lv_iload_n hx hb kd_prog_3_method_4_code_75 rfl (lv_at hl 1 rfl) ?_
  obtain ⟨hin, h⟩ := h
  refine va_lald hx hb hK hV.1 25 20 rfl rfl hin kd_prog_3_method_4_code_76 ?_
  refine lv_topl (fun v6 ev6 => ?_)
  have h := h v6 ev6
  exact hret v6 z H locs 77 ls h hV kd_prog_3_method_4_code_77
end
set_option maxHeartbeats 4000000 in
set_option maxRecDepth 100000 in
theorem c_O_setOf (l : Launch) (D : va_G) (q : Nat → Nat) (cA : Nat → ClassId) (x1 : Int32) (x2 : Int32) (z : Sta) (sz : Nat) (K : Int64 → Sta → Prop) (h : wp_O_setOf x1 x2 z K) : Met l ke_O_setOf (kc_O_setOf :: lw_g) { frames := 0, cells := 0, slots := 0, locals := 0 } (wk_Pc D q cA [.ref (q 2), .int x1, .int x2] z sz) (va_Ql K (wk_B D q cA (va_A (wW q cA z) sz)) (va_A (wW q cA z) sz)) 0 0 (va_A (wW q cA z) sz) := by
  refine Met.ofW (cc := prog_3_method_4_code) (maxL := 3) (ret := (some .long)) (by decide) rfl ?_
  intro p e s m args below meth c s₁ B hml hv
  obtain ⟨rfl, hsz, hP, hK, hD0⟩ := hv
  have hx := B.exec
  have hb := B.bytes
  have hr := B.returns
  have hlocks := B.notSynchronized
  have hts0 := atoms_spec (ws := kc_O_setOf :: lw_g) B.pre
  have hts : ∀ w ∈ lw_g, w.before ([.ref (q 2), .int x1, .int x2] : List Value).toArray s = true := fun w hw => hts0 w (List.mem_cons_of_mem _ hw)
  have hown : s.vm.findClass kr_O = some m.cls := findClass_of_methodNamed B.named
  subst hsz
  have hD := hD0.self (sz := s.heap.size)
  generalize hAe : va_A (wW q cA z) s.heap.size = A at hD ⊢
  have hA : ∀ x : Nat, s.heap.size ≤ x → A x := fun x hx => by rw [← hAe]; exact Or.inr hx
  have hl := lv_entry ([.ref (q 2), .int x1, .int x2]) (n := 3) (Nat.le_of_ble_eq_true rfl)
  rw [lg_entry_eq]
  generalize (lg_sl ([.ref (q 2), .int x1, .int x2]) ++ List.replicate (3 - (lg_sl ([.ref (q 2), .int x1, .int x2])).length) Slot.unset).toArray = ls at hl ⊢
  have hl : lv_has ls 3 [(0, .ref (q 2)), (1, .int x1), (2, .int x2)] := hl
  exact w_O_setOf hx hb hml hown hts (Nat.le_refl _) (Nat.le_refl _) (Nat.zero_le _) (Nat.zero_le _) hA hK x1 x2 z K h (fun r u H locs pc ls hk hV hd => W.lret hx hb hr (fun t ht hW => ⟨⟨r, u, rfl, hk, by rw [ht]; exact hV.1, va_K.moved hW.alike hK, hV.2.1⟩, hV.2.2.F ht⟩) hV.2.2.2.2 hd) ⟨hP, hD, va_S.rf⟩ hl
section
variable {p : Program} {l : Launch} {e : Env} {R : Room} {s : State} {m : MethodId} {args : Array Value} {below : List Frame} {meth : Method} {c : Code} {Q : State → Prop} {ce sl : Nat} {D : va_G} {q : Nat → Nat} {cA : Nat → ClassId} {A : Nat → Prop}
set_option maxHeartbeats 4000000 in
set_option maxRecDepth 100000 in
theorem w_O_hasEdge (hx : p.tables.exec = Jvm.exec) (hb : c.code = prog_3_method_5_code) (hml : c.maxLocals = 3) (hown : s.vm.findClass kr_O = some m.cls) (hts : ∀ w ∈ lw_g, w.before args s = true) (hRf : 1 ≤ R.frames) (hRl : 21 ≤ R.locals) (hce : ce ≤ R.cells) (hsl : sl ≤ R.slots) (hA : ∀ x, s.heap.size ≤ x → A x) (hK : va_K D wk_cl (tysW cA) s) (x1 : Int32) (x2 : Int32) (z : Sta) (K : Int32 → Sta → Prop) (h : wp_O_hasEdge x1 x2 z K) (hret : ∀ (r : Int32) (u : Sta) (H : Heap) (locs : List Loc) (pc : Nat) (ls : Array Slot), K r u → (r = 0 ∨ r = 1) → wk_S D q cA A s.heap u H locs → decode prog_3_method_5_code pc = .ok (.ireturn, 1) → W p l e R s m args below meth c H locs ce sl Q (F0 m pc ls [.int r])) {H : Heap} {locs : List Loc} {ls : Array Slot} (hV : wk_S D q cA A s.heap z H locs) (hl : lv_has ls 3 [(0, .ref (q 2)), (1, .int x1), (2, .int x2)]) : W p l e R s m args below meth c H locs ce sl Q (F0 m 0 ls []) := by
  have J73 : ∀ (y0 : Int32) (z : Sta) (H : Heap) (locs : List Loc) (ls : Array Slot), wk_S D q cA A s.heap z H locs → lv_has ls 3 [] → pj_O_hasEdge_73 K y0 z → W p l e R s m args below meth c H locs ce sl Q (F0 m 73 ls [.int y0]) := by
    intro y0 z H locs ls hV hl h
    unfold pj_O_hasEdge_73 at h
    obtain ⟨hz, h⟩ := h
    exact hret y0 z H locs 73 ls h hz hV kd_prog_3_method_5_code_73
  have J68 : ∀ (z : Sta) (H : Heap) (locs : List Loc) (ls : Array Slot), wk_S D q cA A s.heap z H locs → lv_has ls 3 [] → pj_O_hasEdge_68 K z → W p l e R s m args below meth c H locs ce sl Q (F0 m 68 ls []) := by
    intro z H locs ls hV hl h
    unfold pj_O_hasEdge_68 at h
    refine lv_iconst (v := 1) hx hb kd_prog_3_method_5_code_68 (by decide) ?_
    refine lv_goto (tgt := 73) hx hb kd_prog_3_method_5_code_69 (by decide) ?_
    exact J73 1 z H locs ls hV (lv_sub hl [] rfl) h
  have J40 : ∀ (z : Sta) (H : Heap) (locs : List Loc) (ls : Array Slot), wk_S D q cA A s.heap z H locs → lv_has ls 3 [] → pj_O_hasEdge_40 K z → W p l e R s m args below meth c H locs ce sl Q (F0 m 40 ls []) := by
    intro z H locs ls hV hl h
    unfold pj_O_hasEdge_40 at h
    refine lv_iconst (v := 0) hx hb kd_prog_3_method_5_code_40 (by decide) ?_
    obtain ⟨hz, h⟩ := h
    exact hret 0 z H locs 41 ls h hz hV kd_prog_3_method_5_code_41
  have J14 : ∀ (y0 : Int32) (z : Sta) (H : Heap) (locs : List Loc) (ls : Array Slot), wk_S D q cA A s.heap z H locs → lv_has ls 3 [] → pj_O_hasEdge_14 K y0 z → W p l e R s m args below meth c H locs ce sl Q (F0 m 14 ls [.int y0]) := by
    intro y0 z H locs ls hV hl h
    unfold pj_O_hasEdge_14 at h
    obtain ⟨hz, h⟩ := h
    exact hret y0 z H locs 14 ls h hz hV kd_prog_3_method_5_code_14
  unfold wp_O_hasEdge at h
  refine lv_iload_n hx hb kd_prog_3_method_5_code_0 rfl (lv_at hl 1 rfl) ?_
  refine lv_iconst (v := (-1)) hx hb kd_prog_3_method_5_code_1 (by decide) ?_
  refine lv_icmp_ne (tgt := 15) hx hb kd_prog_3_method_5_code_2 (by decide) (fun hc => ?_) (fun hc => ?_)
  · have h := h.1 hc
    refine lv_aload_n hx hb kd_prog_3_method_5_code_15 rfl (lv_at hl 0 rfl) ?_
    refine va_get (D := D) (ci := 2) (v := .ref (q 1)) (C := kr_O) (T := kt_O) (N := kn_O) hx hb hts ki_O hown hK hV.1 2 rfl rfl 0 (by decide) (hts _ hw_97) (fun _ h9 => h9) rfl kd_prog_3_method_5_code_16 ?_
    refine lv_iload_n hx hb kd_prog_3_method_5_code_19 rfl (lv_at hl 1 rfl) ?_
    refine wk_calli (va_runV (As := [.int x1]) (rest := []) ⟨hx, hb, hml, hown, hts⟩ (c_P_hasBlock l D q cA x1 z H.size _ h) (cwV 1 hts gs_O_80 rfl rfl rfl (by decide +kernel) ⟨Nat.le_trans (by decide) hRf, Nat.le_trans (by decide) hRl⟩) (wk_preV hK hV 1 1 rfl rfl [.int x1]) rfl rfl hl.1 rfl (lv_room (Nat.le_of_ble_eq_true rfl)) kd_prog_3_method_5_code_20 ⟨hce, hsl⟩) hV hA (fun rz1 z1 H locs h hV => ?_)
    refine lv_if_eq (tgt := 40) hx hb kd_prog_3_method_5_code_23 (by decide) (fun hc => ?_) (fun hc => ?_)
    · have h := h.1 hc
      exact J40 z1 H locs ls hV (lv_sub hl [] rfl) h
    · have h := h.2 hc
      refine lv_aload_n hx hb kd_prog_3_method_5_code_26 rfl (lv_at hl 0 rfl) ?_
      refine va_get (D := D) (ci := 2) (v := .ref (q 16)) (C := kr_O) (T := kt_O) (N := kn_O) hx hb hts ki_O hown hK hV.1 2 rfl rfl 1 (by decide) (hts _ hw_98) (fun _ h9 => h9) rfl kd_prog_3_method_5_code_27 ?_
      refine lv_iload_n hx hb kd_prog_3_method_5_code_30 rfl (lv_at hl 1 rfl) ?_
      obtain ⟨hin, h⟩ := h
      refine va_zald hx hb hK hV.1 16 11 rfl rfl hin kd_prog_3_method_5_code_31 ?_
      refine lv_topi (fun v2 ev2 => ?_)
      have h := h v2 ev2
      refine lv_if_eq (tgt := 40) hx hb kd_prog_3_method_5_code_32 (by decide) (fun hc => ?_) (fun hc => ?_)
      · have h := h.1 hc
        exact J40 z1 H locs ls hV (lv_sub hl [] rfl) h
      · have h := h.2 hc
        refine lv_iload_n hx hb kd_prog_3_method_5_code_35 rfl (lv_at hl 2 rfl) ?_
        refine lv_iconst (v := (-1)) hx hb kd_prog_3_method_5_code_36 (by decide) ?_
        refine lv_icmp_ne (tgt := 42) hx hb kd_prog_3_method_5_code_37 (by decide) (fun hc => ?_) (fun hc => ?_)
        · have h := h.1 hc
          refine lv_aload_n hx hb kd_prog_3_method_5_code_42 rfl (lv_at hl 0 rfl) ?_
          refine va_get (D := D) (ci := 2) (v := .ref (q 1)) (C := kr_O) (T := kt_O) (N := kn_O) hx hb hts ki_O hown hK hV.1 2 rfl rfl 0 (by decide) (hts _ hw_97) (fun _ h9 => h9) rfl kd_prog_3_method_5_code_43 ?_
          refine va_get (D := D) (ci := 1) (v := .ref (q 10)) (C := kr_P) (T := kt_P) (N := kn_P) hx hb hts ki_P hown hK hV.1 1 rfl rfl 7 (by decide) (hts _ hw_53) (fun _ h9 => h9) rfl kd_prog_3_method_5_code_46 ?_
          refine lv_iload_n hx hb kd_prog_3_method_5_code_49 rfl (lv_at hl 1 rfl) ?_
          obtain ⟨hin, h⟩ := h
          refine va_iald hx hb hK hV.1 10 5 rfl rfl hin kd_prog_3_method_5_code_50 ?_
          refine lv_topi (fun v3 ev3 => ?_)
          have h := h v3 ev3
          refine lv_iload_n hx hb kd_prog_3_method_5_code_51 rfl (lv_at hl 2 rfl) ?_
          refine lv_icmp_eq (tgt := 68) hx hb kd_prog_3_method_5_code_52 (by decide) (fun hc => ?_) (fun hc => ?_)
          · have h := h.1 hc
            exact J68 z1 H locs ls hV (lv_sub hl [] rfl) h
          · have h := h.2 hc
            refine lv_aload_n hx hb kd_prog_3_method_5_code_55 rfl (lv_at hl 0 rfl) ?_
            refine va_get (D := D) (ci := 2) (v := .ref (q 1)) (C := kr_O) (T := kt_O) (N := kn_O) hx hb hts ki_O hown hK hV.1 2 rfl rfl 0 (by decide) (hts _ hw_97) (fun _ h9 => h9) rfl kd_prog_3_method_5_code_56 ?_
            refine va_get (D := D) (ci := 1) (v := .ref (q 11)) (C := kr_P) (T := kt_P) (N := kn_P) hx hb hts ki_P hown hK hV.1 1 rfl rfl 8 (by decide) (hts _ hw_56) (fun _ h9 => h9) rfl kd_prog_3_method_5_code_59 ?_
            refine lv_iload_n hx hb kd_prog_3_method_5_code_62 rfl (lv_at hl 1 rfl) ?_
            obtain ⟨hin, h⟩ := h
            refine va_iald hx hb hK hV.1 11 6 rfl rfl hin kd_prog_3_method_5_code_63 ?_
            refine lv_topi (fun v4 ev4 => ?_)
            have h := h v4 ev4
            refine lv_iload_n hx hb kd_prog_3_method_5_code_64 rfl (lv_at hl 2 rfl) ?_
            refine lv_icmp_ne (tgt := 72) hx hb kd_prog_3_method_5_code_65 (by decide) (fun hc => ?_) (fun hc => ?_)
            · have h := h.1 hc
              refine lv_iconst (v := 0) hx hb kd_prog_3_method_5_code_72 (by decide) ?_
              exact J73 0 z1 H locs ls hV (lv_sub hl [] rfl) h
            · have h := h.2 hc
              exact J68 z1 H locs ls hV (lv_sub hl [] rfl) h
        · have h := h.2 hc
          exact J40 z1 H locs ls hV (lv_sub hl [] rfl) h
  · have h := h.2 hc
    refine lv_iload_n hx hb kd_prog_3_method_5_code_5 rfl (lv_at hl 2 rfl) ?_
    refine lv_if_ne (tgt := 13) hx hb kd_prog_3_method_5_code_6 (by decide) (fun hc => ?_) (fun hc => ?_)
    · have h := h.1 hc
      refine lv_iconst (v := 0) hx hb kd_prog_3_method_5_code_13 (by decide) ?_
      exact J14 0 z H locs ls hV (lv_sub hl [] rfl) h
    · have h := h.2 hc
      refine lv_iconst (v := 1) hx hb kd_prog_3_method_5_code_9 (by decide) ?_
      refine lv_goto (tgt := 14) hx hb kd_prog_3_method_5_code_10 (by decide) ?_
      exact J14 1 z H locs ls hV (lv_sub hl [] rfl) h
end
set_option maxHeartbeats 4000000 in
set_option maxRecDepth 100000 in
theorem c_O_hasEdge (l : Launch) (D : va_G) (q : Nat → Nat) (cA : Nat → ClassId) (x1 : Int32) (x2 : Int32) (z : Sta) (sz : Nat) (K : Int32 → Sta → Prop) (h : wp_O_hasEdge x1 x2 z K) : Met l ke_O_hasEdge (kc_O_hasEdge :: lw_g) { frames := 1, cells := 0, slots := 0, locals := 21 } (wk_Pc D q cA [.ref (q 2), .int x1, .int x2] z sz) (va_Qi K (wk_B D q cA (va_A (wW q cA z) sz)) (va_A (wW q cA z) sz)) 0 0 (va_A (wW q cA z) sz) := by
  refine Met.ofW (cc := prog_3_method_5_code) (maxL := 3) (ret := (some .boolean)) (by decide) rfl ?_
  intro p e s m args below meth c s₁ B hml hv
  obtain ⟨rfl, hsz, hP, hK, hD0⟩ := hv
  have hx := B.exec
  have hb := B.bytes
  have hr := B.returns
  have hlocks := B.notSynchronized
  have hts0 := atoms_spec (ws := kc_O_hasEdge :: lw_g) B.pre
  have hts : ∀ w ∈ lw_g, w.before ([.ref (q 2), .int x1, .int x2] : List Value).toArray s = true := fun w hw => hts0 w (List.mem_cons_of_mem _ hw)
  have hown : s.vm.findClass kr_O = some m.cls := findClass_of_methodNamed B.named
  subst hsz
  have hD := hD0.self (sz := s.heap.size)
  generalize hAe : va_A (wW q cA z) s.heap.size = A at hD ⊢
  have hA : ∀ x : Nat, s.heap.size ≤ x → A x := fun x hx => by rw [← hAe]; exact Or.inr hx
  have hl := lv_entry ([.ref (q 2), .int x1, .int x2]) (n := 3) (Nat.le_of_ble_eq_true rfl)
  rw [lg_entry_eq]
  generalize (lg_sl ([.ref (q 2), .int x1, .int x2]) ++ List.replicate (3 - (lg_sl ([.ref (q 2), .int x1, .int x2])).length) Slot.unset).toArray = ls at hl ⊢
  have hl : lv_has ls 3 [(0, .ref (q 2)), (1, .int x1), (2, .int x2)] := hl
  exact w_O_hasEdge hx hb hml hown hts (Nat.le_refl _) (Nat.le_refl _) (Nat.zero_le _) (Nat.zero_le _) hA hK x1 x2 z K h (fun r u H locs pc ls hk hz hV hd => W.zret (ty := .boolean) hx hb hr (by rcases hz with rfl | rfl <;> rfl) (fun t ht hW => ⟨⟨r, u, rfl, hk, by rw [ht]; exact hV.1, va_K.moved hW.alike hK, hV.2.1⟩, hV.2.2.F ht⟩) hV.2.2.2.2 hd) ⟨hP, hD, va_S.rf⟩ hl
section
variable {p : Program} {l : Launch} {e : Env} {R : Room} {s : State} {m : MethodId} {args : Array Value} {below : List Frame} {meth : Method} {c : Code} {Q : State → Prop} {ce sl : Nat} {D : va_G} {q : Nat → Nat} {cA : Nat → ClassId} {A : Nat → Prop}
set_option maxHeartbeats 4000000 in
set_option maxRecDepth 100000 in
theorem w_O_putOn (hx : p.tables.exec = Jvm.exec) (hb : c.code = prog_3_method_6_code) (hml : c.maxLocals = 3) (hown : s.vm.findClass kr_O = some m.cls) (hts : ∀ w ∈ lw_g, w.before args s = true) (hRf : 1 ≤ R.frames) (hRl : 24 ≤ R.locals) (hce : ce ≤ R.cells) (hsl : sl ≤ R.slots) (hA : ∀ x, s.heap.size ≤ x → A x) (hK : va_K D wk_cl (tysW cA) s) (x1 : Int32) (x2 : Int32) (z : Sta) (K : Int64 → Sta → Prop) (h : wp_O_putOn x1 x2 z K) (hret : ∀ (r : Int64) (u : Sta) (H : Heap) (locs : List Loc) (pc : Nat) (ls : Array Slot), K r u → wk_S D q cA A s.heap u H locs → decode prog_3_method_6_code pc = .ok (.lreturn, 1) → W p l e R s m args below meth c H locs ce sl Q (F0 m pc ls [.long r])) {H : Heap} {locs : List Loc} {ls : Array Slot} (hV : wk_S D q cA A s.heap z H locs) (hl : lv_has ls 3 [(0, .ref (q 2)), (1, .int x1), (2, .int x2)]) : W p l e R s m args below meth c H locs ce sl Q (F0 m 0 ls []) := by
  unfold wp_O_putOn at h
  refine lv_aload_n hx hb kd_prog_3_method_6_code_0 rfl (lv_at hl 0 rfl) ?_
  refine lv_iload_n hx hb kd_prog_3_method_6_code_1 rfl (lv_at hl 1 rfl) ?_
  refine lv_iload_n hx hb kd_prog_3_method_6_code_2 rfl (lv_at hl 2 rfl) ?_
  refine wk_calll (va_runV (As := [.int x1, .int x2]) (rest := []) ⟨hx, hb, hml, hown, hts⟩ (c_O_laterOn l D q cA x1 x2 z H.size _ h) (cwV 2 hts gs_O_91 rfl rfl rfl (by decide +kernel) ⟨Nat.le_trans (by decide) hRf, Nat.le_trans (by decide) hRl⟩) (wk_preV hK hV 2 2 rfl rfl [.int x1, .int x2]) rfl rfl hl.1 rfl (lv_room (Nat.le_of_ble_eq_true rfl)) kd_prog_3_method_6_code_3 ⟨hce, hsl⟩) hV hA (fun rz1 z1 H locs h hV => ?_)
  refine lv_aload_n hx hb kd_prog_3_method_6_code_6 rfl (lv_at hl 0 rfl) ?_
  refine va_get (D := D) (ci := 2) (v := .ref (q 24)) (C := kr_O) (T := kt_O) (N := kn_O) hx hb hts ki_O hown hK hV.1 2 rfl rfl 9 (by decide) (hts _ hw_106) (fun _ h9 => h9) rfl kd_prog_3_method_6_code_7 ?_
  refine lv_iload_n hx hb kd_prog_3_method_6_code_10 rfl (lv_at hl 2 rfl) ?_
  obtain ⟨hin, h⟩ := h
  refine va_lald hx hb hK hV.1 24 19 rfl rfl hin kd_prog_3_method_6_code_11 ?_
  refine lv_topl (fun v2 ev2 => ?_)
  have h := h v2 ev2
  refine lv_ldc2 (v := (-1)) hx hb hown (hts _ hw_395) kd_prog_3_method_6_code_12 ?_
  refine lv_lxor hx hb kd_prog_3_method_6_code_15 ?_
  refine lv_topl (fun v3 ev3 => ?_)
  have h := h v3 ev3
  refine lv_land hx hb kd_prog_3_method_6_code_16 ?_
  refine lv_topl (fun v4 ev4 => ?_)
  have h := h v4 ev4
  exact hret v4 z1 H locs 17 ls h hV kd_prog_3_method_6_code_17
end
set_option maxHeartbeats 4000000 in
set_option maxRecDepth 100000 in
theorem c_O_putOn (l : Launch) (D : va_G) (q : Nat → Nat) (cA : Nat → ClassId) (x1 : Int32) (x2 : Int32) (z : Sta) (sz : Nat) (K : Int64 → Sta → Prop) (h : wp_O_putOn x1 x2 z K) : Met l ke_O_putOn (kc_O_putOn :: lw_g) { frames := 1, cells := 0, slots := 0, locals := 24 } (wk_Pc D q cA [.ref (q 2), .int x1, .int x2] z sz) (va_Ql K (wk_B D q cA (va_A (wW q cA z) sz)) (va_A (wW q cA z) sz)) 0 0 (va_A (wW q cA z) sz) := by
  refine Met.ofW (cc := prog_3_method_6_code) (maxL := 3) (ret := (some .long)) (by decide) rfl ?_
  intro p e s m args below meth c s₁ B hml hv
  obtain ⟨rfl, hsz, hP, hK, hD0⟩ := hv
  have hx := B.exec
  have hb := B.bytes
  have hr := B.returns
  have hlocks := B.notSynchronized
  have hts0 := atoms_spec (ws := kc_O_putOn :: lw_g) B.pre
  have hts : ∀ w ∈ lw_g, w.before ([.ref (q 2), .int x1, .int x2] : List Value).toArray s = true := fun w hw => hts0 w (List.mem_cons_of_mem _ hw)
  have hown : s.vm.findClass kr_O = some m.cls := findClass_of_methodNamed B.named
  subst hsz
  have hD := hD0.self (sz := s.heap.size)
  generalize hAe : va_A (wW q cA z) s.heap.size = A at hD ⊢
  have hA : ∀ x : Nat, s.heap.size ≤ x → A x := fun x hx => by rw [← hAe]; exact Or.inr hx
  have hl := lv_entry ([.ref (q 2), .int x1, .int x2]) (n := 3) (Nat.le_of_ble_eq_true rfl)
  rw [lg_entry_eq]
  generalize (lg_sl ([.ref (q 2), .int x1, .int x2]) ++ List.replicate (3 - (lg_sl ([.ref (q 2), .int x1, .int x2])).length) Slot.unset).toArray = ls at hl ⊢
  have hl : lv_has ls 3 [(0, .ref (q 2)), (1, .int x1), (2, .int x2)] := hl
  exact w_O_putOn hx hb hml hown hts (Nat.le_refl _) (Nat.le_refl _) (Nat.zero_le _) (Nat.zero_le _) hA hK x1 x2 z K h (fun r u H locs pc ls hk hV hd => W.lret hx hb hr (fun t ht hW => ⟨⟨r, u, rfl, hk, by rw [ht]; exact hV.1, va_K.moved hW.alike hK, hV.2.1⟩, hV.2.2.F ht⟩) hV.2.2.2.2 hd) ⟨hP, hD, va_S.rf⟩ hl
