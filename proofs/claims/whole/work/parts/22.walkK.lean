theorem kd_prog_2_method_2_code_0 : decode prog_2_method_2_code 0 = .ok (.aload_n 0, 1) := by decide +kernel
theorem kd_prog_2_method_2_code_1 : decode prog_2_method_2_code 1 = .ok (.iconst 0, 1) := by decide +kernel
theorem kd_prog_2_method_2_code_2 : decode prog_2_method_2_code 2 = .ok (.putfield 9, 3) := by decide +kernel
theorem kd_prog_2_method_2_code_5 : decode prog_2_method_2_code 5 = .ok (.aload_n 0, 1) := by decide +kernel
theorem kd_prog_2_method_2_code_6 : decode prog_2_method_2_code 6 = .ok (.iconst 0, 1) := by decide +kernel
theorem kd_prog_2_method_2_code_7 : decode prog_2_method_2_code 7 = .ok (.putfield 15, 3) := by decide +kernel
theorem kd_prog_2_method_2_code_10 : decode prog_2_method_2_code 10 = .ok (.aload_n 0, 1) := by decide +kernel
theorem kd_prog_2_method_2_code_11 : decode prog_2_method_2_code 11 = .ok (.getfield 21, 3) := by decide +kernel
theorem kd_prog_2_method_2_code_14 : decode prog_2_method_2_code 14 = .ok (.iconst 0, 1) := by decide +kernel
theorem kd_prog_2_method_2_code_15 : decode prog_2_method_2_code 15 = .ok (.invokestatic 42, 3) := by decide +kernel
theorem kd_prog_2_method_2_code_18 : decode prog_2_method_2_code 18 = .ok (.aload_n 0, 1) := by decide +kernel
theorem kd_prog_2_method_2_code_19 : decode prog_2_method_2_code 19 = .ok (.getfield 25, 3) := by decide +kernel
theorem kd_prog_2_method_2_code_22 : decode prog_2_method_2_code 22 = .ok (.iconst 0, 1) := by decide +kernel
theorem kd_prog_2_method_2_code_23 : decode prog_2_method_2_code 23 = .ok (.invokestatic 42, 3) := by decide +kernel
theorem kd_prog_2_method_2_code_26 : decode prog_2_method_2_code 26 = .ok (.aload_n 0, 1) := by decide +kernel
theorem kd_prog_2_method_2_code_27 : decode prog_2_method_2_code 27 = .ok (.getfield 31, 3) := by decide +kernel
theorem kd_prog_2_method_2_code_30 : decode prog_2_method_2_code 30 = .ok (.iconst 0, 1) := by decide +kernel
theorem kd_prog_2_method_2_code_31 : decode prog_2_method_2_code 31 = .ok (.invokestatic 42, 3) := by decide +kernel
theorem kd_prog_2_method_2_code_34 : decode prog_2_method_2_code 34 = .ok (.aload_n 0, 1) := by decide +kernel
theorem kd_prog_2_method_2_code_35 : decode prog_2_method_2_code 35 = .ok (.getfield 21, 3) := by decide +kernel
theorem kd_prog_2_method_2_code_38 : decode prog_2_method_2_code 38 = .ok (.iconst 0, 1) := by decide +kernel
theorem kd_prog_2_method_2_code_39 : decode prog_2_method_2_code 39 = .ok (.iload_n 1, 1) := by decide +kernel
theorem kd_prog_2_method_2_code_40 : decode prog_2_method_2_code 40 = .ok (.iastore, 1) := by decide +kernel
theorem kd_prog_2_method_2_code_41 : decode prog_2_method_2_code 41 = .ok (.aload_n 0, 1) := by decide +kernel
theorem kd_prog_2_method_2_code_42 : decode prog_2_method_2_code 42 = .ok (.getfield 21, 3) := by decide +kernel
theorem kd_prog_2_method_2_code_45 : decode prog_2_method_2_code 45 = .ok (.iconst 1, 1) := by decide +kernel
theorem kd_prog_2_method_2_code_46 : decode prog_2_method_2_code 46 = .ok (.iload_n 2, 1) := by decide +kernel
theorem kd_prog_2_method_2_code_47 : decode prog_2_method_2_code 47 = .ok (.iastore, 1) := by decide +kernel
theorem kd_prog_2_method_2_code_48 : decode prog_2_method_2_code 48 = .ok (.aload_n 0, 1) := by decide +kernel
theorem kd_prog_2_method_2_code_49 : decode prog_2_method_2_code 49 = .ok (.getfield 21, 3) := by decide +kernel
theorem kd_prog_2_method_2_code_52 : decode prog_2_method_2_code 52 = .ok (.iconst 2, 1) := by decide +kernel
theorem kd_prog_2_method_2_code_53 : decode prog_2_method_2_code 53 = .ok (.iload_n 3, 1) := by decide +kernel
theorem kd_prog_2_method_2_code_54 : decode prog_2_method_2_code 54 = .ok (.iastore, 1) := by decide +kernel
theorem kd_prog_2_method_2_code_55 : decode prog_2_method_2_code 55 = .ok (.return_, 1) := by decide +kernel
theorem kd_prog_2_method_8_code_0 : decode prog_2_method_8_code 0 = .ok (.aload_n 0, 1) := by decide +kernel
theorem kd_prog_2_method_8_code_1 : decode prog_2_method_8_code 1 = .ok (.dup, 1) := by decide +kernel
theorem kd_prog_2_method_8_code_2 : decode prog_2_method_8_code 2 = .ok (.getfield 9, 3) := by decide +kernel
theorem kd_prog_2_method_8_code_5 : decode prog_2_method_8_code 5 = .ok (.iconst 1, 1) := by decide +kernel
theorem kd_prog_2_method_8_code_6 : decode prog_2_method_8_code 6 = .ok (.iadd, 1) := by decide +kernel
theorem kd_prog_2_method_8_code_7 : decode prog_2_method_8_code 7 = .ok (.putfield 9, 3) := by decide +kernel
theorem kd_prog_2_method_8_code_10 : decode prog_2_method_8_code 10 = .ok (.aload_n 0, 1) := by decide +kernel
theorem kd_prog_2_method_8_code_11 : decode prog_2_method_8_code 11 = .ok (.getfield 25, 3) := by decide +kernel
theorem kd_prog_2_method_8_code_14 : decode prog_2_method_8_code 14 = .ok (.iload_n 1, 1) := by decide +kernel
theorem kd_prog_2_method_8_code_15 : decode prog_2_method_8_code 15 = .ok (.dup2, 1) := by decide +kernel
theorem kd_prog_2_method_8_code_16 : decode prog_2_method_8_code 16 = .ok (.iaload, 1) := by decide +kernel
theorem kd_prog_2_method_8_code_17 : decode prog_2_method_8_code 17 = .ok (.iconst 1, 1) := by decide +kernel
theorem kd_prog_2_method_8_code_18 : decode prog_2_method_8_code 18 = .ok (.iadd, 1) := by decide +kernel
theorem kd_prog_2_method_8_code_19 : decode prog_2_method_8_code 19 = .ok (.iastore, 1) := by decide +kernel
theorem kd_prog_2_method_8_code_20 : decode prog_2_method_8_code 20 = .ok (.aload_n 0, 1) := by decide +kernel
theorem kd_prog_2_method_8_code_21 : decode prog_2_method_8_code 21 = .ok (.getfield 31, 3) := by decide +kernel
theorem kd_prog_2_method_8_code_24 : decode prog_2_method_8_code 24 = .ok (.iload_n 1, 1) := by decide +kernel
theorem kd_prog_2_method_8_code_25 : decode prog_2_method_8_code 25 = .ok (.aload_n 0, 1) := by decide +kernel
theorem kd_prog_2_method_8_code_26 : decode prog_2_method_8_code 26 = .ok (.getfield 34, 3) := by decide +kernel
theorem kd_prog_2_method_8_code_29 : decode prog_2_method_8_code 29 = .ok (.iload_n 1, 1) := by decide +kernel
theorem kd_prog_2_method_8_code_30 : decode prog_2_method_8_code 30 = .ok (.aload_n 0, 1) := by decide +kernel
theorem kd_prog_2_method_8_code_31 : decode prog_2_method_8_code 31 = .ok (.getfield 21, 3) := by decide +kernel
theorem kd_prog_2_method_8_code_34 : decode prog_2_method_8_code 34 = .ok (.invokevirtual 106, 3) := by decide +kernel
theorem kd_prog_2_method_8_code_37 : decode prog_2_method_8_code 37 = .ok (.iastore, 1) := by decide +kernel
theorem kd_prog_2_method_8_code_38 : decode prog_2_method_8_code 38 = .ok (.aload_n 0, 1) := by decide +kernel
theorem kd_prog_2_method_8_code_39 : decode prog_2_method_8_code 39 = .ok (.getfield 31, 3) := by decide +kernel
theorem kd_prog_2_method_8_code_42 : decode prog_2_method_8_code 42 = .ok (.iload_n 1, 1) := by decide +kernel
theorem kd_prog_2_method_8_code_43 : decode prog_2_method_8_code 43 = .ok (.iaload, 1) := by decide +kernel
theorem kd_prog_2_method_8_code_44 : decode prog_2_method_8_code 44 = .ok (.ireturn, 1) := by decide +kernel
theorem kd_prog_2_method_4_code_0 : decode prog_2_method_4_code 0 = .ok (.iconst 0, 1) := by decide +kernel
theorem kd_prog_2_method_4_code_1 : decode prog_2_method_4_code 1 = .ok (.istore_n 3, 1) := by decide +kernel
theorem kd_prog_2_method_4_code_2 : decode prog_2_method_4_code 2 = .ok (.iload_n 3, 1) := by decide +kernel
theorem kd_prog_2_method_4_code_3 : decode prog_2_method_4_code 3 = .ok (.aload_n 0, 1) := by decide +kernel
theorem kd_prog_2_method_4_code_4 : decode prog_2_method_4_code 4 = .ok (.getfield 34, 3) := by decide +kernel
theorem kd_prog_2_method_4_code_7 : decode prog_2_method_4_code 7 = .ok (.getfield 77, 3) := by decide +kernel
theorem kd_prog_2_method_4_code_10 : decode prog_2_method_4_code 10 = .ok (.if_icmp .ge 25, 3) := by decide +kernel
theorem kd_prog_2_method_4_code_13 : decode prog_2_method_4_code 13 = .ok (.lload_n 1, 1) := by decide +kernel
theorem kd_prog_2_method_4_code_14 : decode prog_2_method_4_code 14 = .ok (.iload_n 3, 1) := by decide +kernel
theorem kd_prog_2_method_4_code_15 : decode prog_2_method_4_code 15 = .ok (.lshr, 1) := by decide +kernel
theorem kd_prog_2_method_4_code_16 : decode prog_2_method_4_code 16 = .ok (.lconst 1, 1) := by decide +kernel
theorem kd_prog_2_method_4_code_17 : decode prog_2_method_4_code 17 = .ok (.land, 1) := by decide +kernel
theorem kd_prog_2_method_4_code_18 : decode prog_2_method_4_code 18 = .ok (.lconst 0, 1) := by decide +kernel
theorem kd_prog_2_method_4_code_19 : decode prog_2_method_4_code 19 = .ok (.lcmp, 1) := by decide +kernel
theorem kd_prog_2_method_4_code_20 : decode prog_2_method_4_code 20 = .ok (.ifCond .eq 9, 3) := by decide +kernel
theorem kd_prog_2_method_4_code_23 : decode prog_2_method_4_code 23 = .ok (.aload_n 0, 1) := by decide +kernel
theorem kd_prog_2_method_4_code_24 : decode prog_2_method_4_code 24 = .ok (.iload_n 3, 1) := by decide +kernel
theorem kd_prog_2_method_4_code_25 : decode prog_2_method_4_code 25 = .ok (.invokevirtual 80, 3) := by decide +kernel
theorem kd_prog_2_method_4_code_28 : decode prog_2_method_4_code 28 = .ok (.pop, 1) := by decide +kernel
theorem kd_prog_2_method_4_code_29 : decode prog_2_method_4_code 29 = .ok (.iinc 3 1, 3) := by decide +kernel
theorem kd_prog_2_method_4_code_32 : decode prog_2_method_4_code 32 = .ok (.goto (-30), 3) := by decide +kernel
theorem kd_prog_2_method_4_code_35 : decode prog_2_method_4_code 35 = .ok (.return_, 1) := by decide +kernel
theorem kd_prog_2_method_7_code_0 : decode prog_2_method_7_code 0 = .ok (.aload_n 0, 1) := by decide +kernel
theorem kd_prog_2_method_7_code_1 : decode prog_2_method_7_code 1 = .ok (.getfield 15, 3) := by decide +kernel
theorem kd_prog_2_method_7_code_4 : decode prog_2_method_7_code 4 = .ok (.bipush 100, 2) := by decide +kernel
theorem kd_prog_2_method_7_code_6 : decode prog_2_method_7_code 6 = .ok (.if_icmp .ge 13, 3) := by decide +kernel
theorem kd_prog_2_method_7_code_9 : decode prog_2_method_7_code 9 = .ok (.aload_n 0, 1) := by decide +kernel
theorem kd_prog_2_method_7_code_10 : decode prog_2_method_7_code 10 = .ok (.getfield 28, 3) := by decide +kernel
theorem kd_prog_2_method_7_code_13 : decode prog_2_method_7_code 13 = .ok (.aload_n 0, 1) := by decide +kernel
theorem kd_prog_2_method_7_code_14 : decode prog_2_method_7_code 14 = .ok (.getfield 15, 3) := by decide +kernel
theorem kd_prog_2_method_7_code_17 : decode prog_2_method_7_code 17 = .ok (.iload_n 1, 1) := by decide +kernel
theorem kd_prog_2_method_7_code_18 : decode prog_2_method_7_code 18 = .ok (.iastore, 1) := by decide +kernel
theorem kd_prog_2_method_7_code_19 : decode prog_2_method_7_code 19 = .ok (.aload_n 0, 1) := by decide +kernel
theorem kd_prog_2_method_7_code_20 : decode prog_2_method_7_code 20 = .ok (.dup, 1) := by decide +kernel
theorem kd_prog_2_method_7_code_21 : decode prog_2_method_7_code 21 = .ok (.getfield 15, 3) := by decide +kernel
theorem kd_prog_2_method_7_code_24 : decode prog_2_method_7_code 24 = .ok (.iconst 1, 1) := by decide +kernel
theorem kd_prog_2_method_7_code_25 : decode prog_2_method_7_code 25 = .ok (.iadd, 1) := by decide +kernel
theorem kd_prog_2_method_7_code_26 : decode prog_2_method_7_code 26 = .ok (.putfield 15, 3) := by decide +kernel
theorem kd_prog_2_method_7_code_29 : decode prog_2_method_7_code 29 = .ok (.return_, 1) := by decide +kernel
theorem kd_prog_2_method_6_code_0 : decode prog_2_method_6_code 0 = .ok (.iload_n 1, 1) := by decide +kernel
theorem kd_prog_2_method_6_code_1 : decode prog_2_method_6_code 1 = .ok (.ifCond .ne 18, 3) := by decide +kernel
theorem kd_prog_2_method_6_code_4 : decode prog_2_method_6_code 4 = .ok (.aload_n 0, 1) := by decide +kernel
theorem kd_prog_2_method_6_code_5 : decode prog_2_method_6_code 5 = .ok (.getfield 21, 3) := by decide +kernel
theorem kd_prog_2_method_6_code_8 : decode prog_2_method_6_code 8 = .ok (.iload_n 2, 1) := by decide +kernel
theorem kd_prog_2_method_6_code_9 : decode prog_2_method_6_code 9 = .ok (.aload_n 0, 1) := by decide +kernel
theorem kd_prog_2_method_6_code_10 : decode prog_2_method_6_code 10 = .ok (.getfield 21, 3) := by decide +kernel
theorem kd_prog_2_method_6_code_13 : decode prog_2_method_6_code 13 = .ok (.iload_n 3, 1) := by decide +kernel
theorem kd_prog_2_method_6_code_14 : decode prog_2_method_6_code 14 = .ok (.iaload, 1) := by decide +kernel
theorem kd_prog_2_method_6_code_15 : decode prog_2_method_6_code 15 = .ok (.iastore, 1) := by decide +kernel
theorem kd_prog_2_method_6_code_16 : decode prog_2_method_6_code 16 = .ok (.goto 28, 3) := by decide +kernel
theorem kd_prog_2_method_6_code_19 : decode prog_2_method_6_code 19 = .ok (.iload_n 1, 1) := by decide +kernel
theorem kd_prog_2_method_6_code_20 : decode prog_2_method_6_code 20 = .ok (.iconst 1, 1) := by decide +kernel
theorem kd_prog_2_method_6_code_21 : decode prog_2_method_6_code 21 = .ok (.if_icmp .ne 13, 3) := by decide +kernel
theorem kd_prog_2_method_6_code_24 : decode prog_2_method_6_code 24 = .ok (.aload_n 0, 1) := by decide +kernel
theorem kd_prog_2_method_6_code_25 : decode prog_2_method_6_code 25 = .ok (.getfield 21, 3) := by decide +kernel
theorem kd_prog_2_method_6_code_28 : decode prog_2_method_6_code 28 = .ok (.iload_n 2, 1) := by decide +kernel
theorem kd_prog_2_method_6_code_29 : decode prog_2_method_6_code 29 = .ok (.iload_n 3, 1) := by decide +kernel
theorem kd_prog_2_method_6_code_30 : decode prog_2_method_6_code 30 = .ok (.iastore, 1) := by decide +kernel
theorem kd_prog_2_method_6_code_31 : decode prog_2_method_6_code 31 = .ok (.goto 13, 3) := by decide +kernel
theorem kd_prog_2_method_6_code_34 : decode prog_2_method_6_code 34 = .ok (.aload_n 0, 1) := by decide +kernel
theorem kd_prog_2_method_6_code_35 : decode prog_2_method_6_code 35 = .ok (.aload_n 0, 1) := by decide +kernel
theorem kd_prog_2_method_6_code_36 : decode prog_2_method_6_code 36 = .ok (.getfield 21, 3) := by decide +kernel
theorem kd_prog_2_method_6_code_39 : decode prog_2_method_6_code 39 = .ok (.iload_n 2, 1) := by decide +kernel
theorem kd_prog_2_method_6_code_40 : decode prog_2_method_6_code 40 = .ok (.iaload, 1) := by decide +kernel
theorem kd_prog_2_method_6_code_41 : decode prog_2_method_6_code 41 = .ok (.invokevirtual 102, 3) := by decide +kernel
theorem kd_prog_2_method_6_code_44 : decode prog_2_method_6_code 44 = .ok (.return_, 1) := by decide +kernel
theorem kd_prog_2_method_5_code_0 : decode prog_2_method_5_code 0 = .ok (.lload_n 2, 1) := by decide +kernel
theorem kd_prog_2_method_5_code_1 : decode prog_2_method_5_code 1 = .ok (.lstore 4, 2) := by decide +kernel
theorem kd_prog_2_method_5_code_3 : decode prog_2_method_5_code 3 = .ok (.iload_n 1, 1) := by decide +kernel
theorem kd_prog_2_method_5_code_4 : decode prog_2_method_5_code 4 = .ok (.iconst 5, 1) := by decide +kernel
theorem kd_prog_2_method_5_code_5 : decode prog_2_method_5_code 5 = .ok (.imul, 1) := by decide +kernel
theorem kd_prog_2_method_5_code_6 : decode prog_2_method_5_code 6 = .ok (.istore 6, 2) := by decide +kernel
theorem kd_prog_2_method_5_code_8 : decode prog_2_method_5_code 8 = .ok (.iload 6, 2) := by decide +kernel
theorem kd_prog_2_method_5_code_10 : decode prog_2_method_5_code 10 = .ok (.istore 7, 2) := by decide +kernel
theorem kd_prog_2_method_5_code_12 : decode prog_2_method_5_code 12 = .ok (.iload 7, 2) := by decide +kernel
theorem kd_prog_2_method_5_code_14 : decode prog_2_method_5_code 14 = .ok (.iload 6, 2) := by decide +kernel
theorem kd_prog_2_method_5_code_16 : decode prog_2_method_5_code 16 = .ok (.aload_n 0, 1) := by decide +kernel
theorem kd_prog_2_method_5_code_17 : decode prog_2_method_5_code 17 = .ok (.getfield 34, 3) := by decide +kernel
theorem kd_prog_2_method_5_code_20 : decode prog_2_method_5_code 20 = .ok (.getfield 84, 3) := by decide +kernel
theorem kd_prog_2_method_5_code_23 : decode prog_2_method_5_code 23 = .ok (.iload_n 1, 1) := by decide +kernel
theorem kd_prog_2_method_5_code_24 : decode prog_2_method_5_code 24 = .ok (.iaload, 1) := by decide +kernel
theorem kd_prog_2_method_5_code_25 : decode prog_2_method_5_code 25 = .ok (.iadd, 1) := by decide +kernel
theorem kd_prog_2_method_5_code_26 : decode prog_2_method_5_code 26 = .ok (.if_icmp .ge 132, 3) := by decide +kernel
theorem kd_prog_2_method_5_code_29 : decode prog_2_method_5_code 29 = .ok (.aload_n 0, 1) := by decide +kernel
theorem kd_prog_2_method_5_code_30 : decode prog_2_method_5_code 30 = .ok (.getfield 34, 3) := by decide +kernel
theorem kd_prog_2_method_5_code_33 : decode prog_2_method_5_code 33 = .ok (.getfield 87, 3) := by decide +kernel
theorem kd_prog_2_method_5_code_36 : decode prog_2_method_5_code 36 = .ok (.iload 7, 2) := by decide +kernel
theorem kd_prog_2_method_5_code_38 : decode prog_2_method_5_code 38 = .ok (.iaload, 1) := by decide +kernel
theorem kd_prog_2_method_5_code_39 : decode prog_2_method_5_code 39 = .ok (.istore 8, 2) := by decide +kernel
theorem kd_prog_2_method_5_code_41 : decode prog_2_method_5_code 41 = .ok (.aload_n 0, 1) := by decide +kernel
theorem kd_prog_2_method_5_code_42 : decode prog_2_method_5_code 42 = .ok (.getfield 34, 3) := by decide +kernel
theorem kd_prog_2_method_5_code_45 : decode prog_2_method_5_code 45 = .ok (.getfield 90, 3) := by decide +kernel
theorem kd_prog_2_method_5_code_48 : decode prog_2_method_5_code 48 = .ok (.iload 7, 2) := by decide +kernel
theorem kd_prog_2_method_5_code_50 : decode prog_2_method_5_code 50 = .ok (.iaload, 1) := by decide +kernel
theorem kd_prog_2_method_5_code_51 : decode prog_2_method_5_code 51 = .ok (.iconst 2, 1) := by decide +kernel
theorem kd_prog_2_method_5_code_52 : decode prog_2_method_5_code 52 = .ok (.if_icmp .ne 74, 3) := by decide +kernel
theorem kd_prog_2_method_5_code_55 : decode prog_2_method_5_code 55 = .ok (.lload 4, 2) := by decide +kernel
theorem kd_prog_2_method_5_code_57 : decode prog_2_method_5_code 57 = .ok (.iload 8, 2) := by decide +kernel
theorem kd_prog_2_method_5_code_59 : decode prog_2_method_5_code 59 = .ok (.lshr, 1) := by decide +kernel
theorem kd_prog_2_method_5_code_60 : decode prog_2_method_5_code 60 = .ok (.lconst 1, 1) := by decide +kernel
theorem kd_prog_2_method_5_code_61 : decode prog_2_method_5_code 61 = .ok (.land, 1) := by decide +kernel
theorem kd_prog_2_method_5_code_62 : decode prog_2_method_5_code 62 = .ok (.lconst 0, 1) := by decide +kernel
theorem kd_prog_2_method_5_code_63 : decode prog_2_method_5_code 63 = .ok (.lcmp, 1) := by decide +kernel
theorem kd_prog_2_method_5_code_64 : decode prog_2_method_5_code 64 = .ok (.ifCond .eq 7, 3) := by decide +kernel
theorem kd_prog_2_method_5_code_67 : decode prog_2_method_5_code 67 = .ok (.iconst 1, 1) := by decide +kernel
theorem kd_prog_2_method_5_code_68 : decode prog_2_method_5_code 68 = .ok (.goto 4, 3) := by decide +kernel
theorem kd_prog_2_method_5_code_71 : decode prog_2_method_5_code 71 = .ok (.iconst 0, 1) := by decide +kernel
theorem kd_prog_2_method_5_code_72 : decode prog_2_method_5_code 72 = .ok (.istore 9, 2) := by decide +kernel
theorem kd_prog_2_method_5_code_74 : decode prog_2_method_5_code 74 = .ok (.aload_n 0, 1) := by decide +kernel
theorem kd_prog_2_method_5_code_75 : decode prog_2_method_5_code 75 = .ok (.getfield 21, 3) := by decide +kernel
theorem kd_prog_2_method_5_code_78 : decode prog_2_method_5_code 78 = .ok (.aload_n 0, 1) := by decide +kernel
theorem kd_prog_2_method_5_code_79 : decode prog_2_method_5_code 79 = .ok (.getfield 34, 3) := by decide +kernel
theorem kd_prog_2_method_5_code_82 : decode prog_2_method_5_code 82 = .ok (.getfield 93, 3) := by decide +kernel
theorem kd_prog_2_method_5_code_85 : decode prog_2_method_5_code 85 = .ok (.iload 7, 2) := by decide +kernel
theorem kd_prog_2_method_5_code_87 : decode prog_2_method_5_code 87 = .ok (.iaload, 1) := by decide +kernel
theorem kd_prog_2_method_5_code_88 : decode prog_2_method_5_code 88 = .ok (.iload 9, 2) := by decide +kernel
theorem kd_prog_2_method_5_code_90 : decode prog_2_method_5_code 90 = .ok (.ifCond .eq 13, 3) := by decide +kernel
theorem kd_prog_2_method_5_code_93 : decode prog_2_method_5_code 93 = .ok (.aload_n 0, 1) := by decide +kernel
theorem kd_prog_2_method_5_code_94 : decode prog_2_method_5_code 94 = .ok (.getfield 31, 3) := by decide +kernel
theorem kd_prog_2_method_5_code_97 : decode prog_2_method_5_code 97 = .ok (.iload 8, 2) := by decide +kernel
theorem kd_prog_2_method_5_code_99 : decode prog_2_method_5_code 99 = .ok (.iaload, 1) := by decide +kernel
theorem kd_prog_2_method_5_code_100 : decode prog_2_method_5_code 100 = .ok (.goto 9, 3) := by decide +kernel
theorem kd_prog_2_method_5_code_103 : decode prog_2_method_5_code 103 = .ok (.aload_n 0, 1) := by decide +kernel
theorem kd_prog_2_method_5_code_104 : decode prog_2_method_5_code 104 = .ok (.iload 8, 2) := by decide +kernel
theorem kd_prog_2_method_5_code_106 : decode prog_2_method_5_code 106 = .ok (.invokevirtual 80, 3) := by decide +kernel
theorem kd_prog_2_method_5_code_109 : decode prog_2_method_5_code 109 = .ok (.iastore, 1) := by decide +kernel
theorem kd_prog_2_method_5_code_110 : decode prog_2_method_5_code 110 = .ok (.lload 4, 2) := by decide +kernel
theorem kd_prog_2_method_5_code_112 : decode prog_2_method_5_code 112 = .ok (.lconst 1, 1) := by decide +kernel
theorem kd_prog_2_method_5_code_113 : decode prog_2_method_5_code 113 = .ok (.iload 8, 2) := by decide +kernel
theorem kd_prog_2_method_5_code_115 : decode prog_2_method_5_code 115 = .ok (.lshl, 1) := by decide +kernel
theorem kd_prog_2_method_5_code_116 : decode prog_2_method_5_code 116 = .ok (.ldc2_w 96, 3) := by decide +kernel
theorem kd_prog_2_method_5_code_119 : decode prog_2_method_5_code 119 = .ok (.lxor, 1) := by decide +kernel
theorem kd_prog_2_method_5_code_120 : decode prog_2_method_5_code 120 = .ok (.land, 1) := by decide +kernel
theorem kd_prog_2_method_5_code_121 : decode prog_2_method_5_code 121 = .ok (.lstore 4, 2) := by decide +kernel
theorem kd_prog_2_method_5_code_123 : decode prog_2_method_5_code 123 = .ok (.goto 29, 3) := by decide +kernel
theorem kd_prog_2_method_5_code_126 : decode prog_2_method_5_code 126 = .ok (.aload_n 0, 1) := by decide +kernel
theorem kd_prog_2_method_5_code_127 : decode prog_2_method_5_code 127 = .ok (.aload_n 0, 1) := by decide +kernel
theorem kd_prog_2_method_5_code_128 : decode prog_2_method_5_code 128 = .ok (.getfield 34, 3) := by decide +kernel
theorem kd_prog_2_method_5_code_131 : decode prog_2_method_5_code 131 = .ok (.getfield 90, 3) := by decide +kernel
theorem kd_prog_2_method_5_code_134 : decode prog_2_method_5_code 134 = .ok (.iload 7, 2) := by decide +kernel
theorem kd_prog_2_method_5_code_136 : decode prog_2_method_5_code 136 = .ok (.iaload, 1) := by decide +kernel
theorem kd_prog_2_method_5_code_137 : decode prog_2_method_5_code 137 = .ok (.aload_n 0, 1) := by decide +kernel
theorem kd_prog_2_method_5_code_138 : decode prog_2_method_5_code 138 = .ok (.getfield 34, 3) := by decide +kernel
theorem kd_prog_2_method_5_code_141 : decode prog_2_method_5_code 141 = .ok (.getfield 93, 3) := by decide +kernel
theorem kd_prog_2_method_5_code_144 : decode prog_2_method_5_code 144 = .ok (.iload 7, 2) := by decide +kernel
theorem kd_prog_2_method_5_code_146 : decode prog_2_method_5_code 146 = .ok (.iaload, 1) := by decide +kernel
theorem kd_prog_2_method_5_code_147 : decode prog_2_method_5_code 147 = .ok (.iload 8, 2) := by decide +kernel
theorem kd_prog_2_method_5_code_149 : decode prog_2_method_5_code 149 = .ok (.invokevirtual 98, 3) := by decide +kernel
theorem kd_prog_2_method_5_code_152 : decode prog_2_method_5_code 152 = .ok (.iinc 7 1, 3) := by decide +kernel
theorem kd_prog_2_method_5_code_155 : decode prog_2_method_5_code 155 = .ok (.goto (-143), 3) := by decide +kernel
theorem kd_prog_2_method_5_code_158 : decode prog_2_method_5_code 158 = .ok (.return_, 1) := by decide +kernel
theorem kd_prog_2_method_3_code_0 : decode prog_2_method_3_code 0 = .ok (.iconst (-1), 1) := by decide +kernel
theorem kd_prog_2_method_3_code_1 : decode prog_2_method_3_code 1 = .ok (.istore_n 2, 1) := by decide +kernel
theorem kd_prog_2_method_3_code_2 : decode prog_2_method_3_code 2 = .ok (.iconst 0, 1) := by decide +kernel
theorem kd_prog_2_method_3_code_3 : decode prog_2_method_3_code 3 = .ok (.istore_n 3, 1) := by decide +kernel
theorem kd_prog_2_method_3_code_4 : decode prog_2_method_3_code 4 = .ok (.iconst 0, 1) := by decide +kernel
theorem kd_prog_2_method_3_code_5 : decode prog_2_method_3_code 5 = .ok (.istore 4, 2) := by decide +kernel
theorem kd_prog_2_method_3_code_7 : decode prog_2_method_3_code 7 = .ok (.iload_n 3, 1) := by decide +kernel
theorem kd_prog_2_method_3_code_8 : decode prog_2_method_3_code 8 = .ok (.iconst (-1), 1) := by decide +kernel
theorem kd_prog_2_method_3_code_9 : decode prog_2_method_3_code 9 = .ok (.if_icmp .eq 97, 3) := by decide +kernel
theorem kd_prog_2_method_3_code_12 : decode prog_2_method_3_code 12 = .ok (.iload 4, 2) := by decide +kernel
theorem kd_prog_2_method_3_code_14 : decode prog_2_method_3_code 14 = .ok (.sipush 200, 3) := by decide +kernel
theorem kd_prog_2_method_3_code_17 : decode prog_2_method_3_code 17 = .ok (.if_icmp .ge 89, 3) := by decide +kernel
theorem kd_prog_2_method_3_code_20 : decode prog_2_method_3_code 20 = .ok (.iload_n 1, 1) := by decide +kernel
theorem kd_prog_2_method_3_code_21 : decode prog_2_method_3_code 21 = .ok (.ifCond .eq 16, 3) := by decide +kernel
theorem kd_prog_2_method_3_code_24 : decode prog_2_method_3_code 24 = .ok (.aload_n 0, 1) := by decide +kernel
theorem kd_prog_2_method_3_code_25 : decode prog_2_method_3_code 25 = .ok (.aload_n 0, 1) := by decide +kernel
theorem kd_prog_2_method_3_code_26 : decode prog_2_method_3_code 26 = .ok (.getfield 38, 3) := by decide +kernel
theorem kd_prog_2_method_3_code_29 : decode prog_2_method_3_code 29 = .ok (.iload_n 2, 1) := by decide +kernel
theorem kd_prog_2_method_3_code_30 : decode prog_2_method_3_code 30 = .ok (.iload_n 3, 1) := by decide +kernel
theorem kd_prog_2_method_3_code_31 : decode prog_2_method_3_code 31 = .ok (.invokevirtual 48, 3) := by decide +kernel
theorem kd_prog_2_method_3_code_34 : decode prog_2_method_3_code 34 = .ok (.invokevirtual 54, 3) := by decide +kernel
theorem kd_prog_2_method_3_code_37 : decode prog_2_method_3_code 37 = .ok (.aload_n 0, 1) := by decide +kernel
theorem kd_prog_2_method_3_code_38 : decode prog_2_method_3_code 38 = .ok (.iload_n 3, 1) := by decide +kernel
theorem kd_prog_2_method_3_code_39 : decode prog_2_method_3_code 39 = .ok (.iload_n 1, 1) := by decide +kernel
theorem kd_prog_2_method_3_code_40 : decode prog_2_method_3_code 40 = .ok (.ifCond .eq 15, 3) := by decide +kernel
theorem kd_prog_2_method_3_code_43 : decode prog_2_method_3_code 43 = .ok (.aload_n 0, 1) := by decide +kernel
theorem kd_prog_2_method_3_code_44 : decode prog_2_method_3_code 44 = .ok (.getfield 38, 3) := by decide +kernel
theorem kd_prog_2_method_3_code_47 : decode prog_2_method_3_code 47 = .ok (.getfield 58, 3) := by decide +kernel
theorem kd_prog_2_method_3_code_50 : decode prog_2_method_3_code 50 = .ok (.iload_n 3, 1) := by decide +kernel
theorem kd_prog_2_method_3_code_51 : decode prog_2_method_3_code 51 = .ok (.laload, 1) := by decide +kernel
theorem kd_prog_2_method_3_code_52 : decode prog_2_method_3_code 52 = .ok (.goto 4, 3) := by decide +kernel
theorem kd_prog_2_method_3_code_55 : decode prog_2_method_3_code 55 = .ok (.lconst 0, 1) := by decide +kernel
theorem kd_prog_2_method_3_code_56 : decode prog_2_method_3_code 56 = .ok (.invokevirtual 62, 3) := by decide +kernel
theorem kd_prog_2_method_3_code_59 : decode prog_2_method_3_code 59 = .ok (.iload_n 3, 1) := by decide +kernel
theorem kd_prog_2_method_3_code_60 : decode prog_2_method_3_code 60 = .ok (.istore_n 2, 1) := by decide +kernel
theorem kd_prog_2_method_3_code_61 : decode prog_2_method_3_code 61 = .ok (.aload_n 0, 1) := by decide +kernel
theorem kd_prog_2_method_3_code_62 : decode prog_2_method_3_code 62 = .ok (.getfield 21, 3) := by decide +kernel
theorem kd_prog_2_method_3_code_65 : decode prog_2_method_3_code 65 = .ok (.aload_n 0, 1) := by decide +kernel
theorem kd_prog_2_method_3_code_66 : decode prog_2_method_3_code 66 = .ok (.getfield 34, 3) := by decide +kernel
theorem kd_prog_2_method_3_code_69 : decode prog_2_method_3_code 69 = .ok (.getfield 66, 3) := by decide +kernel
theorem kd_prog_2_method_3_code_72 : decode prog_2_method_3_code 72 = .ok (.iload_n 3, 1) := by decide +kernel
theorem kd_prog_2_method_3_code_73 : decode prog_2_method_3_code 73 = .ok (.iaload, 1) := by decide +kernel
theorem kd_prog_2_method_3_code_74 : decode prog_2_method_3_code 74 = .ok (.iaload, 1) := by decide +kernel
theorem kd_prog_2_method_3_code_75 : decode prog_2_method_3_code 75 = .ok (.ifCond .eq 15, 3) := by decide +kernel
theorem kd_prog_2_method_3_code_78 : decode prog_2_method_3_code 78 = .ok (.aload_n 0, 1) := by decide +kernel
theorem kd_prog_2_method_3_code_79 : decode prog_2_method_3_code 79 = .ok (.getfield 34, 3) := by decide +kernel
theorem kd_prog_2_method_3_code_82 : decode prog_2_method_3_code 82 = .ok (.getfield 71, 3) := by decide +kernel
theorem kd_prog_2_method_3_code_85 : decode prog_2_method_3_code 85 = .ok (.iload_n 3, 1) := by decide +kernel
theorem kd_prog_2_method_3_code_86 : decode prog_2_method_3_code 86 = .ok (.iaload, 1) := by decide +kernel
theorem kd_prog_2_method_3_code_87 : decode prog_2_method_3_code 87 = .ok (.goto 12, 3) := by decide +kernel
theorem kd_prog_2_method_3_code_90 : decode prog_2_method_3_code 90 = .ok (.aload_n 0, 1) := by decide +kernel
theorem kd_prog_2_method_3_code_91 : decode prog_2_method_3_code 91 = .ok (.getfield 34, 3) := by decide +kernel
theorem kd_prog_2_method_3_code_94 : decode prog_2_method_3_code 94 = .ok (.getfield 74, 3) := by decide +kernel
theorem kd_prog_2_method_3_code_97 : decode prog_2_method_3_code 97 = .ok (.iload_n 3, 1) := by decide +kernel
theorem kd_prog_2_method_3_code_98 : decode prog_2_method_3_code 98 = .ok (.iaload, 1) := by decide +kernel
theorem kd_prog_2_method_3_code_99 : decode prog_2_method_3_code 99 = .ok (.istore_n 3, 1) := by decide +kernel
theorem kd_prog_2_method_3_code_100 : decode prog_2_method_3_code 100 = .ok (.iinc 4 1, 3) := by decide +kernel
theorem kd_prog_2_method_3_code_103 : decode prog_2_method_3_code 103 = .ok (.goto (-96), 3) := by decide +kernel
theorem kd_prog_2_method_3_code_106 : decode prog_2_method_3_code 106 = .ok (.aload_n 0, 1) := by decide +kernel
theorem kd_prog_2_method_3_code_107 : decode prog_2_method_3_code 107 = .ok (.iload 4, 2) := by decide +kernel
theorem kd_prog_2_method_3_code_109 : decode prog_2_method_3_code 109 = .ok (.putfield 18, 3) := by decide +kernel
theorem kd_prog_2_method_3_code_112 : decode prog_2_method_3_code 112 = .ok (.return_, 1) := by decide +kernel
section
variable {p : Program} {l : Launch} {e : Env} {R : Room} {s : State} {m : MethodId} {args : Array Value} {below : List Frame} {meth : Method} {c : Code} {Q : State → Prop} {ce sl : Nat} {D : va_G} {q : Nat → Nat} {cA : Nat → ClassId} {A : Nat → Prop}
set_option maxHeartbeats 4000000 in
set_option maxRecDepth 100000 in
theorem w_K_reset (hx : p.tables.exec = Jvm.exec) (hb : c.code = prog_2_method_2_code) (hml : c.maxLocals = 4) (hown : s.vm.findClass kr_K = some m.cls) (hts : ∀ w ∈ lw_g, w.before args s = true) (hRf : 1 ≤ R.frames) (hRl : 23 ≤ R.locals) (hce : ce ≤ R.cells) (hsl : sl ≤ R.slots) (hA : ∀ x, s.heap.size ≤ x → A x) (hK : va_K D wk_cl (tysW cA) s) (x1 : Int32) (x2 : Int32) (x3 : Int32) (z : Sta) (K : Sta → Prop) (h : wp_K_reset x1 x2 x3 z K) (hret : ∀ (u : Sta) (H : Heap) (locs : List Loc) (pc : Nat) (ls : Array Slot), K u → wk_S D q cA A s.heap u H locs → decode prog_2_method_2_code pc = .ok (.return_, 1) → W p l e R s m args below meth c H locs ce sl Q (F0 m pc ls [])) {H : Heap} {locs : List Loc} {ls : Array Slot} (hV : wk_S D q cA A s.heap z H locs) (hl : lv_has ls 4 [(0, .ref (q 3)), (1, .int x1), (2, .int x2), (3, .int x3)]) : W p l e R s m args below meth c H locs ce sl Q (F0 m 0 ls []) := by
  unfold wp_K_reset at h
  refine lv_aload_n hx hb kd_prog_2_method_2_code_0 rfl (lv_at hl 0 rfl) ?_
  refine lv_iconst (v := 0) hx hb kd_prog_2_method_2_code_1 (by decide) ?_
  refine wk_put (D := D) (ci := 3) (v := .int (0 : Int32)) (ty := .int) (C := kr_K) (T := kt_K) (N := kn_K) (z1 := zI z 4 (0 : Int32)) hx hb hts ki_K ky_K ko_K km_K hown hK hV 3 rfl rfl 0 (by decide) (hts _ hw_139) (fun _ h9 => h9) rfl (by decide +kernel) rfl rfl (Nat.le_of_ble_eq_true rfl) rfl kd_prog_2_method_2_code_2 (fun H locs hV => ?_)
  obtain ⟨z1, ez1⟩ : ∃ x : Sta, x = zI z 4 (0 : Int32) := ⟨_, rfl⟩
  rw [← ez1] at hV
  have h := h z1 ez1
  refine lv_aload_n hx hb kd_prog_2_method_2_code_5 rfl (lv_at hl 0 rfl) ?_
  refine lv_iconst (v := 0) hx hb kd_prog_2_method_2_code_6 (by decide) ?_
  refine wk_put (D := D) (ci := 3) (v := .int (0 : Int32)) (ty := .int) (C := kr_K) (T := kt_K) (N := kn_K) (z1 := zI z1 5 (0 : Int32)) hx hb hts ki_K ky_K ko_K km_K hown hK hV 3 rfl rfl 1 (by decide) (hts _ hw_141) (fun _ h9 => h9) rfl (by decide +kernel) rfl rfl (Nat.le_of_ble_eq_true rfl) rfl kd_prog_2_method_2_code_7 (fun H locs hV => ?_)
  obtain ⟨z2, ez2⟩ : ∃ x : Sta, x = zI z1 5 (0 : Int32) := ⟨_, rfl⟩
  rw [← ez2] at hV
  have h := h z2 ez2
  refine lv_aload_n hx hb kd_prog_2_method_2_code_10 rfl (lv_at hl 0 rfl) ?_
  refine va_get (D := D) (ci := 3) (v := .ref (q 26)) (C := kr_K) (T := kt_K) (N := kn_K) hx hb hts ki_K hown hK hV.1 3 rfl rfl 3 (by decide) (hts _ hw_145) (fun _ h9 => h9) rfl kd_prog_2_method_2_code_11 ?_
  refine lv_iconst (v := 0) hx hb kd_prog_2_method_2_code_14 (by decide) ?_
  refine wk_callv (va_runS (As := [.ref (q 26), .int (0 : Int32)]) (rest := []) ⟨hx, hb, hml, hown, hts⟩ (c_A_fill_26 l D q cA 0 z2 H.size _ h) (va_cwS 2 hts gs_K_42 rfl rfl rfl (by decide +kernel) ⟨Nat.le_trans (by decide) hRf, Nat.le_trans (by decide) hRl⟩) (wk_preS hK hV [.ref (q 26), .int (0 : Int32)]) rfl rfl hl.1 rfl (lv_room (Nat.le_of_ble_eq_true rfl)) kd_prog_2_method_2_code_15 ⟨hce, hsl⟩) hV hA (fun z3 H locs h hV => ?_)
  refine lv_aload_n hx hb kd_prog_2_method_2_code_18 rfl (lv_at hl 0 rfl) ?_
  refine va_get (D := D) (ci := 3) (v := .ref (q 27)) (C := kr_K) (T := kt_K) (N := kn_K) hx hb hts ki_K hown hK hV.1 3 rfl rfl 4 (by decide) (hts _ hw_147) (fun _ h9 => h9) rfl kd_prog_2_method_2_code_19 ?_
  refine lv_iconst (v := 0) hx hb kd_prog_2_method_2_code_22 (by decide) ?_
  refine wk_callv (va_runS (As := [.ref (q 27), .int (0 : Int32)]) (rest := []) ⟨hx, hb, hml, hown, hts⟩ (c_A_fill_27 l D q cA 0 z3 H.size _ h) (va_cwS 2 hts gs_K_42 rfl rfl rfl (by decide +kernel) ⟨Nat.le_trans (by decide) hRf, Nat.le_trans (by decide) hRl⟩) (wk_preS hK hV [.ref (q 27), .int (0 : Int32)]) rfl rfl hl.1 rfl (lv_room (Nat.le_of_ble_eq_true rfl)) kd_prog_2_method_2_code_23 ⟨hce, hsl⟩) hV hA (fun z4 H locs h hV => ?_)
  refine lv_aload_n hx hb kd_prog_2_method_2_code_26 rfl (lv_at hl 0 rfl) ?_
  refine va_get (D := D) (ci := 3) (v := .ref (q 29)) (C := kr_K) (T := kt_K) (N := kn_K) hx hb hts ki_K hown hK hV.1 3 rfl rfl 8 (by decide) (hts _ hw_153) (fun _ h9 => h9) rfl kd_prog_2_method_2_code_27 ?_
  refine lv_iconst (v := 0) hx hb kd_prog_2_method_2_code_30 (by decide) ?_
  refine wk_callv (va_runS (As := [.ref (q 29), .int (0 : Int32)]) (rest := []) ⟨hx, hb, hml, hown, hts⟩ (c_A_fill_29 l D q cA 0 z4 H.size _ h) (va_cwS 2 hts gs_K_42 rfl rfl rfl (by decide +kernel) ⟨Nat.le_trans (by decide) hRf, Nat.le_trans (by decide) hRl⟩) (wk_preS hK hV [.ref (q 29), .int (0 : Int32)]) rfl rfl hl.1 rfl (lv_room (Nat.le_of_ble_eq_true rfl)) kd_prog_2_method_2_code_31 ⟨hce, hsl⟩) hV hA (fun z5 H locs h hV => ?_)
  refine lv_aload_n hx hb kd_prog_2_method_2_code_34 rfl (lv_at hl 0 rfl) ?_
  refine va_get (D := D) (ci := 3) (v := .ref (q 26)) (C := kr_K) (T := kt_K) (N := kn_K) hx hb hts ki_K hown hK hV.1 3 rfl rfl 3 (by decide) (hts _ hw_145) (fun _ h9 => h9) rfl kd_prog_2_method_2_code_35 ?_
  refine lv_iconst (v := 0) hx hb kd_prog_2_method_2_code_38 (by decide) ?_
  refine lv_iload_n hx hb kd_prog_2_method_2_code_39 rfl (lv_at hl 1 rfl) ?_
  obtain ⟨hin, h⟩ := h
  refine wk_iast hx hb hK hV 26 21 11 rfl rfl (ks_26 q cA z5) hin kd_prog_2_method_2_code_40 (fun H locs hV => ?_)
  obtain ⟨z6, ez6⟩ : ∃ x : Sta, x = zA z5 11 (upd (z5.2.1 11) (0 : Int32).toNatClampNeg x1) := ⟨_, rfl⟩
  rw [← ez6] at hV
  have h := h z6 ez6
  refine lv_aload_n hx hb kd_prog_2_method_2_code_41 rfl (lv_at hl 0 rfl) ?_
  refine va_get (D := D) (ci := 3) (v := .ref (q 26)) (C := kr_K) (T := kt_K) (N := kn_K) hx hb hts ki_K hown hK hV.1 3 rfl rfl 3 (by decide) (hts _ hw_145) (fun _ h9 => h9) rfl kd_prog_2_method_2_code_42 ?_
  refine lv_iconst (v := 1) hx hb kd_prog_2_method_2_code_45 (by decide) ?_
  refine lv_iload_n hx hb kd_prog_2_method_2_code_46 rfl (lv_at hl 2 rfl) ?_
  obtain ⟨hin, h⟩ := h
  refine wk_iast hx hb hK hV 26 21 11 rfl rfl (ks_26 q cA z6) hin kd_prog_2_method_2_code_47 (fun H locs hV => ?_)
  obtain ⟨z7, ez7⟩ : ∃ x : Sta, x = zA z6 11 (upd (z6.2.1 11) (1 : Int32).toNatClampNeg x2) := ⟨_, rfl⟩
  rw [← ez7] at hV
  have h := h z7 ez7
  refine lv_aload_n hx hb kd_prog_2_method_2_code_48 rfl (lv_at hl 0 rfl) ?_
  refine va_get (D := D) (ci := 3) (v := .ref (q 26)) (C := kr_K) (T := kt_K) (N := kn_K) hx hb hts ki_K hown hK hV.1 3 rfl rfl 3 (by decide) (hts _ hw_145) (fun _ h9 => h9) rfl kd_prog_2_method_2_code_49 ?_
  refine lv_iconst (v := 2) hx hb kd_prog_2_method_2_code_52 (by decide) ?_
  refine lv_iload_n hx hb kd_prog_2_method_2_code_53 rfl (lv_at hl 3 rfl) ?_
  obtain ⟨hin, h⟩ := h
  refine wk_iast hx hb hK hV 26 21 11 rfl rfl (ks_26 q cA z7) hin kd_prog_2_method_2_code_54 (fun H locs hV => ?_)
  obtain ⟨z8, ez8⟩ : ∃ x : Sta, x = zA z7 11 (upd (z7.2.1 11) (2 : Int32).toNatClampNeg x3) := ⟨_, rfl⟩
  rw [← ez8] at hV
  have h := h z8 ez8
  exact hret z8 H locs 55 ls h hV kd_prog_2_method_2_code_55
end
set_option maxHeartbeats 4000000 in
set_option maxRecDepth 100000 in
theorem c_K_reset (l : Launch) (D : va_G) (q : Nat → Nat) (cA : Nat → ClassId) (x1 : Int32) (x2 : Int32) (x3 : Int32) (z : Sta) (sz : Nat) (K : Sta → Prop) (h : wp_K_reset x1 x2 x3 z K) : Met l ke_K_reset (kc_K_reset :: lw_g) { frames := 1, cells := 0, slots := 0, locals := 23 } (wk_Pc D q cA [.ref (q 3), .int x1, .int x2, .int x3] z sz) (va_Qv K (wk_B D q cA (va_A (wW q cA z) sz)) (va_A (wW q cA z) sz)) 0 0 (va_A (wW q cA z) sz) := by
  refine Met.ofW (cc := prog_2_method_2_code) (maxL := 4) (ret := none) (by decide) rfl ?_
  intro p e s m args below meth c s₁ B hml hv
  obtain ⟨rfl, hsz, hP, hK, hD0⟩ := hv
  have hx := B.exec
  have hb := B.bytes
  have hr := B.returns
  have hlocks := B.notSynchronized
  have hts0 := atoms_spec (ws := kc_K_reset :: lw_g) B.pre
  have hts : ∀ w ∈ lw_g, w.before ([.ref (q 3), .int x1, .int x2, .int x3] : List Value).toArray s = true := fun w hw => hts0 w (List.mem_cons_of_mem _ hw)
  have hown : s.vm.findClass kr_K = some m.cls := findClass_of_methodNamed B.named
  subst hsz
  have hD := hD0.self (sz := s.heap.size)
  generalize hAe : va_A (wW q cA z) s.heap.size = A at hD ⊢
  have hA : ∀ x : Nat, s.heap.size ≤ x → A x := fun x hx => by rw [← hAe]; exact Or.inr hx
  have hl := lv_entry ([.ref (q 3), .int x1, .int x2, .int x3]) (n := 4) (Nat.le_of_ble_eq_true rfl)
  rw [lg_entry_eq]
  generalize (lg_sl ([.ref (q 3), .int x1, .int x2, .int x3]) ++ List.replicate (4 - (lg_sl ([.ref (q 3), .int x1, .int x2, .int x3])).length) Slot.unset).toArray = ls at hl ⊢
  have hl : lv_has ls 4 [(0, .ref (q 3)), (1, .int x1), (2, .int x2), (3, .int x3)] := hl
  exact w_K_reset hx hb hml hown hts (Nat.le_refl _) (Nat.le_refl _) (Nat.zero_le _) (Nat.zero_le _) hA hK x1 x2 x3 z K h (fun u H locs pc ls hk hV hd => W.vret hx hb hr (fun t ht hW => ⟨⟨u, rfl, hk, by rw [ht]; exact hV.1, va_K.moved hW.alike hK, hV.2.1⟩, hV.2.2.F ht⟩) hV.2.2.2.2 hd) ⟨hP, hD, va_S.rf⟩ hl
section
variable {p : Program} {l : Launch} {e : Env} {R : Room} {s : State} {m : MethodId} {args : Array Value} {below : List Frame} {meth : Method} {c : Code} {Q : State → Prop} {ce sl : Nat} {D : va_G} {q : Nat → Nat} {cA : Nat → ClassId} {A : Nat → Prop}
set_option maxHeartbeats 4000000 in
set_option maxRecDepth 100000 in
theorem w_K_compute (hx : p.tables.exec = Jvm.exec) (hb : c.code = prog_2_method_8_code) (hml : c.maxLocals = 2) (hown : s.vm.findClass kr_K = some m.cls) (hts : ∀ w ∈ lw_g, w.before args s = true) (hRf : 1 ≤ R.frames) (hRl : 24 ≤ R.locals) (hce : ce ≤ R.cells) (hsl : sl ≤ R.slots) (hA : ∀ x, s.heap.size ≤ x → A x) (hK : va_K D wk_cl (tysW cA) s) (x1 : Int32) (z : Sta) (K : Int32 → Sta → Prop) (h : wp_K_compute x1 z K) (hret : ∀ (r : Int32) (u : Sta) (H : Heap) (locs : List Loc) (pc : Nat) (ls : Array Slot), K r u → wk_S D q cA A s.heap u H locs → decode prog_2_method_8_code pc = .ok (.ireturn, 1) → W p l e R s m args below meth c H locs ce sl Q (F0 m pc ls [.int r])) {H : Heap} {locs : List Loc} {ls : Array Slot} (hV : wk_S D q cA A s.heap z H locs) (hl : lv_has ls 2 [(0, .ref (q 3)), (1, .int x1)]) : W p l e R s m args below meth c H locs ce sl Q (F0 m 0 ls []) := by
  unfold wp_K_compute at h
  refine lv_aload_n hx hb kd_prog_2_method_8_code_0 rfl (lv_at hl 0 rfl) ?_
  refine lv_dup hx hb kd_prog_2_method_8_code_1 rfl ?_
  refine va_get (D := D) (ci := 3) (v := .int (z.1 4)) (C := kr_K) (T := kt_K) (N := kn_K) hx hb hts ki_K hown hK hV.1 3 rfl rfl 0 (by decide) (hts _ hw_139) (fun _ h9 => h9) rfl kd_prog_2_method_8_code_2 ?_
  refine lv_topi (fun v1 ev1 => ?_)
  have h := h v1 ev1
  refine lv_iconst (v := 1) hx hb kd_prog_2_method_8_code_5 (by decide) ?_
  refine lv_iadd hx hb kd_prog_2_method_8_code_6 ?_
  refine lv_topi (fun v2 ev2 => ?_)
  have h := h v2 ev2
  refine wk_put (D := D) (ci := 3) (v := .int v2) (ty := .int) (C := kr_K) (T := kt_K) (N := kn_K) (z1 := zI z 4 v2) hx hb hts ki_K ky_K ko_K km_K hown hK hV 3 rfl rfl 0 (by decide) (hts _ hw_139) (fun _ h9 => h9) rfl (by decide +kernel) rfl rfl (Nat.le_of_ble_eq_true rfl) rfl kd_prog_2_method_8_code_7 (fun H locs hV => ?_)
  obtain ⟨z3, ez3⟩ : ∃ x : Sta, x = zI z 4 v2 := ⟨_, rfl⟩
  rw [← ez3] at hV
  have h := h z3 ez3
  refine lv_aload_n hx hb kd_prog_2_method_8_code_10 rfl (lv_at hl 0 rfl) ?_
  refine va_get (D := D) (ci := 3) (v := .ref (q 27)) (C := kr_K) (T := kt_K) (N := kn_K) hx hb hts ki_K hown hK hV.1 3 rfl rfl 4 (by decide) (hts _ hw_147) (fun _ h9 => h9) rfl kd_prog_2_method_8_code_11 ?_
  refine lv_iload_n hx hb kd_prog_2_method_8_code_14 rfl (lv_at hl 1 rfl) ?_
  refine lv_dup2_11 hx hb kd_prog_2_method_8_code_15 rfl rfl ?_
  obtain ⟨hin, h⟩ := h
  refine va_iald hx hb hK hV.1 27 22 rfl rfl hin kd_prog_2_method_8_code_16 ?_
  refine lv_topi (fun v4 ev4 => ?_)
  have h := h v4 ev4
  refine lv_iconst (v := 1) hx hb kd_prog_2_method_8_code_17 (by decide) ?_
  refine lv_iadd hx hb kd_prog_2_method_8_code_18 ?_
  refine lv_topi (fun v5 ev5 => ?_)
  have h := h v5 ev5
  obtain ⟨hin, h⟩ := h
  refine wk_iast hx hb hK hV 27 22 12 rfl rfl (ks_27 q cA z3) hin kd_prog_2_method_8_code_19 (fun H locs hV => ?_)
  obtain ⟨z6, ez6⟩ : ∃ x : Sta, x = zA z3 12 (upd (z3.2.1 12) x1.toNatClampNeg v5) := ⟨_, rfl⟩
  rw [← ez6] at hV
  have h := h z6 ez6
  refine lv_aload_n hx hb kd_prog_2_method_8_code_20 rfl (lv_at hl 0 rfl) ?_
  refine va_get (D := D) (ci := 3) (v := .ref (q 29)) (C := kr_K) (T := kt_K) (N := kn_K) hx hb hts ki_K hown hK hV.1 3 rfl rfl 8 (by decide) (hts _ hw_153) (fun _ h9 => h9) rfl kd_prog_2_method_8_code_21 ?_
  refine lv_iload_n hx hb kd_prog_2_method_8_code_24 rfl (lv_at hl 1 rfl) ?_
  refine lv_aload_n hx hb kd_prog_2_method_8_code_25 rfl (lv_at hl 0 rfl) ?_
  refine va_get (D := D) (ci := 3) (v := .ref (q 1)) (C := kr_K) (T := kt_K) (N := kn_K) hx hb hts ki_K hown hK hV.1 3 rfl rfl 6 (by decide) (hts _ hw_151) (fun _ h9 => h9) rfl kd_prog_2_method_8_code_26 ?_
  refine lv_iload_n hx hb kd_prog_2_method_8_code_29 rfl (lv_at hl 1 rfl) ?_
  refine lv_aload_n hx hb kd_prog_2_method_8_code_30 rfl (lv_at hl 0 rfl) ?_
  refine va_get (D := D) (ci := 3) (v := .ref (q 26)) (C := kr_K) (T := kt_K) (N := kn_K) hx hb hts ki_K hown hK hV.1 3 rfl rfl 3 (by decide) (hts _ hw_145) (fun _ h9 => h9) rfl kd_prog_2_method_8_code_31 ?_
  refine wk_calli (va_runV (As := [.int x1, .ref (q 26)]) (rest := [.int x1, .ref (q 29)]) ⟨hx, hb, hml, hown, hts⟩ (c_P_valueOf_26 l D q cA x1 z6 H.size _ h) (cwV 2 hts gs_K_106 rfl rfl rfl (by decide +kernel) ⟨Nat.le_trans (by decide) hRf, Nat.le_trans (by decide) hRl⟩) (wk_preV hK hV 1 1 rfl rfl [.int x1, .ref (q 26)]) rfl rfl hl.1 rfl (lv_room (Nat.le_of_ble_eq_true rfl)) kd_prog_2_method_8_code_34 ⟨hce, hsl⟩) hV hA (fun rz7 z7 H locs h hV => ?_)
  obtain ⟨hin, h⟩ := h
  refine wk_iast hx hb hK hV 29 24 14 rfl rfl (ks_29 q cA z7) hin kd_prog_2_method_8_code_37 (fun H locs hV => ?_)
  obtain ⟨z8, ez8⟩ : ∃ x : Sta, x = zA z7 14 (upd (z7.2.1 14) x1.toNatClampNeg rz7) := ⟨_, rfl⟩
  rw [← ez8] at hV
  have h := h z8 ez8
  refine lv_aload_n hx hb kd_prog_2_method_8_code_38 rfl (lv_at hl 0 rfl) ?_
  refine va_get (D := D) (ci := 3) (v := .ref (q 29)) (C := kr_K) (T := kt_K) (N := kn_K) hx hb hts ki_K hown hK hV.1 3 rfl rfl 8 (by decide) (hts _ hw_153) (fun _ h9 => h9) rfl kd_prog_2_method_8_code_39 ?_
  refine lv_iload_n hx hb kd_prog_2_method_8_code_42 rfl (lv_at hl 1 rfl) ?_
  obtain ⟨hin, h⟩ := h
  refine va_iald hx hb hK hV.1 29 24 rfl rfl hin kd_prog_2_method_8_code_43 ?_
  refine lv_topi (fun v9 ev9 => ?_)
  have h := h v9 ev9
  exact hret v9 z8 H locs 44 ls h hV kd_prog_2_method_8_code_44
end
set_option maxHeartbeats 4000000 in
set_option maxRecDepth 100000 in
theorem c_K_compute (l : Launch) (D : va_G) (q : Nat → Nat) (cA : Nat → ClassId) (x1 : Int32) (z : Sta) (sz : Nat) (K : Int32 → Sta → Prop) (h : wp_K_compute x1 z K) : Met l ke_K_compute (kc_K_compute :: lw_g) { frames := 1, cells := 0, slots := 0, locals := 24 } (wk_Pc D q cA [.ref (q 3), .int x1] z sz) (va_Qi K (wk_B D q cA (va_A (wW q cA z) sz)) (va_A (wW q cA z) sz)) 0 0 (va_A (wW q cA z) sz) := by
  refine Met.ofW (cc := prog_2_method_8_code) (maxL := 2) (ret := (some .int)) (by decide) rfl ?_
  intro p e s m args below meth c s₁ B hml hv
  obtain ⟨rfl, hsz, hP, hK, hD0⟩ := hv
  have hx := B.exec
  have hb := B.bytes
  have hr := B.returns
  have hlocks := B.notSynchronized
  have hts0 := atoms_spec (ws := kc_K_compute :: lw_g) B.pre
  have hts : ∀ w ∈ lw_g, w.before ([.ref (q 3), .int x1] : List Value).toArray s = true := fun w hw => hts0 w (List.mem_cons_of_mem _ hw)
  have hown : s.vm.findClass kr_K = some m.cls := findClass_of_methodNamed B.named
  subst hsz
  have hD := hD0.self (sz := s.heap.size)
  generalize hAe : va_A (wW q cA z) s.heap.size = A at hD ⊢
  have hA : ∀ x : Nat, s.heap.size ≤ x → A x := fun x hx => by rw [← hAe]; exact Or.inr hx
  have hl := lv_entry ([.ref (q 3), .int x1]) (n := 2) (Nat.le_of_ble_eq_true rfl)
  rw [lg_entry_eq]
  generalize (lg_sl ([.ref (q 3), .int x1]) ++ List.replicate (2 - (lg_sl ([.ref (q 3), .int x1])).length) Slot.unset).toArray = ls at hl ⊢
  have hl : lv_has ls 2 [(0, .ref (q 3)), (1, .int x1)] := hl
  exact w_K_compute hx hb hml hown hts (Nat.le_refl _) (Nat.le_refl _) (Nat.zero_le _) (Nat.zero_le _) hA hK x1 z K h (fun r u H locs pc ls hk hV hd => W.iret hx hb hr (fun t ht hW => ⟨⟨r, u, rfl, hk, by rw [ht]; exact hV.1, va_K.moved hW.alike hK, hV.2.1⟩, hV.2.2.F ht⟩) hV.2.2.2.2 hd) ⟨hP, hD, va_S.rf⟩ hl
section
variable {p : Program} {l : Launch} {e : Env} {R : Room} {s : State} {m : MethodId} {args : Array Value} {below : List Frame} {meth : Method} {c : Code} {Q : State → Prop} {ce sl : Nat} {D : va_G} {q : Nat → Nat} {cA : Nat → ClassId} {A : Nat → Prop}
set_option maxHeartbeats 4000000 in
set_option maxRecDepth 100000 in
theorem w_K_goAlong (hx : p.tables.exec = Jvm.exec) (hb : c.code = prog_2_method_4_code) (hml : c.maxLocals = 4) (hown : s.vm.findClass kr_K = some m.cls) (hts : ∀ w ∈ lw_g, w.before args s = true) (hRf : 2 ≤ R.frames) (hRl : 45 ≤ R.locals) (hce : ce ≤ R.cells) (hsl : sl ≤ R.slots) (hA : ∀ x, s.heap.size ≤ x → A x) (hK : va_K D wk_cl (tysW cA) s) (x1 : Int64) (z : Sta) (K : Sta → Prop) (h : wp_K_goAlong x1 z K) (hret : ∀ (u : Sta) (H : Heap) (locs : List Loc) (pc : Nat) (ls : Array Slot), K u → wk_S D q cA A s.heap u H locs → decode prog_2_method_4_code pc = .ok (.return_, 1) → W p l e R s m args below meth c H locs ce sl Q (F0 m pc ls [])) {H : Heap} {locs : List Loc} {ls : Array Slot} (hV : wk_S D q cA A s.heap z H locs) (hl : lv_has ls 4 [(0, .ref (q 3)), (1, .long x1)]) : W p l e R s m args below meth c H locs ce sl Q (F0 m 0 ls []) := by
  have L2 : ∀ (n : Nat) (x1 : Int64) (x3 : Int32) (z : Sta) (H : Heap) (locs : List Loc) (ls : Array Slot), wk_S D q cA A s.heap z H locs → lv_has ls 4 [(0, .ref (q 3)), (1, .long x1), (3, .int x3)] → lp_K_goAlong_2 K n x1 x3 z → W p l e R s m args below meth c H locs ce sl Q (F0 m 2 ls []) := by
    intro n2
    induction n2 with
    | zero => intro x1 x3 z H locs ls hV hl h; rw [lp_K_goAlong_2] at h; exact h.elim
    | succ n2 ih2 =>
      have J29 : ∀ (x1 : Int64) (x3 : Int32) (z : Sta) (H : Heap) (locs : List Loc) (ls : Array Slot), wk_S D q cA A s.heap z H locs → lv_has ls 4 [(0, .ref (q 3)), (1, .long x1), (3, .int x3)] → pj_K_goAlong_29 K (fun x1 x3 z => lp_K_goAlong_2 K n2 x1 x3 z) x1 x3 z → W p l e R s m args below meth c H locs ce sl Q (F0 m 29 ls []) := by
        intro x1 x3 z H locs ls hV hl h
        unfold pj_K_goAlong_29 at h
        obtain ⟨v6, ev6⟩ : ∃ v : Int32, v = x3 + 1 := ⟨_, rfl⟩
        have h := h v6 ev6
        refine lv_iinc (v := v6) (k := 2) hx hb kd_prog_2_method_4_code_29 hl rfl (by rw [ev6]; rfl) (by decide) rfl (fun ls hl => ?_)
        have hl : lv_has ls 4 [(3, .int v6), (0, .ref (q 3)), (1, .long x1)] := hl
        refine lv_goto (tgt := 2) hx hb kd_prog_2_method_4_code_32 (by decide) ?_
        exact ih2 x1 v6 z H locs ls hV (lv_sub hl [1, 2, 0] rfl) h
      intro x1 x3 z H locs ls hV hl h
      rw [lp_K_goAlong_2] at h
      refine lv_iload_n hx hb kd_prog_2_method_4_code_2 rfl (lv_at hl 2 rfl) ?_
      refine lv_aload_n hx hb kd_prog_2_method_4_code_3 rfl (lv_at hl 0 rfl) ?_
      refine va_get (D := D) (ci := 3) (v := .ref (q 1)) (C := kr_K) (T := kt_K) (N := kn_K) hx hb hts ki_K hown hK hV.1 3 rfl rfl 6 (by decide) (hts _ hw_151) (fun _ h9 => h9) rfl kd_prog_2_method_4_code_4 ?_
      refine va_get (D := D) (ci := 1) (v := .int (z.1 3)) (C := kr_P) (T := kt_P) (N := kn_P) hx hb hts ki_P hown hK hV.1 1 rfl rfl 1 (by decide) (hts _ hw_34) (fun _ h9 => h9) rfl kd_prog_2_method_4_code_7 ?_
      refine lv_topi (fun v1 ev1 => ?_)
      have h := h v1 ev1
      refine lv_icmp_ge (tgt := 35) hx hb kd_prog_2_method_4_code_10 (by decide) (fun hc => ?_) (fun hc => ?_)
      · have h := h.1 hc
        exact hret z H locs 35 ls h hV kd_prog_2_method_4_code_35
      · have h := h.2 hc
        refine lv_lload_n hx hb kd_prog_2_method_4_code_13 rfl (lv_at hl 1 rfl) ?_
        refine lv_iload_n hx hb kd_prog_2_method_4_code_14 rfl (lv_at hl 2 rfl) ?_
        refine lv_lshr hx hb kd_prog_2_method_4_code_15 rfl ?_
        refine lv_topl (fun v2 ev2 => ?_)
        have h := h v2 ev2
        refine lv_lconst (v := 1) hx hb kd_prog_2_method_4_code_16 (by decide) ?_
        refine lv_land hx hb kd_prog_2_method_4_code_17 ?_
        refine lv_topl (fun v3 ev3 => ?_)
        have h := h v3 ev3
        refine lv_lconst (v := 0) hx hb kd_prog_2_method_4_code_18 (by decide) ?_
        refine W.lcmp hx hb kd_prog_2_method_4_code_19 ?_
        refine lv_topi (fun v4 ev4 => ?_)
        have h := h v4 ev4
        refine lv_if_eq (tgt := 29) hx hb kd_prog_2_method_4_code_20 (by decide) (fun hc => ?_) (fun hc => ?_)
        · have h := h.1 hc
          exact J29 x1 x3 z H locs ls hV (lv_sub hl [0, 1, 2] rfl) h
        · have h := h.2 hc
          refine lv_aload_n hx hb kd_prog_2_method_4_code_23 rfl (lv_at hl 0 rfl) ?_
          refine lv_iload_n hx hb kd_prog_2_method_4_code_24 rfl (lv_at hl 2 rfl) ?_
          refine wk_calli (va_runV (As := [.int x3]) (rest := []) ⟨hx, hb, hml, hown, hts⟩ (c_K_compute l D q cA x3 z H.size _ h) (cwV 1 hts gs_K_80 rfl rfl rfl (by decide +kernel) ⟨Nat.le_trans (by decide) hRf, Nat.le_trans (by decide) hRl⟩) (wk_preV hK hV 3 3 rfl rfl [.int x3]) rfl rfl hl.1 rfl (lv_room (Nat.le_of_ble_eq_true rfl)) kd_prog_2_method_4_code_25 ⟨hce, hsl⟩) hV hA (fun rz5 z5 H locs h hV => ?_)
          refine lv_pop hx hb kd_prog_2_method_4_code_28 rfl ?_
          exact J29 x1 x3 z5 H locs ls hV (lv_sub hl [0, 1, 2] rfl) h
  unfold wp_K_goAlong at h
  refine lv_iconst (v := 0) hx hb kd_prog_2_method_4_code_0 (by decide) ?_
  refine lv_istore_n hx hb kd_prog_2_method_4_code_1 rfl hl (by decide) rfl (fun ls hl => ?_)
  have hl : lv_has ls 4 [(3, .int 0), (0, .ref (q 3)), (1, .long x1)] := hl
  obtain ⟨n2, h⟩ := h
  exact L2 n2 x1 0 z H locs ls hV (lv_sub hl [1, 2, 0] rfl) h
end
set_option maxHeartbeats 4000000 in
set_option maxRecDepth 100000 in
theorem c_K_goAlong (l : Launch) (D : va_G) (q : Nat → Nat) (cA : Nat → ClassId) (x1 : Int64) (z : Sta) (sz : Nat) (K : Sta → Prop) (h : wp_K_goAlong x1 z K) : Met l ke_K_goAlong (kc_K_goAlong :: lw_g) { frames := 2, cells := 0, slots := 0, locals := 45 } (wk_Pc D q cA [.ref (q 3), .long x1] z sz) (va_Qv K (wk_B D q cA (va_A (wW q cA z) sz)) (va_A (wW q cA z) sz)) 0 0 (va_A (wW q cA z) sz) := by
  refine Met.ofW (cc := prog_2_method_4_code) (maxL := 4) (ret := none) (by decide) rfl ?_
  intro p e s m args below meth c s₁ B hml hv
  obtain ⟨rfl, hsz, hP, hK, hD0⟩ := hv
  have hx := B.exec
  have hb := B.bytes
  have hr := B.returns
  have hlocks := B.notSynchronized
  have hts0 := atoms_spec (ws := kc_K_goAlong :: lw_g) B.pre
  have hts : ∀ w ∈ lw_g, w.before ([.ref (q 3), .long x1] : List Value).toArray s = true := fun w hw => hts0 w (List.mem_cons_of_mem _ hw)
  have hown : s.vm.findClass kr_K = some m.cls := findClass_of_methodNamed B.named
  subst hsz
  have hD := hD0.self (sz := s.heap.size)
  generalize hAe : va_A (wW q cA z) s.heap.size = A at hD ⊢
  have hA : ∀ x : Nat, s.heap.size ≤ x → A x := fun x hx => by rw [← hAe]; exact Or.inr hx
  have hl := lv_entry ([.ref (q 3), .long x1]) (n := 4) (Nat.le_of_ble_eq_true rfl)
  rw [lg_entry_eq]
  generalize (lg_sl ([.ref (q 3), .long x1]) ++ List.replicate (4 - (lg_sl ([.ref (q 3), .long x1])).length) Slot.unset).toArray = ls at hl ⊢
  have hl : lv_has ls 4 [(0, .ref (q 3)), (1, .long x1)] := hl
  exact w_K_goAlong hx hb hml hown hts (Nat.le_refl _) (Nat.le_refl _) (Nat.zero_le _) (Nat.zero_le _) hA hK x1 z K h (fun u H locs pc ls hk hV hd => W.vret hx hb hr (fun t ht hW => ⟨⟨u, rfl, hk, by rw [ht]; exact hV.1, va_K.moved hW.alike hK, hV.2.1⟩, hV.2.2.F ht⟩) hV.2.2.2.2 hd) ⟨hP, hD, va_S.rf⟩ hl
section
variable {p : Program} {l : Launch} {e : Env} {R : Room} {s : State} {m : MethodId} {args : Array Value} {below : List Frame} {meth : Method} {c : Code} {Q : State → Prop} {ce sl : Nat} {D : va_G} {q : Nat → Nat} {cA : Nat → ClassId} {A : Nat → Prop}
set_option maxHeartbeats 4000000 in
set_option maxRecDepth 100000 in
theorem w_K_giveOut (hx : p.tables.exec = Jvm.exec) (hb : c.code = prog_2_method_7_code) (hml : c.maxLocals = 2) (hown : s.vm.findClass kr_K = some m.cls) (hts : ∀ w ∈ lw_g, w.before args s = true) (hRf : 0 ≤ R.frames) (hRl : 0 ≤ R.locals) (hce : ce ≤ R.cells) (hsl : sl ≤ R.slots) (hA : ∀ x, s.heap.size ≤ x → A x) (hK : va_K D wk_cl (tysW cA) s) (x1 : Int32) (z : Sta) (K : Sta → Prop) (h : wp_K_giveOut x1 z K) (hret : ∀ (u : Sta) (H : Heap) (locs : List Loc) (pc : Nat) (ls : Array Slot), K u → wk_S D q cA A s.heap u H locs → decode prog_2_method_7_code pc = .ok (.return_, 1) → W p l e R s m args below meth c H locs ce sl Q (F0 m pc ls [])) {H : Heap} {locs : List Loc} {ls : Array Slot} (hV : wk_S D q cA A s.heap z H locs) (hl : lv_has ls 2 [(0, .ref (q 3)), (1, .int x1)]) : W p l e R s m args below meth c H locs ce sl Q (F0 m 0 ls []) := by
  have J19 : ∀ (z : Sta) (H : Heap) (locs : List Loc) (ls : Array Slot), wk_S D q cA A s.heap z H locs → lv_has ls 2 [(0, .ref (q 3))] → pj_K_giveOut_19 K z → W p l e R s m args below meth c H locs ce sl Q (F0 m 19 ls []) := by
    intro z H locs ls hV hl h
    unfold pj_K_giveOut_19 at h
    refine lv_aload_n hx hb kd_prog_2_method_7_code_19 rfl (lv_at hl 0 rfl) ?_
    refine lv_dup hx hb kd_prog_2_method_7_code_20 rfl ?_
    refine va_get (D := D) (ci := 3) (v := .int (z.1 5)) (C := kr_K) (T := kt_K) (N := kn_K) hx hb hts ki_K hown hK hV.1 3 rfl rfl 1 (by decide) (hts _ hw_141) (fun _ h9 => h9) rfl kd_prog_2_method_7_code_21 ?_
    refine lv_topi (fun v4 ev4 => ?_)
    have h := h v4 ev4
    refine lv_iconst (v := 1) hx hb kd_prog_2_method_7_code_24 (by decide) ?_
    refine lv_iadd hx hb kd_prog_2_method_7_code_25 ?_
    refine lv_topi (fun v5 ev5 => ?_)
    have h := h v5 ev5
    refine wk_put (D := D) (ci := 3) (v := .int v5) (ty := .int) (C := kr_K) (T := kt_K) (N := kn_K) (z1 := zI z 5 v5) hx hb hts ki_K ky_K ko_K km_K hown hK hV 3 rfl rfl 1 (by decide) (hts _ hw_141) (fun _ h9 => h9) rfl (by decide +kernel) rfl rfl (Nat.le_of_ble_eq_true rfl) rfl kd_prog_2_method_7_code_26 (fun H locs hV => ?_)
    obtain ⟨z6, ez6⟩ : ∃ x : Sta, x = zI z 5 v5 := ⟨_, rfl⟩
    rw [← ez6] at hV
    have h := h z6 ez6
    exact hret z6 H locs 29 ls h hV kd_prog_2_method_7_code_29
  unfold wp_K_giveOut at h
  refine lv_aload_n hx hb kd_prog_2_method_7_code_0 rfl (lv_at hl 0 rfl) ?_
  refine va_get (D := D) (ci := 3) (v := .int (z.1 5)) (C := kr_K) (T := kt_K) (N := kn_K) hx hb hts ki_K hown hK hV.1 3 rfl rfl 1 (by decide) (hts _ hw_141) (fun _ h9 => h9) rfl kd_prog_2_method_7_code_1 ?_
  refine lv_topi (fun v1 ev1 => ?_)
  have h := h v1 ev1
  refine lv_bipush (v := 100) hx hb kd_prog_2_method_7_code_4 (by decide) ?_
  refine lv_icmp_ge (tgt := 19) hx hb kd_prog_2_method_7_code_6 (by decide) (fun hc => ?_) (fun hc => ?_)
  · have h := h.1 hc
    exact J19 z H locs ls hV (lv_sub hl [0] rfl) h
  · have h := h.2 hc
    refine lv_aload_n hx hb kd_prog_2_method_7_code_9 rfl (lv_at hl 0 rfl) ?_
    refine va_get (D := D) (ci := 3) (v := .ref (q 28)) (C := kr_K) (T := kt_K) (N := kn_K) hx hb hts ki_K hown hK hV.1 3 rfl rfl 5 (by decide) (hts _ hw_149) (fun _ h9 => h9) rfl kd_prog_2_method_7_code_10 ?_
    refine lv_aload_n hx hb kd_prog_2_method_7_code_13 rfl (lv_at hl 0 rfl) ?_
    refine va_get (D := D) (ci := 3) (v := .int (z.1 5)) (C := kr_K) (T := kt_K) (N := kn_K) hx hb hts ki_K hown hK hV.1 3 rfl rfl 1 (by decide) (hts _ hw_141) (fun _ h9 => h9) rfl kd_prog_2_method_7_code_14 ?_
    refine lv_topi (fun v2 ev2 => ?_)
    have h := h v2 ev2
    refine lv_iload_n hx hb kd_prog_2_method_7_code_17 rfl (lv_at hl 1 rfl) ?_
    obtain ⟨hin, h⟩ := h
    refine wk_iast hx hb hK hV 28 23 13 rfl rfl (ks_28 q cA z) hin kd_prog_2_method_7_code_18 (fun H locs hV => ?_)
    obtain ⟨z3, ez3⟩ : ∃ x : Sta, x = zA z 13 (upd (z.2.1 13) v2.toNatClampNeg x1) := ⟨_, rfl⟩
    rw [← ez3] at hV
    have h := h z3 ez3
    exact J19 z3 H locs ls hV (lv_sub hl [0] rfl) h
end
set_option maxHeartbeats 4000000 in
set_option maxRecDepth 100000 in
theorem c_K_giveOut (l : Launch) (D : va_G) (q : Nat → Nat) (cA : Nat → ClassId) (x1 : Int32) (z : Sta) (sz : Nat) (K : Sta → Prop) (h : wp_K_giveOut x1 z K) : Met l ke_K_giveOut (kc_K_giveOut :: lw_g) { frames := 0, cells := 0, slots := 0, locals := 0 } (wk_Pc D q cA [.ref (q 3), .int x1] z sz) (va_Qv K (wk_B D q cA (va_A (wW q cA z) sz)) (va_A (wW q cA z) sz)) 0 0 (va_A (wW q cA z) sz) := by
  refine Met.ofW (cc := prog_2_method_7_code) (maxL := 2) (ret := none) (by decide) rfl ?_
  intro p e s m args below meth c s₁ B hml hv
  obtain ⟨rfl, hsz, hP, hK, hD0⟩ := hv
  have hx := B.exec
  have hb := B.bytes
  have hr := B.returns
  have hlocks := B.notSynchronized
  have hts0 := atoms_spec (ws := kc_K_giveOut :: lw_g) B.pre
  have hts : ∀ w ∈ lw_g, w.before ([.ref (q 3), .int x1] : List Value).toArray s = true := fun w hw => hts0 w (List.mem_cons_of_mem _ hw)
  have hown : s.vm.findClass kr_K = some m.cls := findClass_of_methodNamed B.named
  subst hsz
  have hD := hD0.self (sz := s.heap.size)
  generalize hAe : va_A (wW q cA z) s.heap.size = A at hD ⊢
  have hA : ∀ x : Nat, s.heap.size ≤ x → A x := fun x hx => by rw [← hAe]; exact Or.inr hx
  have hl := lv_entry ([.ref (q 3), .int x1]) (n := 2) (Nat.le_of_ble_eq_true rfl)
  rw [lg_entry_eq]
  generalize (lg_sl ([.ref (q 3), .int x1]) ++ List.replicate (2 - (lg_sl ([.ref (q 3), .int x1])).length) Slot.unset).toArray = ls at hl ⊢
  have hl : lv_has ls 2 [(0, .ref (q 3)), (1, .int x1)] := hl
  exact w_K_giveOut hx hb hml hown hts (Nat.le_refl _) (Nat.le_refl _) (Nat.zero_le _) (Nat.zero_le _) hA hK x1 z K h (fun u H locs pc ls hk hV hd => W.vret hx hb hr (fun t ht hW => ⟨⟨u, rfl, hk, by rw [ht]; exact hV.1, va_K.moved hW.alike hK, hV.2.1⟩, hV.2.2.F ht⟩) hV.2.2.2.2 hd) ⟨hP, hD, va_S.rf⟩ hl
section
variable {p : Program} {l : Launch} {e : Env} {R : Room} {s : State} {m : MethodId} {args : Array Value} {below : List Frame} {meth : Method} {c : Code} {Q : State → Prop} {ce sl : Nat} {D : va_G} {q : Nat → Nat} {cA : Nat → ClassId} {A : Nat → Prop}
set_option maxHeartbeats 4000000 in
set_option maxRecDepth 100000 in
theorem w_K_goThroughSimple (hx : p.tables.exec = Jvm.exec) (hb : c.code = prog_2_method_6_code) (hml : c.maxLocals = 4) (hown : s.vm.findClass kr_K = some m.cls) (hts : ∀ w ∈ lw_g, w.before args s = true) (hRf : 1 ≤ R.frames) (hRl : 21 ≤ R.locals) (hce : ce ≤ R.cells) (hsl : sl ≤ R.slots) (hA : ∀ x, s.heap.size ≤ x → A x) (hK : va_K D wk_cl (tysW cA) s) (x1 : Int32) (x2 : Int32) (x3 : Int32) (z : Sta) (K : Sta → Prop) (h : wp_K_goThroughSimple x1 x2 x3 z K) (hret : ∀ (u : Sta) (H : Heap) (locs : List Loc) (pc : Nat) (ls : Array Slot), K u → wk_S D q cA A s.heap u H locs → decode prog_2_method_6_code pc = .ok (.return_, 1) → W p l e R s m args below meth c H locs ce sl Q (F0 m pc ls [])) {H : Heap} {locs : List Loc} {ls : Array Slot} (hV : wk_S D q cA A s.heap z H locs) (hl : lv_has ls 4 [(0, .ref (q 3)), (1, .int x1), (2, .int x2), (3, .int x3)]) : W p l e R s m args below meth c H locs ce sl Q (F0 m 0 ls []) := by
  have J44 : ∀ (z : Sta) (H : Heap) (locs : List Loc) (ls : Array Slot), wk_S D q cA A s.heap z H locs → lv_has ls 4 [] → pj_K_goThroughSimple_44 K z → W p l e R s m args below meth c H locs ce sl Q (F0 m 44 ls []) := by
    intro z H locs ls hV hl h
    unfold pj_K_goThroughSimple_44 at h
    exact hret z H locs 44 ls h hV kd_prog_2_method_6_code_44
  unfold wp_K_goThroughSimple at h
  refine lv_iload_n hx hb kd_prog_2_method_6_code_0 rfl (lv_at hl 1 rfl) ?_
  refine lv_if_ne (tgt := 19) hx hb kd_prog_2_method_6_code_1 (by decide) (fun hc => ?_) (fun hc => ?_)
  · have h := h.1 hc
    refine lv_iload_n hx hb kd_prog_2_method_6_code_19 rfl (lv_at hl 1 rfl) ?_
    refine lv_iconst (v := 1) hx hb kd_prog_2_method_6_code_20 (by decide) ?_
    refine lv_icmp_ne (tgt := 34) hx hb kd_prog_2_method_6_code_21 (by decide) (fun hc => ?_) (fun hc => ?_)
    · have h := h.1 hc
      refine lv_aload_n hx hb kd_prog_2_method_6_code_34 rfl (lv_at hl 0 rfl) ?_
      refine lv_aload_n hx hb kd_prog_2_method_6_code_35 rfl (lv_at hl 0 rfl) ?_
      refine va_get (D := D) (ci := 3) (v := .ref (q 26)) (C := kr_K) (T := kt_K) (N := kn_K) hx hb hts ki_K hown hK hV.1 3 rfl rfl 3 (by decide) (hts _ hw_145) (fun _ h9 => h9) rfl kd_prog_2_method_6_code_36 ?_
      refine lv_iload_n hx hb kd_prog_2_method_6_code_39 rfl (lv_at hl 2 rfl) ?_
      obtain ⟨hin, h⟩ := h
      refine va_iald hx hb hK hV.1 26 21 rfl rfl hin kd_prog_2_method_6_code_40 ?_
      refine lv_topi (fun v1 ev1 => ?_)
      have h := h v1 ev1
      refine wk_callv (va_runV (As := [.int v1]) (rest := []) ⟨hx, hb, hml, hown, hts⟩ (c_K_giveOut l D q cA v1 z H.size _ h) (cwV 1 hts gs_K_102 rfl rfl rfl (by decide +kernel) ⟨Nat.le_trans (by decide) hRf, Nat.le_trans (by decide) hRl⟩) (wk_preV hK hV 3 3 rfl rfl [.int v1]) rfl rfl hl.1 rfl (lv_room (Nat.le_of_ble_eq_true rfl)) kd_prog_2_method_6_code_41 ⟨hce, hsl⟩) hV hA (fun z2 H locs h hV => ?_)
      exact J44 z2 H locs ls hV (lv_sub hl [] rfl) h
    · have h := h.2 hc
      refine lv_aload_n hx hb kd_prog_2_method_6_code_24 rfl (lv_at hl 0 rfl) ?_
      refine va_get (D := D) (ci := 3) (v := .ref (q 26)) (C := kr_K) (T := kt_K) (N := kn_K) hx hb hts ki_K hown hK hV.1 3 rfl rfl 3 (by decide) (hts _ hw_145) (fun _ h9 => h9) rfl kd_prog_2_method_6_code_25 ?_
      refine lv_iload_n hx hb kd_prog_2_method_6_code_28 rfl (lv_at hl 2 rfl) ?_
      refine lv_iload_n hx hb kd_prog_2_method_6_code_29 rfl (lv_at hl 3 rfl) ?_
      obtain ⟨hin, h⟩ := h
      refine wk_iast hx hb hK hV 26 21 11 rfl rfl (ks_26 q cA z) hin kd_prog_2_method_6_code_30 (fun H locs hV => ?_)
      obtain ⟨z3, ez3⟩ : ∃ x : Sta, x = zA z 11 (upd (z.2.1 11) x2.toNatClampNeg x3) := ⟨_, rfl⟩
      rw [← ez3] at hV
      have h := h z3 ez3
      refine lv_goto (tgt := 44) hx hb kd_prog_2_method_6_code_31 (by decide) ?_
      exact J44 z3 H locs ls hV (lv_sub hl [] rfl) h
  · have h := h.2 hc
    refine lv_aload_n hx hb kd_prog_2_method_6_code_4 rfl (lv_at hl 0 rfl) ?_
    refine va_get (D := D) (ci := 3) (v := .ref (q 26)) (C := kr_K) (T := kt_K) (N := kn_K) hx hb hts ki_K hown hK hV.1 3 rfl rfl 3 (by decide) (hts _ hw_145) (fun _ h9 => h9) rfl kd_prog_2_method_6_code_5 ?_
    refine lv_iload_n hx hb kd_prog_2_method_6_code_8 rfl (lv_at hl 2 rfl) ?_
    refine lv_aload_n hx hb kd_prog_2_method_6_code_9 rfl (lv_at hl 0 rfl) ?_
    refine va_get (D := D) (ci := 3) (v := .ref (q 26)) (C := kr_K) (T := kt_K) (N := kn_K) hx hb hts ki_K hown hK hV.1 3 rfl rfl 3 (by decide) (hts _ hw_145) (fun _ h9 => h9) rfl kd_prog_2_method_6_code_10 ?_
    refine lv_iload_n hx hb kd_prog_2_method_6_code_13 rfl (lv_at hl 3 rfl) ?_
    obtain ⟨hin, h⟩ := h
    refine va_iald hx hb hK hV.1 26 21 rfl rfl hin kd_prog_2_method_6_code_14 ?_
    refine lv_topi (fun v4 ev4 => ?_)
    have h := h v4 ev4
    obtain ⟨hin, h⟩ := h
    refine wk_iast hx hb hK hV 26 21 11 rfl rfl (ks_26 q cA z) hin kd_prog_2_method_6_code_15 (fun H locs hV => ?_)
    obtain ⟨z5, ez5⟩ : ∃ x : Sta, x = zA z 11 (upd (z.2.1 11) x2.toNatClampNeg v4) := ⟨_, rfl⟩
    rw [← ez5] at hV
    have h := h z5 ez5
    refine lv_goto (tgt := 44) hx hb kd_prog_2_method_6_code_16 (by decide) ?_
    exact J44 z5 H locs ls hV (lv_sub hl [] rfl) h
end
set_option maxHeartbeats 4000000 in
set_option maxRecDepth 100000 in
theorem c_K_goThroughSimple (l : Launch) (D : va_G) (q : Nat → Nat) (cA : Nat → ClassId) (x1 : Int32) (x2 : Int32) (x3 : Int32) (z : Sta) (sz : Nat) (K : Sta → Prop) (h : wp_K_goThroughSimple x1 x2 x3 z K) : Met l ke_K_goThroughSimple (kc_K_goThroughSimple :: lw_g) { frames := 1, cells := 0, slots := 0, locals := 21 } (wk_Pc D q cA [.ref (q 3), .int x1, .int x2, .int x3] z sz) (va_Qv K (wk_B D q cA (va_A (wW q cA z) sz)) (va_A (wW q cA z) sz)) 0 0 (va_A (wW q cA z) sz) := by
  refine Met.ofW (cc := prog_2_method_6_code) (maxL := 4) (ret := none) (by decide) rfl ?_
  intro p e s m args below meth c s₁ B hml hv
  obtain ⟨rfl, hsz, hP, hK, hD0⟩ := hv
  have hx := B.exec
  have hb := B.bytes
  have hr := B.returns
  have hlocks := B.notSynchronized
  have hts0 := atoms_spec (ws := kc_K_goThroughSimple :: lw_g) B.pre
  have hts : ∀ w ∈ lw_g, w.before ([.ref (q 3), .int x1, .int x2, .int x3] : List Value).toArray s = true := fun w hw => hts0 w (List.mem_cons_of_mem _ hw)
  have hown : s.vm.findClass kr_K = some m.cls := findClass_of_methodNamed B.named
  subst hsz
  have hD := hD0.self (sz := s.heap.size)
  generalize hAe : va_A (wW q cA z) s.heap.size = A at hD ⊢
  have hA : ∀ x : Nat, s.heap.size ≤ x → A x := fun x hx => by rw [← hAe]; exact Or.inr hx
  have hl := lv_entry ([.ref (q 3), .int x1, .int x2, .int x3]) (n := 4) (Nat.le_of_ble_eq_true rfl)
  rw [lg_entry_eq]
  generalize (lg_sl ([.ref (q 3), .int x1, .int x2, .int x3]) ++ List.replicate (4 - (lg_sl ([.ref (q 3), .int x1, .int x2, .int x3])).length) Slot.unset).toArray = ls at hl ⊢
  have hl : lv_has ls 4 [(0, .ref (q 3)), (1, .int x1), (2, .int x2), (3, .int x3)] := hl
  exact w_K_goThroughSimple hx hb hml hown hts (Nat.le_refl _) (Nat.le_refl _) (Nat.zero_le _) (Nat.zero_le _) hA hK x1 x2 x3 z K h (fun u H locs pc ls hk hV hd => W.vret hx hb hr (fun t ht hW => ⟨⟨u, rfl, hk, by rw [ht]; exact hV.1, va_K.moved hW.alike hK, hV.2.1⟩, hV.2.2.F ht⟩) hV.2.2.2.2 hd) ⟨hP, hD, va_S.rf⟩ hl
section
variable {p : Program} {l : Launch} {e : Env} {R : Room} {s : State} {m : MethodId} {args : Array Value} {below : List Frame} {meth : Method} {c : Code} {Q : State → Prop} {ce sl : Nat} {D : va_G} {q : Nat → Nat} {cA : Nat → ClassId} {A : Nat → Prop}
set_option maxHeartbeats 4000000 in
set_option maxRecDepth 100000 in
theorem w_K_goThroughBlock (hx : p.tables.exec = Jvm.exec) (hb : c.code = prog_2_method_5_code) (hml : c.maxLocals = 10) (hown : s.vm.findClass kr_K = some m.cls) (hts : ∀ w ∈ lw_g, w.before args s = true) (hRf : 2 ≤ R.frames) (hRl : 45 ≤ R.locals) (hce : ce ≤ R.cells) (hsl : sl ≤ R.slots) (hA : ∀ x, s.heap.size ≤ x → A x) (hK : va_K D wk_cl (tysW cA) s) (x1 : Int32) (x2 : Int64) (z : Sta) (K : Sta → Prop) (h : wp_K_goThroughBlock x1 x2 z K) (hret : ∀ (u : Sta) (H : Heap) (locs : List Loc) (pc : Nat) (ls : Array Slot), K u → wk_S D q cA A s.heap u H locs → decode prog_2_method_5_code pc = .ok (.return_, 1) → W p l e R s m args below meth c H locs ce sl Q (F0 m pc ls [])) {H : Heap} {locs : List Loc} {ls : Array Slot} (hV : wk_S D q cA A s.heap z H locs) (hl : lv_has ls 10 [(0, .ref (q 3)), (1, .int x1), (2, .long x2)]) : W p l e R s m args below meth c H locs ce sl Q (F0 m 0 ls []) := by
  have L12 : ∀ (n : Nat) (x1 : Int32) (x4 : Int64) (x6 : Int32) (x7 : Int32) (z : Sta) (H : Heap) (locs : List Loc) (ls : Array Slot), wk_S D q cA A s.heap z H locs → lv_has ls 10 [(0, .ref (q 3)), (1, .int x1), (4, .long x4), (6, .int x6), (7, .int x7)] → lp_K_goThroughBlock_12 K n x1 x4 x6 x7 z → W p l e R s m args below meth c H locs ce sl Q (F0 m 12 ls []) := by
    intro n12
    induction n12 with
    | zero => intro x1 x4 x6 x7 z H locs ls hV hl h; rw [lp_K_goThroughBlock_12] at h; exact h.elim
    | succ n12 ih12 =>
      have J152 : ∀ (x1 : Int32) (x4 : Int64) (x6 : Int32) (x7 : Int32) (z : Sta) (H : Heap) (locs : List Loc) (ls : Array Slot), wk_S D q cA A s.heap z H locs → lv_has ls 10 [(0, .ref (q 3)), (1, .int x1), (4, .long x4), (6, .int x6), (7, .int x7)] → pj_K_goThroughBlock_152 K (fun x1 x4 x6 x7 z => lp_K_goThroughBlock_12 K n12 x1 x4 x6 x7 z) x1 x4 x6 x7 z → W p l e R s m args below meth c H locs ce sl Q (F0 m 152 ls []) := by
        intro x1 x4 x6 x7 z H locs ls hV hl h
        unfold pj_K_goThroughBlock_152 at h
        obtain ⟨v19, ev19⟩ : ∃ v : Int32, v = x7 + 1 := ⟨_, rfl⟩
        have h := h v19 ev19
        refine lv_iinc (v := v19) (k := 4) hx hb kd_prog_2_method_5_code_152 hl rfl (by rw [ev19]; rfl) (by decide) rfl (fun ls hl => ?_)
        have hl : lv_has ls 10 [(7, .int v19), (0, .ref (q 3)), (1, .int x1), (4, .long x4), (6, .int x6)] := hl
        refine lv_goto (tgt := 12) hx hb kd_prog_2_method_5_code_155 (by decide) ?_
        exact ih12 x1 x4 x6 v19 z H locs ls hV (lv_sub hl [1, 2, 3, 4, 0] rfl) h
      have J109 : ∀ (x1 : Int32) (x4 : Int64) (x6 : Int32) (x7 : Int32) (x8 : Int32) (y0 : Int32) (y1 : Int32) (z : Sta) (H : Heap) (locs : List Loc) (ls : Array Slot), wk_S D q cA A s.heap z H locs → lv_has ls 10 [(0, .ref (q 3)), (1, .int x1), (4, .long x4), (6, .int x6), (7, .int x7), (8, .int x8)] → pj_K_goThroughBlock_109 K (fun x1 x4 x6 x7 z => lp_K_goThroughBlock_12 K n12 x1 x4 x6 x7 z) x1 x4 x6 x7 x8 y0 y1 z → W p l e R s m args below meth c H locs ce sl Q (F0 m 109 ls [.int y0, .int y1, .ref (q 26)]) := by
        intro x1 x4 x6 x7 x8 y0 y1 z H locs ls hV hl h
        unfold pj_K_goThroughBlock_109 at h
        obtain ⟨hin, h⟩ := h
        refine wk_iast hx hb hK hV 26 21 11 rfl rfl (ks_26 q cA z) hin kd_prog_2_method_5_code_109 (fun H locs hV => ?_)
        obtain ⟨z15, ez15⟩ : ∃ x : Sta, x = zA z 11 (upd (z.2.1 11) y1.toNatClampNeg y0) := ⟨_, rfl⟩
        rw [← ez15] at hV
        have h := h z15 ez15
        refine lv_lload hx hb kd_prog_2_method_5_code_110 (lv_at hl 2 rfl) ?_
        refine lv_lconst (v := 1) hx hb kd_prog_2_method_5_code_112 (by decide) ?_
        refine lv_iload hx hb kd_prog_2_method_5_code_113 (lv_at hl 5 rfl) ?_
        refine lv_lshl hx hb kd_prog_2_method_5_code_115 rfl ?_
        refine lv_topl (fun v16 ev16 => ?_)
        have h := h v16 ev16
        refine lv_ldc2 (v := (-1)) hx hb hown (hts _ hw_543) kd_prog_2_method_5_code_116 ?_
        refine lv_lxor hx hb kd_prog_2_method_5_code_119 ?_
        refine lv_topl (fun v17 ev17 => ?_)
        have h := h v17 ev17
        refine lv_land hx hb kd_prog_2_method_5_code_120 ?_
        refine lv_topl (fun v18 ev18 => ?_)
        have h := h v18 ev18
        refine lv_lstore hx hb kd_prog_2_method_5_code_121 hl (by decide) rfl (fun ls hl => ?_)
        have hl : lv_has ls 10 [(4, .long v18), (0, .ref (q 3)), (1, .int x1), (6, .int x6), (7, .int x7), (8, .int x8)] := hl
        refine lv_goto (tgt := 152) hx hb kd_prog_2_method_5_code_123 (by decide) ?_
        exact J152 x1 v18 x6 x7 z15 H locs ls hV (lv_sub hl [1, 2, 0, 3, 4] rfl) h
      have J72 : ∀ (x1 : Int32) (x4 : Int64) (x6 : Int32) (x7 : Int32) (x8 : Int32) (y0 : Int32) (z : Sta) (H : Heap) (locs : List Loc) (ls : Array Slot), wk_S D q cA A s.heap z H locs → lv_has ls 10 [(0, .ref (q 3)), (1, .int x1), (4, .long x4), (6, .int x6), (7, .int x7), (8, .int x8)] → pj_K_goThroughBlock_72 K (fun x1 x4 x6 x7 z => lp_K_goThroughBlock_12 K n12 x1 x4 x6 x7 z) x1 x4 x6 x7 x8 y0 z → W p l e R s m args below meth c H locs ce sl Q (F0 m 72 ls [.int y0]) := by
        intro x1 x4 x6 x7 x8 y0 z H locs ls hV hl h
        unfold pj_K_goThroughBlock_72 at h
        refine lv_istore hx hb kd_prog_2_method_5_code_72 hl (by decide) rfl (fun ls hl => ?_)
        have hl : lv_has ls 10 [(9, .int y0), (0, .ref (q 3)), (1, .int x1), (4, .long x4), (6, .int x6), (7, .int x7), (8, .int x8)] := hl
        refine lv_aload_n hx hb kd_prog_2_method_5_code_74 rfl (lv_at hl 1 rfl) ?_
        refine va_get (D := D) (ci := 3) (v := .ref (q 26)) (C := kr_K) (T := kt_K) (N := kn_K) hx hb hts ki_K hown hK hV.1 3 rfl rfl 3 (by decide) (hts _ hw_145) (fun _ h9 => h9) rfl kd_prog_2_method_5_code_75 ?_
        refine lv_aload_n hx hb kd_prog_2_method_5_code_78 rfl (lv_at hl 1 rfl) ?_
        refine va_get (D := D) (ci := 3) (v := .ref (q 1)) (C := kr_K) (T := kt_K) (N := kn_K) hx hb hts ki_K hown hK hV.1 3 rfl rfl 6 (by decide) (hts _ hw_151) (fun _ h9 => h9) rfl kd_prog_2_method_5_code_79 ?_
        refine va_get (D := D) (ci := 1) (v := .ref (q 7)) (C := kr_P) (T := kt_P) (N := kn_P) hx hb hts ki_P hown hK hV.1 1 rfl rfl 4 (by decide) (hts _ hw_44) (fun _ h9 => h9) rfl kd_prog_2_method_5_code_82 ?_
        refine lv_iload hx hb kd_prog_2_method_5_code_85 (lv_at hl 5 rfl) ?_
        obtain ⟨hin, h⟩ := h
        refine va_iald hx hb hK hV.1 7 2 rfl rfl hin kd_prog_2_method_5_code_87 ?_
        refine lv_topi (fun v12 ev12 => ?_)
        have h := h v12 ev12
        refine lv_iload hx hb kd_prog_2_method_5_code_88 (lv_at hl 0 rfl) ?_
        refine lv_if_eq (tgt := 103) hx hb kd_prog_2_method_5_code_90 (by decide) (fun hc => ?_) (fun hc => ?_)
        · have h := h.1 hc
          refine lv_aload_n hx hb kd_prog_2_method_5_code_103 rfl (lv_at hl 1 rfl) ?_
          refine lv_iload hx hb kd_prog_2_method_5_code_104 (lv_at hl 6 rfl) ?_
          refine wk_calli (va_runV (As := [.int x8]) (rest := [.int v12, .ref (q 26)]) ⟨hx, hb, hml, hown, hts⟩ (c_K_compute l D q cA x8 z H.size _ h) (cwV 1 hts gs_K_80 rfl rfl rfl (by decide +kernel) ⟨Nat.le_trans (by decide) hRf, Nat.le_trans (by decide) hRl⟩) (wk_preV hK hV 3 3 rfl rfl [.int x8]) rfl rfl hl.1 rfl (lv_room (Nat.le_of_ble_eq_true rfl)) kd_prog_2_method_5_code_106 ⟨hce, hsl⟩) hV hA (fun rz13 z13 H locs h hV => ?_)
          exact J109 x1 x4 x6 x7 x8 rz13 v12 z13 H locs ls hV (lv_sub hl [1, 2, 3, 4, 5, 6] rfl) h
        · have h := h.2 hc
          refine lv_aload_n hx hb kd_prog_2_method_5_code_93 rfl (lv_at hl 1 rfl) ?_
          refine va_get (D := D) (ci := 3) (v := .ref (q 29)) (C := kr_K) (T := kt_K) (N := kn_K) hx hb hts ki_K hown hK hV.1 3 rfl rfl 8 (by decide) (hts _ hw_153) (fun _ h9 => h9) rfl kd_prog_2_method_5_code_94 ?_
          refine lv_iload hx hb kd_prog_2_method_5_code_97 (lv_at hl 6 rfl) ?_
          obtain ⟨hin, h⟩ := h
          refine va_iald hx hb hK hV.1 29 24 rfl rfl hin kd_prog_2_method_5_code_99 ?_
          refine lv_topi (fun v14 ev14 => ?_)
          have h := h v14 ev14
          refine lv_goto (tgt := 109) hx hb kd_prog_2_method_5_code_100 (by decide) ?_
          exact J109 x1 x4 x6 x7 x8 v14 v12 z H locs ls hV (lv_sub hl [1, 2, 3, 4, 5, 6] rfl) h
      intro x1 x4 x6 x7 z H locs ls hV hl h
      rw [lp_K_goThroughBlock_12] at h
      refine lv_iload hx hb kd_prog_2_method_5_code_12 (lv_at hl 4 rfl) ?_
      refine lv_iload hx hb kd_prog_2_method_5_code_14 (lv_at hl 3 rfl) ?_
      refine lv_aload_n hx hb kd_prog_2_method_5_code_16 rfl (lv_at hl 0 rfl) ?_
      refine va_get (D := D) (ci := 3) (v := .ref (q 1)) (C := kr_K) (T := kt_K) (N := kn_K) hx hb hts ki_K hown hK hV.1 3 rfl rfl 6 (by decide) (hts _ hw_151) (fun _ h9 => h9) rfl kd_prog_2_method_5_code_17 ?_
      refine va_get (D := D) (ci := 1) (v := .ref (q 5)) (C := kr_P) (T := kt_P) (N := kn_P) hx hb hts ki_P hown hK hV.1 1 rfl rfl 2 (by decide) (hts _ hw_38) (fun _ h9 => h9) rfl kd_prog_2_method_5_code_20 ?_
      refine lv_iload_n hx hb kd_prog_2_method_5_code_23 rfl (lv_at hl 1 rfl) ?_
      obtain ⟨hin, h⟩ := h
      refine va_iald hx hb hK hV.1 5 0 rfl rfl hin kd_prog_2_method_5_code_24 ?_
      refine lv_topi (fun v2 ev2 => ?_)
      have h := h v2 ev2
      refine lv_iadd hx hb kd_prog_2_method_5_code_25 ?_
      refine lv_topi (fun v3 ev3 => ?_)
      have h := h v3 ev3
      refine lv_icmp_ge (tgt := 158) hx hb kd_prog_2_method_5_code_26 (by decide) (fun hc => ?_) (fun hc => ?_)
      · have h := h.1 hc
        exact hret z H locs 158 ls h hV kd_prog_2_method_5_code_158
      · have h := h.2 hc
        refine lv_aload_n hx hb kd_prog_2_method_5_code_29 rfl (lv_at hl 0 rfl) ?_
        refine va_get (D := D) (ci := 3) (v := .ref (q 1)) (C := kr_K) (T := kt_K) (N := kn_K) hx hb hts ki_K hown hK hV.1 3 rfl rfl 6 (by decide) (hts _ hw_151) (fun _ h9 => h9) rfl kd_prog_2_method_5_code_30 ?_
        refine va_get (D := D) (ci := 1) (v := .ref (q 8)) (C := kr_P) (T := kt_P) (N := kn_P) hx hb hts ki_P hown hK hV.1 1 rfl rfl 5 (by decide) (hts _ hw_47) (fun _ h9 => h9) rfl kd_prog_2_method_5_code_33 ?_
        refine lv_iload hx hb kd_prog_2_method_5_code_36 (lv_at hl 4 rfl) ?_
        obtain ⟨hin, h⟩ := h
        refine va_iald hx hb hK hV.1 8 3 rfl rfl hin kd_prog_2_method_5_code_38 ?_
        refine lv_topi (fun v4 ev4 => ?_)
        have h := h v4 ev4
        refine lv_istore hx hb kd_prog_2_method_5_code_39 hl (by decide) rfl (fun ls hl => ?_)
        have hl : lv_has ls 10 [(8, .int v4), (0, .ref (q 3)), (1, .int x1), (4, .long x4), (6, .int x6), (7, .int x7)] := hl
        refine lv_aload_n hx hb kd_prog_2_method_5_code_41 rfl (lv_at hl 1 rfl) ?_
        refine va_get (D := D) (ci := 3) (v := .ref (q 1)) (C := kr_K) (T := kt_K) (N := kn_K) hx hb hts ki_K hown hK hV.1 3 rfl rfl 6 (by decide) (hts _ hw_151) (fun _ h9 => h9) rfl kd_prog_2_method_5_code_42 ?_
        refine va_get (D := D) (ci := 1) (v := .ref (q 6)) (C := kr_P) (T := kt_P) (N := kn_P) hx hb hts ki_P hown hK hV.1 1 rfl rfl 3 (by decide) (hts _ hw_41) (fun _ h9 => h9) rfl kd_prog_2_method_5_code_45 ?_
        refine lv_iload hx hb kd_prog_2_method_5_code_48 (lv_at hl 5 rfl) ?_
        obtain ⟨hin, h⟩ := h
        refine va_iald hx hb hK hV.1 6 1 rfl rfl hin kd_prog_2_method_5_code_50 ?_
        refine lv_topi (fun v5 ev5 => ?_)
        have h := h v5 ev5
        refine lv_iconst (v := 2) hx hb kd_prog_2_method_5_code_51 (by decide) ?_
        refine lv_icmp_ne (tgt := 126) hx hb kd_prog_2_method_5_code_52 (by decide) (fun hc => ?_) (fun hc => ?_)
        · have h := h.1 hc
          refine lv_aload_n hx hb kd_prog_2_method_5_code_126 rfl (lv_at hl 1 rfl) ?_
          refine lv_aload_n hx hb kd_prog_2_method_5_code_127 rfl (lv_at hl 1 rfl) ?_
          refine va_get (D := D) (ci := 3) (v := .ref (q 1)) (C := kr_K) (T := kt_K) (N := kn_K) hx hb hts ki_K hown hK hV.1 3 rfl rfl 6 (by decide) (hts _ hw_151) (fun _ h9 => h9) rfl kd_prog_2_method_5_code_128 ?_
          refine va_get (D := D) (ci := 1) (v := .ref (q 6)) (C := kr_P) (T := kt_P) (N := kn_P) hx hb hts ki_P hown hK hV.1 1 rfl rfl 3 (by decide) (hts _ hw_41) (fun _ h9 => h9) rfl kd_prog_2_method_5_code_131 ?_
          refine lv_iload hx hb kd_prog_2_method_5_code_134 (lv_at hl 5 rfl) ?_
          obtain ⟨hin, h⟩ := h
          refine va_iald hx hb hK hV.1 6 1 rfl rfl hin kd_prog_2_method_5_code_136 ?_
          refine lv_topi (fun v6 ev6 => ?_)
          have h := h v6 ev6
          refine lv_aload_n hx hb kd_prog_2_method_5_code_137 rfl (lv_at hl 1 rfl) ?_
          refine va_get (D := D) (ci := 3) (v := .ref (q 1)) (C := kr_K) (T := kt_K) (N := kn_K) hx hb hts ki_K hown hK hV.1 3 rfl rfl 6 (by decide) (hts _ hw_151) (fun _ h9 => h9) rfl kd_prog_2_method_5_code_138 ?_
          refine va_get (D := D) (ci := 1) (v := .ref (q 7)) (C := kr_P) (T := kt_P) (N := kn_P) hx hb hts ki_P hown hK hV.1 1 rfl rfl 4 (by decide) (hts _ hw_44) (fun _ h9 => h9) rfl kd_prog_2_method_5_code_141 ?_
          refine lv_iload hx hb kd_prog_2_method_5_code_144 (lv_at hl 5 rfl) ?_
          obtain ⟨hin, h⟩ := h
          refine va_iald hx hb hK hV.1 7 2 rfl rfl hin kd_prog_2_method_5_code_146 ?_
          refine lv_topi (fun v7 ev7 => ?_)
          have h := h v7 ev7
          refine lv_iload hx hb kd_prog_2_method_5_code_147 (lv_at hl 0 rfl) ?_
          refine wk_callv (va_runV (As := [.int v6, .int v7, .int v4]) (rest := []) ⟨hx, hb, hml, hown, hts⟩ (c_K_goThroughSimple l D q cA v6 v7 v4 z H.size _ h) (cwV 3 hts gs_K_98 rfl rfl rfl (by decide +kernel) ⟨Nat.le_trans (by decide) hRf, Nat.le_trans (by decide) hRl⟩) (wk_preV hK hV 3 3 rfl rfl [.int v6, .int v7, .int v4]) rfl rfl hl.1 rfl (lv_room (Nat.le_of_ble_eq_true rfl)) kd_prog_2_method_5_code_149 ⟨hce, hsl⟩) hV hA (fun z8 H locs h hV => ?_)
          exact J152 x1 x4 x6 x7 z8 H locs ls hV (lv_sub hl [1, 2, 3, 4, 5] rfl) h
        · have h := h.2 hc
          refine lv_lload hx hb kd_prog_2_method_5_code_55 (lv_at hl 3 rfl) ?_
          refine lv_iload hx hb kd_prog_2_method_5_code_57 (lv_at hl 0 rfl) ?_
          refine lv_lshr hx hb kd_prog_2_method_5_code_59 rfl ?_
          refine lv_topl (fun v9 ev9 => ?_)
          have h := h v9 ev9
          refine lv_lconst (v := 1) hx hb kd_prog_2_method_5_code_60 (by decide) ?_
          refine lv_land hx hb kd_prog_2_method_5_code_61 ?_
          refine lv_topl (fun v10 ev10 => ?_)
          have h := h v10 ev10
          refine lv_lconst (v := 0) hx hb kd_prog_2_method_5_code_62 (by decide) ?_
          refine W.lcmp hx hb kd_prog_2_method_5_code_63 ?_
          refine lv_topi (fun v11 ev11 => ?_)
          have h := h v11 ev11
          refine lv_if_eq (tgt := 71) hx hb kd_prog_2_method_5_code_64 (by decide) (fun hc => ?_) (fun hc => ?_)
          · have h := h.1 hc
            refine lv_iconst (v := 0) hx hb kd_prog_2_method_5_code_71 (by decide) ?_
            exact J72 x1 x4 x6 x7 v4 0 z H locs ls hV (lv_sub hl [1, 2, 3, 4, 5, 0] rfl) h
          · have h := h.2 hc
            refine lv_iconst (v := 1) hx hb kd_prog_2_method_5_code_67 (by decide) ?_
            refine lv_goto (tgt := 72) hx hb kd_prog_2_method_5_code_68 (by decide) ?_
            exact J72 x1 x4 x6 x7 v4 1 z H locs ls hV (lv_sub hl [1, 2, 3, 4, 5, 0] rfl) h
  unfold wp_K_goThroughBlock at h
  refine lv_lload_n hx hb kd_prog_2_method_5_code_0 rfl (lv_at hl 2 rfl) ?_
  refine lv_lstore hx hb kd_prog_2_method_5_code_1 hl (by decide) rfl (fun ls hl => ?_)
  have hl : lv_has ls 10 [(4, .long x2), (0, .ref (q 3)), (1, .int x1), (2, .long x2)] := hl
  refine lv_iload_n hx hb kd_prog_2_method_5_code_3 rfl (lv_at hl 2 rfl) ?_
  refine lv_iconst (v := 5) hx hb kd_prog_2_method_5_code_4 (by decide) ?_
  refine lv_imul hx hb kd_prog_2_method_5_code_5 ?_
  refine lv_topi (fun v1 ev1 => ?_)
  have h := h v1 ev1
  refine lv_istore hx hb kd_prog_2_method_5_code_6 hl (by decide) rfl (fun ls hl => ?_)
  have hl : lv_has ls 10 [(6, .int v1), (4, .long x2), (0, .ref (q 3)), (1, .int x1), (2, .long x2)] := hl
  refine lv_iload hx hb kd_prog_2_method_5_code_8 (lv_at hl 0 rfl) ?_
  refine lv_istore hx hb kd_prog_2_method_5_code_10 hl (by decide) rfl (fun ls hl => ?_)
  have hl : lv_has ls 10 [(7, .int v1), (6, .int v1), (4, .long x2), (0, .ref (q 3)), (1, .int x1), (2, .long x2)] := hl
  obtain ⟨n12, h⟩ := h
  exact L12 n12 x1 x2 v1 v1 z H locs ls hV (lv_sub hl [3, 4, 2, 1, 0] rfl) h
end
set_option maxHeartbeats 4000000 in
set_option maxRecDepth 100000 in
theorem c_K_goThroughBlock (l : Launch) (D : va_G) (q : Nat → Nat) (cA : Nat → ClassId) (x1 : Int32) (x2 : Int64) (z : Sta) (sz : Nat) (K : Sta → Prop) (h : wp_K_goThroughBlock x1 x2 z K) : Met l ke_K_goThroughBlock (kc_K_goThroughBlock :: lw_g) { frames := 2, cells := 0, slots := 0, locals := 45 } (wk_Pc D q cA [.ref (q 3), .int x1, .long x2] z sz) (va_Qv K (wk_B D q cA (va_A (wW q cA z) sz)) (va_A (wW q cA z) sz)) 0 0 (va_A (wW q cA z) sz) := by
  refine Met.ofW (cc := prog_2_method_5_code) (maxL := 10) (ret := none) (by decide) rfl ?_
  intro p e s m args below meth c s₁ B hml hv
  obtain ⟨rfl, hsz, hP, hK, hD0⟩ := hv
  have hx := B.exec
  have hb := B.bytes
  have hr := B.returns
  have hlocks := B.notSynchronized
  have hts0 := atoms_spec (ws := kc_K_goThroughBlock :: lw_g) B.pre
  have hts : ∀ w ∈ lw_g, w.before ([.ref (q 3), .int x1, .long x2] : List Value).toArray s = true := fun w hw => hts0 w (List.mem_cons_of_mem _ hw)
  have hown : s.vm.findClass kr_K = some m.cls := findClass_of_methodNamed B.named
  subst hsz
  have hD := hD0.self (sz := s.heap.size)
  generalize hAe : va_A (wW q cA z) s.heap.size = A at hD ⊢
  have hA : ∀ x : Nat, s.heap.size ≤ x → A x := fun x hx => by rw [← hAe]; exact Or.inr hx
  have hl := lv_entry ([.ref (q 3), .int x1, .long x2]) (n := 10) (Nat.le_of_ble_eq_true rfl)
  rw [lg_entry_eq]
  generalize (lg_sl ([.ref (q 3), .int x1, .long x2]) ++ List.replicate (10 - (lg_sl ([.ref (q 3), .int x1, .long x2])).length) Slot.unset).toArray = ls at hl ⊢
  have hl : lv_has ls 10 [(0, .ref (q 3)), (1, .int x1), (2, .long x2)] := hl
  exact w_K_goThroughBlock hx hb hml hown hts (Nat.le_refl _) (Nat.le_refl _) (Nat.zero_le _) (Nat.zero_le _) hA hK x1 x2 z K h (fun u H locs pc ls hk hV hd => W.vret hx hb hr (fun t ht hW => ⟨⟨u, rfl, hk, by rw [ht]; exact hV.1, va_K.moved hW.alike hK, hV.2.1⟩, hV.2.2.F ht⟩) hV.2.2.2.2 hd) ⟨hP, hD, va_S.rf⟩ hl
section
variable {p : Program} {l : Launch} {e : Env} {R : Room} {s : State} {m : MethodId} {args : Array Value} {below : List Frame} {meth : Method} {c : Code} {Q : State → Prop} {ce sl : Nat} {D : va_G} {q : Nat → Nat} {cA : Nat → ClassId} {A : Nat → Prop}
set_option maxHeartbeats 4000000 in
set_option maxRecDepth 100000 in
theorem w_K_goThrough (hx : p.tables.exec = Jvm.exec) (hb : c.code = prog_2_method_3_code) (hml : c.maxLocals = 5) (hown : s.vm.findClass kr_K = some m.cls) (hts : ∀ w ∈ lw_g, w.before args s = true) (hRf : 3 ≤ R.frames) (hRl : 74 ≤ R.locals) (hce : ce ≤ R.cells) (hsl : sl ≤ R.slots) (hA : ∀ x, s.heap.size ≤ x → A x) (hK : va_K D wk_cl (tysW cA) s) (x1 : Int32) (z : Sta) (K : Sta → Prop) (h : wp_K_goThrough x1 z K) (hret : ∀ (u : Sta) (H : Heap) (locs : List Loc) (pc : Nat) (ls : Array Slot), K u → wk_S D q cA A s.heap u H locs → decode prog_2_method_3_code pc = .ok (.return_, 1) → W p l e R s m args below meth c H locs ce sl Q (F0 m pc ls [])) {H : Heap} {locs : List Loc} {ls : Array Slot} (hV : wk_S D q cA A s.heap z H locs) (hl : lv_has ls 5 [(0, .ref (q 3)), (1, .int x1)]) : W p l e R s m args below meth c H locs ce sl Q (F0 m 0 ls []) := by
  have J106 : ∀ (x4 : Int32) (z : Sta) (H : Heap) (locs : List Loc) (ls : Array Slot), wk_S D q cA A s.heap z H locs → lv_has ls 5 [(0, .ref (q 3)), (4, .int x4)] → pj_K_goThrough_106 K x4 z → W p l e R s m args below meth c H locs ce sl Q (F0 m 106 ls []) := by
    intro x4 z H locs ls hV hl h
    unfold pj_K_goThrough_106 at h
    refine lv_aload_n hx hb kd_prog_2_method_3_code_106 rfl (lv_at hl 0 rfl) ?_
    refine lv_iload hx hb kd_prog_2_method_3_code_107 (lv_at hl 1 rfl) ?_
    refine wk_put (D := D) (ci := 3) (v := .int x4) (ty := .int) (C := kr_K) (T := kt_K) (N := kn_K) (z1 := zI z 6 x4) hx hb hts ki_K ky_K ko_K km_K hown hK hV 3 rfl rfl 2 (by decide) (hts _ hw_143) (fun _ h9 => h9) rfl (by decide +kernel) rfl rfl (Nat.le_of_ble_eq_true rfl) rfl kd_prog_2_method_3_code_109 (fun H locs hV => ?_)
    obtain ⟨z10, ez10⟩ : ∃ x : Sta, x = zI z 6 x4 := ⟨_, rfl⟩
    rw [← ez10] at hV
    have h := h z10 ez10
    exact hret z10 H locs 112 ls h hV kd_prog_2_method_3_code_112
  have L7 : ∀ (n : Nat) (x1 : Int32) (x2 : Int32) (x3 : Int32) (x4 : Int32) (z : Sta) (H : Heap) (locs : List Loc) (ls : Array Slot), wk_S D q cA A s.heap z H locs → lv_has ls 5 [(0, .ref (q 3)), (1, .int x1), (2, .int x2), (3, .int x3), (4, .int x4)] → lp_K_goThrough_7 K n x1 x2 x3 x4 z → W p l e R s m args below meth c H locs ce sl Q (F0 m 7 ls []) := by
    intro n7
    induction n7 with
    | zero => intro x1 x2 x3 x4 z H locs ls hV hl h; rw [lp_K_goThrough_7] at h; exact h.elim
    | succ n7 ih7 =>
      have J99 : ∀ (x1 : Int32) (x2 : Int32) (x4 : Int32) (y0 : Int32) (z : Sta) (H : Heap) (locs : List Loc) (ls : Array Slot), wk_S D q cA A s.heap z H locs → lv_has ls 5 [(0, .ref (q 3)), (1, .int x1), (2, .int x2), (4, .int x4)] → pj_K_goThrough_99 K (fun x1 x2 x3 x4 z => lp_K_goThrough_7 K n7 x1 x2 x3 x4 z) x1 x2 x4 y0 z → W p l e R s m args below meth c H locs ce sl Q (F0 m 99 ls [.int y0]) := by
        intro x1 x2 x4 y0 z H locs ls hV hl h
        unfold pj_K_goThrough_99 at h
        refine lv_istore_n hx hb kd_prog_2_method_3_code_99 rfl hl (by decide) rfl (fun ls hl => ?_)
        have hl : lv_has ls 5 [(3, .int y0), (0, .ref (q 3)), (1, .int x1), (2, .int x2), (4, .int x4)] := hl
        obtain ⟨v9, ev9⟩ : ∃ v : Int32, v = x4 + 1 := ⟨_, rfl⟩
        have h := h v9 ev9
        refine lv_iinc (v := v9) (k := 4) hx hb kd_prog_2_method_3_code_100 hl rfl (by rw [ev9]; rfl) (by decide) rfl (fun ls hl => ?_)
        have hl : lv_has ls 5 [(4, .int v9), (3, .int y0), (0, .ref (q 3)), (1, .int x1), (2, .int x2)] := hl
        refine lv_goto (tgt := 7) hx hb kd_prog_2_method_3_code_103 (by decide) ?_
        exact ih7 x1 x2 y0 v9 z H locs ls hV (lv_sub hl [2, 3, 4, 1, 0] rfl) h
      have J56 : ∀ (x1 : Int32) (x3 : Int32) (x4 : Int32) (y0 : Int64) (y1 : Int32) (z : Sta) (H : Heap) (locs : List Loc) (ls : Array Slot), wk_S D q cA A s.heap z H locs → lv_has ls 5 [(0, .ref (q 3)), (1, .int x1), (3, .int x3), (4, .int x4)] → pj_K_goThrough_56 K (fun x1 x2 x3 x4 z => lp_K_goThrough_7 K n7 x1 x2 x3 x4 z) x1 x3 x4 y0 y1 z → W p l e R s m args below meth c H locs ce sl Q (F0 m 56 ls [.long y0, .int y1, .ref (q 3)]) := by
        intro x1 x3 x4 y0 y1 z H locs ls hV hl h
        unfold pj_K_goThrough_56 at h
        refine wk_callv (va_runV (As := [.int y1, .long y0]) (rest := []) ⟨hx, hb, hml, hown, hts⟩ (c_K_goThroughBlock l D q cA y1 y0 z H.size _ h) (cwV 2 hts gs_K_62 rfl rfl rfl (by decide +kernel) ⟨Nat.le_trans (by decide) hRf, Nat.le_trans (by decide) hRl⟩) (wk_preV hK hV 3 3 rfl rfl [.int y1, .long y0]) rfl rfl hl.1 rfl (lv_room (Nat.le_of_ble_eq_true rfl)) kd_prog_2_method_3_code_56 ⟨hce, hsl⟩) hV hA (fun z4 H locs h hV => ?_)
        refine lv_iload_n hx hb kd_prog_2_method_3_code_59 rfl (lv_at hl 2 rfl) ?_
        refine lv_istore_n hx hb kd_prog_2_method_3_code_60 rfl hl (by decide) rfl (fun ls hl => ?_)
        have hl : lv_has ls 5 [(2, .int x3), (0, .ref (q 3)), (1, .int x1), (3, .int x3), (4, .int x4)] := hl
        refine lv_aload_n hx hb kd_prog_2_method_3_code_61 rfl (lv_at hl 1 rfl) ?_
        refine va_get (D := D) (ci := 3) (v := .ref (q 26)) (C := kr_K) (T := kt_K) (N := kn_K) hx hb hts ki_K hown hK hV.1 3 rfl rfl 3 (by decide) (hts _ hw_145) (fun _ h9 => h9) rfl kd_prog_2_method_3_code_62 ?_
        refine lv_aload_n hx hb kd_prog_2_method_3_code_65 rfl (lv_at hl 1 rfl) ?_
        refine va_get (D := D) (ci := 3) (v := .ref (q 1)) (C := kr_K) (T := kt_K) (N := kn_K) hx hb hts ki_K hown hK hV.1 3 rfl rfl 6 (by decide) (hts _ hw_151) (fun _ h9 => h9) rfl kd_prog_2_method_3_code_66 ?_
        refine va_get (D := D) (ci := 1) (v := .ref (q 9)) (C := kr_P) (T := kt_P) (N := kn_P) hx hb hts ki_P hown hK hV.1 1 rfl rfl 6 (by decide) (hts _ hw_50) (fun _ h9 => h9) rfl kd_prog_2_method_3_code_69 ?_
        refine lv_iload_n hx hb kd_prog_2_method_3_code_72 rfl (lv_at hl 3 rfl) ?_
        obtain ⟨hin, h⟩ := h
        refine va_iald hx hb hK hV.1 9 4 rfl rfl hin kd_prog_2_method_3_code_73 ?_
        refine lv_topi (fun v5 ev5 => ?_)
        have h := h v5 ev5
        obtain ⟨hin, h⟩ := h
        refine va_iald hx hb hK hV.1 26 21 rfl rfl hin kd_prog_2_method_3_code_74 ?_
        refine lv_topi (fun v6 ev6 => ?_)
        have h := h v6 ev6
        refine lv_if_eq (tgt := 90) hx hb kd_prog_2_method_3_code_75 (by decide) (fun hc => ?_) (fun hc => ?_)
        · have h := h.1 hc
          refine lv_aload_n hx hb kd_prog_2_method_3_code_90 rfl (lv_at hl 1 rfl) ?_
          refine va_get (D := D) (ci := 3) (v := .ref (q 1)) (C := kr_K) (T := kt_K) (N := kn_K) hx hb hts ki_K hown hK hV.1 3 rfl rfl 6 (by decide) (hts _ hw_151) (fun _ h9 => h9) rfl kd_prog_2_method_3_code_91 ?_
          refine va_get (D := D) (ci := 1) (v := .ref (q 11)) (C := kr_P) (T := kt_P) (N := kn_P) hx hb hts ki_P hown hK hV.1 1 rfl rfl 8 (by decide) (hts _ hw_55) (fun _ h9 => h9) rfl kd_prog_2_method_3_code_94 ?_
          refine lv_iload_n hx hb kd_prog_2_method_3_code_97 rfl (lv_at hl 3 rfl) ?_
          obtain ⟨hin, h⟩ := h
          refine va_iald hx hb hK hV.1 11 6 rfl rfl hin kd_prog_2_method_3_code_98 ?_
          refine lv_topi (fun v7 ev7 => ?_)
          have h := h v7 ev7
          exact J99 x1 x3 x4 v7 z4 H locs ls hV (lv_sub hl [1, 2, 0, 4] rfl) h
        · have h := h.2 hc
          refine lv_aload_n hx hb kd_prog_2_method_3_code_78 rfl (lv_at hl 1 rfl) ?_
          refine va_get (D := D) (ci := 3) (v := .ref (q 1)) (C := kr_K) (T := kt_K) (N := kn_K) hx hb hts ki_K hown hK hV.1 3 rfl rfl 6 (by decide) (hts _ hw_151) (fun _ h9 => h9) rfl kd_prog_2_method_3_code_79 ?_
          refine va_get (D := D) (ci := 1) (v := .ref (q 10)) (C := kr_P) (T := kt_P) (N := kn_P) hx hb hts ki_P hown hK hV.1 1 rfl rfl 7 (by decide) (hts _ hw_52) (fun _ h9 => h9) rfl kd_prog_2_method_3_code_82 ?_
          refine lv_iload_n hx hb kd_prog_2_method_3_code_85 rfl (lv_at hl 3 rfl) ?_
          obtain ⟨hin, h⟩ := h
          refine va_iald hx hb hK hV.1 10 5 rfl rfl hin kd_prog_2_method_3_code_86 ?_
          refine lv_topi (fun v8 ev8 => ?_)
          have h := h v8 ev8
          refine lv_goto (tgt := 99) hx hb kd_prog_2_method_3_code_87 (by decide) ?_
          exact J99 x1 x3 x4 v8 z4 H locs ls hV (lv_sub hl [1, 2, 0, 4] rfl) h
      have J37 : ∀ (x1 : Int32) (x3 : Int32) (x4 : Int32) (z : Sta) (H : Heap) (locs : List Loc) (ls : Array Slot), wk_S D q cA A s.heap z H locs → lv_has ls 5 [(0, .ref (q 3)), (1, .int x1), (3, .int x3), (4, .int x4)] → pj_K_goThrough_37 K (fun x1 x2 x3 x4 z => lp_K_goThrough_7 K n7 x1 x2 x3 x4 z) x1 x3 x4 z → W p l e R s m args below meth c H locs ce sl Q (F0 m 37 ls []) := by
        intro x1 x3 x4 z H locs ls hV hl h
        unfold pj_K_goThrough_37 at h
        refine lv_aload_n hx hb kd_prog_2_method_3_code_37 rfl (lv_at hl 0 rfl) ?_
        refine lv_iload_n hx hb kd_prog_2_method_3_code_38 rfl (lv_at hl 2 rfl) ?_
        refine lv_iload_n hx hb kd_prog_2_method_3_code_39 rfl (lv_at hl 1 rfl) ?_
        refine lv_if_eq (tgt := 55) hx hb kd_prog_2_method_3_code_40 (by decide) (fun hc => ?_) (fun hc => ?_)
        · have h := h.1 hc
          refine lv_lconst (v := 0) hx hb kd_prog_2_method_3_code_55 (by decide) ?_
          exact J56 x1 x3 x4 0 x3 z H locs ls hV (lv_sub hl [0, 1, 2, 3] rfl) h
        · have h := h.2 hc
          refine lv_aload_n hx hb kd_prog_2_method_3_code_43 rfl (lv_at hl 0 rfl) ?_
          refine va_get (D := D) (ci := 3) (v := .ref (q 2)) (C := kr_K) (T := kt_K) (N := kn_K) hx hb hts ki_K hown hK hV.1 3 rfl rfl 7 (by decide) (hts _ hw_152) (fun _ h9 => h9) rfl kd_prog_2_method_3_code_44 ?_
          refine va_get (D := D) (ci := 2) (v := .ref (q 25)) (C := kr_O) (T := kt_O) (N := kn_O) hx hb hts ki_O hown hK hV.1 2 rfl rfl 10 (by decide) (hts _ hw_108) (fun _ h9 => h9) rfl kd_prog_2_method_3_code_47 ?_
          refine lv_iload_n hx hb kd_prog_2_method_3_code_50 rfl (lv_at hl 2 rfl) ?_
          obtain ⟨hin, h⟩ := h
          refine va_lald hx hb hK hV.1 25 20 rfl rfl hin kd_prog_2_method_3_code_51 ?_
          refine lv_topl (fun v3 ev3 => ?_)
          have h := h v3 ev3
          refine lv_goto (tgt := 56) hx hb kd_prog_2_method_3_code_52 (by decide) ?_
          exact J56 x1 x3 x4 v3 x3 z H locs ls hV (lv_sub hl [0, 1, 2, 3] rfl) h
      intro x1 x2 x3 x4 z H locs ls hV hl h
      rw [lp_K_goThrough_7] at h
      refine lv_iload_n hx hb kd_prog_2_method_3_code_7 rfl (lv_at hl 3 rfl) ?_
      refine lv_iconst (v := (-1)) hx hb kd_prog_2_method_3_code_8 (by decide) ?_
      refine lv_icmp_eq (tgt := 106) hx hb kd_prog_2_method_3_code_9 (by decide) (fun hc => ?_) (fun hc => ?_)
      · have h := h.1 hc
        exact J106 x4 z H locs ls hV (lv_sub hl [0, 4] rfl) h
      · have h := h.2 hc
        refine lv_iload hx hb kd_prog_2_method_3_code_12 (lv_at hl 4 rfl) ?_
        refine lv_sipush (v := 200) hx hb kd_prog_2_method_3_code_14 (by decide) ?_
        refine lv_icmp_ge (tgt := 106) hx hb kd_prog_2_method_3_code_17 (by decide) (fun hc => ?_) (fun hc => ?_)
        · have h := h.1 hc
          exact J106 x4 z H locs ls hV (lv_sub hl [0, 4] rfl) h
        · have h := h.2 hc
          refine lv_iload_n hx hb kd_prog_2_method_3_code_20 rfl (lv_at hl 1 rfl) ?_
          refine lv_if_eq (tgt := 37) hx hb kd_prog_2_method_3_code_21 (by decide) (fun hc => ?_) (fun hc => ?_)
          · have h := h.1 hc
            exact J37 x1 x3 x4 z H locs ls hV (lv_sub hl [0, 1, 3, 4] rfl) h
          · have h := h.2 hc
            refine lv_aload_n hx hb kd_prog_2_method_3_code_24 rfl (lv_at hl 0 rfl) ?_
            refine lv_aload_n hx hb kd_prog_2_method_3_code_25 rfl (lv_at hl 0 rfl) ?_
            refine va_get (D := D) (ci := 3) (v := .ref (q 2)) (C := kr_K) (T := kt_K) (N := kn_K) hx hb hts ki_K hown hK hV.1 3 rfl rfl 7 (by decide) (hts _ hw_152) (fun _ h9 => h9) rfl kd_prog_2_method_3_code_26 ?_
            refine lv_iload_n hx hb kd_prog_2_method_3_code_29 rfl (lv_at hl 2 rfl) ?_
            refine lv_iload_n hx hb kd_prog_2_method_3_code_30 rfl (lv_at hl 3 rfl) ?_
            refine wk_calll (va_runV (As := [.int x2, .int x3]) (rest := [.ref (q 3)]) ⟨hx, hb, hml, hown, hts⟩ (c_O_putOn l D q cA x2 x3 z H.size _ h) (cwV 2 hts gs_K_48 rfl rfl rfl (by decide +kernel) ⟨Nat.le_trans (by decide) hRf, Nat.le_trans (by decide) hRl⟩) (wk_preV hK hV 2 2 rfl rfl [.int x2, .int x3]) rfl rfl hl.1 rfl (lv_room (Nat.le_of_ble_eq_true rfl)) kd_prog_2_method_3_code_31 ⟨hce, hsl⟩) hV hA (fun rz1 z1 H locs h hV => ?_)
            refine wk_callv (va_runV (As := [.long rz1]) (rest := []) ⟨hx, hb, hml, hown, hts⟩ (c_K_goAlong l D q cA rz1 z1 H.size _ h) (cwV 1 hts gs_K_54 rfl rfl rfl (by decide +kernel) ⟨Nat.le_trans (by decide) hRf, Nat.le_trans (by decide) hRl⟩) (wk_preV hK hV 3 3 rfl rfl [.long rz1]) rfl rfl hl.1 rfl (lv_room (Nat.le_of_ble_eq_true rfl)) kd_prog_2_method_3_code_34 ⟨hce, hsl⟩) hV hA (fun z2 H locs h hV => ?_)
            exact J37 x1 x3 x4 z2 H locs ls hV (lv_sub hl [0, 1, 3, 4] rfl) h
  unfold wp_K_goThrough at h
  refine lv_iconst (v := (-1)) hx hb kd_prog_2_method_3_code_0 (by decide) ?_
  refine lv_istore_n hx hb kd_prog_2_method_3_code_1 rfl hl (by decide) rfl (fun ls hl => ?_)
  have hl : lv_has ls 5 [(2, .int (-1)), (0, .ref (q 3)), (1, .int x1)] := hl
  refine lv_iconst (v := 0) hx hb kd_prog_2_method_3_code_2 (by decide) ?_
  refine lv_istore_n hx hb kd_prog_2_method_3_code_3 rfl hl (by decide) rfl (fun ls hl => ?_)
  have hl : lv_has ls 5 [(3, .int 0), (2, .int (-1)), (0, .ref (q 3)), (1, .int x1)] := hl
  refine lv_iconst (v := 0) hx hb kd_prog_2_method_3_code_4 (by decide) ?_
  refine lv_istore hx hb kd_prog_2_method_3_code_5 hl (by decide) rfl (fun ls hl => ?_)
  have hl : lv_has ls 5 [(4, .int 0), (3, .int 0), (2, .int (-1)), (0, .ref (q 3)), (1, .int x1)] := hl
  obtain ⟨n7, h⟩ := h
  exact L7 n7 x1 (-1) 0 0 z H locs ls hV (lv_sub hl [3, 4, 2, 1, 0] rfl) h
end
set_option maxHeartbeats 4000000 in
set_option maxRecDepth 100000 in
theorem c_K_goThrough (l : Launch) (D : va_G) (q : Nat → Nat) (cA : Nat → ClassId) (x1 : Int32) (z : Sta) (sz : Nat) (K : Sta → Prop) (h : wp_K_goThrough x1 z K) : Met l ke_K_goThrough (kc_K_goThrough :: lw_g) { frames := 3, cells := 0, slots := 0, locals := 74 } (wk_Pc D q cA [.ref (q 3), .int x1] z sz) (va_Qv K (wk_B D q cA (va_A (wW q cA z) sz)) (va_A (wW q cA z) sz)) 0 0 (va_A (wW q cA z) sz) := by
  refine Met.ofW (cc := prog_2_method_3_code) (maxL := 5) (ret := none) (by decide) rfl ?_
  intro p e s m args below meth c s₁ B hml hv
  obtain ⟨rfl, hsz, hP, hK, hD0⟩ := hv
  have hx := B.exec
  have hb := B.bytes
  have hr := B.returns
  have hlocks := B.notSynchronized
  have hts0 := atoms_spec (ws := kc_K_goThrough :: lw_g) B.pre
  have hts : ∀ w ∈ lw_g, w.before ([.ref (q 3), .int x1] : List Value).toArray s = true := fun w hw => hts0 w (List.mem_cons_of_mem _ hw)
  have hown : s.vm.findClass kr_K = some m.cls := findClass_of_methodNamed B.named
  subst hsz
  have hD := hD0.self (sz := s.heap.size)
  generalize hAe : va_A (wW q cA z) s.heap.size = A at hD ⊢
  have hA : ∀ x : Nat, s.heap.size ≤ x → A x := fun x hx => by rw [← hAe]; exact Or.inr hx
  have hl := lv_entry ([.ref (q 3), .int x1]) (n := 5) (Nat.le_of_ble_eq_true rfl)
  rw [lg_entry_eq]
  generalize (lg_sl ([.ref (q 3), .int x1]) ++ List.replicate (5 - (lg_sl ([.ref (q 3), .int x1])).length) Slot.unset).toArray = ls at hl ⊢
  have hl : lv_has ls 5 [(0, .ref (q 3)), (1, .int x1)] := hl
  exact w_K_goThrough hx hb hml hown hts (Nat.le_refl _) (Nat.le_refl _) (Nat.zero_le _) (Nat.zero_le _) hA hK x1 z K h (fun u H locs pc ls hk hV hd => W.vret hx hb hr (fun t ht hW => ⟨⟨u, rfl, hk, by rw [ht]; exact hV.1, va_K.moved hW.alike hK, hV.2.1⟩, hV.2.2.F ht⟩) hV.2.2.2.2 hd) ⟨hP, hD, va_S.rf⟩ hl
