theorem kd_prog_6_method_20_code_0 : decode prog_6_method_20_code 0 = .ok (.iconst 1, 1) := by decide +kernel
theorem kd_prog_6_method_20_code_1 : decode prog_6_method_20_code 1 = .ok (.istore_n 2, 1) := by decide +kernel
theorem kd_prog_6_method_20_code_2 : decode prog_6_method_20_code 2 = .ok (.iload_n 2, 1) := by decide +kernel
theorem kd_prog_6_method_20_code_3 : decode prog_6_method_20_code 3 = .ok (.ifCond .eq 227, 3) := by decide +kernel
theorem kd_prog_6_method_20_code_6 : decode prog_6_method_20_code 6 = .ok (.iconst 0, 1) := by decide +kernel
theorem kd_prog_6_method_20_code_7 : decode prog_6_method_20_code 7 = .ok (.istore_n 2, 1) := by decide +kernel
theorem kd_prog_6_method_20_code_8 : decode prog_6_method_20_code 8 = .ok (.iconst 0, 1) := by decide +kernel
theorem kd_prog_6_method_20_code_9 : decode prog_6_method_20_code 9 = .ok (.istore_n 3, 1) := by decide +kernel
theorem kd_prog_6_method_20_code_10 : decode prog_6_method_20_code 10 = .ok (.iload_n 3, 1) := by decide +kernel
theorem kd_prog_6_method_20_code_11 : decode prog_6_method_20_code 11 = .ok (.aload_n 0, 1) := by decide +kernel
theorem kd_prog_6_method_20_code_12 : decode prog_6_method_20_code 12 = .ok (.getfield 78, 3) := by decide +kernel
theorem kd_prog_6_method_20_code_15 : decode prog_6_method_20_code 15 = .ok (.if_icmp .ge 212, 3) := by decide +kernel
theorem kd_prog_6_method_20_code_18 : decode prog_6_method_20_code 18 = .ok (.aload_n 0, 1) := by decide +kernel
theorem kd_prog_6_method_20_code_19 : decode prog_6_method_20_code 19 = .ok (.getfield 28, 3) := by decide +kernel
theorem kd_prog_6_method_20_code_22 : decode prog_6_method_20_code 22 = .ok (.iload_n 3, 1) := by decide +kernel
theorem kd_prog_6_method_20_code_23 : decode prog_6_method_20_code 23 = .ok (.baload, 1) := by decide +kernel
theorem kd_prog_6_method_20_code_24 : decode prog_6_method_20_code 24 = .ok (.ifCond .eq 49, 3) := by decide +kernel
theorem kd_prog_6_method_20_code_27 : decode prog_6_method_20_code 27 = .ok (.iload_n 1, 1) := by decide +kernel
theorem kd_prog_6_method_20_code_28 : decode prog_6_method_20_code 28 = .ok (.ifCond .ne 15, 3) := by decide +kernel
theorem kd_prog_6_method_20_code_31 : decode prog_6_method_20_code 31 = .ok (.aload_n 0, 1) := by decide +kernel
theorem kd_prog_6_method_20_code_32 : decode prog_6_method_20_code 32 = .ok (.getfield 50, 3) := by decide +kernel
theorem kd_prog_6_method_20_code_35 : decode prog_6_method_20_code 35 = .ok (.iload_n 3, 1) := by decide +kernel
theorem kd_prog_6_method_20_code_36 : decode prog_6_method_20_code 36 = .ok (.baload, 1) := by decide +kernel
theorem kd_prog_6_method_20_code_37 : decode prog_6_method_20_code 37 = .ok (.ifCond .eq 36, 3) := by decide +kernel
theorem kd_prog_6_method_20_code_40 : decode prog_6_method_20_code 40 = .ok (.goto 29, 3) := by decide +kernel
theorem kd_prog_6_method_20_code_43 : decode prog_6_method_20_code 43 = .ok (.iload_n 1, 1) := by decide +kernel
theorem kd_prog_6_method_20_code_44 : decode prog_6_method_20_code 44 = .ok (.iconst 1, 1) := by decide +kernel
theorem kd_prog_6_method_20_code_45 : decode prog_6_method_20_code 45 = .ok (.if_icmp .ne 15, 3) := by decide +kernel
theorem kd_prog_6_method_20_code_48 : decode prog_6_method_20_code 48 = .ok (.aload_n 0, 1) := by decide +kernel
theorem kd_prog_6_method_20_code_49 : decode prog_6_method_20_code 49 = .ok (.getfield 53, 3) := by decide +kernel
theorem kd_prog_6_method_20_code_52 : decode prog_6_method_20_code 52 = .ok (.iload_n 3, 1) := by decide +kernel
theorem kd_prog_6_method_20_code_53 : decode prog_6_method_20_code 53 = .ok (.baload, 1) := by decide +kernel
theorem kd_prog_6_method_20_code_54 : decode prog_6_method_20_code 54 = .ok (.ifCond .eq 19, 3) := by decide +kernel
theorem kd_prog_6_method_20_code_57 : decode prog_6_method_20_code 57 = .ok (.goto 12, 3) := by decide +kernel
theorem kd_prog_6_method_20_code_60 : decode prog_6_method_20_code 60 = .ok (.aload_n 0, 1) := by decide +kernel
theorem kd_prog_6_method_20_code_61 : decode prog_6_method_20_code 61 = .ok (.getfield 59, 3) := by decide +kernel
theorem kd_prog_6_method_20_code_64 : decode prog_6_method_20_code 64 = .ok (.iload_n 3, 1) := by decide +kernel
theorem kd_prog_6_method_20_code_65 : decode prog_6_method_20_code 65 = .ok (.baload, 1) := by decide +kernel
theorem kd_prog_6_method_20_code_66 : decode prog_6_method_20_code 66 = .ok (.ifCond .eq 7, 3) := by decide +kernel
theorem kd_prog_6_method_20_code_69 : decode prog_6_method_20_code 69 = .ok (.iconst 1, 1) := by decide +kernel
theorem kd_prog_6_method_20_code_70 : decode prog_6_method_20_code 70 = .ok (.goto 4, 3) := by decide +kernel
theorem kd_prog_6_method_20_code_73 : decode prog_6_method_20_code 73 = .ok (.iconst 0, 1) := by decide +kernel
theorem kd_prog_6_method_20_code_74 : decode prog_6_method_20_code 74 = .ok (.istore 4, 2) := by decide +kernel
theorem kd_prog_6_method_20_code_76 : decode prog_6_method_20_code 76 = .ok (.iload 4, 2) := by decide +kernel
theorem kd_prog_6_method_20_code_78 : decode prog_6_method_20_code 78 = .ok (.ifCond .eq 82, 3) := by decide +kernel
theorem kd_prog_6_method_20_code_81 : decode prog_6_method_20_code 81 = .ok (.iload_n 1, 1) := by decide +kernel
theorem kd_prog_6_method_20_code_82 : decode prog_6_method_20_code 82 = .ok (.ifCond .ne 32, 3) := by decide +kernel
theorem kd_prog_6_method_20_code_85 : decode prog_6_method_20_code 85 = .ok (.aload_n 0, 1) := by decide +kernel
theorem kd_prog_6_method_20_code_86 : decode prog_6_method_20_code 86 = .ok (.getfield 44, 3) := by decide +kernel
theorem kd_prog_6_method_20_code_89 : decode prog_6_method_20_code 89 = .ok (.iload_n 3, 1) := by decide +kernel
theorem kd_prog_6_method_20_code_90 : decode prog_6_method_20_code 90 = .ok (.baload, 1) := by decide +kernel
theorem kd_prog_6_method_20_code_91 : decode prog_6_method_20_code 91 = .ok (.ifCond .ne 65, 3) := by decide +kernel
theorem kd_prog_6_method_20_code_94 : decode prog_6_method_20_code 94 = .ok (.aload_n 0, 1) := by decide +kernel
theorem kd_prog_6_method_20_code_95 : decode prog_6_method_20_code 95 = .ok (.iload_n 3, 1) := by decide +kernel
theorem kd_prog_6_method_20_code_96 : decode prog_6_method_20_code 96 = .ok (.invokevirtual 121, 3) := by decide +kernel
theorem kd_prog_6_method_20_code_99 : decode prog_6_method_20_code 99 = .ok (.ifCond .eq 61, 3) := by decide +kernel
theorem kd_prog_6_method_20_code_102 : decode prog_6_method_20_code 102 = .ok (.aload_n 0, 1) := by decide +kernel
theorem kd_prog_6_method_20_code_103 : decode prog_6_method_20_code 103 = .ok (.getfield 38, 3) := by decide +kernel
theorem kd_prog_6_method_20_code_106 : decode prog_6_method_20_code 106 = .ok (.iload_n 3, 1) := by decide +kernel
theorem kd_prog_6_method_20_code_107 : decode prog_6_method_20_code 107 = .ok (.baload, 1) := by decide +kernel
theorem kd_prog_6_method_20_code_108 : decode prog_6_method_20_code 108 = .ok (.ifCond .ne 52, 3) := by decide +kernel
theorem kd_prog_6_method_20_code_111 : decode prog_6_method_20_code 111 = .ok (.goto 45, 3) := by decide +kernel
theorem kd_prog_6_method_20_code_114 : decode prog_6_method_20_code 114 = .ok (.iload_n 1, 1) := by decide +kernel
theorem kd_prog_6_method_20_code_115 : decode prog_6_method_20_code 115 = .ok (.iconst 1, 1) := by decide +kernel
theorem kd_prog_6_method_20_code_116 : decode prog_6_method_20_code 116 = .ok (.if_icmp .ne 32, 3) := by decide +kernel
theorem kd_prog_6_method_20_code_119 : decode prog_6_method_20_code 119 = .ok (.aload_n 0, 1) := by decide +kernel
theorem kd_prog_6_method_20_code_120 : decode prog_6_method_20_code 120 = .ok (.getfield 41, 3) := by decide +kernel
theorem kd_prog_6_method_20_code_123 : decode prog_6_method_20_code 123 = .ok (.iload_n 3, 1) := by decide +kernel
theorem kd_prog_6_method_20_code_124 : decode prog_6_method_20_code 124 = .ok (.baload, 1) := by decide +kernel
theorem kd_prog_6_method_20_code_125 : decode prog_6_method_20_code 125 = .ok (.ifCond .ne 31, 3) := by decide +kernel
theorem kd_prog_6_method_20_code_128 : decode prog_6_method_20_code 128 = .ok (.aload_n 0, 1) := by decide +kernel
theorem kd_prog_6_method_20_code_129 : decode prog_6_method_20_code 129 = .ok (.iload_n 3, 1) := by decide +kernel
theorem kd_prog_6_method_20_code_130 : decode prog_6_method_20_code 130 = .ok (.invokevirtual 111, 3) := by decide +kernel
theorem kd_prog_6_method_20_code_133 : decode prog_6_method_20_code 133 = .ok (.ifCond .eq 27, 3) := by decide +kernel
theorem kd_prog_6_method_20_code_136 : decode prog_6_method_20_code 136 = .ok (.aload_n 0, 1) := by decide +kernel
theorem kd_prog_6_method_20_code_137 : decode prog_6_method_20_code 137 = .ok (.getfield 38, 3) := by decide +kernel
theorem kd_prog_6_method_20_code_140 : decode prog_6_method_20_code 140 = .ok (.iload_n 3, 1) := by decide +kernel
theorem kd_prog_6_method_20_code_141 : decode prog_6_method_20_code 141 = .ok (.baload, 1) := by decide +kernel
theorem kd_prog_6_method_20_code_142 : decode prog_6_method_20_code 142 = .ok (.ifCond .ne 18, 3) := by decide +kernel
theorem kd_prog_6_method_20_code_145 : decode prog_6_method_20_code 145 = .ok (.goto 11, 3) := by decide +kernel
theorem kd_prog_6_method_20_code_148 : decode prog_6_method_20_code 148 = .ok (.aload_n 0, 1) := by decide +kernel
theorem kd_prog_6_method_20_code_149 : decode prog_6_method_20_code 149 = .ok (.iload_n 3, 1) := by decide +kernel
theorem kd_prog_6_method_20_code_150 : decode prog_6_method_20_code 150 = .ok (.invokevirtual 124, 3) := by decide +kernel
theorem kd_prog_6_method_20_code_153 : decode prog_6_method_20_code 153 = .ok (.ifCond .eq 7, 3) := by decide +kernel
theorem kd_prog_6_method_20_code_156 : decode prog_6_method_20_code 156 = .ok (.iconst 1, 1) := by decide +kernel
theorem kd_prog_6_method_20_code_157 : decode prog_6_method_20_code 157 = .ok (.goto 4, 3) := by decide +kernel
theorem kd_prog_6_method_20_code_160 : decode prog_6_method_20_code 160 = .ok (.iconst 0, 1) := by decide +kernel
theorem kd_prog_6_method_20_code_161 : decode prog_6_method_20_code 161 = .ok (.istore 5, 2) := by decide +kernel
theorem kd_prog_6_method_20_code_163 : decode prog_6_method_20_code 163 = .ok (.iload_n 2, 1) := by decide +kernel
theorem kd_prog_6_method_20_code_164 : decode prog_6_method_20_code 164 = .ok (.ifCond .ne 13, 3) := by decide +kernel
theorem kd_prog_6_method_20_code_167 : decode prog_6_method_20_code 167 = .ok (.iload 4, 2) := by decide +kernel
theorem kd_prog_6_method_20_code_169 : decode prog_6_method_20_code 169 = .ok (.ifCond .eq 12, 3) := by decide +kernel
theorem kd_prog_6_method_20_code_172 : decode prog_6_method_20_code 172 = .ok (.iload 5, 2) := by decide +kernel
theorem kd_prog_6_method_20_code_174 : decode prog_6_method_20_code 174 = .ok (.ifCond .ne 7, 3) := by decide +kernel
theorem kd_prog_6_method_20_code_177 : decode prog_6_method_20_code 177 = .ok (.iconst 1, 1) := by decide +kernel
theorem kd_prog_6_method_20_code_178 : decode prog_6_method_20_code 178 = .ok (.goto 4, 3) := by decide +kernel
theorem kd_prog_6_method_20_code_181 : decode prog_6_method_20_code 181 = .ok (.iconst 0, 1) := by decide +kernel
theorem kd_prog_6_method_20_code_182 : decode prog_6_method_20_code 182 = .ok (.istore_n 2, 1) := by decide +kernel
theorem kd_prog_6_method_20_code_183 : decode prog_6_method_20_code 183 = .ok (.iload_n 1, 1) := by decide +kernel
theorem kd_prog_6_method_20_code_184 : decode prog_6_method_20_code 184 = .ok (.ifCond .ne 11, 3) := by decide +kernel
theorem kd_prog_6_method_20_code_187 : decode prog_6_method_20_code 187 = .ok (.aload_n 0, 1) := by decide +kernel
theorem kd_prog_6_method_20_code_188 : decode prog_6_method_20_code 188 = .ok (.getfield 50, 3) := by decide +kernel
theorem kd_prog_6_method_20_code_191 : decode prog_6_method_20_code 191 = .ok (.iload_n 3, 1) := by decide +kernel
theorem kd_prog_6_method_20_code_192 : decode prog_6_method_20_code 192 = .ok (.iload 5, 2) := by decide +kernel
theorem kd_prog_6_method_20_code_194 : decode prog_6_method_20_code 194 = .ok (.bastore, 1) := by decide +kernel
theorem kd_prog_6_method_20_code_195 : decode prog_6_method_20_code 195 = .ok (.iload_n 1, 1) := by decide +kernel
theorem kd_prog_6_method_20_code_196 : decode prog_6_method_20_code 196 = .ok (.iconst 1, 1) := by decide +kernel
theorem kd_prog_6_method_20_code_197 : decode prog_6_method_20_code 197 = .ok (.if_icmp .ne 11, 3) := by decide +kernel
theorem kd_prog_6_method_20_code_200 : decode prog_6_method_20_code 200 = .ok (.aload_n 0, 1) := by decide +kernel
theorem kd_prog_6_method_20_code_201 : decode prog_6_method_20_code 201 = .ok (.getfield 53, 3) := by decide +kernel
theorem kd_prog_6_method_20_code_204 : decode prog_6_method_20_code 204 = .ok (.iload_n 3, 1) := by decide +kernel
theorem kd_prog_6_method_20_code_205 : decode prog_6_method_20_code 205 = .ok (.iload 5, 2) := by decide +kernel
theorem kd_prog_6_method_20_code_207 : decode prog_6_method_20_code 207 = .ok (.bastore, 1) := by decide +kernel
theorem kd_prog_6_method_20_code_208 : decode prog_6_method_20_code 208 = .ok (.iload_n 1, 1) := by decide +kernel
theorem kd_prog_6_method_20_code_209 : decode prog_6_method_20_code 209 = .ok (.iconst 2, 1) := by decide +kernel
theorem kd_prog_6_method_20_code_210 : decode prog_6_method_20_code 210 = .ok (.if_icmp .ne 11, 3) := by decide +kernel
theorem kd_prog_6_method_20_code_213 : decode prog_6_method_20_code 213 = .ok (.aload_n 0, 1) := by decide +kernel
theorem kd_prog_6_method_20_code_214 : decode prog_6_method_20_code 214 = .ok (.getfield 59, 3) := by decide +kernel
theorem kd_prog_6_method_20_code_217 : decode prog_6_method_20_code 217 = .ok (.iload_n 3, 1) := by decide +kernel
theorem kd_prog_6_method_20_code_218 : decode prog_6_method_20_code 218 = .ok (.iload 5, 2) := by decide +kernel
theorem kd_prog_6_method_20_code_220 : decode prog_6_method_20_code 220 = .ok (.bastore, 1) := by decide +kernel
theorem kd_prog_6_method_20_code_221 : decode prog_6_method_20_code 221 = .ok (.iinc 3 1, 3) := by decide +kernel
theorem kd_prog_6_method_20_code_224 : decode prog_6_method_20_code 224 = .ok (.goto (-214), 3) := by decide +kernel
theorem kd_prog_6_method_20_code_227 : decode prog_6_method_20_code 227 = .ok (.goto (-225), 3) := by decide +kernel
theorem kd_prog_6_method_20_code_230 : decode prog_6_method_20_code 230 = .ok (.return_, 1) := by decide +kernel
theorem kd_prog_6_method_21_code_0 : decode prog_6_method_21_code 0 = .ok (.aload_n 0, 1) := by decide +kernel
theorem kd_prog_6_method_21_code_1 : decode prog_6_method_21_code 1 = .ok (.getfield 32, 3) := by decide +kernel
theorem kd_prog_6_method_21_code_4 : decode prog_6_method_21_code 4 = .ok (.bipush 6, 2) := by decide +kernel
theorem kd_prog_6_method_21_code_6 : decode prog_6_method_21_code 6 = .ok (.iload_n 1, 1) := by decide +kernel
theorem kd_prog_6_method_21_code_7 : decode prog_6_method_21_code 7 = .ok (.imul, 1) := by decide +kernel
theorem kd_prog_6_method_21_code_8 : decode prog_6_method_21_code 8 = .ok (.iload_n 2, 1) := by decide +kernel
theorem kd_prog_6_method_21_code_9 : decode prog_6_method_21_code 9 = .ok (.iadd, 1) := by decide +kernel
theorem kd_prog_6_method_21_code_10 : decode prog_6_method_21_code 10 = .ok (.dup2, 1) := by decide +kernel
theorem kd_prog_6_method_21_code_11 : decode prog_6_method_21_code 11 = .ok (.iaload, 1) := by decide +kernel
theorem kd_prog_6_method_21_code_12 : decode prog_6_method_21_code 12 = .ok (.iload 4, 2) := by decide +kernel
theorem kd_prog_6_method_21_code_14 : decode prog_6_method_21_code 14 = .ok (.ifCond .eq 9, 3) := by decide +kernel
theorem kd_prog_6_method_21_code_17 : decode prog_6_method_21_code 17 = .ok (.iconst 1, 1) := by decide +kernel
theorem kd_prog_6_method_21_code_18 : decode prog_6_method_21_code 18 = .ok (.iload_n 3, 1) := by decide +kernel
theorem kd_prog_6_method_21_code_19 : decode prog_6_method_21_code 19 = .ok (.ishl, 1) := by decide +kernel
theorem kd_prog_6_method_21_code_20 : decode prog_6_method_21_code 20 = .ok (.goto 4, 3) := by decide +kernel
theorem kd_prog_6_method_21_code_23 : decode prog_6_method_21_code 23 = .ok (.iconst 0, 1) := by decide +kernel
theorem kd_prog_6_method_21_code_24 : decode prog_6_method_21_code 24 = .ok (.ior, 1) := by decide +kernel
theorem kd_prog_6_method_21_code_25 : decode prog_6_method_21_code 25 = .ok (.iastore, 1) := by decide +kernel
theorem kd_prog_6_method_21_code_26 : decode prog_6_method_21_code 26 = .ok (.return_, 1) := by decide +kernel
theorem kd_prog_6_method_22_code_0 : decode prog_6_method_22_code 0 = .ok (.iconst 0, 1) := by decide +kernel
theorem kd_prog_6_method_22_code_1 : decode prog_6_method_22_code 1 = .ok (.istore_n 2, 1) := by decide +kernel
theorem kd_prog_6_method_22_code_2 : decode prog_6_method_22_code 2 = .ok (.iload_n 2, 1) := by decide +kernel
theorem kd_prog_6_method_22_code_3 : decode prog_6_method_22_code 3 = .ok (.bipush 16, 2) := by decide +kernel
theorem kd_prog_6_method_22_code_5 : decode prog_6_method_22_code 5 = .ok (.if_icmp .ge 36, 3) := by decide +kernel
theorem kd_prog_6_method_22_code_8 : decode prog_6_method_22_code 8 = .ok (.aload_n 0, 1) := by decide +kernel
theorem kd_prog_6_method_22_code_9 : decode prog_6_method_22_code 9 = .ok (.iload_n 2, 1) := by decide +kernel
theorem kd_prog_6_method_22_code_10 : decode prog_6_method_22_code 10 = .ok (.iload_n 1, 1) := by decide +kernel
theorem kd_prog_6_method_22_code_11 : decode prog_6_method_22_code 11 = .ok (.invokevirtual 127, 3) := by decide +kernel
theorem kd_prog_6_method_22_code_14 : decode prog_6_method_22_code 14 = .ok (.aload_n 0, 1) := by decide +kernel
theorem kd_prog_6_method_22_code_15 : decode prog_6_method_22_code 15 = .ok (.getfield 50, 3) := by decide +kernel
theorem kd_prog_6_method_22_code_18 : decode prog_6_method_22_code 18 = .ok (.iload_n 2, 1) := by decide +kernel
theorem kd_prog_6_method_22_code_19 : decode prog_6_method_22_code 19 = .ok (.iconst 1, 1) := by decide +kernel
theorem kd_prog_6_method_22_code_20 : decode prog_6_method_22_code 20 = .ok (.bastore, 1) := by decide +kernel
theorem kd_prog_6_method_22_code_21 : decode prog_6_method_22_code 21 = .ok (.aload_n 0, 1) := by decide +kernel
theorem kd_prog_6_method_22_code_22 : decode prog_6_method_22_code 22 = .ok (.getfield 53, 3) := by decide +kernel
theorem kd_prog_6_method_22_code_25 : decode prog_6_method_22_code 25 = .ok (.iload_n 2, 1) := by decide +kernel
theorem kd_prog_6_method_22_code_26 : decode prog_6_method_22_code 26 = .ok (.iconst 1, 1) := by decide +kernel
theorem kd_prog_6_method_22_code_27 : decode prog_6_method_22_code 27 = .ok (.bastore, 1) := by decide +kernel
theorem kd_prog_6_method_22_code_28 : decode prog_6_method_22_code 28 = .ok (.aload_n 0, 1) := by decide +kernel
theorem kd_prog_6_method_22_code_29 : decode prog_6_method_22_code 29 = .ok (.getfield 59, 3) := by decide +kernel
theorem kd_prog_6_method_22_code_32 : decode prog_6_method_22_code 32 = .ok (.iload_n 2, 1) := by decide +kernel
theorem kd_prog_6_method_22_code_33 : decode prog_6_method_22_code 33 = .ok (.iconst 1, 1) := by decide +kernel
theorem kd_prog_6_method_22_code_34 : decode prog_6_method_22_code 34 = .ok (.bastore, 1) := by decide +kernel
theorem kd_prog_6_method_22_code_35 : decode prog_6_method_22_code 35 = .ok (.iinc 2 1, 3) := by decide +kernel
theorem kd_prog_6_method_22_code_38 : decode prog_6_method_22_code 38 = .ok (.goto (-36), 3) := by decide +kernel
theorem kd_prog_6_method_22_code_41 : decode prog_6_method_22_code 41 = .ok (.iconst 0, 1) := by decide +kernel
theorem kd_prog_6_method_22_code_42 : decode prog_6_method_22_code 42 = .ok (.istore_n 2, 1) := by decide +kernel
theorem kd_prog_6_method_22_code_43 : decode prog_6_method_22_code 43 = .ok (.iload_n 2, 1) := by decide +kernel
theorem kd_prog_6_method_22_code_44 : decode prog_6_method_22_code 44 = .ok (.iconst 3, 1) := by decide +kernel
theorem kd_prog_6_method_22_code_45 : decode prog_6_method_22_code 45 = .ok (.if_icmp .ge 14, 3) := by decide +kernel
theorem kd_prog_6_method_22_code_48 : decode prog_6_method_22_code 48 = .ok (.aload_n 0, 1) := by decide +kernel
theorem kd_prog_6_method_22_code_49 : decode prog_6_method_22_code 49 = .ok (.iload_n 2, 1) := by decide +kernel
theorem kd_prog_6_method_22_code_50 : decode prog_6_method_22_code 50 = .ok (.invokevirtual 131, 3) := by decide +kernel
theorem kd_prog_6_method_22_code_53 : decode prog_6_method_22_code 53 = .ok (.iinc 2 1, 3) := by decide +kernel
theorem kd_prog_6_method_22_code_56 : decode prog_6_method_22_code 56 = .ok (.goto (-13), 3) := by decide +kernel
theorem kd_prog_6_method_22_code_59 : decode prog_6_method_22_code 59 = .ok (.iconst 0, 1) := by decide +kernel
theorem kd_prog_6_method_22_code_60 : decode prog_6_method_22_code 60 = .ok (.istore_n 2, 1) := by decide +kernel
theorem kd_prog_6_method_22_code_61 : decode prog_6_method_22_code 61 = .ok (.iconst 0, 1) := by decide +kernel
theorem kd_prog_6_method_22_code_62 : decode prog_6_method_22_code 62 = .ok (.istore_n 3, 1) := by decide +kernel
theorem kd_prog_6_method_22_code_63 : decode prog_6_method_22_code 63 = .ok (.iload_n 3, 1) := by decide +kernel
theorem kd_prog_6_method_22_code_64 : decode prog_6_method_22_code 64 = .ok (.aload_n 0, 1) := by decide +kernel
theorem kd_prog_6_method_22_code_65 : decode prog_6_method_22_code 65 = .ok (.getfield 78, 3) := by decide +kernel
theorem kd_prog_6_method_22_code_68 : decode prog_6_method_22_code 68 = .ok (.if_icmp .ge 199, 3) := by decide +kernel
theorem kd_prog_6_method_22_code_71 : decode prog_6_method_22_code 71 = .ok (.aload_n 0, 1) := by decide +kernel
theorem kd_prog_6_method_22_code_72 : decode prog_6_method_22_code 72 = .ok (.getfield 28, 3) := by decide +kernel
theorem kd_prog_6_method_22_code_75 : decode prog_6_method_22_code 75 = .ok (.iload_n 3, 1) := by decide +kernel
theorem kd_prog_6_method_22_code_76 : decode prog_6_method_22_code 76 = .ok (.baload, 1) := by decide +kernel
theorem kd_prog_6_method_22_code_77 : decode prog_6_method_22_code 77 = .ok (.ifCond .eq 184, 3) := by decide +kernel
theorem kd_prog_6_method_22_code_80 : decode prog_6_method_22_code 80 = .ok (.aload_n 0, 1) := by decide +kernel
theorem kd_prog_6_method_22_code_81 : decode prog_6_method_22_code 81 = .ok (.getfield 41, 3) := by decide +kernel
theorem kd_prog_6_method_22_code_84 : decode prog_6_method_22_code 84 = .ok (.iload_n 3, 1) := by decide +kernel
theorem kd_prog_6_method_22_code_85 : decode prog_6_method_22_code 85 = .ok (.baload, 1) := by decide +kernel
theorem kd_prog_6_method_22_code_86 : decode prog_6_method_22_code 86 = .ok (.ifCond .eq 16, 3) := by decide +kernel
theorem kd_prog_6_method_22_code_89 : decode prog_6_method_22_code 89 = .ok (.aload_n 0, 1) := by decide +kernel
theorem kd_prog_6_method_22_code_90 : decode prog_6_method_22_code 90 = .ok (.getfield 59, 3) := by decide +kernel
theorem kd_prog_6_method_22_code_93 : decode prog_6_method_22_code 93 = .ok (.iload_n 3, 1) := by decide +kernel
theorem kd_prog_6_method_22_code_94 : decode prog_6_method_22_code 94 = .ok (.baload, 1) := by decide +kernel
theorem kd_prog_6_method_22_code_95 : decode prog_6_method_22_code 95 = .ok (.ifCond .ne 7, 3) := by decide +kernel
theorem kd_prog_6_method_22_code_98 : decode prog_6_method_22_code 98 = .ok (.iconst 1, 1) := by decide +kernel
theorem kd_prog_6_method_22_code_99 : decode prog_6_method_22_code 99 = .ok (.goto 4, 3) := by decide +kernel
theorem kd_prog_6_method_22_code_102 : decode prog_6_method_22_code 102 = .ok (.iconst 0, 1) := by decide +kernel
theorem kd_prog_6_method_22_code_103 : decode prog_6_method_22_code 103 = .ok (.istore 4, 2) := by decide +kernel
theorem kd_prog_6_method_22_code_105 : decode prog_6_method_22_code 105 = .ok (.aload_n 0, 1) := by decide +kernel
theorem kd_prog_6_method_22_code_106 : decode prog_6_method_22_code 106 = .ok (.iload_n 3, 1) := by decide +kernel
theorem kd_prog_6_method_22_code_107 : decode prog_6_method_22_code 107 = .ok (.iconst 0, 1) := by decide +kernel
theorem kd_prog_6_method_22_code_108 : decode prog_6_method_22_code 108 = .ok (.iload_n 1, 1) := by decide +kernel
theorem kd_prog_6_method_22_code_109 : decode prog_6_method_22_code 109 = .ok (.aload_n 0, 1) := by decide +kernel
theorem kd_prog_6_method_22_code_110 : decode prog_6_method_22_code 110 = .ok (.iload_n 3, 1) := by decide +kernel
theorem kd_prog_6_method_22_code_111 : decode prog_6_method_22_code 111 = .ok (.invokevirtual 121, 3) := by decide +kernel
theorem kd_prog_6_method_22_code_114 : decode prog_6_method_22_code 114 = .ok (.invokevirtual 135, 3) := by decide +kernel
theorem kd_prog_6_method_22_code_117 : decode prog_6_method_22_code 117 = .ok (.aload_n 0, 1) := by decide +kernel
theorem kd_prog_6_method_22_code_118 : decode prog_6_method_22_code 118 = .ok (.iload_n 3, 1) := by decide +kernel
theorem kd_prog_6_method_22_code_119 : decode prog_6_method_22_code 119 = .ok (.iconst 1, 1) := by decide +kernel
theorem kd_prog_6_method_22_code_120 : decode prog_6_method_22_code 120 = .ok (.iload_n 1, 1) := by decide +kernel
theorem kd_prog_6_method_22_code_121 : decode prog_6_method_22_code 121 = .ok (.aload_n 0, 1) := by decide +kernel
theorem kd_prog_6_method_22_code_122 : decode prog_6_method_22_code 122 = .ok (.getfield 50, 3) := by decide +kernel
theorem kd_prog_6_method_22_code_125 : decode prog_6_method_22_code 125 = .ok (.iload_n 3, 1) := by decide +kernel
theorem kd_prog_6_method_22_code_126 : decode prog_6_method_22_code 126 = .ok (.baload, 1) := by decide +kernel
theorem kd_prog_6_method_22_code_127 : decode prog_6_method_22_code 127 = .ok (.invokevirtual 135, 3) := by decide +kernel
theorem kd_prog_6_method_22_code_130 : decode prog_6_method_22_code 130 = .ok (.aload_n 0, 1) := by decide +kernel
theorem kd_prog_6_method_22_code_131 : decode prog_6_method_22_code 131 = .ok (.iload_n 3, 1) := by decide +kernel
theorem kd_prog_6_method_22_code_132 : decode prog_6_method_22_code 132 = .ok (.iconst 2, 1) := by decide +kernel
theorem kd_prog_6_method_22_code_133 : decode prog_6_method_22_code 133 = .ok (.iload_n 1, 1) := by decide +kernel
theorem kd_prog_6_method_22_code_134 : decode prog_6_method_22_code 134 = .ok (.aload_n 0, 1) := by decide +kernel
theorem kd_prog_6_method_22_code_135 : decode prog_6_method_22_code 135 = .ok (.getfield 53, 3) := by decide +kernel
theorem kd_prog_6_method_22_code_138 : decode prog_6_method_22_code 138 = .ok (.iload_n 3, 1) := by decide +kernel
theorem kd_prog_6_method_22_code_139 : decode prog_6_method_22_code 139 = .ok (.baload, 1) := by decide +kernel
theorem kd_prog_6_method_22_code_140 : decode prog_6_method_22_code 140 = .ok (.invokevirtual 135, 3) := by decide +kernel
theorem kd_prog_6_method_22_code_143 : decode prog_6_method_22_code 143 = .ok (.aload_n 0, 1) := by decide +kernel
theorem kd_prog_6_method_22_code_144 : decode prog_6_method_22_code 144 = .ok (.iload_n 3, 1) := by decide +kernel
theorem kd_prog_6_method_22_code_145 : decode prog_6_method_22_code 145 = .ok (.iconst 3, 1) := by decide +kernel
theorem kd_prog_6_method_22_code_146 : decode prog_6_method_22_code 146 = .ok (.iload_n 1, 1) := by decide +kernel
theorem kd_prog_6_method_22_code_147 : decode prog_6_method_22_code 147 = .ok (.aload_n 0, 1) := by decide +kernel
theorem kd_prog_6_method_22_code_148 : decode prog_6_method_22_code 148 = .ok (.iload_n 3, 1) := by decide +kernel
theorem kd_prog_6_method_22_code_149 : decode prog_6_method_22_code 149 = .ok (.invokevirtual 111, 3) := by decide +kernel
theorem kd_prog_6_method_22_code_152 : decode prog_6_method_22_code 152 = .ok (.invokevirtual 135, 3) := by decide +kernel
theorem kd_prog_6_method_22_code_155 : decode prog_6_method_22_code 155 = .ok (.aload_n 0, 1) := by decide +kernel
theorem kd_prog_6_method_22_code_156 : decode prog_6_method_22_code 156 = .ok (.iload_n 3, 1) := by decide +kernel
theorem kd_prog_6_method_22_code_157 : decode prog_6_method_22_code 157 = .ok (.iconst 4, 1) := by decide +kernel
theorem kd_prog_6_method_22_code_158 : decode prog_6_method_22_code 158 = .ok (.iload_n 1, 1) := by decide +kernel
theorem kd_prog_6_method_22_code_159 : decode prog_6_method_22_code 159 = .ok (.aload_n 0, 1) := by decide +kernel
theorem kd_prog_6_method_22_code_160 : decode prog_6_method_22_code 160 = .ok (.getfield 59, 3) := by decide +kernel
theorem kd_prog_6_method_22_code_163 : decode prog_6_method_22_code 163 = .ok (.iload_n 3, 1) := by decide +kernel
theorem kd_prog_6_method_22_code_164 : decode prog_6_method_22_code 164 = .ok (.baload, 1) := by decide +kernel
theorem kd_prog_6_method_22_code_165 : decode prog_6_method_22_code 165 = .ok (.invokevirtual 135, 3) := by decide +kernel
theorem kd_prog_6_method_22_code_168 : decode prog_6_method_22_code 168 = .ok (.aload_n 0, 1) := by decide +kernel
theorem kd_prog_6_method_22_code_169 : decode prog_6_method_22_code 169 = .ok (.iload_n 3, 1) := by decide +kernel
theorem kd_prog_6_method_22_code_170 : decode prog_6_method_22_code 170 = .ok (.iconst 5, 1) := by decide +kernel
theorem kd_prog_6_method_22_code_171 : decode prog_6_method_22_code 171 = .ok (.iload_n 1, 1) := by decide +kernel
theorem kd_prog_6_method_22_code_172 : decode prog_6_method_22_code 172 = .ok (.iload 4, 2) := by decide +kernel
theorem kd_prog_6_method_22_code_174 : decode prog_6_method_22_code 174 = .ok (.invokevirtual 135, 3) := by decide +kernel
theorem kd_prog_6_method_22_code_177 : decode prog_6_method_22_code 177 = .ok (.iload_n 2, 1) := by decide +kernel
theorem kd_prog_6_method_22_code_178 : decode prog_6_method_22_code 178 = .ok (.ifCond .ne 8, 3) := by decide +kernel
theorem kd_prog_6_method_22_code_181 : decode prog_6_method_22_code 181 = .ok (.iload 4, 2) := by decide +kernel
theorem kd_prog_6_method_22_code_183 : decode prog_6_method_22_code 183 = .ok (.ifCond .eq 7, 3) := by decide +kernel
theorem kd_prog_6_method_22_code_186 : decode prog_6_method_22_code 186 = .ok (.iconst 1, 1) := by decide +kernel
theorem kd_prog_6_method_22_code_187 : decode prog_6_method_22_code 187 = .ok (.goto 4, 3) := by decide +kernel
theorem kd_prog_6_method_22_code_190 : decode prog_6_method_22_code 190 = .ok (.iconst 0, 1) := by decide +kernel
theorem kd_prog_6_method_22_code_191 : decode prog_6_method_22_code 191 = .ok (.istore_n 2, 1) := by decide +kernel
theorem kd_prog_6_method_22_code_192 : decode prog_6_method_22_code 192 = .ok (.iconst 0, 1) := by decide +kernel
theorem kd_prog_6_method_22_code_193 : decode prog_6_method_22_code 193 = .ok (.istore 5, 2) := by decide +kernel
theorem kd_prog_6_method_22_code_195 : decode prog_6_method_22_code 195 = .ok (.iload 5, 2) := by decide +kernel
theorem kd_prog_6_method_22_code_197 : decode prog_6_method_22_code 197 = .ok (.aload_n 0, 1) := by decide +kernel
theorem kd_prog_6_method_22_code_198 : decode prog_6_method_22_code 198 = .ok (.getfield 78, 3) := by decide +kernel
theorem kd_prog_6_method_22_code_201 : decode prog_6_method_22_code 201 = .ok (.if_icmp .ge 60, 3) := by decide +kernel
theorem kd_prog_6_method_22_code_204 : decode prog_6_method_22_code 204 = .ok (.aload_n 0, 1) := by decide +kernel
theorem kd_prog_6_method_22_code_205 : decode prog_6_method_22_code 205 = .ok (.getfield 35, 3) := by decide +kernel
theorem kd_prog_6_method_22_code_208 : decode prog_6_method_22_code 208 = .ok (.bipush 16, 2) := by decide +kernel
theorem kd_prog_6_method_22_code_210 : decode prog_6_method_22_code 210 = .ok (.iload 5, 2) := by decide +kernel
theorem kd_prog_6_method_22_code_212 : decode prog_6_method_22_code 212 = .ok (.imul, 1) := by decide +kernel
theorem kd_prog_6_method_22_code_213 : decode prog_6_method_22_code 213 = .ok (.iload_n 3, 1) := by decide +kernel
theorem kd_prog_6_method_22_code_214 : decode prog_6_method_22_code 214 = .ok (.iadd, 1) := by decide +kernel
theorem kd_prog_6_method_22_code_215 : decode prog_6_method_22_code 215 = .ok (.dup2, 1) := by decide +kernel
theorem kd_prog_6_method_22_code_216 : decode prog_6_method_22_code 216 = .ok (.iaload, 1) := by decide +kernel
theorem kd_prog_6_method_22_code_217 : decode prog_6_method_22_code 217 = .ok (.aload_n 0, 1) := by decide +kernel
theorem kd_prog_6_method_22_code_218 : decode prog_6_method_22_code 218 = .ok (.iload 5, 2) := by decide +kernel
theorem kd_prog_6_method_22_code_220 : decode prog_6_method_22_code 220 = .ok (.iload_n 3, 1) := by decide +kernel
theorem kd_prog_6_method_22_code_221 : decode prog_6_method_22_code 221 = .ok (.invokevirtual 108, 3) := by decide +kernel
theorem kd_prog_6_method_22_code_224 : decode prog_6_method_22_code 224 = .ok (.ifCond .eq 28, 3) := by decide +kernel
theorem kd_prog_6_method_22_code_227 : decode prog_6_method_22_code 227 = .ok (.aload_n 0, 1) := by decide +kernel
theorem kd_prog_6_method_22_code_228 : decode prog_6_method_22_code 228 = .ok (.iload 5, 2) := by decide +kernel
theorem kd_prog_6_method_22_code_230 : decode prog_6_method_22_code 230 = .ok (.iload_n 3, 1) := by decide +kernel
theorem kd_prog_6_method_22_code_231 : decode prog_6_method_22_code 231 = .ok (.invokevirtual 118, 3) := by decide +kernel
theorem kd_prog_6_method_22_code_234 : decode prog_6_method_22_code 234 = .ok (.ifCond .eq 18, 3) := by decide +kernel
theorem kd_prog_6_method_22_code_237 : decode prog_6_method_22_code 237 = .ok (.aload_n 0, 1) := by decide +kernel
theorem kd_prog_6_method_22_code_238 : decode prog_6_method_22_code 238 = .ok (.getfield 59, 3) := by decide +kernel
theorem kd_prog_6_method_22_code_241 : decode prog_6_method_22_code 241 = .ok (.iload_n 3, 1) := by decide +kernel
theorem kd_prog_6_method_22_code_242 : decode prog_6_method_22_code 242 = .ok (.baload, 1) := by decide +kernel
theorem kd_prog_6_method_22_code_243 : decode prog_6_method_22_code 243 = .ok (.ifCond .ne 9, 3) := by decide +kernel
theorem kd_prog_6_method_22_code_246 : decode prog_6_method_22_code 246 = .ok (.iconst 1, 1) := by decide +kernel
theorem kd_prog_6_method_22_code_247 : decode prog_6_method_22_code 247 = .ok (.iload_n 1, 1) := by decide +kernel
theorem kd_prog_6_method_22_code_248 : decode prog_6_method_22_code 248 = .ok (.ishl, 1) := by decide +kernel
theorem kd_prog_6_method_22_code_249 : decode prog_6_method_22_code 249 = .ok (.goto 4, 3) := by decide +kernel
theorem kd_prog_6_method_22_code_252 : decode prog_6_method_22_code 252 = .ok (.iconst 0, 1) := by decide +kernel
theorem kd_prog_6_method_22_code_253 : decode prog_6_method_22_code 253 = .ok (.ior, 1) := by decide +kernel
theorem kd_prog_6_method_22_code_254 : decode prog_6_method_22_code 254 = .ok (.iastore, 1) := by decide +kernel
theorem kd_prog_6_method_22_code_255 : decode prog_6_method_22_code 255 = .ok (.iinc 5 1, 3) := by decide +kernel
theorem kd_prog_6_method_22_code_258 : decode prog_6_method_22_code 258 = .ok (.goto (-63), 3) := by decide +kernel
theorem kd_prog_6_method_22_code_261 : decode prog_6_method_22_code 261 = .ok (.iinc 3 1, 3) := by decide +kernel
theorem kd_prog_6_method_22_code_264 : decode prog_6_method_22_code 264 = .ok (.goto (-201), 3) := by decide +kernel
theorem kd_prog_6_method_22_code_267 : decode prog_6_method_22_code 267 = .ok (.aload_n 0, 1) := by decide +kernel
theorem kd_prog_6_method_22_code_268 : decode prog_6_method_22_code 268 = .ok (.getfield 35, 3) := by decide +kernel
theorem kd_prog_6_method_22_code_271 : decode prog_6_method_22_code 271 = .ok (.sipush 256, 3) := by decide +kernel
theorem kd_prog_6_method_22_code_274 : decode prog_6_method_22_code 274 = .ok (.dup2, 1) := by decide +kernel
theorem kd_prog_6_method_22_code_275 : decode prog_6_method_22_code 275 = .ok (.iaload, 1) := by decide +kernel
theorem kd_prog_6_method_22_code_276 : decode prog_6_method_22_code 276 = .ok (.aload_n 0, 1) := by decide +kernel
theorem kd_prog_6_method_22_code_277 : decode prog_6_method_22_code 277 = .ok (.iconst (-1), 1) := by decide +kernel
theorem kd_prog_6_method_22_code_278 : decode prog_6_method_22_code 278 = .ok (.iconst 0, 1) := by decide +kernel
theorem kd_prog_6_method_22_code_279 : decode prog_6_method_22_code 279 = .ok (.invokevirtual 118, 3) := by decide +kernel
theorem kd_prog_6_method_22_code_282 : decode prog_6_method_22_code 282 = .ok (.ifCond .eq 18, 3) := by decide +kernel
theorem kd_prog_6_method_22_code_285 : decode prog_6_method_22_code 285 = .ok (.aload_n 0, 1) := by decide +kernel
theorem kd_prog_6_method_22_code_286 : decode prog_6_method_22_code 286 = .ok (.getfield 59, 3) := by decide +kernel
theorem kd_prog_6_method_22_code_289 : decode prog_6_method_22_code 289 = .ok (.iconst 0, 1) := by decide +kernel
theorem kd_prog_6_method_22_code_290 : decode prog_6_method_22_code 290 = .ok (.baload, 1) := by decide +kernel
theorem kd_prog_6_method_22_code_291 : decode prog_6_method_22_code 291 = .ok (.ifCond .ne 9, 3) := by decide +kernel
theorem kd_prog_6_method_22_code_294 : decode prog_6_method_22_code 294 = .ok (.iconst 1, 1) := by decide +kernel
theorem kd_prog_6_method_22_code_295 : decode prog_6_method_22_code 295 = .ok (.iload_n 1, 1) := by decide +kernel
theorem kd_prog_6_method_22_code_296 : decode prog_6_method_22_code 296 = .ok (.ishl, 1) := by decide +kernel
theorem kd_prog_6_method_22_code_297 : decode prog_6_method_22_code 297 = .ok (.goto 4, 3) := by decide +kernel
theorem kd_prog_6_method_22_code_300 : decode prog_6_method_22_code 300 = .ok (.iconst 0, 1) := by decide +kernel
theorem kd_prog_6_method_22_code_301 : decode prog_6_method_22_code 301 = .ok (.ior, 1) := by decide +kernel
theorem kd_prog_6_method_22_code_302 : decode prog_6_method_22_code 302 = .ok (.iastore, 1) := by decide +kernel
theorem kd_prog_6_method_22_code_303 : decode prog_6_method_22_code 303 = .ok (.aload_n 0, 1) := by decide +kernel
theorem kd_prog_6_method_22_code_304 : decode prog_6_method_22_code 304 = .ok (.dup, 1) := by decide +kernel
theorem kd_prog_6_method_22_code_305 : decode prog_6_method_22_code 305 = .ok (.getfield 139, 3) := by decide +kernel
theorem kd_prog_6_method_22_code_308 : decode prog_6_method_22_code 308 = .ok (.iload_n 2, 1) := by decide +kernel
theorem kd_prog_6_method_22_code_309 : decode prog_6_method_22_code 309 = .ok (.ifCond .eq 9, 3) := by decide +kernel
theorem kd_prog_6_method_22_code_312 : decode prog_6_method_22_code 312 = .ok (.iconst 1, 1) := by decide +kernel
theorem kd_prog_6_method_22_code_313 : decode prog_6_method_22_code 313 = .ok (.iload_n 1, 1) := by decide +kernel
theorem kd_prog_6_method_22_code_314 : decode prog_6_method_22_code 314 = .ok (.ishl, 1) := by decide +kernel
theorem kd_prog_6_method_22_code_315 : decode prog_6_method_22_code 315 = .ok (.goto 4, 3) := by decide +kernel
theorem kd_prog_6_method_22_code_318 : decode prog_6_method_22_code 318 = .ok (.iconst 0, 1) := by decide +kernel
theorem kd_prog_6_method_22_code_319 : decode prog_6_method_22_code 319 = .ok (.ior, 1) := by decide +kernel
theorem kd_prog_6_method_22_code_320 : decode prog_6_method_22_code 320 = .ok (.putfield 139, 3) := by decide +kernel
theorem kd_prog_6_method_22_code_323 : decode prog_6_method_22_code 323 = .ok (.return_, 1) := by decide +kernel
theorem kd_prog_6_method_23_code_0 : decode prog_6_method_23_code 0 = .ok (.iconst 0, 1) := by decide +kernel
theorem kd_prog_6_method_23_code_1 : decode prog_6_method_23_code 1 = .ok (.istore_n 1, 1) := by decide +kernel
theorem kd_prog_6_method_23_code_2 : decode prog_6_method_23_code 2 = .ok (.iconst 0, 1) := by decide +kernel
theorem kd_prog_6_method_23_code_3 : decode prog_6_method_23_code 3 = .ok (.istore_n 2, 1) := by decide +kernel
theorem kd_prog_6_method_23_code_4 : decode prog_6_method_23_code 4 = .ok (.iload_n 2, 1) := by decide +kernel
theorem kd_prog_6_method_23_code_5 : decode prog_6_method_23_code 5 = .ok (.bipush 24, 2) := by decide +kernel
theorem kd_prog_6_method_23_code_7 : decode prog_6_method_23_code 7 = .ok (.if_icmp .ge 17, 3) := by decide +kernel
theorem kd_prog_6_method_23_code_10 : decode prog_6_method_23_code 10 = .ok (.iload_n 1, 1) := by decide +kernel
theorem kd_prog_6_method_23_code_11 : decode prog_6_method_23_code 11 = .ok (.iload_n 0, 1) := by decide +kernel
theorem kd_prog_6_method_23_code_12 : decode prog_6_method_23_code 12 = .ok (.iload_n 2, 1) := by decide +kernel
theorem kd_prog_6_method_23_code_13 : decode prog_6_method_23_code 13 = .ok (.ishr, 1) := by decide +kernel
theorem kd_prog_6_method_23_code_14 : decode prog_6_method_23_code 14 = .ok (.iconst 1, 1) := by decide +kernel
theorem kd_prog_6_method_23_code_15 : decode prog_6_method_23_code 15 = .ok (.iand, 1) := by decide +kernel
theorem kd_prog_6_method_23_code_16 : decode prog_6_method_23_code 16 = .ok (.iadd, 1) := by decide +kernel
theorem kd_prog_6_method_23_code_17 : decode prog_6_method_23_code 17 = .ok (.istore_n 1, 1) := by decide +kernel
theorem kd_prog_6_method_23_code_18 : decode prog_6_method_23_code 18 = .ok (.iinc 2 1, 3) := by decide +kernel
theorem kd_prog_6_method_23_code_21 : decode prog_6_method_23_code 21 = .ok (.goto (-17), 3) := by decide +kernel
theorem kd_prog_6_method_23_code_24 : decode prog_6_method_23_code 24 = .ok (.iload_n 1, 1) := by decide +kernel
theorem kd_prog_6_method_23_code_25 : decode prog_6_method_23_code 25 = .ok (.ireturn, 1) := by decide +kernel
theorem kd_prog_6_method_24_code_0 : decode prog_6_method_24_code 0 = .ok (.aload_n 0, 1) := by decide +kernel
theorem kd_prog_6_method_24_code_1 : decode prog_6_method_24_code 1 = .ok (.iconst 0, 1) := by decide +kernel
theorem kd_prog_6_method_24_code_2 : decode prog_6_method_24_code 2 = .ok (.putfield 74, 3) := by decide +kernel
theorem kd_prog_6_method_24_code_5 : decode prog_6_method_24_code 5 = .ok (.aload_n 0, 1) := by decide +kernel
theorem kd_prog_6_method_24_code_6 : decode prog_6_method_24_code 6 = .ok (.getfield 78, 3) := by decide +kernel
theorem kd_prog_6_method_24_code_9 : decode prog_6_method_24_code 9 = .ok (.ifCond .ne 9, 3) := by decide +kernel
theorem kd_prog_6_method_24_code_12 : decode prog_6_method_24_code 12 = .ok (.aload_n 0, 1) := by decide +kernel
theorem kd_prog_6_method_24_code_13 : decode prog_6_method_24_code 13 = .ok (.iconst 1, 1) := by decide +kernel
theorem kd_prog_6_method_24_code_14 : decode prog_6_method_24_code 14 = .ok (.invokevirtual 81, 3) := by decide +kernel
theorem kd_prog_6_method_24_code_17 : decode prog_6_method_24_code 17 = .ok (.ireturn, 1) := by decide +kernel
theorem kd_prog_6_method_24_code_18 : decode prog_6_method_24_code 18 = .ok (.aload_n 0, 1) := by decide +kernel
theorem kd_prog_6_method_24_code_19 : decode prog_6_method_24_code 19 = .ok (.invokevirtual 142, 3) := by decide +kernel
theorem kd_prog_6_method_24_code_22 : decode prog_6_method_24_code 22 = .ok (.ifCond .ne 9, 3) := by decide +kernel
theorem kd_prog_6_method_24_code_25 : decode prog_6_method_24_code 25 = .ok (.aload_n 0, 1) := by decide +kernel
theorem kd_prog_6_method_24_code_26 : decode prog_6_method_24_code 26 = .ok (.iconst 2, 1) := by decide +kernel
theorem kd_prog_6_method_24_code_27 : decode prog_6_method_24_code 27 = .ok (.invokevirtual 81, 3) := by decide +kernel
theorem kd_prog_6_method_24_code_30 : decode prog_6_method_24_code 30 = .ok (.ireturn, 1) := by decide +kernel
theorem kd_prog_6_method_24_code_31 : decode prog_6_method_24_code 31 = .ok (.aload_n 0, 1) := by decide +kernel
theorem kd_prog_6_method_24_code_32 : decode prog_6_method_24_code 32 = .ok (.invokevirtual 146, 3) := by decide +kernel
theorem kd_prog_6_method_24_code_35 : decode prog_6_method_24_code 35 = .ok (.aload_n 0, 1) := by decide +kernel
theorem kd_prog_6_method_24_code_36 : decode prog_6_method_24_code 36 = .ok (.iconst 0, 1) := by decide +kernel
theorem kd_prog_6_method_24_code_37 : decode prog_6_method_24_code 37 = .ok (.putfield 139, 3) := by decide +kernel
theorem kd_prog_6_method_24_code_40 : decode prog_6_method_24_code 40 = .ok (.iconst 0, 1) := by decide +kernel
theorem kd_prog_6_method_24_code_41 : decode prog_6_method_24_code 41 = .ok (.istore_n 1, 1) := by decide +kernel
theorem kd_prog_6_method_24_code_42 : decode prog_6_method_24_code 42 = .ok (.iload_n 1, 1) := by decide +kernel
theorem kd_prog_6_method_24_code_43 : decode prog_6_method_24_code 43 = .ok (.bipush 96, 2) := by decide +kernel
theorem kd_prog_6_method_24_code_45 : decode prog_6_method_24_code 45 = .ok (.if_icmp .ge 16, 3) := by decide +kernel
theorem kd_prog_6_method_24_code_48 : decode prog_6_method_24_code 48 = .ok (.aload_n 0, 1) := by decide +kernel
theorem kd_prog_6_method_24_code_49 : decode prog_6_method_24_code 49 = .ok (.getfield 32, 3) := by decide +kernel
theorem kd_prog_6_method_24_code_52 : decode prog_6_method_24_code 52 = .ok (.iload_n 1, 1) := by decide +kernel
theorem kd_prog_6_method_24_code_53 : decode prog_6_method_24_code 53 = .ok (.iconst 0, 1) := by decide +kernel
theorem kd_prog_6_method_24_code_54 : decode prog_6_method_24_code 54 = .ok (.iastore, 1) := by decide +kernel
theorem kd_prog_6_method_24_code_55 : decode prog_6_method_24_code 55 = .ok (.iinc 1 1, 3) := by decide +kernel
theorem kd_prog_6_method_24_code_58 : decode prog_6_method_24_code 58 = .ok (.goto (-16), 3) := by decide +kernel
theorem kd_prog_6_method_24_code_61 : decode prog_6_method_24_code 61 = .ok (.iconst 0, 1) := by decide +kernel
theorem kd_prog_6_method_24_code_62 : decode prog_6_method_24_code 62 = .ok (.istore_n 1, 1) := by decide +kernel
theorem kd_prog_6_method_24_code_63 : decode prog_6_method_24_code 63 = .ok (.iload_n 1, 1) := by decide +kernel
theorem kd_prog_6_method_24_code_64 : decode prog_6_method_24_code 64 = .ok (.sipush 257, 3) := by decide +kernel
theorem kd_prog_6_method_24_code_67 : decode prog_6_method_24_code 67 = .ok (.if_icmp .ge 16, 3) := by decide +kernel
theorem kd_prog_6_method_24_code_70 : decode prog_6_method_24_code 70 = .ok (.aload_n 0, 1) := by decide +kernel
theorem kd_prog_6_method_24_code_71 : decode prog_6_method_24_code 71 = .ok (.getfield 35, 3) := by decide +kernel
theorem kd_prog_6_method_24_code_74 : decode prog_6_method_24_code 74 = .ok (.iload_n 1, 1) := by decide +kernel
theorem kd_prog_6_method_24_code_75 : decode prog_6_method_24_code 75 = .ok (.iconst 0, 1) := by decide +kernel
theorem kd_prog_6_method_24_code_76 : decode prog_6_method_24_code 76 = .ok (.iastore, 1) := by decide +kernel
theorem kd_prog_6_method_24_code_77 : decode prog_6_method_24_code 77 = .ok (.iinc 1 1, 3) := by decide +kernel
theorem kd_prog_6_method_24_code_80 : decode prog_6_method_24_code 80 = .ok (.goto (-17), 3) := by decide +kernel
theorem kd_prog_6_method_24_code_83 : decode prog_6_method_24_code 83 = .ok (.iconst 0, 1) := by decide +kernel
theorem kd_prog_6_method_24_code_84 : decode prog_6_method_24_code 84 = .ok (.istore_n 1, 1) := by decide +kernel
theorem kd_prog_6_method_24_code_85 : decode prog_6_method_24_code 85 = .ok (.iload_n 1, 1) := by decide +kernel
theorem kd_prog_6_method_24_code_86 : decode prog_6_method_24_code 86 = .ok (.aload_n 0, 1) := by decide +kernel
theorem kd_prog_6_method_24_code_87 : decode prog_6_method_24_code 87 = .ok (.getfield 89, 3) := by decide +kernel
theorem kd_prog_6_method_24_code_90 : decode prog_6_method_24_code 90 = .ok (.if_icmp .ge 14, 3) := by decide +kernel
theorem kd_prog_6_method_24_code_93 : decode prog_6_method_24_code 93 = .ok (.aload_n 0, 1) := by decide +kernel
theorem kd_prog_6_method_24_code_94 : decode prog_6_method_24_code 94 = .ok (.iload_n 1, 1) := by decide +kernel
theorem kd_prog_6_method_24_code_95 : decode prog_6_method_24_code 95 = .ok (.invokevirtual 149, 3) := by decide +kernel
theorem kd_prog_6_method_24_code_98 : decode prog_6_method_24_code 98 = .ok (.iinc 1 1, 3) := by decide +kernel
theorem kd_prog_6_method_24_code_101 : decode prog_6_method_24_code 101 = .ok (.goto (-16), 3) := by decide +kernel
theorem kd_prog_6_method_24_code_104 : decode prog_6_method_24_code 104 = .ok (.aload_n 0, 1) := by decide +kernel
theorem kd_prog_6_method_24_code_105 : decode prog_6_method_24_code 105 = .ok (.iconst 1, 1) := by decide +kernel
theorem kd_prog_6_method_24_code_106 : decode prog_6_method_24_code 106 = .ok (.putfield 85, 3) := by decide +kernel
theorem kd_prog_6_method_24_code_109 : decode prog_6_method_24_code 109 = .ok (.aload_n 0, 1) := by decide +kernel
theorem kd_prog_6_method_24_code_110 : decode prog_6_method_24_code 110 = .ok (.dup, 1) := by decide +kernel
theorem kd_prog_6_method_24_code_111 : decode prog_6_method_24_code 111 = .ok (.getfield 152, 3) := by decide +kernel
theorem kd_prog_6_method_24_code_114 : decode prog_6_method_24_code 114 = .ok (.iconst 1, 1) := by decide +kernel
theorem kd_prog_6_method_24_code_115 : decode prog_6_method_24_code 115 = .ok (.iadd, 1) := by decide +kernel
theorem kd_prog_6_method_24_code_116 : decode prog_6_method_24_code 116 = .ok (.putfield 152, 3) := by decide +kernel
theorem kd_prog_6_method_24_code_119 : decode prog_6_method_24_code 119 = .ok (.aload_n 0, 1) := by decide +kernel
theorem kd_prog_6_method_24_code_120 : decode prog_6_method_24_code 120 = .ok (.getfield 139, 3) := by decide +kernel
theorem kd_prog_6_method_24_code_123 : decode prog_6_method_24_code 123 = .ok (.invokestatic 154, 3) := by decide +kernel
theorem kd_prog_6_method_24_code_126 : decode prog_6_method_24_code 126 = .ok (.ireturn, 1) := by decide +kernel
theorem kd_prog_6_method_25_code_0 : decode prog_6_method_25_code 0 = .ok (.aload_n 0, 1) := by decide +kernel
theorem kd_prog_6_method_25_code_1 : decode prog_6_method_25_code 1 = .ok (.iconst 0, 1) := by decide +kernel
theorem kd_prog_6_method_25_code_2 : decode prog_6_method_25_code 2 = .ok (.putfield 74, 3) := by decide +kernel
theorem kd_prog_6_method_25_code_5 : decode prog_6_method_25_code 5 = .ok (.aload_n 0, 1) := by decide +kernel
theorem kd_prog_6_method_25_code_6 : decode prog_6_method_25_code 6 = .ok (.getfield 85, 3) := by decide +kernel
theorem kd_prog_6_method_25_code_9 : decode prog_6_method_25_code 9 = .ok (.ifCond .ne 10, 3) := by decide +kernel
theorem kd_prog_6_method_25_code_12 : decode prog_6_method_25_code 12 = .ok (.aload_n 0, 1) := by decide +kernel
theorem kd_prog_6_method_25_code_13 : decode prog_6_method_25_code 13 = .ok (.iconst 1, 1) := by decide +kernel
theorem kd_prog_6_method_25_code_14 : decode prog_6_method_25_code 14 = .ok (.invokevirtual 81, 3) := by decide +kernel
theorem kd_prog_6_method_25_code_17 : decode prog_6_method_25_code 17 = .ok (.i2l, 1) := by decide +kernel
theorem kd_prog_6_method_25_code_18 : decode prog_6_method_25_code 18 = .ok (.lreturn, 1) := by decide +kernel
theorem kd_prog_6_method_25_code_19 : decode prog_6_method_25_code 19 = .ok (.iload_n 1, 1) := by decide +kernel
theorem kd_prog_6_method_25_code_20 : decode prog_6_method_25_code 20 = .ok (.iconst 0, 1) := by decide +kernel
theorem kd_prog_6_method_25_code_21 : decode prog_6_method_25_code 21 = .ok (.aload_n 0, 1) := by decide +kernel
theorem kd_prog_6_method_25_code_22 : decode prog_6_method_25_code 22 = .ok (.getfield 78, 3) := by decide +kernel
theorem kd_prog_6_method_25_code_25 : decode prog_6_method_25_code 25 = .ok (.iconst 1, 1) := by decide +kernel
theorem kd_prog_6_method_25_code_26 : decode prog_6_method_25_code 26 = .ok (.isub, 1) := by decide +kernel
theorem kd_prog_6_method_25_code_27 : decode prog_6_method_25_code 27 = .ok (.invokestatic 92, 3) := by decide +kernel
theorem kd_prog_6_method_25_code_30 : decode prog_6_method_25_code 30 = .ok (.ifCond .eq 27, 3) := by decide +kernel
theorem kd_prog_6_method_25_code_33 : decode prog_6_method_25_code 33 = .ok (.iload_n 2, 1) := by decide +kernel
theorem kd_prog_6_method_25_code_34 : decode prog_6_method_25_code 34 = .ok (.iconst 0, 1) := by decide +kernel
theorem kd_prog_6_method_25_code_35 : decode prog_6_method_25_code 35 = .ok (.iconst 5, 1) := by decide +kernel
theorem kd_prog_6_method_25_code_36 : decode prog_6_method_25_code 36 = .ok (.invokestatic 92, 3) := by decide +kernel
theorem kd_prog_6_method_25_code_39 : decode prog_6_method_25_code 39 = .ok (.ifCond .eq 18, 3) := by decide +kernel
theorem kd_prog_6_method_25_code_42 : decode prog_6_method_25_code 42 = .ok (.aload_n 0, 1) := by decide +kernel
theorem kd_prog_6_method_25_code_43 : decode prog_6_method_25_code 43 = .ok (.getfield 32, 3) := by decide +kernel
theorem kd_prog_6_method_25_code_46 : decode prog_6_method_25_code 46 = .ok (.bipush 6, 2) := by decide +kernel
theorem kd_prog_6_method_25_code_48 : decode prog_6_method_25_code 48 = .ok (.iload_n 1, 1) := by decide +kernel
theorem kd_prog_6_method_25_code_49 : decode prog_6_method_25_code 49 = .ok (.imul, 1) := by decide +kernel
theorem kd_prog_6_method_25_code_50 : decode prog_6_method_25_code 50 = .ok (.iload_n 2, 1) := by decide +kernel
theorem kd_prog_6_method_25_code_51 : decode prog_6_method_25_code 51 = .ok (.iadd, 1) := by decide +kernel
theorem kd_prog_6_method_25_code_52 : decode prog_6_method_25_code 52 = .ok (.iaload, 1) := by decide +kernel
theorem kd_prog_6_method_25_code_53 : decode prog_6_method_25_code 53 = .ok (.i2l, 1) := by decide +kernel
theorem kd_prog_6_method_25_code_54 : decode prog_6_method_25_code 54 = .ok (.goto 9, 3) := by decide +kernel
theorem kd_prog_6_method_25_code_57 : decode prog_6_method_25_code 57 = .ok (.aload_n 0, 1) := by decide +kernel
theorem kd_prog_6_method_25_code_58 : decode prog_6_method_25_code 58 = .ok (.iconst 2, 1) := by decide +kernel
theorem kd_prog_6_method_25_code_59 : decode prog_6_method_25_code 59 = .ok (.invokevirtual 81, 3) := by decide +kernel
theorem kd_prog_6_method_25_code_62 : decode prog_6_method_25_code 62 = .ok (.i2l, 1) := by decide +kernel
theorem kd_prog_6_method_25_code_63 : decode prog_6_method_25_code 63 = .ok (.lreturn, 1) := by decide +kernel
theorem kd_prog_6_method_26_code_0 : decode prog_6_method_26_code 0 = .ok (.iload_n 1, 1) := by decide +kernel
theorem kd_prog_6_method_26_code_1 : decode prog_6_method_26_code 1 = .ok (.iconst (-1), 1) := by decide +kernel
theorem kd_prog_6_method_26_code_2 : decode prog_6_method_26_code 2 = .ok (.if_icmp .ne 13, 3) := by decide +kernel
theorem kd_prog_6_method_26_code_5 : decode prog_6_method_26_code 5 = .ok (.iload_n 2, 1) := by decide +kernel
theorem kd_prog_6_method_26_code_6 : decode prog_6_method_26_code 6 = .ok (.ifCond .ne 7, 3) := by decide +kernel
theorem kd_prog_6_method_26_code_9 : decode prog_6_method_26_code 9 = .ok (.iconst 1, 1) := by decide +kernel
theorem kd_prog_6_method_26_code_10 : decode prog_6_method_26_code 10 = .ok (.goto 4, 3) := by decide +kernel
theorem kd_prog_6_method_26_code_13 : decode prog_6_method_26_code 13 = .ok (.iconst 0, 1) := by decide +kernel
theorem kd_prog_6_method_26_code_14 : decode prog_6_method_26_code 14 = .ok (.ireturn, 1) := by decide +kernel
theorem kd_prog_6_method_26_code_15 : decode prog_6_method_26_code 15 = .ok (.iload_n 1, 1) := by decide +kernel
theorem kd_prog_6_method_26_code_16 : decode prog_6_method_26_code 16 = .ok (.iconst 0, 1) := by decide +kernel
theorem kd_prog_6_method_26_code_17 : decode prog_6_method_26_code 17 = .ok (.aload_n 0, 1) := by decide +kernel
theorem kd_prog_6_method_26_code_18 : decode prog_6_method_26_code 18 = .ok (.getfield 78, 3) := by decide +kernel
theorem kd_prog_6_method_26_code_21 : decode prog_6_method_26_code 21 = .ok (.iconst 1, 1) := by decide +kernel
theorem kd_prog_6_method_26_code_22 : decode prog_6_method_26_code 22 = .ok (.isub, 1) := by decide +kernel
theorem kd_prog_6_method_26_code_23 : decode prog_6_method_26_code 23 = .ok (.invokestatic 92, 3) := by decide +kernel
theorem kd_prog_6_method_26_code_26 : decode prog_6_method_26_code 26 = .ok (.ifCond .eq 30, 3) := by decide +kernel
theorem kd_prog_6_method_26_code_29 : decode prog_6_method_26_code 29 = .ok (.iload_n 2, 1) := by decide +kernel
theorem kd_prog_6_method_26_code_30 : decode prog_6_method_26_code 30 = .ok (.iconst 0, 1) := by decide +kernel
theorem kd_prog_6_method_26_code_31 : decode prog_6_method_26_code 31 = .ok (.aload_n 0, 1) := by decide +kernel
theorem kd_prog_6_method_26_code_32 : decode prog_6_method_26_code 32 = .ok (.getfield 78, 3) := by decide +kernel
theorem kd_prog_6_method_26_code_35 : decode prog_6_method_26_code 35 = .ok (.iconst 1, 1) := by decide +kernel
theorem kd_prog_6_method_26_code_36 : decode prog_6_method_26_code 36 = .ok (.isub, 1) := by decide +kernel
theorem kd_prog_6_method_26_code_37 : decode prog_6_method_26_code 37 = .ok (.invokestatic 92, 3) := by decide +kernel
theorem kd_prog_6_method_26_code_40 : decode prog_6_method_26_code 40 = .ok (.ifCond .eq 16, 3) := by decide +kernel
theorem kd_prog_6_method_26_code_43 : decode prog_6_method_26_code 43 = .ok (.aload_n 0, 1) := by decide +kernel
theorem kd_prog_6_method_26_code_44 : decode prog_6_method_26_code 44 = .ok (.iload_n 1, 1) := by decide +kernel
theorem kd_prog_6_method_26_code_45 : decode prog_6_method_26_code 45 = .ok (.iload_n 2, 1) := by decide +kernel
theorem kd_prog_6_method_26_code_46 : decode prog_6_method_26_code 46 = .ok (.invokevirtual 108, 3) := by decide +kernel
theorem kd_prog_6_method_26_code_49 : decode prog_6_method_26_code 49 = .ok (.ifCond .eq 7, 3) := by decide +kernel
theorem kd_prog_6_method_26_code_52 : decode prog_6_method_26_code 52 = .ok (.iconst 1, 1) := by decide +kernel
theorem kd_prog_6_method_26_code_53 : decode prog_6_method_26_code 53 = .ok (.goto 4, 3) := by decide +kernel
theorem kd_prog_6_method_26_code_56 : decode prog_6_method_26_code 56 = .ok (.iconst 0, 1) := by decide +kernel
theorem kd_prog_6_method_26_code_57 : decode prog_6_method_26_code 57 = .ok (.ireturn, 1) := by decide +kernel
theorem kd_prog_6_method_27_code_0 : decode prog_6_method_27_code 0 = .ok (.aload_n 0, 1) := by decide +kernel
theorem kd_prog_6_method_27_code_1 : decode prog_6_method_27_code 1 = .ok (.iconst 0, 1) := by decide +kernel
theorem kd_prog_6_method_27_code_2 : decode prog_6_method_27_code 2 = .ok (.putfield 74, 3) := by decide +kernel
theorem kd_prog_6_method_27_code_5 : decode prog_6_method_27_code 5 = .ok (.aload_n 0, 1) := by decide +kernel
theorem kd_prog_6_method_27_code_6 : decode prog_6_method_27_code 6 = .ok (.getfield 85, 3) := by decide +kernel
theorem kd_prog_6_method_27_code_9 : decode prog_6_method_27_code 9 = .ok (.ifCond .ne 10, 3) := by decide +kernel
theorem kd_prog_6_method_27_code_12 : decode prog_6_method_27_code 12 = .ok (.aload_n 0, 1) := by decide +kernel
theorem kd_prog_6_method_27_code_13 : decode prog_6_method_27_code 13 = .ok (.iconst 1, 1) := by decide +kernel
theorem kd_prog_6_method_27_code_14 : decode prog_6_method_27_code 14 = .ok (.invokevirtual 81, 3) := by decide +kernel
theorem kd_prog_6_method_27_code_17 : decode prog_6_method_27_code 17 = .ok (.i2l, 1) := by decide +kernel
theorem kd_prog_6_method_27_code_18 : decode prog_6_method_27_code 18 = .ok (.lreturn, 1) := by decide +kernel
theorem kd_prog_6_method_27_code_19 : decode prog_6_method_27_code 19 = .ok (.aload_n 0, 1) := by decide +kernel
theorem kd_prog_6_method_27_code_20 : decode prog_6_method_27_code 20 = .ok (.iload_n 1, 1) := by decide +kernel
theorem kd_prog_6_method_27_code_21 : decode prog_6_method_27_code 21 = .ok (.iload_n 2, 1) := by decide +kernel
theorem kd_prog_6_method_27_code_22 : decode prog_6_method_27_code 22 = .ok (.invokevirtual 157, 3) := by decide +kernel
theorem kd_prog_6_method_27_code_25 : decode prog_6_method_27_code 25 = .ok (.ifCond .eq 28, 3) := by decide +kernel
theorem kd_prog_6_method_27_code_28 : decode prog_6_method_27_code 28 = .ok (.aload_n 0, 1) := by decide +kernel
theorem kd_prog_6_method_27_code_29 : decode prog_6_method_27_code 29 = .ok (.getfield 35, 3) := by decide +kernel
theorem kd_prog_6_method_27_code_32 : decode prog_6_method_27_code 32 = .ok (.iload_n 1, 1) := by decide +kernel
theorem kd_prog_6_method_27_code_33 : decode prog_6_method_27_code 33 = .ok (.ifCond .ge 9, 3) := by decide +kernel
theorem kd_prog_6_method_27_code_36 : decode prog_6_method_27_code 36 = .ok (.sipush 256, 3) := by decide +kernel
theorem kd_prog_6_method_27_code_39 : decode prog_6_method_27_code 39 = .ok (.goto 9, 3) := by decide +kernel
theorem kd_prog_6_method_27_code_42 : decode prog_6_method_27_code 42 = .ok (.bipush 16, 2) := by decide +kernel
theorem kd_prog_6_method_27_code_44 : decode prog_6_method_27_code 44 = .ok (.iload_n 1, 1) := by decide +kernel
theorem kd_prog_6_method_27_code_45 : decode prog_6_method_27_code 45 = .ok (.imul, 1) := by decide +kernel
theorem kd_prog_6_method_27_code_46 : decode prog_6_method_27_code 46 = .ok (.iload_n 2, 1) := by decide +kernel
theorem kd_prog_6_method_27_code_47 : decode prog_6_method_27_code 47 = .ok (.iadd, 1) := by decide +kernel
theorem kd_prog_6_method_27_code_48 : decode prog_6_method_27_code 48 = .ok (.iaload, 1) := by decide +kernel
theorem kd_prog_6_method_27_code_49 : decode prog_6_method_27_code 49 = .ok (.i2l, 1) := by decide +kernel
theorem kd_prog_6_method_27_code_50 : decode prog_6_method_27_code 50 = .ok (.goto 9, 3) := by decide +kernel
theorem kd_prog_6_method_27_code_53 : decode prog_6_method_27_code 53 = .ok (.aload_n 0, 1) := by decide +kernel
theorem kd_prog_6_method_27_code_54 : decode prog_6_method_27_code 54 = .ok (.iconst 2, 1) := by decide +kernel
theorem kd_prog_6_method_27_code_55 : decode prog_6_method_27_code 55 = .ok (.invokevirtual 81, 3) := by decide +kernel
theorem kd_prog_6_method_27_code_58 : decode prog_6_method_27_code 58 = .ok (.i2l, 1) := by decide +kernel
theorem kd_prog_6_method_27_code_59 : decode prog_6_method_27_code 59 = .ok (.lreturn, 1) := by decide +kernel
theorem kd_prog_6_method_28_code_0 : decode prog_6_method_28_code 0 = .ok (.aload_n 0, 1) := by decide +kernel
theorem kd_prog_6_method_28_code_1 : decode prog_6_method_28_code 1 = .ok (.iconst 0, 1) := by decide +kernel
theorem kd_prog_6_method_28_code_2 : decode prog_6_method_28_code 2 = .ok (.putfield 74, 3) := by decide +kernel
theorem kd_prog_6_method_28_code_5 : decode prog_6_method_28_code 5 = .ok (.aload_n 0, 1) := by decide +kernel
theorem kd_prog_6_method_28_code_6 : decode prog_6_method_28_code 6 = .ok (.iload_n 1, 1) := by decide +kernel
theorem kd_prog_6_method_28_code_7 : decode prog_6_method_28_code 7 = .ok (.iload_n 2, 1) := by decide +kernel
theorem kd_prog_6_method_28_code_8 : decode prog_6_method_28_code 8 = .ok (.iload_n 3, 1) := by decide +kernel
theorem kd_prog_6_method_28_code_9 : decode prog_6_method_28_code 9 = .ok (.invokevirtual 96, 3) := by decide +kernel
theorem kd_prog_6_method_28_code_12 : decode prog_6_method_28_code 12 = .ok (.istore 4, 2) := by decide +kernel
theorem kd_prog_6_method_28_code_14 : decode prog_6_method_28_code 14 = .ok (.iload 4, 2) := by decide +kernel
theorem kd_prog_6_method_28_code_16 : decode prog_6_method_28_code 16 = .ok (.ifCond .ge 11, 3) := by decide +kernel
theorem kd_prog_6_method_28_code_19 : decode prog_6_method_28_code 19 = .ok (.aload_n 0, 1) := by decide +kernel
theorem kd_prog_6_method_28_code_20 : decode prog_6_method_28_code 20 = .ok (.iconst 1, 1) := by decide +kernel
theorem kd_prog_6_method_28_code_21 : decode prog_6_method_28_code 21 = .ok (.invokevirtual 81, 3) := by decide +kernel
theorem kd_prog_6_method_28_code_24 : decode prog_6_method_28_code 24 = .ok (.goto 5, 3) := by decide +kernel
theorem kd_prog_6_method_28_code_27 : decode prog_6_method_28_code 27 = .ok (.iload 4, 2) := by decide +kernel
theorem kd_prog_6_method_28_code_29 : decode prog_6_method_28_code 29 = .ok (.ireturn, 1) := by decide +kernel
theorem kd_prog_6_method_29_code_0 : decode prog_6_method_29_code 0 = .ok (.aload_n 0, 1) := by decide +kernel
theorem kd_prog_6_method_29_code_1 : decode prog_6_method_29_code 1 = .ok (.getfield 62, 3) := by decide +kernel
theorem kd_prog_6_method_29_code_4 : decode prog_6_method_29_code 4 = .ok (.aload_n 0, 1) := by decide +kernel
theorem kd_prog_6_method_29_code_5 : decode prog_6_method_29_code 5 = .ok (.getfield 19, 3) := by decide +kernel
theorem kd_prog_6_method_29_code_8 : decode prog_6_method_29_code 8 = .ok (.iload_n 1, 1) := by decide +kernel
theorem kd_prog_6_method_29_code_9 : decode prog_6_method_29_code 9 = .ok (.iaload, 1) := by decide +kernel
theorem kd_prog_6_method_29_code_10 : decode prog_6_method_29_code 10 = .ok (.iaload, 1) := by decide +kernel
theorem kd_prog_6_method_29_code_11 : decode prog_6_method_29_code 11 = .ok (.istore_n 2, 1) := by decide +kernel
theorem kd_prog_6_method_29_code_12 : decode prog_6_method_29_code 12 = .ok (.aload_n 0, 1) := by decide +kernel
theorem kd_prog_6_method_29_code_13 : decode prog_6_method_29_code 13 = .ok (.getfield 62, 3) := by decide +kernel
theorem kd_prog_6_method_29_code_16 : decode prog_6_method_29_code 16 = .ok (.aload_n 0, 1) := by decide +kernel
theorem kd_prog_6_method_29_code_17 : decode prog_6_method_29_code 17 = .ok (.getfield 25, 3) := by decide +kernel
theorem kd_prog_6_method_29_code_20 : decode prog_6_method_29_code 20 = .ok (.iload_n 1, 1) := by decide +kernel
theorem kd_prog_6_method_29_code_21 : decode prog_6_method_29_code 21 = .ok (.iaload, 1) := by decide +kernel
theorem kd_prog_6_method_29_code_22 : decode prog_6_method_29_code 22 = .ok (.iaload, 1) := by decide +kernel
theorem kd_prog_6_method_29_code_23 : decode prog_6_method_29_code 23 = .ok (.istore_n 3, 1) := by decide +kernel
theorem kd_prog_6_method_29_code_24 : decode prog_6_method_29_code 24 = .ok (.aload_n 0, 1) := by decide +kernel
theorem kd_prog_6_method_29_code_25 : decode prog_6_method_29_code 25 = .ok (.getfield 22, 3) := by decide +kernel
theorem kd_prog_6_method_29_code_28 : decode prog_6_method_29_code 28 = .ok (.iload_n 1, 1) := by decide +kernel
theorem kd_prog_6_method_29_code_29 : decode prog_6_method_29_code 29 = .ok (.iaload, 1) := by decide +kernel
theorem kd_prog_6_method_29_code_30 : decode prog_6_method_29_code 30 = .ok (.istore 4, 2) := by decide +kernel
theorem kd_prog_6_method_29_code_32 : decode prog_6_method_29_code 32 = .ok (.aload_n 0, 1) := by decide +kernel
theorem kd_prog_6_method_29_code_33 : decode prog_6_method_29_code 33 = .ok (.dup, 1) := by decide +kernel
theorem kd_prog_6_method_29_code_34 : decode prog_6_method_29_code 34 = .ok (.getfield 160, 3) := by decide +kernel
theorem kd_prog_6_method_29_code_37 : decode prog_6_method_29_code 37 = .ok (.iconst 1, 1) := by decide +kernel
theorem kd_prog_6_method_29_code_38 : decode prog_6_method_29_code 38 = .ok (.iadd, 1) := by decide +kernel
theorem kd_prog_6_method_29_code_39 : decode prog_6_method_29_code 39 = .ok (.putfield 160, 3) := by decide +kernel
theorem kd_prog_6_method_29_code_42 : decode prog_6_method_29_code 42 = .ok (.aload_n 0, 1) := by decide +kernel
theorem kd_prog_6_method_29_code_43 : decode prog_6_method_29_code 43 = .ok (.getfield 68, 3) := by decide +kernel
theorem kd_prog_6_method_29_code_46 : decode prog_6_method_29_code 46 = .ok (.iload_n 1, 1) := by decide +kernel
theorem kd_prog_6_method_29_code_47 : decode prog_6_method_29_code 47 = .ok (.dup2, 1) := by decide +kernel
theorem kd_prog_6_method_29_code_48 : decode prog_6_method_29_code 48 = .ok (.iaload, 1) := by decide +kernel
theorem kd_prog_6_method_29_code_49 : decode prog_6_method_29_code 49 = .ok (.iconst 1, 1) := by decide +kernel
theorem kd_prog_6_method_29_code_50 : decode prog_6_method_29_code 50 = .ok (.iadd, 1) := by decide +kernel
theorem kd_prog_6_method_29_code_51 : decode prog_6_method_29_code 51 = .ok (.iastore, 1) := by decide +kernel
theorem kd_prog_6_method_29_code_52 : decode prog_6_method_29_code 52 = .ok (.iload 4, 2) := by decide +kernel
theorem kd_prog_6_method_29_code_54 : decode prog_6_method_29_code 54 = .ok (.ifCond .ne 9, 3) := by decide +kernel
theorem kd_prog_6_method_29_code_57 : decode prog_6_method_29_code 57 = .ok (.iload_n 2, 1) := by decide +kernel
theorem kd_prog_6_method_29_code_58 : decode prog_6_method_29_code 58 = .ok (.iload_n 3, 1) := by decide +kernel
theorem kd_prog_6_method_29_code_59 : decode prog_6_method_29_code 59 = .ok (.iadd, 1) := by decide +kernel
theorem kd_prog_6_method_29_code_60 : decode prog_6_method_29_code 60 = .ok (.goto 49, 3) := by decide +kernel
theorem kd_prog_6_method_29_code_63 : decode prog_6_method_29_code 63 = .ok (.iload 4, 2) := by decide +kernel
theorem kd_prog_6_method_29_code_65 : decode prog_6_method_29_code 65 = .ok (.iconst 1, 1) := by decide +kernel
theorem kd_prog_6_method_29_code_66 : decode prog_6_method_29_code 66 = .ok (.if_icmp .ne 9, 3) := by decide +kernel
theorem kd_prog_6_method_29_code_69 : decode prog_6_method_29_code 69 = .ok (.iload_n 2, 1) := by decide +kernel
theorem kd_prog_6_method_29_code_70 : decode prog_6_method_29_code 70 = .ok (.iload_n 3, 1) := by decide +kernel
theorem kd_prog_6_method_29_code_71 : decode prog_6_method_29_code 71 = .ok (.isub, 1) := by decide +kernel
theorem kd_prog_6_method_29_code_72 : decode prog_6_method_29_code 72 = .ok (.goto 37, 3) := by decide +kernel
theorem kd_prog_6_method_29_code_75 : decode prog_6_method_29_code 75 = .ok (.iload 4, 2) := by decide +kernel
theorem kd_prog_6_method_29_code_77 : decode prog_6_method_29_code 77 = .ok (.iconst 2, 1) := by decide +kernel
theorem kd_prog_6_method_29_code_78 : decode prog_6_method_29_code 78 = .ok (.if_icmp .ne 9, 3) := by decide +kernel
theorem kd_prog_6_method_29_code_81 : decode prog_6_method_29_code 81 = .ok (.iload_n 2, 1) := by decide +kernel
theorem kd_prog_6_method_29_code_82 : decode prog_6_method_29_code 82 = .ok (.iload_n 3, 1) := by decide +kernel
theorem kd_prog_6_method_29_code_83 : decode prog_6_method_29_code 83 = .ok (.imul, 1) := by decide +kernel
theorem kd_prog_6_method_29_code_84 : decode prog_6_method_29_code 84 = .ok (.goto 25, 3) := by decide +kernel
theorem kd_prog_6_method_29_code_87 : decode prog_6_method_29_code 87 = .ok (.iload 4, 2) := by decide +kernel
theorem kd_prog_6_method_29_code_89 : decode prog_6_method_29_code 89 = .ok (.iconst 3, 1) := by decide +kernel
theorem kd_prog_6_method_29_code_90 : decode prog_6_method_29_code 90 = .ok (.if_icmp .ne 9, 3) := by decide +kernel
theorem kd_prog_6_method_29_code_93 : decode prog_6_method_29_code 93 = .ok (.iload_n 2, 1) := by decide +kernel
theorem kd_prog_6_method_29_code_94 : decode prog_6_method_29_code 94 = .ok (.iload_n 3, 1) := by decide +kernel
theorem kd_prog_6_method_29_code_95 : decode prog_6_method_29_code 95 = .ok (.iand, 1) := by decide +kernel
theorem kd_prog_6_method_29_code_96 : decode prog_6_method_29_code 96 = .ok (.goto 13, 3) := by decide +kernel
theorem kd_prog_6_method_29_code_99 : decode prog_6_method_29_code 99 = .ok (.iload_n 2, 1) := by decide +kernel
theorem kd_prog_6_method_29_code_100 : decode prog_6_method_29_code 100 = .ok (.iload_n 3, 1) := by decide +kernel
theorem kd_prog_6_method_29_code_101 : decode prog_6_method_29_code 101 = .ok (.if_icmp .ge 7, 3) := by decide +kernel
theorem kd_prog_6_method_29_code_104 : decode prog_6_method_29_code 104 = .ok (.iconst 1, 1) := by decide +kernel
theorem kd_prog_6_method_29_code_105 : decode prog_6_method_29_code 105 = .ok (.goto 4, 3) := by decide +kernel
theorem kd_prog_6_method_29_code_108 : decode prog_6_method_29_code 108 = .ok (.iconst 0, 1) := by decide +kernel
theorem kd_prog_6_method_29_code_109 : decode prog_6_method_29_code 109 = .ok (.ireturn, 1) := by decide +kernel
theorem kd_prog_6_method_30_code_0 : decode prog_6_method_30_code 0 = .ok (.iconst 0, 1) := by decide +kernel
theorem kd_prog_6_method_30_code_1 : decode prog_6_method_30_code 1 = .ok (.istore_n 2, 1) := by decide +kernel
theorem kd_prog_6_method_30_code_2 : decode prog_6_method_30_code 2 = .ok (.iload_n 2, 1) := by decide +kernel
theorem kd_prog_6_method_30_code_3 : decode prog_6_method_30_code 3 = .ok (.aload_n 0, 1) := by decide +kernel
theorem kd_prog_6_method_30_code_4 : decode prog_6_method_30_code 4 = .ok (.getfield 89, 3) := by decide +kernel
theorem kd_prog_6_method_30_code_7 : decode prog_6_method_30_code 7 = .ok (.if_icmp .ge 29, 3) := by decide +kernel
theorem kd_prog_6_method_30_code_10 : decode prog_6_method_30_code 10 = .ok (.iload_n 1, 1) := by decide +kernel
theorem kd_prog_6_method_30_code_11 : decode prog_6_method_30_code 11 = .ok (.iload_n 2, 1) := by decide +kernel
theorem kd_prog_6_method_30_code_12 : decode prog_6_method_30_code 12 = .ok (.ishr, 1) := by decide +kernel
theorem kd_prog_6_method_30_code_13 : decode prog_6_method_30_code 13 = .ok (.iconst 1, 1) := by decide +kernel
theorem kd_prog_6_method_30_code_14 : decode prog_6_method_30_code 14 = .ok (.iand, 1) := by decide +kernel
theorem kd_prog_6_method_30_code_15 : decode prog_6_method_30_code 15 = .ok (.iconst 1, 1) := by decide +kernel
theorem kd_prog_6_method_30_code_16 : decode prog_6_method_30_code 16 = .ok (.if_icmp .ne 14, 3) := by decide +kernel
theorem kd_prog_6_method_30_code_19 : decode prog_6_method_30_code 19 = .ok (.aload_n 0, 1) := by decide +kernel
theorem kd_prog_6_method_30_code_20 : decode prog_6_method_30_code 20 = .ok (.getfield 65, 3) := by decide +kernel
theorem kd_prog_6_method_30_code_23 : decode prog_6_method_30_code 23 = .ok (.iload_n 2, 1) := by decide +kernel
theorem kd_prog_6_method_30_code_24 : decode prog_6_method_30_code 24 = .ok (.aload_n 0, 1) := by decide +kernel
theorem kd_prog_6_method_30_code_25 : decode prog_6_method_30_code 25 = .ok (.iload_n 2, 1) := by decide +kernel
theorem kd_prog_6_method_30_code_26 : decode prog_6_method_30_code 26 = .ok (.invokevirtual 163, 3) := by decide +kernel
theorem kd_prog_6_method_30_code_29 : decode prog_6_method_30_code 29 = .ok (.iastore, 1) := by decide +kernel
theorem kd_prog_6_method_30_code_30 : decode prog_6_method_30_code 30 = .ok (.iinc 2 1, 3) := by decide +kernel
theorem kd_prog_6_method_30_code_33 : decode prog_6_method_30_code 33 = .ok (.goto (-31), 3) := by decide +kernel
theorem kd_prog_6_method_30_code_36 : decode prog_6_method_30_code 36 = .ok (.return_, 1) := by decide +kernel
theorem kd_prog_6_method_31_code_0 : decode prog_6_method_31_code 0 = .ok (.iload_n 2, 1) := by decide +kernel
theorem kd_prog_6_method_31_code_1 : decode prog_6_method_31_code 1 = .ok (.iload_n 1, 1) := by decide +kernel
theorem kd_prog_6_method_31_code_2 : decode prog_6_method_31_code 2 = .ok (.ishr, 1) := by decide +kernel
theorem kd_prog_6_method_31_code_3 : decode prog_6_method_31_code 3 = .ok (.iconst 1, 1) := by decide +kernel
theorem kd_prog_6_method_31_code_4 : decode prog_6_method_31_code 4 = .ok (.iand, 1) := by decide +kernel
theorem kd_prog_6_method_31_code_5 : decode prog_6_method_31_code 5 = .ok (.iconst 1, 1) := by decide +kernel
theorem kd_prog_6_method_31_code_6 : decode prog_6_method_31_code 6 = .ok (.if_icmp .ne 10, 3) := by decide +kernel
theorem kd_prog_6_method_31_code_9 : decode prog_6_method_31_code 9 = .ok (.aload_n 0, 1) := by decide +kernel
theorem kd_prog_6_method_31_code_10 : decode prog_6_method_31_code 10 = .ok (.getfield 65, 3) := by decide +kernel
theorem kd_prog_6_method_31_code_13 : decode prog_6_method_31_code 13 = .ok (.iload_n 1, 1) := by decide +kernel
theorem kd_prog_6_method_31_code_14 : decode prog_6_method_31_code 14 = .ok (.iaload, 1) := by decide +kernel
theorem kd_prog_6_method_31_code_15 : decode prog_6_method_31_code 15 = .ok (.ireturn, 1) := by decide +kernel
theorem kd_prog_6_method_31_code_16 : decode prog_6_method_31_code 16 = .ok (.aload_n 0, 1) := by decide +kernel
theorem kd_prog_6_method_31_code_17 : decode prog_6_method_31_code 17 = .ok (.iload_n 1, 1) := by decide +kernel
theorem kd_prog_6_method_31_code_18 : decode prog_6_method_31_code 18 = .ok (.invokevirtual 163, 3) := by decide +kernel
theorem kd_prog_6_method_31_code_21 : decode prog_6_method_31_code 21 = .ok (.istore_n 3, 1) := by decide +kernel
theorem kd_prog_6_method_31_code_22 : decode prog_6_method_31_code 22 = .ok (.aload_n 0, 1) := by decide +kernel
theorem kd_prog_6_method_31_code_23 : decode prog_6_method_31_code 23 = .ok (.getfield 65, 3) := by decide +kernel
theorem kd_prog_6_method_31_code_26 : decode prog_6_method_31_code 26 = .ok (.iload_n 1, 1) := by decide +kernel
theorem kd_prog_6_method_31_code_27 : decode prog_6_method_31_code 27 = .ok (.aload_n 0, 1) := by decide +kernel
theorem kd_prog_6_method_31_code_28 : decode prog_6_method_31_code 28 = .ok (.getfield 139, 3) := by decide +kernel
theorem kd_prog_6_method_31_code_31 : decode prog_6_method_31_code 31 = .ok (.iload_n 1, 1) := by decide +kernel
theorem kd_prog_6_method_31_code_32 : decode prog_6_method_31_code 32 = .ok (.ishr, 1) := by decide +kernel
theorem kd_prog_6_method_31_code_33 : decode prog_6_method_31_code 33 = .ok (.iconst 1, 1) := by decide +kernel
theorem kd_prog_6_method_31_code_34 : decode prog_6_method_31_code 34 = .ok (.iand, 1) := by decide +kernel
theorem kd_prog_6_method_31_code_35 : decode prog_6_method_31_code 35 = .ok (.iconst 1, 1) := by decide +kernel
theorem kd_prog_6_method_31_code_36 : decode prog_6_method_31_code 36 = .ok (.if_icmp .ne 7, 3) := by decide +kernel
theorem kd_prog_6_method_31_code_39 : decode prog_6_method_31_code 39 = .ok (.iload_n 3, 1) := by decide +kernel
theorem kd_prog_6_method_31_code_40 : decode prog_6_method_31_code 40 = .ok (.goto 9, 3) := by decide +kernel
theorem kd_prog_6_method_31_code_43 : decode prog_6_method_31_code 43 = .ok (.aload_n 0, 1) := by decide +kernel
theorem kd_prog_6_method_31_code_44 : decode prog_6_method_31_code 44 = .ok (.getfield 65, 3) := by decide +kernel
theorem kd_prog_6_method_31_code_47 : decode prog_6_method_31_code 47 = .ok (.iload_n 1, 1) := by decide +kernel
theorem kd_prog_6_method_31_code_48 : decode prog_6_method_31_code 48 = .ok (.iaload, 1) := by decide +kernel
theorem kd_prog_6_method_31_code_49 : decode prog_6_method_31_code 49 = .ok (.iastore, 1) := by decide +kernel
theorem kd_prog_6_method_31_code_50 : decode prog_6_method_31_code 50 = .ok (.iload_n 3, 1) := by decide +kernel
theorem kd_prog_6_method_31_code_51 : decode prog_6_method_31_code 51 = .ok (.ireturn, 1) := by decide +kernel
theorem kd_prog_6_method_32_code_0 : decode prog_6_method_32_code 0 = .ok (.iload_n 2, 1) := by decide +kernel
theorem kd_prog_6_method_32_code_1 : decode prog_6_method_32_code 1 = .ok (.ifCond .eq 17, 3) := by decide +kernel
theorem kd_prog_6_method_32_code_4 : decode prog_6_method_32_code 4 = .ok (.aload_n 0, 1) := by decide +kernel
theorem kd_prog_6_method_32_code_5 : decode prog_6_method_32_code 5 = .ok (.getfield 32, 3) := by decide +kernel
theorem kd_prog_6_method_32_code_8 : decode prog_6_method_32_code 8 = .ok (.bipush 6, 2) := by decide +kernel
theorem kd_prog_6_method_32_code_10 : decode prog_6_method_32_code 10 = .ok (.iload_n 1, 1) := by decide +kernel
theorem kd_prog_6_method_32_code_11 : decode prog_6_method_32_code 11 = .ok (.imul, 1) := by decide +kernel
theorem kd_prog_6_method_32_code_12 : decode prog_6_method_32_code 12 = .ok (.iconst 5, 1) := by decide +kernel
theorem kd_prog_6_method_32_code_13 : decode prog_6_method_32_code 13 = .ok (.iadd, 1) := by decide +kernel
theorem kd_prog_6_method_32_code_14 : decode prog_6_method_32_code 14 = .ok (.iaload, 1) := by decide +kernel
theorem kd_prog_6_method_32_code_15 : decode prog_6_method_32_code 15 = .ok (.goto 4, 3) := by decide +kernel
theorem kd_prog_6_method_32_code_18 : decode prog_6_method_32_code 18 = .ok (.iconst 0, 1) := by decide +kernel
theorem kd_prog_6_method_32_code_19 : decode prog_6_method_32_code 19 = .ok (.istore_n 3, 1) := by decide +kernel
theorem kd_prog_6_method_32_code_20 : decode prog_6_method_32_code 20 = .ok (.iconst 0, 1) := by decide +kernel
theorem kd_prog_6_method_32_code_21 : decode prog_6_method_32_code 21 = .ok (.istore 4, 2) := by decide +kernel
theorem kd_prog_6_method_32_code_23 : decode prog_6_method_32_code 23 = .ok (.iload 4, 2) := by decide +kernel
theorem kd_prog_6_method_32_code_25 : decode prog_6_method_32_code 25 = .ok (.aload_n 0, 1) := by decide +kernel
theorem kd_prog_6_method_32_code_26 : decode prog_6_method_32_code 26 = .ok (.getfield 7, 3) := by decide +kernel
theorem kd_prog_6_method_32_code_29 : decode prog_6_method_32_code 29 = .ok (.iload_n 1, 1) := by decide +kernel
theorem kd_prog_6_method_32_code_30 : decode prog_6_method_32_code 30 = .ok (.iaload, 1) := by decide +kernel
theorem kd_prog_6_method_32_code_31 : decode prog_6_method_32_code 31 = .ok (.if_icmp .ge 196, 3) := by decide +kernel
theorem kd_prog_6_method_32_code_34 : decode prog_6_method_32_code 34 = .ok (.bipush 30, 2) := by decide +kernel
theorem kd_prog_6_method_32_code_36 : decode prog_6_method_32_code 36 = .ok (.iload_n 1, 1) := by decide +kernel
theorem kd_prog_6_method_32_code_37 : decode prog_6_method_32_code 37 = .ok (.imul, 1) := by decide +kernel
theorem kd_prog_6_method_32_code_38 : decode prog_6_method_32_code 38 = .ok (.bipush 6, 2) := by decide +kernel
theorem kd_prog_6_method_32_code_40 : decode prog_6_method_32_code 40 = .ok (.iload 4, 2) := by decide +kernel
theorem kd_prog_6_method_32_code_42 : decode prog_6_method_32_code 42 = .ok (.imul, 1) := by decide +kernel
theorem kd_prog_6_method_32_code_43 : decode prog_6_method_32_code 43 = .ok (.iadd, 1) := by decide +kernel
theorem kd_prog_6_method_32_code_44 : decode prog_6_method_32_code 44 = .ok (.istore 5, 2) := by decide +kernel
theorem kd_prog_6_method_32_code_46 : decode prog_6_method_32_code 46 = .ok (.aload_n 0, 1) := by decide +kernel
theorem kd_prog_6_method_32_code_47 : decode prog_6_method_32_code 47 = .ok (.getfield 13, 3) := by decide +kernel
theorem kd_prog_6_method_32_code_50 : decode prog_6_method_32_code 50 = .ok (.iload 5, 2) := by decide +kernel
theorem kd_prog_6_method_32_code_52 : decode prog_6_method_32_code 52 = .ok (.iconst 1, 1) := by decide +kernel
theorem kd_prog_6_method_32_code_53 : decode prog_6_method_32_code 53 = .ok (.iadd, 1) := by decide +kernel
theorem kd_prog_6_method_32_code_54 : decode prog_6_method_32_code 54 = .ok (.iaload, 1) := by decide +kernel
theorem kd_prog_6_method_32_code_55 : decode prog_6_method_32_code 55 = .ok (.istore 6, 2) := by decide +kernel
theorem kd_prog_6_method_32_code_57 : decode prog_6_method_32_code 57 = .ok (.aload_n 0, 1) := by decide +kernel
theorem kd_prog_6_method_32_code_58 : decode prog_6_method_32_code 58 = .ok (.getfield 13, 3) := by decide +kernel
theorem kd_prog_6_method_32_code_61 : decode prog_6_method_32_code 61 = .ok (.iload 5, 2) := by decide +kernel
theorem kd_prog_6_method_32_code_63 : decode prog_6_method_32_code 63 = .ok (.iconst 5, 1) := by decide +kernel
theorem kd_prog_6_method_32_code_64 : decode prog_6_method_32_code 64 = .ok (.iadd, 1) := by decide +kernel
theorem kd_prog_6_method_32_code_65 : decode prog_6_method_32_code 65 = .ok (.iaload, 1) := by decide +kernel
theorem kd_prog_6_method_32_code_66 : decode prog_6_method_32_code 66 = .ok (.istore 7, 2) := by decide +kernel
theorem kd_prog_6_method_32_code_68 : decode prog_6_method_32_code 68 = .ok (.aload_n 0, 1) := by decide +kernel
theorem kd_prog_6_method_32_code_69 : decode prog_6_method_32_code 69 = .ok (.getfield 13, 3) := by decide +kernel
theorem kd_prog_6_method_32_code_72 : decode prog_6_method_32_code 72 = .ok (.iload 5, 2) := by decide +kernel
theorem kd_prog_6_method_32_code_74 : decode prog_6_method_32_code 74 = .ok (.iaload, 1) := by decide +kernel
theorem kd_prog_6_method_32_code_75 : decode prog_6_method_32_code 75 = .ok (.ifCond .ne 27, 3) := by decide +kernel
theorem kd_prog_6_method_32_code_78 : decode prog_6_method_32_code 78 = .ok (.aload_n 0, 1) := by decide +kernel
theorem kd_prog_6_method_32_code_79 : decode prog_6_method_32_code 79 = .ok (.getfield 62, 3) := by decide +kernel
theorem kd_prog_6_method_32_code_82 : decode prog_6_method_32_code 82 = .ok (.iload 6, 2) := by decide +kernel
theorem kd_prog_6_method_32_code_84 : decode prog_6_method_32_code 84 = .ok (.aload_n 0, 1) := by decide +kernel
theorem kd_prog_6_method_32_code_85 : decode prog_6_method_32_code 85 = .ok (.getfield 62, 3) := by decide +kernel
theorem kd_prog_6_method_32_code_88 : decode prog_6_method_32_code 88 = .ok (.aload_n 0, 1) := by decide +kernel
theorem kd_prog_6_method_32_code_89 : decode prog_6_method_32_code 89 = .ok (.getfield 13, 3) := by decide +kernel
theorem kd_prog_6_method_32_code_92 : decode prog_6_method_32_code 92 = .ok (.iload 5, 2) := by decide +kernel
theorem kd_prog_6_method_32_code_94 : decode prog_6_method_32_code 94 = .ok (.iconst 2, 1) := by decide +kernel
theorem kd_prog_6_method_32_code_95 : decode prog_6_method_32_code 95 = .ok (.iadd, 1) := by decide +kernel
theorem kd_prog_6_method_32_code_96 : decode prog_6_method_32_code 96 = .ok (.iaload, 1) := by decide +kernel
theorem kd_prog_6_method_32_code_97 : decode prog_6_method_32_code 97 = .ok (.iaload, 1) := by decide +kernel
theorem kd_prog_6_method_32_code_98 : decode prog_6_method_32_code 98 = .ok (.iastore, 1) := by decide +kernel
theorem kd_prog_6_method_32_code_99 : decode prog_6_method_32_code 99 = .ok (.goto 122, 3) := by decide +kernel
theorem kd_prog_6_method_32_code_102 : decode prog_6_method_32_code 102 = .ok (.aload_n 0, 1) := by decide +kernel
theorem kd_prog_6_method_32_code_103 : decode prog_6_method_32_code 103 = .ok (.getfield 13, 3) := by decide +kernel
theorem kd_prog_6_method_32_code_106 : decode prog_6_method_32_code 106 = .ok (.iload 5, 2) := by decide +kernel
theorem kd_prog_6_method_32_code_108 : decode prog_6_method_32_code 108 = .ok (.iaload, 1) := by decide +kernel
theorem kd_prog_6_method_32_code_109 : decode prog_6_method_32_code 109 = .ok (.iconst 1, 1) := by decide +kernel
theorem kd_prog_6_method_32_code_110 : decode prog_6_method_32_code 110 = .ok (.if_icmp .ne 22, 3) := by decide +kernel
theorem kd_prog_6_method_32_code_113 : decode prog_6_method_32_code 113 = .ok (.aload_n 0, 1) := by decide +kernel
theorem kd_prog_6_method_32_code_114 : decode prog_6_method_32_code 114 = .ok (.getfield 62, 3) := by decide +kernel
theorem kd_prog_6_method_32_code_117 : decode prog_6_method_32_code 117 = .ok (.iload 6, 2) := by decide +kernel
theorem kd_prog_6_method_32_code_119 : decode prog_6_method_32_code 119 = .ok (.aload_n 0, 1) := by decide +kernel
theorem kd_prog_6_method_32_code_120 : decode prog_6_method_32_code 120 = .ok (.getfield 13, 3) := by decide +kernel
theorem kd_prog_6_method_32_code_123 : decode prog_6_method_32_code 123 = .ok (.iload 5, 2) := by decide +kernel
theorem kd_prog_6_method_32_code_125 : decode prog_6_method_32_code 125 = .ok (.iconst 2, 1) := by decide +kernel
theorem kd_prog_6_method_32_code_126 : decode prog_6_method_32_code 126 = .ok (.iadd, 1) := by decide +kernel
theorem kd_prog_6_method_32_code_127 : decode prog_6_method_32_code 127 = .ok (.iaload, 1) := by decide +kernel
theorem kd_prog_6_method_32_code_128 : decode prog_6_method_32_code 128 = .ok (.iastore, 1) := by decide +kernel
theorem kd_prog_6_method_32_code_129 : decode prog_6_method_32_code 129 = .ok (.goto 92, 3) := by decide +kernel
theorem kd_prog_6_method_32_code_132 : decode prog_6_method_32_code 132 = .ok (.aload_n 0, 1) := by decide +kernel
theorem kd_prog_6_method_32_code_133 : decode prog_6_method_32_code 133 = .ok (.getfield 13, 3) := by decide +kernel
theorem kd_prog_6_method_32_code_136 : decode prog_6_method_32_code 136 = .ok (.iload 5, 2) := by decide +kernel
theorem kd_prog_6_method_32_code_138 : decode prog_6_method_32_code 138 = .ok (.iaload, 1) := by decide +kernel
theorem kd_prog_6_method_32_code_139 : decode prog_6_method_32_code 139 = .ok (.iconst 2, 1) := by decide +kernel
theorem kd_prog_6_method_32_code_140 : decode prog_6_method_32_code 140 = .ok (.if_icmp .ne 46, 3) := by decide +kernel
theorem kd_prog_6_method_32_code_143 : decode prog_6_method_32_code 143 = .ok (.iload_n 2, 1) := by decide +kernel
theorem kd_prog_6_method_32_code_144 : decode prog_6_method_32_code 144 = .ok (.ifCond .eq 13, 3) := by decide +kernel
theorem kd_prog_6_method_32_code_147 : decode prog_6_method_32_code 147 = .ok (.aload_n 0, 1) := by decide +kernel
theorem kd_prog_6_method_32_code_148 : decode prog_6_method_32_code 148 = .ok (.iload 7, 2) := by decide +kernel
theorem kd_prog_6_method_32_code_150 : decode prog_6_method_32_code 150 = .ok (.iload_n 3, 1) := by decide +kernel
theorem kd_prog_6_method_32_code_151 : decode prog_6_method_32_code 151 = .ok (.invokevirtual 166, 3) := by decide +kernel
theorem kd_prog_6_method_32_code_154 : decode prog_6_method_32_code 154 = .ok (.goto 9, 3) := by decide +kernel
theorem kd_prog_6_method_32_code_157 : decode prog_6_method_32_code 157 = .ok (.aload_n 0, 1) := by decide +kernel
theorem kd_prog_6_method_32_code_158 : decode prog_6_method_32_code 158 = .ok (.iload 7, 2) := by decide +kernel
theorem kd_prog_6_method_32_code_160 : decode prog_6_method_32_code 160 = .ok (.invokevirtual 163, 3) := by decide +kernel
theorem kd_prog_6_method_32_code_163 : decode prog_6_method_32_code 163 = .ok (.istore 8, 2) := by decide +kernel
theorem kd_prog_6_method_32_code_165 : decode prog_6_method_32_code 165 = .ok (.iload_n 3, 1) := by decide +kernel
theorem kd_prog_6_method_32_code_166 : decode prog_6_method_32_code 166 = .ok (.iconst 1, 1) := by decide +kernel
theorem kd_prog_6_method_32_code_167 : decode prog_6_method_32_code 167 = .ok (.iload 7, 2) := by decide +kernel
theorem kd_prog_6_method_32_code_169 : decode prog_6_method_32_code 169 = .ok (.ishl, 1) := by decide +kernel
theorem kd_prog_6_method_32_code_170 : decode prog_6_method_32_code 170 = .ok (.iconst (-1), 1) := by decide +kernel
theorem kd_prog_6_method_32_code_171 : decode prog_6_method_32_code 171 = .ok (.ixor, 1) := by decide +kernel
theorem kd_prog_6_method_32_code_172 : decode prog_6_method_32_code 172 = .ok (.iand, 1) := by decide +kernel
theorem kd_prog_6_method_32_code_173 : decode prog_6_method_32_code 173 = .ok (.istore_n 3, 1) := by decide +kernel
theorem kd_prog_6_method_32_code_174 : decode prog_6_method_32_code 174 = .ok (.aload_n 0, 1) := by decide +kernel
theorem kd_prog_6_method_32_code_175 : decode prog_6_method_32_code 175 = .ok (.getfield 62, 3) := by decide +kernel
theorem kd_prog_6_method_32_code_178 : decode prog_6_method_32_code 178 = .ok (.iload 6, 2) := by decide +kernel
theorem kd_prog_6_method_32_code_180 : decode prog_6_method_32_code 180 = .ok (.iload 8, 2) := by decide +kernel
theorem kd_prog_6_method_32_code_182 : decode prog_6_method_32_code 182 = .ok (.iastore, 1) := by decide +kernel
theorem kd_prog_6_method_32_code_183 : decode prog_6_method_32_code 183 = .ok (.goto 38, 3) := by decide +kernel
theorem kd_prog_6_method_32_code_186 : decode prog_6_method_32_code 186 = .ok (.aload_n 0, 1) := by decide +kernel
theorem kd_prog_6_method_32_code_187 : decode prog_6_method_32_code 187 = .ok (.getfield 169, 3) := by decide +kernel
theorem kd_prog_6_method_32_code_190 : decode prog_6_method_32_code 190 = .ok (.bipush 100, 2) := by decide +kernel
theorem kd_prog_6_method_32_code_192 : decode prog_6_method_32_code 192 = .ok (.if_icmp .ge 19, 3) := by decide +kernel
theorem kd_prog_6_method_32_code_195 : decode prog_6_method_32_code 195 = .ok (.aload_n 0, 1) := by decide +kernel
theorem kd_prog_6_method_32_code_196 : decode prog_6_method_32_code 196 = .ok (.getfield 71, 3) := by decide +kernel
theorem kd_prog_6_method_32_code_199 : decode prog_6_method_32_code 199 = .ok (.aload_n 0, 1) := by decide +kernel
theorem kd_prog_6_method_32_code_200 : decode prog_6_method_32_code 200 = .ok (.getfield 169, 3) := by decide +kernel
theorem kd_prog_6_method_32_code_203 : decode prog_6_method_32_code 203 = .ok (.aload_n 0, 1) := by decide +kernel
theorem kd_prog_6_method_32_code_204 : decode prog_6_method_32_code 204 = .ok (.getfield 62, 3) := by decide +kernel
theorem kd_prog_6_method_32_code_207 : decode prog_6_method_32_code 207 = .ok (.iload 6, 2) := by decide +kernel
theorem kd_prog_6_method_32_code_209 : decode prog_6_method_32_code 209 = .ok (.iaload, 1) := by decide +kernel
theorem kd_prog_6_method_32_code_210 : decode prog_6_method_32_code 210 = .ok (.iastore, 1) := by decide +kernel
theorem kd_prog_6_method_32_code_211 : decode prog_6_method_32_code 211 = .ok (.aload_n 0, 1) := by decide +kernel
theorem kd_prog_6_method_32_code_212 : decode prog_6_method_32_code 212 = .ok (.dup, 1) := by decide +kernel
theorem kd_prog_6_method_32_code_213 : decode prog_6_method_32_code 213 = .ok (.getfield 169, 3) := by decide +kernel
theorem kd_prog_6_method_32_code_216 : decode prog_6_method_32_code 216 = .ok (.iconst 1, 1) := by decide +kernel
theorem kd_prog_6_method_32_code_217 : decode prog_6_method_32_code 217 = .ok (.iadd, 1) := by decide +kernel
theorem kd_prog_6_method_32_code_218 : decode prog_6_method_32_code 218 = .ok (.putfield 169, 3) := by decide +kernel
theorem kd_prog_6_method_32_code_221 : decode prog_6_method_32_code 221 = .ok (.iinc 4 1, 3) := by decide +kernel
theorem kd_prog_6_method_32_code_224 : decode prog_6_method_32_code 224 = .ok (.goto (-201), 3) := by decide +kernel
theorem kd_prog_6_method_32_code_227 : decode prog_6_method_32_code 227 = .ok (.return_, 1) := by decide +kernel
theorem kd_prog_6_method_33_code_0 : decode prog_6_method_33_code 0 = .ok (.aload_n 0, 1) := by decide +kernel
theorem kd_prog_6_method_33_code_1 : decode prog_6_method_33_code 1 = .ok (.iconst 0, 1) := by decide +kernel
theorem kd_prog_6_method_33_code_2 : decode prog_6_method_33_code 2 = .ok (.putfield 74, 3) := by decide +kernel
theorem kd_prog_6_method_33_code_5 : decode prog_6_method_33_code 5 = .ok (.aload_n 0, 1) := by decide +kernel
theorem kd_prog_6_method_33_code_6 : decode prog_6_method_33_code 6 = .ok (.getfield 85, 3) := by decide +kernel
theorem kd_prog_6_method_33_code_9 : decode prog_6_method_33_code 9 = .ok (.ifCond .ne 9, 3) := by decide +kernel
theorem kd_prog_6_method_33_code_12 : decode prog_6_method_33_code 12 = .ok (.aload_n 0, 1) := by decide +kernel
theorem kd_prog_6_method_33_code_13 : decode prog_6_method_33_code 13 = .ok (.iconst 1, 1) := by decide +kernel
theorem kd_prog_6_method_33_code_14 : decode prog_6_method_33_code 14 = .ok (.invokevirtual 81, 3) := by decide +kernel
theorem kd_prog_6_method_33_code_17 : decode prog_6_method_33_code 17 = .ok (.ireturn, 1) := by decide +kernel
theorem kd_prog_6_method_33_code_18 : decode prog_6_method_33_code 18 = .ok (.iconst 0, 1) := by decide +kernel
theorem kd_prog_6_method_33_code_19 : decode prog_6_method_33_code 19 = .ok (.istore 5, 2) := by decide +kernel
theorem kd_prog_6_method_33_code_21 : decode prog_6_method_33_code 21 = .ok (.iload 5, 2) := by decide +kernel
theorem kd_prog_6_method_33_code_23 : decode prog_6_method_33_code 23 = .ok (.bipush 6, 2) := by decide +kernel
theorem kd_prog_6_method_33_code_25 : decode prog_6_method_33_code 25 = .ok (.if_icmp .ge 47, 3) := by decide +kernel
theorem kd_prog_6_method_33_code_28 : decode prog_6_method_33_code 28 = .ok (.aload_n 0, 1) := by decide +kernel
theorem kd_prog_6_method_33_code_29 : decode prog_6_method_33_code 29 = .ok (.getfield 62, 3) := by decide +kernel
theorem kd_prog_6_method_33_code_32 : decode prog_6_method_33_code 32 = .ok (.iload 5, 2) := by decide +kernel
theorem kd_prog_6_method_33_code_34 : decode prog_6_method_33_code 34 = .ok (.iload 5, 2) := by decide +kernel
theorem kd_prog_6_method_33_code_36 : decode prog_6_method_33_code 36 = .ok (.ifCond .ne 7, 3) := by decide +kernel
theorem kd_prog_6_method_33_code_39 : decode prog_6_method_33_code 39 = .ok (.iload_n 2, 1) := by decide +kernel
theorem kd_prog_6_method_33_code_40 : decode prog_6_method_33_code 40 = .ok (.goto 25, 3) := by decide +kernel
theorem kd_prog_6_method_33_code_43 : decode prog_6_method_33_code 43 = .ok (.iload 5, 2) := by decide +kernel
theorem kd_prog_6_method_33_code_45 : decode prog_6_method_33_code 45 = .ok (.iconst 1, 1) := by decide +kernel
theorem kd_prog_6_method_33_code_46 : decode prog_6_method_33_code 46 = .ok (.if_icmp .ne 7, 3) := by decide +kernel
theorem kd_prog_6_method_33_code_49 : decode prog_6_method_33_code 49 = .ok (.iload_n 3, 1) := by decide +kernel
theorem kd_prog_6_method_33_code_50 : decode prog_6_method_33_code 50 = .ok (.goto 15, 3) := by decide +kernel
theorem kd_prog_6_method_33_code_53 : decode prog_6_method_33_code 53 = .ok (.iload 5, 2) := by decide +kernel
theorem kd_prog_6_method_33_code_55 : decode prog_6_method_33_code 55 = .ok (.iconst 2, 1) := by decide +kernel
theorem kd_prog_6_method_33_code_56 : decode prog_6_method_33_code 56 = .ok (.if_icmp .ne 8, 3) := by decide +kernel
theorem kd_prog_6_method_33_code_59 : decode prog_6_method_33_code 59 = .ok (.iload 4, 2) := by decide +kernel
theorem kd_prog_6_method_33_code_61 : decode prog_6_method_33_code 61 = .ok (.goto 4, 3) := by decide +kernel
theorem kd_prog_6_method_33_code_64 : decode prog_6_method_33_code 64 = .ok (.iconst 0, 1) := by decide +kernel
theorem kd_prog_6_method_33_code_65 : decode prog_6_method_33_code 65 = .ok (.iastore, 1) := by decide +kernel
theorem kd_prog_6_method_33_code_66 : decode prog_6_method_33_code 66 = .ok (.iinc 5 1, 3) := by decide +kernel
theorem kd_prog_6_method_33_code_69 : decode prog_6_method_33_code 69 = .ok (.goto (-48), 3) := by decide +kernel
theorem kd_prog_6_method_33_code_72 : decode prog_6_method_33_code 72 = .ok (.iconst 0, 1) := by decide +kernel
theorem kd_prog_6_method_33_code_73 : decode prog_6_method_33_code 73 = .ok (.istore 5, 2) := by decide +kernel
theorem kd_prog_6_method_33_code_75 : decode prog_6_method_33_code 75 = .ok (.iload 5, 2) := by decide +kernel
theorem kd_prog_6_method_33_code_77 : decode prog_6_method_33_code 77 = .ok (.bipush 24, 2) := by decide +kernel
theorem kd_prog_6_method_33_code_79 : decode prog_6_method_33_code 79 = .ok (.if_icmp .ge 25, 3) := by decide +kernel
theorem kd_prog_6_method_33_code_82 : decode prog_6_method_33_code 82 = .ok (.aload_n 0, 1) := by decide +kernel
theorem kd_prog_6_method_33_code_83 : decode prog_6_method_33_code 83 = .ok (.getfield 65, 3) := by decide +kernel
theorem kd_prog_6_method_33_code_86 : decode prog_6_method_33_code 86 = .ok (.iload 5, 2) := by decide +kernel
theorem kd_prog_6_method_33_code_88 : decode prog_6_method_33_code 88 = .ok (.iconst 0, 1) := by decide +kernel
theorem kd_prog_6_method_33_code_89 : decode prog_6_method_33_code 89 = .ok (.iastore, 1) := by decide +kernel
theorem kd_prog_6_method_33_code_90 : decode prog_6_method_33_code 90 = .ok (.aload_n 0, 1) := by decide +kernel
theorem kd_prog_6_method_33_code_91 : decode prog_6_method_33_code 91 = .ok (.getfield 68, 3) := by decide +kernel
theorem kd_prog_6_method_33_code_94 : decode prog_6_method_33_code 94 = .ok (.iload 5, 2) := by decide +kernel
theorem kd_prog_6_method_33_code_96 : decode prog_6_method_33_code 96 = .ok (.iconst 0, 1) := by decide +kernel
theorem kd_prog_6_method_33_code_97 : decode prog_6_method_33_code 97 = .ok (.iastore, 1) := by decide +kernel
theorem kd_prog_6_method_33_code_98 : decode prog_6_method_33_code 98 = .ok (.iinc 5 1, 3) := by decide +kernel
theorem kd_prog_6_method_33_code_101 : decode prog_6_method_33_code 101 = .ok (.goto (-26), 3) := by decide +kernel
theorem kd_prog_6_method_33_code_104 : decode prog_6_method_33_code 104 = .ok (.aload_n 0, 1) := by decide +kernel
theorem kd_prog_6_method_33_code_105 : decode prog_6_method_33_code 105 = .ok (.iconst 0, 1) := by decide +kernel
theorem kd_prog_6_method_33_code_106 : decode prog_6_method_33_code 106 = .ok (.putfield 169, 3) := by decide +kernel
theorem kd_prog_6_method_33_code_109 : decode prog_6_method_33_code 109 = .ok (.aload_n 0, 1) := by decide +kernel
theorem kd_prog_6_method_33_code_110 : decode prog_6_method_33_code 110 = .ok (.iconst 0, 1) := by decide +kernel
theorem kd_prog_6_method_33_code_111 : decode prog_6_method_33_code 111 = .ok (.putfield 172, 3) := by decide +kernel
theorem kd_prog_6_method_33_code_114 : decode prog_6_method_33_code 114 = .ok (.aload_n 0, 1) := by decide +kernel
theorem kd_prog_6_method_33_code_115 : decode prog_6_method_33_code 115 = .ok (.iconst 0, 1) := by decide +kernel
theorem kd_prog_6_method_33_code_116 : decode prog_6_method_33_code 116 = .ok (.putfield 160, 3) := by decide +kernel
theorem kd_prog_6_method_33_code_119 : decode prog_6_method_33_code 119 = .ok (.iconst 0, 1) := by decide +kernel
theorem kd_prog_6_method_33_code_120 : decode prog_6_method_33_code 120 = .ok (.istore 5, 2) := by decide +kernel
theorem kd_prog_6_method_33_code_122 : decode prog_6_method_33_code 122 = .ok (.iload_n 1, 1) := by decide +kernel
theorem kd_prog_6_method_33_code_123 : decode prog_6_method_33_code 123 = .ok (.ifCond .eq 15, 3) := by decide +kernel
theorem kd_prog_6_method_33_code_126 : decode prog_6_method_33_code 126 = .ok (.aload_n 0, 1) := by decide +kernel
theorem kd_prog_6_method_33_code_127 : decode prog_6_method_33_code 127 = .ok (.aload_n 0, 1) := by decide +kernel
theorem kd_prog_6_method_33_code_128 : decode prog_6_method_33_code 128 = .ok (.getfield 35, 3) := by decide +kernel
theorem kd_prog_6_method_33_code_131 : decode prog_6_method_33_code 131 = .ok (.sipush 256, 3) := by decide +kernel
theorem kd_prog_6_method_33_code_134 : decode prog_6_method_33_code 134 = .ok (.iaload, 1) := by decide +kernel
theorem kd_prog_6_method_33_code_135 : decode prog_6_method_33_code 135 = .ok (.invokevirtual 175, 3) := by decide +kernel
theorem kd_prog_6_method_33_code_138 : decode prog_6_method_33_code 138 = .ok (.iload 5, 2) := by decide +kernel
theorem kd_prog_6_method_33_code_140 : decode prog_6_method_33_code 140 = .ok (.ifCond .lt 135, 3) := by decide +kernel
theorem kd_prog_6_method_33_code_143 : decode prog_6_method_33_code 143 = .ok (.aload_n 0, 1) := by decide +kernel
theorem kd_prog_6_method_33_code_144 : decode prog_6_method_33_code 144 = .ok (.iload 5, 2) := by decide +kernel
theorem kd_prog_6_method_33_code_146 : decode prog_6_method_33_code 146 = .ok (.iload_n 1, 1) := by decide +kernel
theorem kd_prog_6_method_33_code_147 : decode prog_6_method_33_code 147 = .ok (.invokevirtual 178, 3) := by decide +kernel
theorem kd_prog_6_method_33_code_150 : decode prog_6_method_33_code 150 = .ok (.aload_n 0, 1) := by decide +kernel
theorem kd_prog_6_method_33_code_151 : decode prog_6_method_33_code 151 = .ok (.dup, 1) := by decide +kernel
theorem kd_prog_6_method_33_code_152 : decode prog_6_method_33_code 152 = .ok (.getfield 172, 3) := by decide +kernel
theorem kd_prog_6_method_33_code_155 : decode prog_6_method_33_code 155 = .ok (.iconst 1, 1) := by decide +kernel
theorem kd_prog_6_method_33_code_156 : decode prog_6_method_33_code 156 = .ok (.iadd, 1) := by decide +kernel
theorem kd_prog_6_method_33_code_157 : decode prog_6_method_33_code 157 = .ok (.putfield 172, 3) := by decide +kernel
theorem kd_prog_6_method_33_code_160 : decode prog_6_method_33_code 160 = .ok (.aload_n 0, 1) := by decide +kernel
theorem kd_prog_6_method_33_code_161 : decode prog_6_method_33_code 161 = .ok (.getfield 16, 3) := by decide +kernel
theorem kd_prog_6_method_33_code_164 : decode prog_6_method_33_code 164 = .ok (.iconst 4, 1) := by decide +kernel
theorem kd_prog_6_method_33_code_165 : decode prog_6_method_33_code 165 = .ok (.iload 5, 2) := by decide +kernel
theorem kd_prog_6_method_33_code_167 : decode prog_6_method_33_code 167 = .ok (.imul, 1) := by decide +kernel
theorem kd_prog_6_method_33_code_168 : decode prog_6_method_33_code 168 = .ok (.iaload, 1) := by decide +kernel
theorem kd_prog_6_method_33_code_169 : decode prog_6_method_33_code 169 = .ok (.istore 6, 2) := by decide +kernel
theorem kd_prog_6_method_33_code_171 : decode prog_6_method_33_code 171 = .ok (.iload 6, 2) := by decide +kernel
theorem kd_prog_6_method_33_code_173 : decode prog_6_method_33_code 173 = .ok (.ifCond .eq 13, 3) := by decide +kernel
theorem kd_prog_6_method_33_code_176 : decode prog_6_method_33_code 176 = .ok (.aload_n 0, 1) := by decide +kernel
theorem kd_prog_6_method_33_code_177 : decode prog_6_method_33_code 177 = .ok (.getfield 172, 3) := by decide +kernel
theorem kd_prog_6_method_33_code_180 : decode prog_6_method_33_code 180 = .ok (.sipush 200, 3) := by decide +kernel
theorem kd_prog_6_method_33_code_183 : decode prog_6_method_33_code 183 = .ok (.if_icmp .ne 7, 3) := by decide +kernel
theorem kd_prog_6_method_33_code_186 : decode prog_6_method_33_code 186 = .ok (.iconst (-1), 1) := by decide +kernel
theorem kd_prog_6_method_33_code_187 : decode prog_6_method_33_code 187 = .ok (.goto 53, 3) := by decide +kernel
theorem kd_prog_6_method_33_code_190 : decode prog_6_method_33_code 190 = .ok (.iload 6, 2) := by decide +kernel
theorem kd_prog_6_method_33_code_192 : decode prog_6_method_33_code 192 = .ok (.iconst 1, 1) := by decide +kernel
theorem kd_prog_6_method_33_code_193 : decode prog_6_method_33_code 193 = .ok (.if_icmp .eq 22, 3) := by decide +kernel
theorem kd_prog_6_method_33_code_196 : decode prog_6_method_33_code 196 = .ok (.aload_n 0, 1) := by decide +kernel
theorem kd_prog_6_method_33_code_197 : decode prog_6_method_33_code 197 = .ok (.getfield 62, 3) := by decide +kernel
theorem kd_prog_6_method_33_code_200 : decode prog_6_method_33_code 200 = .ok (.aload_n 0, 1) := by decide +kernel
theorem kd_prog_6_method_33_code_201 : decode prog_6_method_33_code 201 = .ok (.getfield 16, 3) := by decide +kernel
theorem kd_prog_6_method_33_code_204 : decode prog_6_method_33_code 204 = .ok (.iconst 4, 1) := by decide +kernel
theorem kd_prog_6_method_33_code_205 : decode prog_6_method_33_code 205 = .ok (.iload 5, 2) := by decide +kernel
theorem kd_prog_6_method_33_code_207 : decode prog_6_method_33_code 207 = .ok (.imul, 1) := by decide +kernel
theorem kd_prog_6_method_33_code_208 : decode prog_6_method_33_code 208 = .ok (.iconst 1, 1) := by decide +kernel
theorem kd_prog_6_method_33_code_209 : decode prog_6_method_33_code 209 = .ok (.iadd, 1) := by decide +kernel
theorem kd_prog_6_method_33_code_210 : decode prog_6_method_33_code 210 = .ok (.iaload, 1) := by decide +kernel
theorem kd_prog_6_method_33_code_211 : decode prog_6_method_33_code 211 = .ok (.iaload, 1) := by decide +kernel
theorem kd_prog_6_method_33_code_212 : decode prog_6_method_33_code 212 = .ok (.ifCond .eq 17, 3) := by decide +kernel
theorem kd_prog_6_method_33_code_215 : decode prog_6_method_33_code 215 = .ok (.aload_n 0, 1) := by decide +kernel
theorem kd_prog_6_method_33_code_216 : decode prog_6_method_33_code 216 = .ok (.getfield 16, 3) := by decide +kernel
theorem kd_prog_6_method_33_code_219 : decode prog_6_method_33_code 219 = .ok (.iconst 4, 1) := by decide +kernel
theorem kd_prog_6_method_33_code_220 : decode prog_6_method_33_code 220 = .ok (.iload 5, 2) := by decide +kernel
theorem kd_prog_6_method_33_code_222 : decode prog_6_method_33_code 222 = .ok (.imul, 1) := by decide +kernel
theorem kd_prog_6_method_33_code_223 : decode prog_6_method_33_code 223 = .ok (.iconst 2, 1) := by decide +kernel
theorem kd_prog_6_method_33_code_224 : decode prog_6_method_33_code 224 = .ok (.iadd, 1) := by decide +kernel
theorem kd_prog_6_method_33_code_225 : decode prog_6_method_33_code 225 = .ok (.iaload, 1) := by decide +kernel
theorem kd_prog_6_method_33_code_226 : decode prog_6_method_33_code 226 = .ok (.goto 14, 3) := by decide +kernel
theorem kd_prog_6_method_33_code_229 : decode prog_6_method_33_code 229 = .ok (.aload_n 0, 1) := by decide +kernel
theorem kd_prog_6_method_33_code_230 : decode prog_6_method_33_code 230 = .ok (.getfield 16, 3) := by decide +kernel
theorem kd_prog_6_method_33_code_233 : decode prog_6_method_33_code 233 = .ok (.iconst 4, 1) := by decide +kernel
theorem kd_prog_6_method_33_code_234 : decode prog_6_method_33_code 234 = .ok (.iload 5, 2) := by decide +kernel
theorem kd_prog_6_method_33_code_236 : decode prog_6_method_33_code 236 = .ok (.imul, 1) := by decide +kernel
theorem kd_prog_6_method_33_code_237 : decode prog_6_method_33_code 237 = .ok (.iconst 3, 1) := by decide +kernel
theorem kd_prog_6_method_33_code_238 : decode prog_6_method_33_code 238 = .ok (.iadd, 1) := by decide +kernel
theorem kd_prog_6_method_33_code_239 : decode prog_6_method_33_code 239 = .ok (.iaload, 1) := by decide +kernel
theorem kd_prog_6_method_33_code_240 : decode prog_6_method_33_code 240 = .ok (.istore 7, 2) := by decide +kernel
theorem kd_prog_6_method_33_code_242 : decode prog_6_method_33_code 242 = .ok (.iload_n 1, 1) := by decide +kernel
theorem kd_prog_6_method_33_code_243 : decode prog_6_method_33_code 243 = .ok (.ifCond .eq 25, 3) := by decide +kernel
theorem kd_prog_6_method_33_code_246 : decode prog_6_method_33_code 246 = .ok (.iload 7, 2) := by decide +kernel
theorem kd_prog_6_method_33_code_248 : decode prog_6_method_33_code 248 = .ok (.ifCond .lt 20, 3) := by decide +kernel
theorem kd_prog_6_method_33_code_251 : decode prog_6_method_33_code 251 = .ok (.aload_n 0, 1) := by decide +kernel
theorem kd_prog_6_method_33_code_252 : decode prog_6_method_33_code 252 = .ok (.aload_n 0, 1) := by decide +kernel
theorem kd_prog_6_method_33_code_253 : decode prog_6_method_33_code 253 = .ok (.getfield 35, 3) := by decide +kernel
theorem kd_prog_6_method_33_code_256 : decode prog_6_method_33_code 256 = .ok (.bipush 16, 2) := by decide +kernel
theorem kd_prog_6_method_33_code_258 : decode prog_6_method_33_code 258 = .ok (.iload 5, 2) := by decide +kernel
theorem kd_prog_6_method_33_code_260 : decode prog_6_method_33_code 260 = .ok (.imul, 1) := by decide +kernel
theorem kd_prog_6_method_33_code_261 : decode prog_6_method_33_code 261 = .ok (.iload 7, 2) := by decide +kernel
theorem kd_prog_6_method_33_code_263 : decode prog_6_method_33_code 263 = .ok (.iadd, 1) := by decide +kernel
theorem kd_prog_6_method_33_code_264 : decode prog_6_method_33_code 264 = .ok (.iaload, 1) := by decide +kernel
theorem kd_prog_6_method_33_code_265 : decode prog_6_method_33_code 265 = .ok (.invokevirtual 175, 3) := by decide +kernel
theorem kd_prog_6_method_33_code_268 : decode prog_6_method_33_code 268 = .ok (.iload 7, 2) := by decide +kernel
theorem kd_prog_6_method_33_code_270 : decode prog_6_method_33_code 270 = .ok (.istore 5, 2) := by decide +kernel
theorem kd_prog_6_method_33_code_272 : decode prog_6_method_33_code 272 = .ok (.goto (-134), 3) := by decide +kernel
theorem kd_prog_6_method_33_code_275 : decode prog_6_method_33_code 275 = .ok (.aload_n 0, 1) := by decide +kernel
theorem kd_prog_6_method_33_code_276 : decode prog_6_method_33_code 276 = .ok (.getfield 160, 3) := by decide +kernel
theorem kd_prog_6_method_33_code_279 : decode prog_6_method_33_code 279 = .ok (.ireturn, 1) := by decide +kernel
theorem kd_prog_6_method_34_code_0 : decode prog_6_method_34_code 0 = .ok (.aload_n 0, 1) := by decide +kernel
theorem kd_prog_6_method_34_code_1 : decode prog_6_method_34_code 1 = .ok (.iconst 0, 1) := by decide +kernel
theorem kd_prog_6_method_34_code_2 : decode prog_6_method_34_code 2 = .ok (.putfield 74, 3) := by decide +kernel
theorem kd_prog_6_method_34_code_5 : decode prog_6_method_34_code 5 = .ok (.aload_n 0, 1) := by decide +kernel
theorem kd_prog_6_method_34_code_6 : decode prog_6_method_34_code 6 = .ok (.getfield 169, 3) := by decide +kernel
theorem kd_prog_6_method_34_code_9 : decode prog_6_method_34_code 9 = .ok (.ireturn, 1) := by decide +kernel
theorem kd_prog_6_method_35_code_0 : decode prog_6_method_35_code 0 = .ok (.aload_n 0, 1) := by decide +kernel
theorem kd_prog_6_method_35_code_1 : decode prog_6_method_35_code 1 = .ok (.iconst 0, 1) := by decide +kernel
theorem kd_prog_6_method_35_code_2 : decode prog_6_method_35_code 2 = .ok (.putfield 74, 3) := by decide +kernel
theorem kd_prog_6_method_35_code_5 : decode prog_6_method_35_code 5 = .ok (.iload_n 1, 1) := by decide +kernel
theorem kd_prog_6_method_35_code_6 : decode prog_6_method_35_code 6 = .ok (.iconst 0, 1) := by decide +kernel
theorem kd_prog_6_method_35_code_7 : decode prog_6_method_35_code 7 = .ok (.bipush 99, 2) := by decide +kernel
theorem kd_prog_6_method_35_code_9 : decode prog_6_method_35_code 9 = .ok (.invokestatic 92, 3) := by decide +kernel
theorem kd_prog_6_method_35_code_12 : decode prog_6_method_35_code 12 = .ok (.ifCond .eq 20, 3) := by decide +kernel
theorem kd_prog_6_method_35_code_15 : decode prog_6_method_35_code 15 = .ok (.iload_n 1, 1) := by decide +kernel
theorem kd_prog_6_method_35_code_16 : decode prog_6_method_35_code 16 = .ok (.aload_n 0, 1) := by decide +kernel
theorem kd_prog_6_method_35_code_17 : decode prog_6_method_35_code 17 = .ok (.getfield 169, 3) := by decide +kernel
theorem kd_prog_6_method_35_code_20 : decode prog_6_method_35_code 20 = .ok (.if_icmp .ge 12, 3) := by decide +kernel
theorem kd_prog_6_method_35_code_23 : decode prog_6_method_35_code 23 = .ok (.aload_n 0, 1) := by decide +kernel
theorem kd_prog_6_method_35_code_24 : decode prog_6_method_35_code 24 = .ok (.getfield 71, 3) := by decide +kernel
theorem kd_prog_6_method_35_code_27 : decode prog_6_method_35_code 27 = .ok (.iload_n 1, 1) := by decide +kernel
theorem kd_prog_6_method_35_code_28 : decode prog_6_method_35_code 28 = .ok (.iaload, 1) := by decide +kernel
theorem kd_prog_6_method_35_code_29 : decode prog_6_method_35_code 29 = .ok (.goto 8, 3) := by decide +kernel
theorem kd_prog_6_method_35_code_32 : decode prog_6_method_35_code 32 = .ok (.aload_n 0, 1) := by decide +kernel
theorem kd_prog_6_method_35_code_33 : decode prog_6_method_35_code 33 = .ok (.iconst 1, 1) := by decide +kernel
theorem kd_prog_6_method_35_code_34 : decode prog_6_method_35_code 34 = .ok (.invokevirtual 81, 3) := by decide +kernel
theorem kd_prog_6_method_35_code_37 : decode prog_6_method_35_code 37 = .ok (.ireturn, 1) := by decide +kernel
theorem kd_prog_6_method_36_code_0 : decode prog_6_method_36_code 0 = .ok (.aload_n 0, 1) := by decide +kernel
theorem kd_prog_6_method_36_code_1 : decode prog_6_method_36_code 1 = .ok (.iconst 0, 1) := by decide +kernel
theorem kd_prog_6_method_36_code_2 : decode prog_6_method_36_code 2 = .ok (.putfield 74, 3) := by decide +kernel
theorem kd_prog_6_method_36_code_5 : decode prog_6_method_36_code 5 = .ok (.iload_n 1, 1) := by decide +kernel
theorem kd_prog_6_method_36_code_6 : decode prog_6_method_36_code 6 = .ok (.iconst 0, 1) := by decide +kernel
theorem kd_prog_6_method_36_code_7 : decode prog_6_method_36_code 7 = .ok (.iconst 5, 1) := by decide +kernel
theorem kd_prog_6_method_36_code_8 : decode prog_6_method_36_code 8 = .ok (.invokestatic 92, 3) := by decide +kernel
theorem kd_prog_6_method_36_code_11 : decode prog_6_method_36_code 11 = .ok (.ifCond .eq 12, 3) := by decide +kernel
theorem kd_prog_6_method_36_code_14 : decode prog_6_method_36_code 14 = .ok (.aload_n 0, 1) := by decide +kernel
theorem kd_prog_6_method_36_code_15 : decode prog_6_method_36_code 15 = .ok (.getfield 62, 3) := by decide +kernel
theorem kd_prog_6_method_36_code_18 : decode prog_6_method_36_code 18 = .ok (.iload_n 1, 1) := by decide +kernel
theorem kd_prog_6_method_36_code_19 : decode prog_6_method_36_code 19 = .ok (.iaload, 1) := by decide +kernel
theorem kd_prog_6_method_36_code_20 : decode prog_6_method_36_code 20 = .ok (.goto 8, 3) := by decide +kernel
theorem kd_prog_6_method_36_code_23 : decode prog_6_method_36_code 23 = .ok (.aload_n 0, 1) := by decide +kernel
theorem kd_prog_6_method_36_code_24 : decode prog_6_method_36_code 24 = .ok (.iconst 1, 1) := by decide +kernel
theorem kd_prog_6_method_36_code_25 : decode prog_6_method_36_code 25 = .ok (.invokevirtual 81, 3) := by decide +kernel
theorem kd_prog_6_method_36_code_28 : decode prog_6_method_36_code 28 = .ok (.ireturn, 1) := by decide +kernel
theorem kd_prog_6_method_37_code_0 : decode prog_6_method_37_code 0 = .ok (.aload_n 0, 1) := by decide +kernel
theorem kd_prog_6_method_37_code_1 : decode prog_6_method_37_code 1 = .ok (.iconst 0, 1) := by decide +kernel
theorem kd_prog_6_method_37_code_2 : decode prog_6_method_37_code 2 = .ok (.putfield 74, 3) := by decide +kernel
theorem kd_prog_6_method_37_code_5 : decode prog_6_method_37_code 5 = .ok (.iload_n 1, 1) := by decide +kernel
theorem kd_prog_6_method_37_code_6 : decode prog_6_method_37_code 6 = .ok (.iconst 0, 1) := by decide +kernel
theorem kd_prog_6_method_37_code_7 : decode prog_6_method_37_code 7 = .ok (.aload_n 0, 1) := by decide +kernel
theorem kd_prog_6_method_37_code_8 : decode prog_6_method_37_code 8 = .ok (.getfield 89, 3) := by decide +kernel
theorem kd_prog_6_method_37_code_11 : decode prog_6_method_37_code 11 = .ok (.iconst 1, 1) := by decide +kernel
theorem kd_prog_6_method_37_code_12 : decode prog_6_method_37_code 12 = .ok (.isub, 1) := by decide +kernel
theorem kd_prog_6_method_37_code_13 : decode prog_6_method_37_code 13 = .ok (.invokestatic 92, 3) := by decide +kernel
theorem kd_prog_6_method_37_code_16 : decode prog_6_method_37_code 16 = .ok (.ifCond .eq 12, 3) := by decide +kernel
theorem kd_prog_6_method_37_code_19 : decode prog_6_method_37_code 19 = .ok (.aload_n 0, 1) := by decide +kernel
theorem kd_prog_6_method_37_code_20 : decode prog_6_method_37_code 20 = .ok (.getfield 68, 3) := by decide +kernel
theorem kd_prog_6_method_37_code_23 : decode prog_6_method_37_code 23 = .ok (.iload_n 1, 1) := by decide +kernel
theorem kd_prog_6_method_37_code_24 : decode prog_6_method_37_code 24 = .ok (.iaload, 1) := by decide +kernel
theorem kd_prog_6_method_37_code_25 : decode prog_6_method_37_code 25 = .ok (.goto 4, 3) := by decide +kernel
theorem kd_prog_6_method_37_code_28 : decode prog_6_method_37_code 28 = .ok (.iconst 0, 1) := by decide +kernel
theorem kd_prog_6_method_37_code_29 : decode prog_6_method_37_code 29 = .ok (.ireturn, 1) := by decide +kernel
theorem kd_prog_6_method_38_code_0 : decode prog_6_method_38_code 0 = .ok (.aload_n 0, 1) := by decide +kernel
theorem kd_prog_6_method_38_code_1 : decode prog_6_method_38_code 1 = .ok (.iconst 0, 1) := by decide +kernel
theorem kd_prog_6_method_38_code_2 : decode prog_6_method_38_code 2 = .ok (.putfield 74, 3) := by decide +kernel
theorem kd_prog_6_method_38_code_5 : decode prog_6_method_38_code 5 = .ok (.iload_n 1, 1) := by decide +kernel
theorem kd_prog_6_method_38_code_6 : decode prog_6_method_38_code 6 = .ok (.iconst 0, 1) := by decide +kernel
theorem kd_prog_6_method_38_code_7 : decode prog_6_method_38_code 7 = .ok (.iconst 3, 1) := by decide +kernel
theorem kd_prog_6_method_38_code_8 : decode prog_6_method_38_code 8 = .ok (.invokestatic 92, 3) := by decide +kernel
theorem kd_prog_6_method_38_code_11 : decode prog_6_method_38_code 11 = .ok (.ifCond .ne 9, 3) := by decide +kernel
theorem kd_prog_6_method_38_code_14 : decode prog_6_method_38_code 14 = .ok (.aload_n 0, 1) := by decide +kernel
theorem kd_prog_6_method_38_code_15 : decode prog_6_method_38_code 15 = .ok (.iconst 1, 1) := by decide +kernel
theorem kd_prog_6_method_38_code_16 : decode prog_6_method_38_code 16 = .ok (.invokevirtual 81, 3) := by decide +kernel
theorem kd_prog_6_method_38_code_19 : decode prog_6_method_38_code 19 = .ok (.ireturn, 1) := by decide +kernel
theorem kd_prog_6_method_38_code_20 : decode prog_6_method_38_code 20 = .ok (.iload_n 1, 1) := by decide +kernel
theorem kd_prog_6_method_38_code_21 : decode prog_6_method_38_code 21 = .ok (.ifCond .ne 10, 3) := by decide +kernel
theorem kd_prog_6_method_38_code_24 : decode prog_6_method_38_code 24 = .ok (.aload_n 0, 1) := by decide +kernel
theorem kd_prog_6_method_38_code_25 : decode prog_6_method_38_code 25 = .ok (.getfield 78, 3) := by decide +kernel
theorem kd_prog_6_method_38_code_28 : decode prog_6_method_38_code 28 = .ok (.goto 31, 3) := by decide +kernel
theorem kd_prog_6_method_38_code_31 : decode prog_6_method_38_code 31 = .ok (.iload_n 1, 1) := by decide +kernel
theorem kd_prog_6_method_38_code_32 : decode prog_6_method_38_code 32 = .ok (.iconst 1, 1) := by decide +kernel
theorem kd_prog_6_method_38_code_33 : decode prog_6_method_38_code 33 = .ok (.if_icmp .ne 10, 3) := by decide +kernel
theorem kd_prog_6_method_38_code_36 : decode prog_6_method_38_code 36 = .ok (.aload_n 0, 1) := by decide +kernel
theorem kd_prog_6_method_38_code_37 : decode prog_6_method_38_code 37 = .ok (.getfield 89, 3) := by decide +kernel
theorem kd_prog_6_method_38_code_40 : decode prog_6_method_38_code 40 = .ok (.goto 19, 3) := by decide +kernel
theorem kd_prog_6_method_38_code_43 : decode prog_6_method_38_code 43 = .ok (.iload_n 1, 1) := by decide +kernel
theorem kd_prog_6_method_38_code_44 : decode prog_6_method_38_code 44 = .ok (.iconst 2, 1) := by decide +kernel
theorem kd_prog_6_method_38_code_45 : decode prog_6_method_38_code 45 = .ok (.if_icmp .ne 10, 3) := by decide +kernel
theorem kd_prog_6_method_38_code_48 : decode prog_6_method_38_code 48 = .ok (.aload_n 0, 1) := by decide +kernel
theorem kd_prog_6_method_38_code_49 : decode prog_6_method_38_code 49 = .ok (.getfield 152, 3) := by decide +kernel
theorem kd_prog_6_method_38_code_52 : decode prog_6_method_38_code 52 = .ok (.goto 7, 3) := by decide +kernel
theorem kd_prog_6_method_38_code_55 : decode prog_6_method_38_code 55 = .ok (.aload_n 0, 1) := by decide +kernel
theorem kd_prog_6_method_38_code_56 : decode prog_6_method_38_code 56 = .ok (.getfield 172, 3) := by decide +kernel
theorem kd_prog_6_method_38_code_59 : decode prog_6_method_38_code 59 = .ok (.ireturn, 1) := by decide +kernel
section
variable {p : Program} {l : Launch} {e : Env} {R : Room} {s : State} {m : MethodId} {args : Array Value} {below : List Frame} {meth : Method} {c : Code} {Q : State → Prop} {ce sl : Nat} {D : va_G} {q : Nat → Nat} {cA : Nat → ClassId} {A : Nat → Prop}
set_option maxHeartbeats 4000000 in
set_option maxRecDepth 100000 in
theorem w_M_settle (hx : p.tables.exec = Jvm.exec) (hb : c.code = prog_6_method_20_code) (hml : c.maxLocals = 6) (hown : s.vm.findClass kr_M = some m.cls) (hts : ∀ w ∈ lw_g, w.before args s = true) (hRf : 5 ≤ R.frames) (hRl : 115 ≤ R.locals) (hce : ce ≤ R.cells) (hsl : sl ≤ R.slots) (hA : ∀ x, s.heap.size ≤ x → A x) (hK : va_K D wk_cl (tysW cA) s) (x1 : Int32) (z : Sta) (K : Sta → Prop) (h : wp_M_settle x1 z K) (hret : ∀ (u : Sta) (H : Heap) (locs : List Loc) (pc : Nat) (ls : Array Slot), K u → wk_S D q cA A s.heap u H locs → decode prog_6_method_20_code pc = .ok (.return_, 1) → W p l e R s m args below meth c H locs ce sl Q (F0 m pc ls [])) {H : Heap} {locs : List Loc} {ls : Array Slot} (hV : wk_S D q cA A s.heap z H locs) (hl : lv_has ls 6 [(0, .ref (q 4)), (1, .int x1)]) : W p l e R s m args below meth c H locs ce sl Q (F0 m 0 ls []) := by
  have L2 : ∀ (n : Nat) (x1 : Int32) (x2 : Int32) (z : Sta) (H : Heap) (locs : List Loc) (ls : Array Slot), wk_S D q cA A s.heap z H locs → lv_has ls 6 [(0, .ref (q 4)), (1, .int x1), (2, .int x2)] → lp_M_settle_2 K n x1 x2 z → W p l e R s m args below meth c H locs ce sl Q (F0 m 2 ls []) := by
    intro n2
    induction n2 with
    | zero => intro x1 x2 z H locs ls hV hl h; rw [lp_M_settle_2] at h; exact h.elim
    | succ n2 ih2 =>
      have L10 : ∀ (n : Nat) (x1 : Int32) (x2 : Int32) (x3 : Int32) (z : Sta) (H : Heap) (locs : List Loc) (ls : Array Slot), wk_S D q cA A s.heap z H locs → lv_has ls 6 [(0, .ref (q 4)), (1, .int x1), (2, .int x2), (3, .int x3)] → lp_M_settle_10 K (fun x1 x2 z => lp_M_settle_2 K n2 x1 x2 z) n x1 x2 x3 z → W p l e R s m args below meth c H locs ce sl Q (F0 m 10 ls []) := by
        intro n10
        induction n10 with
        | zero => intro x1 x2 x3 z H locs ls hV hl h; rw [lp_M_settle_10] at h; exact h.elim
        | succ n10 ih10 =>
          have J221 : ∀ (x1 : Int32) (x2 : Int32) (x3 : Int32) (z : Sta) (H : Heap) (locs : List Loc) (ls : Array Slot), wk_S D q cA A s.heap z H locs → lv_has ls 6 [(0, .ref (q 4)), (1, .int x1), (2, .int x2), (3, .int x3)] → pj_M_settle_221 K (fun x1 x2 x3 z => lp_M_settle_10 K (fun x1 x2 z => lp_M_settle_2 K n2 x1 x2 z) n10 x1 x2 x3 z) x1 x2 x3 z → W p l e R s m args below meth c H locs ce sl Q (F0 m 221 ls []) := by
            intro x1 x2 x3 z H locs ls hV hl h
            unfold pj_M_settle_221 at h
            obtain ⟨v16, ev16⟩ : ∃ v : Int32, v = x3 + 1 := ⟨_, rfl⟩
            have h := h v16 ev16
            refine lv_iinc (v := v16) (k := 3) hx hb kd_prog_6_method_20_code_221 hl rfl (by rw [ev16]; rfl) (by decide) rfl (fun ls hl => ?_)
            have hl : lv_has ls 6 [(3, .int v16), (0, .ref (q 4)), (1, .int x1), (2, .int x2)] := hl
            refine lv_goto (tgt := 10) hx hb kd_prog_6_method_20_code_224 (by decide) ?_
            exact ih10 x1 x2 v16 z H locs ls hV (lv_sub hl [1, 2, 3, 0] rfl) h
          have J208 : ∀ (x1 : Int32) (x2 : Int32) (x3 : Int32) (x5 : Int32) (z : Sta) (H : Heap) (locs : List Loc) (ls : Array Slot), wk_S D q cA A s.heap z H locs → lv_has ls 6 [(0, .ref (q 4)), (1, .int x1), (2, .int x2), (3, .int x3), (5, .int x5)] → pj_M_settle_208 K (fun x1 x2 x3 z => lp_M_settle_10 K (fun x1 x2 z => lp_M_settle_2 K n2 x1 x2 z) n10 x1 x2 x3 z) x1 x2 x3 x5 z → W p l e R s m args below meth c H locs ce sl Q (F0 m 208 ls []) := by
            intro x1 x2 x3 x5 z H locs ls hV hl h
            unfold pj_M_settle_208 at h
            refine lv_iload_n hx hb kd_prog_6_method_20_code_208 rfl (lv_at hl 1 rfl) ?_
            refine lv_iconst (v := 2) hx hb kd_prog_6_method_20_code_209 (by decide) ?_
            refine lv_icmp_ne (tgt := 221) hx hb kd_prog_6_method_20_code_210 (by decide) (fun hc => ?_) (fun hc => ?_)
            · have h := h.1 hc
              exact J221 x1 x2 x3 z H locs ls hV (lv_sub hl [0, 1, 2, 3] rfl) h
            · have h := h.2 hc
              refine lv_aload_n hx hb kd_prog_6_method_20_code_213 rfl (lv_at hl 0 rfl) ?_
              refine va_get (D := D) (ci := 4) (v := .ref (q 46)) (C := kr_M) (T := kt_M) (N := kn_M) hx hb hts ki_M hown hK hV.1 4 rfl rfl 22 (by decide) (hts _ hw_604) (fun _ h9 => h9) rfl kd_prog_6_method_20_code_214 ?_
              refine lv_iload_n hx hb kd_prog_6_method_20_code_217 rfl (lv_at hl 3 rfl) ?_
              refine lv_iload hx hb kd_prog_6_method_20_code_218 (lv_at hl 4 rfl) ?_
              obtain ⟨hin, h⟩ := h
              refine wk_zast hx hb hK hV 46 41 31 rfl rfl (ks_46 q cA z) hin kd_prog_6_method_20_code_220 (fun H locs hV => ?_)
              obtain ⟨z15, ez15⟩ : ∃ x : Sta, x = zA z 31 (upd (z.2.1 31) x3.toNatClampNeg (vp_nar .boolean x5)) := ⟨_, rfl⟩
              rw [← ez15] at hV
              have h := h z15 ez15
              exact J221 x1 x2 x3 z15 H locs ls hV (lv_sub hl [0, 1, 2, 3] rfl) h
          have J195 : ∀ (x1 : Int32) (x2 : Int32) (x3 : Int32) (x5 : Int32) (z : Sta) (H : Heap) (locs : List Loc) (ls : Array Slot), wk_S D q cA A s.heap z H locs → lv_has ls 6 [(0, .ref (q 4)), (1, .int x1), (2, .int x2), (3, .int x3), (5, .int x5)] → pj_M_settle_195 K (fun x1 x2 x3 z => lp_M_settle_10 K (fun x1 x2 z => lp_M_settle_2 K n2 x1 x2 z) n10 x1 x2 x3 z) x1 x2 x3 x5 z → W p l e R s m args below meth c H locs ce sl Q (F0 m 195 ls []) := by
            intro x1 x2 x3 x5 z H locs ls hV hl h
            unfold pj_M_settle_195 at h
            refine lv_iload_n hx hb kd_prog_6_method_20_code_195 rfl (lv_at hl 1 rfl) ?_
            refine lv_iconst (v := 1) hx hb kd_prog_6_method_20_code_196 (by decide) ?_
            refine lv_icmp_ne (tgt := 208) hx hb kd_prog_6_method_20_code_197 (by decide) (fun hc => ?_) (fun hc => ?_)
            · have h := h.1 hc
              exact J208 x1 x2 x3 x5 z H locs ls hV (lv_sub hl [0, 1, 2, 3, 4] rfl) h
            · have h := h.2 hc
              refine lv_aload_n hx hb kd_prog_6_method_20_code_200 rfl (lv_at hl 0 rfl) ?_
              refine va_get (D := D) (ci := 4) (v := .ref (q 44)) (C := kr_M) (T := kt_M) (N := kn_M) hx hb hts ki_M hown hK hV.1 4 rfl rfl 20 (by decide) (hts _ hw_602) (fun _ h9 => h9) rfl kd_prog_6_method_20_code_201 ?_
              refine lv_iload_n hx hb kd_prog_6_method_20_code_204 rfl (lv_at hl 3 rfl) ?_
              refine lv_iload hx hb kd_prog_6_method_20_code_205 (lv_at hl 4 rfl) ?_
              obtain ⟨hin, h⟩ := h
              refine wk_zast hx hb hK hV 44 39 29 rfl rfl (ks_44 q cA z) hin kd_prog_6_method_20_code_207 (fun H locs hV => ?_)
              obtain ⟨z14, ez14⟩ : ∃ x : Sta, x = zA z 29 (upd (z.2.1 29) x3.toNatClampNeg (vp_nar .boolean x5)) := ⟨_, rfl⟩
              rw [← ez14] at hV
              have h := h z14 ez14
              exact J208 x1 x2 x3 x5 z14 H locs ls hV (lv_sub hl [0, 1, 2, 3, 4] rfl) h
          have J182 : ∀ (x1 : Int32) (x3 : Int32) (x5 : Int32) (y0 : Int32) (z : Sta) (H : Heap) (locs : List Loc) (ls : Array Slot), wk_S D q cA A s.heap z H locs → lv_has ls 6 [(0, .ref (q 4)), (1, .int x1), (3, .int x3), (5, .int x5)] → pj_M_settle_182 K (fun x1 x2 x3 z => lp_M_settle_10 K (fun x1 x2 z => lp_M_settle_2 K n2 x1 x2 z) n10 x1 x2 x3 z) x1 x3 x5 y0 z → W p l e R s m args below meth c H locs ce sl Q (F0 m 182 ls [.int y0]) := by
            intro x1 x3 x5 y0 z H locs ls hV hl h
            unfold pj_M_settle_182 at h
            refine lv_istore_n hx hb kd_prog_6_method_20_code_182 rfl hl (by decide) rfl (fun ls hl => ?_)
            have hl : lv_has ls 6 [(2, .int y0), (0, .ref (q 4)), (1, .int x1), (3, .int x3), (5, .int x5)] := hl
            refine lv_iload_n hx hb kd_prog_6_method_20_code_183 rfl (lv_at hl 2 rfl) ?_
            refine lv_if_ne (tgt := 195) hx hb kd_prog_6_method_20_code_184 (by decide) (fun hc => ?_) (fun hc => ?_)
            · have h := h.1 hc
              exact J195 x1 y0 x3 x5 z H locs ls hV (lv_sub hl [1, 2, 0, 3, 4] rfl) h
            · have h := h.2 hc
              refine lv_aload_n hx hb kd_prog_6_method_20_code_187 rfl (lv_at hl 1 rfl) ?_
              refine va_get (D := D) (ci := 4) (v := .ref (q 43)) (C := kr_M) (T := kt_M) (N := kn_M) hx hb hts ki_M hown hK hV.1 4 rfl rfl 19 (by decide) (hts _ hw_601) (fun _ h9 => h9) rfl kd_prog_6_method_20_code_188 ?_
              refine lv_iload_n hx hb kd_prog_6_method_20_code_191 rfl (lv_at hl 3 rfl) ?_
              refine lv_iload hx hb kd_prog_6_method_20_code_192 (lv_at hl 4 rfl) ?_
              obtain ⟨hin, h⟩ := h
              refine wk_zast hx hb hK hV 43 38 28 rfl rfl (ks_43 q cA z) hin kd_prog_6_method_20_code_194 (fun H locs hV => ?_)
              obtain ⟨z13, ez13⟩ : ∃ x : Sta, x = zA z 28 (upd (z.2.1 28) x3.toNatClampNeg (vp_nar .boolean x5)) := ⟨_, rfl⟩
              rw [← ez13] at hV
              have h := h z13 ez13
              exact J195 x1 y0 x3 x5 z13 H locs ls hV (lv_sub hl [1, 2, 0, 3, 4] rfl) h
          have J181 : ∀ (x1 : Int32) (x3 : Int32) (x5 : Int32) (z : Sta) (H : Heap) (locs : List Loc) (ls : Array Slot), wk_S D q cA A s.heap z H locs → lv_has ls 6 [(0, .ref (q 4)), (1, .int x1), (3, .int x3), (5, .int x5)] → pj_M_settle_181 K (fun x1 x2 x3 z => lp_M_settle_10 K (fun x1 x2 z => lp_M_settle_2 K n2 x1 x2 z) n10 x1 x2 x3 z) x1 x3 x5 z → W p l e R s m args below meth c H locs ce sl Q (F0 m 181 ls []) := by
            intro x1 x3 x5 z H locs ls hV hl h
            unfold pj_M_settle_181 at h
            refine lv_iconst (v := 0) hx hb kd_prog_6_method_20_code_181 (by decide) ?_
            exact J182 x1 x3 x5 0 z H locs ls hV (lv_sub hl [0, 1, 2, 3] rfl) h
          have J177 : ∀ (x1 : Int32) (x3 : Int32) (x5 : Int32) (z : Sta) (H : Heap) (locs : List Loc) (ls : Array Slot), wk_S D q cA A s.heap z H locs → lv_has ls 6 [(0, .ref (q 4)), (1, .int x1), (3, .int x3), (5, .int x5)] → pj_M_settle_177 K (fun x1 x2 x3 z => lp_M_settle_10 K (fun x1 x2 z => lp_M_settle_2 K n2 x1 x2 z) n10 x1 x2 x3 z) x1 x3 x5 z → W p l e R s m args below meth c H locs ce sl Q (F0 m 177 ls []) := by
            intro x1 x3 x5 z H locs ls hV hl h
            unfold pj_M_settle_177 at h
            refine lv_iconst (v := 1) hx hb kd_prog_6_method_20_code_177 (by decide) ?_
            refine lv_goto (tgt := 182) hx hb kd_prog_6_method_20_code_178 (by decide) ?_
            exact J182 x1 x3 x5 1 z H locs ls hV (lv_sub hl [0, 1, 2, 3] rfl) h
          have J161 : ∀ (x1 : Int32) (x2 : Int32) (x3 : Int32) (x4 : Int32) (y0 : Int32) (z : Sta) (H : Heap) (locs : List Loc) (ls : Array Slot), wk_S D q cA A s.heap z H locs → lv_has ls 6 [(0, .ref (q 4)), (1, .int x1), (2, .int x2), (3, .int x3), (4, .int x4)] → pj_M_settle_161 K (fun x1 x2 x3 z => lp_M_settle_10 K (fun x1 x2 z => lp_M_settle_2 K n2 x1 x2 z) n10 x1 x2 x3 z) x1 x2 x3 x4 y0 z → W p l e R s m args below meth c H locs ce sl Q (F0 m 161 ls [.int y0]) := by
            intro x1 x2 x3 x4 y0 z H locs ls hV hl h
            unfold pj_M_settle_161 at h
            refine lv_istore hx hb kd_prog_6_method_20_code_161 hl (by decide) rfl (fun ls hl => ?_)
            have hl : lv_has ls 6 [(5, .int y0), (0, .ref (q 4)), (1, .int x1), (2, .int x2), (3, .int x3), (4, .int x4)] := hl
            refine lv_iload_n hx hb kd_prog_6_method_20_code_163 rfl (lv_at hl 3 rfl) ?_
            refine lv_if_ne (tgt := 177) hx hb kd_prog_6_method_20_code_164 (by decide) (fun hc => ?_) (fun hc => ?_)
            · have h := h.1 hc
              exact J177 x1 x3 y0 z H locs ls hV (lv_sub hl [1, 2, 4, 0] rfl) h
            · have h := h.2 hc
              refine lv_iload hx hb kd_prog_6_method_20_code_167 (lv_at hl 5 rfl) ?_
              refine lv_if_eq (tgt := 181) hx hb kd_prog_6_method_20_code_169 (by decide) (fun hc => ?_) (fun hc => ?_)
              · have h := h.1 hc
                exact J181 x1 x3 y0 z H locs ls hV (lv_sub hl [1, 2, 4, 0] rfl) h
              · have h := h.2 hc
                refine lv_iload hx hb kd_prog_6_method_20_code_172 (lv_at hl 0 rfl) ?_
                refine lv_if_ne (tgt := 181) hx hb kd_prog_6_method_20_code_174 (by decide) (fun hc => ?_) (fun hc => ?_)
                · have h := h.1 hc
                  exact J181 x1 x3 y0 z H locs ls hV (lv_sub hl [1, 2, 4, 0] rfl) h
                · have h := h.2 hc
                  exact J177 x1 x3 y0 z H locs ls hV (lv_sub hl [1, 2, 4, 0] rfl) h
          have J160 : ∀ (x1 : Int32) (x2 : Int32) (x3 : Int32) (x4 : Int32) (z : Sta) (H : Heap) (locs : List Loc) (ls : Array Slot), wk_S D q cA A s.heap z H locs → lv_has ls 6 [(0, .ref (q 4)), (1, .int x1), (2, .int x2), (3, .int x3), (4, .int x4)] → pj_M_settle_160 K (fun x1 x2 x3 z => lp_M_settle_10 K (fun x1 x2 z => lp_M_settle_2 K n2 x1 x2 z) n10 x1 x2 x3 z) x1 x2 x3 x4 z → W p l e R s m args below meth c H locs ce sl Q (F0 m 160 ls []) := by
            intro x1 x2 x3 x4 z H locs ls hV hl h
            unfold pj_M_settle_160 at h
            refine lv_iconst (v := 0) hx hb kd_prog_6_method_20_code_160 (by decide) ?_
            exact J161 x1 x2 x3 x4 0 z H locs ls hV (lv_sub hl [0, 1, 2, 3, 4] rfl) h
          have J156 : ∀ (x1 : Int32) (x2 : Int32) (x3 : Int32) (x4 : Int32) (z : Sta) (H : Heap) (locs : List Loc) (ls : Array Slot), wk_S D q cA A s.heap z H locs → lv_has ls 6 [(0, .ref (q 4)), (1, .int x1), (2, .int x2), (3, .int x3), (4, .int x4)] → pj_M_settle_156 K (fun x1 x2 x3 z => lp_M_settle_10 K (fun x1 x2 z => lp_M_settle_2 K n2 x1 x2 z) n10 x1 x2 x3 z) x1 x2 x3 x4 z → W p l e R s m args below meth c H locs ce sl Q (F0 m 156 ls []) := by
            intro x1 x2 x3 x4 z H locs ls hV hl h
            unfold pj_M_settle_156 at h
            refine lv_iconst (v := 1) hx hb kd_prog_6_method_20_code_156 (by decide) ?_
            refine lv_goto (tgt := 161) hx hb kd_prog_6_method_20_code_157 (by decide) ?_
            exact J161 x1 x2 x3 x4 1 z H locs ls hV (lv_sub hl [0, 1, 2, 3, 4] rfl) h
          have J74 : ∀ (x1 : Int32) (x2 : Int32) (x3 : Int32) (y0 : Int32) (z : Sta) (H : Heap) (locs : List Loc) (ls : Array Slot), wk_S D q cA A s.heap z H locs → lv_has ls 6 [(0, .ref (q 4)), (1, .int x1), (2, .int x2), (3, .int x3)] → pj_M_settle_74 K (fun x1 x2 x3 z => lp_M_settle_10 K (fun x1 x2 z => lp_M_settle_2 K n2 x1 x2 z) n10 x1 x2 x3 z) x1 x2 x3 y0 z → W p l e R s m args below meth c H locs ce sl Q (F0 m 74 ls [.int y0]) := by
            intro x1 x2 x3 y0 z H locs ls hV hl h
            unfold pj_M_settle_74 at h
            refine lv_istore hx hb kd_prog_6_method_20_code_74 hl (by decide) rfl (fun ls hl => ?_)
            have hl : lv_has ls 6 [(4, .int y0), (0, .ref (q 4)), (1, .int x1), (2, .int x2), (3, .int x3)] := hl
            refine lv_iload hx hb kd_prog_6_method_20_code_76 (lv_at hl 0 rfl) ?_
            refine lv_if_eq (tgt := 160) hx hb kd_prog_6_method_20_code_78 (by decide) (fun hc => ?_) (fun hc => ?_)
            · have h := h.1 hc
              exact J160 x1 x2 x3 y0 z H locs ls hV (lv_sub hl [1, 2, 3, 4, 0] rfl) h
            · have h := h.2 hc
              refine lv_iload_n hx hb kd_prog_6_method_20_code_81 rfl (lv_at hl 2 rfl) ?_
              refine lv_if_ne (tgt := 114) hx hb kd_prog_6_method_20_code_82 (by decide) (fun hc => ?_) (fun hc => ?_)
              · have h := h.1 hc
                refine lv_iload_n hx hb kd_prog_6_method_20_code_114 rfl (lv_at hl 2 rfl) ?_
                refine lv_iconst (v := 1) hx hb kd_prog_6_method_20_code_115 (by decide) ?_
                refine lv_icmp_ne (tgt := 148) hx hb kd_prog_6_method_20_code_116 (by decide) (fun hc => ?_) (fun hc => ?_)
                · have h := h.1 hc
                  refine lv_aload_n hx hb kd_prog_6_method_20_code_148 rfl (lv_at hl 1 rfl) ?_
                  refine lv_iload_n hx hb kd_prog_6_method_20_code_149 rfl (lv_at hl 4 rfl) ?_
                  refine wk_calli (va_runV (As := [.int x3]) (rest := []) ⟨hx, hb, hml, hown, hts⟩ (c_M_lateBefore l D q cA x3 z H.size _ h) (cwV 1 hts gs_M_124 rfl rfl rfl (by decide +kernel) ⟨Nat.le_trans (by decide) hRf, Nat.le_trans (by decide) hRl⟩) (wk_preV hK hV 4 4 rfl rfl [.int x3]) rfl rfl hl.1 rfl (lv_room (Nat.le_of_ble_eq_true rfl)) kd_prog_6_method_20_code_150 ⟨hce, hsl⟩) hV hA (fun rz6 z6 H locs h hV => ?_)
                  refine lv_if_eq (tgt := 160) hx hb kd_prog_6_method_20_code_153 (by decide) (fun hc => ?_) (fun hc => ?_)
                  · have h := h.1 hc
                    exact J160 x1 x2 x3 y0 z6 H locs ls hV (lv_sub hl [1, 2, 3, 4, 0] rfl) h
                  · have h := h.2 hc
                    exact J156 x1 x2 x3 y0 z6 H locs ls hV (lv_sub hl [1, 2, 3, 4, 0] rfl) h
                · have h := h.2 hc
                  refine lv_aload_n hx hb kd_prog_6_method_20_code_119 rfl (lv_at hl 1 rfl) ?_
                  refine va_get (D := D) (ci := 4) (v := .ref (q 40)) (C := kr_M) (T := kt_M) (N := kn_M) hx hb hts ki_M hown hK hV.1 4 rfl rfl 16 (by decide) (hts _ hw_598) (fun _ h9 => h9) rfl kd_prog_6_method_20_code_120 ?_
                  refine lv_iload_n hx hb kd_prog_6_method_20_code_123 rfl (lv_at hl 4 rfl) ?_
                  obtain ⟨hin, h⟩ := h
                  refine va_zald hx hb hK hV.1 40 35 rfl rfl hin kd_prog_6_method_20_code_124 ?_
                  refine lv_topi (fun v7 ev7 => ?_)
                  have h := h v7 ev7
                  refine lv_if_ne (tgt := 156) hx hb kd_prog_6_method_20_code_125 (by decide) (fun hc => ?_) (fun hc => ?_)
                  · have h := h.1 hc
                    exact J156 x1 x2 x3 y0 z H locs ls hV (lv_sub hl [1, 2, 3, 4, 0] rfl) h
                  · have h := h.2 hc
                    refine lv_aload_n hx hb kd_prog_6_method_20_code_128 rfl (lv_at hl 1 rfl) ?_
                    refine lv_iload_n hx hb kd_prog_6_method_20_code_129 rfl (lv_at hl 4 rfl) ?_
                    refine wk_calli (va_runV (As := [.int x3]) (rest := []) ⟨hx, hb, hml, hown, hts⟩ (c_M_wantedBehind l D q cA x3 z H.size _ h) (cwV 1 hts gs_M_111 rfl rfl rfl (by decide +kernel) ⟨Nat.le_trans (by decide) hRf, Nat.le_trans (by decide) hRl⟩) (wk_preV hK hV 4 4 rfl rfl [.int x3]) rfl rfl hl.1 rfl (lv_room (Nat.le_of_ble_eq_true rfl)) kd_prog_6_method_20_code_130 ⟨hce, hsl⟩) hV hA (fun rz8 z8 H locs h hV => ?_)
                    refine lv_if_eq (tgt := 160) hx hb kd_prog_6_method_20_code_133 (by decide) (fun hc => ?_) (fun hc => ?_)
                    · have h := h.1 hc
                      exact J160 x1 x2 x3 y0 z8 H locs ls hV (lv_sub hl [1, 2, 3, 4, 0] rfl) h
                    · have h := h.2 hc
                      refine lv_aload_n hx hb kd_prog_6_method_20_code_136 rfl (lv_at hl 1 rfl) ?_
                      refine va_get (D := D) (ci := 4) (v := .ref (q 39)) (C := kr_M) (T := kt_M) (N := kn_M) hx hb hts ki_M hown hK hV.1 4 rfl rfl 15 (by decide) (hts _ hw_597) (fun _ h9 => h9) rfl kd_prog_6_method_20_code_137 ?_
                      refine lv_iload_n hx hb kd_prog_6_method_20_code_140 rfl (lv_at hl 4 rfl) ?_
                      obtain ⟨hin, h⟩ := h
                      refine va_zald hx hb hK hV.1 39 34 rfl rfl hin kd_prog_6_method_20_code_141 ?_
                      refine lv_topi (fun v9 ev9 => ?_)
                      have h := h v9 ev9
                      refine lv_if_ne (tgt := 160) hx hb kd_prog_6_method_20_code_142 (by decide) (fun hc => ?_) (fun hc => ?_)
                      · have h := h.1 hc
                        exact J160 x1 x2 x3 y0 z8 H locs ls hV (lv_sub hl [1, 2, 3, 4, 0] rfl) h
                      · have h := h.2 hc
                        refine lv_goto (tgt := 156) hx hb kd_prog_6_method_20_code_145 (by decide) ?_
                        exact J156 x1 x2 x3 y0 z8 H locs ls hV (lv_sub hl [1, 2, 3, 4, 0] rfl) h
              · have h := h.2 hc
                refine lv_aload_n hx hb kd_prog_6_method_20_code_85 rfl (lv_at hl 1 rfl) ?_
                refine va_get (D := D) (ci := 4) (v := .ref (q 41)) (C := kr_M) (T := kt_M) (N := kn_M) hx hb hts ki_M hown hK hV.1 4 rfl rfl 17 (by decide) (hts _ hw_599) (fun _ h9 => h9) rfl kd_prog_6_method_20_code_86 ?_
                refine lv_iload_n hx hb kd_prog_6_method_20_code_89 rfl (lv_at hl 4 rfl) ?_
                obtain ⟨hin, h⟩ := h
                refine va_zald hx hb hK hV.1 41 36 rfl rfl hin kd_prog_6_method_20_code_90 ?_
                refine lv_topi (fun v10 ev10 => ?_)
                have h := h v10 ev10
                refine lv_if_ne (tgt := 156) hx hb kd_prog_6_method_20_code_91 (by decide) (fun hc => ?_) (fun hc => ?_)
                · have h := h.1 hc
                  exact J156 x1 x2 x3 y0 z H locs ls hV (lv_sub hl [1, 2, 3, 4, 0] rfl) h
                · have h := h.2 hc
                  refine lv_aload_n hx hb kd_prog_6_method_20_code_94 rfl (lv_at hl 1 rfl) ?_
                  refine lv_iload_n hx hb kd_prog_6_method_20_code_95 rfl (lv_at hl 4 rfl) ?_
                  refine wk_calli (va_runV (As := [.int x3]) (rest := []) ⟨hx, hb, hml, hown, hts⟩ (c_M_thereBefore l D q cA x3 z H.size _ h) (cwV 1 hts gs_M_121 rfl rfl rfl (by decide +kernel) ⟨Nat.le_trans (by decide) hRf, Nat.le_trans (by decide) hRl⟩) (wk_preV hK hV 4 4 rfl rfl [.int x3]) rfl rfl hl.1 rfl (lv_room (Nat.le_of_ble_eq_true rfl)) kd_prog_6_method_20_code_96 ⟨hce, hsl⟩) hV hA (fun rz11 z11 H locs h hV => ?_)
                  refine lv_if_eq (tgt := 160) hx hb kd_prog_6_method_20_code_99 (by decide) (fun hc => ?_) (fun hc => ?_)
                  · have h := h.1 hc
                    exact J160 x1 x2 x3 y0 z11 H locs ls hV (lv_sub hl [1, 2, 3, 4, 0] rfl) h
                  · have h := h.2 hc
                    refine lv_aload_n hx hb kd_prog_6_method_20_code_102 rfl (lv_at hl 1 rfl) ?_
                    refine va_get (D := D) (ci := 4) (v := .ref (q 39)) (C := kr_M) (T := kt_M) (N := kn_M) hx hb hts ki_M hown hK hV.1 4 rfl rfl 15 (by decide) (hts _ hw_597) (fun _ h9 => h9) rfl kd_prog_6_method_20_code_103 ?_
                    refine lv_iload_n hx hb kd_prog_6_method_20_code_106 rfl (lv_at hl 4 rfl) ?_
                    obtain ⟨hin, h⟩ := h
                    refine va_zald hx hb hK hV.1 39 34 rfl rfl hin kd_prog_6_method_20_code_107 ?_
                    refine lv_topi (fun v12 ev12 => ?_)
                    have h := h v12 ev12
                    refine lv_if_ne (tgt := 160) hx hb kd_prog_6_method_20_code_108 (by decide) (fun hc => ?_) (fun hc => ?_)
                    · have h := h.1 hc
                      exact J160 x1 x2 x3 y0 z11 H locs ls hV (lv_sub hl [1, 2, 3, 4, 0] rfl) h
                    · have h := h.2 hc
                      refine lv_goto (tgt := 156) hx hb kd_prog_6_method_20_code_111 (by decide) ?_
                      exact J156 x1 x2 x3 y0 z11 H locs ls hV (lv_sub hl [1, 2, 3, 4, 0] rfl) h
          have J73 : ∀ (x1 : Int32) (x2 : Int32) (x3 : Int32) (z : Sta) (H : Heap) (locs : List Loc) (ls : Array Slot), wk_S D q cA A s.heap z H locs → lv_has ls 6 [(0, .ref (q 4)), (1, .int x1), (2, .int x2), (3, .int x3)] → pj_M_settle_73 K (fun x1 x2 x3 z => lp_M_settle_10 K (fun x1 x2 z => lp_M_settle_2 K n2 x1 x2 z) n10 x1 x2 x3 z) x1 x2 x3 z → W p l e R s m args below meth c H locs ce sl Q (F0 m 73 ls []) := by
            intro x1 x2 x3 z H locs ls hV hl h
            unfold pj_M_settle_73 at h
            refine lv_iconst (v := 0) hx hb kd_prog_6_method_20_code_73 (by decide) ?_
            exact J74 x1 x2 x3 0 z H locs ls hV (lv_sub hl [0, 1, 2, 3] rfl) h
          have J69 : ∀ (x1 : Int32) (x2 : Int32) (x3 : Int32) (z : Sta) (H : Heap) (locs : List Loc) (ls : Array Slot), wk_S D q cA A s.heap z H locs → lv_has ls 6 [(0, .ref (q 4)), (1, .int x1), (2, .int x2), (3, .int x3)] → pj_M_settle_69 K (fun x1 x2 x3 z => lp_M_settle_10 K (fun x1 x2 z => lp_M_settle_2 K n2 x1 x2 z) n10 x1 x2 x3 z) x1 x2 x3 z → W p l e R s m args below meth c H locs ce sl Q (F0 m 69 ls []) := by
            intro x1 x2 x3 z H locs ls hV hl h
            unfold pj_M_settle_69 at h
            refine lv_iconst (v := 1) hx hb kd_prog_6_method_20_code_69 (by decide) ?_
            refine lv_goto (tgt := 74) hx hb kd_prog_6_method_20_code_70 (by decide) ?_
            exact J74 x1 x2 x3 1 z H locs ls hV (lv_sub hl [0, 1, 2, 3] rfl) h
          intro x1 x2 x3 z H locs ls hV hl h
          rw [lp_M_settle_10] at h
          refine lv_iload_n hx hb kd_prog_6_method_20_code_10 rfl (lv_at hl 3 rfl) ?_
          refine lv_aload_n hx hb kd_prog_6_method_20_code_11 rfl (lv_at hl 0 rfl) ?_
          refine va_get (D := D) (ci := 4) (v := .int (z.1 8)) (C := kr_M) (T := kt_M) (N := kn_M) hx hb hts ki_M hown hK hV.1 4 rfl rfl 1 (by decide) (hts _ hw_583) (fun _ h9 => h9) rfl kd_prog_6_method_20_code_12 ?_
          refine lv_topi (fun v1 ev1 => ?_)
          have h := h v1 ev1
          refine lv_icmp_ge (tgt := 227) hx hb kd_prog_6_method_20_code_15 (by decide) (fun hc => ?_) (fun hc => ?_)
          · have h := h.1 hc
            refine lv_goto (tgt := 2) hx hb kd_prog_6_method_20_code_227 (by decide) ?_
            exact ih2 x1 x2 z H locs ls hV (lv_sub hl [0, 1, 2] rfl) h
          · have h := h.2 hc
            refine lv_aload_n hx hb kd_prog_6_method_20_code_18 rfl (lv_at hl 0 rfl) ?_
            refine va_get (D := D) (ci := 4) (v := .ref (q 36)) (C := kr_M) (T := kt_M) (N := kn_M) hx hb hts ki_M hown hK hV.1 4 rfl rfl 12 (by decide) (hts _ hw_594) (fun _ h9 => h9) rfl kd_prog_6_method_20_code_19 ?_
            refine lv_iload_n hx hb kd_prog_6_method_20_code_22 rfl (lv_at hl 3 rfl) ?_
            obtain ⟨hin, h⟩ := h
            refine va_zald hx hb hK hV.1 36 31 rfl rfl hin kd_prog_6_method_20_code_23 ?_
            refine lv_topi (fun v2 ev2 => ?_)
            have h := h v2 ev2
            refine lv_if_eq (tgt := 73) hx hb kd_prog_6_method_20_code_24 (by decide) (fun hc => ?_) (fun hc => ?_)
            · have h := h.1 hc
              exact J73 x1 x2 x3 z H locs ls hV (lv_sub hl [0, 1, 2, 3] rfl) h
            · have h := h.2 hc
              refine lv_iload_n hx hb kd_prog_6_method_20_code_27 rfl (lv_at hl 1 rfl) ?_
              refine lv_if_ne (tgt := 43) hx hb kd_prog_6_method_20_code_28 (by decide) (fun hc => ?_) (fun hc => ?_)
              · have h := h.1 hc
                refine lv_iload_n hx hb kd_prog_6_method_20_code_43 rfl (lv_at hl 1 rfl) ?_
                refine lv_iconst (v := 1) hx hb kd_prog_6_method_20_code_44 (by decide) ?_
                refine lv_icmp_ne (tgt := 60) hx hb kd_prog_6_method_20_code_45 (by decide) (fun hc => ?_) (fun hc => ?_)
                · have h := h.1 hc
                  refine lv_aload_n hx hb kd_prog_6_method_20_code_60 rfl (lv_at hl 0 rfl) ?_
                  refine va_get (D := D) (ci := 4) (v := .ref (q 46)) (C := kr_M) (T := kt_M) (N := kn_M) hx hb hts ki_M hown hK hV.1 4 rfl rfl 22 (by decide) (hts _ hw_604) (fun _ h9 => h9) rfl kd_prog_6_method_20_code_61 ?_
                  refine lv_iload_n hx hb kd_prog_6_method_20_code_64 rfl (lv_at hl 3 rfl) ?_
                  obtain ⟨hin, h⟩ := h
                  refine va_zald hx hb hK hV.1 46 41 rfl rfl hin kd_prog_6_method_20_code_65 ?_
                  refine lv_topi (fun v3 ev3 => ?_)
                  have h := h v3 ev3
                  refine lv_if_eq (tgt := 73) hx hb kd_prog_6_method_20_code_66 (by decide) (fun hc => ?_) (fun hc => ?_)
                  · have h := h.1 hc
                    exact J73 x1 x2 x3 z H locs ls hV (lv_sub hl [0, 1, 2, 3] rfl) h
                  · have h := h.2 hc
                    exact J69 x1 x2 x3 z H locs ls hV (lv_sub hl [0, 1, 2, 3] rfl) h
                · have h := h.2 hc
                  refine lv_aload_n hx hb kd_prog_6_method_20_code_48 rfl (lv_at hl 0 rfl) ?_
                  refine va_get (D := D) (ci := 4) (v := .ref (q 44)) (C := kr_M) (T := kt_M) (N := kn_M) hx hb hts ki_M hown hK hV.1 4 rfl rfl 20 (by decide) (hts _ hw_602) (fun _ h9 => h9) rfl kd_prog_6_method_20_code_49 ?_
                  refine lv_iload_n hx hb kd_prog_6_method_20_code_52 rfl (lv_at hl 3 rfl) ?_
                  obtain ⟨hin, h⟩ := h
                  refine va_zald hx hb hK hV.1 44 39 rfl rfl hin kd_prog_6_method_20_code_53 ?_
                  refine lv_topi (fun v4 ev4 => ?_)
                  have h := h v4 ev4
                  refine lv_if_eq (tgt := 73) hx hb kd_prog_6_method_20_code_54 (by decide) (fun hc => ?_) (fun hc => ?_)
                  · have h := h.1 hc
                    exact J73 x1 x2 x3 z H locs ls hV (lv_sub hl [0, 1, 2, 3] rfl) h
                  · have h := h.2 hc
                    refine lv_goto (tgt := 69) hx hb kd_prog_6_method_20_code_57 (by decide) ?_
                    exact J69 x1 x2 x3 z H locs ls hV (lv_sub hl [0, 1, 2, 3] rfl) h
              · have h := h.2 hc
                refine lv_aload_n hx hb kd_prog_6_method_20_code_31 rfl (lv_at hl 0 rfl) ?_
                refine va_get (D := D) (ci := 4) (v := .ref (q 43)) (C := kr_M) (T := kt_M) (N := kn_M) hx hb hts ki_M hown hK hV.1 4 rfl rfl 19 (by decide) (hts _ hw_601) (fun _ h9 => h9) rfl kd_prog_6_method_20_code_32 ?_
                refine lv_iload_n hx hb kd_prog_6_method_20_code_35 rfl (lv_at hl 3 rfl) ?_
                obtain ⟨hin, h⟩ := h
                refine va_zald hx hb hK hV.1 43 38 rfl rfl hin kd_prog_6_method_20_code_36 ?_
                refine lv_topi (fun v5 ev5 => ?_)
                have h := h v5 ev5
                refine lv_if_eq (tgt := 73) hx hb kd_prog_6_method_20_code_37 (by decide) (fun hc => ?_) (fun hc => ?_)
                · have h := h.1 hc
                  exact J73 x1 x2 x3 z H locs ls hV (lv_sub hl [0, 1, 2, 3] rfl) h
                · have h := h.2 hc
                  refine lv_goto (tgt := 69) hx hb kd_prog_6_method_20_code_40 (by decide) ?_
                  exact J69 x1 x2 x3 z H locs ls hV (lv_sub hl [0, 1, 2, 3] rfl) h
      intro x1 x2 z H locs ls hV hl h
      rw [lp_M_settle_2] at h
      refine lv_iload_n hx hb kd_prog_6_method_20_code_2 rfl (lv_at hl 2 rfl) ?_
      refine lv_if_eq (tgt := 230) hx hb kd_prog_6_method_20_code_3 (by decide) (fun hc => ?_) (fun hc => ?_)
      · have h := h.1 hc
        exact hret z H locs 230 ls h hV kd_prog_6_method_20_code_230
      · have h := h.2 hc
        refine lv_iconst (v := 0) hx hb kd_prog_6_method_20_code_6 (by decide) ?_
        refine lv_istore_n hx hb kd_prog_6_method_20_code_7 rfl hl (by decide) rfl (fun ls hl => ?_)
        have hl : lv_has ls 6 [(2, .int 0), (0, .ref (q 4)), (1, .int x1)] := hl
        refine lv_iconst (v := 0) hx hb kd_prog_6_method_20_code_8 (by decide) ?_
        refine lv_istore_n hx hb kd_prog_6_method_20_code_9 rfl hl (by decide) rfl (fun ls hl => ?_)
        have hl : lv_has ls 6 [(3, .int 0), (2, .int 0), (0, .ref (q 4)), (1, .int x1)] := hl
        obtain ⟨n10, h⟩ := h
        exact L10 n10 x1 0 0 z H locs ls hV (lv_sub hl [2, 3, 1, 0] rfl) h
  unfold wp_M_settle at h
  refine lv_iconst (v := 1) hx hb kd_prog_6_method_20_code_0 (by decide) ?_
  refine lv_istore_n hx hb kd_prog_6_method_20_code_1 rfl hl (by decide) rfl (fun ls hl => ?_)
  have hl : lv_has ls 6 [(2, .int 1), (0, .ref (q 4)), (1, .int x1)] := hl
  obtain ⟨n2, h⟩ := h
  exact L2 n2 x1 1 z H locs ls hV (lv_sub hl [1, 2, 0] rfl) h
end
set_option maxHeartbeats 4000000 in
set_option maxRecDepth 100000 in
theorem c_M_settle (l : Launch) (D : va_G) (q : Nat → Nat) (cA : Nat → ClassId) (x1 : Int32) (z : Sta) (sz : Nat) (K : Sta → Prop) (h : wp_M_settle x1 z K) : Met l ke_M_settle (kc_M_settle :: lw_g) { frames := 5, cells := 0, slots := 0, locals := 115 } (wk_Pc D q cA [.ref (q 4), .int x1] z sz) (va_Qv K (wk_B D q cA (va_A (wW q cA z) sz)) (va_A (wW q cA z) sz)) 0 0 (va_A (wW q cA z) sz) := by
  refine Met.ofW (cc := prog_6_method_20_code) (maxL := 6) (ret := none) (by decide) rfl ?_
  intro p e s m args below meth c s₁ B hml hv
  obtain ⟨rfl, hsz, hP, hK, hD0⟩ := hv
  have hx := B.exec
  have hb := B.bytes
  have hr := B.returns
  have hlocks := B.notSynchronized
  have hts0 := atoms_spec (ws := kc_M_settle :: lw_g) B.pre
  have hts : ∀ w ∈ lw_g, w.before ([.ref (q 4), .int x1] : List Value).toArray s = true := fun w hw => hts0 w (List.mem_cons_of_mem _ hw)
  have hown : s.vm.findClass kr_M = some m.cls := findClass_of_methodNamed B.named
  subst hsz
  have hD := hD0.self (sz := s.heap.size)
  generalize hAe : va_A (wW q cA z) s.heap.size = A at hD ⊢
  have hA : ∀ x : Nat, s.heap.size ≤ x → A x := fun x hx => by rw [← hAe]; exact Or.inr hx
  have hl := lv_entry ([.ref (q 4), .int x1]) (n := 6) (Nat.le_of_ble_eq_true rfl)
  rw [lg_entry_eq]
  generalize (lg_sl ([.ref (q 4), .int x1]) ++ List.replicate (6 - (lg_sl ([.ref (q 4), .int x1])).length) Slot.unset).toArray = ls at hl ⊢
  have hl : lv_has ls 6 [(0, .ref (q 4)), (1, .int x1)] := hl
  exact w_M_settle hx hb hml hown hts (Nat.le_refl _) (Nat.le_refl _) (Nat.zero_le _) (Nat.zero_le _) hA hK x1 z K h (fun u H locs pc ls hk hV hd => W.vret hx hb hr (fun t ht hW => ⟨⟨u, rfl, hk, by rw [ht]; exact hV.1, va_K.moved hW.alike hK, hV.2.1⟩, hV.2.2.F ht⟩) hV.2.2.2.2 hd) ⟨hP, hD, va_S.rf⟩ hl
section
variable {p : Program} {l : Launch} {e : Env} {R : Room} {s : State} {m : MethodId} {args : Array Value} {below : List Frame} {meth : Method} {c : Code} {Q : State → Prop} {ce sl : Nat} {D : va_G} {q : Nat → Nat} {cA : Nat → ClassId} {A : Nat → Prop}
set_option maxHeartbeats 4000000 in
set_option maxRecDepth 100000 in
theorem w_M_mark (hx : p.tables.exec = Jvm.exec) (hb : c.code = prog_6_method_21_code) (hml : c.maxLocals = 5) (hown : s.vm.findClass kr_M = some m.cls) (hts : ∀ w ∈ lw_g, w.before args s = true) (hRf : 0 ≤ R.frames) (hRl : 0 ≤ R.locals) (hce : ce ≤ R.cells) (hsl : sl ≤ R.slots) (hA : ∀ x, s.heap.size ≤ x → A x) (hK : va_K D wk_cl (tysW cA) s) (x1 : Int32) (x2 : Int32) (x3 : Int32) (x4 : Int32) (z : Sta) (K : Sta → Prop) (h : wp_M_mark x1 x2 x3 x4 z K) (hret : ∀ (u : Sta) (H : Heap) (locs : List Loc) (pc : Nat) (ls : Array Slot), K u → wk_S D q cA A s.heap u H locs → decode prog_6_method_21_code pc = .ok (.return_, 1) → W p l e R s m args below meth c H locs ce sl Q (F0 m pc ls [])) {H : Heap} {locs : List Loc} {ls : Array Slot} (hV : wk_S D q cA A s.heap z H locs) (hl : lv_has ls 5 [(0, .ref (q 4)), (1, .int x1), (2, .int x2), (3, .int x3), (4, .int x4)]) : W p l e R s m args below meth c H locs ce sl Q (F0 m 0 ls []) := by
  have J24 : ∀ (y0 : Int32) (y1 : Int32) (y2 : Int32) (z : Sta) (H : Heap) (locs : List Loc) (ls : Array Slot), wk_S D q cA A s.heap z H locs → lv_has ls 5 [] → pj_M_mark_24 K y0 y1 y2 z → W p l e R s m args below meth c H locs ce sl Q (F0 m 24 ls [.int y0, .int y1, .int y2, .ref (q 37)]) := by
    intro y0 y1 y2 z H locs ls hV hl h
    unfold pj_M_mark_24 at h
    refine lv_ior hx hb kd_prog_6_method_21_code_24 ?_
    refine lv_topi (fun v5 ev5 => ?_)
    have h := h v5 ev5
    obtain ⟨hin, h⟩ := h
    refine wk_iast hx hb hK hV 37 32 22 rfl rfl (ks_37 q cA z) hin kd_prog_6_method_21_code_25 (fun H locs hV => ?_)
    obtain ⟨z6, ez6⟩ : ∃ x : Sta, x = zA z 22 (upd (z.2.1 22) y2.toNatClampNeg v5) := ⟨_, rfl⟩
    rw [← ez6] at hV
    have h := h z6 ez6
    exact hret z6 H locs 26 ls h hV kd_prog_6_method_21_code_26
  unfold wp_M_mark at h
  refine lv_aload_n hx hb kd_prog_6_method_21_code_0 rfl (lv_at hl 0 rfl) ?_
  refine va_get (D := D) (ci := 4) (v := .ref (q 37)) (C := kr_M) (T := kt_M) (N := kn_M) hx hb hts ki_M hown hK hV.1 4 rfl rfl 13 (by decide) (hts _ hw_595) (fun _ h9 => h9) rfl kd_prog_6_method_21_code_1 ?_
  refine lv_bipush (v := 6) hx hb kd_prog_6_method_21_code_4 (by decide) ?_
  refine lv_iload_n hx hb kd_prog_6_method_21_code_6 rfl (lv_at hl 1 rfl) ?_
  refine lv_imul hx hb kd_prog_6_method_21_code_7 ?_
  refine lv_topi (fun v1 ev1 => ?_)
  have h := h v1 ev1
  refine lv_iload_n hx hb kd_prog_6_method_21_code_8 rfl (lv_at hl 2 rfl) ?_
  refine lv_iadd hx hb kd_prog_6_method_21_code_9 ?_
  refine lv_topi (fun v2 ev2 => ?_)
  have h := h v2 ev2
  refine lv_dup2_11 hx hb kd_prog_6_method_21_code_10 rfl rfl ?_
  obtain ⟨hin, h⟩ := h
  refine va_iald hx hb hK hV.1 37 32 rfl rfl hin kd_prog_6_method_21_code_11 ?_
  refine lv_topi (fun v3 ev3 => ?_)
  have h := h v3 ev3
  refine lv_iload hx hb kd_prog_6_method_21_code_12 (lv_at hl 4 rfl) ?_
  refine lv_if_eq (tgt := 23) hx hb kd_prog_6_method_21_code_14 (by decide) (fun hc => ?_) (fun hc => ?_)
  · have h := h.1 hc
    refine lv_iconst (v := 0) hx hb kd_prog_6_method_21_code_23 (by decide) ?_
    exact J24 0 v3 v2 z H locs ls hV (lv_sub hl [] rfl) h
  · have h := h.2 hc
    refine lv_iconst (v := 1) hx hb kd_prog_6_method_21_code_17 (by decide) ?_
    refine lv_iload_n hx hb kd_prog_6_method_21_code_18 rfl (lv_at hl 3 rfl) ?_
    refine lv_ishl hx hb kd_prog_6_method_21_code_19 ?_
    refine lv_topi (fun v4 ev4 => ?_)
    have h := h v4 ev4
    refine lv_goto (tgt := 24) hx hb kd_prog_6_method_21_code_20 (by decide) ?_
    exact J24 v4 v3 v2 z H locs ls hV (lv_sub hl [] rfl) h
end
set_option maxHeartbeats 4000000 in
set_option maxRecDepth 100000 in
theorem c_M_mark (l : Launch) (D : va_G) (q : Nat → Nat) (cA : Nat → ClassId) (x1 : Int32) (x2 : Int32) (x3 : Int32) (x4 : Int32) (z : Sta) (sz : Nat) (K : Sta → Prop) (h : wp_M_mark x1 x2 x3 x4 z K) : Met l ke_M_mark (kc_M_mark :: lw_g) { frames := 0, cells := 0, slots := 0, locals := 0 } (wk_Pc D q cA [.ref (q 4), .int x1, .int x2, .int x3, .int x4] z sz) (va_Qv K (wk_B D q cA (va_A (wW q cA z) sz)) (va_A (wW q cA z) sz)) 0 0 (va_A (wW q cA z) sz) := by
  refine Met.ofW (cc := prog_6_method_21_code) (maxL := 5) (ret := none) (by decide) rfl ?_
  intro p e s m args below meth c s₁ B hml hv
  obtain ⟨rfl, hsz, hP, hK, hD0⟩ := hv
  have hx := B.exec
  have hb := B.bytes
  have hr := B.returns
  have hlocks := B.notSynchronized
  have hts0 := atoms_spec (ws := kc_M_mark :: lw_g) B.pre
  have hts : ∀ w ∈ lw_g, w.before ([.ref (q 4), .int x1, .int x2, .int x3, .int x4] : List Value).toArray s = true := fun w hw => hts0 w (List.mem_cons_of_mem _ hw)
  have hown : s.vm.findClass kr_M = some m.cls := findClass_of_methodNamed B.named
  subst hsz
  have hD := hD0.self (sz := s.heap.size)
  generalize hAe : va_A (wW q cA z) s.heap.size = A at hD ⊢
  have hA : ∀ x : Nat, s.heap.size ≤ x → A x := fun x hx => by rw [← hAe]; exact Or.inr hx
  have hl := lv_entry ([.ref (q 4), .int x1, .int x2, .int x3, .int x4]) (n := 5) (Nat.le_of_ble_eq_true rfl)
  rw [lg_entry_eq]
  generalize (lg_sl ([.ref (q 4), .int x1, .int x2, .int x3, .int x4]) ++ List.replicate (5 - (lg_sl ([.ref (q 4), .int x1, .int x2, .int x3, .int x4])).length) Slot.unset).toArray = ls at hl ⊢
  have hl : lv_has ls 5 [(0, .ref (q 4)), (1, .int x1), (2, .int x2), (3, .int x3), (4, .int x4)] := hl
  exact w_M_mark hx hb hml hown hts (Nat.le_refl _) (Nat.le_refl _) (Nat.zero_le _) (Nat.zero_le _) hA hK x1 x2 x3 x4 z K h (fun u H locs pc ls hk hV hd => W.vret hx hb hr (fun t ht hW => ⟨⟨u, rfl, hk, by rw [ht]; exact hV.1, va_K.moved hW.alike hK, hV.2.1⟩, hV.2.2.F ht⟩) hV.2.2.2.2 hd) ⟨hP, hD, va_S.rf⟩ hl
section
variable {p : Program} {l : Launch} {e : Env} {R : Room} {s : State} {m : MethodId} {args : Array Value} {below : List Frame} {meth : Method} {c : Code} {Q : State → Prop} {ce sl : Nat} {D : va_G} {q : Nat → Nat} {cA : Nat → ClassId} {A : Nat → Prop}
set_option maxHeartbeats 4000000 in
set_option maxRecDepth 100000 in
theorem w_M_plans (hx : p.tables.exec = Jvm.exec) (hb : c.code = prog_6_method_22_code) (hml : c.maxLocals = 6) (hown : s.vm.findClass kr_M = some m.cls) (hts : ∀ w ∈ lw_g, w.before args s = true) (hRf : 6 ≤ R.frames) (hRl : 140 ≤ R.locals) (hce : ce ≤ R.cells) (hsl : sl ≤ R.slots) (hA : ∀ x, s.heap.size ≤ x → A x) (hK : va_K D wk_cl (tysW cA) s) (x1 : Int32) (z : Sta) (K : Sta → Prop) (h : wp_M_plans x1 z K) (hret : ∀ (u : Sta) (H : Heap) (locs : List Loc) (pc : Nat) (ls : Array Slot), K u → wk_S D q cA A s.heap u H locs → decode prog_6_method_22_code pc = .ok (.return_, 1) → W p l e R s m args below meth c H locs ce sl Q (F0 m pc ls [])) {H : Heap} {locs : List Loc} {ls : Array Slot} (hV : wk_S D q cA A s.heap z H locs) (hl : lv_has ls 6 [(0, .ref (q 4)), (1, .int x1)]) : W p l e R s m args below meth c H locs ce sl Q (F0 m 0 ls []) := by
  have J319 : ∀ (y0 : Int32) (y1 : Int32) (z : Sta) (H : Heap) (locs : List Loc) (ls : Array Slot), wk_S D q cA A s.heap z H locs → lv_has ls 6 [] → pj_M_plans_319 K y0 y1 z → W p l e R s m args below meth c H locs ce sl Q (F0 m 319 ls [.int y0, .int y1, .ref (q 4)]) := by
    intro y0 y1 z H locs ls hV hl h
    unfold pj_M_plans_319 at h
    refine lv_ior hx hb kd_prog_6_method_22_code_319 ?_
    refine lv_topi (fun v43 ev43 => ?_)
    have h := h v43 ev43
    refine wk_put (D := D) (ci := 4) (v := .int v43) (ty := .int) (C := kr_M) (T := kt_M) (N := kn_M) (z1 := zI z 12 v43) hx hb hts ki_M ky_M ko_M km_M hown hK hV 4 rfl rfl 11 (by decide) (hts _ hw_593) (fun _ h9 => h9) rfl (by decide +kernel) rfl rfl (Nat.le_of_ble_eq_true rfl) rfl kd_prog_6_method_22_code_320 (fun H locs hV => ?_)
    obtain ⟨z44, ez44⟩ : ∃ x : Sta, x = zI z 12 v43 := ⟨_, rfl⟩
    rw [← ez44] at hV
    have h := h z44 ez44
    exact hret z44 H locs 323 ls h hV kd_prog_6_method_22_code_323
  have J301 : ∀ (x1 : Int32) (x2 : Int32) (y0 : Int32) (y1 : Int32) (y2 : Int32) (z : Sta) (H : Heap) (locs : List Loc) (ls : Array Slot), wk_S D q cA A s.heap z H locs → lv_has ls 6 [(0, .ref (q 4)), (1, .int x1), (2, .int x2)] → pj_M_plans_301 K x1 x2 y0 y1 y2 z → W p l e R s m args below meth c H locs ce sl Q (F0 m 301 ls [.int y0, .int y1, .int y2, .ref (q 38)]) := by
    intro x1 x2 y0 y1 y2 z H locs ls hV hl h
    unfold pj_M_plans_301 at h
    refine lv_ior hx hb kd_prog_6_method_22_code_301 ?_
    refine lv_topi (fun v39 ev39 => ?_)
    have h := h v39 ev39
    obtain ⟨hin, h⟩ := h
    refine wk_iast hx hb hK hV 38 33 23 rfl rfl (ks_38 q cA z) hin kd_prog_6_method_22_code_302 (fun H locs hV => ?_)
    obtain ⟨z40, ez40⟩ : ∃ x : Sta, x = zA z 23 (upd (z.2.1 23) y2.toNatClampNeg v39) := ⟨_, rfl⟩
    rw [← ez40] at hV
    have h := h z40 ez40
    refine lv_aload_n hx hb kd_prog_6_method_22_code_303 rfl (lv_at hl 0 rfl) ?_
    refine lv_dup hx hb kd_prog_6_method_22_code_304 rfl ?_
    refine va_get (D := D) (ci := 4) (v := .int (z40.1 12)) (C := kr_M) (T := kt_M) (N := kn_M) hx hb hts ki_M hown hK hV.1 4 rfl rfl 11 (by decide) (hts _ hw_593) (fun _ h9 => h9) rfl kd_prog_6_method_22_code_305 ?_
    refine lv_topi (fun v41 ev41 => ?_)
    have h := h v41 ev41
    refine lv_iload_n hx hb kd_prog_6_method_22_code_308 rfl (lv_at hl 2 rfl) ?_
    refine lv_if_eq (tgt := 318) hx hb kd_prog_6_method_22_code_309 (by decide) (fun hc => ?_) (fun hc => ?_)
    · have h := h.1 hc
      refine lv_iconst (v := 0) hx hb kd_prog_6_method_22_code_318 (by decide) ?_
      exact J319 0 v41 z40 H locs ls hV (lv_sub hl [] rfl) h
    · have h := h.2 hc
      refine lv_iconst (v := 1) hx hb kd_prog_6_method_22_code_312 (by decide) ?_
      refine lv_iload_n hx hb kd_prog_6_method_22_code_313 rfl (lv_at hl 1 rfl) ?_
      refine lv_ishl hx hb kd_prog_6_method_22_code_314 ?_
      refine lv_topi (fun v42 ev42 => ?_)
      have h := h v42 ev42
      refine lv_goto (tgt := 319) hx hb kd_prog_6_method_22_code_315 (by decide) ?_
      exact J319 v42 v41 z40 H locs ls hV (lv_sub hl [] rfl) h
  have J300 : ∀ (x1 : Int32) (x2 : Int32) (y0 : Int32) (y1 : Int32) (z : Sta) (H : Heap) (locs : List Loc) (ls : Array Slot), wk_S D q cA A s.heap z H locs → lv_has ls 6 [(0, .ref (q 4)), (1, .int x1), (2, .int x2)] → pj_M_plans_300 K x1 x2 y0 y1 z → W p l e R s m args below meth c H locs ce sl Q (F0 m 300 ls [.int y0, .int y1, .ref (q 38)]) := by
    intro x1 x2 y0 y1 z H locs ls hV hl h
    unfold pj_M_plans_300 at h
    refine lv_iconst (v := 0) hx hb kd_prog_6_method_22_code_300 (by decide) ?_
    exact J301 x1 x2 0 y0 y1 z H locs ls hV (lv_sub hl [0, 1, 2] rfl) h
  have L63 : ∀ (n : Nat) (x1 : Int32) (x2 : Int32) (x3 : Int32) (z : Sta) (H : Heap) (locs : List Loc) (ls : Array Slot), wk_S D q cA A s.heap z H locs → lv_has ls 6 [(0, .ref (q 4)), (1, .int x1), (2, .int x2), (3, .int x3)] → lp_M_plans_63 K n x1 x2 x3 z → W p l e R s m args below meth c H locs ce sl Q (F0 m 63 ls []) := by
    intro n63
    induction n63 with
    | zero => intro x1 x2 x3 z H locs ls hV hl h; rw [lp_M_plans_63] at h; exact h.elim
    | succ n63 ih63 =>
      have J261 : ∀ (x1 : Int32) (x2 : Int32) (x3 : Int32) (z : Sta) (H : Heap) (locs : List Loc) (ls : Array Slot), wk_S D q cA A s.heap z H locs → lv_has ls 6 [(0, .ref (q 4)), (1, .int x1), (2, .int x2), (3, .int x3)] → pj_M_plans_261 K (fun x1 x2 x3 z => lp_M_plans_63 K n63 x1 x2 x3 z) x1 x2 x3 z → W p l e R s m args below meth c H locs ce sl Q (F0 m 261 ls []) := by
        intro x1 x2 x3 z H locs ls hV hl h
        unfold pj_M_plans_261 at h
        obtain ⟨v38, ev38⟩ : ∃ v : Int32, v = x3 + 1 := ⟨_, rfl⟩
        have h := h v38 ev38
        refine lv_iinc (v := v38) (k := 3) hx hb kd_prog_6_method_22_code_261 hl rfl (by rw [ev38]; rfl) (by decide) rfl (fun ls hl => ?_)
        have hl : lv_has ls 6 [(3, .int v38), (0, .ref (q 4)), (1, .int x1), (2, .int x2)] := hl
        refine lv_goto (tgt := 63) hx hb kd_prog_6_method_22_code_264 (by decide) ?_
        exact ih63 x1 x2 v38 z H locs ls hV (lv_sub hl [1, 2, 3, 0] rfl) h
      have L195 : ∀ (n : Nat) (x1 : Int32) (x2 : Int32) (x3 : Int32) (x5 : Int32) (z : Sta) (H : Heap) (locs : List Loc) (ls : Array Slot), wk_S D q cA A s.heap z H locs → lv_has ls 6 [(0, .ref (q 4)), (1, .int x1), (2, .int x2), (3, .int x3), (5, .int x5)] → lp_M_plans_195 K (fun x1 x2 x3 z => lp_M_plans_63 K n63 x1 x2 x3 z) n x1 x2 x3 x5 z → W p l e R s m args below meth c H locs ce sl Q (F0 m 195 ls []) := by
        intro n195
        induction n195 with
        | zero => intro x1 x2 x3 x5 z H locs ls hV hl h; rw [lp_M_plans_195] at h; exact h.elim
        | succ n195 ih195 =>
          have J253 : ∀ (x1 : Int32) (x2 : Int32) (x3 : Int32) (x5 : Int32) (y0 : Int32) (y1 : Int32) (y2 : Int32) (z : Sta) (H : Heap) (locs : List Loc) (ls : Array Slot), wk_S D q cA A s.heap z H locs → lv_has ls 6 [(0, .ref (q 4)), (1, .int x1), (2, .int x2), (3, .int x3), (5, .int x5)] → pj_M_plans_253 K (fun x1 x2 x3 x5 z => lp_M_plans_195 K (fun x1 x2 x3 z => lp_M_plans_63 K n63 x1 x2 x3 z) n195 x1 x2 x3 x5 z) x1 x2 x3 x5 y0 y1 y2 z → W p l e R s m args below meth c H locs ce sl Q (F0 m 253 ls [.int y0, .int y1, .int y2, .ref (q 38)]) := by
            intro x1 x2 x3 x5 y0 y1 y2 z H locs ls hV hl h
            unfold pj_M_plans_253 at h
            refine lv_ior hx hb kd_prog_6_method_22_code_253 ?_
            refine lv_topi (fun v35 ev35 => ?_)
            have h := h v35 ev35
            obtain ⟨hin, h⟩ := h
            refine wk_iast hx hb hK hV 38 33 23 rfl rfl (ks_38 q cA z) hin kd_prog_6_method_22_code_254 (fun H locs hV => ?_)
            obtain ⟨z36, ez36⟩ : ∃ x : Sta, x = zA z 23 (upd (z.2.1 23) y2.toNatClampNeg v35) := ⟨_, rfl⟩
            rw [← ez36] at hV
            have h := h z36 ez36
            obtain ⟨v37, ev37⟩ : ∃ v : Int32, v = x5 + 1 := ⟨_, rfl⟩
            have h := h v37 ev37
            refine lv_iinc (v := v37) (k := 4) hx hb kd_prog_6_method_22_code_255 hl rfl (by rw [ev37]; rfl) (by decide) rfl (fun ls hl => ?_)
            have hl : lv_has ls 6 [(5, .int v37), (0, .ref (q 4)), (1, .int x1), (2, .int x2), (3, .int x3)] := hl
            refine lv_goto (tgt := 195) hx hb kd_prog_6_method_22_code_258 (by decide) ?_
            exact ih195 x1 x2 x3 v37 z36 H locs ls hV (lv_sub hl [1, 2, 3, 4, 0] rfl) h
          have J252 : ∀ (x1 : Int32) (x2 : Int32) (x3 : Int32) (x5 : Int32) (y0 : Int32) (y1 : Int32) (z : Sta) (H : Heap) (locs : List Loc) (ls : Array Slot), wk_S D q cA A s.heap z H locs → lv_has ls 6 [(0, .ref (q 4)), (1, .int x1), (2, .int x2), (3, .int x3), (5, .int x5)] → pj_M_plans_252 K (fun x1 x2 x3 x5 z => lp_M_plans_195 K (fun x1 x2 x3 z => lp_M_plans_63 K n63 x1 x2 x3 z) n195 x1 x2 x3 x5 z) x1 x2 x3 x5 y0 y1 z → W p l e R s m args below meth c H locs ce sl Q (F0 m 252 ls [.int y0, .int y1, .ref (q 38)]) := by
            intro x1 x2 x3 x5 y0 y1 z H locs ls hV hl h
            unfold pj_M_plans_252 at h
            refine lv_iconst (v := 0) hx hb kd_prog_6_method_22_code_252 (by decide) ?_
            exact J253 x1 x2 x3 x5 0 y0 y1 z H locs ls hV (lv_sub hl [0, 1, 2, 3, 4] rfl) h
          intro x1 x2 x3 x5 z H locs ls hV hl h
          rw [lp_M_plans_195] at h
          refine lv_iload hx hb kd_prog_6_method_22_code_195 (lv_at hl 4 rfl) ?_
          refine lv_aload_n hx hb kd_prog_6_method_22_code_197 rfl (lv_at hl 0 rfl) ?_
          refine va_get (D := D) (ci := 4) (v := .int (z.1 8)) (C := kr_M) (T := kt_M) (N := kn_M) hx hb hts ki_M hown hK hV.1 4 rfl rfl 1 (by decide) (hts _ hw_583) (fun _ h9 => h9) rfl kd_prog_6_method_22_code_198 ?_
          refine lv_topi (fun v27 ev27 => ?_)
          have h := h v27 ev27
          refine lv_icmp_ge (tgt := 261) hx hb kd_prog_6_method_22_code_201 (by decide) (fun hc => ?_) (fun hc => ?_)
          · have h := h.1 hc
            exact J261 x1 x2 x3 z H locs ls hV (lv_sub hl [0, 1, 2, 3] rfl) h
          · have h := h.2 hc
            refine lv_aload_n hx hb kd_prog_6_method_22_code_204 rfl (lv_at hl 0 rfl) ?_
            refine va_get (D := D) (ci := 4) (v := .ref (q 38)) (C := kr_M) (T := kt_M) (N := kn_M) hx hb hts ki_M hown hK hV.1 4 rfl rfl 14 (by decide) (hts _ hw_596) (fun _ h9 => h9) rfl kd_prog_6_method_22_code_205 ?_
            refine lv_bipush (v := 16) hx hb kd_prog_6_method_22_code_208 (by decide) ?_
            refine lv_iload hx hb kd_prog_6_method_22_code_210 (lv_at hl 4 rfl) ?_
            refine lv_imul hx hb kd_prog_6_method_22_code_212 ?_
            refine lv_topi (fun v28 ev28 => ?_)
            have h := h v28 ev28
            refine lv_iload_n hx hb kd_prog_6_method_22_code_213 rfl (lv_at hl 3 rfl) ?_
            refine lv_iadd hx hb kd_prog_6_method_22_code_214 ?_
            refine lv_topi (fun v29 ev29 => ?_)
            have h := h v29 ev29
            refine lv_dup2_11 hx hb kd_prog_6_method_22_code_215 rfl rfl ?_
            obtain ⟨hin, h⟩ := h
            refine va_iald hx hb hK hV.1 38 33 rfl rfl hin kd_prog_6_method_22_code_216 ?_
            refine lv_topi (fun v30 ev30 => ?_)
            have h := h v30 ev30
            refine lv_aload_n hx hb kd_prog_6_method_22_code_217 rfl (lv_at hl 0 rfl) ?_
            refine lv_iload hx hb kd_prog_6_method_22_code_218 (lv_at hl 4 rfl) ?_
            refine lv_iload_n hx hb kd_prog_6_method_22_code_220 rfl (lv_at hl 3 rfl) ?_
            refine wk_calli (va_runV (As := [.int x5, .int x3]) (rest := [.int v30, .int v29, .ref (q 38)]) ⟨hx, hb, hml, hown, hts⟩ (c_M_edge l D q cA x5 x3 z H.size _ h) (cwV 2 hts gs_M_108 rfl rfl rfl (by decide +kernel) ⟨Nat.le_trans (by decide) hRf, Nat.le_trans (by decide) hRl⟩) (wk_preV hK hV 4 4 rfl rfl [.int x5, .int x3]) rfl rfl hl.1 rfl (lv_room (Nat.le_of_ble_eq_true rfl)) kd_prog_6_method_22_code_221 ⟨hce, hsl⟩) hV hA (fun rz31 z31 H locs h hV => ?_)
            refine lv_if_eq (tgt := 252) hx hb kd_prog_6_method_22_code_224 (by decide) (fun hc => ?_) (fun hc => ?_)
            · have h := h.1 hc
              exact J252 x1 x2 x3 x5 v30 v29 z31 H locs ls hV (lv_sub hl [0, 1, 2, 3, 4] rfl) h
            · have h := h.2 hc
              refine lv_aload_n hx hb kd_prog_6_method_22_code_227 rfl (lv_at hl 0 rfl) ?_
              refine lv_iload hx hb kd_prog_6_method_22_code_228 (lv_at hl 4 rfl) ?_
              refine lv_iload_n hx hb kd_prog_6_method_22_code_230 rfl (lv_at hl 3 rfl) ?_
              refine wk_calli (va_runV (As := [.int x5, .int x3]) (rest := [.int v30, .int v29, .ref (q 38)]) ⟨hx, hb, hml, hown, hts⟩ (c_M_laterOn l D q cA x5 x3 z31 H.size _ h) (cwV 2 hts gs_M_118 rfl rfl rfl (by decide +kernel) ⟨Nat.le_trans (by decide) hRf, Nat.le_trans (by decide) hRl⟩) (wk_preV hK hV 4 4 rfl rfl [.int x5, .int x3]) rfl rfl hl.1 rfl (lv_room (Nat.le_of_ble_eq_true rfl)) kd_prog_6_method_22_code_231 ⟨hce, hsl⟩) hV hA (fun rz32 z32 H locs h hV => ?_)
              refine lv_if_eq (tgt := 252) hx hb kd_prog_6_method_22_code_234 (by decide) (fun hc => ?_) (fun hc => ?_)
              · have h := h.1 hc
                exact J252 x1 x2 x3 x5 v30 v29 z32 H locs ls hV (lv_sub hl [0, 1, 2, 3, 4] rfl) h
              · have h := h.2 hc
                refine lv_aload_n hx hb kd_prog_6_method_22_code_237 rfl (lv_at hl 0 rfl) ?_
                refine va_get (D := D) (ci := 4) (v := .ref (q 46)) (C := kr_M) (T := kt_M) (N := kn_M) hx hb hts ki_M hown hK hV.1 4 rfl rfl 22 (by decide) (hts _ hw_604) (fun _ h9 => h9) rfl kd_prog_6_method_22_code_238 ?_
                refine lv_iload_n hx hb kd_prog_6_method_22_code_241 rfl (lv_at hl 3 rfl) ?_
                obtain ⟨hin, h⟩ := h
                refine va_zald hx hb hK hV.1 46 41 rfl rfl hin kd_prog_6_method_22_code_242 ?_
                refine lv_topi (fun v33 ev33 => ?_)
                have h := h v33 ev33
                refine lv_if_ne (tgt := 252) hx hb kd_prog_6_method_22_code_243 (by decide) (fun hc => ?_) (fun hc => ?_)
                · have h := h.1 hc
                  exact J252 x1 x2 x3 x5 v30 v29 z32 H locs ls hV (lv_sub hl [0, 1, 2, 3, 4] rfl) h
                · have h := h.2 hc
                  refine lv_iconst (v := 1) hx hb kd_prog_6_method_22_code_246 (by decide) ?_
                  refine lv_iload_n hx hb kd_prog_6_method_22_code_247 rfl (lv_at hl 1 rfl) ?_
                  refine lv_ishl hx hb kd_prog_6_method_22_code_248 ?_
                  refine lv_topi (fun v34 ev34 => ?_)
                  have h := h v34 ev34
                  refine lv_goto (tgt := 253) hx hb kd_prog_6_method_22_code_249 (by decide) ?_
                  exact J253 x1 x2 x3 x5 v34 v30 v29 z32 H locs ls hV (lv_sub hl [0, 1, 2, 3, 4] rfl) h
      have J191 : ∀ (x1 : Int32) (x3 : Int32) (y0 : Int32) (z : Sta) (H : Heap) (locs : List Loc) (ls : Array Slot), wk_S D q cA A s.heap z H locs → lv_has ls 6 [(0, .ref (q 4)), (1, .int x1), (3, .int x3)] → pj_M_plans_191 K (fun x1 x2 x3 z => lp_M_plans_63 K n63 x1 x2 x3 z) x1 x3 y0 z → W p l e R s m args below meth c H locs ce sl Q (F0 m 191 ls [.int y0]) := by
        intro x1 x3 y0 z H locs ls hV hl h
        unfold pj_M_plans_191 at h
        refine lv_istore_n hx hb kd_prog_6_method_22_code_191 rfl hl (by decide) rfl (fun ls hl => ?_)
        have hl : lv_has ls 6 [(2, .int y0), (0, .ref (q 4)), (1, .int x1), (3, .int x3)] := hl
        refine lv_iconst (v := 0) hx hb kd_prog_6_method_22_code_192 (by decide) ?_
        refine lv_istore hx hb kd_prog_6_method_22_code_193 hl (by decide) rfl (fun ls hl => ?_)
        have hl : lv_has ls 6 [(5, .int 0), (2, .int y0), (0, .ref (q 4)), (1, .int x1), (3, .int x3)] := hl
        obtain ⟨n195, h⟩ := h
        exact L195 n195 x1 y0 x3 0 z H locs ls hV (lv_sub hl [2, 3, 1, 4, 0] rfl) h
      have J186 : ∀ (x1 : Int32) (x3 : Int32) (z : Sta) (H : Heap) (locs : List Loc) (ls : Array Slot), wk_S D q cA A s.heap z H locs → lv_has ls 6 [(0, .ref (q 4)), (1, .int x1), (3, .int x3)] → pj_M_plans_186 K (fun x1 x2 x3 z => lp_M_plans_63 K n63 x1 x2 x3 z) x1 x3 z → W p l e R s m args below meth c H locs ce sl Q (F0 m 186 ls []) := by
        intro x1 x3 z H locs ls hV hl h
        unfold pj_M_plans_186 at h
        refine lv_iconst (v := 1) hx hb kd_prog_6_method_22_code_186 (by decide) ?_
        refine lv_goto (tgt := 191) hx hb kd_prog_6_method_22_code_187 (by decide) ?_
        exact J191 x1 x3 1 z H locs ls hV (lv_sub hl [0, 1, 2] rfl) h
      have J103 : ∀ (x1 : Int32) (x2 : Int32) (x3 : Int32) (y0 : Int32) (z : Sta) (H : Heap) (locs : List Loc) (ls : Array Slot), wk_S D q cA A s.heap z H locs → lv_has ls 6 [(0, .ref (q 4)), (1, .int x1), (2, .int x2), (3, .int x3)] → pj_M_plans_103 K (fun x1 x2 x3 z => lp_M_plans_63 K n63 x1 x2 x3 z) x1 x2 x3 y0 z → W p l e R s m args below meth c H locs ce sl Q (F0 m 103 ls [.int y0]) := by
        intro x1 x2 x3 y0 z H locs ls hV hl h
        unfold pj_M_plans_103 at h
        refine lv_istore hx hb kd_prog_6_method_22_code_103 hl (by decide) rfl (fun ls hl => ?_)
        have hl : lv_has ls 6 [(4, .int y0), (0, .ref (q 4)), (1, .int x1), (2, .int x2), (3, .int x3)] := hl
        refine lv_aload_n hx hb kd_prog_6_method_22_code_105 rfl (lv_at hl 1 rfl) ?_
        refine lv_iload_n hx hb kd_prog_6_method_22_code_106 rfl (lv_at hl 4 rfl) ?_
        refine lv_iconst (v := 0) hx hb kd_prog_6_method_22_code_107 (by decide) ?_
        refine lv_iload_n hx hb kd_prog_6_method_22_code_108 rfl (lv_at hl 2 rfl) ?_
        refine lv_aload_n hx hb kd_prog_6_method_22_code_109 rfl (lv_at hl 1 rfl) ?_
        refine lv_iload_n hx hb kd_prog_6_method_22_code_110 rfl (lv_at hl 4 rfl) ?_
        refine wk_calli (va_runV (As := [.int x3]) (rest := [.int x1, .int (0 : Int32), .int x3, .ref (q 4)]) ⟨hx, hb, hml, hown, hts⟩ (c_M_thereBefore l D q cA x3 z H.size _ h) (cwV 1 hts gs_M_121 rfl rfl rfl (by decide +kernel) ⟨Nat.le_trans (by decide) hRf, Nat.le_trans (by decide) hRl⟩) (wk_preV hK hV 4 4 rfl rfl [.int x3]) rfl rfl hl.1 rfl (lv_room (Nat.le_of_ble_eq_true rfl)) kd_prog_6_method_22_code_111 ⟨hce, hsl⟩) hV hA (fun rz16 z16 H locs h hV => ?_)
        refine wk_callv (va_runV (As := [.int x3, .int (0 : Int32), .int x1, .int rz16]) (rest := []) ⟨hx, hb, hml, hown, hts⟩ (c_M_mark l D q cA x3 0 x1 rz16 z16 H.size _ h) (cwV 4 hts gs_M_135 rfl rfl rfl (by decide +kernel) ⟨Nat.le_trans (by decide) hRf, Nat.le_trans (by decide) hRl⟩) (wk_preV hK hV 4 4 rfl rfl [.int x3, .int (0 : Int32), .int x1, .int rz16]) rfl rfl hl.1 rfl (lv_room (Nat.le_of_ble_eq_true rfl)) kd_prog_6_method_22_code_114 ⟨hce, hsl⟩) hV hA (fun z17 H locs h hV => ?_)
        refine lv_aload_n hx hb kd_prog_6_method_22_code_117 rfl (lv_at hl 1 rfl) ?_
        refine lv_iload_n hx hb kd_prog_6_method_22_code_118 rfl (lv_at hl 4 rfl) ?_
        refine lv_iconst (v := 1) hx hb kd_prog_6_method_22_code_119 (by decide) ?_
        refine lv_iload_n hx hb kd_prog_6_method_22_code_120 rfl (lv_at hl 2 rfl) ?_
        refine lv_aload_n hx hb kd_prog_6_method_22_code_121 rfl (lv_at hl 1 rfl) ?_
        refine va_get (D := D) (ci := 4) (v := .ref (q 43)) (C := kr_M) (T := kt_M) (N := kn_M) hx hb hts ki_M hown hK hV.1 4 rfl rfl 19 (by decide) (hts _ hw_601) (fun _ h9 => h9) rfl kd_prog_6_method_22_code_122 ?_
        refine lv_iload_n hx hb kd_prog_6_method_22_code_125 rfl (lv_at hl 4 rfl) ?_
        obtain ⟨hin, h⟩ := h
        refine va_zald hx hb hK hV.1 43 38 rfl rfl hin kd_prog_6_method_22_code_126 ?_
        refine lv_topi (fun v18 ev18 => ?_)
        have h := h v18 ev18
        refine wk_callv (va_runV (As := [.int x3, .int (1 : Int32), .int x1, .int v18]) (rest := []) ⟨hx, hb, hml, hown, hts⟩ (c_M_mark l D q cA x3 1 x1 v18 z17 H.size _ h) (cwV 4 hts gs_M_135 rfl rfl rfl (by decide +kernel) ⟨Nat.le_trans (by decide) hRf, Nat.le_trans (by decide) hRl⟩) (wk_preV hK hV 4 4 rfl rfl [.int x3, .int (1 : Int32), .int x1, .int v18]) rfl rfl hl.1 rfl (lv_room (Nat.le_of_ble_eq_true rfl)) kd_prog_6_method_22_code_127 ⟨hce, hsl⟩) hV hA (fun z19 H locs h hV => ?_)
        refine lv_aload_n hx hb kd_prog_6_method_22_code_130 rfl (lv_at hl 1 rfl) ?_
        refine lv_iload_n hx hb kd_prog_6_method_22_code_131 rfl (lv_at hl 4 rfl) ?_
        refine lv_iconst (v := 2) hx hb kd_prog_6_method_22_code_132 (by decide) ?_
        refine lv_iload_n hx hb kd_prog_6_method_22_code_133 rfl (lv_at hl 2 rfl) ?_
        refine lv_aload_n hx hb kd_prog_6_method_22_code_134 rfl (lv_at hl 1 rfl) ?_
        refine va_get (D := D) (ci := 4) (v := .ref (q 44)) (C := kr_M) (T := kt_M) (N := kn_M) hx hb hts ki_M hown hK hV.1 4 rfl rfl 20 (by decide) (hts _ hw_602) (fun _ h9 => h9) rfl kd_prog_6_method_22_code_135 ?_
        refine lv_iload_n hx hb kd_prog_6_method_22_code_138 rfl (lv_at hl 4 rfl) ?_
        obtain ⟨hin, h⟩ := h
        refine va_zald hx hb hK hV.1 44 39 rfl rfl hin kd_prog_6_method_22_code_139 ?_
        refine lv_topi (fun v20 ev20 => ?_)
        have h := h v20 ev20
        refine wk_callv (va_runV (As := [.int x3, .int (2 : Int32), .int x1, .int v20]) (rest := []) ⟨hx, hb, hml, hown, hts⟩ (c_M_mark l D q cA x3 2 x1 v20 z19 H.size _ h) (cwV 4 hts gs_M_135 rfl rfl rfl (by decide +kernel) ⟨Nat.le_trans (by decide) hRf, Nat.le_trans (by decide) hRl⟩) (wk_preV hK hV 4 4 rfl rfl [.int x3, .int (2 : Int32), .int x1, .int v20]) rfl rfl hl.1 rfl (lv_room (Nat.le_of_ble_eq_true rfl)) kd_prog_6_method_22_code_140 ⟨hce, hsl⟩) hV hA (fun z21 H locs h hV => ?_)
        refine lv_aload_n hx hb kd_prog_6_method_22_code_143 rfl (lv_at hl 1 rfl) ?_
        refine lv_iload_n hx hb kd_prog_6_method_22_code_144 rfl (lv_at hl 4 rfl) ?_
        refine lv_iconst (v := 3) hx hb kd_prog_6_method_22_code_145 (by decide) ?_
        refine lv_iload_n hx hb kd_prog_6_method_22_code_146 rfl (lv_at hl 2 rfl) ?_
        refine lv_aload_n hx hb kd_prog_6_method_22_code_147 rfl (lv_at hl 1 rfl) ?_
        refine lv_iload_n hx hb kd_prog_6_method_22_code_148 rfl (lv_at hl 4 rfl) ?_
        refine wk_calli (va_runV (As := [.int x3]) (rest := [.int x1, .int (3 : Int32), .int x3, .ref (q 4)]) ⟨hx, hb, hml, hown, hts⟩ (c_M_wantedBehind l D q cA x3 z21 H.size _ h) (cwV 1 hts gs_M_111 rfl rfl rfl (by decide +kernel) ⟨Nat.le_trans (by decide) hRf, Nat.le_trans (by decide) hRl⟩) (wk_preV hK hV 4 4 rfl rfl [.int x3]) rfl rfl hl.1 rfl (lv_room (Nat.le_of_ble_eq_true rfl)) kd_prog_6_method_22_code_149 ⟨hce, hsl⟩) hV hA (fun rz22 z22 H locs h hV => ?_)
        refine wk_callv (va_runV (As := [.int x3, .int (3 : Int32), .int x1, .int rz22]) (rest := []) ⟨hx, hb, hml, hown, hts⟩ (c_M_mark l D q cA x3 3 x1 rz22 z22 H.size _ h) (cwV 4 hts gs_M_135 rfl rfl rfl (by decide +kernel) ⟨Nat.le_trans (by decide) hRf, Nat.le_trans (by decide) hRl⟩) (wk_preV hK hV 4 4 rfl rfl [.int x3, .int (3 : Int32), .int x1, .int rz22]) rfl rfl hl.1 rfl (lv_room (Nat.le_of_ble_eq_true rfl)) kd_prog_6_method_22_code_152 ⟨hce, hsl⟩) hV hA (fun z23 H locs h hV => ?_)
        refine lv_aload_n hx hb kd_prog_6_method_22_code_155 rfl (lv_at hl 1 rfl) ?_
        refine lv_iload_n hx hb kd_prog_6_method_22_code_156 rfl (lv_at hl 4 rfl) ?_
        refine lv_iconst (v := 4) hx hb kd_prog_6_method_22_code_157 (by decide) ?_
        refine lv_iload_n hx hb kd_prog_6_method_22_code_158 rfl (lv_at hl 2 rfl) ?_
        refine lv_aload_n hx hb kd_prog_6_method_22_code_159 rfl (lv_at hl 1 rfl) ?_
        refine va_get (D := D) (ci := 4) (v := .ref (q 46)) (C := kr_M) (T := kt_M) (N := kn_M) hx hb hts ki_M hown hK hV.1 4 rfl rfl 22 (by decide) (hts _ hw_604) (fun _ h9 => h9) rfl kd_prog_6_method_22_code_160 ?_
        refine lv_iload_n hx hb kd_prog_6_method_22_code_163 rfl (lv_at hl 4 rfl) ?_
        obtain ⟨hin, h⟩ := h
        refine va_zald hx hb hK hV.1 46 41 rfl rfl hin kd_prog_6_method_22_code_164 ?_
        refine lv_topi (fun v24 ev24 => ?_)
        have h := h v24 ev24
        refine wk_callv (va_runV (As := [.int x3, .int (4 : Int32), .int x1, .int v24]) (rest := []) ⟨hx, hb, hml, hown, hts⟩ (c_M_mark l D q cA x3 4 x1 v24 z23 H.size _ h) (cwV 4 hts gs_M_135 rfl rfl rfl (by decide +kernel) ⟨Nat.le_trans (by decide) hRf, Nat.le_trans (by decide) hRl⟩) (wk_preV hK hV 4 4 rfl rfl [.int x3, .int (4 : Int32), .int x1, .int v24]) rfl rfl hl.1 rfl (lv_room (Nat.le_of_ble_eq_true rfl)) kd_prog_6_method_22_code_165 ⟨hce, hsl⟩) hV hA (fun z25 H locs h hV => ?_)
        refine lv_aload_n hx hb kd_prog_6_method_22_code_168 rfl (lv_at hl 1 rfl) ?_
        refine lv_iload_n hx hb kd_prog_6_method_22_code_169 rfl (lv_at hl 4 rfl) ?_
        refine lv_iconst (v := 5) hx hb kd_prog_6_method_22_code_170 (by decide) ?_
        refine lv_iload_n hx hb kd_prog_6_method_22_code_171 rfl (lv_at hl 2 rfl) ?_
        refine lv_iload hx hb kd_prog_6_method_22_code_172 (lv_at hl 0 rfl) ?_
        refine wk_callv (va_runV (As := [.int x3, .int (5 : Int32), .int x1, .int y0]) (rest := []) ⟨hx, hb, hml, hown, hts⟩ (c_M_mark l D q cA x3 5 x1 y0 z25 H.size _ h) (cwV 4 hts gs_M_135 rfl rfl rfl (by decide +kernel) ⟨Nat.le_trans (by decide) hRf, Nat.le_trans (by decide) hRl⟩) (wk_preV hK hV 4 4 rfl rfl [.int x3, .int (5 : Int32), .int x1, .int y0]) rfl rfl hl.1 rfl (lv_room (Nat.le_of_ble_eq_true rfl)) kd_prog_6_method_22_code_174 ⟨hce, hsl⟩) hV hA (fun z26 H locs h hV => ?_)
        refine lv_iload_n hx hb kd_prog_6_method_22_code_177 rfl (lv_at hl 3 rfl) ?_
        refine lv_if_ne (tgt := 186) hx hb kd_prog_6_method_22_code_178 (by decide) (fun hc => ?_) (fun hc => ?_)
        · have h := h.1 hc
          exact J186 x1 x3 z26 H locs ls hV (lv_sub hl [1, 2, 4] rfl) h
        · have h := h.2 hc
          refine lv_iload hx hb kd_prog_6_method_22_code_181 (lv_at hl 0 rfl) ?_
          refine lv_if_eq (tgt := 190) hx hb kd_prog_6_method_22_code_183 (by decide) (fun hc => ?_) (fun hc => ?_)
          · have h := h.1 hc
            refine lv_iconst (v := 0) hx hb kd_prog_6_method_22_code_190 (by decide) ?_
            exact J191 x1 x3 0 z26 H locs ls hV (lv_sub hl [1, 2, 4] rfl) h
          · have h := h.2 hc
            exact J186 x1 x3 z26 H locs ls hV (lv_sub hl [1, 2, 4] rfl) h
      have J102 : ∀ (x1 : Int32) (x2 : Int32) (x3 : Int32) (z : Sta) (H : Heap) (locs : List Loc) (ls : Array Slot), wk_S D q cA A s.heap z H locs → lv_has ls 6 [(0, .ref (q 4)), (1, .int x1), (2, .int x2), (3, .int x3)] → pj_M_plans_102 K (fun x1 x2 x3 z => lp_M_plans_63 K n63 x1 x2 x3 z) x1 x2 x3 z → W p l e R s m args below meth c H locs ce sl Q (F0 m 102 ls []) := by
        intro x1 x2 x3 z H locs ls hV hl h
        unfold pj_M_plans_102 at h
        refine lv_iconst (v := 0) hx hb kd_prog_6_method_22_code_102 (by decide) ?_
        exact J103 x1 x2 x3 0 z H locs ls hV (lv_sub hl [0, 1, 2, 3] rfl) h
      intro x1 x2 x3 z H locs ls hV hl h
      rw [lp_M_plans_63] at h
      refine lv_iload_n hx hb kd_prog_6_method_22_code_63 rfl (lv_at hl 3 rfl) ?_
      refine lv_aload_n hx hb kd_prog_6_method_22_code_64 rfl (lv_at hl 0 rfl) ?_
      refine va_get (D := D) (ci := 4) (v := .int (z.1 8)) (C := kr_M) (T := kt_M) (N := kn_M) hx hb hts ki_M hown hK hV.1 4 rfl rfl 1 (by decide) (hts _ hw_583) (fun _ h9 => h9) rfl kd_prog_6_method_22_code_65 ?_
      refine lv_topi (fun v8 ev8 => ?_)
      have h := h v8 ev8
      refine lv_icmp_ge (tgt := 267) hx hb kd_prog_6_method_22_code_68 (by decide) (fun hc => ?_) (fun hc => ?_)
      · have h := h.1 hc
        refine lv_aload_n hx hb kd_prog_6_method_22_code_267 rfl (lv_at hl 0 rfl) ?_
        refine va_get (D := D) (ci := 4) (v := .ref (q 38)) (C := kr_M) (T := kt_M) (N := kn_M) hx hb hts ki_M hown hK hV.1 4 rfl rfl 14 (by decide) (hts _ hw_596) (fun _ h9 => h9) rfl kd_prog_6_method_22_code_268 ?_
        refine lv_sipush (v := 256) hx hb kd_prog_6_method_22_code_271 (by decide) ?_
        refine lv_dup2_11 hx hb kd_prog_6_method_22_code_274 rfl rfl ?_
        obtain ⟨hin, h⟩ := h
        refine va_iald hx hb hK hV.1 38 33 rfl rfl hin kd_prog_6_method_22_code_275 ?_
        refine lv_topi (fun v9 ev9 => ?_)
        have h := h v9 ev9
        refine lv_aload_n hx hb kd_prog_6_method_22_code_276 rfl (lv_at hl 0 rfl) ?_
        refine lv_iconst (v := (-1)) hx hb kd_prog_6_method_22_code_277 (by decide) ?_
        refine lv_iconst (v := 0) hx hb kd_prog_6_method_22_code_278 (by decide) ?_
        refine wk_calli (va_runV (As := [.int (-1 : Int32), .int (0 : Int32)]) (rest := [.int v9, .int (256 : Int32), .ref (q 38)]) ⟨hx, hb, hml, hown, hts⟩ (c_M_laterOn l D q cA (-1) 0 z H.size _ h) (cwV 2 hts gs_M_118 rfl rfl rfl (by decide +kernel) ⟨Nat.le_trans (by decide) hRf, Nat.le_trans (by decide) hRl⟩) (wk_preV hK hV 4 4 rfl rfl [.int (-1 : Int32), .int (0 : Int32)]) rfl rfl hl.1 rfl (lv_room (Nat.le_of_ble_eq_true rfl)) kd_prog_6_method_22_code_279 ⟨hce, hsl⟩) hV hA (fun rz10 z10 H locs h hV => ?_)
        refine lv_if_eq (tgt := 300) hx hb kd_prog_6_method_22_code_282 (by decide) (fun hc => ?_) (fun hc => ?_)
        · have h := h.1 hc
          exact J300 x1 x2 v9 256 z10 H locs ls hV (lv_sub hl [0, 1, 2] rfl) h
        · have h := h.2 hc
          refine lv_aload_n hx hb kd_prog_6_method_22_code_285 rfl (lv_at hl 0 rfl) ?_
          refine va_get (D := D) (ci := 4) (v := .ref (q 46)) (C := kr_M) (T := kt_M) (N := kn_M) hx hb hts ki_M hown hK hV.1 4 rfl rfl 22 (by decide) (hts _ hw_604) (fun _ h9 => h9) rfl kd_prog_6_method_22_code_286 ?_
          refine lv_iconst (v := 0) hx hb kd_prog_6_method_22_code_289 (by decide) ?_
          obtain ⟨hin, h⟩ := h
          refine va_zald hx hb hK hV.1 46 41 rfl rfl hin kd_prog_6_method_22_code_290 ?_
          refine lv_topi (fun v11 ev11 => ?_)
          have h := h v11 ev11
          refine lv_if_ne (tgt := 300) hx hb kd_prog_6_method_22_code_291 (by decide) (fun hc => ?_) (fun hc => ?_)
          · have h := h.1 hc
            exact J300 x1 x2 v9 256 z10 H locs ls hV (lv_sub hl [0, 1, 2] rfl) h
          · have h := h.2 hc
            refine lv_iconst (v := 1) hx hb kd_prog_6_method_22_code_294 (by decide) ?_
            refine lv_iload_n hx hb kd_prog_6_method_22_code_295 rfl (lv_at hl 1 rfl) ?_
            refine lv_ishl hx hb kd_prog_6_method_22_code_296 ?_
            refine lv_topi (fun v12 ev12 => ?_)
            have h := h v12 ev12
            refine lv_goto (tgt := 301) hx hb kd_prog_6_method_22_code_297 (by decide) ?_
            exact J301 x1 x2 v12 v9 256 z10 H locs ls hV (lv_sub hl [0, 1, 2] rfl) h
      · have h := h.2 hc
        refine lv_aload_n hx hb kd_prog_6_method_22_code_71 rfl (lv_at hl 0 rfl) ?_
        refine va_get (D := D) (ci := 4) (v := .ref (q 36)) (C := kr_M) (T := kt_M) (N := kn_M) hx hb hts ki_M hown hK hV.1 4 rfl rfl 12 (by decide) (hts _ hw_594) (fun _ h9 => h9) rfl kd_prog_6_method_22_code_72 ?_
        refine lv_iload_n hx hb kd_prog_6_method_22_code_75 rfl (lv_at hl 3 rfl) ?_
        obtain ⟨hin, h⟩ := h
        refine va_zald hx hb hK hV.1 36 31 rfl rfl hin kd_prog_6_method_22_code_76 ?_
        refine lv_topi (fun v13 ev13 => ?_)
        have h := h v13 ev13
        refine lv_if_eq (tgt := 261) hx hb kd_prog_6_method_22_code_77 (by decide) (fun hc => ?_) (fun hc => ?_)
        · have h := h.1 hc
          exact J261 x1 x2 x3 z H locs ls hV (lv_sub hl [0, 1, 2, 3] rfl) h
        · have h := h.2 hc
          refine lv_aload_n hx hb kd_prog_6_method_22_code_80 rfl (lv_at hl 0 rfl) ?_
          refine va_get (D := D) (ci := 4) (v := .ref (q 40)) (C := kr_M) (T := kt_M) (N := kn_M) hx hb hts ki_M hown hK hV.1 4 rfl rfl 16 (by decide) (hts _ hw_598) (fun _ h9 => h9) rfl kd_prog_6_method_22_code_81 ?_
          refine lv_iload_n hx hb kd_prog_6_method_22_code_84 rfl (lv_at hl 3 rfl) ?_
          obtain ⟨hin, h⟩ := h
          refine va_zald hx hb hK hV.1 40 35 rfl rfl hin kd_prog_6_method_22_code_85 ?_
          refine lv_topi (fun v14 ev14 => ?_)
          have h := h v14 ev14
          refine lv_if_eq (tgt := 102) hx hb kd_prog_6_method_22_code_86 (by decide) (fun hc => ?_) (fun hc => ?_)
          · have h := h.1 hc
            exact J102 x1 x2 x3 z H locs ls hV (lv_sub hl [0, 1, 2, 3] rfl) h
          · have h := h.2 hc
            refine lv_aload_n hx hb kd_prog_6_method_22_code_89 rfl (lv_at hl 0 rfl) ?_
            refine va_get (D := D) (ci := 4) (v := .ref (q 46)) (C := kr_M) (T := kt_M) (N := kn_M) hx hb hts ki_M hown hK hV.1 4 rfl rfl 22 (by decide) (hts _ hw_604) (fun _ h9 => h9) rfl kd_prog_6_method_22_code_90 ?_
            refine lv_iload_n hx hb kd_prog_6_method_22_code_93 rfl (lv_at hl 3 rfl) ?_
            obtain ⟨hin, h⟩ := h
            refine va_zald hx hb hK hV.1 46 41 rfl rfl hin kd_prog_6_method_22_code_94 ?_
            refine lv_topi (fun v15 ev15 => ?_)
            have h := h v15 ev15
            refine lv_if_ne (tgt := 102) hx hb kd_prog_6_method_22_code_95 (by decide) (fun hc => ?_) (fun hc => ?_)
            · have h := h.1 hc
              exact J102 x1 x2 x3 z H locs ls hV (lv_sub hl [0, 1, 2, 3] rfl) h
            · have h := h.2 hc
              refine lv_iconst (v := 1) hx hb kd_prog_6_method_22_code_98 (by decide) ?_
              refine lv_goto (tgt := 103) hx hb kd_prog_6_method_22_code_99 (by decide) ?_
              exact J103 x1 x2 x3 1 z H locs ls hV (lv_sub hl [0, 1, 2, 3] rfl) h
  have L43 : ∀ (n : Nat) (x1 : Int32) (x2 : Int32) (z : Sta) (H : Heap) (locs : List Loc) (ls : Array Slot), wk_S D q cA A s.heap z H locs → lv_has ls 6 [(0, .ref (q 4)), (1, .int x1), (2, .int x2)] → lp_M_plans_43 K n x1 x2 z → W p l e R s m args below meth c H locs ce sl Q (F0 m 43 ls []) := by
    intro n43
    induction n43 with
    | zero => intro x1 x2 z H locs ls hV hl h; rw [lp_M_plans_43] at h; exact h.elim
    | succ n43 ih43 =>
      intro x1 x2 z H locs ls hV hl h
      rw [lp_M_plans_43] at h
      refine lv_iload_n hx hb kd_prog_6_method_22_code_43 rfl (lv_at hl 2 rfl) ?_
      refine lv_iconst (v := 3) hx hb kd_prog_6_method_22_code_44 (by decide) ?_
      refine lv_icmp_ge (tgt := 59) hx hb kd_prog_6_method_22_code_45 (by decide) (fun hc => ?_) (fun hc => ?_)
      · have h := h.1 hc
        refine lv_iconst (v := 0) hx hb kd_prog_6_method_22_code_59 (by decide) ?_
        refine lv_istore_n hx hb kd_prog_6_method_22_code_60 rfl hl (by decide) rfl (fun ls hl => ?_)
        have hl : lv_has ls 6 [(2, .int 0), (0, .ref (q 4)), (1, .int x1)] := hl
        refine lv_iconst (v := 0) hx hb kd_prog_6_method_22_code_61 (by decide) ?_
        refine lv_istore_n hx hb kd_prog_6_method_22_code_62 rfl hl (by decide) rfl (fun ls hl => ?_)
        have hl : lv_has ls 6 [(3, .int 0), (2, .int 0), (0, .ref (q 4)), (1, .int x1)] := hl
        obtain ⟨n63, h⟩ := h
        exact L63 n63 x1 0 0 z H locs ls hV (lv_sub hl [2, 3, 1, 0] rfl) h
      · have h := h.2 hc
        refine lv_aload_n hx hb kd_prog_6_method_22_code_48 rfl (lv_at hl 0 rfl) ?_
        refine lv_iload_n hx hb kd_prog_6_method_22_code_49 rfl (lv_at hl 2 rfl) ?_
        refine wk_callv (va_runV (As := [.int x2]) (rest := []) ⟨hx, hb, hml, hown, hts⟩ (c_M_settle l D q cA x2 z H.size _ h) (cwV 1 hts gs_M_131 rfl rfl rfl (by decide +kernel) ⟨Nat.le_trans (by decide) hRf, Nat.le_trans (by decide) hRl⟩) (wk_preV hK hV 4 4 rfl rfl [.int x2]) rfl rfl hl.1 rfl (lv_room (Nat.le_of_ble_eq_true rfl)) kd_prog_6_method_22_code_50 ⟨hce, hsl⟩) hV hA (fun z6 H locs h hV => ?_)
        obtain ⟨v7, ev7⟩ : ∃ v : Int32, v = x2 + 1 := ⟨_, rfl⟩
        have h := h v7 ev7
        refine lv_iinc (v := v7) (k := 2) hx hb kd_prog_6_method_22_code_53 hl rfl (by rw [ev7]; rfl) (by decide) rfl (fun ls hl => ?_)
        have hl : lv_has ls 6 [(2, .int v7), (0, .ref (q 4)), (1, .int x1)] := hl
        refine lv_goto (tgt := 43) hx hb kd_prog_6_method_22_code_56 (by decide) ?_
        exact ih43 x1 v7 z6 H locs ls hV (lv_sub hl [1, 2, 0] rfl) h
  have L2 : ∀ (n : Nat) (x1 : Int32) (x2 : Int32) (z : Sta) (H : Heap) (locs : List Loc) (ls : Array Slot), wk_S D q cA A s.heap z H locs → lv_has ls 6 [(0, .ref (q 4)), (1, .int x1), (2, .int x2)] → lp_M_plans_2 K n x1 x2 z → W p l e R s m args below meth c H locs ce sl Q (F0 m 2 ls []) := by
    intro n2
    induction n2 with
    | zero => intro x1 x2 z H locs ls hV hl h; rw [lp_M_plans_2] at h; exact h.elim
    | succ n2 ih2 =>
      intro x1 x2 z H locs ls hV hl h
      rw [lp_M_plans_2] at h
      refine lv_iload_n hx hb kd_prog_6_method_22_code_2 rfl (lv_at hl 2 rfl) ?_
      refine lv_bipush (v := 16) hx hb kd_prog_6_method_22_code_3 (by decide) ?_
      refine lv_icmp_ge (tgt := 41) hx hb kd_prog_6_method_22_code_5 (by decide) (fun hc => ?_) (fun hc => ?_)
      · have h := h.1 hc
        refine lv_iconst (v := 0) hx hb kd_prog_6_method_22_code_41 (by decide) ?_
        refine lv_istore_n hx hb kd_prog_6_method_22_code_42 rfl hl (by decide) rfl (fun ls hl => ?_)
        have hl : lv_has ls 6 [(2, .int 0), (0, .ref (q 4)), (1, .int x1)] := hl
        obtain ⟨n43, h⟩ := h
        exact L43 n43 x1 0 z H locs ls hV (lv_sub hl [1, 2, 0] rfl) h
      · have h := h.2 hc
        refine lv_aload_n hx hb kd_prog_6_method_22_code_8 rfl (lv_at hl 0 rfl) ?_
        refine lv_iload_n hx hb kd_prog_6_method_22_code_9 rfl (lv_at hl 2 rfl) ?_
        refine lv_iload_n hx hb kd_prog_6_method_22_code_10 rfl (lv_at hl 1 rfl) ?_
        refine wk_callv (va_runV (As := [.int x2, .int x1]) (rest := []) ⟨hx, hb, hml, hown, hts⟩ (c_M_look l D q cA x2 x1 z H.size _ h) (cwV 2 hts gs_M_127 rfl rfl rfl (by decide +kernel) ⟨Nat.le_trans (by decide) hRf, Nat.le_trans (by decide) hRl⟩) (wk_preV hK hV 4 4 rfl rfl [.int x2, .int x1]) rfl rfl hl.1 rfl (lv_room (Nat.le_of_ble_eq_true rfl)) kd_prog_6_method_22_code_11 ⟨hce, hsl⟩) hV hA (fun z1 H locs h hV => ?_)
        refine lv_aload_n hx hb kd_prog_6_method_22_code_14 rfl (lv_at hl 0 rfl) ?_
        refine va_get (D := D) (ci := 4) (v := .ref (q 43)) (C := kr_M) (T := kt_M) (N := kn_M) hx hb hts ki_M hown hK hV.1 4 rfl rfl 19 (by decide) (hts _ hw_601) (fun _ h9 => h9) rfl kd_prog_6_method_22_code_15 ?_
        refine lv_iload_n hx hb kd_prog_6_method_22_code_18 rfl (lv_at hl 2 rfl) ?_
        refine lv_iconst (v := 1) hx hb kd_prog_6_method_22_code_19 (by decide) ?_
        obtain ⟨hin, h⟩ := h
        refine wk_zast hx hb hK hV 43 38 28 rfl rfl (ks_43 q cA z1) hin kd_prog_6_method_22_code_20 (fun H locs hV => ?_)
        obtain ⟨z2, ez2⟩ : ∃ x : Sta, x = zA z1 28 (upd (z1.2.1 28) x2.toNatClampNeg (vp_nar .boolean (1 : Int32))) := ⟨_, rfl⟩
        rw [← ez2] at hV
        have h := h z2 ez2
        refine lv_aload_n hx hb kd_prog_6_method_22_code_21 rfl (lv_at hl 0 rfl) ?_
        refine va_get (D := D) (ci := 4) (v := .ref (q 44)) (C := kr_M) (T := kt_M) (N := kn_M) hx hb hts ki_M hown hK hV.1 4 rfl rfl 20 (by decide) (hts _ hw_602) (fun _ h9 => h9) rfl kd_prog_6_method_22_code_22 ?_
        refine lv_iload_n hx hb kd_prog_6_method_22_code_25 rfl (lv_at hl 2 rfl) ?_
        refine lv_iconst (v := 1) hx hb kd_prog_6_method_22_code_26 (by decide) ?_
        obtain ⟨hin, h⟩ := h
        refine wk_zast hx hb hK hV 44 39 29 rfl rfl (ks_44 q cA z2) hin kd_prog_6_method_22_code_27 (fun H locs hV => ?_)
        obtain ⟨z3, ez3⟩ : ∃ x : Sta, x = zA z2 29 (upd (z2.2.1 29) x2.toNatClampNeg (vp_nar .boolean (1 : Int32))) := ⟨_, rfl⟩
        rw [← ez3] at hV
        have h := h z3 ez3
        refine lv_aload_n hx hb kd_prog_6_method_22_code_28 rfl (lv_at hl 0 rfl) ?_
        refine va_get (D := D) (ci := 4) (v := .ref (q 46)) (C := kr_M) (T := kt_M) (N := kn_M) hx hb hts ki_M hown hK hV.1 4 rfl rfl 22 (by decide) (hts _ hw_604) (fun _ h9 => h9) rfl kd_prog_6_method_22_code_29 ?_
        refine lv_iload_n hx hb kd_prog_6_method_22_code_32 rfl (lv_at hl 2 rfl) ?_
        refine lv_iconst (v := 1) hx hb kd_prog_6_method_22_code_33 (by decide) ?_
        obtain ⟨hin, h⟩ := h
        refine wk_zast hx hb hK hV 46 41 31 rfl rfl (ks_46 q cA z3) hin kd_prog_6_method_22_code_34 (fun H locs hV => ?_)
        obtain ⟨z4, ez4⟩ : ∃ x : Sta, x = zA z3 31 (upd (z3.2.1 31) x2.toNatClampNeg (vp_nar .boolean (1 : Int32))) := ⟨_, rfl⟩
        rw [← ez4] at hV
        have h := h z4 ez4
        obtain ⟨v5, ev5⟩ : ∃ v : Int32, v = x2 + 1 := ⟨_, rfl⟩
        have h := h v5 ev5
        refine lv_iinc (v := v5) (k := 2) hx hb kd_prog_6_method_22_code_35 hl rfl (by rw [ev5]; rfl) (by decide) rfl (fun ls hl => ?_)
        have hl : lv_has ls 6 [(2, .int v5), (0, .ref (q 4)), (1, .int x1)] := hl
        refine lv_goto (tgt := 2) hx hb kd_prog_6_method_22_code_38 (by decide) ?_
        exact ih2 x1 v5 z4 H locs ls hV (lv_sub hl [1, 2, 0] rfl) h
  unfold wp_M_plans at h
  refine lv_iconst (v := 0) hx hb kd_prog_6_method_22_code_0 (by decide) ?_
  refine lv_istore_n hx hb kd_prog_6_method_22_code_1 rfl hl (by decide) rfl (fun ls hl => ?_)
  have hl : lv_has ls 6 [(2, .int 0), (0, .ref (q 4)), (1, .int x1)] := hl
  obtain ⟨n2, h⟩ := h
  exact L2 n2 x1 0 z H locs ls hV (lv_sub hl [1, 2, 0] rfl) h
end
set_option maxHeartbeats 4000000 in
set_option maxRecDepth 100000 in
theorem c_M_plans (l : Launch) (D : va_G) (q : Nat → Nat) (cA : Nat → ClassId) (x1 : Int32) (z : Sta) (sz : Nat) (K : Sta → Prop) (h : wp_M_plans x1 z K) : Met l ke_M_plans (kc_M_plans :: lw_g) { frames := 6, cells := 0, slots := 0, locals := 140 } (wk_Pc D q cA [.ref (q 4), .int x1] z sz) (va_Qv K (wk_B D q cA (va_A (wW q cA z) sz)) (va_A (wW q cA z) sz)) 0 0 (va_A (wW q cA z) sz) := by
  refine Met.ofW (cc := prog_6_method_22_code) (maxL := 6) (ret := none) (by decide) rfl ?_
  intro p e s m args below meth c s₁ B hml hv
  obtain ⟨rfl, hsz, hP, hK, hD0⟩ := hv
  have hx := B.exec
  have hb := B.bytes
  have hr := B.returns
  have hlocks := B.notSynchronized
  have hts0 := atoms_spec (ws := kc_M_plans :: lw_g) B.pre
  have hts : ∀ w ∈ lw_g, w.before ([.ref (q 4), .int x1] : List Value).toArray s = true := fun w hw => hts0 w (List.mem_cons_of_mem _ hw)
  have hown : s.vm.findClass kr_M = some m.cls := findClass_of_methodNamed B.named
  subst hsz
  have hD := hD0.self (sz := s.heap.size)
  generalize hAe : va_A (wW q cA z) s.heap.size = A at hD ⊢
  have hA : ∀ x : Nat, s.heap.size ≤ x → A x := fun x hx => by rw [← hAe]; exact Or.inr hx
  have hl := lv_entry ([.ref (q 4), .int x1]) (n := 6) (Nat.le_of_ble_eq_true rfl)
  rw [lg_entry_eq]
  generalize (lg_sl ([.ref (q 4), .int x1]) ++ List.replicate (6 - (lg_sl ([.ref (q 4), .int x1])).length) Slot.unset).toArray = ls at hl ⊢
  have hl : lv_has ls 6 [(0, .ref (q 4)), (1, .int x1)] := hl
  exact w_M_plans hx hb hml hown hts (Nat.le_refl _) (Nat.le_refl _) (Nat.zero_le _) (Nat.zero_le _) hA hK x1 z K h (fun u H locs pc ls hk hV hd => W.vret hx hb hr (fun t ht hW => ⟨⟨u, rfl, hk, by rw [ht]; exact hV.1, va_K.moved hW.alike hK, hV.2.1⟩, hV.2.2.F ht⟩) hV.2.2.2.2 hd) ⟨hP, hD, va_S.rf⟩ hl
section
variable {p : Program} {l : Launch} {e : Env} {R : Room} {s : State} {m : MethodId} {args : Array Value} {below : List Frame} {meth : Method} {c : Code} {Q : State → Prop} {ce sl : Nat} {D : va_G} {q : Nat → Nat} {cA : Nat → ClassId} {A : Nat → Prop}
set_option maxHeartbeats 4000000 in
set_option maxRecDepth 100000 in
theorem w_M_bits (hx : p.tables.exec = Jvm.exec) (hb : c.code = prog_6_method_23_code) (hml : c.maxLocals = 3) (hown : s.vm.findClass kr_M = some m.cls) (hts : ∀ w ∈ lw_g, w.before args s = true) (hRf : 0 ≤ R.frames) (hRl : 0 ≤ R.locals) (hce : ce ≤ R.cells) (hsl : sl ≤ R.slots) (hA : ∀ x, s.heap.size ≤ x → A x) (hK : va_K D wk_cl (tysW cA) s) (x0 : Int32) (z : Sta) (K : Int32 → Sta → Prop) (h : wp_M_bits x0 z K) (hret : ∀ (r : Int32) (u : Sta) (H : Heap) (locs : List Loc) (pc : Nat) (ls : Array Slot), K r u → wk_S D q cA A s.heap u H locs → decode prog_6_method_23_code pc = .ok (.ireturn, 1) → W p l e R s m args below meth c H locs ce sl Q (F0 m pc ls [.int r])) {H : Heap} {locs : List Loc} {ls : Array Slot} (hV : wk_S D q cA A s.heap z H locs) (hl : lv_has ls 3 [(0, .int x0)]) : W p l e R s m args below meth c H locs ce sl Q (F0 m 0 ls []) := by
  have L4 : ∀ (n : Nat) (x0 : Int32) (x1 : Int32) (x2 : Int32) (z : Sta) (H : Heap) (locs : List Loc) (ls : Array Slot), wk_S D q cA A s.heap z H locs → lv_has ls 3 [(0, .int x0), (1, .int x1), (2, .int x2)] → lp_M_bits_4 K n x0 x1 x2 z → W p l e R s m args below meth c H locs ce sl Q (F0 m 4 ls []) := by
    intro n4
    induction n4 with
    | zero => intro x0 x1 x2 z H locs ls hV hl h; rw [lp_M_bits_4] at h; exact h.elim
    | succ n4 ih4 =>
      intro x0 x1 x2 z H locs ls hV hl h
      rw [lp_M_bits_4] at h
      refine lv_iload_n hx hb kd_prog_6_method_23_code_4 rfl (lv_at hl 2 rfl) ?_
      refine lv_bipush (v := 24) hx hb kd_prog_6_method_23_code_5 (by decide) ?_
      refine lv_icmp_ge (tgt := 24) hx hb kd_prog_6_method_23_code_7 (by decide) (fun hc => ?_) (fun hc => ?_)
      · have h := h.1 hc
        refine lv_iload_n hx hb kd_prog_6_method_23_code_24 rfl (lv_at hl 1 rfl) ?_
        exact hret x1 z H locs 25 ls h hV kd_prog_6_method_23_code_25
      · have h := h.2 hc
        refine lv_iload_n hx hb kd_prog_6_method_23_code_10 rfl (lv_at hl 1 rfl) ?_
        refine lv_iload_n hx hb kd_prog_6_method_23_code_11 rfl (lv_at hl 0 rfl) ?_
        refine lv_iload_n hx hb kd_prog_6_method_23_code_12 rfl (lv_at hl 2 rfl) ?_
        refine lv_ishr hx hb kd_prog_6_method_23_code_13 ?_
        refine lv_topi (fun v1 ev1 => ?_)
        have h := h v1 ev1
        refine lv_iconst (v := 1) hx hb kd_prog_6_method_23_code_14 (by decide) ?_
        refine lv_iand hx hb kd_prog_6_method_23_code_15 ?_
        refine lv_topi (fun v2 ev2 => ?_)
        have h := h v2 ev2
        refine lv_iadd hx hb kd_prog_6_method_23_code_16 ?_
        refine lv_topi (fun v3 ev3 => ?_)
        have h := h v3 ev3
        refine lv_istore_n hx hb kd_prog_6_method_23_code_17 rfl hl (by decide) rfl (fun ls hl => ?_)
        have hl : lv_has ls 3 [(1, .int v3), (0, .int x0), (2, .int x2)] := hl
        obtain ⟨v4, ev4⟩ : ∃ v : Int32, v = x2 + 1 := ⟨_, rfl⟩
        have h := h v4 ev4
        refine lv_iinc (v := v4) (k := 2) hx hb kd_prog_6_method_23_code_18 hl rfl (by rw [ev4]; rfl) (by decide) rfl (fun ls hl => ?_)
        have hl : lv_has ls 3 [(2, .int v4), (1, .int v3), (0, .int x0)] := hl
        refine lv_goto (tgt := 4) hx hb kd_prog_6_method_23_code_21 (by decide) ?_
        exact ih4 x0 v3 v4 z H locs ls hV (lv_sub hl [2, 1, 0] rfl) h
  unfold wp_M_bits at h
  refine lv_iconst (v := 0) hx hb kd_prog_6_method_23_code_0 (by decide) ?_
  refine lv_istore_n hx hb kd_prog_6_method_23_code_1 rfl hl (by decide) rfl (fun ls hl => ?_)
  have hl : lv_has ls 3 [(1, .int 0), (0, .int x0)] := hl
  refine lv_iconst (v := 0) hx hb kd_prog_6_method_23_code_2 (by decide) ?_
  refine lv_istore_n hx hb kd_prog_6_method_23_code_3 rfl hl (by decide) rfl (fun ls hl => ?_)
  have hl : lv_has ls 3 [(2, .int 0), (1, .int 0), (0, .int x0)] := hl
  obtain ⟨n4, h⟩ := h
  exact L4 n4 x0 0 0 z H locs ls hV (lv_sub hl [2, 1, 0] rfl) h
end
set_option maxHeartbeats 4000000 in
set_option maxRecDepth 100000 in
theorem c_M_bits (l : Launch) (D : va_G) (q : Nat → Nat) (cA : Nat → ClassId) (x0 : Int32) (z : Sta) (sz : Nat) (K : Int32 → Sta → Prop) (h : wp_M_bits x0 z K) : Met l ke_M_bits (kc_M_bits :: lw_g) { frames := 0, cells := 0, slots := 0, locals := 0 } (wk_Pc D q cA [.int x0] z sz) (va_Qi K (wk_B D q cA (va_A (wW q cA z) sz)) (va_A (wW q cA z) sz)) 0 0 (va_A (wW q cA z) sz) := by
  refine Met.ofW (cc := prog_6_method_23_code) (maxL := 3) (ret := (some .int)) (by decide) rfl ?_
  intro p e s m args below meth c s₁ B hml hv
  obtain ⟨rfl, hsz, hP, hK, hD0⟩ := hv
  have hx := B.exec
  have hb := B.bytes
  have hr := B.returns
  have hlocks := B.notSynchronized
  have hts0 := atoms_spec (ws := kc_M_bits :: lw_g) B.pre
  have hts : ∀ w ∈ lw_g, w.before ([.int x0] : List Value).toArray s = true := fun w hw => hts0 w (List.mem_cons_of_mem _ hw)
  have hown : s.vm.findClass kr_M = some m.cls := findClass_of_methodNamed B.named
  subst hsz
  have hD := hD0.self (sz := s.heap.size)
  generalize hAe : va_A (wW q cA z) s.heap.size = A at hD ⊢
  have hA : ∀ x : Nat, s.heap.size ≤ x → A x := fun x hx => by rw [← hAe]; exact Or.inr hx
  have hl := lv_entry ([.int x0]) (n := 3) (Nat.le_of_ble_eq_true rfl)
  rw [lg_entry_eq]
  generalize (lg_sl ([.int x0]) ++ List.replicate (3 - (lg_sl ([.int x0])).length) Slot.unset).toArray = ls at hl ⊢
  have hl : lv_has ls 3 [(0, .int x0)] := hl
  exact w_M_bits hx hb hml hown hts (Nat.le_refl _) (Nat.le_refl _) (Nat.zero_le _) (Nat.zero_le _) hA hK x0 z K h (fun r u H locs pc ls hk hV hd => W.iret hx hb hr (fun t ht hW => ⟨⟨r, u, rfl, hk, by rw [ht]; exact hV.1, va_K.moved hW.alike hK, hV.2.1⟩, hV.2.2.F ht⟩) hV.2.2.2.2 hd) ⟨hP, hD, va_S.rf⟩ hl
section
variable {p : Program} {l : Launch} {e : Env} {R : Room} {s : State} {m : MethodId} {args : Array Value} {below : List Frame} {meth : Method} {c : Code} {Q : State → Prop} {ce sl : Nat} {D : va_G} {q : Nat → Nat} {cA : Nat → ClassId} {A : Nat → Prop}
set_option maxHeartbeats 4000000 in
set_option maxRecDepth 100000 in
theorem w_M_plan (hx : p.tables.exec = Jvm.exec) (hb : c.code = prog_6_method_24_code) (hml : c.maxLocals = 2) (hown : s.vm.findClass kr_M = some m.cls) (hts : ∀ w ∈ lw_g, w.before args s = true) (hRf : 7 ≤ R.frames) (hRl : 165 ≤ R.locals) (hce : ce ≤ R.cells) (hsl : sl ≤ R.slots) (hA : ∀ x, s.heap.size ≤ x → A x) (hK : va_K D wk_cl (tysW cA) s) (z : Sta) (K : Int32 → Sta → Prop) (h : wp_M_plan z K) (hret : ∀ (r : Int32) (u : Sta) (H : Heap) (locs : List Loc) (pc : Nat) (ls : Array Slot), K r u → wk_S D q cA A s.heap u H locs → decode prog_6_method_24_code pc = .ok (.ireturn, 1) → W p l e R s m args below meth c H locs ce sl Q (F0 m pc ls [.int r])) {H : Heap} {locs : List Loc} {ls : Array Slot} (hV : wk_S D q cA A s.heap z H locs) (hl : lv_has ls 2 [(0, .ref (q 4))]) : W p l e R s m args below meth c H locs ce sl Q (F0 m 0 ls []) := by
  have L85 : ∀ (n : Nat) (x1 : Int32) (z : Sta) (H : Heap) (locs : List Loc) (ls : Array Slot), wk_S D q cA A s.heap z H locs → lv_has ls 2 [(0, .ref (q 4)), (1, .int x1)] → lp_M_plan_85 K n x1 z → W p l e R s m args below meth c H locs ce sl Q (F0 m 85 ls []) := by
    intro n85
    induction n85 with
    | zero => intro x1 z H locs ls hV hl h; rw [lp_M_plan_85] at h; exact h.elim
    | succ n85 ih85 =>
      intro x1 z H locs ls hV hl h
      rw [lp_M_plan_85] at h
      refine lv_iload_n hx hb kd_prog_6_method_24_code_85 rfl (lv_at hl 1 rfl) ?_
      refine lv_aload_n hx hb kd_prog_6_method_24_code_86 rfl (lv_at hl 0 rfl) ?_
      refine va_get (D := D) (ci := 4) (v := .int (z.1 9)) (C := kr_M) (T := kt_M) (N := kn_M) hx hb hts ki_M hown hK hV.1 4 rfl rfl 5 (by decide) (hts _ hw_587) (fun _ h9 => h9) rfl kd_prog_6_method_24_code_87 ?_
      refine lv_topi (fun v12 ev12 => ?_)
      have h := h v12 ev12
      refine lv_icmp_ge (tgt := 104) hx hb kd_prog_6_method_24_code_90 (by decide) (fun hc => ?_) (fun hc => ?_)
      · have h := h.1 hc
        refine lv_aload_n hx hb kd_prog_6_method_24_code_104 rfl (lv_at hl 0 rfl) ?_
        refine lv_iconst (v := 1) hx hb kd_prog_6_method_24_code_105 (by decide) ?_
        refine wk_put (D := D) (ci := 4) (v := .int (1 : Int32)) (ty := .boolean) (C := kr_M) (T := kt_M) (N := kn_M) (z1 := zI z 10 (1 : Int32)) hx hb hts ki_M ky_M ko_M km_M hown hK hV 4 rfl rfl 9 (by decide) (hts _ hw_591) (fun _ h9 => h9) rfl (by decide +kernel) rfl rfl (Nat.le_of_ble_eq_true rfl) rfl kd_prog_6_method_24_code_106 (fun H locs hV => ?_)
        obtain ⟨z13, ez13⟩ : ∃ x : Sta, x = zI z 10 (1 : Int32) := ⟨_, rfl⟩
        rw [← ez13] at hV
        have h := h z13 ez13
        refine lv_aload_n hx hb kd_prog_6_method_24_code_109 rfl (lv_at hl 0 rfl) ?_
        refine lv_dup hx hb kd_prog_6_method_24_code_110 rfl ?_
        refine va_get (D := D) (ci := 4) (v := .int (z13.1 11)) (C := kr_M) (T := kt_M) (N := kn_M) hx hb hts ki_M hown hK hV.1 4 rfl rfl 10 (by decide) (hts _ hw_592) (fun _ h9 => h9) rfl kd_prog_6_method_24_code_111 ?_
        refine lv_topi (fun v14 ev14 => ?_)
        have h := h v14 ev14
        refine lv_iconst (v := 1) hx hb kd_prog_6_method_24_code_114 (by decide) ?_
        refine lv_iadd hx hb kd_prog_6_method_24_code_115 ?_
        refine lv_topi (fun v15 ev15 => ?_)
        have h := h v15 ev15
        refine wk_put (D := D) (ci := 4) (v := .int v15) (ty := .int) (C := kr_M) (T := kt_M) (N := kn_M) (z1 := zI z13 11 v15) hx hb hts ki_M ky_M ko_M km_M hown hK hV 4 rfl rfl 10 (by decide) (hts _ hw_592) (fun _ h9 => h9) rfl (by decide +kernel) rfl rfl (Nat.le_of_ble_eq_true rfl) rfl kd_prog_6_method_24_code_116 (fun H locs hV => ?_)
        obtain ⟨z16, ez16⟩ : ∃ x : Sta, x = zI z13 11 v15 := ⟨_, rfl⟩
        rw [← ez16] at hV
        have h := h z16 ez16
        refine lv_aload_n hx hb kd_prog_6_method_24_code_119 rfl (lv_at hl 0 rfl) ?_
        refine va_get (D := D) (ci := 4) (v := .int (z16.1 12)) (C := kr_M) (T := kt_M) (N := kn_M) hx hb hts ki_M hown hK hV.1 4 rfl rfl 11 (by decide) (hts _ hw_593) (fun _ h9 => h9) rfl kd_prog_6_method_24_code_120 ?_
        refine lv_topi (fun v17 ev17 => ?_)
        have h := h v17 ev17
        refine wk_calli (va_runS (As := [.int v17]) (rest := []) ⟨hx, hb, hml, hown, hts⟩ (c_M_bits l D q cA v17 z16 H.size _ h) (cwS 1 hts gs_M_154 rfl rfl rfl (by decide +kernel) ⟨Nat.le_trans (by decide) hRf, Nat.le_trans (by decide) hRl⟩) (wk_preS hK hV [.int v17]) rfl rfl hl.1 rfl (lv_room (Nat.le_of_ble_eq_true rfl)) kd_prog_6_method_24_code_123 ⟨hce, hsl⟩) hV hA (fun rz18 z18 H locs h hV => ?_)
        exact hret rz18 z18 H locs 126 ls h hV kd_prog_6_method_24_code_126
      · have h := h.2 hc
        refine lv_aload_n hx hb kd_prog_6_method_24_code_93 rfl (lv_at hl 0 rfl) ?_
        refine lv_iload_n hx hb kd_prog_6_method_24_code_94 rfl (lv_at hl 1 rfl) ?_
        refine wk_callv (va_runV (As := [.int x1]) (rest := []) ⟨hx, hb, hml, hown, hts⟩ (c_M_plans l D q cA x1 z H.size _ h) (cwV 1 hts gs_M_149 rfl rfl rfl (by decide +kernel) ⟨Nat.le_trans (by decide) hRf, Nat.le_trans (by decide) hRl⟩) (wk_preV hK hV 4 4 rfl rfl [.int x1]) rfl rfl hl.1 rfl (lv_room (Nat.le_of_ble_eq_true rfl)) kd_prog_6_method_24_code_95 ⟨hce, hsl⟩) hV hA (fun z19 H locs h hV => ?_)
        obtain ⟨v20, ev20⟩ : ∃ v : Int32, v = x1 + 1 := ⟨_, rfl⟩
        have h := h v20 ev20
        refine lv_iinc (v := v20) (k := 1) hx hb kd_prog_6_method_24_code_98 hl rfl (by rw [ev20]; rfl) (by decide) rfl (fun ls hl => ?_)
        have hl : lv_has ls 2 [(1, .int v20), (0, .ref (q 4))] := hl
        refine lv_goto (tgt := 85) hx hb kd_prog_6_method_24_code_101 (by decide) ?_
        exact ih85 v20 z19 H locs ls hV (lv_sub hl [1, 0] rfl) h
  have L63 : ∀ (n : Nat) (x1 : Int32) (z : Sta) (H : Heap) (locs : List Loc) (ls : Array Slot), wk_S D q cA A s.heap z H locs → lv_has ls 2 [(0, .ref (q 4)), (1, .int x1)] → lp_M_plan_63 K n x1 z → W p l e R s m args below meth c H locs ce sl Q (F0 m 63 ls []) := by
    intro n63
    induction n63 with
    | zero => intro x1 z H locs ls hV hl h; rw [lp_M_plan_63] at h; exact h.elim
    | succ n63 ih63 =>
      intro x1 z H locs ls hV hl h
      rw [lp_M_plan_63] at h
      refine lv_iload_n hx hb kd_prog_6_method_24_code_63 rfl (lv_at hl 1 rfl) ?_
      refine lv_sipush (v := 257) hx hb kd_prog_6_method_24_code_64 (by decide) ?_
      refine lv_icmp_ge (tgt := 83) hx hb kd_prog_6_method_24_code_67 (by decide) (fun hc => ?_) (fun hc => ?_)
      · have h := h.1 hc
        refine lv_iconst (v := 0) hx hb kd_prog_6_method_24_code_83 (by decide) ?_
        refine lv_istore_n hx hb kd_prog_6_method_24_code_84 rfl hl (by decide) rfl (fun ls hl => ?_)
        have hl : lv_has ls 2 [(1, .int 0), (0, .ref (q 4))] := hl
        obtain ⟨n85, h⟩ := h
        exact L85 n85 0 z H locs ls hV (lv_sub hl [1, 0] rfl) h
      · have h := h.2 hc
        refine lv_aload_n hx hb kd_prog_6_method_24_code_70 rfl (lv_at hl 0 rfl) ?_
        refine va_get (D := D) (ci := 4) (v := .ref (q 38)) (C := kr_M) (T := kt_M) (N := kn_M) hx hb hts ki_M hown hK hV.1 4 rfl rfl 14 (by decide) (hts _ hw_596) (fun _ h9 => h9) rfl kd_prog_6_method_24_code_71 ?_
        refine lv_iload_n hx hb kd_prog_6_method_24_code_74 rfl (lv_at hl 1 rfl) ?_
        refine lv_iconst (v := 0) hx hb kd_prog_6_method_24_code_75 (by decide) ?_
        obtain ⟨hin, h⟩ := h
        refine wk_iast hx hb hK hV 38 33 23 rfl rfl (ks_38 q cA z) hin kd_prog_6_method_24_code_76 (fun H locs hV => ?_)
        obtain ⟨z10, ez10⟩ : ∃ x : Sta, x = zA z 23 (upd (z.2.1 23) x1.toNatClampNeg (0 : Int32)) := ⟨_, rfl⟩
        rw [← ez10] at hV
        have h := h z10 ez10
        obtain ⟨v11, ev11⟩ : ∃ v : Int32, v = x1 + 1 := ⟨_, rfl⟩
        have h := h v11 ev11
        refine lv_iinc (v := v11) (k := 1) hx hb kd_prog_6_method_24_code_77 hl rfl (by rw [ev11]; rfl) (by decide) rfl (fun ls hl => ?_)
        have hl : lv_has ls 2 [(1, .int v11), (0, .ref (q 4))] := hl
        refine lv_goto (tgt := 63) hx hb kd_prog_6_method_24_code_80 (by decide) ?_
        exact ih63 v11 z10 H locs ls hV (lv_sub hl [1, 0] rfl) h
  have L42 : ∀ (n : Nat) (x1 : Int32) (z : Sta) (H : Heap) (locs : List Loc) (ls : Array Slot), wk_S D q cA A s.heap z H locs → lv_has ls 2 [(0, .ref (q 4)), (1, .int x1)] → lp_M_plan_42 K n x1 z → W p l e R s m args below meth c H locs ce sl Q (F0 m 42 ls []) := by
    intro n42
    induction n42 with
    | zero => intro x1 z H locs ls hV hl h; rw [lp_M_plan_42] at h; exact h.elim
    | succ n42 ih42 =>
      intro x1 z H locs ls hV hl h
      rw [lp_M_plan_42] at h
      refine lv_iload_n hx hb kd_prog_6_method_24_code_42 rfl (lv_at hl 1 rfl) ?_
      refine lv_bipush (v := 96) hx hb kd_prog_6_method_24_code_43 (by decide) ?_
      refine lv_icmp_ge (tgt := 61) hx hb kd_prog_6_method_24_code_45 (by decide) (fun hc => ?_) (fun hc => ?_)
      · have h := h.1 hc
        refine lv_iconst (v := 0) hx hb kd_prog_6_method_24_code_61 (by decide) ?_
        refine lv_istore_n hx hb kd_prog_6_method_24_code_62 rfl hl (by decide) rfl (fun ls hl => ?_)
        have hl : lv_has ls 2 [(1, .int 0), (0, .ref (q 4))] := hl
        obtain ⟨n63, h⟩ := h
        exact L63 n63 0 z H locs ls hV (lv_sub hl [1, 0] rfl) h
      · have h := h.2 hc
        refine lv_aload_n hx hb kd_prog_6_method_24_code_48 rfl (lv_at hl 0 rfl) ?_
        refine va_get (D := D) (ci := 4) (v := .ref (q 37)) (C := kr_M) (T := kt_M) (N := kn_M) hx hb hts ki_M hown hK hV.1 4 rfl rfl 13 (by decide) (hts _ hw_595) (fun _ h9 => h9) rfl kd_prog_6_method_24_code_49 ?_
        refine lv_iload_n hx hb kd_prog_6_method_24_code_52 rfl (lv_at hl 1 rfl) ?_
        refine lv_iconst (v := 0) hx hb kd_prog_6_method_24_code_53 (by decide) ?_
        obtain ⟨hin, h⟩ := h
        refine wk_iast hx hb hK hV 37 32 22 rfl rfl (ks_37 q cA z) hin kd_prog_6_method_24_code_54 (fun H locs hV => ?_)
        obtain ⟨z8, ez8⟩ : ∃ x : Sta, x = zA z 22 (upd (z.2.1 22) x1.toNatClampNeg (0 : Int32)) := ⟨_, rfl⟩
        rw [← ez8] at hV
        have h := h z8 ez8
        obtain ⟨v9, ev9⟩ : ∃ v : Int32, v = x1 + 1 := ⟨_, rfl⟩
        have h := h v9 ev9
        refine lv_iinc (v := v9) (k := 1) hx hb kd_prog_6_method_24_code_55 hl rfl (by rw [ev9]; rfl) (by decide) rfl (fun ls hl => ?_)
        have hl : lv_has ls 2 [(1, .int v9), (0, .ref (q 4))] := hl
        refine lv_goto (tgt := 42) hx hb kd_prog_6_method_24_code_58 (by decide) ?_
        exact ih42 v9 z8 H locs ls hV (lv_sub hl [1, 0] rfl) h
  unfold wp_M_plan at h
  refine lv_aload_n hx hb kd_prog_6_method_24_code_0 rfl (lv_at hl 0 rfl) ?_
  refine lv_iconst (v := 0) hx hb kd_prog_6_method_24_code_1 (by decide) ?_
  refine wk_put (D := D) (ci := 4) (v := .int (0 : Int32)) (ty := .int) (C := kr_M) (T := kt_M) (N := kn_M) (z1 := zI z 7 (0 : Int32)) hx hb hts ki_M ky_M ko_M km_M hown hK hV 4 rfl rfl 0 (by decide) (hts _ hw_582) (fun _ h9 => h9) rfl (by decide +kernel) rfl rfl (Nat.le_of_ble_eq_true rfl) rfl kd_prog_6_method_24_code_2 (fun H locs hV => ?_)
  obtain ⟨z1, ez1⟩ : ∃ x : Sta, x = zI z 7 (0 : Int32) := ⟨_, rfl⟩
  rw [← ez1] at hV
  have h := h z1 ez1
  refine lv_aload_n hx hb kd_prog_6_method_24_code_5 rfl (lv_at hl 0 rfl) ?_
  refine va_get (D := D) (ci := 4) (v := .int (z1.1 8)) (C := kr_M) (T := kt_M) (N := kn_M) hx hb hts ki_M hown hK hV.1 4 rfl rfl 1 (by decide) (hts _ hw_583) (fun _ h9 => h9) rfl kd_prog_6_method_24_code_6 ?_
  refine lv_topi (fun v2 ev2 => ?_)
  have h := h v2 ev2
  refine lv_if_ne (tgt := 18) hx hb kd_prog_6_method_24_code_9 (by decide) (fun hc => ?_) (fun hc => ?_)
  · have h := h.1 hc
    refine lv_aload_n hx hb kd_prog_6_method_24_code_18 rfl (lv_at hl 0 rfl) ?_
    refine wk_calli (va_runV (As := []) (rest := []) ⟨hx, hb, hml, hown, hts⟩ (c_M_whole l D q cA z1 H.size _ h) (cwV 0 hts gs_M_142 rfl rfl rfl (by decide +kernel) ⟨Nat.le_trans (by decide) hRf, Nat.le_trans (by decide) hRl⟩) (wk_preV hK hV 4 4 rfl rfl []) rfl rfl hl.1 rfl (lv_room (Nat.le_of_ble_eq_true rfl)) kd_prog_6_method_24_code_19 ⟨hce, hsl⟩) hV hA (fun rz3 z3 H locs h hV => ?_)
    refine lv_if_ne (tgt := 31) hx hb kd_prog_6_method_24_code_22 (by decide) (fun hc => ?_) (fun hc => ?_)
    · have h := h.1 hc
      refine lv_aload_n hx hb kd_prog_6_method_24_code_31 rfl (lv_at hl 0 rfl) ?_
      refine wk_callv (va_runV (As := []) (rest := []) ⟨hx, hb, hml, hown, hts⟩ (c_M_reach l D q cA z3 H.size _ h) (cwV 0 hts gs_M_146 rfl rfl rfl (by decide +kernel) ⟨Nat.le_trans (by decide) hRf, Nat.le_trans (by decide) hRl⟩) (wk_preV hK hV 4 4 rfl rfl []) rfl rfl hl.1 rfl (lv_room (Nat.le_of_ble_eq_true rfl)) kd_prog_6_method_24_code_32 ⟨hce, hsl⟩) hV hA (fun z4 H locs h hV => ?_)
      refine lv_aload_n hx hb kd_prog_6_method_24_code_35 rfl (lv_at hl 0 rfl) ?_
      refine lv_iconst (v := 0) hx hb kd_prog_6_method_24_code_36 (by decide) ?_
      refine wk_put (D := D) (ci := 4) (v := .int (0 : Int32)) (ty := .int) (C := kr_M) (T := kt_M) (N := kn_M) (z1 := zI z4 12 (0 : Int32)) hx hb hts ki_M ky_M ko_M km_M hown hK hV 4 rfl rfl 11 (by decide) (hts _ hw_593) (fun _ h9 => h9) rfl (by decide +kernel) rfl rfl (Nat.le_of_ble_eq_true rfl) rfl kd_prog_6_method_24_code_37 (fun H locs hV => ?_)
      obtain ⟨z5, ez5⟩ : ∃ x : Sta, x = zI z4 12 (0 : Int32) := ⟨_, rfl⟩
      rw [← ez5] at hV
      have h := h z5 ez5
      refine lv_iconst (v := 0) hx hb kd_prog_6_method_24_code_40 (by decide) ?_
      refine lv_istore_n hx hb kd_prog_6_method_24_code_41 rfl hl (by decide) rfl (fun ls hl => ?_)
      have hl : lv_has ls 2 [(1, .int 0), (0, .ref (q 4))] := hl
      obtain ⟨n42, h⟩ := h
      exact L42 n42 0 z5 H locs ls hV (lv_sub hl [1, 0] rfl) h
    · have h := h.2 hc
      refine lv_aload_n hx hb kd_prog_6_method_24_code_25 rfl (lv_at hl 0 rfl) ?_
      refine lv_iconst (v := 2) hx hb kd_prog_6_method_24_code_26 (by decide) ?_
      refine wk_calli (va_runV (As := [.int (2 : Int32)]) (rest := []) ⟨hx, hb, hml, hown, hts⟩ (c_M_fail l D q cA 2 z3 H.size _ h) (cwV 1 hts gs_M_81 rfl rfl rfl (by decide +kernel) ⟨Nat.le_trans (by decide) hRf, Nat.le_trans (by decide) hRl⟩) (wk_preV hK hV 4 4 rfl rfl [.int (2 : Int32)]) rfl rfl hl.1 rfl (lv_room (Nat.le_of_ble_eq_true rfl)) kd_prog_6_method_24_code_27 ⟨hce, hsl⟩) hV hA (fun rz6 z6 H locs h hV => ?_)
      exact hret rz6 z6 H locs 30 ls h hV kd_prog_6_method_24_code_30
  · have h := h.2 hc
    refine lv_aload_n hx hb kd_prog_6_method_24_code_12 rfl (lv_at hl 0 rfl) ?_
    refine lv_iconst (v := 1) hx hb kd_prog_6_method_24_code_13 (by decide) ?_
    refine wk_calli (va_runV (As := [.int (1 : Int32)]) (rest := []) ⟨hx, hb, hml, hown, hts⟩ (c_M_fail l D q cA 1 z1 H.size _ h) (cwV 1 hts gs_M_81 rfl rfl rfl (by decide +kernel) ⟨Nat.le_trans (by decide) hRf, Nat.le_trans (by decide) hRl⟩) (wk_preV hK hV 4 4 rfl rfl [.int (1 : Int32)]) rfl rfl hl.1 rfl (lv_room (Nat.le_of_ble_eq_true rfl)) kd_prog_6_method_24_code_14 ⟨hce, hsl⟩) hV hA (fun rz7 z7 H locs h hV => ?_)
    exact hret rz7 z7 H locs 17 ls h hV kd_prog_6_method_24_code_17
end
set_option maxHeartbeats 4000000 in
set_option maxRecDepth 100000 in
theorem c_M_plan (l : Launch) (D : va_G) (q : Nat → Nat) (cA : Nat → ClassId) (z : Sta) (sz : Nat) (K : Int32 → Sta → Prop) (h : wp_M_plan z K) : Met l ke_M_plan (kc_M_plan :: lw_g) { frames := 7, cells := 0, slots := 0, locals := 165 } (wk_Pc D q cA [.ref (q 4)] z sz) (va_Qi K (wk_B D q cA (va_A (wW q cA z) sz)) (va_A (wW q cA z) sz)) 0 0 (va_A (wW q cA z) sz) := by
  refine Met.ofW (cc := prog_6_method_24_code) (maxL := 2) (ret := (some .int)) (by decide) rfl ?_
  intro p e s m args below meth c s₁ B hml hv
  obtain ⟨rfl, hsz, hP, hK, hD0⟩ := hv
  have hx := B.exec
  have hb := B.bytes
  have hr := B.returns
  have hlocks := B.notSynchronized
  have hts0 := atoms_spec (ws := kc_M_plan :: lw_g) B.pre
  have hts : ∀ w ∈ lw_g, w.before ([.ref (q 4)] : List Value).toArray s = true := fun w hw => hts0 w (List.mem_cons_of_mem _ hw)
  have hown : s.vm.findClass kr_M = some m.cls := findClass_of_methodNamed B.named
  subst hsz
  have hD := hD0.self (sz := s.heap.size)
  generalize hAe : va_A (wW q cA z) s.heap.size = A at hD ⊢
  have hA : ∀ x : Nat, s.heap.size ≤ x → A x := fun x hx => by rw [← hAe]; exact Or.inr hx
  have hl := lv_entry ([.ref (q 4)]) (n := 2) (Nat.le_of_ble_eq_true rfl)
  rw [lg_entry_eq]
  generalize (lg_sl ([.ref (q 4)]) ++ List.replicate (2 - (lg_sl ([.ref (q 4)])).length) Slot.unset).toArray = ls at hl ⊢
  have hl : lv_has ls 2 [(0, .ref (q 4))] := hl
  exact w_M_plan hx hb hml hown hts (Nat.le_refl _) (Nat.le_refl _) (Nat.zero_le _) (Nat.zero_le _) hA hK z K h (fun r u H locs pc ls hk hV hd => W.iret hx hb hr (fun t ht hW => ⟨⟨r, u, rfl, hk, by rw [ht]; exact hV.1, va_K.moved hW.alike hK, hV.2.1⟩, hV.2.2.F ht⟩) hV.2.2.2.2 hd) ⟨hP, hD, va_S.rf⟩ hl
section
variable {p : Program} {l : Launch} {e : Env} {R : Room} {s : State} {m : MethodId} {args : Array Value} {below : List Frame} {meth : Method} {c : Code} {Q : State → Prop} {ce sl : Nat} {D : va_G} {q : Nat → Nat} {cA : Nat → ClassId} {A : Nat → Prop}
set_option maxHeartbeats 4000000 in
set_option maxRecDepth 100000 in
theorem w_M_set (hx : p.tables.exec = Jvm.exec) (hb : c.code = prog_6_method_25_code) (hml : c.maxLocals = 3) (hown : s.vm.findClass kr_M = some m.cls) (hts : ∀ w ∈ lw_g, w.before args s = true) (hRf : 1 ≤ R.frames) (hRl : 22 ≤ R.locals) (hce : ce ≤ R.cells) (hsl : sl ≤ R.slots) (hA : ∀ x, s.heap.size ≤ x → A x) (hK : va_K D wk_cl (tysW cA) s) (x1 : Int32) (x2 : Int32) (z : Sta) (K : Int64 → Sta → Prop) (h : wp_M_set x1 x2 z K) (hret : ∀ (r : Int64) (u : Sta) (H : Heap) (locs : List Loc) (pc : Nat) (ls : Array Slot), K r u → wk_S D q cA A s.heap u H locs → decode prog_6_method_25_code pc = .ok (.lreturn, 1) → W p l e R s m args below meth c H locs ce sl Q (F0 m pc ls [.long r])) {H : Heap} {locs : List Loc} {ls : Array Slot} (hV : wk_S D q cA A s.heap z H locs) (hl : lv_has ls 3 [(0, .ref (q 4)), (1, .int x1), (2, .int x2)]) : W p l e R s m args below meth c H locs ce sl Q (F0 m 0 ls []) := by
  have J63 : ∀ (y0 : Int64) (z : Sta) (H : Heap) (locs : List Loc) (ls : Array Slot), wk_S D q cA A s.heap z H locs → lv_has ls 3 [] → pj_M_set_63 K y0 z → W p l e R s m args below meth c H locs ce sl Q (F0 m 63 ls [.long y0]) := by
    intro y0 z H locs ls hV hl h
    unfold pj_M_set_63 at h
    exact hret y0 z H locs 63 ls h hV kd_prog_6_method_25_code_63
  have J57 : ∀ (z : Sta) (H : Heap) (locs : List Loc) (ls : Array Slot), wk_S D q cA A s.heap z H locs → lv_has ls 3 [(0, .ref (q 4))] → pj_M_set_57 K z → W p l e R s m args below meth c H locs ce sl Q (F0 m 57 ls []) := by
    intro z H locs ls hV hl h
    unfold pj_M_set_57 at h
    refine lv_aload_n hx hb kd_prog_6_method_25_code_57 rfl (lv_at hl 0 rfl) ?_
    refine lv_iconst (v := 2) hx hb kd_prog_6_method_25_code_58 (by decide) ?_
    refine wk_calli (va_runV (As := [.int (2 : Int32)]) (rest := []) ⟨hx, hb, hml, hown, hts⟩ (c_M_fail l D q cA 2 z H.size _ h) (cwV 1 hts gs_M_81 rfl rfl rfl (by decide +kernel) ⟨Nat.le_trans (by decide) hRf, Nat.le_trans (by decide) hRl⟩) (wk_preV hK hV 4 4 rfl rfl [.int (2 : Int32)]) rfl rfl hl.1 rfl (lv_room (Nat.le_of_ble_eq_true rfl)) kd_prog_6_method_25_code_59 ⟨hce, hsl⟩) hV hA (fun rz13 z13 H locs h hV => ?_)
    refine lv_i2l hx hb kd_prog_6_method_25_code_62 rfl ?_
    refine lv_topl (fun v14 ev14 => ?_)
    have h := h v14 ev14
    exact J63 v14 z13 H locs ls hV (lv_sub hl [] rfl) h
  unfold wp_M_set at h
  refine lv_aload_n hx hb kd_prog_6_method_25_code_0 rfl (lv_at hl 0 rfl) ?_
  refine lv_iconst (v := 0) hx hb kd_prog_6_method_25_code_1 (by decide) ?_
  refine wk_put (D := D) (ci := 4) (v := .int (0 : Int32)) (ty := .int) (C := kr_M) (T := kt_M) (N := kn_M) (z1 := zI z 7 (0 : Int32)) hx hb hts ki_M ky_M ko_M km_M hown hK hV 4 rfl rfl 0 (by decide) (hts _ hw_582) (fun _ h9 => h9) rfl (by decide +kernel) rfl rfl (Nat.le_of_ble_eq_true rfl) rfl kd_prog_6_method_25_code_2 (fun H locs hV => ?_)
  obtain ⟨z1, ez1⟩ : ∃ x : Sta, x = zI z 7 (0 : Int32) := ⟨_, rfl⟩
  rw [← ez1] at hV
  have h := h z1 ez1
  refine lv_aload_n hx hb kd_prog_6_method_25_code_5 rfl (lv_at hl 0 rfl) ?_
  refine va_get (D := D) (ci := 4) (v := .int (z1.1 10)) (C := kr_M) (T := kt_M) (N := kn_M) hx hb hts ki_M hown hK hV.1 4 rfl rfl 9 (by decide) (hts _ hw_591) (fun _ h9 => h9) rfl kd_prog_6_method_25_code_6 ?_
  refine lv_topi (fun v2 ev2 => ?_)
  have h := h v2 ev2
  refine lv_if_ne (tgt := 19) hx hb kd_prog_6_method_25_code_9 (by decide) (fun hc => ?_) (fun hc => ?_)
  · have h := h.1 hc
    refine lv_iload_n hx hb kd_prog_6_method_25_code_19 rfl (lv_at hl 1 rfl) ?_
    refine lv_iconst (v := 0) hx hb kd_prog_6_method_25_code_20 (by decide) ?_
    refine lv_aload_n hx hb kd_prog_6_method_25_code_21 rfl (lv_at hl 0 rfl) ?_
    refine va_get (D := D) (ci := 4) (v := .int (z1.1 8)) (C := kr_M) (T := kt_M) (N := kn_M) hx hb hts ki_M hown hK hV.1 4 rfl rfl 1 (by decide) (hts _ hw_583) (fun _ h9 => h9) rfl kd_prog_6_method_25_code_22 ?_
    refine lv_topi (fun v3 ev3 => ?_)
    have h := h v3 ev3
    refine lv_iconst (v := 1) hx hb kd_prog_6_method_25_code_25 (by decide) ?_
    refine lv_isub hx hb kd_prog_6_method_25_code_26 ?_
    refine lv_topi (fun v4 ev4 => ?_)
    have h := h v4 ev4
    refine wk_calli (va_runS (As := [.int x1, .int (0 : Int32), .int v4]) (rest := []) ⟨hx, hb, hml, hown, hts⟩ (c_M_within l D q cA x1 0 v4 z1 H.size _ h) (cwS 3 hts gs_M_92 rfl rfl rfl (by decide +kernel) ⟨Nat.le_trans (by decide) hRf, Nat.le_trans (by decide) hRl⟩) (wk_preS hK hV [.int x1, .int (0 : Int32), .int v4]) rfl rfl hl.1 rfl (lv_room (Nat.le_of_ble_eq_true rfl)) kd_prog_6_method_25_code_27 ⟨hce, hsl⟩) hV hA (fun rz5 z5 H locs h hV => ?_)
    refine lv_if_eq (tgt := 57) hx hb kd_prog_6_method_25_code_30 (by decide) (fun hc => ?_) (fun hc => ?_)
    · have h := h.1 hc
      exact J57 z5 H locs ls hV (lv_sub hl [0] rfl) h
    · have h := h.2 hc
      refine lv_iload_n hx hb kd_prog_6_method_25_code_33 rfl (lv_at hl 2 rfl) ?_
      refine lv_iconst (v := 0) hx hb kd_prog_6_method_25_code_34 (by decide) ?_
      refine lv_iconst (v := 5) hx hb kd_prog_6_method_25_code_35 (by decide) ?_
      refine wk_calli (va_runS (As := [.int x2, .int (0 : Int32), .int (5 : Int32)]) (rest := []) ⟨hx, hb, hml, hown, hts⟩ (c_M_within l D q cA x2 0 5 z5 H.size _ h) (cwS 3 hts gs_M_92 rfl rfl rfl (by decide +kernel) ⟨Nat.le_trans (by decide) hRf, Nat.le_trans (by decide) hRl⟩) (wk_preS hK hV [.int x2, .int (0 : Int32), .int (5 : Int32)]) rfl rfl hl.1 rfl (lv_room (Nat.le_of_ble_eq_true rfl)) kd_prog_6_method_25_code_36 ⟨hce, hsl⟩) hV hA (fun rz6 z6 H locs h hV => ?_)
      refine lv_if_eq (tgt := 57) hx hb kd_prog_6_method_25_code_39 (by decide) (fun hc => ?_) (fun hc => ?_)
      · have h := h.1 hc
        exact J57 z6 H locs ls hV (lv_sub hl [0] rfl) h
      · have h := h.2 hc
        refine lv_aload_n hx hb kd_prog_6_method_25_code_42 rfl (lv_at hl 0 rfl) ?_
        refine va_get (D := D) (ci := 4) (v := .ref (q 37)) (C := kr_M) (T := kt_M) (N := kn_M) hx hb hts ki_M hown hK hV.1 4 rfl rfl 13 (by decide) (hts _ hw_595) (fun _ h9 => h9) rfl kd_prog_6_method_25_code_43 ?_
        refine lv_bipush (v := 6) hx hb kd_prog_6_method_25_code_46 (by decide) ?_
        refine lv_iload_n hx hb kd_prog_6_method_25_code_48 rfl (lv_at hl 1 rfl) ?_
        refine lv_imul hx hb kd_prog_6_method_25_code_49 ?_
        refine lv_topi (fun v7 ev7 => ?_)
        have h := h v7 ev7
        refine lv_iload_n hx hb kd_prog_6_method_25_code_50 rfl (lv_at hl 2 rfl) ?_
        refine lv_iadd hx hb kd_prog_6_method_25_code_51 ?_
        refine lv_topi (fun v8 ev8 => ?_)
        have h := h v8 ev8
        obtain ⟨hin, h⟩ := h
        refine va_iald hx hb hK hV.1 37 32 rfl rfl hin kd_prog_6_method_25_code_52 ?_
        refine lv_topi (fun v9 ev9 => ?_)
        have h := h v9 ev9
        refine lv_i2l hx hb kd_prog_6_method_25_code_53 rfl ?_
        refine lv_topl (fun v10 ev10 => ?_)
        have h := h v10 ev10
        refine lv_goto (tgt := 63) hx hb kd_prog_6_method_25_code_54 (by decide) ?_
        exact J63 v10 z6 H locs ls hV (lv_sub hl [] rfl) h
  · have h := h.2 hc
    refine lv_aload_n hx hb kd_prog_6_method_25_code_12 rfl (lv_at hl 0 rfl) ?_
    refine lv_iconst (v := 1) hx hb kd_prog_6_method_25_code_13 (by decide) ?_
    refine wk_calli (va_runV (As := [.int (1 : Int32)]) (rest := []) ⟨hx, hb, hml, hown, hts⟩ (c_M_fail l D q cA 1 z1 H.size _ h) (cwV 1 hts gs_M_81 rfl rfl rfl (by decide +kernel) ⟨Nat.le_trans (by decide) hRf, Nat.le_trans (by decide) hRl⟩) (wk_preV hK hV 4 4 rfl rfl [.int (1 : Int32)]) rfl rfl hl.1 rfl (lv_room (Nat.le_of_ble_eq_true rfl)) kd_prog_6_method_25_code_14 ⟨hce, hsl⟩) hV hA (fun rz11 z11 H locs h hV => ?_)
    refine lv_i2l hx hb kd_prog_6_method_25_code_17 rfl ?_
    refine lv_topl (fun v12 ev12 => ?_)
    have h := h v12 ev12
    exact hret v12 z11 H locs 18 ls h hV kd_prog_6_method_25_code_18
end
set_option maxHeartbeats 4000000 in
set_option maxRecDepth 100000 in
theorem c_M_set (l : Launch) (D : va_G) (q : Nat → Nat) (cA : Nat → ClassId) (x1 : Int32) (x2 : Int32) (z : Sta) (sz : Nat) (K : Int64 → Sta → Prop) (h : wp_M_set x1 x2 z K) : Met l ke_M_set (kc_M_set :: lw_g) { frames := 1, cells := 0, slots := 0, locals := 22 } (wk_Pc D q cA [.ref (q 4), .int x1, .int x2] z sz) (va_Ql K (wk_B D q cA (va_A (wW q cA z) sz)) (va_A (wW q cA z) sz)) 0 0 (va_A (wW q cA z) sz) := by
  refine Met.ofW (cc := prog_6_method_25_code) (maxL := 3) (ret := (some .long)) (by decide) rfl ?_
  intro p e s m args below meth c s₁ B hml hv
  obtain ⟨rfl, hsz, hP, hK, hD0⟩ := hv
  have hx := B.exec
  have hb := B.bytes
  have hr := B.returns
  have hlocks := B.notSynchronized
  have hts0 := atoms_spec (ws := kc_M_set :: lw_g) B.pre
  have hts : ∀ w ∈ lw_g, w.before ([.ref (q 4), .int x1, .int x2] : List Value).toArray s = true := fun w hw => hts0 w (List.mem_cons_of_mem _ hw)
  have hown : s.vm.findClass kr_M = some m.cls := findClass_of_methodNamed B.named
  subst hsz
  have hD := hD0.self (sz := s.heap.size)
  generalize hAe : va_A (wW q cA z) s.heap.size = A at hD ⊢
  have hA : ∀ x : Nat, s.heap.size ≤ x → A x := fun x hx => by rw [← hAe]; exact Or.inr hx
  have hl := lv_entry ([.ref (q 4), .int x1, .int x2]) (n := 3) (Nat.le_of_ble_eq_true rfl)
  rw [lg_entry_eq]
  generalize (lg_sl ([.ref (q 4), .int x1, .int x2]) ++ List.replicate (3 - (lg_sl ([.ref (q 4), .int x1, .int x2])).length) Slot.unset).toArray = ls at hl ⊢
  have hl : lv_has ls 3 [(0, .ref (q 4)), (1, .int x1), (2, .int x2)] := hl
  exact w_M_set hx hb hml hown hts (Nat.le_refl _) (Nat.le_refl _) (Nat.zero_le _) (Nat.zero_le _) hA hK x1 x2 z K h (fun r u H locs pc ls hk hV hd => W.lret hx hb hr (fun t ht hW => ⟨⟨r, u, rfl, hk, by rw [ht]; exact hV.1, va_K.moved hW.alike hK, hV.2.1⟩, hV.2.2.F ht⟩) hV.2.2.2.2 hd) ⟨hP, hD, va_S.rf⟩ hl
section
variable {p : Program} {l : Launch} {e : Env} {R : Room} {s : State} {m : MethodId} {args : Array Value} {below : List Frame} {meth : Method} {c : Code} {Q : State → Prop} {ce sl : Nat} {D : va_G} {q : Nat → Nat} {cA : Nat → ClassId} {A : Nat → Prop}
set_option maxHeartbeats 4000000 in
set_option maxRecDepth 100000 in
theorem w_M_isEdge (hx : p.tables.exec = Jvm.exec) (hb : c.code = prog_6_method_26_code) (hml : c.maxLocals = 3) (hown : s.vm.findClass kr_M = some m.cls) (hts : ∀ w ∈ lw_g, w.before args s = true) (hRf : 2 ≤ R.frames) (hRl : 45 ≤ R.locals) (hce : ce ≤ R.cells) (hsl : sl ≤ R.slots) (hA : ∀ x, s.heap.size ≤ x → A x) (hK : va_K D wk_cl (tysW cA) s) (x1 : Int32) (x2 : Int32) (z : Sta) (K : Int32 → Sta → Prop) (h : wp_M_isEdge x1 x2 z K) (hret : ∀ (r : Int32) (u : Sta) (H : Heap) (locs : List Loc) (pc : Nat) (ls : Array Slot), K r u → (r = 0 ∨ r = 1) → wk_S D q cA A s.heap u H locs → decode prog_6_method_26_code pc = .ok (.ireturn, 1) → W p l e R s m args below meth c H locs ce sl Q (F0 m pc ls [.int r])) {H : Heap} {locs : List Loc} {ls : Array Slot} (hV : wk_S D q cA A s.heap z H locs) (hl : lv_has ls 3 [(0, .ref (q 4)), (1, .int x1), (2, .int x2)]) : W p l e R s m args below meth c H locs ce sl Q (F0 m 0 ls []) := by
  have J57 : ∀ (y0 : Int32) (z : Sta) (H : Heap) (locs : List Loc) (ls : Array Slot), wk_S D q cA A s.heap z H locs → lv_has ls 3 [] → pj_M_isEdge_57 K y0 z → W p l e R s m args below meth c H locs ce sl Q (F0 m 57 ls [.int y0]) := by
    intro y0 z H locs ls hV hl h
    unfold pj_M_isEdge_57 at h
    obtain ⟨hz, h⟩ := h
    exact hret y0 z H locs 57 ls h hz hV kd_prog_6_method_26_code_57
  have J56 : ∀ (z : Sta) (H : Heap) (locs : List Loc) (ls : Array Slot), wk_S D q cA A s.heap z H locs → lv_has ls 3 [] → pj_M_isEdge_56 K z → W p l e R s m args below meth c H locs ce sl Q (F0 m 56 ls []) := by
    intro z H locs ls hV hl h
    unfold pj_M_isEdge_56 at h
    refine lv_iconst (v := 0) hx hb kd_prog_6_method_26_code_56 (by decide) ?_
    exact J57 0 z H locs ls hV (lv_sub hl [] rfl) h
  have J14 : ∀ (y0 : Int32) (z : Sta) (H : Heap) (locs : List Loc) (ls : Array Slot), wk_S D q cA A s.heap z H locs → lv_has ls 3 [] → pj_M_isEdge_14 K y0 z → W p l e R s m args below meth c H locs ce sl Q (F0 m 14 ls [.int y0]) := by
    intro y0 z H locs ls hV hl h
    unfold pj_M_isEdge_14 at h
    obtain ⟨hz, h⟩ := h
    exact hret y0 z H locs 14 ls h hz hV kd_prog_6_method_26_code_14
  unfold wp_M_isEdge at h
  refine lv_iload_n hx hb kd_prog_6_method_26_code_0 rfl (lv_at hl 1 rfl) ?_
  refine lv_iconst (v := (-1)) hx hb kd_prog_6_method_26_code_1 (by decide) ?_
  refine lv_icmp_ne (tgt := 15) hx hb kd_prog_6_method_26_code_2 (by decide) (fun hc => ?_) (fun hc => ?_)
  · have h := h.1 hc
    refine lv_iload_n hx hb kd_prog_6_method_26_code_15 rfl (lv_at hl 1 rfl) ?_
    refine lv_iconst (v := 0) hx hb kd_prog_6_method_26_code_16 (by decide) ?_
    refine lv_aload_n hx hb kd_prog_6_method_26_code_17 rfl (lv_at hl 0 rfl) ?_
    refine va_get (D := D) (ci := 4) (v := .int (z.1 8)) (C := kr_M) (T := kt_M) (N := kn_M) hx hb hts ki_M hown hK hV.1 4 rfl rfl 1 (by decide) (hts _ hw_583) (fun _ h9 => h9) rfl kd_prog_6_method_26_code_18 ?_
    refine lv_topi (fun v1 ev1 => ?_)
    have h := h v1 ev1
    refine lv_iconst (v := 1) hx hb kd_prog_6_method_26_code_21 (by decide) ?_
    refine lv_isub hx hb kd_prog_6_method_26_code_22 ?_
    refine lv_topi (fun v2 ev2 => ?_)
    have h := h v2 ev2
    refine wk_calli (va_runS (As := [.int x1, .int (0 : Int32), .int v2]) (rest := []) ⟨hx, hb, hml, hown, hts⟩ (c_M_within l D q cA x1 0 v2 z H.size _ h) (cwS 3 hts gs_M_92 rfl rfl rfl (by decide +kernel) ⟨Nat.le_trans (by decide) hRf, Nat.le_trans (by decide) hRl⟩) (wk_preS hK hV [.int x1, .int (0 : Int32), .int v2]) rfl rfl hl.1 rfl (lv_room (Nat.le_of_ble_eq_true rfl)) kd_prog_6_method_26_code_23 ⟨hce, hsl⟩) hV hA (fun rz3 z3 H locs h hV => ?_)
    refine lv_if_eq (tgt := 56) hx hb kd_prog_6_method_26_code_26 (by decide) (fun hc => ?_) (fun hc => ?_)
    · have h := h.1 hc
      exact J56 z3 H locs ls hV (lv_sub hl [] rfl) h
    · have h := h.2 hc
      refine lv_iload_n hx hb kd_prog_6_method_26_code_29 rfl (lv_at hl 2 rfl) ?_
      refine lv_iconst (v := 0) hx hb kd_prog_6_method_26_code_30 (by decide) ?_
      refine lv_aload_n hx hb kd_prog_6_method_26_code_31 rfl (lv_at hl 0 rfl) ?_
      refine va_get (D := D) (ci := 4) (v := .int (z3.1 8)) (C := kr_M) (T := kt_M) (N := kn_M) hx hb hts ki_M hown hK hV.1 4 rfl rfl 1 (by decide) (hts _ hw_583) (fun _ h9 => h9) rfl kd_prog_6_method_26_code_32 ?_
      refine lv_topi (fun v4 ev4 => ?_)
      have h := h v4 ev4
      refine lv_iconst (v := 1) hx hb kd_prog_6_method_26_code_35 (by decide) ?_
      refine lv_isub hx hb kd_prog_6_method_26_code_36 ?_
      refine lv_topi (fun v5 ev5 => ?_)
      have h := h v5 ev5
      refine wk_calli (va_runS (As := [.int x2, .int (0 : Int32), .int v5]) (rest := []) ⟨hx, hb, hml, hown, hts⟩ (c_M_within l D q cA x2 0 v5 z3 H.size _ h) (cwS 3 hts gs_M_92 rfl rfl rfl (by decide +kernel) ⟨Nat.le_trans (by decide) hRf, Nat.le_trans (by decide) hRl⟩) (wk_preS hK hV [.int x2, .int (0 : Int32), .int v5]) rfl rfl hl.1 rfl (lv_room (Nat.le_of_ble_eq_true rfl)) kd_prog_6_method_26_code_37 ⟨hce, hsl⟩) hV hA (fun rz6 z6 H locs h hV => ?_)
      refine lv_if_eq (tgt := 56) hx hb kd_prog_6_method_26_code_40 (by decide) (fun hc => ?_) (fun hc => ?_)
      · have h := h.1 hc
        exact J56 z6 H locs ls hV (lv_sub hl [] rfl) h
      · have h := h.2 hc
        refine lv_aload_n hx hb kd_prog_6_method_26_code_43 rfl (lv_at hl 0 rfl) ?_
        refine lv_iload_n hx hb kd_prog_6_method_26_code_44 rfl (lv_at hl 1 rfl) ?_
        refine lv_iload_n hx hb kd_prog_6_method_26_code_45 rfl (lv_at hl 2 rfl) ?_
        refine wk_calli (va_runV (As := [.int x1, .int x2]) (rest := []) ⟨hx, hb, hml, hown, hts⟩ (c_M_edge l D q cA x1 x2 z6 H.size _ h) (cwV 2 hts gs_M_108 rfl rfl rfl (by decide +kernel) ⟨Nat.le_trans (by decide) hRf, Nat.le_trans (by decide) hRl⟩) (wk_preV hK hV 4 4 rfl rfl [.int x1, .int x2]) rfl rfl hl.1 rfl (lv_room (Nat.le_of_ble_eq_true rfl)) kd_prog_6_method_26_code_46 ⟨hce, hsl⟩) hV hA (fun rz7 z7 H locs h hV => ?_)
        refine lv_if_eq (tgt := 56) hx hb kd_prog_6_method_26_code_49 (by decide) (fun hc => ?_) (fun hc => ?_)
        · have h := h.1 hc
          exact J56 z7 H locs ls hV (lv_sub hl [] rfl) h
        · have h := h.2 hc
          refine lv_iconst (v := 1) hx hb kd_prog_6_method_26_code_52 (by decide) ?_
          refine lv_goto (tgt := 57) hx hb kd_prog_6_method_26_code_53 (by decide) ?_
          exact J57 1 z7 H locs ls hV (lv_sub hl [] rfl) h
  · have h := h.2 hc
    refine lv_iload_n hx hb kd_prog_6_method_26_code_5 rfl (lv_at hl 2 rfl) ?_
    refine lv_if_ne (tgt := 13) hx hb kd_prog_6_method_26_code_6 (by decide) (fun hc => ?_) (fun hc => ?_)
    · have h := h.1 hc
      refine lv_iconst (v := 0) hx hb kd_prog_6_method_26_code_13 (by decide) ?_
      exact J14 0 z H locs ls hV (lv_sub hl [] rfl) h
    · have h := h.2 hc
      refine lv_iconst (v := 1) hx hb kd_prog_6_method_26_code_9 (by decide) ?_
      refine lv_goto (tgt := 14) hx hb kd_prog_6_method_26_code_10 (by decide) ?_
      exact J14 1 z H locs ls hV (lv_sub hl [] rfl) h
end
set_option maxHeartbeats 4000000 in
set_option maxRecDepth 100000 in
theorem c_M_isEdge (l : Launch) (D : va_G) (q : Nat → Nat) (cA : Nat → ClassId) (x1 : Int32) (x2 : Int32) (z : Sta) (sz : Nat) (K : Int32 → Sta → Prop) (h : wp_M_isEdge x1 x2 z K) : Met l ke_M_isEdge (kc_M_isEdge :: lw_g) { frames := 2, cells := 0, slots := 0, locals := 45 } (wk_Pc D q cA [.ref (q 4), .int x1, .int x2] z sz) (va_Qi K (wk_B D q cA (va_A (wW q cA z) sz)) (va_A (wW q cA z) sz)) 0 0 (va_A (wW q cA z) sz) := by
  refine Met.ofW (cc := prog_6_method_26_code) (maxL := 3) (ret := (some .boolean)) (by decide) rfl ?_
  intro p e s m args below meth c s₁ B hml hv
  obtain ⟨rfl, hsz, hP, hK, hD0⟩ := hv
  have hx := B.exec
  have hb := B.bytes
  have hr := B.returns
  have hlocks := B.notSynchronized
  have hts0 := atoms_spec (ws := kc_M_isEdge :: lw_g) B.pre
  have hts : ∀ w ∈ lw_g, w.before ([.ref (q 4), .int x1, .int x2] : List Value).toArray s = true := fun w hw => hts0 w (List.mem_cons_of_mem _ hw)
  have hown : s.vm.findClass kr_M = some m.cls := findClass_of_methodNamed B.named
  subst hsz
  have hD := hD0.self (sz := s.heap.size)
  generalize hAe : va_A (wW q cA z) s.heap.size = A at hD ⊢
  have hA : ∀ x : Nat, s.heap.size ≤ x → A x := fun x hx => by rw [← hAe]; exact Or.inr hx
  have hl := lv_entry ([.ref (q 4), .int x1, .int x2]) (n := 3) (Nat.le_of_ble_eq_true rfl)
  rw [lg_entry_eq]
  generalize (lg_sl ([.ref (q 4), .int x1, .int x2]) ++ List.replicate (3 - (lg_sl ([.ref (q 4), .int x1, .int x2])).length) Slot.unset).toArray = ls at hl ⊢
  have hl : lv_has ls 3 [(0, .ref (q 4)), (1, .int x1), (2, .int x2)] := hl
  exact w_M_isEdge hx hb hml hown hts (Nat.le_refl _) (Nat.le_refl _) (Nat.zero_le _) (Nat.zero_le _) hA hK x1 x2 z K h (fun r u H locs pc ls hk hz hV hd => W.zret (ty := .boolean) hx hb hr (by rcases hz with rfl | rfl <;> rfl) (fun t ht hW => ⟨⟨r, u, rfl, hk, by rw [ht]; exact hV.1, va_K.moved hW.alike hK, hV.2.1⟩, hV.2.2.F ht⟩) hV.2.2.2.2 hd) ⟨hP, hD, va_S.rf⟩ hl
section
variable {p : Program} {l : Launch} {e : Env} {R : Room} {s : State} {m : MethodId} {args : Array Value} {below : List Frame} {meth : Method} {c : Code} {Q : State → Prop} {ce sl : Nat} {D : va_G} {q : Nat → Nat} {cA : Nat → ClassId} {A : Nat → Prop}
set_option maxHeartbeats 4000000 in
set_option maxRecDepth 100000 in
theorem w_M_put (hx : p.tables.exec = Jvm.exec) (hb : c.code = prog_6_method_27_code) (hml : c.maxLocals = 3) (hown : s.vm.findClass kr_M = some m.cls) (hts : ∀ w ∈ lw_g, w.before args s = true) (hRf : 3 ≤ R.frames) (hRl : 67 ≤ R.locals) (hce : ce ≤ R.cells) (hsl : sl ≤ R.slots) (hA : ∀ x, s.heap.size ≤ x → A x) (hK : va_K D wk_cl (tysW cA) s) (x1 : Int32) (x2 : Int32) (z : Sta) (K : Int64 → Sta → Prop) (h : wp_M_put x1 x2 z K) (hret : ∀ (r : Int64) (u : Sta) (H : Heap) (locs : List Loc) (pc : Nat) (ls : Array Slot), K r u → wk_S D q cA A s.heap u H locs → decode prog_6_method_27_code pc = .ok (.lreturn, 1) → W p l e R s m args below meth c H locs ce sl Q (F0 m pc ls [.long r])) {H : Heap} {locs : List Loc} {ls : Array Slot} (hV : wk_S D q cA A s.heap z H locs) (hl : lv_has ls 3 [(0, .ref (q 4)), (1, .int x1), (2, .int x2)]) : W p l e R s m args below meth c H locs ce sl Q (F0 m 0 ls []) := by
  have J59 : ∀ (y0 : Int64) (z : Sta) (H : Heap) (locs : List Loc) (ls : Array Slot), wk_S D q cA A s.heap z H locs → lv_has ls 3 [] → pj_M_put_59 K y0 z → W p l e R s m args below meth c H locs ce sl Q (F0 m 59 ls [.long y0]) := by
    intro y0 z H locs ls hV hl h
    unfold pj_M_put_59 at h
    exact hret y0 z H locs 59 ls h hV kd_prog_6_method_27_code_59
  have J48 : ∀ (y0 : Int32) (z : Sta) (H : Heap) (locs : List Loc) (ls : Array Slot), wk_S D q cA A s.heap z H locs → lv_has ls 3 [] → pj_M_put_48 K y0 z → W p l e R s m args below meth c H locs ce sl Q (F0 m 48 ls [.int y0, .ref (q 38)]) := by
    intro y0 z H locs ls hV hl h
    unfold pj_M_put_48 at h
    obtain ⟨hin, h⟩ := h
    refine va_iald hx hb hK hV.1 38 33 rfl rfl hin kd_prog_6_method_27_code_48 ?_
    refine lv_topi (fun v10 ev10 => ?_)
    have h := h v10 ev10
    refine lv_i2l hx hb kd_prog_6_method_27_code_49 rfl ?_
    refine lv_topl (fun v11 ev11 => ?_)
    have h := h v11 ev11
    refine lv_goto (tgt := 59) hx hb kd_prog_6_method_27_code_50 (by decide) ?_
    exact J59 v11 z H locs ls hV (lv_sub hl [] rfl) h
  unfold wp_M_put at h
  refine lv_aload_n hx hb kd_prog_6_method_27_code_0 rfl (lv_at hl 0 rfl) ?_
  refine lv_iconst (v := 0) hx hb kd_prog_6_method_27_code_1 (by decide) ?_
  refine wk_put (D := D) (ci := 4) (v := .int (0 : Int32)) (ty := .int) (C := kr_M) (T := kt_M) (N := kn_M) (z1 := zI z 7 (0 : Int32)) hx hb hts ki_M ky_M ko_M km_M hown hK hV 4 rfl rfl 0 (by decide) (hts _ hw_582) (fun _ h9 => h9) rfl (by decide +kernel) rfl rfl (Nat.le_of_ble_eq_true rfl) rfl kd_prog_6_method_27_code_2 (fun H locs hV => ?_)
  obtain ⟨z1, ez1⟩ : ∃ x : Sta, x = zI z 7 (0 : Int32) := ⟨_, rfl⟩
  rw [← ez1] at hV
  have h := h z1 ez1
  refine lv_aload_n hx hb kd_prog_6_method_27_code_5 rfl (lv_at hl 0 rfl) ?_
  refine va_get (D := D) (ci := 4) (v := .int (z1.1 10)) (C := kr_M) (T := kt_M) (N := kn_M) hx hb hts ki_M hown hK hV.1 4 rfl rfl 9 (by decide) (hts _ hw_591) (fun _ h9 => h9) rfl kd_prog_6_method_27_code_6 ?_
  refine lv_topi (fun v2 ev2 => ?_)
  have h := h v2 ev2
  refine lv_if_ne (tgt := 19) hx hb kd_prog_6_method_27_code_9 (by decide) (fun hc => ?_) (fun hc => ?_)
  · have h := h.1 hc
    refine lv_aload_n hx hb kd_prog_6_method_27_code_19 rfl (lv_at hl 0 rfl) ?_
    refine lv_iload_n hx hb kd_prog_6_method_27_code_20 rfl (lv_at hl 1 rfl) ?_
    refine lv_iload_n hx hb kd_prog_6_method_27_code_21 rfl (lv_at hl 2 rfl) ?_
    refine wk_calli (va_runV (As := [.int x1, .int x2]) (rest := []) ⟨hx, hb, hml, hown, hts⟩ (c_M_isEdge l D q cA x1 x2 z1 H.size _ h) (cwV 2 hts gs_M_157 rfl rfl rfl (by decide +kernel) ⟨Nat.le_trans (by decide) hRf, Nat.le_trans (by decide) hRl⟩) (wk_preV hK hV 4 4 rfl rfl [.int x1, .int x2]) rfl rfl hl.1 rfl (lv_room (Nat.le_of_ble_eq_true rfl)) kd_prog_6_method_27_code_22 ⟨hce, hsl⟩) hV hA (fun rz3 z3 H locs h hV => ?_)
    refine lv_if_eq (tgt := 53) hx hb kd_prog_6_method_27_code_25 (by decide) (fun hc => ?_) (fun hc => ?_)
    · have h := h.1 hc
      refine lv_aload_n hx hb kd_prog_6_method_27_code_53 rfl (lv_at hl 0 rfl) ?_
      refine lv_iconst (v := 2) hx hb kd_prog_6_method_27_code_54 (by decide) ?_
      refine wk_calli (va_runV (As := [.int (2 : Int32)]) (rest := []) ⟨hx, hb, hml, hown, hts⟩ (c_M_fail l D q cA 2 z3 H.size _ h) (cwV 1 hts gs_M_81 rfl rfl rfl (by decide +kernel) ⟨Nat.le_trans (by decide) hRf, Nat.le_trans (by decide) hRl⟩) (wk_preV hK hV 4 4 rfl rfl [.int (2 : Int32)]) rfl rfl hl.1 rfl (lv_room (Nat.le_of_ble_eq_true rfl)) kd_prog_6_method_27_code_55 ⟨hce, hsl⟩) hV hA (fun rz4 z4 H locs h hV => ?_)
      refine lv_i2l hx hb kd_prog_6_method_27_code_58 rfl ?_
      refine lv_topl (fun v5 ev5 => ?_)
      have h := h v5 ev5
      exact J59 v5 z4 H locs ls hV (lv_sub hl [] rfl) h
    · have h := h.2 hc
      refine lv_aload_n hx hb kd_prog_6_method_27_code_28 rfl (lv_at hl 0 rfl) ?_
      refine va_get (D := D) (ci := 4) (v := .ref (q 38)) (C := kr_M) (T := kt_M) (N := kn_M) hx hb hts ki_M hown hK hV.1 4 rfl rfl 14 (by decide) (hts _ hw_596) (fun _ h9 => h9) rfl kd_prog_6_method_27_code_29 ?_
      refine lv_iload_n hx hb kd_prog_6_method_27_code_32 rfl (lv_at hl 1 rfl) ?_
      refine lv_if_ge (tgt := 42) hx hb kd_prog_6_method_27_code_33 (by decide) (fun hc => ?_) (fun hc => ?_)
      · have h := h.1 hc
        refine lv_bipush (v := 16) hx hb kd_prog_6_method_27_code_42 (by decide) ?_
        refine lv_iload_n hx hb kd_prog_6_method_27_code_44 rfl (lv_at hl 1 rfl) ?_
        refine lv_imul hx hb kd_prog_6_method_27_code_45 ?_
        refine lv_topi (fun v6 ev6 => ?_)
        have h := h v6 ev6
        refine lv_iload_n hx hb kd_prog_6_method_27_code_46 rfl (lv_at hl 2 rfl) ?_
        refine lv_iadd hx hb kd_prog_6_method_27_code_47 ?_
        refine lv_topi (fun v7 ev7 => ?_)
        have h := h v7 ev7
        exact J48 v7 z3 H locs ls hV (lv_sub hl [] rfl) h
      · have h := h.2 hc
        refine lv_sipush (v := 256) hx hb kd_prog_6_method_27_code_36 (by decide) ?_
        refine lv_goto (tgt := 48) hx hb kd_prog_6_method_27_code_39 (by decide) ?_
        exact J48 256 z3 H locs ls hV (lv_sub hl [] rfl) h
  · have h := h.2 hc
    refine lv_aload_n hx hb kd_prog_6_method_27_code_12 rfl (lv_at hl 0 rfl) ?_
    refine lv_iconst (v := 1) hx hb kd_prog_6_method_27_code_13 (by decide) ?_
    refine wk_calli (va_runV (As := [.int (1 : Int32)]) (rest := []) ⟨hx, hb, hml, hown, hts⟩ (c_M_fail l D q cA 1 z1 H.size _ h) (cwV 1 hts gs_M_81 rfl rfl rfl (by decide +kernel) ⟨Nat.le_trans (by decide) hRf, Nat.le_trans (by decide) hRl⟩) (wk_preV hK hV 4 4 rfl rfl [.int (1 : Int32)]) rfl rfl hl.1 rfl (lv_room (Nat.le_of_ble_eq_true rfl)) kd_prog_6_method_27_code_14 ⟨hce, hsl⟩) hV hA (fun rz8 z8 H locs h hV => ?_)
    refine lv_i2l hx hb kd_prog_6_method_27_code_17 rfl ?_
    refine lv_topl (fun v9 ev9 => ?_)
    have h := h v9 ev9
    exact hret v9 z8 H locs 18 ls h hV kd_prog_6_method_27_code_18
end
set_option maxHeartbeats 4000000 in
set_option maxRecDepth 100000 in
theorem c_M_put (l : Launch) (D : va_G) (q : Nat → Nat) (cA : Nat → ClassId) (x1 : Int32) (x2 : Int32) (z : Sta) (sz : Nat) (K : Int64 → Sta → Prop) (h : wp_M_put x1 x2 z K) : Met l ke_M_put (kc_M_put :: lw_g) { frames := 3, cells := 0, slots := 0, locals := 67 } (wk_Pc D q cA [.ref (q 4), .int x1, .int x2] z sz) (va_Ql K (wk_B D q cA (va_A (wW q cA z) sz)) (va_A (wW q cA z) sz)) 0 0 (va_A (wW q cA z) sz) := by
  refine Met.ofW (cc := prog_6_method_27_code) (maxL := 3) (ret := (some .long)) (by decide) rfl ?_
  intro p e s m args below meth c s₁ B hml hv
  obtain ⟨rfl, hsz, hP, hK, hD0⟩ := hv
  have hx := B.exec
  have hb := B.bytes
  have hr := B.returns
  have hlocks := B.notSynchronized
  have hts0 := atoms_spec (ws := kc_M_put :: lw_g) B.pre
  have hts : ∀ w ∈ lw_g, w.before ([.ref (q 4), .int x1, .int x2] : List Value).toArray s = true := fun w hw => hts0 w (List.mem_cons_of_mem _ hw)
  have hown : s.vm.findClass kr_M = some m.cls := findClass_of_methodNamed B.named
  subst hsz
  have hD := hD0.self (sz := s.heap.size)
  generalize hAe : va_A (wW q cA z) s.heap.size = A at hD ⊢
  have hA : ∀ x : Nat, s.heap.size ≤ x → A x := fun x hx => by rw [← hAe]; exact Or.inr hx
  have hl := lv_entry ([.ref (q 4), .int x1, .int x2]) (n := 3) (Nat.le_of_ble_eq_true rfl)
  rw [lg_entry_eq]
  generalize (lg_sl ([.ref (q 4), .int x1, .int x2]) ++ List.replicate (3 - (lg_sl ([.ref (q 4), .int x1, .int x2])).length) Slot.unset).toArray = ls at hl ⊢
  have hl : lv_has ls 3 [(0, .ref (q 4)), (1, .int x1), (2, .int x2)] := hl
  exact w_M_put hx hb hml hown hts (Nat.le_refl _) (Nat.le_refl _) (Nat.zero_le _) (Nat.zero_le _) hA hK x1 x2 z K h (fun r u H locs pc ls hk hV hd => W.lret hx hb hr (fun t ht hW => ⟨⟨r, u, rfl, hk, by rw [ht]; exact hV.1, va_K.moved hW.alike hK, hV.2.1⟩, hV.2.2.F ht⟩) hV.2.2.2.2 hd) ⟨hP, hD, va_S.rf⟩ hl
section
variable {p : Program} {l : Launch} {e : Env} {R : Room} {s : State} {m : MethodId} {args : Array Value} {below : List Frame} {meth : Method} {c : Code} {Q : State → Prop} {ce sl : Nat} {D : va_G} {q : Nat → Nat} {cA : Nat → ClassId} {A : Nat → Prop}
set_option maxHeartbeats 4000000 in
set_option maxRecDepth 100000 in
theorem w_M_expression (hx : p.tables.exec = Jvm.exec) (hb : c.code = prog_6_method_28_code) (hml : c.maxLocals = 5) (hown : s.vm.findClass kr_M = some m.cls) (hts : ∀ w ∈ lw_g, w.before args s = true) (hRf : 1 ≤ R.frames) (hRl : 25 ≤ R.locals) (hce : ce ≤ R.cells) (hsl : sl ≤ R.slots) (hA : ∀ x, s.heap.size ≤ x → A x) (hK : va_K D wk_cl (tysW cA) s) (x1 : Int32) (x2 : Int32) (x3 : Int32) (z : Sta) (K : Int32 → Sta → Prop) (h : wp_M_expression x1 x2 x3 z K) (hret : ∀ (r : Int32) (u : Sta) (H : Heap) (locs : List Loc) (pc : Nat) (ls : Array Slot), K r u → wk_S D q cA A s.heap u H locs → decode prog_6_method_28_code pc = .ok (.ireturn, 1) → W p l e R s m args below meth c H locs ce sl Q (F0 m pc ls [.int r])) {H : Heap} {locs : List Loc} {ls : Array Slot} (hV : wk_S D q cA A s.heap z H locs) (hl : lv_has ls 5 [(0, .ref (q 4)), (1, .int x1), (2, .int x2), (3, .int x3)]) : W p l e R s m args below meth c H locs ce sl Q (F0 m 0 ls []) := by
  have J29 : ∀ (y0 : Int32) (z : Sta) (H : Heap) (locs : List Loc) (ls : Array Slot), wk_S D q cA A s.heap z H locs → lv_has ls 5 [] → pj_M_expression_29 K y0 z → W p l e R s m args below meth c H locs ce sl Q (F0 m 29 ls [.int y0]) := by
    intro y0 z H locs ls hV hl h
    unfold pj_M_expression_29 at h
    exact hret y0 z H locs 29 ls h hV kd_prog_6_method_28_code_29
  unfold wp_M_expression at h
  refine lv_aload_n hx hb kd_prog_6_method_28_code_0 rfl (lv_at hl 0 rfl) ?_
  refine lv_iconst (v := 0) hx hb kd_prog_6_method_28_code_1 (by decide) ?_
  refine wk_put (D := D) (ci := 4) (v := .int (0 : Int32)) (ty := .int) (C := kr_M) (T := kt_M) (N := kn_M) (z1 := zI z 7 (0 : Int32)) hx hb hts ki_M ky_M ko_M km_M hown hK hV 4 rfl rfl 0 (by decide) (hts _ hw_582) (fun _ h9 => h9) rfl (by decide +kernel) rfl rfl (Nat.le_of_ble_eq_true rfl) rfl kd_prog_6_method_28_code_2 (fun H locs hV => ?_)
  obtain ⟨z1, ez1⟩ : ∃ x : Sta, x = zI z 7 (0 : Int32) := ⟨_, rfl⟩
  rw [← ez1] at hV
  have h := h z1 ez1
  refine lv_aload_n hx hb kd_prog_6_method_28_code_5 rfl (lv_at hl 0 rfl) ?_
  refine lv_iload_n hx hb kd_prog_6_method_28_code_6 rfl (lv_at hl 1 rfl) ?_
  refine lv_iload_n hx hb kd_prog_6_method_28_code_7 rfl (lv_at hl 2 rfl) ?_
  refine lv_iload_n hx hb kd_prog_6_method_28_code_8 rfl (lv_at hl 3 rfl) ?_
  refine wk_calli (va_runV (As := [.int x1, .int x2, .int x3]) (rest := []) ⟨hx, hb, hml, hown, hts⟩ (c_M_find l D q cA x1 x2 x3 z1 H.size _ h) (cwV 3 hts gs_M_96 rfl rfl rfl (by decide +kernel) ⟨Nat.le_trans (by decide) hRf, Nat.le_trans (by decide) hRl⟩) (wk_preV hK hV 4 4 rfl rfl [.int x1, .int x2, .int x3]) rfl rfl hl.1 rfl (lv_room (Nat.le_of_ble_eq_true rfl)) kd_prog_6_method_28_code_9 ⟨hce, hsl⟩) hV hA (fun rz2 z2 H locs h hV => ?_)
  refine lv_istore hx hb kd_prog_6_method_28_code_12 hl (by decide) rfl (fun ls hl => ?_)
  have hl : lv_has ls 5 [(4, .int rz2), (0, .ref (q 4)), (1, .int x1), (2, .int x2), (3, .int x3)] := hl
  refine lv_iload hx hb kd_prog_6_method_28_code_14 (lv_at hl 0 rfl) ?_
  refine lv_if_ge (tgt := 27) hx hb kd_prog_6_method_28_code_16 (by decide) (fun hc => ?_) (fun hc => ?_)
  · have h := h.1 hc
    refine lv_iload hx hb kd_prog_6_method_28_code_27 (lv_at hl 0 rfl) ?_
    exact J29 rz2 z2 H locs ls hV (lv_sub hl [] rfl) h
  · have h := h.2 hc
    refine lv_aload_n hx hb kd_prog_6_method_28_code_19 rfl (lv_at hl 1 rfl) ?_
    refine lv_iconst (v := 1) hx hb kd_prog_6_method_28_code_20 (by decide) ?_
    refine wk_calli (va_runV (As := [.int (1 : Int32)]) (rest := []) ⟨hx, hb, hml, hown, hts⟩ (c_M_fail l D q cA 1 z2 H.size _ h) (cwV 1 hts gs_M_81 rfl rfl rfl (by decide +kernel) ⟨Nat.le_trans (by decide) hRf, Nat.le_trans (by decide) hRl⟩) (wk_preV hK hV 4 4 rfl rfl [.int (1 : Int32)]) rfl rfl hl.1 rfl (lv_room (Nat.le_of_ble_eq_true rfl)) kd_prog_6_method_28_code_21 ⟨hce, hsl⟩) hV hA (fun rz3 z3 H locs h hV => ?_)
    refine lv_goto (tgt := 29) hx hb kd_prog_6_method_28_code_24 (by decide) ?_
    exact J29 rz3 z3 H locs ls hV (lv_sub hl [] rfl) h
end
set_option maxHeartbeats 4000000 in
set_option maxRecDepth 100000 in
theorem c_M_expression (l : Launch) (D : va_G) (q : Nat → Nat) (cA : Nat → ClassId) (x1 : Int32) (x2 : Int32) (x3 : Int32) (z : Sta) (sz : Nat) (K : Int32 → Sta → Prop) (h : wp_M_expression x1 x2 x3 z K) : Met l ke_M_expression (kc_M_expression :: lw_g) { frames := 1, cells := 0, slots := 0, locals := 25 } (wk_Pc D q cA [.ref (q 4), .int x1, .int x2, .int x3] z sz) (va_Qi K (wk_B D q cA (va_A (wW q cA z) sz)) (va_A (wW q cA z) sz)) 0 0 (va_A (wW q cA z) sz) := by
  refine Met.ofW (cc := prog_6_method_28_code) (maxL := 5) (ret := (some .int)) (by decide) rfl ?_
  intro p e s m args below meth c s₁ B hml hv
  obtain ⟨rfl, hsz, hP, hK, hD0⟩ := hv
  have hx := B.exec
  have hb := B.bytes
  have hr := B.returns
  have hlocks := B.notSynchronized
  have hts0 := atoms_spec (ws := kc_M_expression :: lw_g) B.pre
  have hts : ∀ w ∈ lw_g, w.before ([.ref (q 4), .int x1, .int x2, .int x3] : List Value).toArray s = true := fun w hw => hts0 w (List.mem_cons_of_mem _ hw)
  have hown : s.vm.findClass kr_M = some m.cls := findClass_of_methodNamed B.named
  subst hsz
  have hD := hD0.self (sz := s.heap.size)
  generalize hAe : va_A (wW q cA z) s.heap.size = A at hD ⊢
  have hA : ∀ x : Nat, s.heap.size ≤ x → A x := fun x hx => by rw [← hAe]; exact Or.inr hx
  have hl := lv_entry ([.ref (q 4), .int x1, .int x2, .int x3]) (n := 5) (Nat.le_of_ble_eq_true rfl)
  rw [lg_entry_eq]
  generalize (lg_sl ([.ref (q 4), .int x1, .int x2, .int x3]) ++ List.replicate (5 - (lg_sl ([.ref (q 4), .int x1, .int x2, .int x3])).length) Slot.unset).toArray = ls at hl ⊢
  have hl : lv_has ls 5 [(0, .ref (q 4)), (1, .int x1), (2, .int x2), (3, .int x3)] := hl
  exact w_M_expression hx hb hml hown hts (Nat.le_refl _) (Nat.le_refl _) (Nat.zero_le _) (Nat.zero_le _) hA hK x1 x2 x3 z K h (fun r u H locs pc ls hk hV hd => W.iret hx hb hr (fun t ht hW => ⟨⟨r, u, rfl, hk, by rw [ht]; exact hV.1, va_K.moved hW.alike hK, hV.2.1⟩, hV.2.2.F ht⟩) hV.2.2.2.2 hd) ⟨hP, hD, va_S.rf⟩ hl
section
variable {p : Program} {l : Launch} {e : Env} {R : Room} {s : State} {m : MethodId} {args : Array Value} {below : List Frame} {meth : Method} {c : Code} {Q : State → Prop} {ce sl : Nat} {D : va_G} {q : Nat → Nat} {cA : Nat → ClassId} {A : Nat → Prop}
set_option maxHeartbeats 4000000 in
set_option maxRecDepth 100000 in
theorem w_M_worked (hx : p.tables.exec = Jvm.exec) (hb : c.code = prog_6_method_29_code) (hml : c.maxLocals = 5) (hown : s.vm.findClass kr_M = some m.cls) (hts : ∀ w ∈ lw_g, w.before args s = true) (hRf : 0 ≤ R.frames) (hRl : 0 ≤ R.locals) (hce : ce ≤ R.cells) (hsl : sl ≤ R.slots) (hA : ∀ x, s.heap.size ≤ x → A x) (hK : va_K D wk_cl (tysW cA) s) (x1 : Int32) (z : Sta) (K : Int32 → Sta → Prop) (h : wp_M_worked x1 z K) (hret : ∀ (r : Int32) (u : Sta) (H : Heap) (locs : List Loc) (pc : Nat) (ls : Array Slot), K r u → wk_S D q cA A s.heap u H locs → decode prog_6_method_29_code pc = .ok (.ireturn, 1) → W p l e R s m args below meth c H locs ce sl Q (F0 m pc ls [.int r])) {H : Heap} {locs : List Loc} {ls : Array Slot} (hV : wk_S D q cA A s.heap z H locs) (hl : lv_has ls 5 [(0, .ref (q 4)), (1, .int x1)]) : W p l e R s m args below meth c H locs ce sl Q (F0 m 0 ls []) := by
  have J109 : ∀ (y0 : Int32) (z : Sta) (H : Heap) (locs : List Loc) (ls : Array Slot), wk_S D q cA A s.heap z H locs → lv_has ls 5 [] → pj_M_worked_109 K y0 z → W p l e R s m args below meth c H locs ce sl Q (F0 m 109 ls [.int y0]) := by
    intro y0 z H locs ls hV hl h
    unfold pj_M_worked_109 at h
    exact hret y0 z H locs 109 ls h hV kd_prog_6_method_29_code_109
  unfold wp_M_worked at h
  refine lv_aload_n hx hb kd_prog_6_method_29_code_0 rfl (lv_at hl 0 rfl) ?_
  refine va_get (D := D) (ci := 4) (v := .ref (q 47)) (C := kr_M) (T := kt_M) (N := kn_M) hx hb hts ki_M hown hK hV.1 4 rfl rfl 23 (by decide) (hts _ hw_605) (fun _ h9 => h9) rfl kd_prog_6_method_29_code_1 ?_
  refine lv_aload_n hx hb kd_prog_6_method_29_code_4 rfl (lv_at hl 0 rfl) ?_
  refine va_get (D := D) (ci := 4) (v := .ref (q 33)) (C := kr_M) (T := kt_M) (N := kn_M) hx hb hts ki_M hown hK hV.1 4 rfl rfl 6 (by decide) (hts _ hw_588) (fun _ h9 => h9) rfl kd_prog_6_method_29_code_5 ?_
  refine lv_iload_n hx hb kd_prog_6_method_29_code_8 rfl (lv_at hl 1 rfl) ?_
  obtain ⟨hin, h⟩ := h
  refine va_iald hx hb hK hV.1 33 28 rfl rfl hin kd_prog_6_method_29_code_9 ?_
  refine lv_topi (fun v1 ev1 => ?_)
  have h := h v1 ev1
  obtain ⟨hin, h⟩ := h
  refine va_iald hx hb hK hV.1 47 42 rfl rfl hin kd_prog_6_method_29_code_10 ?_
  refine lv_topi (fun v2 ev2 => ?_)
  have h := h v2 ev2
  refine lv_istore_n hx hb kd_prog_6_method_29_code_11 rfl hl (by decide) rfl (fun ls hl => ?_)
  have hl : lv_has ls 5 [(2, .int v2), (0, .ref (q 4)), (1, .int x1)] := hl
  refine lv_aload_n hx hb kd_prog_6_method_29_code_12 rfl (lv_at hl 1 rfl) ?_
  refine va_get (D := D) (ci := 4) (v := .ref (q 47)) (C := kr_M) (T := kt_M) (N := kn_M) hx hb hts ki_M hown hK hV.1 4 rfl rfl 23 (by decide) (hts _ hw_605) (fun _ h9 => h9) rfl kd_prog_6_method_29_code_13 ?_
  refine lv_aload_n hx hb kd_prog_6_method_29_code_16 rfl (lv_at hl 1 rfl) ?_
  refine va_get (D := D) (ci := 4) (v := .ref (q 35)) (C := kr_M) (T := kt_M) (N := kn_M) hx hb hts ki_M hown hK hV.1 4 rfl rfl 8 (by decide) (hts _ hw_590) (fun _ h9 => h9) rfl kd_prog_6_method_29_code_17 ?_
  refine lv_iload_n hx hb kd_prog_6_method_29_code_20 rfl (lv_at hl 2 rfl) ?_
  obtain ⟨hin, h⟩ := h
  refine va_iald hx hb hK hV.1 35 30 rfl rfl hin kd_prog_6_method_29_code_21 ?_
  refine lv_topi (fun v3 ev3 => ?_)
  have h := h v3 ev3
  obtain ⟨hin, h⟩ := h
  refine va_iald hx hb hK hV.1 47 42 rfl rfl hin kd_prog_6_method_29_code_22 ?_
  refine lv_topi (fun v4 ev4 => ?_)
  have h := h v4 ev4
  refine lv_istore_n hx hb kd_prog_6_method_29_code_23 rfl hl (by decide) rfl (fun ls hl => ?_)
  have hl : lv_has ls 5 [(3, .int v4), (2, .int v2), (0, .ref (q 4)), (1, .int x1)] := hl
  refine lv_aload_n hx hb kd_prog_6_method_29_code_24 rfl (lv_at hl 2 rfl) ?_
  refine va_get (D := D) (ci := 4) (v := .ref (q 34)) (C := kr_M) (T := kt_M) (N := kn_M) hx hb hts ki_M hown hK hV.1 4 rfl rfl 7 (by decide) (hts _ hw_589) (fun _ h9 => h9) rfl kd_prog_6_method_29_code_25 ?_
  refine lv_iload_n hx hb kd_prog_6_method_29_code_28 rfl (lv_at hl 3 rfl) ?_
  obtain ⟨hin, h⟩ := h
  refine va_iald hx hb hK hV.1 34 29 rfl rfl hin kd_prog_6_method_29_code_29 ?_
  refine lv_topi (fun v5 ev5 => ?_)
  have h := h v5 ev5
  refine lv_istore hx hb kd_prog_6_method_29_code_30 hl (by decide) rfl (fun ls hl => ?_)
  have hl : lv_has ls 5 [(4, .int v5), (3, .int v4), (2, .int v2), (0, .ref (q 4)), (1, .int x1)] := hl
  refine lv_aload_n hx hb kd_prog_6_method_29_code_32 rfl (lv_at hl 3 rfl) ?_
  refine lv_dup hx hb kd_prog_6_method_29_code_33 rfl ?_
  refine va_get (D := D) (ci := 4) (v := .int (z.1 15)) (C := kr_M) (T := kt_M) (N := kn_M) hx hb hts ki_M hown hK hV.1 4 rfl rfl 28 (by decide) (hts _ hw_610) (fun _ h9 => h9) rfl kd_prog_6_method_29_code_34 ?_
  refine lv_topi (fun v6 ev6 => ?_)
  have h := h v6 ev6
  refine lv_iconst (v := 1) hx hb kd_prog_6_method_29_code_37 (by decide) ?_
  refine lv_iadd hx hb kd_prog_6_method_29_code_38 ?_
  refine lv_topi (fun v7 ev7 => ?_)
  have h := h v7 ev7
  refine wk_put (D := D) (ci := 4) (v := .int v7) (ty := .int) (C := kr_M) (T := kt_M) (N := kn_M) (z1 := zI z 15 v7) hx hb hts ki_M ky_M ko_M km_M hown hK hV 4 rfl rfl 28 (by decide) (hts _ hw_610) (fun _ h9 => h9) rfl (by decide +kernel) rfl rfl (Nat.le_of_ble_eq_true rfl) rfl kd_prog_6_method_29_code_39 (fun H locs hV => ?_)
  obtain ⟨z8, ez8⟩ : ∃ x : Sta, x = zI z 15 v7 := ⟨_, rfl⟩
  rw [← ez8] at hV
  have h := h z8 ez8
  refine lv_aload_n hx hb kd_prog_6_method_29_code_42 rfl (lv_at hl 3 rfl) ?_
  refine va_get (D := D) (ci := 4) (v := .ref (q 49)) (C := kr_M) (T := kt_M) (N := kn_M) hx hb hts ki_M hown hK hV.1 4 rfl rfl 25 (by decide) (hts _ hw_607) (fun _ h9 => h9) rfl kd_prog_6_method_29_code_43 ?_
  refine lv_iload_n hx hb kd_prog_6_method_29_code_46 rfl (lv_at hl 4 rfl) ?_
  refine lv_dup2_11 hx hb kd_prog_6_method_29_code_47 rfl rfl ?_
  obtain ⟨hin, h⟩ := h
  refine va_iald hx hb hK hV.1 49 44 rfl rfl hin kd_prog_6_method_29_code_48 ?_
  refine lv_topi (fun v9 ev9 => ?_)
  have h := h v9 ev9
  refine lv_iconst (v := 1) hx hb kd_prog_6_method_29_code_49 (by decide) ?_
  refine lv_iadd hx hb kd_prog_6_method_29_code_50 ?_
  refine lv_topi (fun v10 ev10 => ?_)
  have h := h v10 ev10
  obtain ⟨hin, h⟩ := h
  refine wk_iast hx hb hK hV 49 44 34 rfl rfl (ks_49 q cA z8) hin kd_prog_6_method_29_code_51 (fun H locs hV => ?_)
  obtain ⟨z11, ez11⟩ : ∃ x : Sta, x = zA z8 34 (upd (z8.2.1 34) x1.toNatClampNeg v10) := ⟨_, rfl⟩
  rw [← ez11] at hV
  have h := h z11 ez11
  refine lv_iload hx hb kd_prog_6_method_29_code_52 (lv_at hl 0 rfl) ?_
  refine lv_if_ne (tgt := 63) hx hb kd_prog_6_method_29_code_54 (by decide) (fun hc => ?_) (fun hc => ?_)
  · have h := h.1 hc
    refine lv_iload hx hb kd_prog_6_method_29_code_63 (lv_at hl 0 rfl) ?_
    refine lv_iconst (v := 1) hx hb kd_prog_6_method_29_code_65 (by decide) ?_
    refine lv_icmp_ne (tgt := 75) hx hb kd_prog_6_method_29_code_66 (by decide) (fun hc => ?_) (fun hc => ?_)
    · have h := h.1 hc
      refine lv_iload hx hb kd_prog_6_method_29_code_75 (lv_at hl 0 rfl) ?_
      refine lv_iconst (v := 2) hx hb kd_prog_6_method_29_code_77 (by decide) ?_
      refine lv_icmp_ne (tgt := 87) hx hb kd_prog_6_method_29_code_78 (by decide) (fun hc => ?_) (fun hc => ?_)
      · have h := h.1 hc
        refine lv_iload hx hb kd_prog_6_method_29_code_87 (lv_at hl 0 rfl) ?_
        refine lv_iconst (v := 3) hx hb kd_prog_6_method_29_code_89 (by decide) ?_
        refine lv_icmp_ne (tgt := 99) hx hb kd_prog_6_method_29_code_90 (by decide) (fun hc => ?_) (fun hc => ?_)
        · have h := h.1 hc
          refine lv_iload_n hx hb kd_prog_6_method_29_code_99 rfl (lv_at hl 2 rfl) ?_
          refine lv_iload_n hx hb kd_prog_6_method_29_code_100 rfl (lv_at hl 1 rfl) ?_
          refine lv_icmp_ge (tgt := 108) hx hb kd_prog_6_method_29_code_101 (by decide) (fun hc => ?_) (fun hc => ?_)
          · have h := h.1 hc
            refine lv_iconst (v := 0) hx hb kd_prog_6_method_29_code_108 (by decide) ?_
            exact J109 0 z11 H locs ls hV (lv_sub hl [] rfl) h
          · have h := h.2 hc
            refine lv_iconst (v := 1) hx hb kd_prog_6_method_29_code_104 (by decide) ?_
            refine lv_goto (tgt := 109) hx hb kd_prog_6_method_29_code_105 (by decide) ?_
            exact J109 1 z11 H locs ls hV (lv_sub hl [] rfl) h
        · have h := h.2 hc
          refine lv_iload_n hx hb kd_prog_6_method_29_code_93 rfl (lv_at hl 2 rfl) ?_
          refine lv_iload_n hx hb kd_prog_6_method_29_code_94 rfl (lv_at hl 1 rfl) ?_
          refine lv_iand hx hb kd_prog_6_method_29_code_95 ?_
          refine lv_topi (fun v12 ev12 => ?_)
          have h := h v12 ev12
          refine lv_goto (tgt := 109) hx hb kd_prog_6_method_29_code_96 (by decide) ?_
          exact J109 v12 z11 H locs ls hV (lv_sub hl [] rfl) h
      · have h := h.2 hc
        refine lv_iload_n hx hb kd_prog_6_method_29_code_81 rfl (lv_at hl 2 rfl) ?_
        refine lv_iload_n hx hb kd_prog_6_method_29_code_82 rfl (lv_at hl 1 rfl) ?_
        refine lv_imul hx hb kd_prog_6_method_29_code_83 ?_
        refine lv_topi (fun v13 ev13 => ?_)
        have h := h v13 ev13
        refine lv_goto (tgt := 109) hx hb kd_prog_6_method_29_code_84 (by decide) ?_
        exact J109 v13 z11 H locs ls hV (lv_sub hl [] rfl) h
    · have h := h.2 hc
      refine lv_iload_n hx hb kd_prog_6_method_29_code_69 rfl (lv_at hl 2 rfl) ?_
      refine lv_iload_n hx hb kd_prog_6_method_29_code_70 rfl (lv_at hl 1 rfl) ?_
      refine lv_isub hx hb kd_prog_6_method_29_code_71 ?_
      refine lv_topi (fun v14 ev14 => ?_)
      have h := h v14 ev14
      refine lv_goto (tgt := 109) hx hb kd_prog_6_method_29_code_72 (by decide) ?_
      exact J109 v14 z11 H locs ls hV (lv_sub hl [] rfl) h
  · have h := h.2 hc
    refine lv_iload_n hx hb kd_prog_6_method_29_code_57 rfl (lv_at hl 2 rfl) ?_
    refine lv_iload_n hx hb kd_prog_6_method_29_code_58 rfl (lv_at hl 1 rfl) ?_
    refine lv_iadd hx hb kd_prog_6_method_29_code_59 ?_
    refine lv_topi (fun v15 ev15 => ?_)
    have h := h v15 ev15
    refine lv_goto (tgt := 109) hx hb kd_prog_6_method_29_code_60 (by decide) ?_
    exact J109 v15 z11 H locs ls hV (lv_sub hl [] rfl) h
end
set_option maxHeartbeats 4000000 in
set_option maxRecDepth 100000 in
theorem c_M_worked (l : Launch) (D : va_G) (q : Nat → Nat) (cA : Nat → ClassId) (x1 : Int32) (z : Sta) (sz : Nat) (K : Int32 → Sta → Prop) (h : wp_M_worked x1 z K) : Met l ke_M_worked (kc_M_worked :: lw_g) { frames := 0, cells := 0, slots := 0, locals := 0 } (wk_Pc D q cA [.ref (q 4), .int x1] z sz) (va_Qi K (wk_B D q cA (va_A (wW q cA z) sz)) (va_A (wW q cA z) sz)) 0 0 (va_A (wW q cA z) sz) := by
  refine Met.ofW (cc := prog_6_method_29_code) (maxL := 5) (ret := (some .int)) (by decide) rfl ?_
  intro p e s m args below meth c s₁ B hml hv
  obtain ⟨rfl, hsz, hP, hK, hD0⟩ := hv
  have hx := B.exec
  have hb := B.bytes
  have hr := B.returns
  have hlocks := B.notSynchronized
  have hts0 := atoms_spec (ws := kc_M_worked :: lw_g) B.pre
  have hts : ∀ w ∈ lw_g, w.before ([.ref (q 4), .int x1] : List Value).toArray s = true := fun w hw => hts0 w (List.mem_cons_of_mem _ hw)
  have hown : s.vm.findClass kr_M = some m.cls := findClass_of_methodNamed B.named
  subst hsz
  have hD := hD0.self (sz := s.heap.size)
  generalize hAe : va_A (wW q cA z) s.heap.size = A at hD ⊢
  have hA : ∀ x : Nat, s.heap.size ≤ x → A x := fun x hx => by rw [← hAe]; exact Or.inr hx
  have hl := lv_entry ([.ref (q 4), .int x1]) (n := 5) (Nat.le_of_ble_eq_true rfl)
  rw [lg_entry_eq]
  generalize (lg_sl ([.ref (q 4), .int x1]) ++ List.replicate (5 - (lg_sl ([.ref (q 4), .int x1])).length) Slot.unset).toArray = ls at hl ⊢
  have hl : lv_has ls 5 [(0, .ref (q 4)), (1, .int x1)] := hl
  exact w_M_worked hx hb hml hown hts (Nat.le_refl _) (Nat.le_refl _) (Nat.zero_le _) (Nat.zero_le _) hA hK x1 z K h (fun r u H locs pc ls hk hV hd => W.iret hx hb hr (fun t ht hW => ⟨⟨r, u, rfl, hk, by rw [ht]; exact hV.1, va_K.moved hW.alike hK, hV.2.1⟩, hV.2.2.F ht⟩) hV.2.2.2.2 hd) ⟨hP, hD, va_S.rf⟩ hl
section
variable {p : Program} {l : Launch} {e : Env} {R : Room} {s : State} {m : MethodId} {args : Array Value} {below : List Frame} {meth : Method} {c : Code} {Q : State → Prop} {ce sl : Nat} {D : va_G} {q : Nat → Nat} {cA : Nat → ClassId} {A : Nat → Prop}
set_option maxHeartbeats 4000000 in
set_option maxRecDepth 100000 in
theorem w_M_cross (hx : p.tables.exec = Jvm.exec) (hb : c.code = prog_6_method_30_code) (hml : c.maxLocals = 3) (hown : s.vm.findClass kr_M = some m.cls) (hts : ∀ w ∈ lw_g, w.before args s = true) (hRf : 1 ≤ R.frames) (hRl : 24 ≤ R.locals) (hce : ce ≤ R.cells) (hsl : sl ≤ R.slots) (hA : ∀ x, s.heap.size ≤ x → A x) (hK : va_K D wk_cl (tysW cA) s) (x1 : Int32) (z : Sta) (K : Sta → Prop) (h : wp_M_cross x1 z K) (hret : ∀ (u : Sta) (H : Heap) (locs : List Loc) (pc : Nat) (ls : Array Slot), K u → wk_S D q cA A s.heap u H locs → decode prog_6_method_30_code pc = .ok (.return_, 1) → W p l e R s m args below meth c H locs ce sl Q (F0 m pc ls [])) {H : Heap} {locs : List Loc} {ls : Array Slot} (hV : wk_S D q cA A s.heap z H locs) (hl : lv_has ls 3 [(0, .ref (q 4)), (1, .int x1)]) : W p l e R s m args below meth c H locs ce sl Q (F0 m 0 ls []) := by
  have L2 : ∀ (n : Nat) (x1 : Int32) (x2 : Int32) (z : Sta) (H : Heap) (locs : List Loc) (ls : Array Slot), wk_S D q cA A s.heap z H locs → lv_has ls 3 [(0, .ref (q 4)), (1, .int x1), (2, .int x2)] → lp_M_cross_2 K n x1 x2 z → W p l e R s m args below meth c H locs ce sl Q (F0 m 2 ls []) := by
    intro n2
    induction n2 with
    | zero => intro x1 x2 z H locs ls hV hl h; rw [lp_M_cross_2] at h; exact h.elim
    | succ n2 ih2 =>
      have J30 : ∀ (x1 : Int32) (x2 : Int32) (z : Sta) (H : Heap) (locs : List Loc) (ls : Array Slot), wk_S D q cA A s.heap z H locs → lv_has ls 3 [(0, .ref (q 4)), (1, .int x1), (2, .int x2)] → pj_M_cross_30 K (fun x1 x2 z => lp_M_cross_2 K n2 x1 x2 z) x1 x2 z → W p l e R s m args below meth c H locs ce sl Q (F0 m 30 ls []) := by
        intro x1 x2 z H locs ls hV hl h
        unfold pj_M_cross_30 at h
        obtain ⟨v6, ev6⟩ : ∃ v : Int32, v = x2 + 1 := ⟨_, rfl⟩
        have h := h v6 ev6
        refine lv_iinc (v := v6) (k := 2) hx hb kd_prog_6_method_30_code_30 hl rfl (by rw [ev6]; rfl) (by decide) rfl (fun ls hl => ?_)
        have hl : lv_has ls 3 [(2, .int v6), (0, .ref (q 4)), (1, .int x1)] := hl
        refine lv_goto (tgt := 2) hx hb kd_prog_6_method_30_code_33 (by decide) ?_
        exact ih2 x1 v6 z H locs ls hV (lv_sub hl [1, 2, 0] rfl) h
      intro x1 x2 z H locs ls hV hl h
      rw [lp_M_cross_2] at h
      refine lv_iload_n hx hb kd_prog_6_method_30_code_2 rfl (lv_at hl 2 rfl) ?_
      refine lv_aload_n hx hb kd_prog_6_method_30_code_3 rfl (lv_at hl 0 rfl) ?_
      refine va_get (D := D) (ci := 4) (v := .int (z.1 9)) (C := kr_M) (T := kt_M) (N := kn_M) hx hb hts ki_M hown hK hV.1 4 rfl rfl 5 (by decide) (hts _ hw_587) (fun _ h9 => h9) rfl kd_prog_6_method_30_code_4 ?_
      refine lv_topi (fun v1 ev1 => ?_)
      have h := h v1 ev1
      refine lv_icmp_ge (tgt := 36) hx hb kd_prog_6_method_30_code_7 (by decide) (fun hc => ?_) (fun hc => ?_)
      · have h := h.1 hc
        exact hret z H locs 36 ls h hV kd_prog_6_method_30_code_36
      · have h := h.2 hc
        refine lv_iload_n hx hb kd_prog_6_method_30_code_10 rfl (lv_at hl 1 rfl) ?_
        refine lv_iload_n hx hb kd_prog_6_method_30_code_11 rfl (lv_at hl 2 rfl) ?_
        refine lv_ishr hx hb kd_prog_6_method_30_code_12 ?_
        refine lv_topi (fun v2 ev2 => ?_)
        have h := h v2 ev2
        refine lv_iconst (v := 1) hx hb kd_prog_6_method_30_code_13 (by decide) ?_
        refine lv_iand hx hb kd_prog_6_method_30_code_14 ?_
        refine lv_topi (fun v3 ev3 => ?_)
        have h := h v3 ev3
        refine lv_iconst (v := 1) hx hb kd_prog_6_method_30_code_15 (by decide) ?_
        refine lv_icmp_ne (tgt := 30) hx hb kd_prog_6_method_30_code_16 (by decide) (fun hc => ?_) (fun hc => ?_)
        · have h := h.1 hc
          exact J30 x1 x2 z H locs ls hV (lv_sub hl [0, 1, 2] rfl) h
        · have h := h.2 hc
          refine lv_aload_n hx hb kd_prog_6_method_30_code_19 rfl (lv_at hl 0 rfl) ?_
          refine va_get (D := D) (ci := 4) (v := .ref (q 48)) (C := kr_M) (T := kt_M) (N := kn_M) hx hb hts ki_M hown hK hV.1 4 rfl rfl 24 (by decide) (hts _ hw_606) (fun _ h9 => h9) rfl kd_prog_6_method_30_code_20 ?_
          refine lv_iload_n hx hb kd_prog_6_method_30_code_23 rfl (lv_at hl 2 rfl) ?_
          refine lv_aload_n hx hb kd_prog_6_method_30_code_24 rfl (lv_at hl 0 rfl) ?_
          refine lv_iload_n hx hb kd_prog_6_method_30_code_25 rfl (lv_at hl 2 rfl) ?_
          refine wk_calli (va_runV (As := [.int x2]) (rest := [.int x2, .ref (q 48)]) ⟨hx, hb, hml, hown, hts⟩ (c_M_worked l D q cA x2 z H.size _ h) (cwV 1 hts gs_M_163 rfl rfl rfl (by decide +kernel) ⟨Nat.le_trans (by decide) hRf, Nat.le_trans (by decide) hRl⟩) (wk_preV hK hV 4 4 rfl rfl [.int x2]) rfl rfl hl.1 rfl (lv_room (Nat.le_of_ble_eq_true rfl)) kd_prog_6_method_30_code_26 ⟨hce, hsl⟩) hV hA (fun rz4 z4 H locs h hV => ?_)
          obtain ⟨hin, h⟩ := h
          refine wk_iast hx hb hK hV 48 43 33 rfl rfl (ks_48 q cA z4) hin kd_prog_6_method_30_code_29 (fun H locs hV => ?_)
          obtain ⟨z5, ez5⟩ : ∃ x : Sta, x = zA z4 33 (upd (z4.2.1 33) x2.toNatClampNeg rz4) := ⟨_, rfl⟩
          rw [← ez5] at hV
          have h := h z5 ez5
          exact J30 x1 x2 z5 H locs ls hV (lv_sub hl [0, 1, 2] rfl) h
  unfold wp_M_cross at h
  refine lv_iconst (v := 0) hx hb kd_prog_6_method_30_code_0 (by decide) ?_
  refine lv_istore_n hx hb kd_prog_6_method_30_code_1 rfl hl (by decide) rfl (fun ls hl => ?_)
  have hl : lv_has ls 3 [(2, .int 0), (0, .ref (q 4)), (1, .int x1)] := hl
  obtain ⟨n2, h⟩ := h
  exact L2 n2 x1 0 z H locs ls hV (lv_sub hl [1, 2, 0] rfl) h
end
set_option maxHeartbeats 4000000 in
set_option maxRecDepth 100000 in
theorem c_M_cross (l : Launch) (D : va_G) (q : Nat → Nat) (cA : Nat → ClassId) (x1 : Int32) (z : Sta) (sz : Nat) (K : Sta → Prop) (h : wp_M_cross x1 z K) : Met l ke_M_cross (kc_M_cross :: lw_g) { frames := 1, cells := 0, slots := 0, locals := 24 } (wk_Pc D q cA [.ref (q 4), .int x1] z sz) (va_Qv K (wk_B D q cA (va_A (wW q cA z) sz)) (va_A (wW q cA z) sz)) 0 0 (va_A (wW q cA z) sz) := by
  refine Met.ofW (cc := prog_6_method_30_code) (maxL := 3) (ret := none) (by decide) rfl ?_
  intro p e s m args below meth c s₁ B hml hv
  obtain ⟨rfl, hsz, hP, hK, hD0⟩ := hv
  have hx := B.exec
  have hb := B.bytes
  have hr := B.returns
  have hlocks := B.notSynchronized
  have hts0 := atoms_spec (ws := kc_M_cross :: lw_g) B.pre
  have hts : ∀ w ∈ lw_g, w.before ([.ref (q 4), .int x1] : List Value).toArray s = true := fun w hw => hts0 w (List.mem_cons_of_mem _ hw)
  have hown : s.vm.findClass kr_M = some m.cls := findClass_of_methodNamed B.named
  subst hsz
  have hD := hD0.self (sz := s.heap.size)
  generalize hAe : va_A (wW q cA z) s.heap.size = A at hD ⊢
  have hA : ∀ x : Nat, s.heap.size ≤ x → A x := fun x hx => by rw [← hAe]; exact Or.inr hx
  have hl := lv_entry ([.ref (q 4), .int x1]) (n := 3) (Nat.le_of_ble_eq_true rfl)
  rw [lg_entry_eq]
  generalize (lg_sl ([.ref (q 4), .int x1]) ++ List.replicate (3 - (lg_sl ([.ref (q 4), .int x1])).length) Slot.unset).toArray = ls at hl ⊢
  have hl : lv_has ls 3 [(0, .ref (q 4)), (1, .int x1)] := hl
  exact w_M_cross hx hb hml hown hts (Nat.le_refl _) (Nat.le_refl _) (Nat.zero_le _) (Nat.zero_le _) hA hK x1 z K h (fun u H locs pc ls hk hV hd => W.vret hx hb hr (fun t ht hW => ⟨⟨u, rfl, hk, by rw [ht]; exact hV.1, va_K.moved hW.alike hK, hV.2.1⟩, hV.2.2.F ht⟩) hV.2.2.2.2 hd) ⟨hP, hD, va_S.rf⟩ hl
section
variable {p : Program} {l : Launch} {e : Env} {R : Room} {s : State} {m : MethodId} {args : Array Value} {below : List Frame} {meth : Method} {c : Code} {Q : State → Prop} {ce sl : Nat} {D : va_G} {q : Nat → Nat} {cA : Nat → ClassId} {A : Nat → Prop}
set_option maxHeartbeats 4000000 in
set_option maxRecDepth 100000 in
theorem w_M_newly (hx : p.tables.exec = Jvm.exec) (hb : c.code = prog_6_method_31_code) (hml : c.maxLocals = 4) (hown : s.vm.findClass kr_M = some m.cls) (hts : ∀ w ∈ lw_g, w.before args s = true) (hRf : 1 ≤ R.frames) (hRl : 24 ≤ R.locals) (hce : ce ≤ R.cells) (hsl : sl ≤ R.slots) (hA : ∀ x, s.heap.size ≤ x → A x) (hK : va_K D wk_cl (tysW cA) s) (x1 : Int32) (x2 : Int32) (z : Sta) (K : Int32 → Sta → Prop) (h : wp_M_newly x1 x2 z K) (hret : ∀ (r : Int32) (u : Sta) (H : Heap) (locs : List Loc) (pc : Nat) (ls : Array Slot), K r u → wk_S D q cA A s.heap u H locs → decode prog_6_method_31_code pc = .ok (.ireturn, 1) → W p l e R s m args below meth c H locs ce sl Q (F0 m pc ls [.int r])) {H : Heap} {locs : List Loc} {ls : Array Slot} (hV : wk_S D q cA A s.heap z H locs) (hl : lv_has ls 4 [(0, .ref (q 4)), (1, .int x1), (2, .int x2)]) : W p l e R s m args below meth c H locs ce sl Q (F0 m 0 ls []) := by
  have J49 : ∀ (x3 : Int32) (y0 : Int32) (y1 : Int32) (z : Sta) (H : Heap) (locs : List Loc) (ls : Array Slot), wk_S D q cA A s.heap z H locs → lv_has ls 4 [(3, .int x3)] → pj_M_newly_49 K x3 y0 y1 z → W p l e R s m args below meth c H locs ce sl Q (F0 m 49 ls [.int y0, .int y1, .ref (q 48)]) := by
    intro x3 y0 y1 z H locs ls hV hl h
    unfold pj_M_newly_49 at h
    obtain ⟨hin, h⟩ := h
    refine wk_iast hx hb hK hV 48 43 33 rfl rfl (ks_48 q cA z) hin kd_prog_6_method_31_code_49 (fun H locs hV => ?_)
    obtain ⟨z9, ez9⟩ : ∃ x : Sta, x = zA z 33 (upd (z.2.1 33) y1.toNatClampNeg y0) := ⟨_, rfl⟩
    rw [← ez9] at hV
    have h := h z9 ez9
    refine lv_iload_n hx hb kd_prog_6_method_31_code_50 rfl (lv_at hl 0 rfl) ?_
    exact hret x3 z9 H locs 51 ls h hV kd_prog_6_method_31_code_51
  unfold wp_M_newly at h
  refine lv_iload_n hx hb kd_prog_6_method_31_code_0 rfl (lv_at hl 2 rfl) ?_
  refine lv_iload_n hx hb kd_prog_6_method_31_code_1 rfl (lv_at hl 1 rfl) ?_
  refine lv_ishr hx hb kd_prog_6_method_31_code_2 ?_
  refine lv_topi (fun v1 ev1 => ?_)
  have h := h v1 ev1
  refine lv_iconst (v := 1) hx hb kd_prog_6_method_31_code_3 (by decide) ?_
  refine lv_iand hx hb kd_prog_6_method_31_code_4 ?_
  refine lv_topi (fun v2 ev2 => ?_)
  have h := h v2 ev2
  refine lv_iconst (v := 1) hx hb kd_prog_6_method_31_code_5 (by decide) ?_
  refine lv_icmp_ne (tgt := 16) hx hb kd_prog_6_method_31_code_6 (by decide) (fun hc => ?_) (fun hc => ?_)
  · have h := h.1 hc
    refine lv_aload_n hx hb kd_prog_6_method_31_code_16 rfl (lv_at hl 0 rfl) ?_
    refine lv_iload_n hx hb kd_prog_6_method_31_code_17 rfl (lv_at hl 1 rfl) ?_
    refine wk_calli (va_runV (As := [.int x1]) (rest := []) ⟨hx, hb, hml, hown, hts⟩ (c_M_worked l D q cA x1 z H.size _ h) (cwV 1 hts gs_M_163 rfl rfl rfl (by decide +kernel) ⟨Nat.le_trans (by decide) hRf, Nat.le_trans (by decide) hRl⟩) (wk_preV hK hV 4 4 rfl rfl [.int x1]) rfl rfl hl.1 rfl (lv_room (Nat.le_of_ble_eq_true rfl)) kd_prog_6_method_31_code_18 ⟨hce, hsl⟩) hV hA (fun rz3 z3 H locs h hV => ?_)
    refine lv_istore_n hx hb kd_prog_6_method_31_code_21 rfl hl (by decide) rfl (fun ls hl => ?_)
    have hl : lv_has ls 4 [(3, .int rz3), (0, .ref (q 4)), (1, .int x1), (2, .int x2)] := hl
    refine lv_aload_n hx hb kd_prog_6_method_31_code_22 rfl (lv_at hl 1 rfl) ?_
    refine va_get (D := D) (ci := 4) (v := .ref (q 48)) (C := kr_M) (T := kt_M) (N := kn_M) hx hb hts ki_M hown hK hV.1 4 rfl rfl 24 (by decide) (hts _ hw_606) (fun _ h9 => h9) rfl kd_prog_6_method_31_code_23 ?_
    refine lv_iload_n hx hb kd_prog_6_method_31_code_26 rfl (lv_at hl 2 rfl) ?_
    refine lv_aload_n hx hb kd_prog_6_method_31_code_27 rfl (lv_at hl 1 rfl) ?_
    refine va_get (D := D) (ci := 4) (v := .int (z3.1 12)) (C := kr_M) (T := kt_M) (N := kn_M) hx hb hts ki_M hown hK hV.1 4 rfl rfl 11 (by decide) (hts _ hw_593) (fun _ h9 => h9) rfl kd_prog_6_method_31_code_28 ?_
    refine lv_topi (fun v4 ev4 => ?_)
    have h := h v4 ev4
    refine lv_iload_n hx hb kd_prog_6_method_31_code_31 rfl (lv_at hl 2 rfl) ?_
    refine lv_ishr hx hb kd_prog_6_method_31_code_32 ?_
    refine lv_topi (fun v5 ev5 => ?_)
    have h := h v5 ev5
    refine lv_iconst (v := 1) hx hb kd_prog_6_method_31_code_33 (by decide) ?_
    refine lv_iand hx hb kd_prog_6_method_31_code_34 ?_
    refine lv_topi (fun v6 ev6 => ?_)
    have h := h v6 ev6
    refine lv_iconst (v := 1) hx hb kd_prog_6_method_31_code_35 (by decide) ?_
    refine lv_icmp_ne (tgt := 43) hx hb kd_prog_6_method_31_code_36 (by decide) (fun hc => ?_) (fun hc => ?_)
    · have h := h.1 hc
      refine lv_aload_n hx hb kd_prog_6_method_31_code_43 rfl (lv_at hl 1 rfl) ?_
      refine va_get (D := D) (ci := 4) (v := .ref (q 48)) (C := kr_M) (T := kt_M) (N := kn_M) hx hb hts ki_M hown hK hV.1 4 rfl rfl 24 (by decide) (hts _ hw_606) (fun _ h9 => h9) rfl kd_prog_6_method_31_code_44 ?_
      refine lv_iload_n hx hb kd_prog_6_method_31_code_47 rfl (lv_at hl 2 rfl) ?_
      obtain ⟨hin, h⟩ := h
      refine va_iald hx hb hK hV.1 48 43 rfl rfl hin kd_prog_6_method_31_code_48 ?_
      refine lv_topi (fun v7 ev7 => ?_)
      have h := h v7 ev7
      exact J49 rz3 v7 x1 z3 H locs ls hV (lv_sub hl [0] rfl) h
    · have h := h.2 hc
      refine lv_iload_n hx hb kd_prog_6_method_31_code_39 rfl (lv_at hl 0 rfl) ?_
      refine lv_goto (tgt := 49) hx hb kd_prog_6_method_31_code_40 (by decide) ?_
      exact J49 rz3 rz3 x1 z3 H locs ls hV (lv_sub hl [0] rfl) h
  · have h := h.2 hc
    refine lv_aload_n hx hb kd_prog_6_method_31_code_9 rfl (lv_at hl 0 rfl) ?_
    refine va_get (D := D) (ci := 4) (v := .ref (q 48)) (C := kr_M) (T := kt_M) (N := kn_M) hx hb hts ki_M hown hK hV.1 4 rfl rfl 24 (by decide) (hts _ hw_606) (fun _ h9 => h9) rfl kd_prog_6_method_31_code_10 ?_
    refine lv_iload_n hx hb kd_prog_6_method_31_code_13 rfl (lv_at hl 1 rfl) ?_
    obtain ⟨hin, h⟩ := h
    refine va_iald hx hb hK hV.1 48 43 rfl rfl hin kd_prog_6_method_31_code_14 ?_
    refine lv_topi (fun v8 ev8 => ?_)
    have h := h v8 ev8
    exact hret v8 z H locs 15 ls h hV kd_prog_6_method_31_code_15
end
set_option maxHeartbeats 4000000 in
set_option maxRecDepth 100000 in
theorem c_M_newly (l : Launch) (D : va_G) (q : Nat → Nat) (cA : Nat → ClassId) (x1 : Int32) (x2 : Int32) (z : Sta) (sz : Nat) (K : Int32 → Sta → Prop) (h : wp_M_newly x1 x2 z K) : Met l ke_M_newly (kc_M_newly :: lw_g) { frames := 1, cells := 0, slots := 0, locals := 24 } (wk_Pc D q cA [.ref (q 4), .int x1, .int x2] z sz) (va_Qi K (wk_B D q cA (va_A (wW q cA z) sz)) (va_A (wW q cA z) sz)) 0 0 (va_A (wW q cA z) sz) := by
  refine Met.ofW (cc := prog_6_method_31_code) (maxL := 4) (ret := (some .int)) (by decide) rfl ?_
  intro p e s m args below meth c s₁ B hml hv
  obtain ⟨rfl, hsz, hP, hK, hD0⟩ := hv
  have hx := B.exec
  have hb := B.bytes
  have hr := B.returns
  have hlocks := B.notSynchronized
  have hts0 := atoms_spec (ws := kc_M_newly :: lw_g) B.pre
  have hts : ∀ w ∈ lw_g, w.before ([.ref (q 4), .int x1, .int x2] : List Value).toArray s = true := fun w hw => hts0 w (List.mem_cons_of_mem _ hw)
  have hown : s.vm.findClass kr_M = some m.cls := findClass_of_methodNamed B.named
  subst hsz
  have hD := hD0.self (sz := s.heap.size)
  generalize hAe : va_A (wW q cA z) s.heap.size = A at hD ⊢
  have hA : ∀ x : Nat, s.heap.size ≤ x → A x := fun x hx => by rw [← hAe]; exact Or.inr hx
  have hl := lv_entry ([.ref (q 4), .int x1, .int x2]) (n := 4) (Nat.le_of_ble_eq_true rfl)
  rw [lg_entry_eq]
  generalize (lg_sl ([.ref (q 4), .int x1, .int x2]) ++ List.replicate (4 - (lg_sl ([.ref (q 4), .int x1, .int x2])).length) Slot.unset).toArray = ls at hl ⊢
  have hl : lv_has ls 4 [(0, .ref (q 4)), (1, .int x1), (2, .int x2)] := hl
  exact w_M_newly hx hb hml hown hts (Nat.le_refl _) (Nat.le_refl _) (Nat.zero_le _) (Nat.zero_le _) hA hK x1 x2 z K h (fun r u H locs pc ls hk hV hd => W.iret hx hb hr (fun t ht hW => ⟨⟨r, u, rfl, hk, by rw [ht]; exact hV.1, va_K.moved hW.alike hK, hV.2.1⟩, hV.2.2.F ht⟩) hV.2.2.2.2 hd) ⟨hP, hD, va_S.rf⟩ hl
section
variable {p : Program} {l : Launch} {e : Env} {R : Room} {s : State} {m : MethodId} {args : Array Value} {below : List Frame} {meth : Method} {c : Code} {Q : State → Prop} {ce sl : Nat} {D : va_G} {q : Nat → Nat} {cA : Nat → ClassId} {A : Nat → Prop}
set_option maxHeartbeats 4000000 in
set_option maxRecDepth 100000 in
theorem w_M_pass (hx : p.tables.exec = Jvm.exec) (hb : c.code = prog_6_method_32_code) (hml : c.maxLocals = 9) (hown : s.vm.findClass kr_M = some m.cls) (hts : ∀ w ∈ lw_g, w.before args s = true) (hRf : 2 ≤ R.frames) (hRl : 47 ≤ R.locals) (hce : ce ≤ R.cells) (hsl : sl ≤ R.slots) (hA : ∀ x, s.heap.size ≤ x → A x) (hK : va_K D wk_cl (tysW cA) s) (x1 : Int32) (x2 : Int32) (z : Sta) (K : Sta → Prop) (h : wp_M_pass x1 x2 z K) (hret : ∀ (u : Sta) (H : Heap) (locs : List Loc) (pc : Nat) (ls : Array Slot), K u → wk_S D q cA A s.heap u H locs → decode prog_6_method_32_code pc = .ok (.return_, 1) → W p l e R s m args below meth c H locs ce sl Q (F0 m pc ls [])) {H : Heap} {locs : List Loc} {ls : Array Slot} (hV : wk_S D q cA A s.heap z H locs) (hl : lv_has ls 9 [(0, .ref (q 4)), (1, .int x1), (2, .int x2)]) : W p l e R s m args below meth c H locs ce sl Q (F0 m 0 ls []) := by
  have L23 : ∀ (n : Nat) (x1 : Int32) (x2 : Int32) (x3 : Int32) (x4 : Int32) (z : Sta) (H : Heap) (locs : List Loc) (ls : Array Slot), wk_S D q cA A s.heap z H locs → lv_has ls 9 [(0, .ref (q 4)), (1, .int x1), (2, .int x2), (3, .int x3), (4, .int x4)] → lp_M_pass_23 K n x1 x2 x3 x4 z → W p l e R s m args below meth c H locs ce sl Q (F0 m 23 ls []) := by
    intro n23
    induction n23 with
    | zero => intro x1 x2 x3 x4 z H locs ls hV hl h; rw [lp_M_pass_23] at h; exact h.elim
    | succ n23 ih23 =>
      have J221 : ∀ (x1 : Int32) (x2 : Int32) (x3 : Int32) (x4 : Int32) (z : Sta) (H : Heap) (locs : List Loc) (ls : Array Slot), wk_S D q cA A s.heap z H locs → lv_has ls 9 [(0, .ref (q 4)), (1, .int x1), (2, .int x2), (3, .int x3), (4, .int x4)] → pj_M_pass_221 K (fun x1 x2 x3 x4 z => lp_M_pass_23 K n23 x1 x2 x3 x4 z) x1 x2 x3 x4 z → W p l e R s m args below meth c H locs ce sl Q (F0 m 221 ls []) := by
        intro x1 x2 x3 x4 z H locs ls hV hl h
        unfold pj_M_pass_221 at h
        obtain ⟨v28, ev28⟩ : ∃ v : Int32, v = x4 + 1 := ⟨_, rfl⟩
        have h := h v28 ev28
        refine lv_iinc (v := v28) (k := 4) hx hb kd_prog_6_method_32_code_221 hl rfl (by rw [ev28]; rfl) (by decide) rfl (fun ls hl => ?_)
        have hl : lv_has ls 9 [(4, .int v28), (0, .ref (q 4)), (1, .int x1), (2, .int x2), (3, .int x3)] := hl
        refine lv_goto (tgt := 23) hx hb kd_prog_6_method_32_code_224 (by decide) ?_
        exact ih23 x1 x2 x3 v28 z H locs ls hV (lv_sub hl [1, 2, 3, 4, 0] rfl) h
      have J211 : ∀ (x1 : Int32) (x2 : Int32) (x3 : Int32) (x4 : Int32) (z : Sta) (H : Heap) (locs : List Loc) (ls : Array Slot), wk_S D q cA A s.heap z H locs → lv_has ls 9 [(0, .ref (q 4)), (1, .int x1), (2, .int x2), (3, .int x3), (4, .int x4)] → pj_M_pass_211 K (fun x1 x2 x3 x4 z => lp_M_pass_23 K n23 x1 x2 x3 x4 z) x1 x2 x3 x4 z → W p l e R s m args below meth c H locs ce sl Q (F0 m 211 ls []) := by
        intro x1 x2 x3 x4 z H locs ls hV hl h
        unfold pj_M_pass_211 at h
        refine lv_aload_n hx hb kd_prog_6_method_32_code_211 rfl (lv_at hl 0 rfl) ?_
        refine lv_dup hx hb kd_prog_6_method_32_code_212 rfl ?_
        refine va_get (D := D) (ci := 4) (v := .int (z.1 13)) (C := kr_M) (T := kt_M) (N := kn_M) hx hb hts ki_M hown hK hV.1 4 rfl rfl 26 (by decide) (hts _ hw_608) (fun _ h9 => h9) rfl kd_prog_6_method_32_code_213 ?_
        refine lv_topi (fun v33 ev33 => ?_)
        have h := h v33 ev33
        refine lv_iconst (v := 1) hx hb kd_prog_6_method_32_code_216 (by decide) ?_
        refine lv_iadd hx hb kd_prog_6_method_32_code_217 ?_
        refine lv_topi (fun v34 ev34 => ?_)
        have h := h v34 ev34
        refine wk_put (D := D) (ci := 4) (v := .int v34) (ty := .int) (C := kr_M) (T := kt_M) (N := kn_M) (z1 := zI z 13 v34) hx hb hts ki_M ky_M ko_M km_M hown hK hV 4 rfl rfl 26 (by decide) (hts _ hw_608) (fun _ h9 => h9) rfl (by decide +kernel) rfl rfl (Nat.le_of_ble_eq_true rfl) rfl kd_prog_6_method_32_code_218 (fun H locs hV => ?_)
        obtain ⟨z35, ez35⟩ : ∃ x : Sta, x = zI z 13 v34 := ⟨_, rfl⟩
        rw [← ez35] at hV
        have h := h z35 ez35
        exact J221 x1 x2 x3 x4 z35 H locs ls hV (lv_sub hl [0, 1, 2, 3, 4] rfl) h
      have J163 : ∀ (x1 : Int32) (x2 : Int32) (x3 : Int32) (x4 : Int32) (x6 : Int32) (x7 : Int32) (y0 : Int32) (z : Sta) (H : Heap) (locs : List Loc) (ls : Array Slot), wk_S D q cA A s.heap z H locs → lv_has ls 9 [(0, .ref (q 4)), (1, .int x1), (2, .int x2), (3, .int x3), (4, .int x4), (6, .int x6), (7, .int x7)] → pj_M_pass_163 K (fun x1 x2 x3 x4 z => lp_M_pass_23 K n23 x1 x2 x3 x4 z) x1 x2 x3 x4 x6 x7 y0 z → W p l e R s m args below meth c H locs ce sl Q (F0 m 163 ls [.int y0]) := by
        intro x1 x2 x3 x4 x6 x7 y0 z H locs ls hV hl h
        unfold pj_M_pass_163 at h
        refine lv_istore hx hb kd_prog_6_method_32_code_163 hl (by decide) rfl (fun ls hl => ?_)
        have hl : lv_has ls 9 [(8, .int y0), (0, .ref (q 4)), (1, .int x1), (2, .int x2), (3, .int x3), (4, .int x4), (6, .int x6), (7, .int x7)] := hl
        refine lv_iload_n hx hb kd_prog_6_method_32_code_165 rfl (lv_at hl 4 rfl) ?_
        refine lv_iconst (v := 1) hx hb kd_prog_6_method_32_code_166 (by decide) ?_
        refine lv_iload hx hb kd_prog_6_method_32_code_167 (lv_at hl 7 rfl) ?_
        refine lv_ishl hx hb kd_prog_6_method_32_code_169 ?_
        refine lv_topi (fun v29 ev29 => ?_)
        have h := h v29 ev29
        refine lv_iconst (v := (-1)) hx hb kd_prog_6_method_32_code_170 (by decide) ?_
        refine lv_ixor hx hb kd_prog_6_method_32_code_171 ?_
        refine lv_topi (fun v30 ev30 => ?_)
        have h := h v30 ev30
        refine lv_iand hx hb kd_prog_6_method_32_code_172 ?_
        refine lv_topi (fun v31 ev31 => ?_)
        have h := h v31 ev31
        refine lv_istore_n hx hb kd_prog_6_method_32_code_173 rfl hl (by decide) rfl (fun ls hl => ?_)
        have hl : lv_has ls 9 [(3, .int v31), (8, .int y0), (0, .ref (q 4)), (1, .int x1), (2, .int x2), (4, .int x4), (6, .int x6), (7, .int x7)] := hl
        refine lv_aload_n hx hb kd_prog_6_method_32_code_174 rfl (lv_at hl 2 rfl) ?_
        refine va_get (D := D) (ci := 4) (v := .ref (q 47)) (C := kr_M) (T := kt_M) (N := kn_M) hx hb hts ki_M hown hK hV.1 4 rfl rfl 23 (by decide) (hts _ hw_605) (fun _ h9 => h9) rfl kd_prog_6_method_32_code_175 ?_
        refine lv_iload hx hb kd_prog_6_method_32_code_178 (lv_at hl 6 rfl) ?_
        refine lv_iload hx hb kd_prog_6_method_32_code_180 (lv_at hl 1 rfl) ?_
        obtain ⟨hin, h⟩ := h
        refine wk_iast hx hb hK hV 47 42 32 rfl rfl (ks_47 q cA z) hin kd_prog_6_method_32_code_182 (fun H locs hV => ?_)
        obtain ⟨z32, ez32⟩ : ∃ x : Sta, x = zA z 32 (upd (z.2.1 32) x6.toNatClampNeg y0) := ⟨_, rfl⟩
        rw [← ez32] at hV
        have h := h z32 ez32
        refine lv_goto (tgt := 221) hx hb kd_prog_6_method_32_code_183 (by decide) ?_
        exact J221 x1 x2 v31 x4 z32 H locs ls hV (lv_sub hl [2, 3, 4, 0, 5] rfl) h
      intro x1 x2 x3 x4 z H locs ls hV hl h
      rw [lp_M_pass_23] at h
      refine lv_iload hx hb kd_prog_6_method_32_code_23 (lv_at hl 4 rfl) ?_
      refine lv_aload_n hx hb kd_prog_6_method_32_code_25 rfl (lv_at hl 0 rfl) ?_
      refine va_get (D := D) (ci := 4) (v := .ref (q 30)) (C := kr_M) (T := kt_M) (N := kn_M) hx hb hts ki_M hown hK hV.1 4 rfl rfl 2 (by decide) (hts _ hw_584) (fun _ h9 => h9) rfl kd_prog_6_method_32_code_26 ?_
      refine lv_iload_n hx hb kd_prog_6_method_32_code_29 rfl (lv_at hl 1 rfl) ?_
      obtain ⟨hin, h⟩ := h
      refine va_iald hx hb hK hV.1 30 25 rfl rfl hin kd_prog_6_method_32_code_30 ?_
      refine lv_topi (fun v4 ev4 => ?_)
      have h := h v4 ev4
      refine lv_icmp_ge (tgt := 227) hx hb kd_prog_6_method_32_code_31 (by decide) (fun hc => ?_) (fun hc => ?_)
      · have h := h.1 hc
        exact hret z H locs 227 ls h hV kd_prog_6_method_32_code_227
      · have h := h.2 hc
        refine lv_bipush (v := 30) hx hb kd_prog_6_method_32_code_34 (by decide) ?_
        refine lv_iload_n hx hb kd_prog_6_method_32_code_36 rfl (lv_at hl 1 rfl) ?_
        refine lv_imul hx hb kd_prog_6_method_32_code_37 ?_
        refine lv_topi (fun v5 ev5 => ?_)
        have h := h v5 ev5
        refine lv_bipush (v := 6) hx hb kd_prog_6_method_32_code_38 (by decide) ?_
        refine lv_iload hx hb kd_prog_6_method_32_code_40 (lv_at hl 4 rfl) ?_
        refine lv_imul hx hb kd_prog_6_method_32_code_42 ?_
        refine lv_topi (fun v6 ev6 => ?_)
        have h := h v6 ev6
        refine lv_iadd hx hb kd_prog_6_method_32_code_43 ?_
        refine lv_topi (fun v7 ev7 => ?_)
        have h := h v7 ev7
        refine lv_istore hx hb kd_prog_6_method_32_code_44 hl (by decide) rfl (fun ls hl => ?_)
        have hl : lv_has ls 9 [(5, .int v7), (0, .ref (q 4)), (1, .int x1), (2, .int x2), (3, .int x3), (4, .int x4)] := hl
        refine lv_aload_n hx hb kd_prog_6_method_32_code_46 rfl (lv_at hl 1 rfl) ?_
        refine va_get (D := D) (ci := 4) (v := .ref (q 31)) (C := kr_M) (T := kt_M) (N := kn_M) hx hb hts ki_M hown hK hV.1 4 rfl rfl 3 (by decide) (hts _ hw_585) (fun _ h9 => h9) rfl kd_prog_6_method_32_code_47 ?_
        refine lv_iload hx hb kd_prog_6_method_32_code_50 (lv_at hl 0 rfl) ?_
        refine lv_iconst (v := 1) hx hb kd_prog_6_method_32_code_52 (by decide) ?_
        refine lv_iadd hx hb kd_prog_6_method_32_code_53 ?_
        refine lv_topi (fun v8 ev8 => ?_)
        have h := h v8 ev8
        obtain ⟨hin, h⟩ := h
        refine va_iald hx hb hK hV.1 31 26 rfl rfl hin kd_prog_6_method_32_code_54 ?_
        refine lv_topi (fun v9 ev9 => ?_)
        have h := h v9 ev9
        refine lv_istore hx hb kd_prog_6_method_32_code_55 hl (by decide) rfl (fun ls hl => ?_)
        have hl : lv_has ls 9 [(6, .int v9), (5, .int v7), (0, .ref (q 4)), (1, .int x1), (2, .int x2), (3, .int x3), (4, .int x4)] := hl
        refine lv_aload_n hx hb kd_prog_6_method_32_code_57 rfl (lv_at hl 2 rfl) ?_
        refine va_get (D := D) (ci := 4) (v := .ref (q 31)) (C := kr_M) (T := kt_M) (N := kn_M) hx hb hts ki_M hown hK hV.1 4 rfl rfl 3 (by decide) (hts _ hw_585) (fun _ h9 => h9) rfl kd_prog_6_method_32_code_58 ?_
        refine lv_iload hx hb kd_prog_6_method_32_code_61 (lv_at hl 1 rfl) ?_
        refine lv_iconst (v := 5) hx hb kd_prog_6_method_32_code_63 (by decide) ?_
        refine lv_iadd hx hb kd_prog_6_method_32_code_64 ?_
        refine lv_topi (fun v10 ev10 => ?_)
        have h := h v10 ev10
        obtain ⟨hin, h⟩ := h
        refine va_iald hx hb hK hV.1 31 26 rfl rfl hin kd_prog_6_method_32_code_65 ?_
        refine lv_topi (fun v11 ev11 => ?_)
        have h := h v11 ev11
        refine lv_istore hx hb kd_prog_6_method_32_code_66 hl (by decide) rfl (fun ls hl => ?_)
        have hl : lv_has ls 9 [(7, .int v11), (6, .int v9), (5, .int v7), (0, .ref (q 4)), (1, .int x1), (2, .int x2), (3, .int x3), (4, .int x4)] := hl
        refine lv_aload_n hx hb kd_prog_6_method_32_code_68 rfl (lv_at hl 3 rfl) ?_
        refine va_get (D := D) (ci := 4) (v := .ref (q 31)) (C := kr_M) (T := kt_M) (N := kn_M) hx hb hts ki_M hown hK hV.1 4 rfl rfl 3 (by decide) (hts _ hw_585) (fun _ h9 => h9) rfl kd_prog_6_method_32_code_69 ?_
        refine lv_iload hx hb kd_prog_6_method_32_code_72 (lv_at hl 2 rfl) ?_
        obtain ⟨hin, h⟩ := h
        refine va_iald hx hb hK hV.1 31 26 rfl rfl hin kd_prog_6_method_32_code_74 ?_
        refine lv_topi (fun v12 ev12 => ?_)
        have h := h v12 ev12
        refine lv_if_ne (tgt := 102) hx hb kd_prog_6_method_32_code_75 (by decide) (fun hc => ?_) (fun hc => ?_)
        · have h := h.1 hc
          refine lv_aload_n hx hb kd_prog_6_method_32_code_102 rfl (lv_at hl 3 rfl) ?_
          refine va_get (D := D) (ci := 4) (v := .ref (q 31)) (C := kr_M) (T := kt_M) (N := kn_M) hx hb hts ki_M hown hK hV.1 4 rfl rfl 3 (by decide) (hts _ hw_585) (fun _ h9 => h9) rfl kd_prog_6_method_32_code_103 ?_
          refine lv_iload hx hb kd_prog_6_method_32_code_106 (lv_at hl 2 rfl) ?_
          obtain ⟨hin, h⟩ := h
          refine va_iald hx hb hK hV.1 31 26 rfl rfl hin kd_prog_6_method_32_code_108 ?_
          refine lv_topi (fun v13 ev13 => ?_)
          have h := h v13 ev13
          refine lv_iconst (v := 1) hx hb kd_prog_6_method_32_code_109 (by decide) ?_
          refine lv_icmp_ne (tgt := 132) hx hb kd_prog_6_method_32_code_110 (by decide) (fun hc => ?_) (fun hc => ?_)
          · have h := h.1 hc
            refine lv_aload_n hx hb kd_prog_6_method_32_code_132 rfl (lv_at hl 3 rfl) ?_
            refine va_get (D := D) (ci := 4) (v := .ref (q 31)) (C := kr_M) (T := kt_M) (N := kn_M) hx hb hts ki_M hown hK hV.1 4 rfl rfl 3 (by decide) (hts _ hw_585) (fun _ h9 => h9) rfl kd_prog_6_method_32_code_133 ?_
            refine lv_iload hx hb kd_prog_6_method_32_code_136 (lv_at hl 2 rfl) ?_
            obtain ⟨hin, h⟩ := h
            refine va_iald hx hb hK hV.1 31 26 rfl rfl hin kd_prog_6_method_32_code_138 ?_
            refine lv_topi (fun v14 ev14 => ?_)
            have h := h v14 ev14
            refine lv_iconst (v := 2) hx hb kd_prog_6_method_32_code_139 (by decide) ?_
            refine lv_icmp_ne (tgt := 186) hx hb kd_prog_6_method_32_code_140 (by decide) (fun hc => ?_) (fun hc => ?_)
            · have h := h.1 hc
              refine lv_aload_n hx hb kd_prog_6_method_32_code_186 rfl (lv_at hl 3 rfl) ?_
              refine va_get (D := D) (ci := 4) (v := .int (z.1 13)) (C := kr_M) (T := kt_M) (N := kn_M) hx hb hts ki_M hown hK hV.1 4 rfl rfl 26 (by decide) (hts _ hw_608) (fun _ h9 => h9) rfl kd_prog_6_method_32_code_187 ?_
              refine lv_topi (fun v15 ev15 => ?_)
              have h := h v15 ev15
              refine lv_bipush (v := 100) hx hb kd_prog_6_method_32_code_190 (by decide) ?_
              refine lv_icmp_ge (tgt := 211) hx hb kd_prog_6_method_32_code_192 (by decide) (fun hc => ?_) (fun hc => ?_)
              · have h := h.1 hc
                exact J211 x1 x2 x3 x4 z H locs ls hV (lv_sub hl [3, 4, 5, 6, 7] rfl) h
              · have h := h.2 hc
                refine lv_aload_n hx hb kd_prog_6_method_32_code_195 rfl (lv_at hl 3 rfl) ?_
                refine va_get (D := D) (ci := 4) (v := .ref (q 50)) (C := kr_M) (T := kt_M) (N := kn_M) hx hb hts ki_M hown hK hV.1 4 rfl rfl 29 (by decide) (hts _ hw_611) (fun _ h9 => h9) rfl kd_prog_6_method_32_code_196 ?_
                refine lv_aload_n hx hb kd_prog_6_method_32_code_199 rfl (lv_at hl 3 rfl) ?_
                refine va_get (D := D) (ci := 4) (v := .int (z.1 13)) (C := kr_M) (T := kt_M) (N := kn_M) hx hb hts ki_M hown hK hV.1 4 rfl rfl 26 (by decide) (hts _ hw_608) (fun _ h9 => h9) rfl kd_prog_6_method_32_code_200 ?_
                refine lv_topi (fun v16 ev16 => ?_)
                have h := h v16 ev16
                refine lv_aload_n hx hb kd_prog_6_method_32_code_203 rfl (lv_at hl 3 rfl) ?_
                refine va_get (D := D) (ci := 4) (v := .ref (q 47)) (C := kr_M) (T := kt_M) (N := kn_M) hx hb hts ki_M hown hK hV.1 4 rfl rfl 23 (by decide) (hts _ hw_605) (fun _ h9 => h9) rfl kd_prog_6_method_32_code_204 ?_
                refine lv_iload hx hb kd_prog_6_method_32_code_207 (lv_at hl 1 rfl) ?_
                obtain ⟨hin, h⟩ := h
                refine va_iald hx hb hK hV.1 47 42 rfl rfl hin kd_prog_6_method_32_code_209 ?_
                refine lv_topi (fun v17 ev17 => ?_)
                have h := h v17 ev17
                obtain ⟨hin, h⟩ := h
                refine wk_iast hx hb hK hV 50 45 35 rfl rfl (ks_50 q cA z) hin kd_prog_6_method_32_code_210 (fun H locs hV => ?_)
                obtain ⟨z18, ez18⟩ : ∃ x : Sta, x = zA z 35 (upd (z.2.1 35) v16.toNatClampNeg v17) := ⟨_, rfl⟩
                rw [← ez18] at hV
                have h := h z18 ez18
                exact J211 x1 x2 x3 x4 z18 H locs ls hV (lv_sub hl [3, 4, 5, 6, 7] rfl) h
            · have h := h.2 hc
              refine lv_iload_n hx hb kd_prog_6_method_32_code_143 rfl (lv_at hl 5 rfl) ?_
              refine lv_if_eq (tgt := 157) hx hb kd_prog_6_method_32_code_144 (by decide) (fun hc => ?_) (fun hc => ?_)
              · have h := h.1 hc
                refine lv_aload_n hx hb kd_prog_6_method_32_code_157 rfl (lv_at hl 3 rfl) ?_
                refine lv_iload hx hb kd_prog_6_method_32_code_158 (lv_at hl 0 rfl) ?_
                refine wk_calli (va_runV (As := [.int v11]) (rest := []) ⟨hx, hb, hml, hown, hts⟩ (c_M_worked l D q cA v11 z H.size _ h) (cwV 1 hts gs_M_163 rfl rfl rfl (by decide +kernel) ⟨Nat.le_trans (by decide) hRf, Nat.le_trans (by decide) hRl⟩) (wk_preV hK hV 4 4 rfl rfl [.int v11]) rfl rfl hl.1 rfl (lv_room (Nat.le_of_ble_eq_true rfl)) kd_prog_6_method_32_code_160 ⟨hce, hsl⟩) hV hA (fun rz19 z19 H locs h hV => ?_)
                exact J163 x1 x2 x3 x4 v9 v11 rz19 z19 H locs ls hV (lv_sub hl [3, 4, 5, 6, 7, 1, 0] rfl) h
              · have h := h.2 hc
                refine lv_aload_n hx hb kd_prog_6_method_32_code_147 rfl (lv_at hl 3 rfl) ?_
                refine lv_iload hx hb kd_prog_6_method_32_code_148 (lv_at hl 0 rfl) ?_
                refine lv_iload_n hx hb kd_prog_6_method_32_code_150 rfl (lv_at hl 6 rfl) ?_
                refine wk_calli (va_runV (As := [.int v11, .int x3]) (rest := []) ⟨hx, hb, hml, hown, hts⟩ (c_M_newly l D q cA v11 x3 z H.size _ h) (cwV 2 hts gs_M_166 rfl rfl rfl (by decide +kernel) ⟨Nat.le_trans (by decide) hRf, Nat.le_trans (by decide) hRl⟩) (wk_preV hK hV 4 4 rfl rfl [.int v11, .int x3]) rfl rfl hl.1 rfl (lv_room (Nat.le_of_ble_eq_true rfl)) kd_prog_6_method_32_code_151 ⟨hce, hsl⟩) hV hA (fun rz20 z20 H locs h hV => ?_)
                refine lv_goto (tgt := 163) hx hb kd_prog_6_method_32_code_154 (by decide) ?_
                exact J163 x1 x2 x3 x4 v9 v11 rz20 z20 H locs ls hV (lv_sub hl [3, 4, 5, 6, 7, 1, 0] rfl) h
          · have h := h.2 hc
            refine lv_aload_n hx hb kd_prog_6_method_32_code_113 rfl (lv_at hl 3 rfl) ?_
            refine va_get (D := D) (ci := 4) (v := .ref (q 47)) (C := kr_M) (T := kt_M) (N := kn_M) hx hb hts ki_M hown hK hV.1 4 rfl rfl 23 (by decide) (hts _ hw_605) (fun _ h9 => h9) rfl kd_prog_6_method_32_code_114 ?_
            refine lv_iload hx hb kd_prog_6_method_32_code_117 (lv_at hl 1 rfl) ?_
            refine lv_aload_n hx hb kd_prog_6_method_32_code_119 rfl (lv_at hl 3 rfl) ?_
            refine va_get (D := D) (ci := 4) (v := .ref (q 31)) (C := kr_M) (T := kt_M) (N := kn_M) hx hb hts ki_M hown hK hV.1 4 rfl rfl 3 (by decide) (hts _ hw_585) (fun _ h9 => h9) rfl kd_prog_6_method_32_code_120 ?_
            refine lv_iload hx hb kd_prog_6_method_32_code_123 (lv_at hl 2 rfl) ?_
            refine lv_iconst (v := 2) hx hb kd_prog_6_method_32_code_125 (by decide) ?_
            refine lv_iadd hx hb kd_prog_6_method_32_code_126 ?_
            refine lv_topi (fun v21 ev21 => ?_)
            have h := h v21 ev21
            obtain ⟨hin, h⟩ := h
            refine va_iald hx hb hK hV.1 31 26 rfl rfl hin kd_prog_6_method_32_code_127 ?_
            refine lv_topi (fun v22 ev22 => ?_)
            have h := h v22 ev22
            obtain ⟨hin, h⟩ := h
            refine wk_iast hx hb hK hV 47 42 32 rfl rfl (ks_47 q cA z) hin kd_prog_6_method_32_code_128 (fun H locs hV => ?_)
            obtain ⟨z23, ez23⟩ : ∃ x : Sta, x = zA z 32 (upd (z.2.1 32) v9.toNatClampNeg v22) := ⟨_, rfl⟩
            rw [← ez23] at hV
            have h := h z23 ez23
            refine lv_goto (tgt := 221) hx hb kd_prog_6_method_32_code_129 (by decide) ?_
            exact J221 x1 x2 x3 x4 z23 H locs ls hV (lv_sub hl [3, 4, 5, 6, 7] rfl) h
        · have h := h.2 hc
          refine lv_aload_n hx hb kd_prog_6_method_32_code_78 rfl (lv_at hl 3 rfl) ?_
          refine va_get (D := D) (ci := 4) (v := .ref (q 47)) (C := kr_M) (T := kt_M) (N := kn_M) hx hb hts ki_M hown hK hV.1 4 rfl rfl 23 (by decide) (hts _ hw_605) (fun _ h9 => h9) rfl kd_prog_6_method_32_code_79 ?_
          refine lv_iload hx hb kd_prog_6_method_32_code_82 (lv_at hl 1 rfl) ?_
          refine lv_aload_n hx hb kd_prog_6_method_32_code_84 rfl (lv_at hl 3 rfl) ?_
          refine va_get (D := D) (ci := 4) (v := .ref (q 47)) (C := kr_M) (T := kt_M) (N := kn_M) hx hb hts ki_M hown hK hV.1 4 rfl rfl 23 (by decide) (hts _ hw_605) (fun _ h9 => h9) rfl kd_prog_6_method_32_code_85 ?_
          refine lv_aload_n hx hb kd_prog_6_method_32_code_88 rfl (lv_at hl 3 rfl) ?_
          refine va_get (D := D) (ci := 4) (v := .ref (q 31)) (C := kr_M) (T := kt_M) (N := kn_M) hx hb hts ki_M hown hK hV.1 4 rfl rfl 3 (by decide) (hts _ hw_585) (fun _ h9 => h9) rfl kd_prog_6_method_32_code_89 ?_
          refine lv_iload hx hb kd_prog_6_method_32_code_92 (lv_at hl 2 rfl) ?_
          refine lv_iconst (v := 2) hx hb kd_prog_6_method_32_code_94 (by decide) ?_
          refine lv_iadd hx hb kd_prog_6_method_32_code_95 ?_
          refine lv_topi (fun v24 ev24 => ?_)
          have h := h v24 ev24
          obtain ⟨hin, h⟩ := h
          refine va_iald hx hb hK hV.1 31 26 rfl rfl hin kd_prog_6_method_32_code_96 ?_
          refine lv_topi (fun v25 ev25 => ?_)
          have h := h v25 ev25
          obtain ⟨hin, h⟩ := h
          refine va_iald hx hb hK hV.1 47 42 rfl rfl hin kd_prog_6_method_32_code_97 ?_
          refine lv_topi (fun v26 ev26 => ?_)
          have h := h v26 ev26
          obtain ⟨hin, h⟩ := h
          refine wk_iast hx hb hK hV 47 42 32 rfl rfl (ks_47 q cA z) hin kd_prog_6_method_32_code_98 (fun H locs hV => ?_)
          obtain ⟨z27, ez27⟩ : ∃ x : Sta, x = zA z 32 (upd (z.2.1 32) v9.toNatClampNeg v26) := ⟨_, rfl⟩
          rw [← ez27] at hV
          have h := h z27 ez27
          refine lv_goto (tgt := 221) hx hb kd_prog_6_method_32_code_99 (by decide) ?_
          exact J221 x1 x2 x3 x4 z27 H locs ls hV (lv_sub hl [3, 4, 5, 6, 7] rfl) h
  have J19 : ∀ (x1 : Int32) (x2 : Int32) (y0 : Int32) (z : Sta) (H : Heap) (locs : List Loc) (ls : Array Slot), wk_S D q cA A s.heap z H locs → lv_has ls 9 [(0, .ref (q 4)), (1, .int x1), (2, .int x2)] → pj_M_pass_19 K x1 x2 y0 z → W p l e R s m args below meth c H locs ce sl Q (F0 m 19 ls [.int y0]) := by
    intro x1 x2 y0 z H locs ls hV hl h
    unfold pj_M_pass_19 at h
    refine lv_istore_n hx hb kd_prog_6_method_32_code_19 rfl hl (by decide) rfl (fun ls hl => ?_)
    have hl : lv_has ls 9 [(3, .int y0), (0, .ref (q 4)), (1, .int x1), (2, .int x2)] := hl
    refine lv_iconst (v := 0) hx hb kd_prog_6_method_32_code_20 (by decide) ?_
    refine lv_istore hx hb kd_prog_6_method_32_code_21 hl (by decide) rfl (fun ls hl => ?_)
    have hl : lv_has ls 9 [(4, .int 0), (3, .int y0), (0, .ref (q 4)), (1, .int x1), (2, .int x2)] := hl
    obtain ⟨n23, h⟩ := h
    exact L23 n23 x1 x2 y0 0 z H locs ls hV (lv_sub hl [2, 3, 4, 1, 0] rfl) h
  unfold wp_M_pass at h
  refine lv_iload_n hx hb kd_prog_6_method_32_code_0 rfl (lv_at hl 2 rfl) ?_
  refine lv_if_eq (tgt := 18) hx hb kd_prog_6_method_32_code_1 (by decide) (fun hc => ?_) (fun hc => ?_)
  · have h := h.1 hc
    refine lv_iconst (v := 0) hx hb kd_prog_6_method_32_code_18 (by decide) ?_
    exact J19 x1 x2 0 z H locs ls hV (lv_sub hl [0, 1, 2] rfl) h
  · have h := h.2 hc
    refine lv_aload_n hx hb kd_prog_6_method_32_code_4 rfl (lv_at hl 0 rfl) ?_
    refine va_get (D := D) (ci := 4) (v := .ref (q 37)) (C := kr_M) (T := kt_M) (N := kn_M) hx hb hts ki_M hown hK hV.1 4 rfl rfl 13 (by decide) (hts _ hw_595) (fun _ h9 => h9) rfl kd_prog_6_method_32_code_5 ?_
    refine lv_bipush (v := 6) hx hb kd_prog_6_method_32_code_8 (by decide) ?_
    refine lv_iload_n hx hb kd_prog_6_method_32_code_10 rfl (lv_at hl 1 rfl) ?_
    refine lv_imul hx hb kd_prog_6_method_32_code_11 ?_
    refine lv_topi (fun v1 ev1 => ?_)
    have h := h v1 ev1
    refine lv_iconst (v := 5) hx hb kd_prog_6_method_32_code_12 (by decide) ?_
    refine lv_iadd hx hb kd_prog_6_method_32_code_13 ?_
    refine lv_topi (fun v2 ev2 => ?_)
    have h := h v2 ev2
    obtain ⟨hin, h⟩ := h
    refine va_iald hx hb hK hV.1 37 32 rfl rfl hin kd_prog_6_method_32_code_14 ?_
    refine lv_topi (fun v3 ev3 => ?_)
    have h := h v3 ev3
    refine lv_goto (tgt := 19) hx hb kd_prog_6_method_32_code_15 (by decide) ?_
    exact J19 x1 x2 v3 z H locs ls hV (lv_sub hl [0, 1, 2] rfl) h
end
set_option maxHeartbeats 4000000 in
set_option maxRecDepth 100000 in
theorem c_M_pass (l : Launch) (D : va_G) (q : Nat → Nat) (cA : Nat → ClassId) (x1 : Int32) (x2 : Int32) (z : Sta) (sz : Nat) (K : Sta → Prop) (h : wp_M_pass x1 x2 z K) : Met l ke_M_pass (kc_M_pass :: lw_g) { frames := 2, cells := 0, slots := 0, locals := 47 } (wk_Pc D q cA [.ref (q 4), .int x1, .int x2] z sz) (va_Qv K (wk_B D q cA (va_A (wW q cA z) sz)) (va_A (wW q cA z) sz)) 0 0 (va_A (wW q cA z) sz) := by
  refine Met.ofW (cc := prog_6_method_32_code) (maxL := 9) (ret := none) (by decide) rfl ?_
  intro p e s m args below meth c s₁ B hml hv
  obtain ⟨rfl, hsz, hP, hK, hD0⟩ := hv
  have hx := B.exec
  have hb := B.bytes
  have hr := B.returns
  have hlocks := B.notSynchronized
  have hts0 := atoms_spec (ws := kc_M_pass :: lw_g) B.pre
  have hts : ∀ w ∈ lw_g, w.before ([.ref (q 4), .int x1, .int x2] : List Value).toArray s = true := fun w hw => hts0 w (List.mem_cons_of_mem _ hw)
  have hown : s.vm.findClass kr_M = some m.cls := findClass_of_methodNamed B.named
  subst hsz
  have hD := hD0.self (sz := s.heap.size)
  generalize hAe : va_A (wW q cA z) s.heap.size = A at hD ⊢
  have hA : ∀ x : Nat, s.heap.size ≤ x → A x := fun x hx => by rw [← hAe]; exact Or.inr hx
  have hl := lv_entry ([.ref (q 4), .int x1, .int x2]) (n := 9) (Nat.le_of_ble_eq_true rfl)
  rw [lg_entry_eq]
  generalize (lg_sl ([.ref (q 4), .int x1, .int x2]) ++ List.replicate (9 - (lg_sl ([.ref (q 4), .int x1, .int x2])).length) Slot.unset).toArray = ls at hl ⊢
  have hl : lv_has ls 9 [(0, .ref (q 4)), (1, .int x1), (2, .int x2)] := hl
  exact w_M_pass hx hb hml hown hts (Nat.le_refl _) (Nat.le_refl _) (Nat.zero_le _) (Nat.zero_le _) hA hK x1 x2 z K h (fun u H locs pc ls hk hV hd => W.vret hx hb hr (fun t ht hW => ⟨⟨u, rfl, hk, by rw [ht]; exact hV.1, va_K.moved hW.alike hK, hV.2.1⟩, hV.2.2.F ht⟩) hV.2.2.2.2 hd) ⟨hP, hD, va_S.rf⟩ hl
section
variable {p : Program} {l : Launch} {e : Env} {R : Room} {s : State} {m : MethodId} {args : Array Value} {below : List Frame} {meth : Method} {c : Code} {Q : State → Prop} {ce sl : Nat} {D : va_G} {q : Nat → Nat} {cA : Nat → ClassId} {A : Nat → Prop}
set_option maxHeartbeats 4000000 in
set_option maxRecDepth 100000 in
theorem w_M_run (hx : p.tables.exec = Jvm.exec) (hb : c.code = prog_6_method_33_code) (hml : c.maxLocals = 8) (hown : s.vm.findClass kr_M = some m.cls) (hts : ∀ w ∈ lw_g, w.before args s = true) (hRf : 3 ≤ R.frames) (hRl : 75 ≤ R.locals) (hce : ce ≤ R.cells) (hsl : sl ≤ R.slots) (hA : ∀ x, s.heap.size ≤ x → A x) (hK : va_K D wk_cl (tysW cA) s) (x1 : Int32) (x2 : Int32) (x3 : Int32) (x4 : Int32) (z : Sta) (K : Int32 → Sta → Prop) (h : wp_M_run x1 x2 x3 x4 z K) (hret : ∀ (r : Int32) (u : Sta) (H : Heap) (locs : List Loc) (pc : Nat) (ls : Array Slot), K r u → wk_S D q cA A s.heap u H locs → decode prog_6_method_33_code pc = .ok (.ireturn, 1) → W p l e R s m args below meth c H locs ce sl Q (F0 m pc ls [.int r])) {H : Heap} {locs : List Loc} {ls : Array Slot} (hV : wk_S D q cA A s.heap z H locs) (hl : lv_has ls 8 [(0, .ref (q 4)), (1, .int x1), (2, .int x2), (3, .int x3), (4, .int x4)]) : W p l e R s m args below meth c H locs ce sl Q (F0 m 0 ls []) := by
  have L138 : ∀ (n : Nat) (x1 : Int32) (x5 : Int32) (z : Sta) (H : Heap) (locs : List Loc) (ls : Array Slot), wk_S D q cA A s.heap z H locs → lv_has ls 8 [(0, .ref (q 4)), (1, .int x1), (5, .int x5)] → lp_M_run_138 K n x1 x5 z → W p l e R s m args below meth c H locs ce sl Q (F0 m 138 ls []) := by
    intro n138
    induction n138 with
    | zero => intro x1 x5 z H locs ls hV hl h; rw [lp_M_run_138] at h; exact h.elim
    | succ n138 ih138 =>
      have J268 : ∀ (x1 : Int32) (x7 : Int32) (z : Sta) (H : Heap) (locs : List Loc) (ls : Array Slot), wk_S D q cA A s.heap z H locs → lv_has ls 8 [(0, .ref (q 4)), (1, .int x1), (7, .int x7)] → pj_M_run_268 K (fun x1 x5 z => lp_M_run_138 K n138 x1 x5 z) x1 x7 z → W p l e R s m args below meth c H locs ce sl Q (F0 m 268 ls []) := by
        intro x1 x7 z H locs ls hV hl h
        unfold pj_M_run_268 at h
        refine lv_iload hx hb kd_prog_6_method_33_code_268 (lv_at hl 2 rfl) ?_
        refine lv_istore hx hb kd_prog_6_method_33_code_270 hl (by decide) rfl (fun ls hl => ?_)
        have hl : lv_has ls 8 [(5, .int x7), (0, .ref (q 4)), (1, .int x1), (7, .int x7)] := hl
        refine lv_goto (tgt := 138) hx hb kd_prog_6_method_33_code_272 (by decide) ?_
        exact ih138 x1 x7 z H locs ls hV (lv_sub hl [1, 2, 0] rfl) h
      have J240 : ∀ (x1 : Int32) (x5 : Int32) (y0 : Int32) (z : Sta) (H : Heap) (locs : List Loc) (ls : Array Slot), wk_S D q cA A s.heap z H locs → lv_has ls 8 [(0, .ref (q 4)), (1, .int x1), (5, .int x5)] → pj_M_run_240 K (fun x1 x5 z => lp_M_run_138 K n138 x1 x5 z) x1 x5 y0 z → W p l e R s m args below meth c H locs ce sl Q (F0 m 240 ls [.int y0]) := by
        intro x1 x5 y0 z H locs ls hV hl h
        unfold pj_M_run_240 at h
        refine lv_istore hx hb kd_prog_6_method_33_code_240 hl (by decide) rfl (fun ls hl => ?_)
        have hl : lv_has ls 8 [(7, .int y0), (0, .ref (q 4)), (1, .int x1), (5, .int x5)] := hl
        refine lv_iload_n hx hb kd_prog_6_method_33_code_242 rfl (lv_at hl 2 rfl) ?_
        refine lv_if_eq (tgt := 268) hx hb kd_prog_6_method_33_code_243 (by decide) (fun hc => ?_) (fun hc => ?_)
        · have h := h.1 hc
          exact J268 x1 y0 z H locs ls hV (lv_sub hl [1, 2, 0] rfl) h
        · have h := h.2 hc
          refine lv_iload hx hb kd_prog_6_method_33_code_246 (lv_at hl 0 rfl) ?_
          refine lv_if_lt (tgt := 268) hx hb kd_prog_6_method_33_code_248 (by decide) (fun hc => ?_) (fun hc => ?_)
          · have h := h.1 hc
            exact J268 x1 y0 z H locs ls hV (lv_sub hl [1, 2, 0] rfl) h
          · have h := h.2 hc
            refine lv_aload_n hx hb kd_prog_6_method_33_code_251 rfl (lv_at hl 1 rfl) ?_
            refine lv_aload_n hx hb kd_prog_6_method_33_code_252 rfl (lv_at hl 1 rfl) ?_
            refine va_get (D := D) (ci := 4) (v := .ref (q 38)) (C := kr_M) (T := kt_M) (N := kn_M) hx hb hts ki_M hown hK hV.1 4 rfl rfl 14 (by decide) (hts _ hw_596) (fun _ h9 => h9) rfl kd_prog_6_method_33_code_253 ?_
            refine lv_bipush (v := 16) hx hb kd_prog_6_method_33_code_256 (by decide) ?_
            refine lv_iload hx hb kd_prog_6_method_33_code_258 (lv_at hl 3 rfl) ?_
            refine lv_imul hx hb kd_prog_6_method_33_code_260 ?_
            refine lv_topi (fun v29 ev29 => ?_)
            have h := h v29 ev29
            refine lv_iload hx hb kd_prog_6_method_33_code_261 (lv_at hl 0 rfl) ?_
            refine lv_iadd hx hb kd_prog_6_method_33_code_263 ?_
            refine lv_topi (fun v30 ev30 => ?_)
            have h := h v30 ev30
            obtain ⟨hin, h⟩ := h
            refine va_iald hx hb hK hV.1 38 33 rfl rfl hin kd_prog_6_method_33_code_264 ?_
            refine lv_topi (fun v31 ev31 => ?_)
            have h := h v31 ev31
            refine wk_callv (va_runV (As := [.int v31]) (rest := []) ⟨hx, hb, hml, hown, hts⟩ (c_M_cross l D q cA v31 z H.size _ h) (cwV 1 hts gs_M_175 rfl rfl rfl (by decide +kernel) ⟨Nat.le_trans (by decide) hRf, Nat.le_trans (by decide) hRl⟩) (wk_preV hK hV 4 4 rfl rfl [.int v31]) rfl rfl hl.1 rfl (lv_room (Nat.le_of_ble_eq_true rfl)) kd_prog_6_method_33_code_265 ⟨hce, hsl⟩) hV hA (fun z32 H locs h hV => ?_)
            exact J268 x1 y0 z32 H locs ls hV (lv_sub hl [1, 2, 0] rfl) h
      have J215 : ∀ (x1 : Int32) (x5 : Int32) (z : Sta) (H : Heap) (locs : List Loc) (ls : Array Slot), wk_S D q cA A s.heap z H locs → lv_has ls 8 [(0, .ref (q 4)), (1, .int x1), (5, .int x5)] → pj_M_run_215 K (fun x1 x5 z => lp_M_run_138 K n138 x1 x5 z) x1 x5 z → W p l e R s m args below meth c H locs ce sl Q (F0 m 215 ls []) := by
        intro x1 x5 z H locs ls hV hl h
        unfold pj_M_run_215 at h
        refine lv_aload_n hx hb kd_prog_6_method_33_code_215 rfl (lv_at hl 0 rfl) ?_
        refine va_get (D := D) (ci := 4) (v := .ref (q 32)) (C := kr_M) (T := kt_M) (N := kn_M) hx hb hts ki_M hown hK hV.1 4 rfl rfl 4 (by decide) (hts _ hw_586) (fun _ h9 => h9) rfl kd_prog_6_method_33_code_216 ?_
        refine lv_iconst (v := 4) hx hb kd_prog_6_method_33_code_219 (by decide) ?_
        refine lv_iload hx hb kd_prog_6_method_33_code_220 (lv_at hl 2 rfl) ?_
        refine lv_imul hx hb kd_prog_6_method_33_code_222 ?_
        refine lv_topi (fun v33 ev33 => ?_)
        have h := h v33 ev33
        refine lv_iconst (v := 2) hx hb kd_prog_6_method_33_code_223 (by decide) ?_
        refine lv_iadd hx hb kd_prog_6_method_33_code_224 ?_
        refine lv_topi (fun v34 ev34 => ?_)
        have h := h v34 ev34
        obtain ⟨hin, h⟩ := h
        refine va_iald hx hb hK hV.1 32 27 rfl rfl hin kd_prog_6_method_33_code_225 ?_
        refine lv_topi (fun v35 ev35 => ?_)
        have h := h v35 ev35
        refine lv_goto (tgt := 240) hx hb kd_prog_6_method_33_code_226 (by decide) ?_
        exact J240 x1 x5 v35 z H locs ls hV (lv_sub hl [0, 1, 2] rfl) h
      have J186 : ∀ (x1 : Int32) (x5 : Int32) (z : Sta) (H : Heap) (locs : List Loc) (ls : Array Slot), wk_S D q cA A s.heap z H locs → lv_has ls 8 [(0, .ref (q 4)), (1, .int x1), (5, .int x5)] → pj_M_run_186 K (fun x1 x5 z => lp_M_run_138 K n138 x1 x5 z) x1 x5 z → W p l e R s m args below meth c H locs ce sl Q (F0 m 186 ls []) := by
        intro x1 x5 z H locs ls hV hl h
        unfold pj_M_run_186 at h
        refine lv_iconst (v := (-1)) hx hb kd_prog_6_method_33_code_186 (by decide) ?_
        refine lv_goto (tgt := 240) hx hb kd_prog_6_method_33_code_187 (by decide) ?_
        exact J240 x1 x5 (-1) z H locs ls hV (lv_sub hl [0, 1, 2] rfl) h
      intro x1 x5 z H locs ls hV hl h
      rw [lp_M_run_138] at h
      refine lv_iload hx hb kd_prog_6_method_33_code_138 (lv_at hl 2 rfl) ?_
      refine lv_if_lt (tgt := 275) hx hb kd_prog_6_method_33_code_140 (by decide) (fun hc => ?_) (fun hc => ?_)
      · have h := h.1 hc
        refine lv_aload_n hx hb kd_prog_6_method_33_code_275 rfl (lv_at hl 0 rfl) ?_
        refine va_get (D := D) (ci := 4) (v := .int (z.1 15)) (C := kr_M) (T := kt_M) (N := kn_M) hx hb hts ki_M hown hK hV.1 4 rfl rfl 28 (by decide) (hts _ hw_610) (fun _ h9 => h9) rfl kd_prog_6_method_33_code_276 ?_
        refine lv_topi (fun v14 ev14 => ?_)
        have h := h v14 ev14
        exact hret v14 z H locs 279 ls h hV kd_prog_6_method_33_code_279
      · have h := h.2 hc
        refine lv_aload_n hx hb kd_prog_6_method_33_code_143 rfl (lv_at hl 0 rfl) ?_
        refine lv_iload hx hb kd_prog_6_method_33_code_144 (lv_at hl 2 rfl) ?_
        refine lv_iload_n hx hb kd_prog_6_method_33_code_146 rfl (lv_at hl 1 rfl) ?_
        refine wk_callv (va_runV (As := [.int x5, .int x1]) (rest := []) ⟨hx, hb, hml, hown, hts⟩ (c_M_pass l D q cA x5 x1 z H.size _ h) (cwV 2 hts gs_M_178 rfl rfl rfl (by decide +kernel) ⟨Nat.le_trans (by decide) hRf, Nat.le_trans (by decide) hRl⟩) (wk_preV hK hV 4 4 rfl rfl [.int x5, .int x1]) rfl rfl hl.1 rfl (lv_room (Nat.le_of_ble_eq_true rfl)) kd_prog_6_method_33_code_147 ⟨hce, hsl⟩) hV hA (fun z15 H locs h hV => ?_)
        refine lv_aload_n hx hb kd_prog_6_method_33_code_150 rfl (lv_at hl 0 rfl) ?_
        refine lv_dup hx hb kd_prog_6_method_33_code_151 rfl ?_
        refine va_get (D := D) (ci := 4) (v := .int (z15.1 14)) (C := kr_M) (T := kt_M) (N := kn_M) hx hb hts ki_M hown hK hV.1 4 rfl rfl 27 (by decide) (hts _ hw_609) (fun _ h9 => h9) rfl kd_prog_6_method_33_code_152 ?_
        refine lv_topi (fun v16 ev16 => ?_)
        have h := h v16 ev16
        refine lv_iconst (v := 1) hx hb kd_prog_6_method_33_code_155 (by decide) ?_
        refine lv_iadd hx hb kd_prog_6_method_33_code_156 ?_
        refine lv_topi (fun v17 ev17 => ?_)
        have h := h v17 ev17
        refine wk_put (D := D) (ci := 4) (v := .int v17) (ty := .int) (C := kr_M) (T := kt_M) (N := kn_M) (z1 := zI z15 14 v17) hx hb hts ki_M ky_M ko_M km_M hown hK hV 4 rfl rfl 27 (by decide) (hts _ hw_609) (fun _ h9 => h9) rfl (by decide +kernel) rfl rfl (Nat.le_of_ble_eq_true rfl) rfl kd_prog_6_method_33_code_157 (fun H locs hV => ?_)
        obtain ⟨z18, ez18⟩ : ∃ x : Sta, x = zI z15 14 v17 := ⟨_, rfl⟩
        rw [← ez18] at hV
        have h := h z18 ez18
        refine lv_aload_n hx hb kd_prog_6_method_33_code_160 rfl (lv_at hl 0 rfl) ?_
        refine va_get (D := D) (ci := 4) (v := .ref (q 32)) (C := kr_M) (T := kt_M) (N := kn_M) hx hb hts ki_M hown hK hV.1 4 rfl rfl 4 (by decide) (hts _ hw_586) (fun _ h9 => h9) rfl kd_prog_6_method_33_code_161 ?_
        refine lv_iconst (v := 4) hx hb kd_prog_6_method_33_code_164 (by decide) ?_
        refine lv_iload hx hb kd_prog_6_method_33_code_165 (lv_at hl 2 rfl) ?_
        refine lv_imul hx hb kd_prog_6_method_33_code_167 ?_
        refine lv_topi (fun v19 ev19 => ?_)
        have h := h v19 ev19
        obtain ⟨hin, h⟩ := h
        refine va_iald hx hb hK hV.1 32 27 rfl rfl hin kd_prog_6_method_33_code_168 ?_
        refine lv_topi (fun v20 ev20 => ?_)
        have h := h v20 ev20
        refine lv_istore hx hb kd_prog_6_method_33_code_169 hl (by decide) rfl (fun ls hl => ?_)
        have hl : lv_has ls 8 [(6, .int v20), (0, .ref (q 4)), (1, .int x1), (5, .int x5)] := hl
        refine lv_iload hx hb kd_prog_6_method_33_code_171 (lv_at hl 0 rfl) ?_
        refine lv_if_eq (tgt := 186) hx hb kd_prog_6_method_33_code_173 (by decide) (fun hc => ?_) (fun hc => ?_)
        · have h := h.1 hc
          exact J186 x1 x5 z18 H locs ls hV (lv_sub hl [1, 2, 3] rfl) h
        · have h := h.2 hc
          refine lv_aload_n hx hb kd_prog_6_method_33_code_176 rfl (lv_at hl 1 rfl) ?_
          refine va_get (D := D) (ci := 4) (v := .int (z18.1 14)) (C := kr_M) (T := kt_M) (N := kn_M) hx hb hts ki_M hown hK hV.1 4 rfl rfl 27 (by decide) (hts _ hw_609) (fun _ h9 => h9) rfl kd_prog_6_method_33_code_177 ?_
          refine lv_topi (fun v21 ev21 => ?_)
          have h := h v21 ev21
          refine lv_sipush (v := 200) hx hb kd_prog_6_method_33_code_180 (by decide) ?_
          refine lv_icmp_ne (tgt := 190) hx hb kd_prog_6_method_33_code_183 (by decide) (fun hc => ?_) (fun hc => ?_)
          · have h := h.1 hc
            refine lv_iload hx hb kd_prog_6_method_33_code_190 (lv_at hl 0 rfl) ?_
            refine lv_iconst (v := 1) hx hb kd_prog_6_method_33_code_192 (by decide) ?_
            refine lv_icmp_eq (tgt := 215) hx hb kd_prog_6_method_33_code_193 (by decide) (fun hc => ?_) (fun hc => ?_)
            · have h := h.1 hc
              exact J215 x1 x5 z18 H locs ls hV (lv_sub hl [1, 2, 3] rfl) h
            · have h := h.2 hc
              refine lv_aload_n hx hb kd_prog_6_method_33_code_196 rfl (lv_at hl 1 rfl) ?_
              refine va_get (D := D) (ci := 4) (v := .ref (q 47)) (C := kr_M) (T := kt_M) (N := kn_M) hx hb hts ki_M hown hK hV.1 4 rfl rfl 23 (by decide) (hts _ hw_605) (fun _ h9 => h9) rfl kd_prog_6_method_33_code_197 ?_
              refine lv_aload_n hx hb kd_prog_6_method_33_code_200 rfl (lv_at hl 1 rfl) ?_
              refine va_get (D := D) (ci := 4) (v := .ref (q 32)) (C := kr_M) (T := kt_M) (N := kn_M) hx hb hts ki_M hown hK hV.1 4 rfl rfl 4 (by decide) (hts _ hw_586) (fun _ h9 => h9) rfl kd_prog_6_method_33_code_201 ?_
              refine lv_iconst (v := 4) hx hb kd_prog_6_method_33_code_204 (by decide) ?_
              refine lv_iload hx hb kd_prog_6_method_33_code_205 (lv_at hl 3 rfl) ?_
              refine lv_imul hx hb kd_prog_6_method_33_code_207 ?_
              refine lv_topi (fun v22 ev22 => ?_)
              have h := h v22 ev22
              refine lv_iconst (v := 1) hx hb kd_prog_6_method_33_code_208 (by decide) ?_
              refine lv_iadd hx hb kd_prog_6_method_33_code_209 ?_
              refine lv_topi (fun v23 ev23 => ?_)
              have h := h v23 ev23
              obtain ⟨hin, h⟩ := h
              refine va_iald hx hb hK hV.1 32 27 rfl rfl hin kd_prog_6_method_33_code_210 ?_
              refine lv_topi (fun v24 ev24 => ?_)
              have h := h v24 ev24
              obtain ⟨hin, h⟩ := h
              refine va_iald hx hb hK hV.1 47 42 rfl rfl hin kd_prog_6_method_33_code_211 ?_
              refine lv_topi (fun v25 ev25 => ?_)
              have h := h v25 ev25
              refine lv_if_eq (tgt := 229) hx hb kd_prog_6_method_33_code_212 (by decide) (fun hc => ?_) (fun hc => ?_)
              · have h := h.1 hc
                refine lv_aload_n hx hb kd_prog_6_method_33_code_229 rfl (lv_at hl 1 rfl) ?_
                refine va_get (D := D) (ci := 4) (v := .ref (q 32)) (C := kr_M) (T := kt_M) (N := kn_M) hx hb hts ki_M hown hK hV.1 4 rfl rfl 4 (by decide) (hts _ hw_586) (fun _ h9 => h9) rfl kd_prog_6_method_33_code_230 ?_
                refine lv_iconst (v := 4) hx hb kd_prog_6_method_33_code_233 (by decide) ?_
                refine lv_iload hx hb kd_prog_6_method_33_code_234 (lv_at hl 3 rfl) ?_
                refine lv_imul hx hb kd_prog_6_method_33_code_236 ?_
                refine lv_topi (fun v26 ev26 => ?_)
                have h := h v26 ev26
                refine lv_iconst (v := 3) hx hb kd_prog_6_method_33_code_237 (by decide) ?_
                refine lv_iadd hx hb kd_prog_6_method_33_code_238 ?_
                refine lv_topi (fun v27 ev27 => ?_)
                have h := h v27 ev27
                obtain ⟨hin, h⟩ := h
                refine va_iald hx hb hK hV.1 32 27 rfl rfl hin kd_prog_6_method_33_code_239 ?_
                refine lv_topi (fun v28 ev28 => ?_)
                have h := h v28 ev28
                exact J240 x1 x5 v28 z18 H locs ls hV (lv_sub hl [1, 2, 3] rfl) h
              · have h := h.2 hc
                exact J215 x1 x5 z18 H locs ls hV (lv_sub hl [1, 2, 3] rfl) h
          · have h := h.2 hc
            exact J186 x1 x5 z18 H locs ls hV (lv_sub hl [1, 2, 3] rfl) h
  have L75 : ∀ (n : Nat) (x1 : Int32) (x5 : Int32) (z : Sta) (H : Heap) (locs : List Loc) (ls : Array Slot), wk_S D q cA A s.heap z H locs → lv_has ls 8 [(0, .ref (q 4)), (1, .int x1), (5, .int x5)] → lp_M_run_75 K n x1 x5 z → W p l e R s m args below meth c H locs ce sl Q (F0 m 75 ls []) := by
    intro n75
    induction n75 with
    | zero => intro x1 x5 z H locs ls hV hl h; rw [lp_M_run_75] at h; exact h.elim
    | succ n75 ih75 =>
      intro x1 x5 z H locs ls hV hl h
      rw [lp_M_run_75] at h
      refine lv_iload hx hb kd_prog_6_method_33_code_75 (lv_at hl 2 rfl) ?_
      refine lv_bipush (v := 24) hx hb kd_prog_6_method_33_code_77 (by decide) ?_
      refine lv_icmp_ge (tgt := 104) hx hb kd_prog_6_method_33_code_79 (by decide) (fun hc => ?_) (fun hc => ?_)
      · have h := h.1 hc
        refine lv_aload_n hx hb kd_prog_6_method_33_code_104 rfl (lv_at hl 0 rfl) ?_
        refine lv_iconst (v := 0) hx hb kd_prog_6_method_33_code_105 (by decide) ?_
        refine wk_put (D := D) (ci := 4) (v := .int (0 : Int32)) (ty := .int) (C := kr_M) (T := kt_M) (N := kn_M) (z1 := zI z 13 (0 : Int32)) hx hb hts ki_M ky_M ko_M km_M hown hK hV 4 rfl rfl 26 (by decide) (hts _ hw_608) (fun _ h9 => h9) rfl (by decide +kernel) rfl rfl (Nat.le_of_ble_eq_true rfl) rfl kd_prog_6_method_33_code_106 (fun H locs hV => ?_)
        obtain ⟨z6, ez6⟩ : ∃ x : Sta, x = zI z 13 (0 : Int32) := ⟨_, rfl⟩
        rw [← ez6] at hV
        have h := h z6 ez6
        refine lv_aload_n hx hb kd_prog_6_method_33_code_109 rfl (lv_at hl 0 rfl) ?_
        refine lv_iconst (v := 0) hx hb kd_prog_6_method_33_code_110 (by decide) ?_
        refine wk_put (D := D) (ci := 4) (v := .int (0 : Int32)) (ty := .int) (C := kr_M) (T := kt_M) (N := kn_M) (z1 := zI z6 14 (0 : Int32)) hx hb hts ki_M ky_M ko_M km_M hown hK hV 4 rfl rfl 27 (by decide) (hts _ hw_609) (fun _ h9 => h9) rfl (by decide +kernel) rfl rfl (Nat.le_of_ble_eq_true rfl) rfl kd_prog_6_method_33_code_111 (fun H locs hV => ?_)
        obtain ⟨z7, ez7⟩ : ∃ x : Sta, x = zI z6 14 (0 : Int32) := ⟨_, rfl⟩
        rw [← ez7] at hV
        have h := h z7 ez7
        refine lv_aload_n hx hb kd_prog_6_method_33_code_114 rfl (lv_at hl 0 rfl) ?_
        refine lv_iconst (v := 0) hx hb kd_prog_6_method_33_code_115 (by decide) ?_
        refine wk_put (D := D) (ci := 4) (v := .int (0 : Int32)) (ty := .int) (C := kr_M) (T := kt_M) (N := kn_M) (z1 := zI z7 15 (0 : Int32)) hx hb hts ki_M ky_M ko_M km_M hown hK hV 4 rfl rfl 28 (by decide) (hts _ hw_610) (fun _ h9 => h9) rfl (by decide +kernel) rfl rfl (Nat.le_of_ble_eq_true rfl) rfl kd_prog_6_method_33_code_116 (fun H locs hV => ?_)
        obtain ⟨z8, ez8⟩ : ∃ x : Sta, x = zI z7 15 (0 : Int32) := ⟨_, rfl⟩
        rw [← ez8] at hV
        have h := h z8 ez8
        refine lv_iconst (v := 0) hx hb kd_prog_6_method_33_code_119 (by decide) ?_
        refine lv_istore hx hb kd_prog_6_method_33_code_120 hl (by decide) rfl (fun ls hl => ?_)
        have hl : lv_has ls 8 [(5, .int 0), (0, .ref (q 4)), (1, .int x1)] := hl
        refine lv_iload_n hx hb kd_prog_6_method_33_code_122 rfl (lv_at hl 2 rfl) ?_
        refine lv_if_eq (tgt := 138) hx hb kd_prog_6_method_33_code_123 (by decide) (fun hc => ?_) (fun hc => ?_)
        · have h := h.1 hc
          obtain ⟨n138, h⟩ := h
          exact L138 n138 x1 0 z8 H locs ls hV (lv_sub hl [1, 2, 0] rfl) h
        · have h := h.2 hc
          refine lv_aload_n hx hb kd_prog_6_method_33_code_126 rfl (lv_at hl 1 rfl) ?_
          refine lv_aload_n hx hb kd_prog_6_method_33_code_127 rfl (lv_at hl 1 rfl) ?_
          refine va_get (D := D) (ci := 4) (v := .ref (q 38)) (C := kr_M) (T := kt_M) (N := kn_M) hx hb hts ki_M hown hK hV.1 4 rfl rfl 14 (by decide) (hts _ hw_596) (fun _ h9 => h9) rfl kd_prog_6_method_33_code_128 ?_
          refine lv_sipush (v := 256) hx hb kd_prog_6_method_33_code_131 (by decide) ?_
          obtain ⟨hin, h⟩ := h
          refine va_iald hx hb hK hV.1 38 33 rfl rfl hin kd_prog_6_method_33_code_134 ?_
          refine lv_topi (fun v9 ev9 => ?_)
          have h := h v9 ev9
          refine wk_callv (va_runV (As := [.int v9]) (rest := []) ⟨hx, hb, hml, hown, hts⟩ (c_M_cross l D q cA v9 z8 H.size _ h) (cwV 1 hts gs_M_175 rfl rfl rfl (by decide +kernel) ⟨Nat.le_trans (by decide) hRf, Nat.le_trans (by decide) hRl⟩) (wk_preV hK hV 4 4 rfl rfl [.int v9]) rfl rfl hl.1 rfl (lv_room (Nat.le_of_ble_eq_true rfl)) kd_prog_6_method_33_code_135 ⟨hce, hsl⟩) hV hA (fun z10 H locs h hV => ?_)
          obtain ⟨n138, h⟩ := h
          exact L138 n138 x1 0 z10 H locs ls hV (lv_sub hl [1, 2, 0] rfl) h
      · have h := h.2 hc
        refine lv_aload_n hx hb kd_prog_6_method_33_code_82 rfl (lv_at hl 0 rfl) ?_
        refine va_get (D := D) (ci := 4) (v := .ref (q 48)) (C := kr_M) (T := kt_M) (N := kn_M) hx hb hts ki_M hown hK hV.1 4 rfl rfl 24 (by decide) (hts _ hw_606) (fun _ h9 => h9) rfl kd_prog_6_method_33_code_83 ?_
        refine lv_iload hx hb kd_prog_6_method_33_code_86 (lv_at hl 2 rfl) ?_
        refine lv_iconst (v := 0) hx hb kd_prog_6_method_33_code_88 (by decide) ?_
        obtain ⟨hin, h⟩ := h
        refine wk_iast hx hb hK hV 48 43 33 rfl rfl (ks_48 q cA z) hin kd_prog_6_method_33_code_89 (fun H locs hV => ?_)
        obtain ⟨z11, ez11⟩ : ∃ x : Sta, x = zA z 33 (upd (z.2.1 33) x5.toNatClampNeg (0 : Int32)) := ⟨_, rfl⟩
        rw [← ez11] at hV
        have h := h z11 ez11
        refine lv_aload_n hx hb kd_prog_6_method_33_code_90 rfl (lv_at hl 0 rfl) ?_
        refine va_get (D := D) (ci := 4) (v := .ref (q 49)) (C := kr_M) (T := kt_M) (N := kn_M) hx hb hts ki_M hown hK hV.1 4 rfl rfl 25 (by decide) (hts _ hw_607) (fun _ h9 => h9) rfl kd_prog_6_method_33_code_91 ?_
        refine lv_iload hx hb kd_prog_6_method_33_code_94 (lv_at hl 2 rfl) ?_
        refine lv_iconst (v := 0) hx hb kd_prog_6_method_33_code_96 (by decide) ?_
        obtain ⟨hin, h⟩ := h
        refine wk_iast hx hb hK hV 49 44 34 rfl rfl (ks_49 q cA z11) hin kd_prog_6_method_33_code_97 (fun H locs hV => ?_)
        obtain ⟨z12, ez12⟩ : ∃ x : Sta, x = zA z11 34 (upd (z11.2.1 34) x5.toNatClampNeg (0 : Int32)) := ⟨_, rfl⟩
        rw [← ez12] at hV
        have h := h z12 ez12
        obtain ⟨v13, ev13⟩ : ∃ v : Int32, v = x5 + 1 := ⟨_, rfl⟩
        have h := h v13 ev13
        refine lv_iinc (v := v13) (k := 2) hx hb kd_prog_6_method_33_code_98 hl rfl (by rw [ev13]; rfl) (by decide) rfl (fun ls hl => ?_)
        have hl : lv_has ls 8 [(5, .int v13), (0, .ref (q 4)), (1, .int x1)] := hl
        refine lv_goto (tgt := 75) hx hb kd_prog_6_method_33_code_101 (by decide) ?_
        exact ih75 x1 v13 z12 H locs ls hV (lv_sub hl [1, 2, 0] rfl) h
  have L21 : ∀ (n : Nat) (x1 : Int32) (x2 : Int32) (x3 : Int32) (x4 : Int32) (x5 : Int32) (z : Sta) (H : Heap) (locs : List Loc) (ls : Array Slot), wk_S D q cA A s.heap z H locs → lv_has ls 8 [(0, .ref (q 4)), (1, .int x1), (2, .int x2), (3, .int x3), (4, .int x4), (5, .int x5)] → lp_M_run_21 K n x1 x2 x3 x4 x5 z → W p l e R s m args below meth c H locs ce sl Q (F0 m 21 ls []) := by
    intro n21
    induction n21 with
    | zero => intro x1 x2 x3 x4 x5 z H locs ls hV hl h; rw [lp_M_run_21] at h; exact h.elim
    | succ n21 ih21 =>
      have J65 : ∀ (x1 : Int32) (x2 : Int32) (x3 : Int32) (x4 : Int32) (x5 : Int32) (y0 : Int32) (y1 : Int32) (z : Sta) (H : Heap) (locs : List Loc) (ls : Array Slot), wk_S D q cA A s.heap z H locs → lv_has ls 8 [(0, .ref (q 4)), (1, .int x1), (2, .int x2), (3, .int x3), (4, .int x4), (5, .int x5)] → pj_M_run_65 K (fun x1 x2 x3 x4 x5 z => lp_M_run_21 K n21 x1 x2 x3 x4 x5 z) x1 x2 x3 x4 x5 y0 y1 z → W p l e R s m args below meth c H locs ce sl Q (F0 m 65 ls [.int y0, .int y1, .ref (q 47)]) := by
        intro x1 x2 x3 x4 x5 y0 y1 z H locs ls hV hl h
        unfold pj_M_run_65 at h
        obtain ⟨hin, h⟩ := h
        refine wk_iast hx hb hK hV 47 42 32 rfl rfl (ks_47 q cA z) hin kd_prog_6_method_33_code_65 (fun H locs hV => ?_)
        obtain ⟨z4, ez4⟩ : ∃ x : Sta, x = zA z 32 (upd (z.2.1 32) y1.toNatClampNeg y0) := ⟨_, rfl⟩
        rw [← ez4] at hV
        have h := h z4 ez4
        obtain ⟨v5, ev5⟩ : ∃ v : Int32, v = x5 + 1 := ⟨_, rfl⟩
        have h := h v5 ev5
        refine lv_iinc (v := v5) (k := 5) hx hb kd_prog_6_method_33_code_66 hl rfl (by rw [ev5]; rfl) (by decide) rfl (fun ls hl => ?_)
        have hl : lv_has ls 8 [(5, .int v5), (0, .ref (q 4)), (1, .int x1), (2, .int x2), (3, .int x3), (4, .int x4)] := hl
        refine lv_goto (tgt := 21) hx hb kd_prog_6_method_33_code_69 (by decide) ?_
        exact ih21 x1 x2 x3 x4 v5 z4 H locs ls hV (lv_sub hl [1, 2, 3, 4, 5, 0] rfl) h
      intro x1 x2 x3 x4 x5 z H locs ls hV hl h
      rw [lp_M_run_21] at h
      refine lv_iload hx hb kd_prog_6_method_33_code_21 (lv_at hl 5 rfl) ?_
      refine lv_bipush (v := 6) hx hb kd_prog_6_method_33_code_23 (by decide) ?_
      refine lv_icmp_ge (tgt := 72) hx hb kd_prog_6_method_33_code_25 (by decide) (fun hc => ?_) (fun hc => ?_)
      · have h := h.1 hc
        refine lv_iconst (v := 0) hx hb kd_prog_6_method_33_code_72 (by decide) ?_
        refine lv_istore hx hb kd_prog_6_method_33_code_73 hl (by decide) rfl (fun ls hl => ?_)
        have hl : lv_has ls 8 [(5, .int 0), (0, .ref (q 4)), (1, .int x1), (2, .int x2), (3, .int x3), (4, .int x4)] := hl
        obtain ⟨n75, h⟩ := h
        exact L75 n75 x1 0 z H locs ls hV (lv_sub hl [1, 2, 0] rfl) h
      · have h := h.2 hc
        refine lv_aload_n hx hb kd_prog_6_method_33_code_28 rfl (lv_at hl 0 rfl) ?_
        refine va_get (D := D) (ci := 4) (v := .ref (q 47)) (C := kr_M) (T := kt_M) (N := kn_M) hx hb hts ki_M hown hK hV.1 4 rfl rfl 23 (by decide) (hts _ hw_605) (fun _ h9 => h9) rfl kd_prog_6_method_33_code_29 ?_
        refine lv_iload hx hb kd_prog_6_method_33_code_32 (lv_at hl 5 rfl) ?_
        refine lv_iload hx hb kd_prog_6_method_33_code_34 (lv_at hl 5 rfl) ?_
        refine lv_if_ne (tgt := 43) hx hb kd_prog_6_method_33_code_36 (by decide) (fun hc => ?_) (fun hc => ?_)
        · have h := h.1 hc
          refine lv_iload hx hb kd_prog_6_method_33_code_43 (lv_at hl 5 rfl) ?_
          refine lv_iconst (v := 1) hx hb kd_prog_6_method_33_code_45 (by decide) ?_
          refine lv_icmp_ne (tgt := 53) hx hb kd_prog_6_method_33_code_46 (by decide) (fun hc => ?_) (fun hc => ?_)
          · have h := h.1 hc
            refine lv_iload hx hb kd_prog_6_method_33_code_53 (lv_at hl 5 rfl) ?_
            refine lv_iconst (v := 2) hx hb kd_prog_6_method_33_code_55 (by decide) ?_
            refine lv_icmp_ne (tgt := 64) hx hb kd_prog_6_method_33_code_56 (by decide) (fun hc => ?_) (fun hc => ?_)
            · have h := h.1 hc
              refine lv_iconst (v := 0) hx hb kd_prog_6_method_33_code_64 (by decide) ?_
              exact J65 x1 x2 x3 x4 x5 0 x5 z H locs ls hV (lv_sub hl [0, 1, 2, 3, 4, 5] rfl) h
            · have h := h.2 hc
              refine lv_iload hx hb kd_prog_6_method_33_code_59 (lv_at hl 4 rfl) ?_
              refine lv_goto (tgt := 65) hx hb kd_prog_6_method_33_code_61 (by decide) ?_
              exact J65 x1 x2 x3 x4 x5 x4 x5 z H locs ls hV (lv_sub hl [0, 1, 2, 3, 4, 5] rfl) h
          · have h := h.2 hc
            refine lv_iload_n hx hb kd_prog_6_method_33_code_49 rfl (lv_at hl 3 rfl) ?_
            refine lv_goto (tgt := 65) hx hb kd_prog_6_method_33_code_50 (by decide) ?_
            exact J65 x1 x2 x3 x4 x5 x3 x5 z H locs ls hV (lv_sub hl [0, 1, 2, 3, 4, 5] rfl) h
        · have h := h.2 hc
          refine lv_iload_n hx hb kd_prog_6_method_33_code_39 rfl (lv_at hl 2 rfl) ?_
          refine lv_goto (tgt := 65) hx hb kd_prog_6_method_33_code_40 (by decide) ?_
          exact J65 x1 x2 x3 x4 x5 x2 x5 z H locs ls hV (lv_sub hl [0, 1, 2, 3, 4, 5] rfl) h
  unfold wp_M_run at h
  refine lv_aload_n hx hb kd_prog_6_method_33_code_0 rfl (lv_at hl 0 rfl) ?_
  refine lv_iconst (v := 0) hx hb kd_prog_6_method_33_code_1 (by decide) ?_
  refine wk_put (D := D) (ci := 4) (v := .int (0 : Int32)) (ty := .int) (C := kr_M) (T := kt_M) (N := kn_M) (z1 := zI z 7 (0 : Int32)) hx hb hts ki_M ky_M ko_M km_M hown hK hV 4 rfl rfl 0 (by decide) (hts _ hw_582) (fun _ h9 => h9) rfl (by decide +kernel) rfl rfl (Nat.le_of_ble_eq_true rfl) rfl kd_prog_6_method_33_code_2 (fun H locs hV => ?_)
  obtain ⟨z1, ez1⟩ : ∃ x : Sta, x = zI z 7 (0 : Int32) := ⟨_, rfl⟩
  rw [← ez1] at hV
  have h := h z1 ez1
  refine lv_aload_n hx hb kd_prog_6_method_33_code_5 rfl (lv_at hl 0 rfl) ?_
  refine va_get (D := D) (ci := 4) (v := .int (z1.1 10)) (C := kr_M) (T := kt_M) (N := kn_M) hx hb hts ki_M hown hK hV.1 4 rfl rfl 9 (by decide) (hts _ hw_591) (fun _ h9 => h9) rfl kd_prog_6_method_33_code_6 ?_
  refine lv_topi (fun v2 ev2 => ?_)
  have h := h v2 ev2
  refine lv_if_ne (tgt := 18) hx hb kd_prog_6_method_33_code_9 (by decide) (fun hc => ?_) (fun hc => ?_)
  · have h := h.1 hc
    refine lv_iconst (v := 0) hx hb kd_prog_6_method_33_code_18 (by decide) ?_
    refine lv_istore hx hb kd_prog_6_method_33_code_19 hl (by decide) rfl (fun ls hl => ?_)
    have hl : lv_has ls 8 [(5, .int 0), (0, .ref (q 4)), (1, .int x1), (2, .int x2), (3, .int x3), (4, .int x4)] := hl
    obtain ⟨n21, h⟩ := h
    exact L21 n21 x1 x2 x3 x4 0 z1 H locs ls hV (lv_sub hl [1, 2, 3, 4, 5, 0] rfl) h
  · have h := h.2 hc
    refine lv_aload_n hx hb kd_prog_6_method_33_code_12 rfl (lv_at hl 0 rfl) ?_
    refine lv_iconst (v := 1) hx hb kd_prog_6_method_33_code_13 (by decide) ?_
    refine wk_calli (va_runV (As := [.int (1 : Int32)]) (rest := []) ⟨hx, hb, hml, hown, hts⟩ (c_M_fail l D q cA 1 z1 H.size _ h) (cwV 1 hts gs_M_81 rfl rfl rfl (by decide +kernel) ⟨Nat.le_trans (by decide) hRf, Nat.le_trans (by decide) hRl⟩) (wk_preV hK hV 4 4 rfl rfl [.int (1 : Int32)]) rfl rfl hl.1 rfl (lv_room (Nat.le_of_ble_eq_true rfl)) kd_prog_6_method_33_code_14 ⟨hce, hsl⟩) hV hA (fun rz3 z3 H locs h hV => ?_)
    exact hret rz3 z3 H locs 17 ls h hV kd_prog_6_method_33_code_17
end
set_option maxHeartbeats 4000000 in
set_option maxRecDepth 100000 in
theorem c_M_run (l : Launch) (D : va_G) (q : Nat → Nat) (cA : Nat → ClassId) (x1 : Int32) (x2 : Int32) (x3 : Int32) (x4 : Int32) (z : Sta) (sz : Nat) (K : Int32 → Sta → Prop) (h : wp_M_run x1 x2 x3 x4 z K) : Met l ke_M_run (kc_M_run :: lw_g) { frames := 3, cells := 0, slots := 0, locals := 75 } (wk_Pc D q cA [.ref (q 4), .int x1, .int x2, .int x3, .int x4] z sz) (va_Qi K (wk_B D q cA (va_A (wW q cA z) sz)) (va_A (wW q cA z) sz)) 0 0 (va_A (wW q cA z) sz) := by
  refine Met.ofW (cc := prog_6_method_33_code) (maxL := 8) (ret := (some .int)) (by decide) rfl ?_
  intro p e s m args below meth c s₁ B hml hv
  obtain ⟨rfl, hsz, hP, hK, hD0⟩ := hv
  have hx := B.exec
  have hb := B.bytes
  have hr := B.returns
  have hlocks := B.notSynchronized
  have hts0 := atoms_spec (ws := kc_M_run :: lw_g) B.pre
  have hts : ∀ w ∈ lw_g, w.before ([.ref (q 4), .int x1, .int x2, .int x3, .int x4] : List Value).toArray s = true := fun w hw => hts0 w (List.mem_cons_of_mem _ hw)
  have hown : s.vm.findClass kr_M = some m.cls := findClass_of_methodNamed B.named
  subst hsz
  have hD := hD0.self (sz := s.heap.size)
  generalize hAe : va_A (wW q cA z) s.heap.size = A at hD ⊢
  have hA : ∀ x : Nat, s.heap.size ≤ x → A x := fun x hx => by rw [← hAe]; exact Or.inr hx
  have hl := lv_entry ([.ref (q 4), .int x1, .int x2, .int x3, .int x4]) (n := 8) (Nat.le_of_ble_eq_true rfl)
  rw [lg_entry_eq]
  generalize (lg_sl ([.ref (q 4), .int x1, .int x2, .int x3, .int x4]) ++ List.replicate (8 - (lg_sl ([.ref (q 4), .int x1, .int x2, .int x3, .int x4])).length) Slot.unset).toArray = ls at hl ⊢
  have hl : lv_has ls 8 [(0, .ref (q 4)), (1, .int x1), (2, .int x2), (3, .int x3), (4, .int x4)] := hl
  exact w_M_run hx hb hml hown hts (Nat.le_refl _) (Nat.le_refl _) (Nat.zero_le _) (Nat.zero_le _) hA hK x1 x2 x3 x4 z K h (fun r u H locs pc ls hk hV hd => W.iret hx hb hr (fun t ht hW => ⟨⟨r, u, rfl, hk, by rw [ht]; exact hV.1, va_K.moved hW.alike hK, hV.2.1⟩, hV.2.2.F ht⟩) hV.2.2.2.2 hd) ⟨hP, hD, va_S.rf⟩ hl
section
variable {p : Program} {l : Launch} {e : Env} {R : Room} {s : State} {m : MethodId} {args : Array Value} {below : List Frame} {meth : Method} {c : Code} {Q : State → Prop} {ce sl : Nat} {D : va_G} {q : Nat → Nat} {cA : Nat → ClassId} {A : Nat → Prop}
set_option maxHeartbeats 4000000 in
set_option maxRecDepth 100000 in
theorem w_M_outs (hx : p.tables.exec = Jvm.exec) (hb : c.code = prog_6_method_34_code) (hml : c.maxLocals = 1) (hown : s.vm.findClass kr_M = some m.cls) (hts : ∀ w ∈ lw_g, w.before args s = true) (hRf : 0 ≤ R.frames) (hRl : 0 ≤ R.locals) (hce : ce ≤ R.cells) (hsl : sl ≤ R.slots) (hA : ∀ x, s.heap.size ≤ x → A x) (hK : va_K D wk_cl (tysW cA) s) (z : Sta) (K : Int32 → Sta → Prop) (h : wp_M_outs z K) (hret : ∀ (r : Int32) (u : Sta) (H : Heap) (locs : List Loc) (pc : Nat) (ls : Array Slot), K r u → wk_S D q cA A s.heap u H locs → decode prog_6_method_34_code pc = .ok (.ireturn, 1) → W p l e R s m args below meth c H locs ce sl Q (F0 m pc ls [.int r])) {H : Heap} {locs : List Loc} {ls : Array Slot} (hV : wk_S D q cA A s.heap z H locs) (hl : lv_has ls 1 [(0, .ref (q 4))]) : W p l e R s m args below meth c H locs ce sl Q (F0 m 0 ls []) := by
  unfold wp_M_outs at h
  refine lv_aload_n hx hb kd_prog_6_method_34_code_0 rfl (lv_at hl 0 rfl) ?_
  refine lv_iconst (v := 0) hx hb kd_prog_6_method_34_code_1 (by decide) ?_
  refine wk_put (D := D) (ci := 4) (v := .int (0 : Int32)) (ty := .int) (C := kr_M) (T := kt_M) (N := kn_M) (z1 := zI z 7 (0 : Int32)) hx hb hts ki_M ky_M ko_M km_M hown hK hV 4 rfl rfl 0 (by decide) (hts _ hw_582) (fun _ h9 => h9) rfl (by decide +kernel) rfl rfl (Nat.le_of_ble_eq_true rfl) rfl kd_prog_6_method_34_code_2 (fun H locs hV => ?_)
  obtain ⟨z1, ez1⟩ : ∃ x : Sta, x = zI z 7 (0 : Int32) := ⟨_, rfl⟩
  rw [← ez1] at hV
  have h := h z1 ez1
  refine lv_aload_n hx hb kd_prog_6_method_34_code_5 rfl (lv_at hl 0 rfl) ?_
  refine va_get (D := D) (ci := 4) (v := .int (z1.1 13)) (C := kr_M) (T := kt_M) (N := kn_M) hx hb hts ki_M hown hK hV.1 4 rfl rfl 26 (by decide) (hts _ hw_608) (fun _ h9 => h9) rfl kd_prog_6_method_34_code_6 ?_
  refine lv_topi (fun v2 ev2 => ?_)
  have h := h v2 ev2
  exact hret v2 z1 H locs 9 ls h hV kd_prog_6_method_34_code_9
end
set_option maxHeartbeats 4000000 in
set_option maxRecDepth 100000 in
theorem c_M_outs (l : Launch) (D : va_G) (q : Nat → Nat) (cA : Nat → ClassId) (z : Sta) (sz : Nat) (K : Int32 → Sta → Prop) (h : wp_M_outs z K) : Met l ke_M_outs (kc_M_outs :: lw_g) { frames := 0, cells := 0, slots := 0, locals := 0 } (wk_Pc D q cA [.ref (q 4)] z sz) (va_Qi K (wk_B D q cA (va_A (wW q cA z) sz)) (va_A (wW q cA z) sz)) 0 0 (va_A (wW q cA z) sz) := by
  refine Met.ofW (cc := prog_6_method_34_code) (maxL := 1) (ret := (some .int)) (by decide) rfl ?_
  intro p e s m args below meth c s₁ B hml hv
  obtain ⟨rfl, hsz, hP, hK, hD0⟩ := hv
  have hx := B.exec
  have hb := B.bytes
  have hr := B.returns
  have hlocks := B.notSynchronized
  have hts0 := atoms_spec (ws := kc_M_outs :: lw_g) B.pre
  have hts : ∀ w ∈ lw_g, w.before ([.ref (q 4)] : List Value).toArray s = true := fun w hw => hts0 w (List.mem_cons_of_mem _ hw)
  have hown : s.vm.findClass kr_M = some m.cls := findClass_of_methodNamed B.named
  subst hsz
  have hD := hD0.self (sz := s.heap.size)
  generalize hAe : va_A (wW q cA z) s.heap.size = A at hD ⊢
  have hA : ∀ x : Nat, s.heap.size ≤ x → A x := fun x hx => by rw [← hAe]; exact Or.inr hx
  have hl := lv_entry ([.ref (q 4)]) (n := 1) (Nat.le_of_ble_eq_true rfl)
  rw [lg_entry_eq]
  generalize (lg_sl ([.ref (q 4)]) ++ List.replicate (1 - (lg_sl ([.ref (q 4)])).length) Slot.unset).toArray = ls at hl ⊢
  have hl : lv_has ls 1 [(0, .ref (q 4))] := hl
  exact w_M_outs hx hb hml hown hts (Nat.le_refl _) (Nat.le_refl _) (Nat.zero_le _) (Nat.zero_le _) hA hK z K h (fun r u H locs pc ls hk hV hd => W.iret hx hb hr (fun t ht hW => ⟨⟨r, u, rfl, hk, by rw [ht]; exact hV.1, va_K.moved hW.alike hK, hV.2.1⟩, hV.2.2.F ht⟩) hV.2.2.2.2 hd) ⟨hP, hD, va_S.rf⟩ hl
section
variable {p : Program} {l : Launch} {e : Env} {R : Room} {s : State} {m : MethodId} {args : Array Value} {below : List Frame} {meth : Method} {c : Code} {Q : State → Prop} {ce sl : Nat} {D : va_G} {q : Nat → Nat} {cA : Nat → ClassId} {A : Nat → Prop}
set_option maxHeartbeats 4000000 in
set_option maxRecDepth 100000 in
theorem w_M_out (hx : p.tables.exec = Jvm.exec) (hb : c.code = prog_6_method_35_code) (hml : c.maxLocals = 2) (hown : s.vm.findClass kr_M = some m.cls) (hts : ∀ w ∈ lw_g, w.before args s = true) (hRf : 1 ≤ R.frames) (hRl : 22 ≤ R.locals) (hce : ce ≤ R.cells) (hsl : sl ≤ R.slots) (hA : ∀ x, s.heap.size ≤ x → A x) (hK : va_K D wk_cl (tysW cA) s) (x1 : Int32) (z : Sta) (K : Int32 → Sta → Prop) (h : wp_M_out x1 z K) (hret : ∀ (r : Int32) (u : Sta) (H : Heap) (locs : List Loc) (pc : Nat) (ls : Array Slot), K r u → wk_S D q cA A s.heap u H locs → decode prog_6_method_35_code pc = .ok (.ireturn, 1) → W p l e R s m args below meth c H locs ce sl Q (F0 m pc ls [.int r])) {H : Heap} {locs : List Loc} {ls : Array Slot} (hV : wk_S D q cA A s.heap z H locs) (hl : lv_has ls 2 [(0, .ref (q 4)), (1, .int x1)]) : W p l e R s m args below meth c H locs ce sl Q (F0 m 0 ls []) := by
  have J37 : ∀ (y0 : Int32) (z : Sta) (H : Heap) (locs : List Loc) (ls : Array Slot), wk_S D q cA A s.heap z H locs → lv_has ls 2 [] → pj_M_out_37 K y0 z → W p l e R s m args below meth c H locs ce sl Q (F0 m 37 ls [.int y0]) := by
    intro y0 z H locs ls hV hl h
    unfold pj_M_out_37 at h
    exact hret y0 z H locs 37 ls h hV kd_prog_6_method_35_code_37
  have J32 : ∀ (z : Sta) (H : Heap) (locs : List Loc) (ls : Array Slot), wk_S D q cA A s.heap z H locs → lv_has ls 2 [(0, .ref (q 4))] → pj_M_out_32 K z → W p l e R s m args below meth c H locs ce sl Q (F0 m 32 ls []) := by
    intro z H locs ls hV hl h
    unfold pj_M_out_32 at h
    refine lv_aload_n hx hb kd_prog_6_method_35_code_32 rfl (lv_at hl 0 rfl) ?_
    refine lv_iconst (v := 1) hx hb kd_prog_6_method_35_code_33 (by decide) ?_
    refine wk_calli (va_runV (As := [.int (1 : Int32)]) (rest := []) ⟨hx, hb, hml, hown, hts⟩ (c_M_fail l D q cA 1 z H.size _ h) (cwV 1 hts gs_M_81 rfl rfl rfl (by decide +kernel) ⟨Nat.le_trans (by decide) hRf, Nat.le_trans (by decide) hRl⟩) (wk_preV hK hV 4 4 rfl rfl [.int (1 : Int32)]) rfl rfl hl.1 rfl (lv_room (Nat.le_of_ble_eq_true rfl)) kd_prog_6_method_35_code_34 ⟨hce, hsl⟩) hV hA (fun rz5 z5 H locs h hV => ?_)
    exact J37 rz5 z5 H locs ls hV (lv_sub hl [] rfl) h
  unfold wp_M_out at h
  refine lv_aload_n hx hb kd_prog_6_method_35_code_0 rfl (lv_at hl 0 rfl) ?_
  refine lv_iconst (v := 0) hx hb kd_prog_6_method_35_code_1 (by decide) ?_
  refine wk_put (D := D) (ci := 4) (v := .int (0 : Int32)) (ty := .int) (C := kr_M) (T := kt_M) (N := kn_M) (z1 := zI z 7 (0 : Int32)) hx hb hts ki_M ky_M ko_M km_M hown hK hV 4 rfl rfl 0 (by decide) (hts _ hw_582) (fun _ h9 => h9) rfl (by decide +kernel) rfl rfl (Nat.le_of_ble_eq_true rfl) rfl kd_prog_6_method_35_code_2 (fun H locs hV => ?_)
  obtain ⟨z1, ez1⟩ : ∃ x : Sta, x = zI z 7 (0 : Int32) := ⟨_, rfl⟩
  rw [← ez1] at hV
  have h := h z1 ez1
  refine lv_iload_n hx hb kd_prog_6_method_35_code_5 rfl (lv_at hl 1 rfl) ?_
  refine lv_iconst (v := 0) hx hb kd_prog_6_method_35_code_6 (by decide) ?_
  refine lv_bipush (v := 99) hx hb kd_prog_6_method_35_code_7 (by decide) ?_
  refine wk_calli (va_runS (As := [.int x1, .int (0 : Int32), .int (99 : Int32)]) (rest := []) ⟨hx, hb, hml, hown, hts⟩ (c_M_within l D q cA x1 0 99 z1 H.size _ h) (cwS 3 hts gs_M_92 rfl rfl rfl (by decide +kernel) ⟨Nat.le_trans (by decide) hRf, Nat.le_trans (by decide) hRl⟩) (wk_preS hK hV [.int x1, .int (0 : Int32), .int (99 : Int32)]) rfl rfl hl.1 rfl (lv_room (Nat.le_of_ble_eq_true rfl)) kd_prog_6_method_35_code_9 ⟨hce, hsl⟩) hV hA (fun rz2 z2 H locs h hV => ?_)
  refine lv_if_eq (tgt := 32) hx hb kd_prog_6_method_35_code_12 (by decide) (fun hc => ?_) (fun hc => ?_)
  · have h := h.1 hc
    exact J32 z2 H locs ls hV (lv_sub hl [0] rfl) h
  · have h := h.2 hc
    refine lv_iload_n hx hb kd_prog_6_method_35_code_15 rfl (lv_at hl 1 rfl) ?_
    refine lv_aload_n hx hb kd_prog_6_method_35_code_16 rfl (lv_at hl 0 rfl) ?_
    refine va_get (D := D) (ci := 4) (v := .int (z2.1 13)) (C := kr_M) (T := kt_M) (N := kn_M) hx hb hts ki_M hown hK hV.1 4 rfl rfl 26 (by decide) (hts _ hw_608) (fun _ h9 => h9) rfl kd_prog_6_method_35_code_17 ?_
    refine lv_topi (fun v3 ev3 => ?_)
    have h := h v3 ev3
    refine lv_icmp_ge (tgt := 32) hx hb kd_prog_6_method_35_code_20 (by decide) (fun hc => ?_) (fun hc => ?_)
    · have h := h.1 hc
      exact J32 z2 H locs ls hV (lv_sub hl [0] rfl) h
    · have h := h.2 hc
      refine lv_aload_n hx hb kd_prog_6_method_35_code_23 rfl (lv_at hl 0 rfl) ?_
      refine va_get (D := D) (ci := 4) (v := .ref (q 50)) (C := kr_M) (T := kt_M) (N := kn_M) hx hb hts ki_M hown hK hV.1 4 rfl rfl 29 (by decide) (hts _ hw_611) (fun _ h9 => h9) rfl kd_prog_6_method_35_code_24 ?_
      refine lv_iload_n hx hb kd_prog_6_method_35_code_27 rfl (lv_at hl 1 rfl) ?_
      obtain ⟨hin, h⟩ := h
      refine va_iald hx hb hK hV.1 50 45 rfl rfl hin kd_prog_6_method_35_code_28 ?_
      refine lv_topi (fun v4 ev4 => ?_)
      have h := h v4 ev4
      refine lv_goto (tgt := 37) hx hb kd_prog_6_method_35_code_29 (by decide) ?_
      exact J37 v4 z2 H locs ls hV (lv_sub hl [] rfl) h
end
set_option maxHeartbeats 4000000 in
set_option maxRecDepth 100000 in
theorem c_M_out (l : Launch) (D : va_G) (q : Nat → Nat) (cA : Nat → ClassId) (x1 : Int32) (z : Sta) (sz : Nat) (K : Int32 → Sta → Prop) (h : wp_M_out x1 z K) : Met l ke_M_out (kc_M_out :: lw_g) { frames := 1, cells := 0, slots := 0, locals := 22 } (wk_Pc D q cA [.ref (q 4), .int x1] z sz) (va_Qi K (wk_B D q cA (va_A (wW q cA z) sz)) (va_A (wW q cA z) sz)) 0 0 (va_A (wW q cA z) sz) := by
  refine Met.ofW (cc := prog_6_method_35_code) (maxL := 2) (ret := (some .int)) (by decide) rfl ?_
  intro p e s m args below meth c s₁ B hml hv
  obtain ⟨rfl, hsz, hP, hK, hD0⟩ := hv
  have hx := B.exec
  have hb := B.bytes
  have hr := B.returns
  have hlocks := B.notSynchronized
  have hts0 := atoms_spec (ws := kc_M_out :: lw_g) B.pre
  have hts : ∀ w ∈ lw_g, w.before ([.ref (q 4), .int x1] : List Value).toArray s = true := fun w hw => hts0 w (List.mem_cons_of_mem _ hw)
  have hown : s.vm.findClass kr_M = some m.cls := findClass_of_methodNamed B.named
  subst hsz
  have hD := hD0.self (sz := s.heap.size)
  generalize hAe : va_A (wW q cA z) s.heap.size = A at hD ⊢
  have hA : ∀ x : Nat, s.heap.size ≤ x → A x := fun x hx => by rw [← hAe]; exact Or.inr hx
  have hl := lv_entry ([.ref (q 4), .int x1]) (n := 2) (Nat.le_of_ble_eq_true rfl)
  rw [lg_entry_eq]
  generalize (lg_sl ([.ref (q 4), .int x1]) ++ List.replicate (2 - (lg_sl ([.ref (q 4), .int x1])).length) Slot.unset).toArray = ls at hl ⊢
  have hl : lv_has ls 2 [(0, .ref (q 4)), (1, .int x1)] := hl
  exact w_M_out hx hb hml hown hts (Nat.le_refl _) (Nat.le_refl _) (Nat.zero_le _) (Nat.zero_le _) hA hK x1 z K h (fun r u H locs pc ls hk hV hd => W.iret hx hb hr (fun t ht hW => ⟨⟨r, u, rfl, hk, by rw [ht]; exact hV.1, va_K.moved hW.alike hK, hV.2.1⟩, hV.2.2.F ht⟩) hV.2.2.2.2 hd) ⟨hP, hD, va_S.rf⟩ hl
section
variable {p : Program} {l : Launch} {e : Env} {R : Room} {s : State} {m : MethodId} {args : Array Value} {below : List Frame} {meth : Method} {c : Code} {Q : State → Prop} {ce sl : Nat} {D : va_G} {q : Nat → Nat} {cA : Nat → ClassId} {A : Nat → Prop}
set_option maxHeartbeats 4000000 in
set_option maxRecDepth 100000 in
theorem w_M_variable (hx : p.tables.exec = Jvm.exec) (hb : c.code = prog_6_method_36_code) (hml : c.maxLocals = 2) (hown : s.vm.findClass kr_M = some m.cls) (hts : ∀ w ∈ lw_g, w.before args s = true) (hRf : 1 ≤ R.frames) (hRl : 22 ≤ R.locals) (hce : ce ≤ R.cells) (hsl : sl ≤ R.slots) (hA : ∀ x, s.heap.size ≤ x → A x) (hK : va_K D wk_cl (tysW cA) s) (x1 : Int32) (z : Sta) (K : Int32 → Sta → Prop) (h : wp_M_variable x1 z K) (hret : ∀ (r : Int32) (u : Sta) (H : Heap) (locs : List Loc) (pc : Nat) (ls : Array Slot), K r u → wk_S D q cA A s.heap u H locs → decode prog_6_method_36_code pc = .ok (.ireturn, 1) → W p l e R s m args below meth c H locs ce sl Q (F0 m pc ls [.int r])) {H : Heap} {locs : List Loc} {ls : Array Slot} (hV : wk_S D q cA A s.heap z H locs) (hl : lv_has ls 2 [(0, .ref (q 4)), (1, .int x1)]) : W p l e R s m args below meth c H locs ce sl Q (F0 m 0 ls []) := by
  have J28 : ∀ (y0 : Int32) (z : Sta) (H : Heap) (locs : List Loc) (ls : Array Slot), wk_S D q cA A s.heap z H locs → lv_has ls 2 [] → pj_M_variable_28 K y0 z → W p l e R s m args below meth c H locs ce sl Q (F0 m 28 ls [.int y0]) := by
    intro y0 z H locs ls hV hl h
    unfold pj_M_variable_28 at h
    exact hret y0 z H locs 28 ls h hV kd_prog_6_method_36_code_28
  unfold wp_M_variable at h
  refine lv_aload_n hx hb kd_prog_6_method_36_code_0 rfl (lv_at hl 0 rfl) ?_
  refine lv_iconst (v := 0) hx hb kd_prog_6_method_36_code_1 (by decide) ?_
  refine wk_put (D := D) (ci := 4) (v := .int (0 : Int32)) (ty := .int) (C := kr_M) (T := kt_M) (N := kn_M) (z1 := zI z 7 (0 : Int32)) hx hb hts ki_M ky_M ko_M km_M hown hK hV 4 rfl rfl 0 (by decide) (hts _ hw_582) (fun _ h9 => h9) rfl (by decide +kernel) rfl rfl (Nat.le_of_ble_eq_true rfl) rfl kd_prog_6_method_36_code_2 (fun H locs hV => ?_)
  obtain ⟨z1, ez1⟩ : ∃ x : Sta, x = zI z 7 (0 : Int32) := ⟨_, rfl⟩
  rw [← ez1] at hV
  have h := h z1 ez1
  refine lv_iload_n hx hb kd_prog_6_method_36_code_5 rfl (lv_at hl 1 rfl) ?_
  refine lv_iconst (v := 0) hx hb kd_prog_6_method_36_code_6 (by decide) ?_
  refine lv_iconst (v := 5) hx hb kd_prog_6_method_36_code_7 (by decide) ?_
  refine wk_calli (va_runS (As := [.int x1, .int (0 : Int32), .int (5 : Int32)]) (rest := []) ⟨hx, hb, hml, hown, hts⟩ (c_M_within l D q cA x1 0 5 z1 H.size _ h) (cwS 3 hts gs_M_92 rfl rfl rfl (by decide +kernel) ⟨Nat.le_trans (by decide) hRf, Nat.le_trans (by decide) hRl⟩) (wk_preS hK hV [.int x1, .int (0 : Int32), .int (5 : Int32)]) rfl rfl hl.1 rfl (lv_room (Nat.le_of_ble_eq_true rfl)) kd_prog_6_method_36_code_8 ⟨hce, hsl⟩) hV hA (fun rz2 z2 H locs h hV => ?_)
  refine lv_if_eq (tgt := 23) hx hb kd_prog_6_method_36_code_11 (by decide) (fun hc => ?_) (fun hc => ?_)
  · have h := h.1 hc
    refine lv_aload_n hx hb kd_prog_6_method_36_code_23 rfl (lv_at hl 0 rfl) ?_
    refine lv_iconst (v := 1) hx hb kd_prog_6_method_36_code_24 (by decide) ?_
    refine wk_calli (va_runV (As := [.int (1 : Int32)]) (rest := []) ⟨hx, hb, hml, hown, hts⟩ (c_M_fail l D q cA 1 z2 H.size _ h) (cwV 1 hts gs_M_81 rfl rfl rfl (by decide +kernel) ⟨Nat.le_trans (by decide) hRf, Nat.le_trans (by decide) hRl⟩) (wk_preV hK hV 4 4 rfl rfl [.int (1 : Int32)]) rfl rfl hl.1 rfl (lv_room (Nat.le_of_ble_eq_true rfl)) kd_prog_6_method_36_code_25 ⟨hce, hsl⟩) hV hA (fun rz3 z3 H locs h hV => ?_)
    exact J28 rz3 z3 H locs ls hV (lv_sub hl [] rfl) h
  · have h := h.2 hc
    refine lv_aload_n hx hb kd_prog_6_method_36_code_14 rfl (lv_at hl 0 rfl) ?_
    refine va_get (D := D) (ci := 4) (v := .ref (q 47)) (C := kr_M) (T := kt_M) (N := kn_M) hx hb hts ki_M hown hK hV.1 4 rfl rfl 23 (by decide) (hts _ hw_605) (fun _ h9 => h9) rfl kd_prog_6_method_36_code_15 ?_
    refine lv_iload_n hx hb kd_prog_6_method_36_code_18 rfl (lv_at hl 1 rfl) ?_
    obtain ⟨hin, h⟩ := h
    refine va_iald hx hb hK hV.1 47 42 rfl rfl hin kd_prog_6_method_36_code_19 ?_
    refine lv_topi (fun v4 ev4 => ?_)
    have h := h v4 ev4
    refine lv_goto (tgt := 28) hx hb kd_prog_6_method_36_code_20 (by decide) ?_
    exact J28 v4 z2 H locs ls hV (lv_sub hl [] rfl) h
end
set_option maxHeartbeats 4000000 in
set_option maxRecDepth 100000 in
theorem c_M_variable (l : Launch) (D : va_G) (q : Nat → Nat) (cA : Nat → ClassId) (x1 : Int32) (z : Sta) (sz : Nat) (K : Int32 → Sta → Prop) (h : wp_M_variable x1 z K) : Met l ke_M_variable (kc_M_variable :: lw_g) { frames := 1, cells := 0, slots := 0, locals := 22 } (wk_Pc D q cA [.ref (q 4), .int x1] z sz) (va_Qi K (wk_B D q cA (va_A (wW q cA z) sz)) (va_A (wW q cA z) sz)) 0 0 (va_A (wW q cA z) sz) := by
  refine Met.ofW (cc := prog_6_method_36_code) (maxL := 2) (ret := (some .int)) (by decide) rfl ?_
  intro p e s m args below meth c s₁ B hml hv
  obtain ⟨rfl, hsz, hP, hK, hD0⟩ := hv
  have hx := B.exec
  have hb := B.bytes
  have hr := B.returns
  have hlocks := B.notSynchronized
  have hts0 := atoms_spec (ws := kc_M_variable :: lw_g) B.pre
  have hts : ∀ w ∈ lw_g, w.before ([.ref (q 4), .int x1] : List Value).toArray s = true := fun w hw => hts0 w (List.mem_cons_of_mem _ hw)
  have hown : s.vm.findClass kr_M = some m.cls := findClass_of_methodNamed B.named
  subst hsz
  have hD := hD0.self (sz := s.heap.size)
  generalize hAe : va_A (wW q cA z) s.heap.size = A at hD ⊢
  have hA : ∀ x : Nat, s.heap.size ≤ x → A x := fun x hx => by rw [← hAe]; exact Or.inr hx
  have hl := lv_entry ([.ref (q 4), .int x1]) (n := 2) (Nat.le_of_ble_eq_true rfl)
  rw [lg_entry_eq]
  generalize (lg_sl ([.ref (q 4), .int x1]) ++ List.replicate (2 - (lg_sl ([.ref (q 4), .int x1])).length) Slot.unset).toArray = ls at hl ⊢
  have hl : lv_has ls 2 [(0, .ref (q 4)), (1, .int x1)] := hl
  exact w_M_variable hx hb hml hown hts (Nat.le_refl _) (Nat.le_refl _) (Nat.zero_le _) (Nat.zero_le _) hA hK x1 z K h (fun r u H locs pc ls hk hV hd => W.iret hx hb hr (fun t ht hW => ⟨⟨r, u, rfl, hk, by rw [ht]; exact hV.1, va_K.moved hW.alike hK, hV.2.1⟩, hV.2.2.F ht⟩) hV.2.2.2.2 hd) ⟨hP, hD, va_S.rf⟩ hl
section
variable {p : Program} {l : Launch} {e : Env} {R : Room} {s : State} {m : MethodId} {args : Array Value} {below : List Frame} {meth : Method} {c : Code} {Q : State → Prop} {ce sl : Nat} {D : va_G} {q : Nat → Nat} {cA : Nat → ClassId} {A : Nat → Prop}
set_option maxHeartbeats 4000000 in
set_option maxRecDepth 100000 in
theorem w_M_computed (hx : p.tables.exec = Jvm.exec) (hb : c.code = prog_6_method_37_code) (hml : c.maxLocals = 2) (hown : s.vm.findClass kr_M = some m.cls) (hts : ∀ w ∈ lw_g, w.before args s = true) (hRf : 1 ≤ R.frames) (hRl : 22 ≤ R.locals) (hce : ce ≤ R.cells) (hsl : sl ≤ R.slots) (hA : ∀ x, s.heap.size ≤ x → A x) (hK : va_K D wk_cl (tysW cA) s) (x1 : Int32) (z : Sta) (K : Int32 → Sta → Prop) (h : wp_M_computed x1 z K) (hret : ∀ (r : Int32) (u : Sta) (H : Heap) (locs : List Loc) (pc : Nat) (ls : Array Slot), K r u → wk_S D q cA A s.heap u H locs → decode prog_6_method_37_code pc = .ok (.ireturn, 1) → W p l e R s m args below meth c H locs ce sl Q (F0 m pc ls [.int r])) {H : Heap} {locs : List Loc} {ls : Array Slot} (hV : wk_S D q cA A s.heap z H locs) (hl : lv_has ls 2 [(0, .ref (q 4)), (1, .int x1)]) : W p l e R s m args below meth c H locs ce sl Q (F0 m 0 ls []) := by
  have J29 : ∀ (y0 : Int32) (z : Sta) (H : Heap) (locs : List Loc) (ls : Array Slot), wk_S D q cA A s.heap z H locs → lv_has ls 2 [] → pj_M_computed_29 K y0 z → W p l e R s m args below meth c H locs ce sl Q (F0 m 29 ls [.int y0]) := by
    intro y0 z H locs ls hV hl h
    unfold pj_M_computed_29 at h
    exact hret y0 z H locs 29 ls h hV kd_prog_6_method_37_code_29
  unfold wp_M_computed at h
  refine lv_aload_n hx hb kd_prog_6_method_37_code_0 rfl (lv_at hl 0 rfl) ?_
  refine lv_iconst (v := 0) hx hb kd_prog_6_method_37_code_1 (by decide) ?_
  refine wk_put (D := D) (ci := 4) (v := .int (0 : Int32)) (ty := .int) (C := kr_M) (T := kt_M) (N := kn_M) (z1 := zI z 7 (0 : Int32)) hx hb hts ki_M ky_M ko_M km_M hown hK hV 4 rfl rfl 0 (by decide) (hts _ hw_582) (fun _ h9 => h9) rfl (by decide +kernel) rfl rfl (Nat.le_of_ble_eq_true rfl) rfl kd_prog_6_method_37_code_2 (fun H locs hV => ?_)
  obtain ⟨z1, ez1⟩ : ∃ x : Sta, x = zI z 7 (0 : Int32) := ⟨_, rfl⟩
  rw [← ez1] at hV
  have h := h z1 ez1
  refine lv_iload_n hx hb kd_prog_6_method_37_code_5 rfl (lv_at hl 1 rfl) ?_
  refine lv_iconst (v := 0) hx hb kd_prog_6_method_37_code_6 (by decide) ?_
  refine lv_aload_n hx hb kd_prog_6_method_37_code_7 rfl (lv_at hl 0 rfl) ?_
  refine va_get (D := D) (ci := 4) (v := .int (z1.1 9)) (C := kr_M) (T := kt_M) (N := kn_M) hx hb hts ki_M hown hK hV.1 4 rfl rfl 5 (by decide) (hts _ hw_587) (fun _ h9 => h9) rfl kd_prog_6_method_37_code_8 ?_
  refine lv_topi (fun v2 ev2 => ?_)
  have h := h v2 ev2
  refine lv_iconst (v := 1) hx hb kd_prog_6_method_37_code_11 (by decide) ?_
  refine lv_isub hx hb kd_prog_6_method_37_code_12 ?_
  refine lv_topi (fun v3 ev3 => ?_)
  have h := h v3 ev3
  refine wk_calli (va_runS (As := [.int x1, .int (0 : Int32), .int v3]) (rest := []) ⟨hx, hb, hml, hown, hts⟩ (c_M_within l D q cA x1 0 v3 z1 H.size _ h) (cwS 3 hts gs_M_92 rfl rfl rfl (by decide +kernel) ⟨Nat.le_trans (by decide) hRf, Nat.le_trans (by decide) hRl⟩) (wk_preS hK hV [.int x1, .int (0 : Int32), .int v3]) rfl rfl hl.1 rfl (lv_room (Nat.le_of_ble_eq_true rfl)) kd_prog_6_method_37_code_13 ⟨hce, hsl⟩) hV hA (fun rz4 z4 H locs h hV => ?_)
  refine lv_if_eq (tgt := 28) hx hb kd_prog_6_method_37_code_16 (by decide) (fun hc => ?_) (fun hc => ?_)
  · have h := h.1 hc
    refine lv_iconst (v := 0) hx hb kd_prog_6_method_37_code_28 (by decide) ?_
    exact J29 0 z4 H locs ls hV (lv_sub hl [] rfl) h
  · have h := h.2 hc
    refine lv_aload_n hx hb kd_prog_6_method_37_code_19 rfl (lv_at hl 0 rfl) ?_
    refine va_get (D := D) (ci := 4) (v := .ref (q 49)) (C := kr_M) (T := kt_M) (N := kn_M) hx hb hts ki_M hown hK hV.1 4 rfl rfl 25 (by decide) (hts _ hw_607) (fun _ h9 => h9) rfl kd_prog_6_method_37_code_20 ?_
    refine lv_iload_n hx hb kd_prog_6_method_37_code_23 rfl (lv_at hl 1 rfl) ?_
    obtain ⟨hin, h⟩ := h
    refine va_iald hx hb hK hV.1 49 44 rfl rfl hin kd_prog_6_method_37_code_24 ?_
    refine lv_topi (fun v5 ev5 => ?_)
    have h := h v5 ev5
    refine lv_goto (tgt := 29) hx hb kd_prog_6_method_37_code_25 (by decide) ?_
    exact J29 v5 z4 H locs ls hV (lv_sub hl [] rfl) h
end
set_option maxHeartbeats 4000000 in
set_option maxRecDepth 100000 in
theorem c_M_computed (l : Launch) (D : va_G) (q : Nat → Nat) (cA : Nat → ClassId) (x1 : Int32) (z : Sta) (sz : Nat) (K : Int32 → Sta → Prop) (h : wp_M_computed x1 z K) : Met l ke_M_computed (kc_M_computed :: lw_g) { frames := 1, cells := 0, slots := 0, locals := 22 } (wk_Pc D q cA [.ref (q 4), .int x1] z sz) (va_Qi K (wk_B D q cA (va_A (wW q cA z) sz)) (va_A (wW q cA z) sz)) 0 0 (va_A (wW q cA z) sz) := by
  refine Met.ofW (cc := prog_6_method_37_code) (maxL := 2) (ret := (some .int)) (by decide) rfl ?_
  intro p e s m args below meth c s₁ B hml hv
  obtain ⟨rfl, hsz, hP, hK, hD0⟩ := hv
  have hx := B.exec
  have hb := B.bytes
  have hr := B.returns
  have hlocks := B.notSynchronized
  have hts0 := atoms_spec (ws := kc_M_computed :: lw_g) B.pre
  have hts : ∀ w ∈ lw_g, w.before ([.ref (q 4), .int x1] : List Value).toArray s = true := fun w hw => hts0 w (List.mem_cons_of_mem _ hw)
  have hown : s.vm.findClass kr_M = some m.cls := findClass_of_methodNamed B.named
  subst hsz
  have hD := hD0.self (sz := s.heap.size)
  generalize hAe : va_A (wW q cA z) s.heap.size = A at hD ⊢
  have hA : ∀ x : Nat, s.heap.size ≤ x → A x := fun x hx => by rw [← hAe]; exact Or.inr hx
  have hl := lv_entry ([.ref (q 4), .int x1]) (n := 2) (Nat.le_of_ble_eq_true rfl)
  rw [lg_entry_eq]
  generalize (lg_sl ([.ref (q 4), .int x1]) ++ List.replicate (2 - (lg_sl ([.ref (q 4), .int x1])).length) Slot.unset).toArray = ls at hl ⊢
  have hl : lv_has ls 2 [(0, .ref (q 4)), (1, .int x1)] := hl
  exact w_M_computed hx hb hml hown hts (Nat.le_refl _) (Nat.le_refl _) (Nat.zero_le _) (Nat.zero_le _) hA hK x1 z K h (fun r u H locs pc ls hk hV hd => W.iret hx hb hr (fun t ht hW => ⟨⟨r, u, rfl, hk, by rw [ht]; exact hV.1, va_K.moved hW.alike hK, hV.2.1⟩, hV.2.2.F ht⟩) hV.2.2.2.2 hd) ⟨hP, hD, va_S.rf⟩ hl
section
variable {p : Program} {l : Launch} {e : Env} {R : Room} {s : State} {m : MethodId} {args : Array Value} {below : List Frame} {meth : Method} {c : Code} {Q : State → Prop} {ce sl : Nat} {D : va_G} {q : Nat → Nat} {cA : Nat → ClassId} {A : Nat → Prop}
set_option maxHeartbeats 4000000 in
set_option maxRecDepth 100000 in
theorem w_M_count (hx : p.tables.exec = Jvm.exec) (hb : c.code = prog_6_method_38_code) (hml : c.maxLocals = 2) (hown : s.vm.findClass kr_M = some m.cls) (hts : ∀ w ∈ lw_g, w.before args s = true) (hRf : 1 ≤ R.frames) (hRl : 22 ≤ R.locals) (hce : ce ≤ R.cells) (hsl : sl ≤ R.slots) (hA : ∀ x, s.heap.size ≤ x → A x) (hK : va_K D wk_cl (tysW cA) s) (x1 : Int32) (z : Sta) (K : Int32 → Sta → Prop) (h : wp_M_count x1 z K) (hret : ∀ (r : Int32) (u : Sta) (H : Heap) (locs : List Loc) (pc : Nat) (ls : Array Slot), K r u → wk_S D q cA A s.heap u H locs → decode prog_6_method_38_code pc = .ok (.ireturn, 1) → W p l e R s m args below meth c H locs ce sl Q (F0 m pc ls [.int r])) {H : Heap} {locs : List Loc} {ls : Array Slot} (hV : wk_S D q cA A s.heap z H locs) (hl : lv_has ls 2 [(0, .ref (q 4)), (1, .int x1)]) : W p l e R s m args below meth c H locs ce sl Q (F0 m 0 ls []) := by
  have J59 : ∀ (y0 : Int32) (z : Sta) (H : Heap) (locs : List Loc) (ls : Array Slot), wk_S D q cA A s.heap z H locs → lv_has ls 2 [] → pj_M_count_59 K y0 z → W p l e R s m args below meth c H locs ce sl Q (F0 m 59 ls [.int y0]) := by
    intro y0 z H locs ls hV hl h
    unfold pj_M_count_59 at h
    exact hret y0 z H locs 59 ls h hV kd_prog_6_method_38_code_59
  unfold wp_M_count at h
  refine lv_aload_n hx hb kd_prog_6_method_38_code_0 rfl (lv_at hl 0 rfl) ?_
  refine lv_iconst (v := 0) hx hb kd_prog_6_method_38_code_1 (by decide) ?_
  refine wk_put (D := D) (ci := 4) (v := .int (0 : Int32)) (ty := .int) (C := kr_M) (T := kt_M) (N := kn_M) (z1 := zI z 7 (0 : Int32)) hx hb hts ki_M ky_M ko_M km_M hown hK hV 4 rfl rfl 0 (by decide) (hts _ hw_582) (fun _ h9 => h9) rfl (by decide +kernel) rfl rfl (Nat.le_of_ble_eq_true rfl) rfl kd_prog_6_method_38_code_2 (fun H locs hV => ?_)
  obtain ⟨z1, ez1⟩ : ∃ x : Sta, x = zI z 7 (0 : Int32) := ⟨_, rfl⟩
  rw [← ez1] at hV
  have h := h z1 ez1
  refine lv_iload_n hx hb kd_prog_6_method_38_code_5 rfl (lv_at hl 1 rfl) ?_
  refine lv_iconst (v := 0) hx hb kd_prog_6_method_38_code_6 (by decide) ?_
  refine lv_iconst (v := 3) hx hb kd_prog_6_method_38_code_7 (by decide) ?_
  refine wk_calli (va_runS (As := [.int x1, .int (0 : Int32), .int (3 : Int32)]) (rest := []) ⟨hx, hb, hml, hown, hts⟩ (c_M_within l D q cA x1 0 3 z1 H.size _ h) (cwS 3 hts gs_M_92 rfl rfl rfl (by decide +kernel) ⟨Nat.le_trans (by decide) hRf, Nat.le_trans (by decide) hRl⟩) (wk_preS hK hV [.int x1, .int (0 : Int32), .int (3 : Int32)]) rfl rfl hl.1 rfl (lv_room (Nat.le_of_ble_eq_true rfl)) kd_prog_6_method_38_code_8 ⟨hce, hsl⟩) hV hA (fun rz2 z2 H locs h hV => ?_)
  refine lv_if_ne (tgt := 20) hx hb kd_prog_6_method_38_code_11 (by decide) (fun hc => ?_) (fun hc => ?_)
  · have h := h.1 hc
    refine lv_iload_n hx hb kd_prog_6_method_38_code_20 rfl (lv_at hl 1 rfl) ?_
    refine lv_if_ne (tgt := 31) hx hb kd_prog_6_method_38_code_21 (by decide) (fun hc => ?_) (fun hc => ?_)
    · have h := h.1 hc
      refine lv_iload_n hx hb kd_prog_6_method_38_code_31 rfl (lv_at hl 1 rfl) ?_
      refine lv_iconst (v := 1) hx hb kd_prog_6_method_38_code_32 (by decide) ?_
      refine lv_icmp_ne (tgt := 43) hx hb kd_prog_6_method_38_code_33 (by decide) (fun hc => ?_) (fun hc => ?_)
      · have h := h.1 hc
        refine lv_iload_n hx hb kd_prog_6_method_38_code_43 rfl (lv_at hl 1 rfl) ?_
        refine lv_iconst (v := 2) hx hb kd_prog_6_method_38_code_44 (by decide) ?_
        refine lv_icmp_ne (tgt := 55) hx hb kd_prog_6_method_38_code_45 (by decide) (fun hc => ?_) (fun hc => ?_)
        · have h := h.1 hc
          refine lv_aload_n hx hb kd_prog_6_method_38_code_55 rfl (lv_at hl 0 rfl) ?_
          refine va_get (D := D) (ci := 4) (v := .int (z2.1 14)) (C := kr_M) (T := kt_M) (N := kn_M) hx hb hts ki_M hown hK hV.1 4 rfl rfl 27 (by decide) (hts _ hw_609) (fun _ h9 => h9) rfl kd_prog_6_method_38_code_56 ?_
          refine lv_topi (fun v3 ev3 => ?_)
          have h := h v3 ev3
          exact J59 v3 z2 H locs ls hV (lv_sub hl [] rfl) h
        · have h := h.2 hc
          refine lv_aload_n hx hb kd_prog_6_method_38_code_48 rfl (lv_at hl 0 rfl) ?_
          refine va_get (D := D) (ci := 4) (v := .int (z2.1 11)) (C := kr_M) (T := kt_M) (N := kn_M) hx hb hts ki_M hown hK hV.1 4 rfl rfl 10 (by decide) (hts _ hw_592) (fun _ h9 => h9) rfl kd_prog_6_method_38_code_49 ?_
          refine lv_topi (fun v4 ev4 => ?_)
          have h := h v4 ev4
          refine lv_goto (tgt := 59) hx hb kd_prog_6_method_38_code_52 (by decide) ?_
          exact J59 v4 z2 H locs ls hV (lv_sub hl [] rfl) h
      · have h := h.2 hc
        refine lv_aload_n hx hb kd_prog_6_method_38_code_36 rfl (lv_at hl 0 rfl) ?_
        refine va_get (D := D) (ci := 4) (v := .int (z2.1 9)) (C := kr_M) (T := kt_M) (N := kn_M) hx hb hts ki_M hown hK hV.1 4 rfl rfl 5 (by decide) (hts _ hw_587) (fun _ h9 => h9) rfl kd_prog_6_method_38_code_37 ?_
        refine lv_topi (fun v5 ev5 => ?_)
        have h := h v5 ev5
        refine lv_goto (tgt := 59) hx hb kd_prog_6_method_38_code_40 (by decide) ?_
        exact J59 v5 z2 H locs ls hV (lv_sub hl [] rfl) h
    · have h := h.2 hc
      refine lv_aload_n hx hb kd_prog_6_method_38_code_24 rfl (lv_at hl 0 rfl) ?_
      refine va_get (D := D) (ci := 4) (v := .int (z2.1 8)) (C := kr_M) (T := kt_M) (N := kn_M) hx hb hts ki_M hown hK hV.1 4 rfl rfl 1 (by decide) (hts _ hw_583) (fun _ h9 => h9) rfl kd_prog_6_method_38_code_25 ?_
      refine lv_topi (fun v6 ev6 => ?_)
      have h := h v6 ev6
      refine lv_goto (tgt := 59) hx hb kd_prog_6_method_38_code_28 (by decide) ?_
      exact J59 v6 z2 H locs ls hV (lv_sub hl [] rfl) h
  · have h := h.2 hc
    refine lv_aload_n hx hb kd_prog_6_method_38_code_14 rfl (lv_at hl 0 rfl) ?_
    refine lv_iconst (v := 1) hx hb kd_prog_6_method_38_code_15 (by decide) ?_
    refine wk_calli (va_runV (As := [.int (1 : Int32)]) (rest := []) ⟨hx, hb, hml, hown, hts⟩ (c_M_fail l D q cA 1 z2 H.size _ h) (cwV 1 hts gs_M_81 rfl rfl rfl (by decide +kernel) ⟨Nat.le_trans (by decide) hRf, Nat.le_trans (by decide) hRl⟩) (wk_preV hK hV 4 4 rfl rfl [.int (1 : Int32)]) rfl rfl hl.1 rfl (lv_room (Nat.le_of_ble_eq_true rfl)) kd_prog_6_method_38_code_16 ⟨hce, hsl⟩) hV hA (fun rz7 z7 H locs h hV => ?_)
    exact hret rz7 z7 H locs 19 ls h hV kd_prog_6_method_38_code_19
end
set_option maxHeartbeats 4000000 in
set_option maxRecDepth 100000 in
theorem c_M_count (l : Launch) (D : va_G) (q : Nat → Nat) (cA : Nat → ClassId) (x1 : Int32) (z : Sta) (sz : Nat) (K : Int32 → Sta → Prop) (h : wp_M_count x1 z K) : Met l ke_M_count (kc_M_count :: lw_g) { frames := 1, cells := 0, slots := 0, locals := 22 } (wk_Pc D q cA [.ref (q 4), .int x1] z sz) (va_Qi K (wk_B D q cA (va_A (wW q cA z) sz)) (va_A (wW q cA z) sz)) 0 0 (va_A (wW q cA z) sz) := by
  refine Met.ofW (cc := prog_6_method_38_code) (maxL := 2) (ret := (some .int)) (by decide) rfl ?_
  intro p e s m args below meth c s₁ B hml hv
  obtain ⟨rfl, hsz, hP, hK, hD0⟩ := hv
  have hx := B.exec
  have hb := B.bytes
  have hr := B.returns
  have hlocks := B.notSynchronized
  have hts0 := atoms_spec (ws := kc_M_count :: lw_g) B.pre
  have hts : ∀ w ∈ lw_g, w.before ([.ref (q 4), .int x1] : List Value).toArray s = true := fun w hw => hts0 w (List.mem_cons_of_mem _ hw)
  have hown : s.vm.findClass kr_M = some m.cls := findClass_of_methodNamed B.named
  subst hsz
  have hD := hD0.self (sz := s.heap.size)
  generalize hAe : va_A (wW q cA z) s.heap.size = A at hD ⊢
  have hA : ∀ x : Nat, s.heap.size ≤ x → A x := fun x hx => by rw [← hAe]; exact Or.inr hx
  have hl := lv_entry ([.ref (q 4), .int x1]) (n := 2) (Nat.le_of_ble_eq_true rfl)
  rw [lg_entry_eq]
  generalize (lg_sl ([.ref (q 4), .int x1]) ++ List.replicate (2 - (lg_sl ([.ref (q 4), .int x1])).length) Slot.unset).toArray = ls at hl ⊢
  have hl : lv_has ls 2 [(0, .ref (q 4)), (1, .int x1)] := hl
  exact w_M_count hx hb hml hown hts (Nat.le_refl _) (Nat.le_refl _) (Nat.zero_le _) (Nat.zero_le _) hA hK x1 z K h (fun r u H locs pc ls hk hV hd => W.iret hx hb hr (fun t ht hW => ⟨⟨r, u, rfl, hk, by rw [ht]; exact hV.1, va_K.moved hW.alike hK, hV.2.1⟩, hV.2.2.F ht⟩) hV.2.2.2.2 hd) ⟨hP, hD, va_S.rf⟩ hl
