/-! decode rows, 1 -/
theorem dX3_startOf_5 : decode cX3_startOf 5 = .ok (.ifCond .eq 12, 3) := by decide +kernel
theorem dX3_startOf_8 : decode cX3_startOf 8 = .ok (.aload_n 0, 1) := by decide +kernel
theorem dX3_startOf_9 : decode cX3_startOf 9 = .ok (.getfield 11, 3) := by decide +kernel
theorem dX3_startOf_12 : decode cX3_startOf 12 = .ok (.iload_n 1, 1) := by decide +kernel
theorem dX3_startOf_13 : decode cX3_startOf 13 = .ok (.iaload, 1) := by decide +kernel
theorem dX3_startOf_14 : decode cX3_startOf 14 = .ok (.goto 4, 3) := by decide +kernel
theorem dX3_startOf_17 : decode cX3_startOf 17 = .ok (.iconst (-1), 1) := by decide +kernel
theorem dX3_startOf_18 : decode cX3_startOf 18 = .ok (.ireturn, 1) := by decide +kernel
theorem dX3_rowsOf_0 : decode cX3_rowsOf 0 = .ok (.aload_n 0, 1) := by decide +kernel
theorem dX3_rowsOf_1 : decode cX3_rowsOf 1 = .ok (.iload_n 1, 1) := by decide +kernel
theorem dX3_rowsOf_2 : decode cX3_rowsOf 2 = .ok (.invokevirtual 37, 3) := by decide +kernel
theorem dX3_rowsOf_5 : decode cX3_rowsOf 5 = .ok (.ifCond .eq 19, 3) := by decide +kernel
theorem dX3_rowsOf_8 : decode cX3_rowsOf 8 = .ok (.aload_n 0, 1) := by decide +kernel
theorem dX3_rowsOf_9 : decode cX3_rowsOf 9 = .ok (.getfield 15, 3) := by decide +kernel
theorem dX3_rowsOf_12 : decode cX3_rowsOf 12 = .ok (.iload_n 1, 1) := by decide +kernel
theorem dX3_rowsOf_13 : decode cX3_rowsOf 13 = .ok (.iaload, 1) := by decide +kernel
theorem dX3_rowsOf_14 : decode cX3_rowsOf 14 = .ok (.aload_n 0, 1) := by decide +kernel
theorem dX3_rowsOf_15 : decode cX3_rowsOf 15 = .ok (.getfield 11, 3) := by decide +kernel
theorem dX3_rowsOf_18 : decode cX3_rowsOf 18 = .ok (.iload_n 1, 1) := by decide +kernel
theorem dX3_rowsOf_19 : decode cX3_rowsOf 19 = .ok (.iaload, 1) := by decide +kernel
theorem dX3_rowsOf_20 : decode cX3_rowsOf 20 = .ok (.isub, 1) := by decide +kernel
theorem dX3_rowsOf_21 : decode cX3_rowsOf 21 = .ok (.goto 4, 3) := by decide +kernel
theorem dX3_rowsOf_24 : decode cX3_rowsOf 24 = .ok (.iconst (-1), 1) := by decide +kernel
theorem dX3_rowsOf_25 : decode cX3_rowsOf 25 = .ok (.ireturn, 1) := by decide +kernel
theorem dX3_letterOf_0 : decode cX3_letterOf 0 = .ok (.aload_n 0, 1) := by decide +kernel
theorem dX3_letterOf_1 : decode cX3_letterOf 1 = .ok (.iload_n 1, 1) := by decide +kernel
theorem dX3_letterOf_2 : decode cX3_letterOf 2 = .ok (.invokevirtual 37, 3) := by decide +kernel
theorem dX3_letterOf_5 : decode cX3_letterOf 5 = .ok (.ifCond .eq 27, 3) := by decide +kernel
theorem dX3_letterOf_8 : decode cX3_letterOf 8 = .ok (.iload_n 2, 1) := by decide +kernel
theorem dX3_letterOf_9 : decode cX3_letterOf 9 = .ok (.ifCond .lt 23, 3) := by decide +kernel
theorem dX3_letterOf_12 : decode cX3_letterOf 12 = .ok (.iload_n 2, 1) := by decide +kernel
theorem dX3_letterOf_13 : decode cX3_letterOf 13 = .ok (.bipush 32, 2) := by decide +kernel
theorem dX3_letterOf_15 : decode cX3_letterOf 15 = .ok (.if_icmp .ge 17, 3) := by decide +kernel
theorem dX3_letterOf_18 : decode cX3_letterOf 18 = .ok (.aload_n 0, 1) := by decide +kernel
theorem dX3_letterOf_19 : decode cX3_letterOf 19 = .ok (.getfield 18, 3) := by decide +kernel
theorem dX3_letterOf_22 : decode cX3_letterOf 22 = .ok (.iload_n 1, 1) := by decide +kernel
theorem dX3_letterOf_23 : decode cX3_letterOf 23 = .ok (.bipush 32, 2) := by decide +kernel
theorem dX3_letterOf_25 : decode cX3_letterOf 25 = .ok (.imul, 1) := by decide +kernel
theorem dX3_letterOf_26 : decode cX3_letterOf 26 = .ok (.iload_n 2, 1) := by decide +kernel
theorem dX3_letterOf_27 : decode cX3_letterOf 27 = .ok (.iadd, 1) := by decide +kernel
theorem dX3_letterOf_28 : decode cX3_letterOf 28 = .ok (.iaload, 1) := by decide +kernel
theorem dX3_letterOf_29 : decode cX3_letterOf 29 = .ok (.goto 5, 3) := by decide +kernel
theorem dX3_letterOf_32 : decode cX3_letterOf 32 = .ok (.bipush (-5), 2) := by decide +kernel
theorem dX3_letterOf_34 : decode cX3_letterOf 34 = .ok (.ireturn, 1) := by decide +kernel
theorem dX3_lettersOf_0 : decode cX3_lettersOf 0 = .ok (.iconst 0, 1) := by decide +kernel
theorem dX3_lettersOf_1 : decode cX3_lettersOf 1 = .ok (.istore_n 2, 1) := by decide +kernel
theorem dX3_lettersOf_2 : decode cX3_lettersOf 2 = .ok (.iconst 0, 1) := by decide +kernel
theorem dX3_lettersOf_3 : decode cX3_lettersOf 3 = .ok (.istore_n 3, 1) := by decide +kernel
theorem dX3_lettersOf_4 : decode cX3_lettersOf 4 = .ok (.iload_n 3, 1) := by decide +kernel
theorem dX3_lettersOf_5 : decode cX3_lettersOf 5 = .ok (.bipush 32, 2) := by decide +kernel
theorem dX3_lettersOf_7 : decode cX3_lettersOf 7 = .ok (.if_icmp .ge 29, 3) := by decide +kernel
theorem dX3_lettersOf_10 : decode cX3_lettersOf 10 = .ok (.aload_n 0, 1) := by decide +kernel
theorem dX3_lettersOf_11 : decode cX3_lettersOf 11 = .ok (.iload_n 1, 1) := by decide +kernel
theorem dX3_lettersOf_12 : decode cX3_lettersOf 12 = .ok (.iload_n 3, 1) := by decide +kernel
theorem dX3_lettersOf_13 : decode cX3_lettersOf 13 = .ok (.invokevirtual 41, 3) := by decide +kernel
theorem dX3_lettersOf_16 : decode cX3_lettersOf 16 = .ok (.istore 4, 2) := by decide +kernel
theorem dX3_lettersOf_18 : decode cX3_lettersOf 18 = .ok (.iload 4, 2) := by decide +kernel
theorem dX3_lettersOf_20 : decode cX3_lettersOf 20 = .ok (.ifCond .lt 10, 3) := by decide +kernel
theorem dX3_lettersOf_23 : decode cX3_lettersOf 23 = .ok (.iload_n 2, 1) := by decide +kernel
theorem dX3_lettersOf_24 : decode cX3_lettersOf 24 = .ok (.iconst 1, 1) := by decide +kernel
theorem dX3_lettersOf_25 : decode cX3_lettersOf 25 = .ok (.iload 4, 2) := by decide +kernel
theorem dX3_lettersOf_27 : decode cX3_lettersOf 27 = .ok (.ishl, 1) := by decide +kernel
theorem dX3_lettersOf_28 : decode cX3_lettersOf 28 = .ok (.ior, 1) := by decide +kernel
theorem dX3_lettersOf_29 : decode cX3_lettersOf 29 = .ok (.istore_n 2, 1) := by decide +kernel
theorem dX3_lettersOf_30 : decode cX3_lettersOf 30 = .ok (.iinc 3 1, 3) := by decide +kernel
theorem dX3_lettersOf_33 : decode cX3_lettersOf 33 = .ok (.goto (-29), 3) := by decide +kernel
theorem dX3_lettersOf_36 : decode cX3_lettersOf 36 = .ok (.iload_n 2, 1) := by decide +kernel
theorem dX3_lettersOf_37 : decode cX3_lettersOf 37 = .ok (.ireturn, 1) := by decide +kernel
theorem dX3_covering_0 : decode cX3_covering 0 = .ok (.iconst 0, 1) := by decide +kernel
theorem dX3_covering_1 : decode cX3_covering 1 = .ok (.istore_n 2, 1) := by decide +kernel
theorem dX3_covering_2 : decode cX3_covering 2 = .ok (.iconst 0, 1) := by decide +kernel
theorem dX3_covering_3 : decode cX3_covering 3 = .ok (.istore_n 3, 1) := by decide +kernel
theorem dX3_covering_4 : decode cX3_covering 4 = .ok (.iload_n 3, 1) := by decide +kernel
theorem dX3_covering_5 : decode cX3_covering 5 = .ok (.aload_n 0, 1) := by decide +kernel
theorem dX3_covering_6 : decode cX3_covering 6 = .ok (.getfield 21, 3) := by decide +kernel
theorem dX3_covering_9 : decode cX3_covering 9 = .ok (.if_icmp .ge 21, 3) := by decide +kernel
theorem dX3_covering_12 : decode cX3_covering 12 = .ok (.aload_n 0, 1) := by decide +kernel
theorem dX3_covering_13 : decode cX3_covering 13 = .ok (.iload_n 3, 1) := by decide +kernel
theorem dX3_covering_14 : decode cX3_covering 14 = .ok (.iload_n 1, 1) := by decide +kernel
theorem dX3_covering_15 : decode cX3_covering 15 = .ok (.invokevirtual 41, 3) := by decide +kernel
theorem dX3_covering_18 : decode cX3_covering 18 = .ok (.ifCond .lt 6, 3) := by decide +kernel
theorem dX3_covering_21 : decode cX3_covering 21 = .ok (.iinc 2 1, 3) := by decide +kernel
theorem dX3_covering_24 : decode cX3_covering 24 = .ok (.iinc 3 1, 3) := by decide +kernel
theorem dX3_covering_27 : decode cX3_covering 27 = .ok (.goto (-23), 3) := by decide +kernel
theorem dX3_covering_30 : decode cX3_covering 30 = .ok (.iload_n 2, 1) := by decide +kernel
theorem dX3_covering_31 : decode cX3_covering 31 = .ok (.ireturn, 1) := by decide +kernel
theorem dX3_measured_0 : decode cX3_measured 0 = .ok (.iconst 0, 1) := by decide +kernel
theorem dX3_measured_1 : decode cX3_measured 1 = .ok (.istore 6, 2) := by decide +kernel
theorem dX3_measured_3 : decode cX3_measured 3 = .ok (.iconst 0, 1) := by decide +kernel
theorem dX3_measured_4 : decode cX3_measured 4 = .ok (.istore 7, 2) := by decide +kernel
theorem dX3_measured_6 : decode cX3_measured 6 = .ok (.lconst 0, 1) := by decide +kernel
theorem dX3_measured_7 : decode cX3_measured 7 = .ok (.lstore 8, 2) := by decide +kernel
theorem dX3_measured_9 : decode cX3_measured 9 = .ok (.ldc2_w 45, 3) := by decide +kernel
theorem dX3_measured_12 : decode cX3_measured 12 = .ok (.lstore 10, 2) := by decide +kernel
theorem dX3_measured_14 : decode cX3_measured 14 = .ok (.ldc2_w 45, 3) := by decide +kernel
theorem dX3_measured_17 : decode cX3_measured 17 = .ok (.lstore 12, 2) := by decide +kernel
theorem dX3_measured_19 : decode cX3_measured 19 = .ok (.ldc2_w 45, 3) := by decide +kernel
theorem dX3_measured_22 : decode cX3_measured 22 = .ok (.lstore 14, 2) := by decide +kernel
theorem dX3_measured_24 : decode cX3_measured 24 = .ok (.ldc2_w 45, 3) := by decide +kernel
theorem dX3_measured_27 : decode cX3_measured 27 = .ok (.lstore 16, 2) := by decide +kernel
theorem dX3_measured_29 : decode cX3_measured 29 = .ok (.iconst 0, 1) := by decide +kernel
theorem dX3_measured_30 : decode cX3_measured 30 = .ok (.istore 18, 2) := by decide +kernel
theorem dX3_measured_32 : decode cX3_measured 32 = .ok (.iload 18, 2) := by decide +kernel
theorem dX3_measured_34 : decode cX3_measured 34 = .ok (.bipush 32, 2) := by decide +kernel
theorem dX3_measured_36 : decode cX3_measured 36 = .ok (.if_icmp .ge 124, 3) := by decide +kernel
theorem dX3_measured_39 : decode cX3_measured 39 = .ok (.aload_n 0, 1) := by decide +kernel
theorem dX3_measured_40 : decode cX3_measured 40 = .ok (.iload_n 1, 1) := by decide +kernel
theorem dX3_measured_41 : decode cX3_measured 41 = .ok (.iload 18, 2) := by decide +kernel
theorem dX3_measured_43 : decode cX3_measured 43 = .ok (.invokevirtual 41, 3) := by decide +kernel
theorem dX3_measured_46 : decode cX3_measured 46 = .ok (.istore 19, 2) := by decide +kernel
theorem dX3_measured_48 : decode cX3_measured 48 = .ok (.iload 19, 2) := by decide +kernel
theorem dX3_measured_50 : decode cX3_measured 50 = .ok (.ifCond .lt 104, 3) := by decide +kernel
theorem dX3_measured_53 : decode cX3_measured 53 = .ok (.iload_n 2, 1) := by decide +kernel
theorem dX3_measured_54 : decode cX3_measured 54 = .ok (.bipush 26, 2) := by decide +kernel
theorem dX3_measured_56 : decode cX3_measured 56 = .ok (.if_icmp .eq 12, 3) := by decide +kernel
theorem dX3_measured_59 : decode cX3_measured 59 = .ok (.iload 19, 2) := by decide +kernel
theorem dX3_measured_61 : decode cX3_measured 61 = .ok (.iload_n 2, 1) := by decide +kernel
theorem dX3_measured_62 : decode cX3_measured 62 = .ok (.if_icmp .eq 6, 3) := by decide +kernel
theorem dX3_measured_65 : decode cX3_measured 65 = .ok (.goto 89, 3) := by decide +kernel
theorem dX3_measured_68 : decode cX3_measured 68 = .ok (.iinc 6 1, 3) := by decide +kernel
theorem dX3_measured_71 : decode cX3_measured 71 = .ok (.aload 5, 2) := by decide +kernel
theorem dX3_measured_73 : decode cX3_measured 73 = .ok (.iload 18, 2) := by decide +kernel
theorem dX3_measured_75 : decode cX3_measured 75 = .ok (.iload_n 3, 1) := by decide +kernel
theorem dX3_measured_76 : decode cX3_measured 76 = .ok (.invokevirtual 47, 3) := by decide +kernel
theorem dX3_measured_79 : decode cX3_measured 79 = .ok (.istore 20, 2) := by decide +kernel
theorem dX3_measured_81 : decode cX3_measured 81 = .ok (.iload 20, 2) := by decide +kernel
theorem dX3_measured_83 : decode cX3_measured 83 = .ok (.sipush 1000, 3) := by decide +kernel
theorem dX3_measured_86 : decode cX3_measured 86 = .ok (.if_icmp .ne 6, 3) := by decide +kernel
theorem dX3_measured_89 : decode cX3_measured 89 = .ok (.goto 65, 3) := by decide +kernel
theorem dX3_measured_92 : decode cX3_measured 92 = .ok (.lload 8, 2) := by decide +kernel
theorem dX3_measured_94 : decode cX3_measured 94 = .ok (.iload 20, 2) := by decide +kernel
theorem dX3_measured_96 : decode cX3_measured 96 = .ok (.i2l, 1) := by decide +kernel
theorem dX3_measured_97 : decode cX3_measured 97 = .ok (.ladd, 1) := by decide +kernel
theorem dX3_measured_98 : decode cX3_measured 98 = .ok (.lstore 8, 2) := by decide +kernel
theorem dX3_measured_100 : decode cX3_measured 100 = .ok (.iload 7, 2) := by decide +kernel
theorem dX3_measured_102 : decode cX3_measured 102 = .ok (.ifCond .ne 9, 3) := by decide +kernel
theorem dX3_measured_105 : decode cX3_measured 105 = .ok (.iload 20, 2) := by decide +kernel
theorem dX3_measured_107 : decode cX3_measured 107 = .ok (.i2l, 1) := by decide +kernel
theorem dX3_measured_108 : decode cX3_measured 108 = .ok (.goto 11, 3) := by decide +kernel
theorem dX3_measured_111 : decode cX3_measured 111 = .ok (.lload 10, 2) := by decide +kernel
theorem dX3_measured_113 : decode cX3_measured 113 = .ok (.iload 20, 2) := by decide +kernel
theorem dX3_measured_115 : decode cX3_measured 115 = .ok (.i2l, 1) := by decide +kernel
theorem dX3_measured_116 : decode cX3_measured 116 = .ok (.invokestatic 52, 3) := by decide +kernel
theorem dX3_measured_119 : decode cX3_measured 119 = .ok (.lstore 10, 2) := by decide +kernel
theorem dX3_measured_121 : decode cX3_measured 121 = .ok (.lload 12, 2) := by decide +kernel
theorem dX3_measured_123 : decode cX3_measured 123 = .ok (.iload 20, 2) := by decide +kernel
theorem dX3_measured_125 : decode cX3_measured 125 = .ok (.i2l, 1) := by decide +kernel
theorem dX3_measured_126 : decode cX3_measured 126 = .ok (.invokestatic 58, 3) := by decide +kernel
theorem dX3_measured_129 : decode cX3_measured 129 = .ok (.lstore 12, 2) := by decide +kernel
theorem dX3_measured_131 : decode cX3_measured 131 = .ok (.iload 7, 2) := by decide +kernel
theorem dX3_measured_133 : decode cX3_measured 133 = .ok (.ifCond .ne 9, 3) := by decide +kernel
theorem dX3_measured_136 : decode cX3_measured 136 = .ok (.iload 20, 2) := by decide +kernel
theorem dX3_measured_138 : decode cX3_measured 138 = .ok (.i2l, 1) := by decide +kernel
theorem dX3_measured_139 : decode cX3_measured 139 = .ok (.goto 5, 3) := by decide +kernel
theorem dX3_measured_142 : decode cX3_measured 142 = .ok (.lload 14, 2) := by decide +kernel
theorem dX3_measured_144 : decode cX3_measured 144 = .ok (.lstore 14, 2) := by decide +kernel
theorem dX3_measured_146 : decode cX3_measured 146 = .ok (.iload 20, 2) := by decide +kernel
theorem dX3_measured_148 : decode cX3_measured 148 = .ok (.i2l, 1) := by decide +kernel
theorem dX3_measured_149 : decode cX3_measured 149 = .ok (.lstore 16, 2) := by decide +kernel
theorem dX3_measured_151 : decode cX3_measured 151 = .ok (.iinc 7 1, 3) := by decide +kernel
theorem dX3_measured_154 : decode cX3_measured 154 = .ok (.iinc 18 1, 3) := by decide +kernel
theorem dX3_measured_157 : decode cX3_measured 157 = .ok (.goto (-125), 3) := by decide +kernel
theorem dX3_measured_160 : decode cX3_measured 160 = .ok (.iload 4, 2) := by decide +kernel
theorem dX3_measured_162 : decode cX3_measured 162 = .ok (.tableswitch 57 0 5 #[38, 42, 45, 48, 51, 54], 38) := by decide +kernel
theorem dX3_measured_200 : decode cX3_measured 200 = .ok (.iload 6, 2) := by decide +kernel
theorem dX3_measured_202 : decode cX3_measured 202 = .ok (.i2l, 1) := by decide +kernel
theorem dX3_measured_203 : decode cX3_measured 203 = .ok (.lreturn, 1) := by decide +kernel
theorem dX3_measured_204 : decode cX3_measured 204 = .ok (.lload 8, 2) := by decide +kernel
theorem dX3_measured_206 : decode cX3_measured 206 = .ok (.lreturn, 1) := by decide +kernel
theorem dX3_measured_207 : decode cX3_measured 207 = .ok (.lload 10, 2) := by decide +kernel
theorem dX3_measured_209 : decode cX3_measured 209 = .ok (.lreturn, 1) := by decide +kernel
theorem dX3_measured_210 : decode cX3_measured 210 = .ok (.lload 12, 2) := by decide +kernel
theorem dX3_measured_212 : decode cX3_measured 212 = .ok (.lreturn, 1) := by decide +kernel
theorem dX3_measured_213 : decode cX3_measured 213 = .ok (.lload 14, 2) := by decide +kernel
theorem dX3_measured_215 : decode cX3_measured 215 = .ok (.lreturn, 1) := by decide +kernel
theorem dX3_measured_216 : decode cX3_measured 216 = .ok (.lload 16, 2) := by decide +kernel
theorem dX3_measured_218 : decode cX3_measured 218 = .ok (.lreturn, 1) := by decide +kernel
theorem dX3_measured_219 : decode cX3_measured 219 = .ok (.iload 7, 2) := by decide +kernel
theorem dX3_measured_221 : decode cX3_measured 221 = .ok (.ifCond .ne 9, 3) := by decide +kernel
theorem dX3_measured_224 : decode cX3_measured 224 = .ok (.ldc2_w 45, 3) := by decide +kernel
theorem dX3_measured_227 : decode cX3_measured 227 = .ok (.goto 11, 3) := by decide +kernel
theorem dX3_measured_230 : decode cX3_measured 230 = .ok (.lload 8, 2) := by decide +kernel
theorem dX3_measured_232 : decode cX3_measured 232 = .ok (.iload 7, 2) := by decide +kernel
theorem dX3_measured_234 : decode cX3_measured 234 = .ok (.i2l, 1) := by decide +kernel
theorem dX3_measured_235 : decode cX3_measured 235 = .ok (.invokestatic 61, 3) := by decide +kernel
theorem dX3_measured_238 : decode cX3_measured 238 = .ok (.lreturn, 1) := by decide +kernel
theorem dX4_init_0 : decode cX4_init 0 = .ok (.aload_n 0, 1) := by decide +kernel
theorem dX4_init_1 : decode cX4_init 1 = .ok (.invokespecial 3, 3) := by decide +kernel
theorem dX4_init_4 : decode cX4_init 4 = .ok (.aload_n 0, 1) := by decide +kernel
theorem dX4_init_5 : decode cX4_init 5 = .ok (.iload_n 1, 1) := by decide +kernel
theorem dX4_init_6 : decode cX4_init 6 = .ok (.ifCond .ge 7, 3) := by decide +kernel
theorem dX4_init_9 : decode cX4_init 9 = .ok (.iconst 0, 1) := by decide +kernel
theorem dX4_init_10 : decode cX4_init 10 = .ok (.goto 7, 3) := by decide +kernel
theorem dX4_init_13 : decode cX4_init 13 = .ok (.iload_n 1, 1) := by decide +kernel
theorem dX4_init_14 : decode cX4_init 14 = .ok (.bipush 9, 2) := by decide +kernel
theorem dX4_init_16 : decode cX4_init 16 = .ok (.imul, 1) := by decide +kernel
theorem dX4_init_17 : decode cX4_init 17 = .ok (.newarray .int, 2) := by decide +kernel
theorem dX4_init_19 : decode cX4_init 19 = .ok (.putfield 11, 3) := by decide +kernel
theorem dX4_init_22 : decode cX4_init 22 = .ok (.return_, 1) := by decide +kernel
theorem dX4_fact_0 : decode cX4_fact 0 = .ok (.iload_n 1, 1) := by decide +kernel
theorem dX4_fact_1 : decode cX4_fact 1 = .ok (.ifCond .lt 21, 3) := by decide +kernel
theorem dX4_fact_4 : decode cX4_fact 4 = .ok (.iload_n 1, 1) := by decide +kernel
theorem dX4_fact_5 : decode cX4_fact 5 = .ok (.aload_n 0, 1) := by decide +kernel
theorem dX4_fact_6 : decode cX4_fact 6 = .ok (.getfield 15, 3) := by decide +kernel
theorem dX4_fact_9 : decode cX4_fact 9 = .ok (.if_icmp .ge 13, 3) := by decide +kernel
theorem dX4_fact_12 : decode cX4_fact 12 = .ok (.iload_n 2, 1) := by decide +kernel
theorem dX4_fact_13 : decode cX4_fact 13 = .ok (.ifCond .lt 9, 3) := by decide +kernel
theorem dX4_fact_16 : decode cX4_fact 16 = .ok (.iload_n 2, 1) := by decide +kernel
theorem dX4_fact_17 : decode cX4_fact 17 = .ok (.bipush 9, 2) := by decide +kernel
theorem dX4_fact_19 : decode cX4_fact 19 = .ok (.if_icmp .lt 6, 3) := by decide +kernel
theorem dX4_fact_22 : decode cX4_fact 22 = .ok (.bipush (-5), 2) := by decide +kernel
theorem dX4_fact_24 : decode cX4_fact 24 = .ok (.ireturn, 1) := by decide +kernel
theorem dX4_fact_25 : decode cX4_fact 25 = .ok (.iload_n 1, 1) := by decide +kernel
theorem dX4_fact_26 : decode cX4_fact 26 = .ok (.bipush 9, 2) := by decide +kernel
theorem dX4_fact_28 : decode cX4_fact 28 = .ok (.imul, 1) := by decide +kernel
theorem dX4_fact_29 : decode cX4_fact 29 = .ok (.iload_n 2, 1) := by decide +kernel
theorem dX4_fact_30 : decode cX4_fact 30 = .ok (.iadd, 1) := by decide +kernel
theorem dX4_fact_31 : decode cX4_fact 31 = .ok (.istore_n 3, 1) := by decide +kernel
theorem dX4_fact_32 : decode cX4_fact 32 = .ok (.iload_n 3, 1) := by decide +kernel
theorem dX4_fact_33 : decode cX4_fact 33 = .ok (.aload_n 0, 1) := by decide +kernel
theorem dX4_fact_34 : decode cX4_fact 34 = .ok (.getfield 11, 3) := by decide +kernel
theorem dX4_fact_37 : decode cX4_fact 37 = .ok (.arraylength, 1) := by decide +kernel
theorem dX4_fact_38 : decode cX4_fact 38 = .ok (.if_icmp .ge 12, 3) := by decide +kernel
theorem dX4_fact_41 : decode cX4_fact 41 = .ok (.aload_n 0, 1) := by decide +kernel
theorem dX4_fact_42 : decode cX4_fact 42 = .ok (.getfield 11, 3) := by decide +kernel
theorem dX4_fact_45 : decode cX4_fact 45 = .ok (.iload_n 3, 1) := by decide +kernel
theorem dX4_fact_46 : decode cX4_fact 46 = .ok (.iaload, 1) := by decide +kernel
theorem dX4_fact_47 : decode cX4_fact 47 = .ok (.goto 5, 3) := by decide +kernel
theorem dX4_fact_50 : decode cX4_fact 50 = .ok (.bipush (-5), 2) := by decide +kernel
theorem dX4_fact_52 : decode cX4_fact 52 = .ok (.ireturn, 1) := by decide +kernel
theorem dX4_note_0 : decode cX4_note 0 = .ok (.iload_n 1, 1) := by decide +kernel
theorem dX4_note_1 : decode cX4_note 1 = .ok (.bipush 9, 2) := by decide +kernel
theorem dX4_note_3 : decode cX4_note 3 = .ok (.imul, 1) := by decide +kernel
theorem dX4_note_4 : decode cX4_note 4 = .ok (.iload_n 2, 1) := by decide +kernel
theorem dX4_note_5 : decode cX4_note 5 = .ok (.iadd, 1) := by decide +kernel
theorem dX4_note_6 : decode cX4_note 6 = .ok (.istore 4, 2) := by decide +kernel
theorem dX4_note_8 : decode cX4_note 8 = .ok (.iload_n 1, 1) := by decide +kernel
theorem dX4_note_9 : decode cX4_note 9 = .ok (.ifCond .lt 26, 3) := by decide +kernel
theorem dX4_note_12 : decode cX4_note 12 = .ok (.iload 4, 2) := by decide +kernel
theorem dX4_note_14 : decode cX4_note 14 = .ok (.ifCond .lt 21, 3) := by decide +kernel
theorem dX4_note_17 : decode cX4_note 17 = .ok (.iload 4, 2) := by decide +kernel
theorem dX4_note_19 : decode cX4_note 19 = .ok (.aload_n 0, 1) := by decide +kernel
theorem dX4_note_20 : decode cX4_note 20 = .ok (.getfield 11, 3) := by decide +kernel
theorem dX4_note_23 : decode cX4_note 23 = .ok (.arraylength, 1) := by decide +kernel
theorem dX4_note_24 : decode cX4_note 24 = .ok (.if_icmp .ge 11, 3) := by decide +kernel
theorem dX4_note_27 : decode cX4_note 27 = .ok (.aload_n 0, 1) := by decide +kernel
theorem dX4_note_28 : decode cX4_note 28 = .ok (.getfield 11, 3) := by decide +kernel
theorem dX4_note_31 : decode cX4_note 31 = .ok (.iload 4, 2) := by decide +kernel
theorem dX4_note_33 : decode cX4_note 33 = .ok (.iload_n 3, 1) := by decide +kernel
theorem dX4_note_34 : decode cX4_note 34 = .ok (.iastore, 1) := by decide +kernel
theorem dX4_note_35 : decode cX4_note 35 = .ok (.return_, 1) := by decide +kernel
theorem dX4_add_0 : decode cX4_add 0 = .ok (.aload_n 0, 1) := by decide +kernel
theorem dX4_add_1 : decode cX4_add 1 = .ok (.getfield 15, 3) := by decide +kernel
theorem dX4_add_4 : decode cX4_add 4 = .ok (.istore 4, 2) := by decide +kernel
theorem dX4_add_6 : decode cX4_add 6 = .ok (.aload_n 0, 1) := by decide +kernel
theorem dX4_add_7 : decode cX4_add 7 = .ok (.getfield 11, 3) := by decide +kernel
theorem dX4_add_10 : decode cX4_add 10 = .ok (.arraylength, 1) := by decide +kernel
theorem dX4_add_11 : decode cX4_add 11 = .ok (.bipush 9, 2) := by decide +kernel
theorem dX4_add_13 : decode cX4_add 13 = .ok (.idiv, 1) := by decide +kernel
theorem dX4_add_14 : decode cX4_add 14 = .ok (.iload 4, 2) := by decide +kernel
theorem dX4_add_16 : decode cX4_add 16 = .ok (.if_icmp .gt 5, 3) := by decide +kernel
theorem dX4_add_19 : decode cX4_add 19 = .ok (.iconst (-1), 1) := by decide +kernel
theorem dX4_add_20 : decode cX4_add 20 = .ok (.ireturn, 1) := by decide +kernel
theorem dX4_add_21 : decode cX4_add 21 = .ok (.aload_n 0, 1) := by decide +kernel
theorem dX4_add_22 : decode cX4_add 22 = .ok (.dup, 1) := by decide +kernel
theorem dX4_add_23 : decode cX4_add 23 = .ok (.getfield 15, 3) := by decide +kernel
theorem dX4_add_26 : decode cX4_add 26 = .ok (.iconst 1, 1) := by decide +kernel
theorem dX4_add_27 : decode cX4_add 27 = .ok (.iadd, 1) := by decide +kernel
theorem dX4_add_28 : decode cX4_add 28 = .ok (.putfield 15, 3) := by decide +kernel
theorem dX4_add_31 : decode cX4_add 31 = .ok (.iconst 0, 1) := by decide +kernel
theorem dX4_add_32 : decode cX4_add 32 = .ok (.istore 5, 2) := by decide +kernel
theorem dX4_add_34 : decode cX4_add 34 = .ok (.iload 5, 2) := by decide +kernel
theorem dX4_add_36 : decode cX4_add 36 = .ok (.bipush 9, 2) := by decide +kernel
theorem dX4_add_38 : decode cX4_add 38 = .ok (.if_icmp .ge 19, 3) := by decide +kernel
theorem dX4_add_41 : decode cX4_add 41 = .ok (.aload_n 0, 1) := by decide +kernel
theorem dX4_add_42 : decode cX4_add 42 = .ok (.iload 4, 2) := by decide +kernel
theorem dX4_add_44 : decode cX4_add 44 = .ok (.iload 5, 2) := by decide +kernel
theorem dX4_add_46 : decode cX4_add 46 = .ok (.bipush (-5), 2) := by decide +kernel
theorem dX4_add_48 : decode cX4_add 48 = .ok (.invokevirtual 19, 3) := by decide +kernel
theorem dX4_add_51 : decode cX4_add 51 = .ok (.iinc 5 1, 3) := by decide +kernel
theorem dX4_add_54 : decode cX4_add 54 = .ok (.goto (-20), 3) := by decide +kernel
theorem dX4_add_57 : decode cX4_add 57 = .ok (.aload_n 0, 1) := by decide +kernel
theorem dX4_add_58 : decode cX4_add 58 = .ok (.iload 4, 2) := by decide +kernel
theorem dX4_add_60 : decode cX4_add 60 = .ok (.iconst 0, 1) := by decide +kernel
theorem dX4_add_61 : decode cX4_add 61 = .ok (.iload_n 1, 1) := by decide +kernel
theorem dX4_add_62 : decode cX4_add 62 = .ok (.invokevirtual 19, 3) := by decide +kernel
theorem dX4_add_65 : decode cX4_add 65 = .ok (.aload_n 0, 1) := by decide +kernel
theorem dX4_add_66 : decode cX4_add 66 = .ok (.iload 4, 2) := by decide +kernel
theorem dX4_add_68 : decode cX4_add 68 = .ok (.iconst 2, 1) := by decide +kernel
theorem dX4_add_69 : decode cX4_add 69 = .ok (.iload_n 3, 1) := by decide +kernel
theorem dX4_add_70 : decode cX4_add 70 = .ok (.invokevirtual 19, 3) := by decide +kernel
theorem dX4_add_73 : decode cX4_add 73 = .ok (.aload_n 0, 1) := by decide +kernel
theorem dX4_add_74 : decode cX4_add 74 = .ok (.iload 4, 2) := by decide +kernel
theorem dX4_add_76 : decode cX4_add 76 = .ok (.bipush 7, 2) := by decide +kernel
theorem dX4_add_78 : decode cX4_add 78 = .ok (.iload_n 2, 1) := by decide +kernel
theorem dX4_add_79 : decode cX4_add 79 = .ok (.invokevirtual 19, 3) := by decide +kernel
theorem dX4_add_82 : decode cX4_add 82 = .ok (.iload_n 2, 1) := by decide +kernel
theorem dX4_add_83 : decode cX4_add 83 = .ok (.istore 5, 2) := by decide +kernel
theorem dX4_add_85 : decode cX4_add 85 = .ok (.iconst 0, 1) := by decide +kernel
theorem dX4_add_86 : decode cX4_add 86 = .ok (.istore 6, 2) := by decide +kernel
theorem dX4_add_88 : decode cX4_add 88 = .ok (.iload 6, 2) := by decide +kernel
theorem dX4_add_90 : decode cX4_add 90 = .ok (.iload_n 3, 1) := by decide +kernel
theorem dX4_add_91 : decode cX4_add 91 = .ok (.if_icmp .ge 29, 3) := by decide +kernel
theorem dX4_add_94 : decode cX4_add 94 = .ok (.aload_n 0, 1) := by decide +kernel
theorem dX4_add_95 : decode cX4_add 95 = .ok (.iload 5, 2) := by decide +kernel
theorem dX4_add_97 : decode cX4_add 97 = .ok (.bipush 6, 2) := by decide +kernel
theorem dX4_add_99 : decode cX4_add 99 = .ok (.iload 4, 2) := by decide +kernel
theorem dX4_add_101 : decode cX4_add 101 = .ok (.invokevirtual 19, 3) := by decide +kernel
theorem dX4_add_104 : decode cX4_add 104 = .ok (.aload_n 0, 1) := by decide +kernel
theorem dX4_add_105 : decode cX4_add 105 = .ok (.iload 5, 2) := by decide +kernel
theorem dX4_add_107 : decode cX4_add 107 = .ok (.bipush 8, 2) := by decide +kernel
theorem dX4_add_109 : decode cX4_add 109 = .ok (.invokevirtual 23, 3) := by decide +kernel
theorem dX4_add_112 : decode cX4_add 112 = .ok (.istore 5, 2) := by decide +kernel
theorem dX4_add_114 : decode cX4_add 114 = .ok (.iinc 6 1, 3) := by decide +kernel
theorem dX4_add_117 : decode cX4_add 117 = .ok (.goto (-29), 3) := by decide +kernel
theorem dX4_add_120 : decode cX4_add 120 = .ok (.iload 4, 2) := by decide +kernel
theorem dX4_add_122 : decode cX4_add 122 = .ok (.ireturn, 1) := by decide +kernel
theorem dX4_addLeaf_0 : decode cX4_addLeaf 0 = .ok (.aload_n 0, 1) := by decide +kernel
theorem dX4_addLeaf_1 : decode cX4_addLeaf 1 = .ok (.iload_n 1, 1) := by decide +kernel
theorem dX4_addLeaf_2 : decode cX4_addLeaf 2 = .ok (.bipush (-5), 2) := by decide +kernel
theorem dX4_addLeaf_4 : decode cX4_addLeaf 4 = .ok (.iconst 0, 1) := by decide +kernel
theorem dX4_addLeaf_5 : decode cX4_addLeaf 5 = .ok (.invokevirtual 27, 3) := by decide +kernel
theorem dX4_addLeaf_8 : decode cX4_addLeaf 8 = .ok (.istore_n 3, 1) := by decide +kernel
theorem dX4_addLeaf_9 : decode cX4_addLeaf 9 = .ok (.aload_n 0, 1) := by decide +kernel
theorem dX4_addLeaf_10 : decode cX4_addLeaf 10 = .ok (.iload_n 3, 1) := by decide +kernel
theorem dX4_addLeaf_11 : decode cX4_addLeaf 11 = .ok (.iconst 1, 1) := by decide +kernel
theorem dX4_addLeaf_12 : decode cX4_addLeaf 12 = .ok (.iload_n 2, 1) := by decide +kernel
theorem dX4_addLeaf_13 : decode cX4_addLeaf 13 = .ok (.invokevirtual 19, 3) := by decide +kernel
theorem dX4_addLeaf_16 : decode cX4_addLeaf 16 = .ok (.iload_n 3, 1) := by decide +kernel
theorem dX4_addLeaf_17 : decode cX4_addLeaf 17 = .ok (.ireturn, 1) := by decide +kernel
theorem dX4_addRepetition_0 : decode cX4_addRepetition 0 = .ok (.aload_n 0, 1) := by decide +kernel
theorem dX4_addRepetition_1 : decode cX4_addRepetition 1 = .ok (.iconst 5, 1) := by decide +kernel
theorem dX4_addRepetition_2 : decode cX4_addRepetition 2 = .ok (.iload_n 1, 1) := by decide +kernel
theorem dX4_addRepetition_3 : decode cX4_addRepetition 3 = .ok (.iconst 1, 1) := by decide +kernel
theorem dX4_addRepetition_4 : decode cX4_addRepetition 4 = .ok (.invokevirtual 27, 3) := by decide +kernel
theorem dX4_addRepetition_7 : decode cX4_addRepetition 7 = .ok (.istore 5, 2) := by decide +kernel
theorem dX4_addRepetition_9 : decode cX4_addRepetition 9 = .ok (.aload_n 0, 1) := by decide +kernel
theorem dX4_addRepetition_10 : decode cX4_addRepetition 10 = .ok (.iload 5, 2) := by decide +kernel
theorem dX4_addRepetition_12 : decode cX4_addRepetition 12 = .ok (.iconst 3, 1) := by decide +kernel
theorem dX4_addRepetition_13 : decode cX4_addRepetition 13 = .ok (.iload_n 2, 1) := by decide +kernel
theorem dX4_addRepetition_14 : decode cX4_addRepetition 14 = .ok (.invokevirtual 19, 3) := by decide +kernel
theorem dX4_addRepetition_17 : decode cX4_addRepetition 17 = .ok (.aload_n 0, 1) := by decide +kernel
theorem dX4_addRepetition_18 : decode cX4_addRepetition 18 = .ok (.iload 5, 2) := by decide +kernel
theorem dX4_addRepetition_20 : decode cX4_addRepetition 20 = .ok (.iconst 4, 1) := by decide +kernel
theorem dX4_addRepetition_21 : decode cX4_addRepetition 21 = .ok (.iload_n 3, 1) := by decide +kernel
theorem dX4_addRepetition_22 : decode cX4_addRepetition 22 = .ok (.invokevirtual 19, 3) := by decide +kernel
theorem dX4_addRepetition_25 : decode cX4_addRepetition 25 = .ok (.aload_n 0, 1) := by decide +kernel
theorem dX4_addRepetition_26 : decode cX4_addRepetition 26 = .ok (.iload 5, 2) := by decide +kernel
theorem dX4_addRepetition_28 : decode cX4_addRepetition 28 = .ok (.iconst 5, 1) := by decide +kernel
theorem dX4_addRepetition_29 : decode cX4_addRepetition 29 = .ok (.iload 4, 2) := by decide +kernel
theorem dX4_addRepetition_31 : decode cX4_addRepetition 31 = .ok (.invokevirtual 19, 3) := by decide +kernel
theorem dX4_addRepetition_34 : decode cX4_addRepetition 34 = .ok (.iload 5, 2) := by decide +kernel
theorem dX4_addRepetition_36 : decode cX4_addRepetition 36 = .ok (.ireturn, 1) := by decide +kernel
theorem dX4_link_0 : decode cX4_link 0 = .ok (.aload_n 0, 1) := by decide +kernel
theorem dX4_link_1 : decode cX4_link 1 = .ok (.iload_n 1, 1) := by decide +kernel
theorem dX4_link_2 : decode cX4_link 2 = .ok (.bipush 8, 2) := by decide +kernel
theorem dX4_link_4 : decode cX4_link 4 = .ok (.iload_n 2, 1) := by decide +kernel
theorem dX4_link_5 : decode cX4_link 5 = .ok (.invokevirtual 19, 3) := by decide +kernel
theorem dX4_link_8 : decode cX4_link 8 = .ok (.return_, 1) := by decide +kernel
theorem dX4_write_0 : decode cX4_write 0 = .ok (.aload_n 0, 1) := by decide +kernel
theorem dX4_write_1 : decode cX4_write 1 = .ok (.aload_n 0, 1) := by decide +kernel
theorem dX4_write_2 : decode cX4_write 2 = .ok (.getfield 15, 3) := by decide +kernel
theorem dX4_write_5 : decode cX4_write 5 = .ok (.iconst 1, 1) := by decide +kernel
theorem dX4_write_6 : decode cX4_write 6 = .ok (.isub, 1) := by decide +kernel
theorem dX4_write_7 : decode cX4_write 7 = .ok (.aload_n 1, 1) := by decide +kernel
theorem dX4_write_8 : decode cX4_write 8 = .ok (.iconst 0, 1) := by decide +kernel
theorem dX4_write_9 : decode cX4_write 9 = .ok (.invokevirtual 31, 3) := by decide +kernel
theorem dX4_write_12 : decode cX4_write 12 = .ok (.return_, 1) := by decide +kernel
theorem dX4_writePart_0 : decode cX4_writePart 0 = .ok (.iload_n 3, 1) := by decide +kernel
theorem dX4_writePart_1 : decode cX4_writePart 1 = .ok (.bipush 40, 2) := by decide +kernel
theorem dX4_writePart_3 : decode cX4_writePart 3 = .ok (.if_icmp .le 4, 3) := by decide +kernel
theorem dX4_writePart_6 : decode cX4_writePart 6 = .ok (.return_, 1) := by decide +kernel
theorem dX4_writePart_7 : decode cX4_writePart 7 = .ok (.aload_n 0, 1) := by decide +kernel
theorem dX4_writePart_8 : decode cX4_writePart 8 = .ok (.iload_n 1, 1) := by decide +kernel
theorem dX4_writePart_9 : decode cX4_writePart 9 = .ok (.iconst 0, 1) := by decide +kernel
theorem dX4_writePart_10 : decode cX4_writePart 10 = .ok (.invokevirtual 23, 3) := by decide +kernel
theorem dX4_writePart_13 : decode cX4_writePart 13 = .ok (.tableswitch 142 0 6 #[43, 60, 70, 142, 130, 113, 80], 43) := by decide +kernel
theorem dX4_writePart_56 : decode cX4_writePart 56 = .ok (.aload_n 2, 1) := by decide +kernel
theorem dX4_writePart_57 : decode cX4_writePart 57 = .ok (.bipush 65, 2) := by decide +kernel
theorem dX4_writePart_59 : decode cX4_writePart 59 = .ok (.aload_n 0, 1) := by decide +kernel
theorem dX4_writePart_60 : decode cX4_writePart 60 = .ok (.iload_n 1, 1) := by decide +kernel
theorem dX4_writePart_61 : decode cX4_writePart 61 = .ok (.iconst 1, 1) := by decide +kernel
theorem dX4_writePart_62 : decode cX4_writePart 62 = .ok (.invokevirtual 23, 3) := by decide +kernel
theorem dX4_writePart_65 : decode cX4_writePart 65 = .ok (.iadd, 1) := by decide +kernel
theorem dX4_writePart_66 : decode cX4_writePart 66 = .ok (.invokevirtual 35, 3) := by decide +kernel
theorem dX4_writePart_69 : decode cX4_writePart 69 = .ok (.pop, 1) := by decide +kernel
theorem dX4_writePart_70 : decode cX4_writePart 70 = .ok (.goto 93, 3) := by decide +kernel
theorem dX4_writePart_73 : decode cX4_writePart 73 = .ok (.aload_n 2, 1) := by decide +kernel
theorem dX4_writePart_74 : decode cX4_writePart 74 = .ok (.bipush 94, 2) := by decide +kernel
theorem dX4_writePart_76 : decode cX4_writePart 76 = .ok (.invokevirtual 35, 3) := by decide +kernel
theorem dX4_writePart_79 : decode cX4_writePart 79 = .ok (.pop, 1) := by decide +kernel
theorem dX4_writePart_80 : decode cX4_writePart 80 = .ok (.goto 83, 3) := by decide +kernel
theorem dX4_writePart_83 : decode cX4_writePart 83 = .ok (.aload_n 2, 1) := by decide +kernel
theorem dX4_writePart_84 : decode cX4_writePart 84 = .ok (.bipush 36, 2) := by decide +kernel
theorem dX4_writePart_86 : decode cX4_writePart 86 = .ok (.invokevirtual 35, 3) := by decide +kernel
theorem dX4_writePart_89 : decode cX4_writePart 89 = .ok (.pop, 1) := by decide +kernel
theorem dX4_writePart_90 : decode cX4_writePart 90 = .ok (.goto 73, 3) := by decide +kernel
theorem dX4_writePart_93 : decode cX4_writePart 93 = .ok (.aload_n 2, 1) := by decide +kernel
theorem dX4_writePart_94 : decode cX4_writePart 94 = .ok (.bipush 37, 2) := by decide +kernel
theorem dX4_writePart_96 : decode cX4_writePart 96 = .ok (.invokevirtual 35, 3) := by decide +kernel
theorem dX4_writePart_99 : decode cX4_writePart 99 = .ok (.pop, 1) := by decide +kernel
theorem dX4_writePart_100 : decode cX4_writePart 100 = .ok (.aload_n 2, 1) := by decide +kernel
theorem dX4_writePart_101 : decode cX4_writePart 101 = .ok (.bipush 40, 2) := by decide +kernel
theorem dX4_writePart_103 : decode cX4_writePart 103 = .ok (.invokevirtual 35, 3) := by decide +kernel
theorem dX4_writePart_106 : decode cX4_writePart 106 = .ok (.pop, 1) := by decide +kernel
theorem dX4_writePart_107 : decode cX4_writePart 107 = .ok (.aload_n 0, 1) := by decide +kernel
theorem dX4_writePart_108 : decode cX4_writePart 108 = .ok (.iload_n 1, 1) := by decide +kernel
theorem dX4_writePart_109 : decode cX4_writePart 109 = .ok (.bipush 44, 2) := by decide +kernel
theorem dX4_writePart_111 : decode cX4_writePart 111 = .ok (.aload_n 2, 1) := by decide +kernel
theorem dX4_writePart_112 : decode cX4_writePart 112 = .ok (.iload_n 3, 1) := by decide +kernel
theorem dX4_writePart_113 : decode cX4_writePart 113 = .ok (.invokevirtual 40, 3) := by decide +kernel
theorem dX4_writePart_116 : decode cX4_writePart 116 = .ok (.aload_n 2, 1) := by decide +kernel
theorem dX4_writePart_117 : decode cX4_writePart 117 = .ok (.bipush 41, 2) := by decide +kernel
theorem dX4_writePart_119 : decode cX4_writePart 119 = .ok (.invokevirtual 35, 3) := by decide +kernel
theorem dX4_writePart_122 : decode cX4_writePart 122 = .ok (.pop, 1) := by decide +kernel
theorem dX4_writePart_123 : decode cX4_writePart 123 = .ok (.goto 40, 3) := by decide +kernel
theorem dX4_writePart_126 : decode cX4_writePart 126 = .ok (.aload_n 0, 1) := by decide +kernel
theorem dX4_writePart_127 : decode cX4_writePart 127 = .ok (.iload_n 1, 1) := by decide +kernel
theorem dX4_writePart_128 : decode cX4_writePart 128 = .ok (.iconst (-1), 1) := by decide +kernel
theorem dX4_writePart_129 : decode cX4_writePart 129 = .ok (.aload_n 2, 1) := by decide +kernel
theorem dX4_writePart_130 : decode cX4_writePart 130 = .ok (.iload_n 3, 1) := by decide +kernel
theorem dX4_writePart_131 : decode cX4_writePart 131 = .ok (.invokevirtual 40, 3) := by decide +kernel
theorem dX4_writePart_134 : decode cX4_writePart 134 = .ok (.aload_n 0, 1) := by decide +kernel
theorem dX4_writePart_135 : decode cX4_writePart 135 = .ok (.iload_n 1, 1) := by decide +kernel
theorem dX4_writePart_136 : decode cX4_writePart 136 = .ok (.aload_n 2, 1) := by decide +kernel
theorem dX4_writePart_137 : decode cX4_writePart 137 = .ok (.invokevirtual 44, 3) := by decide +kernel
theorem dX4_writePart_140 : decode cX4_writePart 140 = .ok (.goto 23, 3) := by decide +kernel
theorem dX4_writePart_143 : decode cX4_writePart 143 = .ok (.aload_n 0, 1) := by decide +kernel
theorem dX4_writePart_144 : decode cX4_writePart 144 = .ok (.iload_n 1, 1) := by decide +kernel
theorem dX4_writePart_145 : decode cX4_writePart 145 = .ok (.bipush 124, 2) := by decide +kernel
theorem dX4_writePart_147 : decode cX4_writePart 147 = .ok (.aload_n 2, 1) := by decide +kernel
theorem dX4_writePart_148 : decode cX4_writePart 148 = .ok (.iload_n 3, 1) := by decide +kernel
theorem dX4_writePart_149 : decode cX4_writePart 149 = .ok (.invokevirtual 40, 3) := by decide +kernel
theorem dX4_writePart_152 : decode cX4_writePart 152 = .ok (.goto 11, 3) := by decide +kernel
theorem dX4_writePart_155 : decode cX4_writePart 155 = .ok (.aload_n 0, 1) := by decide +kernel
theorem dX4_writePart_156 : decode cX4_writePart 156 = .ok (.iload_n 1, 1) := by decide +kernel
theorem dX4_writePart_157 : decode cX4_writePart 157 = .ok (.iconst (-1), 1) := by decide +kernel
theorem dX4_writePart_158 : decode cX4_writePart 158 = .ok (.aload_n 2, 1) := by decide +kernel
theorem dX4_writePart_159 : decode cX4_writePart 159 = .ok (.iload_n 3, 1) := by decide +kernel
theorem dX4_writePart_160 : decode cX4_writePart 160 = .ok (.invokevirtual 40, 3) := by decide +kernel
theorem dX4_writePart_163 : decode cX4_writePart 163 = .ok (.return_, 1) := by decide +kernel
theorem dX4_writeInner_0 : decode cX4_writeInner 0 = .ok (.aload_n 0, 1) := by decide +kernel
theorem dX4_writeInner_1 : decode cX4_writeInner 1 = .ok (.iload_n 1, 1) := by decide +kernel
theorem dX4_writeInner_2 : decode cX4_writeInner 2 = .ok (.bipush 7, 2) := by decide +kernel
theorem dX4_writeInner_4 : decode cX4_writeInner 4 = .ok (.invokevirtual 23, 3) := by decide +kernel
theorem dX4_writeInner_7 : decode cX4_writeInner 7 = .ok (.istore 5, 2) := by decide +kernel
theorem dX4_writeInner_9 : decode cX4_writeInner 9 = .ok (.aload_n 0, 1) := by decide +kernel
theorem dX4_writeInner_10 : decode cX4_writeInner 10 = .ok (.iload_n 1, 1) := by decide +kernel
theorem dX4_writeInner_11 : decode cX4_writeInner 11 = .ok (.iconst 2, 1) := by decide +kernel
theorem dX4_writeInner_12 : decode cX4_writeInner 12 = .ok (.invokevirtual 23, 3) := by decide +kernel
theorem dX4_writeInner_15 : decode cX4_writeInner 15 = .ok (.istore 6, 2) := by decide +kernel
theorem dX4_writeInner_17 : decode cX4_writeInner 17 = .ok (.iconst 0, 1) := by decide +kernel
theorem dX4_writeInner_18 : decode cX4_writeInner 18 = .ok (.istore 7, 2) := by decide +kernel
theorem dX4_writeInner_20 : decode cX4_writeInner 20 = .ok (.iload 7, 2) := by decide +kernel
theorem dX4_writeInner_22 : decode cX4_writeInner 22 = .ok (.iload 6, 2) := by decide +kernel
theorem dX4_writeInner_24 : decode cX4_writeInner 24 = .ok (.if_icmp .ge 88, 3) := by decide +kernel
theorem dX4_writeInner_27 : decode cX4_writeInner 27 = .ok (.iload 7, 2) := by decide +kernel
theorem dX4_writeInner_29 : decode cX4_writeInner 29 = .ok (.ifCond .le 14, 3) := by decide +kernel
theorem dX4_writeInner_32 : decode cX4_writeInner 32 = .ok (.iload_n 2, 1) := by decide +kernel
theorem dX4_writeInner_33 : decode cX4_writeInner 33 = .ok (.iconst (-1), 1) := by decide +kernel
theorem dX4_writeInner_34 : decode cX4_writeInner 34 = .ok (.if_icmp .eq 9, 3) := by decide +kernel
theorem dX4_writeInner_37 : decode cX4_writeInner 37 = .ok (.aload_n 3, 1) := by decide +kernel
theorem dX4_writeInner_38 : decode cX4_writeInner 38 = .ok (.iload_n 2, 1) := by decide +kernel
theorem dX4_writeInner_39 : decode cX4_writeInner 39 = .ok (.invokevirtual 35, 3) := by decide +kernel
theorem dX4_writeInner_42 : decode cX4_writeInner 42 = .ok (.pop, 1) := by decide +kernel
theorem dX4_writeInner_43 : decode cX4_writeInner 43 = .ok (.aload_n 0, 1) := by decide +kernel
theorem dX4_writeInner_44 : decode cX4_writeInner 44 = .ok (.iload_n 1, 1) := by decide +kernel
theorem dX4_writeInner_45 : decode cX4_writeInner 45 = .ok (.iconst 0, 1) := by decide +kernel
theorem dX4_writeInner_46 : decode cX4_writeInner 46 = .ok (.invokevirtual 23, 3) := by decide +kernel
theorem dX4_writeInner_49 : decode cX4_writeInner 49 = .ok (.aload_n 0, 1) := by decide +kernel
theorem dX4_writeInner_50 : decode cX4_writeInner 50 = .ok (.iload 5, 2) := by decide +kernel
theorem dX4_writeInner_52 : decode cX4_writeInner 52 = .ok (.iconst 0, 1) := by decide +kernel
theorem dX4_writeInner_53 : decode cX4_writeInner 53 = .ok (.invokevirtual 23, 3) := by decide +kernel
theorem dX4_writeInner_56 : decode cX4_writeInner 56 = .ok (.invokestatic 48, 3) := by decide +kernel
theorem dX4_writeInner_59 : decode cX4_writeInner 59 = .ok (.istore 8, 2) := by decide +kernel
theorem dX4_writeInner_61 : decode cX4_writeInner 61 = .ok (.iload 8, 2) := by decide +kernel
theorem dX4_writeInner_63 : decode cX4_writeInner 63 = .ok (.ifCond .eq 10, 3) := by decide +kernel
theorem dX4_writeInner_66 : decode cX4_writeInner 66 = .ok (.aload_n 3, 1) := by decide +kernel
theorem dX4_writeInner_67 : decode cX4_writeInner 67 = .ok (.bipush 40, 2) := by decide +kernel
theorem dX4_writeInner_69 : decode cX4_writeInner 69 = .ok (.invokevirtual 35, 3) := by decide +kernel
theorem dX4_writeInner_72 : decode cX4_writeInner 72 = .ok (.pop, 1) := by decide +kernel
theorem dX4_writeInner_73 : decode cX4_writeInner 73 = .ok (.aload_n 0, 1) := by decide +kernel
theorem dX4_writeInner_74 : decode cX4_writeInner 74 = .ok (.iload 5, 2) := by decide +kernel
theorem dX4_writeInner_76 : decode cX4_writeInner 76 = .ok (.aload_n 3, 1) := by decide +kernel
theorem dX4_writeInner_77 : decode cX4_writeInner 77 = .ok (.iload 4, 2) := by decide +kernel
theorem dX4_writeInner_79 : decode cX4_writeInner 79 = .ok (.iconst 1, 1) := by decide +kernel
theorem dX4_writeInner_80 : decode cX4_writeInner 80 = .ok (.iadd, 1) := by decide +kernel
theorem dX4_writeInner_81 : decode cX4_writeInner 81 = .ok (.invokevirtual 31, 3) := by decide +kernel
theorem dX4_writeInner_84 : decode cX4_writeInner 84 = .ok (.iload 8, 2) := by decide +kernel
theorem dX4_writeInner_86 : decode cX4_writeInner 86 = .ok (.ifCond .eq 10, 3) := by decide +kernel
theorem dX4_writeInner_89 : decode cX4_writeInner 89 = .ok (.aload_n 3, 1) := by decide +kernel
theorem dX4_writeInner_90 : decode cX4_writeInner 90 = .ok (.bipush 41, 2) := by decide +kernel
theorem dX4_writeInner_92 : decode cX4_writeInner 92 = .ok (.invokevirtual 35, 3) := by decide +kernel
theorem dX4_writeInner_95 : decode cX4_writeInner 95 = .ok (.pop, 1) := by decide +kernel
theorem dX4_writeInner_96 : decode cX4_writeInner 96 = .ok (.aload_n 0, 1) := by decide +kernel
theorem dX4_writeInner_97 : decode cX4_writeInner 97 = .ok (.iload 5, 2) := by decide +kernel
theorem dX4_writeInner_99 : decode cX4_writeInner 99 = .ok (.bipush 8, 2) := by decide +kernel
theorem dX4_writeInner_101 : decode cX4_writeInner 101 = .ok (.invokevirtual 23, 3) := by decide +kernel
theorem dX4_writeInner_104 : decode cX4_writeInner 104 = .ok (.istore 5, 2) := by decide +kernel
theorem dX4_writeInner_106 : decode cX4_writeInner 106 = .ok (.iinc 7 1, 3) := by decide +kernel
theorem dX4_writeInner_109 : decode cX4_writeInner 109 = .ok (.goto (-89), 3) := by decide +kernel
theorem dX4_writeInner_112 : decode cX4_writeInner 112 = .ok (.return_, 1) := by decide +kernel
theorem dX4_needsBrackets_0 : decode cX4_needsBrackets 0 = .ok (.iload_n 0, 1) := by decide +kernel
theorem dX4_needsBrackets_1 : decode cX4_needsBrackets 1 = .ok (.tableswitch 75 3 5 #[27, 43, 54], 27) := by decide +kernel
theorem dX4_needsBrackets_28 : decode cX4_needsBrackets 28 = .ok (.iload_n 1, 1) := by decide +kernel
theorem dX4_needsBrackets_29 : decode cX4_needsBrackets 29 = .ok (.iconst 3, 1) := by decide +kernel
theorem dX4_needsBrackets_30 : decode cX4_needsBrackets 30 = .ok (.if_icmp .eq 8, 3) := by decide +kernel
theorem dX4_needsBrackets_33 : decode cX4_needsBrackets 33 = .ok (.iload_n 1, 1) := by decide +kernel
theorem dX4_needsBrackets_34 : decode cX4_needsBrackets 34 = .ok (.iconst 4, 1) := by decide +kernel
theorem dX4_needsBrackets_35 : decode cX4_needsBrackets 35 = .ok (.if_icmp .ne 7, 3) := by decide +kernel
theorem dX4_needsBrackets_38 : decode cX4_needsBrackets 38 = .ok (.iconst 1, 1) := by decide +kernel
theorem dX4_needsBrackets_39 : decode cX4_needsBrackets 39 = .ok (.goto 4, 3) := by decide +kernel
theorem dX4_needsBrackets_42 : decode cX4_needsBrackets 42 = .ok (.iconst 0, 1) := by decide +kernel
theorem dX4_needsBrackets_43 : decode cX4_needsBrackets 43 = .ok (.ireturn, 1) := by decide +kernel
theorem dX4_needsBrackets_44 : decode cX4_needsBrackets 44 = .ok (.iload_n 1, 1) := by decide +kernel
theorem dX4_needsBrackets_45 : decode cX4_needsBrackets 45 = .ok (.iconst 4, 1) := by decide +kernel
theorem dX4_needsBrackets_46 : decode cX4_needsBrackets 46 = .ok (.if_icmp .ne 7, 3) := by decide +kernel
theorem dX4_needsBrackets_49 : decode cX4_needsBrackets 49 = .ok (.iconst 1, 1) := by decide +kernel
theorem dX4_needsBrackets_50 : decode cX4_needsBrackets 50 = .ok (.goto 4, 3) := by decide +kernel
theorem dX4_needsBrackets_53 : decode cX4_needsBrackets 53 = .ok (.iconst 0, 1) := by decide +kernel
theorem dX4_needsBrackets_54 : decode cX4_needsBrackets 54 = .ok (.ireturn, 1) := by decide +kernel
theorem dX4_needsBrackets_55 : decode cX4_needsBrackets 55 = .ok (.iload_n 1, 1) := by decide +kernel
theorem dX4_needsBrackets_56 : decode cX4_needsBrackets 56 = .ok (.iconst 3, 1) := by decide +kernel
theorem dX4_needsBrackets_57 : decode cX4_needsBrackets 57 = .ok (.if_icmp .eq 13, 3) := by decide +kernel
theorem dX4_needsBrackets_60 : decode cX4_needsBrackets 60 = .ok (.iload_n 1, 1) := by decide +kernel
theorem dX4_needsBrackets_61 : decode cX4_needsBrackets 61 = .ok (.iconst 4, 1) := by decide +kernel
theorem dX4_needsBrackets_62 : decode cX4_needsBrackets 62 = .ok (.if_icmp .eq 8, 3) := by decide +kernel
theorem dX4_needsBrackets_65 : decode cX4_needsBrackets 65 = .ok (.iload_n 1, 1) := by decide +kernel
theorem dX4_needsBrackets_66 : decode cX4_needsBrackets 66 = .ok (.iconst 5, 1) := by decide +kernel
theorem dX4_needsBrackets_67 : decode cX4_needsBrackets 67 = .ok (.if_icmp .ne 7, 3) := by decide +kernel
theorem dX4_needsBrackets_70 : decode cX4_needsBrackets 70 = .ok (.iconst 1, 1) := by decide +kernel
theorem dX4_needsBrackets_71 : decode cX4_needsBrackets 71 = .ok (.goto 4, 3) := by decide +kernel
theorem dX4_needsBrackets_74 : decode cX4_needsBrackets 74 = .ok (.iconst 0, 1) := by decide +kernel
theorem dX4_needsBrackets_75 : decode cX4_needsBrackets 75 = .ok (.ireturn, 1) := by decide +kernel
theorem dX4_needsBrackets_76 : decode cX4_needsBrackets 76 = .ok (.iconst 0, 1) := by decide +kernel
theorem dX4_needsBrackets_77 : decode cX4_needsBrackets 77 = .ok (.ireturn, 1) := by decide +kernel
theorem dX4_writeQuantity_0 : decode cX4_writeQuantity 0 = .ok (.aload_n 0, 1) := by decide +kernel
theorem dX4_writeQuantity_1 : decode cX4_writeQuantity 1 = .ok (.iload_n 1, 1) := by decide +kernel
theorem dX4_writeQuantity_2 : decode cX4_writeQuantity 2 = .ok (.iconst 3, 1) := by decide +kernel
theorem dX4_writeQuantity_3 : decode cX4_writeQuantity 3 = .ok (.invokevirtual 23, 3) := by decide +kernel
theorem dX4_writeQuantity_6 : decode cX4_writeQuantity 6 = .ok (.istore_n 3, 1) := by decide +kernel
theorem dX4_writeQuantity_7 : decode cX4_writeQuantity 7 = .ok (.aload_n 0, 1) := by decide +kernel
theorem dX4_writeQuantity_8 : decode cX4_writeQuantity 8 = .ok (.iload_n 1, 1) := by decide +kernel
theorem dX4_writeQuantity_9 : decode cX4_writeQuantity 9 = .ok (.iconst 4, 1) := by decide +kernel
theorem dX4_writeQuantity_10 : decode cX4_writeQuantity 10 = .ok (.invokevirtual 23, 3) := by decide +kernel
theorem dX4_writeQuantity_13 : decode cX4_writeQuantity 13 = .ok (.istore 4, 2) := by decide +kernel
theorem dX4_writeQuantity_15 : decode cX4_writeQuantity 15 = .ok (.iload 4, 2) := by decide +kernel
theorem dX4_writeQuantity_17 : decode cX4_writeQuantity 17 = .ok (.bipush 100, 2) := by decide +kernel
theorem dX4_writeQuantity_19 : decode cX4_writeQuantity 19 = .ok (.if_icmp .ne 27, 3) := by decide +kernel
theorem dX4_writeQuantity_22 : decode cX4_writeQuantity 22 = .ok (.iload_n 3, 1) := by decide +kernel
theorem dX4_writeQuantity_23 : decode cX4_writeQuantity 23 = .ok (.iconst 2, 1) := by decide +kernel
theorem dX4_writeQuantity_24 : decode cX4_writeQuantity 24 = .ok (.if_icmp .ge 22, 3) := by decide +kernel
theorem dX4_writeQuantity_27 : decode cX4_writeQuantity 27 = .ok (.aload_n 2, 1) := by decide +kernel
theorem dX4_writeQuantity_28 : decode cX4_writeQuantity 28 = .ok (.iload_n 3, 1) := by decide +kernel
theorem dX4_writeQuantity_29 : decode cX4_writeQuantity 29 = .ok (.ifCond .ne 8, 3) := by decide +kernel
theorem dX4_writeQuantity_32 : decode cX4_writeQuantity 32 = .ok (.bipush 42, 2) := by decide +kernel
theorem dX4_writeQuantity_34 : decode cX4_writeQuantity 34 = .ok (.goto 5, 3) := by decide +kernel
theorem dX4_writeQuantity_37 : decode cX4_writeQuantity 37 = .ok (.bipush 43, 2) := by decide +kernel
theorem dX4_writeQuantity_39 : decode cX4_writeQuantity 39 = .ok (.invokevirtual 35, 3) := by decide +kernel
theorem dX4_writeQuantity_42 : decode cX4_writeQuantity 42 = .ok (.pop, 1) := by decide +kernel
theorem dX4_writeQuantity_43 : decode cX4_writeQuantity 43 = .ok (.goto 74, 3) := by decide +kernel
theorem dX4_writeQuantity_46 : decode cX4_writeQuantity 46 = .ok (.iload_n 3, 1) := by decide +kernel
theorem dX4_writeQuantity_47 : decode cX4_writeQuantity 47 = .ok (.ifCond .ne 19, 3) := by decide +kernel
theorem dX4_writeQuantity_50 : decode cX4_writeQuantity 50 = .ok (.iload 4, 2) := by decide +kernel
theorem dX4_writeQuantity_52 : decode cX4_writeQuantity 52 = .ok (.iconst 1, 1) := by decide +kernel
theorem dX4_writeQuantity_53 : decode cX4_writeQuantity 53 = .ok (.if_icmp .ne 13, 3) := by decide +kernel
theorem dX4_writeQuantity_56 : decode cX4_writeQuantity 56 = .ok (.aload_n 2, 1) := by decide +kernel
theorem dX4_writeQuantity_57 : decode cX4_writeQuantity 57 = .ok (.bipush 63, 2) := by decide +kernel
theorem dX4_writeQuantity_59 : decode cX4_writeQuantity 59 = .ok (.invokevirtual 35, 3) := by decide +kernel
theorem dX4_writeQuantity_62 : decode cX4_writeQuantity 62 = .ok (.pop, 1) := by decide +kernel
theorem dX4_writeQuantity_63 : decode cX4_writeQuantity 63 = .ok (.goto 54, 3) := by decide +kernel
theorem dX4_writeQuantity_66 : decode cX4_writeQuantity 66 = .ok (.aload_n 2, 1) := by decide +kernel
theorem dX4_writeQuantity_67 : decode cX4_writeQuantity 67 = .ok (.bipush 123, 2) := by decide +kernel
theorem dX4_writeQuantity_69 : decode cX4_writeQuantity 69 = .ok (.invokevirtual 35, 3) := by decide +kernel
theorem dX4_writeQuantity_72 : decode cX4_writeQuantity 72 = .ok (.pop, 1) := by decide +kernel
theorem dX4_writeQuantity_73 : decode cX4_writeQuantity 73 = .ok (.iload_n 3, 1) := by decide +kernel
theorem dX4_writeQuantity_74 : decode cX4_writeQuantity 74 = .ok (.aload_n 2, 1) := by decide +kernel
theorem dX4_writeQuantity_75 : decode cX4_writeQuantity 75 = .ok (.invokestatic 52, 3) := by decide +kernel
theorem dX4_writeQuantity_78 : decode cX4_writeQuantity 78 = .ok (.iload 4, 2) := by decide +kernel
theorem dX4_writeQuantity_80 : decode cX4_writeQuantity 80 = .ok (.iload_n 3, 1) := by decide +kernel
theorem dX4_writeQuantity_81 : decode cX4_writeQuantity 81 = .ok (.if_icmp .eq 10, 3) := by decide +kernel
theorem dX4_writeQuantity_84 : decode cX4_writeQuantity 84 = .ok (.aload_n 2, 1) := by decide +kernel
theorem dX4_writeQuantity_85 : decode cX4_writeQuantity 85 = .ok (.bipush 44, 2) := by decide +kernel
theorem dX4_writeQuantity_87 : decode cX4_writeQuantity 87 = .ok (.invokevirtual 35, 3) := by decide +kernel
theorem dX4_writeQuantity_90 : decode cX4_writeQuantity 90 = .ok (.pop, 1) := by decide +kernel
theorem dX4_writeQuantity_91 : decode cX4_writeQuantity 91 = .ok (.iload 4, 2) := by decide +kernel
theorem dX4_writeQuantity_93 : decode cX4_writeQuantity 93 = .ok (.iload_n 3, 1) := by decide +kernel
theorem dX4_writeQuantity_94 : decode cX4_writeQuantity 94 = .ok (.if_icmp .eq 16, 3) := by decide +kernel
theorem dX4_writeQuantity_97 : decode cX4_writeQuantity 97 = .ok (.iload 4, 2) := by decide +kernel
theorem dX4_writeQuantity_99 : decode cX4_writeQuantity 99 = .ok (.bipush 100, 2) := by decide +kernel
theorem dX4_writeQuantity_101 : decode cX4_writeQuantity 101 = .ok (.if_icmp .eq 9, 3) := by decide +kernel
theorem dX4_writeQuantity_104 : decode cX4_writeQuantity 104 = .ok (.iload 4, 2) := by decide +kernel
theorem dX4_writeQuantity_106 : decode cX4_writeQuantity 106 = .ok (.aload_n 2, 1) := by decide +kernel
theorem dX4_writeQuantity_107 : decode cX4_writeQuantity 107 = .ok (.invokestatic 52, 3) := by decide +kernel
theorem dX4_writeQuantity_110 : decode cX4_writeQuantity 110 = .ok (.aload_n 2, 1) := by decide +kernel
theorem dX4_writeQuantity_111 : decode cX4_writeQuantity 111 = .ok (.bipush 125, 2) := by decide +kernel
theorem dX4_writeQuantity_113 : decode cX4_writeQuantity 113 = .ok (.invokevirtual 35, 3) := by decide +kernel
theorem dX4_writeQuantity_116 : decode cX4_writeQuantity 116 = .ok (.pop, 1) := by decide +kernel
theorem dX4_writeQuantity_117 : decode cX4_writeQuantity 117 = .ok (.aload_n 0, 1) := by decide +kernel
theorem dX4_writeQuantity_118 : decode cX4_writeQuantity 118 = .ok (.iload_n 1, 1) := by decide +kernel
theorem dX4_writeQuantity_119 : decode cX4_writeQuantity 119 = .ok (.iconst 5, 1) := by decide +kernel
theorem dX4_writeQuantity_120 : decode cX4_writeQuantity 120 = .ok (.invokevirtual 23, 3) := by decide +kernel
theorem dX4_writeQuantity_123 : decode cX4_writeQuantity 123 = .ok (.ifCond .ne 10, 3) := by decide +kernel
theorem dX4_writeQuantity_126 : decode cX4_writeQuantity 126 = .ok (.aload_n 2, 1) := by decide +kernel
theorem dX4_writeQuantity_127 : decode cX4_writeQuantity 127 = .ok (.bipush 63, 2) := by decide +kernel
theorem dX4_writeQuantity_129 : decode cX4_writeQuantity 129 = .ok (.invokevirtual 35, 3) := by decide +kernel
theorem dX4_writeQuantity_132 : decode cX4_writeQuantity 132 = .ok (.pop, 1) := by decide +kernel
theorem dX4_writeQuantity_133 : decode cX4_writeQuantity 133 = .ok (.return_, 1) := by decide +kernel
theorem dX4_writeNumber_0 : decode cX4_writeNumber 0 = .ok (.iload_n 0, 1) := by decide +kernel
theorem dX4_writeNumber_1 : decode cX4_writeNumber 1 = .ok (.bipush 9, 2) := by decide +kernel
theorem dX4_writeNumber_3 : decode cX4_writeNumber 3 = .ok (.if_icmp .le 15, 3) := by decide +kernel
theorem dX4_writeNumber_6 : decode cX4_writeNumber 6 = .ok (.aload_n 1, 1) := by decide +kernel
theorem dX4_writeNumber_7 : decode cX4_writeNumber 7 = .ok (.bipush 48, 2) := by decide +kernel
theorem dX4_writeNumber_9 : decode cX4_writeNumber 9 = .ok (.iload_n 0, 1) := by decide +kernel
theorem dX4_writeNumber_10 : decode cX4_writeNumber 10 = .ok (.bipush 10, 2) := by decide +kernel
theorem dX4_writeNumber_12 : decode cX4_writeNumber 12 = .ok (.idiv, 1) := by decide +kernel
theorem dX4_writeNumber_13 : decode cX4_writeNumber 13 = .ok (.iadd, 1) := by decide +kernel
theorem dX4_writeNumber_14 : decode cX4_writeNumber 14 = .ok (.invokevirtual 35, 3) := by decide +kernel
theorem dX4_writeNumber_17 : decode cX4_writeNumber 17 = .ok (.pop, 1) := by decide +kernel
theorem dX4_writeNumber_18 : decode cX4_writeNumber 18 = .ok (.aload_n 1, 1) := by decide +kernel
theorem dX4_writeNumber_19 : decode cX4_writeNumber 19 = .ok (.bipush 48, 2) := by decide +kernel
theorem dX4_writeNumber_21 : decode cX4_writeNumber 21 = .ok (.iload_n 0, 1) := by decide +kernel
theorem dX4_writeNumber_22 : decode cX4_writeNumber 22 = .ok (.bipush 10, 2) := by decide +kernel
theorem dX4_writeNumber_24 : decode cX4_writeNumber 24 = .ok (.irem, 1) := by decide +kernel
theorem dX4_writeNumber_25 : decode cX4_writeNumber 25 = .ok (.iadd, 1) := by decide +kernel
theorem dX4_writeNumber_26 : decode cX4_writeNumber 26 = .ok (.invokevirtual 35, 3) := by decide +kernel
theorem dX4_writeNumber_29 : decode cX4_writeNumber 29 = .ok (.pop, 1) := by decide +kernel
theorem dX4_writeNumber_30 : decode cX4_writeNumber 30 = .ok (.return_, 1) := by decide +kernel
theorem dX5_init_0 : decode cX5_init 0 = .ok (.aload_n 0, 1) := by decide +kernel
theorem dX5_init_1 : decode cX5_init 1 = .ok (.invokespecial 3, 3) := by decide +kernel
theorem dX5_init_4 : decode cX5_init 4 = .ok (.aload_n 0, 1) := by decide +kernel
theorem dX5_init_5 : decode cX5_init 5 = .ok (.iconst (-1), 1) := by decide +kernel
theorem dX5_init_6 : decode cX5_init 6 = .ok (.putfield 9, 3) := by decide +kernel
theorem dX5_init_9 : decode cX5_init 9 = .ok (.aload_n 0, 1) := by decide +kernel
theorem dX5_init_10 : decode cX5_init 10 = .ok (.aload_n 1, 1) := by decide +kernel
theorem dX5_init_11 : decode cX5_init 11 = .ok (.putfield 15, 3) := by decide +kernel
theorem dX5_init_14 : decode cX5_init 14 = .ok (.aload_n 0, 1) := by decide +kernel
theorem dX5_init_15 : decode cX5_init 15 = .ok (.new 19, 3) := by decide +kernel
theorem dX5_init_18 : decode cX5_init 18 = .ok (.dup, 1) := by decide +kernel
theorem dX5_init_19 : decode cX5_init 19 = .ok (.iconst 2, 1) := by decide +kernel
theorem dX5_init_20 : decode cX5_init 20 = .ok (.aload_n 1, 1) := by decide +kernel
theorem dX5_init_21 : decode cX5_init 21 = .ok (.getfield 21, 3) := by decide +kernel
theorem dX5_init_24 : decode cX5_init 24 = .ok (.imul, 1) := by decide +kernel
theorem dX5_init_25 : decode cX5_init 25 = .ok (.invokespecial 26, 3) := by decide +kernel
theorem dX5_init_28 : decode cX5_init 28 = .ok (.putfield 29, 3) := by decide +kernel
theorem dX5_init_31 : decode cX5_init 31 = .ok (.return_, 1) := by decide +kernel
theorem dX5_read_0 : decode cX5_read 0 = .ok (.aload_n 0, 1) := by decide +kernel
theorem dX5_read_1 : decode cX5_read 1 = .ok (.iconst 0, 1) := by decide +kernel
theorem dX5_read_2 : decode cX5_read 2 = .ok (.invokevirtual 33, 3) := by decide +kernel
theorem dX5_read_5 : decode cX5_read 5 = .ok (.istore_n 1, 1) := by decide +kernel
theorem dX5_read_6 : decode cX5_read 6 = .ok (.iload_n 1, 1) := by decide +kernel
theorem dX5_read_7 : decode cX5_read 7 = .ok (.ifCond .lt 26, 3) := by decide +kernel
theorem dX5_read_10 : decode cX5_read 10 = .ok (.aload_n 0, 1) := by decide +kernel
theorem dX5_read_11 : decode cX5_read 11 = .ok (.getfield 37, 3) := by decide +kernel
theorem dX5_read_14 : decode cX5_read 14 = .ok (.aload_n 0, 1) := by decide +kernel
theorem dX5_read_15 : decode cX5_read 15 = .ok (.getfield 15, 3) := by decide +kernel
theorem dX5_read_18 : decode cX5_read 18 = .ok (.getfield 21, 3) := by decide +kernel
theorem dX5_read_21 : decode cX5_read 21 = .ok (.if_icmp .ge 12, 3) := by decide +kernel
theorem dX5_read_24 : decode cX5_read 24 = .ok (.aload_n 0, 1) := by decide +kernel
theorem dX5_read_25 : decode cX5_read 25 = .ok (.aload_n 0, 1) := by decide +kernel
theorem dX5_read_26 : decode cX5_read 26 = .ok (.getfield 37, 3) := by decide +kernel
theorem dX5_read_29 : decode cX5_read 29 = .ok (.invokevirtual 40, 3) := by decide +kernel
theorem dX5_read_32 : decode cX5_read 32 = .ok (.pop, 1) := by decide +kernel
theorem dX5_read_33 : decode cX5_read 33 = .ok (.aload_n 0, 1) := by decide +kernel
theorem dX5_read_34 : decode cX5_read 34 = .ok (.getfield 9, 3) := by decide +kernel
theorem dX5_read_37 : decode cX5_read 37 = .ok (.iconst (-1), 1) := by decide +kernel
theorem dX5_read_38 : decode cX5_read 38 = .ok (.if_icmp .ne 14, 3) := by decide +kernel
theorem dX5_read_41 : decode cX5_read 41 = .ok (.iload_n 1, 1) := by decide +kernel
theorem dX5_read_42 : decode cX5_read 42 = .ok (.ifCond .lt 10, 3) := by decide +kernel
theorem dX5_read_45 : decode cX5_read 45 = .ok (.aload_n 0, 1) := by decide +kernel
theorem dX5_read_46 : decode cX5_read 46 = .ok (.getfield 29, 3) := by decide +kernel
theorem dX5_read_49 : decode cX5_read 49 = .ok (.goto 4, 3) := by decide +kernel
theorem dX5_read_52 : decode cX5_read 52 = .ok (.aconst_null, 1) := by decide +kernel
theorem dX5_read_53 : decode cX5_read 53 = .ok (.areturn, 1) := by decide +kernel
theorem dX5_failed_0 : decode cX5_failed 0 = .ok (.aload_n 0, 1) := by decide +kernel
theorem dX5_failed_1 : decode cX5_failed 1 = .ok (.getfield 9, 3) := by decide +kernel
theorem dX5_failed_4 : decode cX5_failed 4 = .ok (.iconst (-1), 1) := by decide +kernel
theorem dX5_failed_5 : decode cX5_failed 5 = .ok (.if_icmp .ne 8, 3) := by decide +kernel
theorem dX5_failed_8 : decode cX5_failed 8 = .ok (.aload_n 0, 1) := by decide +kernel
theorem dX5_failed_9 : decode cX5_failed 9 = .ok (.iload_n 1, 1) := by decide +kernel
theorem dX5_failed_10 : decode cX5_failed 10 = .ok (.putfield 9, 3) := by decide +kernel
theorem dX5_failed_13 : decode cX5_failed 13 = .ok (.iconst (-1), 1) := by decide +kernel
theorem dX5_failed_14 : decode cX5_failed 14 = .ok (.ireturn, 1) := by decide +kernel
theorem dX5_comes_0 : decode cX5_comes 0 = .ok (.aload_n 0, 1) := by decide +kernel
theorem dX5_comes_1 : decode cX5_comes 1 = .ok (.getfield 15, 3) := by decide +kernel
theorem dX5_comes_4 : decode cX5_comes 4 = .ok (.aload_n 0, 1) := by decide +kernel
theorem dX5_comes_5 : decode cX5_comes 5 = .ok (.getfield 37, 3) := by decide +kernel
theorem dX5_comes_8 : decode cX5_comes 8 = .ok (.invokevirtual 43, 3) := by decide +kernel
theorem dX5_comes_11 : decode cX5_comes 11 = .ok (.iload_n 1, 1) := by decide +kernel
theorem dX5_comes_12 : decode cX5_comes 12 = .ok (.if_icmp .ne 7, 3) := by decide +kernel
theorem dX5_comes_15 : decode cX5_comes 15 = .ok (.iconst 1, 1) := by decide +kernel
theorem dX5_comes_16 : decode cX5_comes 16 = .ok (.goto 4, 3) := by decide +kernel
theorem dX5_comes_19 : decode cX5_comes 19 = .ok (.iconst 0, 1) := by decide +kernel
theorem dX5_comes_20 : decode cX5_comes 20 = .ok (.ireturn, 1) := by decide +kernel
theorem dX5_choice_0 : decode cX5_choice 0 = .ok (.aload_n 0, 1) := by decide +kernel
theorem dX5_choice_1 : decode cX5_choice 1 = .ok (.iload_n 1, 1) := by decide +kernel
theorem dX5_choice_2 : decode cX5_choice 2 = .ok (.invokevirtual 46, 3) := by decide +kernel
theorem dX5_choice_5 : decode cX5_choice 5 = .ok (.istore_n 2, 1) := by decide +kernel
theorem dX5_choice_6 : decode cX5_choice 6 = .ok (.iload_n 2, 1) := by decide +kernel
theorem dX5_choice_7 : decode cX5_choice 7 = .ok (.istore_n 3, 1) := by decide +kernel
theorem dX5_choice_8 : decode cX5_choice 8 = .ok (.iconst 1, 1) := by decide +kernel
theorem dX5_choice_9 : decode cX5_choice 9 = .ok (.istore 4, 2) := by decide +kernel
theorem dX5_choice_11 : decode cX5_choice 11 = .ok (.iload 4, 2) := by decide +kernel
theorem dX5_choice_13 : decode cX5_choice 13 = .ok (.bipush 120, 2) := by decide +kernel
theorem dX5_choice_15 : decode cX5_choice 15 = .ok (.if_icmp .gt 52, 3) := by decide +kernel
theorem dX5_choice_18 : decode cX5_choice 18 = .ok (.iload_n 3, 1) := by decide +kernel
theorem dX5_choice_19 : decode cX5_choice 19 = .ok (.ifCond .lt 48, 3) := by decide +kernel
theorem dX5_choice_22 : decode cX5_choice 22 = .ok (.aload_n 0, 1) := by decide +kernel
theorem dX5_choice_23 : decode cX5_choice 23 = .ok (.bipush 124, 2) := by decide +kernel
theorem dX5_choice_25 : decode cX5_choice 25 = .ok (.invokevirtual 49, 3) := by decide +kernel
theorem dX5_choice_28 : decode cX5_choice 28 = .ok (.ifCond .eq 39, 3) := by decide +kernel
theorem dX5_choice_31 : decode cX5_choice 31 = .ok (.aload_n 0, 1) := by decide +kernel
theorem dX5_choice_32 : decode cX5_choice 32 = .ok (.dup, 1) := by decide +kernel
theorem dX5_choice_33 : decode cX5_choice 33 = .ok (.getfield 37, 3) := by decide +kernel
theorem dX5_choice_36 : decode cX5_choice 36 = .ok (.iconst 1, 1) := by decide +kernel
theorem dX5_choice_37 : decode cX5_choice 37 = .ok (.iadd, 1) := by decide +kernel
theorem dX5_choice_38 : decode cX5_choice 38 = .ok (.putfield 37, 3) := by decide +kernel
theorem dX5_choice_41 : decode cX5_choice 41 = .ok (.aload_n 0, 1) := by decide +kernel
theorem dX5_choice_42 : decode cX5_choice 42 = .ok (.iload_n 1, 1) := by decide +kernel
theorem dX5_choice_43 : decode cX5_choice 43 = .ok (.invokevirtual 46, 3) := by decide +kernel
theorem dX5_choice_46 : decode cX5_choice 46 = .ok (.istore 5, 2) := by decide +kernel
theorem dX5_choice_48 : decode cX5_choice 48 = .ok (.aload_n 0, 1) := by decide +kernel
theorem dX5_choice_49 : decode cX5_choice 49 = .ok (.getfield 29, 3) := by decide +kernel
theorem dX5_choice_52 : decode cX5_choice 52 = .ok (.iload_n 3, 1) := by decide +kernel
theorem dX5_choice_53 : decode cX5_choice 53 = .ok (.iload 5, 2) := by decide +kernel
theorem dX5_choice_55 : decode cX5_choice 55 = .ok (.invokevirtual 53, 3) := by decide +kernel
theorem dX5_choice_58 : decode cX5_choice 58 = .ok (.iload 5, 2) := by decide +kernel
theorem dX5_choice_60 : decode cX5_choice 60 = .ok (.istore_n 3, 1) := by decide +kernel
theorem dX5_choice_61 : decode cX5_choice 61 = .ok (.iinc 4 1, 3) := by decide +kernel
theorem dX5_choice_64 : decode cX5_choice 64 = .ok (.goto (-53), 3) := by decide +kernel
theorem dX5_choice_67 : decode cX5_choice 67 = .ok (.iload_n 3, 1) := by decide +kernel
theorem dX5_choice_68 : decode cX5_choice 68 = .ok (.ifCond .lt 9, 3) := by decide +kernel
theorem dX5_choice_71 : decode cX5_choice 71 = .ok (.iload 4, 2) := by decide +kernel
theorem dX5_choice_73 : decode cX5_choice 73 = .ok (.iconst 1, 1) := by decide +kernel
theorem dX5_choice_74 : decode cX5_choice 74 = .ok (.if_icmp .ne 7, 3) := by decide +kernel
theorem dX5_choice_77 : decode cX5_choice 77 = .ok (.iload_n 3, 1) := by decide +kernel
theorem dX5_choice_78 : decode cX5_choice 78 = .ok (.goto 14, 3) := by decide +kernel
theorem dX5_choice_81 : decode cX5_choice 81 = .ok (.aload_n 0, 1) := by decide +kernel
theorem dX5_choice_82 : decode cX5_choice 82 = .ok (.getfield 29, 3) := by decide +kernel
theorem dX5_choice_85 : decode cX5_choice 85 = .ok (.iconst 4, 1) := by decide +kernel
theorem dX5_choice_86 : decode cX5_choice 86 = .ok (.iload_n 2, 1) := by decide +kernel
theorem dX5_choice_87 : decode cX5_choice 87 = .ok (.iload 4, 2) := by decide +kernel
theorem dX5_choice_89 : decode cX5_choice 89 = .ok (.invokevirtual 57, 3) := by decide +kernel
theorem dX5_choice_92 : decode cX5_choice 92 = .ok (.ireturn, 1) := by decide +kernel
theorem dX5_sequence_0 : decode cX5_sequence 0 = .ok (.aload_n 0, 1) := by decide +kernel
theorem dX5_sequence_1 : decode cX5_sequence 1 = .ok (.iload_n 1, 1) := by decide +kernel
theorem dX5_sequence_2 : decode cX5_sequence 2 = .ok (.invokevirtual 61, 3) := by decide +kernel
theorem dX5_sequence_5 : decode cX5_sequence 5 = .ok (.istore_n 2, 1) := by decide +kernel
theorem dX5_sequence_6 : decode cX5_sequence 6 = .ok (.iload_n 2, 1) := by decide +kernel
theorem dX5_sequence_7 : decode cX5_sequence 7 = .ok (.istore_n 3, 1) := by decide +kernel
theorem dX5_sequence_8 : decode cX5_sequence 8 = .ok (.iconst 1, 1) := by decide +kernel
theorem dX5_sequence_9 : decode cX5_sequence 9 = .ok (.istore 4, 2) := by decide +kernel
theorem dX5_sequence_11 : decode cX5_sequence 11 = .ok (.iload 4, 2) := by decide +kernel
theorem dX5_sequence_13 : decode cX5_sequence 13 = .ok (.bipush 120, 2) := by decide +kernel
theorem dX5_sequence_15 : decode cX5_sequence 15 = .ok (.if_icmp .gt 41, 3) := by decide +kernel
theorem dX5_sequence_18 : decode cX5_sequence 18 = .ok (.iload_n 3, 1) := by decide +kernel
theorem dX5_sequence_19 : decode cX5_sequence 19 = .ok (.ifCond .lt 37, 3) := by decide +kernel
theorem dX5_sequence_22 : decode cX5_sequence 22 = .ok (.aload_n 0, 1) := by decide +kernel
theorem dX5_sequence_23 : decode cX5_sequence 23 = .ok (.iload_n 1, 1) := by decide +kernel
theorem dX5_sequence_24 : decode cX5_sequence 24 = .ok (.invokevirtual 64, 3) := by decide +kernel
theorem dX5_sequence_27 : decode cX5_sequence 27 = .ok (.ifCond .eq 29, 3) := by decide +kernel
theorem dX5_sequence_30 : decode cX5_sequence 30 = .ok (.aload_n 0, 1) := by decide +kernel
theorem dX5_sequence_31 : decode cX5_sequence 31 = .ok (.iload_n 1, 1) := by decide +kernel
theorem dX5_sequence_32 : decode cX5_sequence 32 = .ok (.invokevirtual 61, 3) := by decide +kernel
theorem dX5_sequence_35 : decode cX5_sequence 35 = .ok (.istore 5, 2) := by decide +kernel
theorem dX5_sequence_37 : decode cX5_sequence 37 = .ok (.aload_n 0, 1) := by decide +kernel
theorem dX5_sequence_38 : decode cX5_sequence 38 = .ok (.getfield 29, 3) := by decide +kernel
theorem dX5_sequence_41 : decode cX5_sequence 41 = .ok (.iload_n 3, 1) := by decide +kernel
theorem dX5_sequence_42 : decode cX5_sequence 42 = .ok (.iload 5, 2) := by decide +kernel
theorem dX5_sequence_44 : decode cX5_sequence 44 = .ok (.invokevirtual 53, 3) := by decide +kernel
theorem dX5_sequence_47 : decode cX5_sequence 47 = .ok (.iload 5, 2) := by decide +kernel
theorem dX5_sequence_49 : decode cX5_sequence 49 = .ok (.istore_n 3, 1) := by decide +kernel
theorem dX5_sequence_50 : decode cX5_sequence 50 = .ok (.iinc 4 1, 3) := by decide +kernel
theorem dX5_sequence_53 : decode cX5_sequence 53 = .ok (.goto (-42), 3) := by decide +kernel
theorem dX5_sequence_56 : decode cX5_sequence 56 = .ok (.iload_n 3, 1) := by decide +kernel
theorem dX5_sequence_57 : decode cX5_sequence 57 = .ok (.ifCond .lt 9, 3) := by decide +kernel
theorem dX5_sequence_60 : decode cX5_sequence 60 = .ok (.iload 4, 2) := by decide +kernel
theorem dX5_sequence_62 : decode cX5_sequence 62 = .ok (.iconst 1, 1) := by decide +kernel
theorem dX5_sequence_63 : decode cX5_sequence 63 = .ok (.if_icmp .ne 7, 3) := by decide +kernel
theorem dX5_sequence_66 : decode cX5_sequence 66 = .ok (.iload_n 3, 1) := by decide +kernel
theorem dX5_sequence_67 : decode cX5_sequence 67 = .ok (.goto 14, 3) := by decide +kernel
theorem dX5_sequence_70 : decode cX5_sequence 70 = .ok (.aload_n 0, 1) := by decide +kernel
theorem dX5_sequence_71 : decode cX5_sequence 71 = .ok (.getfield 29, 3) := by decide +kernel
theorem dX5_sequence_74 : decode cX5_sequence 74 = .ok (.iconst 3, 1) := by decide +kernel
theorem dX5_sequence_75 : decode cX5_sequence 75 = .ok (.iload_n 2, 1) := by decide +kernel
theorem dX5_sequence_76 : decode cX5_sequence 76 = .ok (.iload 4, 2) := by decide +kernel
theorem dX5_sequence_78 : decode cX5_sequence 78 = .ok (.invokevirtual 57, 3) := by decide +kernel
theorem dX5_sequence_81 : decode cX5_sequence 81 = .ok (.ireturn, 1) := by decide +kernel
theorem dX5_atomComes_0 : decode cX5_atomComes 0 = .ok (.aload_n 0, 1) := by decide +kernel
theorem dX5_atomComes_1 : decode cX5_atomComes 1 = .ok (.getfield 15, 3) := by decide +kernel
theorem dX5_atomComes_4 : decode cX5_atomComes 4 = .ok (.aload_n 0, 1) := by decide +kernel
theorem dX5_atomComes_5 : decode cX5_atomComes 5 = .ok (.getfield 37, 3) := by decide +kernel
theorem dX5_atomComes_8 : decode cX5_atomComes 8 = .ok (.invokevirtual 43, 3) := by decide +kernel
theorem dX5_atomComes_11 : decode cX5_atomComes 11 = .ok (.istore_n 2, 1) := by decide +kernel
theorem dX5_atomComes_12 : decode cX5_atomComes 12 = .ok (.iload_n 2, 1) := by decide +kernel
theorem dX5_atomComes_13 : decode cX5_atomComes 13 = .ok (.bipush 65, 2) := by decide +kernel
theorem dX5_atomComes_15 : decode cX5_atomComes 15 = .ok (.isub, 1) := by decide +kernel
theorem dX5_atomComes_16 : decode cX5_atomComes 16 = .ok (.invokestatic 67, 3) := by decide +kernel
theorem dX5_atomComes_19 : decode cX5_atomComes 19 = .ok (.ifCond .ne 32, 3) := by decide +kernel
theorem dX5_atomComes_22 : decode cX5_atomComes 22 = .ok (.iload_n 2, 1) := by decide +kernel
theorem dX5_atomComes_23 : decode cX5_atomComes 23 = .ok (.bipush 94, 2) := by decide +kernel
theorem dX5_atomComes_25 : decode cX5_atomComes 25 = .ok (.if_icmp .eq 26, 3) := by decide +kernel
theorem dX5_atomComes_28 : decode cX5_atomComes 28 = .ok (.iload_n 2, 1) := by decide +kernel
theorem dX5_atomComes_29 : decode cX5_atomComes 29 = .ok (.bipush 36, 2) := by decide +kernel
theorem dX5_atomComes_31 : decode cX5_atomComes 31 = .ok (.if_icmp .eq 20, 3) := by decide +kernel
theorem dX5_atomComes_34 : decode cX5_atomComes 34 = .ok (.iload_n 1, 1) := by decide +kernel
theorem dX5_atomComes_35 : decode cX5_atomComes 35 = .ok (.iconst 5, 1) := by decide +kernel
theorem dX5_atomComes_36 : decode cX5_atomComes 36 = .ok (.if_icmp .ge 19, 3) := by decide +kernel
theorem dX5_atomComes_39 : decode cX5_atomComes 39 = .ok (.iload_n 2, 1) := by decide +kernel
theorem dX5_atomComes_40 : decode cX5_atomComes 40 = .ok (.bipush 40, 2) := by decide +kernel
theorem dX5_atomComes_42 : decode cX5_atomComes 42 = .ok (.if_icmp .eq 9, 3) := by decide +kernel
theorem dX5_atomComes_45 : decode cX5_atomComes 45 = .ok (.iload_n 2, 1) := by decide +kernel
theorem dX5_atomComes_46 : decode cX5_atomComes 46 = .ok (.bipush 37, 2) := by decide +kernel
theorem dX5_atomComes_48 : decode cX5_atomComes 48 = .ok (.if_icmp .ne 7, 3) := by decide +kernel
theorem dX5_atomComes_51 : decode cX5_atomComes 51 = .ok (.iconst 1, 1) := by decide +kernel
theorem dX5_atomComes_52 : decode cX5_atomComes 52 = .ok (.goto 4, 3) := by decide +kernel
theorem dX5_atomComes_55 : decode cX5_atomComes 55 = .ok (.iconst 0, 1) := by decide +kernel
theorem dX5_atomComes_56 : decode cX5_atomComes 56 = .ok (.ireturn, 1) := by decide +kernel
theorem dX5_piece_0 : decode cX5_piece 0 = .ok (.aload_n 0, 1) := by decide +kernel
theorem dX5_piece_1 : decode cX5_piece 1 = .ok (.iload_n 1, 1) := by decide +kernel
theorem dX5_piece_2 : decode cX5_piece 2 = .ok (.invokevirtual 70, 3) := by decide +kernel
theorem dX5_piece_5 : decode cX5_piece 5 = .ok (.istore_n 2, 1) := by decide +kernel
theorem dX5_piece_6 : decode cX5_piece 6 = .ok (.iload_n 2, 1) := by decide +kernel
theorem dX5_piece_7 : decode cX5_piece 7 = .ok (.ifCond .ge 5, 3) := by decide +kernel
theorem dX5_piece_10 : decode cX5_piece 10 = .ok (.iconst (-1), 1) := by decide +kernel
theorem dX5_piece_11 : decode cX5_piece 11 = .ok (.ireturn, 1) := by decide +kernel
theorem dX5_piece_12 : decode cX5_piece 12 = .ok (.aload_n 0, 1) := by decide +kernel
theorem dX5_piece_13 : decode cX5_piece 13 = .ok (.getfield 15, 3) := by decide +kernel
theorem dX5_piece_16 : decode cX5_piece 16 = .ok (.aload_n 0, 1) := by decide +kernel
theorem dX5_piece_17 : decode cX5_piece 17 = .ok (.getfield 37, 3) := by decide +kernel
theorem dX5_piece_20 : decode cX5_piece 20 = .ok (.invokevirtual 43, 3) := by decide +kernel
theorem dX5_piece_23 : decode cX5_piece 23 = .ok (.lookupswitch 113 #[(42, 41), (43, 60), (63, 79), (123, 97)], 41) := by decide +kernel
theorem dX5_piece_64 : decode cX5_piece 64 = .ok (.aload_n 0, 1) := by decide +kernel
theorem dX5_piece_65 : decode cX5_piece 65 = .ok (.dup, 1) := by decide +kernel
theorem dX5_piece_66 : decode cX5_piece 66 = .ok (.getfield 37, 3) := by decide +kernel
theorem dX5_piece_69 : decode cX5_piece 69 = .ok (.iconst 1, 1) := by decide +kernel
theorem dX5_piece_70 : decode cX5_piece 70 = .ok (.iadd, 1) := by decide +kernel
theorem dX5_piece_71 : decode cX5_piece 71 = .ok (.putfield 37, 3) := by decide +kernel
theorem dX5_piece_74 : decode cX5_piece 74 = .ok (.aload_n 0, 1) := by decide +kernel
theorem dX5_piece_75 : decode cX5_piece 75 = .ok (.iload_n 2, 1) := by decide +kernel
theorem dX5_piece_76 : decode cX5_piece 76 = .ok (.iconst 0, 1) := by decide +kernel
theorem dX5_piece_77 : decode cX5_piece 77 = .ok (.bipush 100, 2) := by decide +kernel
theorem dX5_piece_79 : decode cX5_piece 79 = .ok (.invokevirtual 73, 3) := by decide +kernel
theorem dX5_piece_82 : decode cX5_piece 82 = .ok (.ireturn, 1) := by decide +kernel
theorem dX5_piece_83 : decode cX5_piece 83 = .ok (.aload_n 0, 1) := by decide +kernel
theorem dX5_piece_84 : decode cX5_piece 84 = .ok (.dup, 1) := by decide +kernel
theorem dX5_piece_85 : decode cX5_piece 85 = .ok (.getfield 37, 3) := by decide +kernel
theorem dX5_piece_88 : decode cX5_piece 88 = .ok (.iconst 1, 1) := by decide +kernel
theorem dX5_piece_89 : decode cX5_piece 89 = .ok (.iadd, 1) := by decide +kernel
theorem dX5_piece_90 : decode cX5_piece 90 = .ok (.putfield 37, 3) := by decide +kernel
theorem dX5_piece_93 : decode cX5_piece 93 = .ok (.aload_n 0, 1) := by decide +kernel
theorem dX5_piece_94 : decode cX5_piece 94 = .ok (.iload_n 2, 1) := by decide +kernel
theorem dX5_piece_95 : decode cX5_piece 95 = .ok (.iconst 1, 1) := by decide +kernel
theorem dX5_piece_96 : decode cX5_piece 96 = .ok (.bipush 100, 2) := by decide +kernel
theorem dX5_piece_98 : decode cX5_piece 98 = .ok (.invokevirtual 73, 3) := by decide +kernel
theorem dX5_piece_101 : decode cX5_piece 101 = .ok (.ireturn, 1) := by decide +kernel
theorem dX5_piece_102 : decode cX5_piece 102 = .ok (.aload_n 0, 1) := by decide +kernel
theorem dX5_piece_103 : decode cX5_piece 103 = .ok (.dup, 1) := by decide +kernel
theorem dX5_piece_104 : decode cX5_piece 104 = .ok (.getfield 37, 3) := by decide +kernel
theorem dX5_piece_107 : decode cX5_piece 107 = .ok (.iconst 1, 1) := by decide +kernel
theorem dX5_piece_108 : decode cX5_piece 108 = .ok (.iadd, 1) := by decide +kernel
theorem dX5_piece_109 : decode cX5_piece 109 = .ok (.putfield 37, 3) := by decide +kernel
theorem dX5_piece_112 : decode cX5_piece 112 = .ok (.aload_n 0, 1) := by decide +kernel
theorem dX5_piece_113 : decode cX5_piece 113 = .ok (.iload_n 2, 1) := by decide +kernel
theorem dX5_piece_114 : decode cX5_piece 114 = .ok (.iconst 0, 1) := by decide +kernel
theorem dX5_piece_115 : decode cX5_piece 115 = .ok (.iconst 1, 1) := by decide +kernel
theorem dX5_piece_116 : decode cX5_piece 116 = .ok (.invokevirtual 73, 3) := by decide +kernel
theorem dX5_piece_119 : decode cX5_piece 119 = .ok (.ireturn, 1) := by decide +kernel
theorem dX5_piece_120 : decode cX5_piece 120 = .ok (.aload_n 0, 1) := by decide +kernel
theorem dX5_piece_121 : decode cX5_piece 121 = .ok (.dup, 1) := by decide +kernel
theorem dX5_piece_122 : decode cX5_piece 122 = .ok (.getfield 37, 3) := by decide +kernel
theorem dX5_piece_125 : decode cX5_piece 125 = .ok (.iconst 1, 1) := by decide +kernel
theorem dX5_piece_126 : decode cX5_piece 126 = .ok (.iadd, 1) := by decide +kernel
theorem dX5_piece_127 : decode cX5_piece 127 = .ok (.putfield 37, 3) := by decide +kernel
theorem dX5_piece_130 : decode cX5_piece 130 = .ok (.aload_n 0, 1) := by decide +kernel
theorem dX5_piece_131 : decode cX5_piece 131 = .ok (.iload_n 2, 1) := by decide +kernel
theorem dX5_piece_132 : decode cX5_piece 132 = .ok (.invokevirtual 76, 3) := by decide +kernel
theorem dX5_piece_135 : decode cX5_piece 135 = .ok (.ireturn, 1) := by decide +kernel
theorem dX5_piece_136 : decode cX5_piece 136 = .ok (.iload_n 2, 1) := by decide +kernel
theorem dX5_piece_137 : decode cX5_piece 137 = .ok (.ireturn, 1) := by decide +kernel
theorem dX5_atom_0 : decode cX5_atom 0 = .ok (.aload_n 0, 1) := by decide +kernel
theorem dX5_atom_1 : decode cX5_atom 1 = .ok (.iload_n 1, 1) := by decide +kernel
theorem dX5_atom_2 : decode cX5_atom 2 = .ok (.invokevirtual 64, 3) := by decide +kernel
theorem dX5_atom_5 : decode cX5_atom 5 = .ok (.ifCond .ne 12, 3) := by decide +kernel
theorem dX5_atom_8 : decode cX5_atom 8 = .ok (.aload_n 0, 1) := by decide +kernel
theorem dX5_atom_9 : decode cX5_atom 9 = .ok (.aload_n 0, 1) := by decide +kernel
theorem dX5_atom_10 : decode cX5_atom 10 = .ok (.getfield 37, 3) := by decide +kernel
theorem dX5_atom_13 : decode cX5_atom 13 = .ok (.invokevirtual 40, 3) := by decide +kernel
theorem dX5_atom_16 : decode cX5_atom 16 = .ok (.ireturn, 1) := by decide +kernel
theorem dX5_atom_17 : decode cX5_atom 17 = .ok (.aload_n 0, 1) := by decide +kernel
theorem dX5_atom_18 : decode cX5_atom 18 = .ok (.getfield 15, 3) := by decide +kernel
theorem dX5_atom_21 : decode cX5_atom 21 = .ok (.aload_n 0, 1) := by decide +kernel
theorem dX5_atom_22 : decode cX5_atom 22 = .ok (.getfield 37, 3) := by decide +kernel
theorem dX5_atom_25 : decode cX5_atom 25 = .ok (.invokevirtual 43, 3) := by decide +kernel
theorem dX5_atom_28 : decode cX5_atom 28 = .ok (.istore_n 2, 1) := by decide +kernel
theorem dX5_atom_29 : decode cX5_atom 29 = .ok (.aload_n 0, 1) := by decide +kernel
theorem dX5_atom_30 : decode cX5_atom 30 = .ok (.dup, 1) := by decide +kernel
theorem dX5_atom_31 : decode cX5_atom 31 = .ok (.getfield 37, 3) := by decide +kernel
theorem dX5_atom_34 : decode cX5_atom 34 = .ok (.iconst 1, 1) := by decide +kernel
theorem dX5_atom_35 : decode cX5_atom 35 = .ok (.iadd, 1) := by decide +kernel
theorem dX5_atom_36 : decode cX5_atom 36 = .ok (.putfield 37, 3) := by decide +kernel
theorem dX5_atom_39 : decode cX5_atom 39 = .ok (.iload_n 2, 1) := by decide +kernel
theorem dX5_atom_40 : decode cX5_atom 40 = .ok (.lookupswitch 82 #[(36, 55), (37, 74), (40, 66), (94, 44)], 44) := by decide +kernel
theorem dX5_atom_84 : decode cX5_atom 84 = .ok (.aload_n 0, 1) := by decide +kernel
theorem dX5_atom_85 : decode cX5_atom 85 = .ok (.getfield 29, 3) := by decide +kernel
theorem dX5_atom_88 : decode cX5_atom 88 = .ok (.iconst 1, 1) := by decide +kernel
theorem dX5_atom_89 : decode cX5_atom 89 = .ok (.bipush (-5), 2) := by decide +kernel
theorem dX5_atom_91 : decode cX5_atom 91 = .ok (.invokevirtual 79, 3) := by decide +kernel
theorem dX5_atom_94 : decode cX5_atom 94 = .ok (.ireturn, 1) := by decide +kernel
theorem dX5_atom_95 : decode cX5_atom 95 = .ok (.aload_n 0, 1) := by decide +kernel
theorem dX5_atom_96 : decode cX5_atom 96 = .ok (.getfield 29, 3) := by decide +kernel
theorem dX5_atom_99 : decode cX5_atom 99 = .ok (.iconst 2, 1) := by decide +kernel
theorem dX5_atom_100 : decode cX5_atom 100 = .ok (.bipush (-5), 2) := by decide +kernel
theorem dX5_atom_102 : decode cX5_atom 102 = .ok (.invokevirtual 79, 3) := by decide +kernel
theorem dX5_atom_105 : decode cX5_atom 105 = .ok (.ireturn, 1) := by decide +kernel
theorem dX5_atom_106 : decode cX5_atom 106 = .ok (.aload_n 0, 1) := by decide +kernel
theorem dX5_atom_107 : decode cX5_atom 107 = .ok (.iload_n 1, 1) := by decide +kernel
theorem dX5_atom_108 : decode cX5_atom 108 = .ok (.iconst 1, 1) := by decide +kernel
theorem dX5_atom_109 : decode cX5_atom 109 = .ok (.iadd, 1) := by decide +kernel
theorem dX5_atom_110 : decode cX5_atom 110 = .ok (.invokevirtual 83, 3) := by decide +kernel
theorem dX5_atom_113 : decode cX5_atom 113 = .ok (.ireturn, 1) := by decide +kernel
theorem dX5_atom_114 : decode cX5_atom 114 = .ok (.aload_n 0, 1) := by decide +kernel
theorem dX5_atom_115 : decode cX5_atom 115 = .ok (.iload_n 1, 1) := by decide +kernel
theorem dX5_atom_116 : decode cX5_atom 116 = .ok (.iconst 1, 1) := by decide +kernel
theorem dX5_atom_117 : decode cX5_atom 117 = .ok (.iadd, 1) := by decide +kernel
theorem dX5_atom_118 : decode cX5_atom 118 = .ok (.invokevirtual 86, 3) := by decide +kernel
theorem dX5_atom_121 : decode cX5_atom 121 = .ok (.ireturn, 1) := by decide +kernel
theorem dX5_atom_122 : decode cX5_atom 122 = .ok (.aload_n 0, 1) := by decide +kernel
theorem dX5_atom_123 : decode cX5_atom 123 = .ok (.getfield 29, 3) := by decide +kernel
theorem dX5_atom_126 : decode cX5_atom 126 = .ok (.iconst 0, 1) := by decide +kernel
theorem dX5_atom_127 : decode cX5_atom 127 = .ok (.iload_n 2, 1) := by decide +kernel
theorem dX5_atom_128 : decode cX5_atom 128 = .ok (.bipush 65, 2) := by decide +kernel
theorem dX5_atom_130 : decode cX5_atom 130 = .ok (.isub, 1) := by decide +kernel
theorem dX5_atom_131 : decode cX5_atom 131 = .ok (.invokevirtual 79, 3) := by decide +kernel
theorem dX5_atom_134 : decode cX5_atom 134 = .ok (.ireturn, 1) := by decide +kernel
theorem dX5_bracketed_0 : decode cX5_bracketed 0 = .ok (.aload_n 0, 1) := by decide +kernel
theorem dX5_bracketed_1 : decode cX5_bracketed 1 = .ok (.iload_n 1, 1) := by decide +kernel
theorem dX5_bracketed_2 : decode cX5_bracketed 2 = .ok (.invokevirtual 33, 3) := by decide +kernel
theorem dX5_bracketed_5 : decode cX5_bracketed 5 = .ok (.istore_n 2, 1) := by decide +kernel
theorem dX5_bracketed_6 : decode cX5_bracketed 6 = .ok (.iload_n 2, 1) := by decide +kernel
theorem dX5_bracketed_7 : decode cX5_bracketed 7 = .ok (.ifCond .lt 12, 3) := by decide +kernel
theorem dX5_bracketed_10 : decode cX5_bracketed 10 = .ok (.aload_n 0, 1) := by decide +kernel
theorem dX5_bracketed_11 : decode cX5_bracketed 11 = .ok (.bipush 41, 2) := by decide +kernel
theorem dX5_bracketed_13 : decode cX5_bracketed 13 = .ok (.invokevirtual 49, 3) := by decide +kernel
theorem dX5_bracketed_16 : decode cX5_bracketed 16 = .ok (.ifCond .ne 12, 3) := by decide +kernel
theorem dX5_bracketed_19 : decode cX5_bracketed 19 = .ok (.aload_n 0, 1) := by decide +kernel
theorem dX5_bracketed_20 : decode cX5_bracketed 20 = .ok (.aload_n 0, 1) := by decide +kernel
theorem dX5_bracketed_21 : decode cX5_bracketed 21 = .ok (.getfield 37, 3) := by decide +kernel
theorem dX5_bracketed_24 : decode cX5_bracketed 24 = .ok (.invokevirtual 40, 3) := by decide +kernel
theorem dX5_bracketed_27 : decode cX5_bracketed 27 = .ok (.ireturn, 1) := by decide +kernel
theorem dX5_bracketed_28 : decode cX5_bracketed 28 = .ok (.aload_n 0, 1) := by decide +kernel
theorem dX5_bracketed_29 : decode cX5_bracketed 29 = .ok (.dup, 1) := by decide +kernel
theorem dX5_bracketed_30 : decode cX5_bracketed 30 = .ok (.getfield 37, 3) := by decide +kernel
theorem dX5_bracketed_33 : decode cX5_bracketed 33 = .ok (.iconst 1, 1) := by decide +kernel
theorem dX5_bracketed_34 : decode cX5_bracketed 34 = .ok (.iadd, 1) := by decide +kernel
theorem dX5_bracketed_35 : decode cX5_bracketed 35 = .ok (.putfield 37, 3) := by decide +kernel
theorem dX5_bracketed_38 : decode cX5_bracketed 38 = .ok (.iload_n 2, 1) := by decide +kernel
theorem dX5_bracketed_39 : decode cX5_bracketed 39 = .ok (.ireturn, 1) := by decide +kernel
theorem dX5_anyOrder_0 : decode cX5_anyOrder 0 = .ok (.aload_n 0, 1) := by decide +kernel
theorem dX5_anyOrder_1 : decode cX5_anyOrder 1 = .ok (.bipush 40, 2) := by decide +kernel
theorem dX5_anyOrder_3 : decode cX5_anyOrder 3 = .ok (.invokevirtual 49, 3) := by decide +kernel
theorem dX5_anyOrder_6 : decode cX5_anyOrder 6 = .ok (.ifCond .ne 12, 3) := by decide +kernel
theorem dX5_anyOrder_9 : decode cX5_anyOrder 9 = .ok (.aload_n 0, 1) := by decide +kernel
theorem dX5_anyOrder_10 : decode cX5_anyOrder 10 = .ok (.aload_n 0, 1) := by decide +kernel
theorem dX5_anyOrder_11 : decode cX5_anyOrder 11 = .ok (.getfield 37, 3) := by decide +kernel
theorem dX5_anyOrder_14 : decode cX5_anyOrder 14 = .ok (.invokevirtual 40, 3) := by decide +kernel
theorem dX5_anyOrder_17 : decode cX5_anyOrder 17 = .ok (.ireturn, 1) := by decide +kernel
theorem dX5_anyOrder_18 : decode cX5_anyOrder 18 = .ok (.aload_n 0, 1) := by decide +kernel
theorem dX5_anyOrder_19 : decode cX5_anyOrder 19 = .ok (.dup, 1) := by decide +kernel
theorem dX5_anyOrder_20 : decode cX5_anyOrder 20 = .ok (.getfield 37, 3) := by decide +kernel
theorem dX5_anyOrder_23 : decode cX5_anyOrder 23 = .ok (.iconst 1, 1) := by decide +kernel
theorem dX5_anyOrder_24 : decode cX5_anyOrder 24 = .ok (.iadd, 1) := by decide +kernel
theorem dX5_anyOrder_25 : decode cX5_anyOrder 25 = .ok (.putfield 37, 3) := by decide +kernel
theorem dX5_anyOrder_28 : decode cX5_anyOrder 28 = .ok (.aload_n 0, 1) := by decide +kernel
theorem dX5_anyOrder_29 : decode cX5_anyOrder 29 = .ok (.iload_n 1, 1) := by decide +kernel
theorem dX5_anyOrder_30 : decode cX5_anyOrder 30 = .ok (.invokevirtual 33, 3) := by decide +kernel
theorem dX5_anyOrder_33 : decode cX5_anyOrder 33 = .ok (.istore_n 2, 1) := by decide +kernel
theorem dX5_anyOrder_34 : decode cX5_anyOrder 34 = .ok (.iload_n 2, 1) := by decide +kernel
theorem dX5_anyOrder_35 : decode cX5_anyOrder 35 = .ok (.istore_n 3, 1) := by decide +kernel
theorem dX5_anyOrder_36 : decode cX5_anyOrder 36 = .ok (.iconst 1, 1) := by decide +kernel
theorem dX5_anyOrder_37 : decode cX5_anyOrder 37 = .ok (.istore 4, 2) := by decide +kernel
theorem dX5_anyOrder_39 : decode cX5_anyOrder 39 = .ok (.iload 4, 2) := by decide +kernel
theorem dX5_anyOrder_41 : decode cX5_anyOrder 41 = .ok (.iconst 4, 1) := by decide +kernel
theorem dX5_anyOrder_42 : decode cX5_anyOrder 42 = .ok (.if_icmp .ge 52, 3) := by decide +kernel
theorem dX5_anyOrder_45 : decode cX5_anyOrder 45 = .ok (.iload_n 3, 1) := by decide +kernel
theorem dX5_anyOrder_46 : decode cX5_anyOrder 46 = .ok (.ifCond .lt 48, 3) := by decide +kernel
theorem dX5_anyOrder_49 : decode cX5_anyOrder 49 = .ok (.aload_n 0, 1) := by decide +kernel
theorem dX5_anyOrder_50 : decode cX5_anyOrder 50 = .ok (.bipush 44, 2) := by decide +kernel
theorem dX5_anyOrder_52 : decode cX5_anyOrder 52 = .ok (.invokevirtual 49, 3) := by decide +kernel
theorem dX5_anyOrder_55 : decode cX5_anyOrder 55 = .ok (.ifCond .eq 39, 3) := by decide +kernel
theorem dX5_anyOrder_58 : decode cX5_anyOrder 58 = .ok (.aload_n 0, 1) := by decide +kernel
theorem dX5_anyOrder_59 : decode cX5_anyOrder 59 = .ok (.dup, 1) := by decide +kernel
theorem dX5_anyOrder_60 : decode cX5_anyOrder 60 = .ok (.getfield 37, 3) := by decide +kernel
theorem dX5_anyOrder_63 : decode cX5_anyOrder 63 = .ok (.iconst 1, 1) := by decide +kernel
theorem dX5_anyOrder_64 : decode cX5_anyOrder 64 = .ok (.iadd, 1) := by decide +kernel
theorem dX5_anyOrder_65 : decode cX5_anyOrder 65 = .ok (.putfield 37, 3) := by decide +kernel
theorem dX5_anyOrder_68 : decode cX5_anyOrder 68 = .ok (.aload_n 0, 1) := by decide +kernel
theorem dX5_anyOrder_69 : decode cX5_anyOrder 69 = .ok (.iload_n 1, 1) := by decide +kernel
theorem dX5_anyOrder_70 : decode cX5_anyOrder 70 = .ok (.invokevirtual 33, 3) := by decide +kernel
theorem dX5_anyOrder_73 : decode cX5_anyOrder 73 = .ok (.istore 5, 2) := by decide +kernel
