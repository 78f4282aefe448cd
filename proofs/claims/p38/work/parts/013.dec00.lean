/-! decode rows, 0 -/
theorem dX0_init_0 : decode cX0_init 0 = .ok (.aload_n 0, 1) := by decide +kernel
theorem dX0_init_1 : decode cX0_init 1 = .ok (.invokespecial 5, 3) := by decide +kernel
theorem dX0_init_4 : decode cX0_init 4 = .ok (.aload_n 0, 1) := by decide +kernel
theorem dX0_init_5 : decode cX0_init 5 = .ok (.aload_n 1, 1) := by decide +kernel
theorem dX0_init_6 : decode cX0_init 6 = .ok (.putfield 11, 3) := by decide +kernel
theorem dX0_init_9 : decode cX0_init 9 = .ok (.return_, 1) := by decide +kernel
theorem dX0_operand_0 : decode cX0_operand 0 = .ok (.iload_n 0, 1) := by decide +kernel
theorem dX0_operand_1 : decode cX0_operand 1 = .ok (.bipush 12, 2) := by decide +kernel
theorem dX0_operand_3 : decode cX0_operand 3 = .ok (.ishl, 1) := by decide +kernel
theorem dX0_operand_4 : decode cX0_operand 4 = .ok (.iload_n 1, 1) := by decide +kernel
theorem dX0_operand_5 : decode cX0_operand 5 = .ok (.ior, 1) := by decide +kernel
theorem dX0_operand_6 : decode cX0_operand 6 = .ok (.ireturn, 1) := by decide +kernel
theorem dX0_isTrue_0 : decode cX0_isTrue 0 = .ok (.lconst 0, 1) := by decide +kernel
theorem dX0_isTrue_1 : decode cX0_isTrue 1 = .ok (.lstore_n 3, 1) := by decide +kernel
theorem dX0_isTrue_2 : decode cX0_isTrue 2 = .ok (.iconst 0, 1) := by decide +kernel
theorem dX0_isTrue_3 : decode cX0_isTrue 3 = .ok (.istore 5, 2) := by decide +kernel
theorem dX0_isTrue_5 : decode cX0_isTrue 5 = .ok (.iload 5, 2) := by decide +kernel
theorem dX0_isTrue_7 : decode cX0_isTrue 7 = .ok (.aload_n 0, 1) := by decide +kernel
theorem dX0_isTrue_8 : decode cX0_isTrue 8 = .ok (.getfield 11, 3) := by decide +kernel
theorem dX0_isTrue_11 : decode cX0_isTrue 11 = .ok (.arraylength, 1) := by decide +kernel
theorem dX0_isTrue_12 : decode cX0_isTrue 12 = .ok (.if_icmp .ge 140, 3) := by decide +kernel
theorem dX0_isTrue_15 : decode cX0_isTrue 15 = .ok (.aload_n 0, 1) := by decide +kernel
theorem dX0_isTrue_16 : decode cX0_isTrue 16 = .ok (.getfield 11, 3) := by decide +kernel
theorem dX0_isTrue_19 : decode cX0_isTrue 19 = .ok (.iload 5, 2) := by decide +kernel
theorem dX0_isTrue_21 : decode cX0_isTrue 21 = .ok (.iaload, 1) := by decide +kernel
theorem dX0_isTrue_22 : decode cX0_isTrue 22 = .ok (.istore 6, 2) := by decide +kernel
theorem dX0_isTrue_24 : decode cX0_isTrue 24 = .ok (.iload 6, 2) := by decide +kernel
theorem dX0_isTrue_26 : decode cX0_isTrue 26 = .ok (.bipush 33, 2) := by decide +kernel
theorem dX0_isTrue_28 : decode cX0_isTrue 28 = .ok (.if_icmp .ne 10, 3) := by decide +kernel
theorem dX0_isTrue_31 : decode cX0_isTrue 31 = .ok (.lload_n 3, 1) := by decide +kernel
theorem dX0_isTrue_32 : decode cX0_isTrue 32 = .ok (.lconst 1, 1) := by decide +kernel
theorem dX0_isTrue_33 : decode cX0_isTrue 33 = .ok (.lxor, 1) := by decide +kernel
theorem dX0_isTrue_34 : decode cX0_isTrue 34 = .ok (.lstore_n 3, 1) := by decide +kernel
theorem dX0_isTrue_35 : decode cX0_isTrue 35 = .ok (.goto 111, 3) := by decide +kernel
theorem dX0_isTrue_38 : decode cX0_isTrue 38 = .ok (.iload 6, 2) := by decide +kernel
theorem dX0_isTrue_40 : decode cX0_isTrue 40 = .ok (.bipush 38, 2) := by decide +kernel
theorem dX0_isTrue_42 : decode cX0_isTrue 42 = .ok (.if_icmp .ne 16, 3) := by decide +kernel
theorem dX0_isTrue_45 : decode cX0_isTrue 45 = .ok (.lload_n 3, 1) := by decide +kernel
theorem dX0_isTrue_46 : decode cX0_isTrue 46 = .ok (.iconst 1, 1) := by decide +kernel
theorem dX0_isTrue_47 : decode cX0_isTrue 47 = .ok (.lshr, 1) := by decide +kernel
theorem dX0_isTrue_48 : decode cX0_isTrue 48 = .ok (.lload_n 3, 1) := by decide +kernel
theorem dX0_isTrue_49 : decode cX0_isTrue 49 = .ok (.ldc2_w 17, 3) := by decide +kernel
theorem dX0_isTrue_52 : decode cX0_isTrue 52 = .ok (.lor, 1) := by decide +kernel
theorem dX0_isTrue_53 : decode cX0_isTrue 53 = .ok (.land, 1) := by decide +kernel
theorem dX0_isTrue_54 : decode cX0_isTrue 54 = .ok (.lstore_n 3, 1) := by decide +kernel
theorem dX0_isTrue_55 : decode cX0_isTrue 55 = .ok (.goto 91, 3) := by decide +kernel
theorem dX0_isTrue_58 : decode cX0_isTrue 58 = .ok (.iload 6, 2) := by decide +kernel
theorem dX0_isTrue_60 : decode cX0_isTrue 60 = .ok (.bipush 124, 2) := by decide +kernel
theorem dX0_isTrue_62 : decode cX0_isTrue 62 = .ok (.if_icmp .ne 14, 3) := by decide +kernel
theorem dX0_isTrue_65 : decode cX0_isTrue 65 = .ok (.lload_n 3, 1) := by decide +kernel
theorem dX0_isTrue_66 : decode cX0_isTrue 66 = .ok (.iconst 1, 1) := by decide +kernel
theorem dX0_isTrue_67 : decode cX0_isTrue 67 = .ok (.lshr, 1) := by decide +kernel
theorem dX0_isTrue_68 : decode cX0_isTrue 68 = .ok (.lload_n 3, 1) := by decide +kernel
theorem dX0_isTrue_69 : decode cX0_isTrue 69 = .ok (.lconst 1, 1) := by decide +kernel
theorem dX0_isTrue_70 : decode cX0_isTrue 70 = .ok (.land, 1) := by decide +kernel
theorem dX0_isTrue_71 : decode cX0_isTrue 71 = .ok (.lor, 1) := by decide +kernel
theorem dX0_isTrue_72 : decode cX0_isTrue 72 = .ok (.lstore_n 3, 1) := by decide +kernel
theorem dX0_isTrue_73 : decode cX0_isTrue 73 = .ok (.goto 73, 3) := by decide +kernel
theorem dX0_isTrue_76 : decode cX0_isTrue 76 = .ok (.iload 5, 2) := by decide +kernel
theorem dX0_isTrue_78 : decode cX0_isTrue 78 = .ok (.iconst 2, 1) := by decide +kernel
theorem dX0_isTrue_79 : decode cX0_isTrue 79 = .ok (.iadd, 1) := by decide +kernel
theorem dX0_isTrue_80 : decode cX0_isTrue 80 = .ok (.aload_n 0, 1) := by decide +kernel
theorem dX0_isTrue_81 : decode cX0_isTrue 81 = .ok (.getfield 11, 3) := by decide +kernel
theorem dX0_isTrue_84 : decode cX0_isTrue 84 = .ok (.arraylength, 1) := by decide +kernel
theorem dX0_isTrue_85 : decode cX0_isTrue 85 = .ok (.if_icmp .ge 61, 3) := by decide +kernel
theorem dX0_isTrue_88 : decode cX0_isTrue 88 = .ok (.aload_n 0, 1) := by decide +kernel
theorem dX0_isTrue_89 : decode cX0_isTrue 89 = .ok (.getfield 11, 3) := by decide +kernel
theorem dX0_isTrue_92 : decode cX0_isTrue 92 = .ok (.iload 5, 2) := by decide +kernel
theorem dX0_isTrue_94 : decode cX0_isTrue 94 = .ok (.iconst 1, 1) := by decide +kernel
theorem dX0_isTrue_95 : decode cX0_isTrue 95 = .ok (.iadd, 1) := by decide +kernel
theorem dX0_isTrue_96 : decode cX0_isTrue 96 = .ok (.iaload, 1) := by decide +kernel
theorem dX0_isTrue_97 : decode cX0_isTrue 97 = .ok (.aload_n 1, 1) := by decide +kernel
theorem dX0_isTrue_98 : decode cX0_isTrue 98 = .ok (.iload_n 2, 1) := by decide +kernel
theorem dX0_isTrue_99 : decode cX0_isTrue 99 = .ok (.invokestatic 19, 3) := by decide +kernel
theorem dX0_isTrue_102 : decode cX0_isTrue 102 = .ok (.istore 7, 2) := by decide +kernel
theorem dX0_isTrue_104 : decode cX0_isTrue 104 = .ok (.aload_n 0, 1) := by decide +kernel
theorem dX0_isTrue_105 : decode cX0_isTrue 105 = .ok (.getfield 11, 3) := by decide +kernel
theorem dX0_isTrue_108 : decode cX0_isTrue 108 = .ok (.iload 5, 2) := by decide +kernel
theorem dX0_isTrue_110 : decode cX0_isTrue 110 = .ok (.iconst 2, 1) := by decide +kernel
theorem dX0_isTrue_111 : decode cX0_isTrue 111 = .ok (.iadd, 1) := by decide +kernel
theorem dX0_isTrue_112 : decode cX0_isTrue 112 = .ok (.iaload, 1) := by decide +kernel
theorem dX0_isTrue_113 : decode cX0_isTrue 113 = .ok (.aload_n 1, 1) := by decide +kernel
theorem dX0_isTrue_114 : decode cX0_isTrue 114 = .ok (.iload_n 2, 1) := by decide +kernel
theorem dX0_isTrue_115 : decode cX0_isTrue 115 = .ok (.invokestatic 19, 3) := by decide +kernel
theorem dX0_isTrue_118 : decode cX0_isTrue 118 = .ok (.istore 8, 2) := by decide +kernel
theorem dX0_isTrue_120 : decode cX0_isTrue 120 = .ok (.lload_n 3, 1) := by decide +kernel
theorem dX0_isTrue_121 : decode cX0_isTrue 121 = .ok (.iconst 1, 1) := by decide +kernel
theorem dX0_isTrue_122 : decode cX0_isTrue 122 = .ok (.lshl, 1) := by decide +kernel
theorem dX0_isTrue_123 : decode cX0_isTrue 123 = .ok (.iload 7, 2) := by decide +kernel
theorem dX0_isTrue_125 : decode cX0_isTrue 125 = .ok (.iload 6, 2) := by decide +kernel
theorem dX0_isTrue_127 : decode cX0_isTrue 127 = .ok (.iload 8, 2) := by decide +kernel
theorem dX0_isTrue_129 : decode cX0_isTrue 129 = .ok (.invokestatic 23, 3) := by decide +kernel
theorem dX0_isTrue_132 : decode cX0_isTrue 132 = .ok (.ifCond .eq 7, 3) := by decide +kernel
theorem dX0_isTrue_135 : decode cX0_isTrue 135 = .ok (.iconst 1, 1) := by decide +kernel
theorem dX0_isTrue_136 : decode cX0_isTrue 136 = .ok (.goto 4, 3) := by decide +kernel
theorem dX0_isTrue_139 : decode cX0_isTrue 139 = .ok (.iconst 0, 1) := by decide +kernel
theorem dX0_isTrue_140 : decode cX0_isTrue 140 = .ok (.i2l, 1) := by decide +kernel
theorem dX0_isTrue_141 : decode cX0_isTrue 141 = .ok (.lor, 1) := by decide +kernel
theorem dX0_isTrue_142 : decode cX0_isTrue 142 = .ok (.lstore_n 3, 1) := by decide +kernel
theorem dX0_isTrue_143 : decode cX0_isTrue 143 = .ok (.iinc 5 2, 3) := by decide +kernel
theorem dX0_isTrue_146 : decode cX0_isTrue 146 = .ok (.iinc 5 1, 3) := by decide +kernel
theorem dX0_isTrue_149 : decode cX0_isTrue 149 = .ok (.goto (-144), 3) := by decide +kernel
theorem dX0_isTrue_152 : decode cX0_isTrue 152 = .ok (.lload_n 3, 1) := by decide +kernel
theorem dX0_isTrue_153 : decode cX0_isTrue 153 = .ok (.lconst 1, 1) := by decide +kernel
theorem dX0_isTrue_154 : decode cX0_isTrue 154 = .ok (.land, 1) := by decide +kernel
theorem dX0_isTrue_155 : decode cX0_isTrue 155 = .ok (.lconst 1, 1) := by decide +kernel
theorem dX0_isTrue_156 : decode cX0_isTrue 156 = .ok (.lcmp, 1) := by decide +kernel
theorem dX0_isTrue_157 : decode cX0_isTrue 157 = .ok (.ifCond .ne 7, 3) := by decide +kernel
theorem dX0_isTrue_160 : decode cX0_isTrue 160 = .ok (.iconst 1, 1) := by decide +kernel
theorem dX0_isTrue_161 : decode cX0_isTrue 161 = .ok (.goto 4, 3) := by decide +kernel
theorem dX0_isTrue_164 : decode cX0_isTrue 164 = .ok (.iconst 0, 1) := by decide +kernel
theorem dX0_isTrue_165 : decode cX0_isTrue 165 = .ok (.ireturn, 1) := by decide +kernel
theorem dX0_compared_0 : decode cX0_compared 0 = .ok (.iload_n 0, 1) := by decide +kernel
theorem dX0_compared_1 : decode cX0_compared 1 = .ok (.ldc 27, 2) := by decide +kernel
theorem dX0_compared_3 : decode cX0_compared 3 = .ok (.if_icmp .eq 9, 3) := by decide +kernel
theorem dX0_compared_6 : decode cX0_compared 6 = .ok (.iload_n 2, 1) := by decide +kernel
theorem dX0_compared_7 : decode cX0_compared 7 = .ok (.ldc 27, 2) := by decide +kernel
theorem dX0_compared_9 : decode cX0_compared 9 = .ok (.if_icmp .ne 5, 3) := by decide +kernel
theorem dX0_compared_12 : decode cX0_compared 12 = .ok (.iconst 0, 1) := by decide +kernel
theorem dX0_compared_13 : decode cX0_compared 13 = .ok (.ireturn, 1) := by decide +kernel
theorem dX0_compared_14 : decode cX0_compared 14 = .ok (.iload_n 1, 1) := by decide +kernel
theorem dX0_compared_15 : decode cX0_compared 15 = .ok (.bipush 60, 2) := by decide +kernel
theorem dX0_compared_17 : decode cX0_compared 17 = .ok (.if_icmp .ne 16, 3) := by decide +kernel
theorem dX0_compared_20 : decode cX0_compared 20 = .ok (.iload_n 0, 1) := by decide +kernel
theorem dX0_compared_21 : decode cX0_compared 21 = .ok (.iload_n 2, 1) := by decide +kernel
theorem dX0_compared_22 : decode cX0_compared 22 = .ok (.if_icmp .ge 7, 3) := by decide +kernel
theorem dX0_compared_25 : decode cX0_compared 25 = .ok (.iconst 1, 1) := by decide +kernel
theorem dX0_compared_26 : decode cX0_compared 26 = .ok (.goto 36, 3) := by decide +kernel
theorem dX0_compared_29 : decode cX0_compared 29 = .ok (.iconst 0, 1) := by decide +kernel
theorem dX0_compared_30 : decode cX0_compared 30 = .ok (.goto 32, 3) := by decide +kernel
theorem dX0_compared_33 : decode cX0_compared 33 = .ok (.iload_n 1, 1) := by decide +kernel
theorem dX0_compared_34 : decode cX0_compared 34 = .ok (.bipush 61, 2) := by decide +kernel
theorem dX0_compared_36 : decode cX0_compared 36 = .ok (.if_icmp .ne 16, 3) := by decide +kernel
theorem dX0_compared_39 : decode cX0_compared 39 = .ok (.iload_n 0, 1) := by decide +kernel
theorem dX0_compared_40 : decode cX0_compared 40 = .ok (.iload_n 2, 1) := by decide +kernel
theorem dX0_compared_41 : decode cX0_compared 41 = .ok (.if_icmp .ne 7, 3) := by decide +kernel
theorem dX0_compared_44 : decode cX0_compared 44 = .ok (.iconst 1, 1) := by decide +kernel
theorem dX0_compared_45 : decode cX0_compared 45 = .ok (.goto 17, 3) := by decide +kernel
theorem dX0_compared_48 : decode cX0_compared 48 = .ok (.iconst 0, 1) := by decide +kernel
theorem dX0_compared_49 : decode cX0_compared 49 = .ok (.goto 13, 3) := by decide +kernel
theorem dX0_compared_52 : decode cX0_compared 52 = .ok (.iload_n 0, 1) := by decide +kernel
theorem dX0_compared_53 : decode cX0_compared 53 = .ok (.iload_n 2, 1) := by decide +kernel
theorem dX0_compared_54 : decode cX0_compared 54 = .ok (.if_icmp .le 7, 3) := by decide +kernel
theorem dX0_compared_57 : decode cX0_compared 57 = .ok (.iconst 1, 1) := by decide +kernel
theorem dX0_compared_58 : decode cX0_compared 58 = .ok (.goto 4, 3) := by decide +kernel
theorem dX0_compared_61 : decode cX0_compared 61 = .ok (.iconst 0, 1) := by decide +kernel
theorem dX0_compared_62 : decode cX0_compared 62 = .ok (.ireturn, 1) := by decide +kernel
theorem dX0_value_0 : decode cX0_value 0 = .ok (.iload_n 0, 1) := by decide +kernel
theorem dX0_value_1 : decode cX0_value 1 = .ok (.bipush 12, 2) := by decide +kernel
theorem dX0_value_3 : decode cX0_value 3 = .ok (.ishr, 1) := by decide +kernel
theorem dX0_value_4 : decode cX0_value 4 = .ok (.istore_n 3, 1) := by decide +kernel
theorem dX0_value_5 : decode cX0_value 5 = .ok (.iload_n 0, 1) := by decide +kernel
theorem dX0_value_6 : decode cX0_value 6 = .ok (.sipush 4095, 3) := by decide +kernel
theorem dX0_value_9 : decode cX0_value 9 = .ok (.iand, 1) := by decide +kernel
theorem dX0_value_10 : decode cX0_value 10 = .ok (.istore 4, 2) := by decide +kernel
theorem dX0_value_12 : decode cX0_value 12 = .ok (.aload_n 1, 1) := by decide +kernel
theorem dX0_value_13 : decode cX0_value 13 = .ok (.getfield 28, 3) := by decide +kernel
theorem dX0_value_16 : decode cX0_value 16 = .ok (.getfield 34, 3) := by decide +kernel
theorem dX0_value_19 : decode cX0_value 19 = .ok (.astore 5, 2) := by decide +kernel
theorem dX0_value_21 : decode cX0_value 21 = .ok (.iload_n 3, 1) := by decide +kernel
theorem dX0_value_22 : decode cX0_value 22 = .ok (.lookupswitch 176 #[(48, 66), (102, 116), (108, 139), (110, 101), (112, 86), (115, 162), (120, 73)], 66) := by decide +kernel
theorem dX0_value_88 : decode cX0_value 88 = .ok (.iload 4, 2) := by decide +kernel
theorem dX0_value_90 : decode cX0_value 90 = .ok (.sipush 1000, 3) := by decide +kernel
theorem dX0_value_93 : decode cX0_value 93 = .ok (.isub, 1) := by decide +kernel
theorem dX0_value_94 : decode cX0_value 94 = .ok (.ireturn, 1) := by decide +kernel
theorem dX0_value_95 : decode cX0_value 95 = .ok (.aload 5, 2) := by decide +kernel
theorem dX0_value_97 : decode cX0_value 97 = .ok (.iload_n 2, 1) := by decide +kernel
theorem dX0_value_98 : decode cX0_value 98 = .ok (.iload 4, 2) := by decide +kernel
theorem dX0_value_100 : decode cX0_value 100 = .ok (.invokevirtual 40, 3) := by decide +kernel
theorem dX0_value_103 : decode cX0_value 103 = .ok (.istore 6, 2) := by decide +kernel
theorem dX0_value_105 : decode cX0_value 105 = .ok (.goto 103, 3) := by decide +kernel
theorem dX0_value_108 : decode cX0_value 108 = .ok (.aload 5, 2) := by decide +kernel
theorem dX0_value_110 : decode cX0_value 110 = .ok (.iload_n 2, 1) := by decide +kernel
theorem dX0_value_111 : decode cX0_value 111 = .ok (.iconst 1, 1) := by decide +kernel
theorem dX0_value_112 : decode cX0_value 112 = .ok (.isub, 1) := by decide +kernel
theorem dX0_value_113 : decode cX0_value 113 = .ok (.iload 4, 2) := by decide +kernel
theorem dX0_value_115 : decode cX0_value 115 = .ok (.invokevirtual 40, 3) := by decide +kernel
theorem dX0_value_118 : decode cX0_value 118 = .ok (.istore 6, 2) := by decide +kernel
theorem dX0_value_120 : decode cX0_value 120 = .ok (.goto 88, 3) := by decide +kernel
theorem dX0_value_123 : decode cX0_value 123 = .ok (.aload 5, 2) := by decide +kernel
theorem dX0_value_125 : decode cX0_value 125 = .ok (.iload_n 2, 1) := by decide +kernel
theorem dX0_value_126 : decode cX0_value 126 = .ok (.iconst 1, 1) := by decide +kernel
theorem dX0_value_127 : decode cX0_value 127 = .ok (.iadd, 1) := by decide +kernel
theorem dX0_value_128 : decode cX0_value 128 = .ok (.iload 4, 2) := by decide +kernel
theorem dX0_value_130 : decode cX0_value 130 = .ok (.invokevirtual 40, 3) := by decide +kernel
theorem dX0_value_133 : decode cX0_value 133 = .ok (.istore 6, 2) := by decide +kernel
theorem dX0_value_135 : decode cX0_value 135 = .ok (.goto 73, 3) := by decide +kernel
theorem dX0_value_138 : decode cX0_value 138 = .ok (.aload 5, 2) := by decide +kernel
theorem dX0_value_140 : decode cX0_value 140 = .ok (.aload_n 1, 1) := by decide +kernel
theorem dX0_value_141 : decode cX0_value 141 = .ok (.iload 4, 2) := by decide +kernel
theorem dX0_value_143 : decode cX0_value 143 = .ok (.iconst 2, 1) := by decide +kernel
theorem dX0_value_144 : decode cX0_value 144 = .ok (.idiv, 1) := by decide +kernel
theorem dX0_value_145 : decode cX0_value 145 = .ok (.iload_n 2, 1) := by decide +kernel
theorem dX0_value_146 : decode cX0_value 146 = .ok (.invokevirtual 46, 3) := by decide +kernel
theorem dX0_value_149 : decode cX0_value 149 = .ok (.iload 4, 2) := by decide +kernel
theorem dX0_value_151 : decode cX0_value 151 = .ok (.iconst 2, 1) := by decide +kernel
theorem dX0_value_152 : decode cX0_value 152 = .ok (.irem, 1) := by decide +kernel
theorem dX0_value_153 : decode cX0_value 153 = .ok (.invokevirtual 40, 3) := by decide +kernel
theorem dX0_value_156 : decode cX0_value 156 = .ok (.istore 6, 2) := by decide +kernel
theorem dX0_value_158 : decode cX0_value 158 = .ok (.goto 50, 3) := by decide +kernel
theorem dX0_value_161 : decode cX0_value 161 = .ok (.aload 5, 2) := by decide +kernel
theorem dX0_value_163 : decode cX0_value 163 = .ok (.aload_n 1, 1) := by decide +kernel
theorem dX0_value_164 : decode cX0_value 164 = .ok (.iload 4, 2) := by decide +kernel
theorem dX0_value_166 : decode cX0_value 166 = .ok (.iconst 2, 1) := by decide +kernel
theorem dX0_value_167 : decode cX0_value 167 = .ok (.idiv, 1) := by decide +kernel
theorem dX0_value_168 : decode cX0_value 168 = .ok (.iload_n 2, 1) := by decide +kernel
theorem dX0_value_169 : decode cX0_value 169 = .ok (.invokevirtual 49, 3) := by decide +kernel
theorem dX0_value_172 : decode cX0_value 172 = .ok (.iload 4, 2) := by decide +kernel
theorem dX0_value_174 : decode cX0_value 174 = .ok (.iconst 2, 1) := by decide +kernel
theorem dX0_value_175 : decode cX0_value 175 = .ok (.irem, 1) := by decide +kernel
theorem dX0_value_176 : decode cX0_value 176 = .ok (.invokevirtual 40, 3) := by decide +kernel
theorem dX0_value_179 : decode cX0_value 179 = .ok (.istore 6, 2) := by decide +kernel
theorem dX0_value_181 : decode cX0_value 181 = .ok (.goto 27, 3) := by decide +kernel
theorem dX0_value_184 : decode cX0_value 184 = .ok (.aload_n 1, 1) := by decide +kernel
theorem dX0_value_185 : decode cX0_value 185 = .ok (.iload 4, 2) := by decide +kernel
theorem dX0_value_187 : decode cX0_value 187 = .ok (.iconst 2, 1) := by decide +kernel
theorem dX0_value_188 : decode cX0_value 188 = .ok (.idiv, 1) := by decide +kernel
theorem dX0_value_189 : decode cX0_value 189 = .ok (.iload 4, 2) := by decide +kernel
theorem dX0_value_191 : decode cX0_value 191 = .ok (.iconst 2, 1) := by decide +kernel
theorem dX0_value_192 : decode cX0_value 192 = .ok (.irem, 1) := by decide +kernel
theorem dX0_value_193 : decode cX0_value 193 = .ok (.iload_n 2, 1) := by decide +kernel
theorem dX0_value_194 : decode cX0_value 194 = .ok (.invokevirtual 52, 3) := by decide +kernel
theorem dX0_value_197 : decode cX0_value 197 = .ok (.ireturn, 1) := by decide +kernel
theorem dX0_value_198 : decode cX0_value 198 = .ok (.aload_n 1, 1) := by decide +kernel
theorem dX0_value_199 : decode cX0_value 199 = .ok (.iload 4, 2) := by decide +kernel
theorem dX0_value_201 : decode cX0_value 201 = .ok (.iconst 2, 1) := by decide +kernel
theorem dX0_value_202 : decode cX0_value 202 = .ok (.idiv, 1) := by decide +kernel
theorem dX0_value_203 : decode cX0_value 203 = .ok (.iload_n 2, 1) := by decide +kernel
theorem dX0_value_204 : decode cX0_value 204 = .ok (.invokevirtual 56, 3) := by decide +kernel
theorem dX0_value_207 : decode cX0_value 207 = .ok (.ireturn, 1) := by decide +kernel
theorem dX0_value_208 : decode cX0_value 208 = .ok (.iload 6, 2) := by decide +kernel
theorem dX0_value_210 : decode cX0_value 210 = .ok (.sipush 1000, 3) := by decide +kernel
theorem dX0_value_213 : decode cX0_value 213 = .ok (.if_icmp .ne 8, 3) := by decide +kernel
theorem dX0_value_216 : decode cX0_value 216 = .ok (.ldc 27, 2) := by decide +kernel
theorem dX0_value_218 : decode cX0_value 218 = .ok (.goto 5, 3) := by decide +kernel
theorem dX0_value_221 : decode cX0_value 221 = .ok (.iload 6, 2) := by decide +kernel
theorem dX0_value_223 : decode cX0_value 223 = .ok (.ireturn, 1) := by decide +kernel
theorem dX1_init_0 : decode cX1_init 0 = .ok (.aload_n 0, 1) := by decide +kernel
theorem dX1_init_1 : decode cX1_init 1 = .ok (.invokespecial 3, 3) := by decide +kernel
theorem dX1_init_4 : decode cX1_init 4 = .ok (.aload_n 0, 1) := by decide +kernel
theorem dX1_init_5 : decode cX1_init 5 = .ok (.iconst (-1), 1) := by decide +kernel
theorem dX1_init_6 : decode cX1_init 6 = .ok (.putfield 9, 3) := by decide +kernel
theorem dX1_init_9 : decode cX1_init 9 = .ok (.aload_n 0, 1) := by decide +kernel
theorem dX1_init_10 : decode cX1_init 10 = .ok (.bipush 26, 2) := by decide +kernel
theorem dX1_init_12 : decode cX1_init 12 = .ok (.anewarray 15, 3) := by decide +kernel
theorem dX1_init_15 : decode cX1_init 15 = .ok (.putfield 17, 3) := by decide +kernel
theorem dX1_init_18 : decode cX1_init 18 = .ok (.aload_n 0, 1) := by decide +kernel
theorem dX1_init_19 : decode cX1_init 19 = .ok (.aload_n 1, 1) := by decide +kernel
theorem dX1_init_20 : decode cX1_init 20 = .ok (.putfield 21, 3) := by decide +kernel
theorem dX1_init_23 : decode cX1_init 23 = .ok (.aload_n 0, 1) := by decide +kernel
theorem dX1_init_24 : decode cX1_init 24 = .ok (.aload_n 1, 1) := by decide +kernel
theorem dX1_init_25 : decode cX1_init 25 = .ok (.getfield 25, 3) := by decide +kernel
theorem dX1_init_28 : decode cX1_init 28 = .ok (.ifCond .ge 7, 3) := by decide +kernel
theorem dX1_init_31 : decode cX1_init 31 = .ok (.iconst 0, 1) := by decide +kernel
theorem dX1_init_32 : decode cX1_init 32 = .ok (.goto 7, 3) := by decide +kernel
theorem dX1_init_35 : decode cX1_init 35 = .ok (.aload_n 1, 1) := by decide +kernel
theorem dX1_init_36 : decode cX1_init 36 = .ok (.getfield 25, 3) := by decide +kernel
theorem dX1_init_39 : decode cX1_init 39 = .ok (.newarray .int, 2) := by decide +kernel
theorem dX1_init_41 : decode cX1_init 41 = .ok (.putfield 30, 3) := by decide +kernel
theorem dX1_init_44 : decode cX1_init 44 = .ok (.return_, 1) := by decide +kernel
theorem dX1_read_0 : decode cX1_read 0 = .ok (.iconst 1, 1) := by decide +kernel
theorem dX1_read_1 : decode cX1_read 1 = .ok (.istore_n 1, 1) := by decide +kernel
theorem dX1_read_2 : decode cX1_read 2 = .ok (.iload_n 1, 1) := by decide +kernel
theorem dX1_read_3 : decode cX1_read 3 = .ok (.bipush 120, 2) := by decide +kernel
theorem dX1_read_5 : decode cX1_read 5 = .ok (.if_icmp .gt 94, 3) := by decide +kernel
theorem dX1_read_8 : decode cX1_read 8 = .ok (.aload_n 0, 1) := by decide +kernel
theorem dX1_read_9 : decode cX1_read 9 = .ok (.getfield 21, 3) := by decide +kernel
theorem dX1_read_12 : decode cX1_read 12 = .ok (.aload_n 0, 1) := by decide +kernel
theorem dX1_read_13 : decode cX1_read 13 = .ok (.getfield 34, 3) := by decide +kernel
theorem dX1_read_16 : decode cX1_read 16 = .ok (.invokevirtual 37, 3) := by decide +kernel
theorem dX1_read_19 : decode cX1_read 19 = .ok (.bipush 65, 2) := by decide +kernel
theorem dX1_read_21 : decode cX1_read 21 = .ok (.isub, 1) := by decide +kernel
theorem dX1_read_22 : decode cX1_read 22 = .ok (.istore_n 2, 1) := by decide +kernel
theorem dX1_read_23 : decode cX1_read 23 = .ok (.iload_n 2, 1) := by decide +kernel
theorem dX1_read_24 : decode cX1_read 24 = .ok (.invokestatic 41, 3) := by decide +kernel
theorem dX1_read_27 : decode cX1_read 27 = .ok (.ifCond .ne 10, 3) := by decide +kernel
theorem dX1_read_30 : decode cX1_read 30 = .ok (.aload_n 0, 1) := by decide +kernel
theorem dX1_read_31 : decode cX1_read 31 = .ok (.invokevirtual 45, 3) := by decide +kernel
theorem dX1_read_34 : decode cX1_read 34 = .ok (.pop, 1) := by decide +kernel
theorem dX1_read_35 : decode cX1_read 35 = .ok (.iconst (-1), 1) := by decide +kernel
theorem dX1_read_36 : decode cX1_read 36 = .ok (.ireturn, 1) := by decide +kernel
theorem dX1_read_37 : decode cX1_read 37 = .ok (.aload_n 0, 1) := by decide +kernel
theorem dX1_read_38 : decode cX1_read 38 = .ok (.dup, 1) := by decide +kernel
theorem dX1_read_39 : decode cX1_read 39 = .ok (.getfield 34, 3) := by decide +kernel
theorem dX1_read_42 : decode cX1_read 42 = .ok (.iconst 1, 1) := by decide +kernel
theorem dX1_read_43 : decode cX1_read 43 = .ok (.iadd, 1) := by decide +kernel
theorem dX1_read_44 : decode cX1_read 44 = .ok (.putfield 34, 3) := by decide +kernel
theorem dX1_read_47 : decode cX1_read 47 = .ok (.aload_n 0, 1) := by decide +kernel
theorem dX1_read_48 : decode cX1_read 48 = .ok (.bipush 61, 2) := by decide +kernel
theorem dX1_read_50 : decode cX1_read 50 = .ok (.invokevirtual 49, 3) := by decide +kernel
theorem dX1_read_53 : decode cX1_read 53 = .ok (.ifCond .eq 11, 3) := by decide +kernel
theorem dX1_read_56 : decode cX1_read 56 = .ok (.aload_n 0, 1) := by decide +kernel
theorem dX1_read_57 : decode cX1_read 57 = .ok (.iload_n 2, 1) := by decide +kernel
theorem dX1_read_58 : decode cX1_read 58 = .ok (.invokevirtual 52, 3) := by decide +kernel
theorem dX1_read_61 : decode cX1_read 61 = .ok (.ifCond .ne 5, 3) := by decide +kernel
theorem dX1_read_64 : decode cX1_read 64 = .ok (.iconst (-1), 1) := by decide +kernel
theorem dX1_read_65 : decode cX1_read 65 = .ok (.ireturn, 1) := by decide +kernel
theorem dX1_read_66 : decode cX1_read 66 = .ok (.aload_n 0, 1) := by decide +kernel
theorem dX1_read_67 : decode cX1_read 67 = .ok (.getfield 34, 3) := by decide +kernel
theorem dX1_read_70 : decode cX1_read 70 = .ok (.aload_n 0, 1) := by decide +kernel
theorem dX1_read_71 : decode cX1_read 71 = .ok (.getfield 21, 3) := by decide +kernel
theorem dX1_read_74 : decode cX1_read 74 = .ok (.getfield 25, 3) := by decide +kernel
theorem dX1_read_77 : decode cX1_read 77 = .ok (.if_icmp .lt 5, 3) := by decide +kernel
theorem dX1_read_80 : decode cX1_read 80 = .ok (.iload_n 1, 1) := by decide +kernel
theorem dX1_read_81 : decode cX1_read 81 = .ok (.ireturn, 1) := by decide +kernel
theorem dX1_read_82 : decode cX1_read 82 = .ok (.aload_n 0, 1) := by decide +kernel
theorem dX1_read_83 : decode cX1_read 83 = .ok (.bipush 59, 2) := by decide +kernel
theorem dX1_read_85 : decode cX1_read 85 = .ok (.invokevirtual 49, 3) := by decide +kernel
theorem dX1_read_88 : decode cX1_read 88 = .ok (.ifCond .ne 5, 3) := by decide +kernel
theorem dX1_read_91 : decode cX1_read 91 = .ok (.iconst (-1), 1) := by decide +kernel
theorem dX1_read_92 : decode cX1_read 92 = .ok (.ireturn, 1) := by decide +kernel
theorem dX1_read_93 : decode cX1_read 93 = .ok (.iinc 1 1, 3) := by decide +kernel
theorem dX1_read_96 : decode cX1_read 96 = .ok (.goto (-94), 3) := by decide +kernel
theorem dX1_read_99 : decode cX1_read 99 = .ok (.iconst (-1), 1) := by decide +kernel
theorem dX1_read_100 : decode cX1_read 100 = .ok (.ireturn, 1) := by decide +kernel
theorem dX1_conditionOf_0 : decode cX1_conditionOf 0 = .ok (.aload_n 0, 1) := by decide +kernel
theorem dX1_conditionOf_1 : decode cX1_conditionOf 1 = .ok (.iconst 0, 1) := by decide +kernel
theorem dX1_conditionOf_2 : decode cX1_conditionOf 2 = .ok (.putfield 55, 3) := by decide +kernel
theorem dX1_conditionOf_5 : decode cX1_conditionOf 5 = .ok (.aload_n 0, 1) := by decide +kernel
theorem dX1_conditionOf_6 : decode cX1_conditionOf 6 = .ok (.getfield 34, 3) := by decide +kernel
theorem dX1_conditionOf_9 : decode cX1_conditionOf 9 = .ok (.aload_n 0, 1) := by decide +kernel
theorem dX1_conditionOf_10 : decode cX1_conditionOf 10 = .ok (.getfield 21, 3) := by decide +kernel
theorem dX1_conditionOf_13 : decode cX1_conditionOf 13 = .ok (.getfield 25, 3) := by decide +kernel
theorem dX1_conditionOf_16 : decode cX1_conditionOf 16 = .ok (.if_icmp .ge 16, 3) := by decide +kernel
theorem dX1_conditionOf_19 : decode cX1_conditionOf 19 = .ok (.aload_n 0, 1) := by decide +kernel
theorem dX1_conditionOf_20 : decode cX1_conditionOf 20 = .ok (.bipush 59, 2) := by decide +kernel
theorem dX1_conditionOf_22 : decode cX1_conditionOf 22 = .ok (.invokevirtual 56, 3) := by decide +kernel
theorem dX1_conditionOf_25 : decode cX1_conditionOf 25 = .ok (.ifCond .ne 7, 3) := by decide +kernel
theorem dX1_conditionOf_28 : decode cX1_conditionOf 28 = .ok (.iconst 1, 1) := by decide +kernel
theorem dX1_conditionOf_29 : decode cX1_conditionOf 29 = .ok (.goto 4, 3) := by decide +kernel
theorem dX1_conditionOf_32 : decode cX1_conditionOf 32 = .ok (.iconst 0, 1) := by decide +kernel
theorem dX1_conditionOf_33 : decode cX1_conditionOf 33 = .ok (.istore_n 2, 1) := by decide +kernel
theorem dX1_conditionOf_34 : decode cX1_conditionOf 34 = .ok (.iload_n 2, 1) := by decide +kernel
theorem dX1_conditionOf_35 : decode cX1_conditionOf 35 = .ok (.ifCond .eq 13, 3) := by decide +kernel
theorem dX1_conditionOf_38 : decode cX1_conditionOf 38 = .ok (.aload_n 0, 1) := by decide +kernel
theorem dX1_conditionOf_39 : decode cX1_conditionOf 39 = .ok (.iconst 0, 1) := by decide +kernel
theorem dX1_conditionOf_40 : decode cX1_conditionOf 40 = .ok (.invokevirtual 59, 3) := by decide +kernel
theorem dX1_conditionOf_43 : decode cX1_conditionOf 43 = .ok (.ifCond .ne 5, 3) := by decide +kernel
theorem dX1_conditionOf_46 : decode cX1_conditionOf 46 = .ok (.iconst 0, 1) := by decide +kernel
theorem dX1_conditionOf_47 : decode cX1_conditionOf 47 = .ok (.ireturn, 1) := by decide +kernel
theorem dX1_conditionOf_48 : decode cX1_conditionOf 48 = .ok (.aload_n 0, 1) := by decide +kernel
theorem dX1_conditionOf_49 : decode cX1_conditionOf 49 = .ok (.dup, 1) := by decide +kernel
theorem dX1_conditionOf_50 : decode cX1_conditionOf 50 = .ok (.getfield 62, 3) := by decide +kernel
theorem dX1_conditionOf_53 : decode cX1_conditionOf 53 = .ok (.iconst 1, 1) := by decide +kernel
theorem dX1_conditionOf_54 : decode cX1_conditionOf 54 = .ok (.iload_n 1, 1) := by decide +kernel
theorem dX1_conditionOf_55 : decode cX1_conditionOf 55 = .ok (.ishl, 1) := by decide +kernel
theorem dX1_conditionOf_56 : decode cX1_conditionOf 56 = .ok (.ior, 1) := by decide +kernel
theorem dX1_conditionOf_57 : decode cX1_conditionOf 57 = .ok (.putfield 62, 3) := by decide +kernel
theorem dX1_conditionOf_60 : decode cX1_conditionOf 60 = .ok (.aload_n 0, 1) := by decide +kernel
theorem dX1_conditionOf_61 : decode cX1_conditionOf 61 = .ok (.getfield 17, 3) := by decide +kernel
theorem dX1_conditionOf_64 : decode cX1_conditionOf 64 = .ok (.iload_n 1, 1) := by decide +kernel
theorem dX1_conditionOf_65 : decode cX1_conditionOf 65 = .ok (.iload_n 2, 1) := by decide +kernel
theorem dX1_conditionOf_66 : decode cX1_conditionOf 66 = .ok (.ifCond .eq 24, 3) := by decide +kernel
theorem dX1_conditionOf_69 : decode cX1_conditionOf 69 = .ok (.new 15, 3) := by decide +kernel
theorem dX1_conditionOf_72 : decode cX1_conditionOf 72 = .ok (.dup, 1) := by decide +kernel
theorem dX1_conditionOf_73 : decode cX1_conditionOf 73 = .ok (.aload_n 0, 1) := by decide +kernel
theorem dX1_conditionOf_74 : decode cX1_conditionOf 74 = .ok (.getfield 30, 3) := by decide +kernel
theorem dX1_conditionOf_77 : decode cX1_conditionOf 77 = .ok (.aload_n 0, 1) := by decide +kernel
theorem dX1_conditionOf_78 : decode cX1_conditionOf 78 = .ok (.getfield 55, 3) := by decide +kernel
theorem dX1_conditionOf_81 : decode cX1_conditionOf 81 = .ok (.invokestatic 65, 3) := by decide +kernel
theorem dX1_conditionOf_84 : decode cX1_conditionOf 84 = .ok (.invokespecial 71, 3) := by decide +kernel
theorem dX1_conditionOf_87 : decode cX1_conditionOf 87 = .ok (.goto 4, 3) := by decide +kernel
theorem dX1_conditionOf_90 : decode cX1_conditionOf 90 = .ok (.aconst_null, 1) := by decide +kernel
theorem dX1_conditionOf_91 : decode cX1_conditionOf 91 = .ok (.aastore, 1) := by decide +kernel
theorem dX1_conditionOf_92 : decode cX1_conditionOf 92 = .ok (.iconst 1, 1) := by decide +kernel
theorem dX1_conditionOf_93 : decode cX1_conditionOf 93 = .ok (.ireturn, 1) := by decide +kernel
theorem dX1_failed_0 : decode cX1_failed 0 = .ok (.aload_n 0, 1) := by decide +kernel
theorem dX1_failed_1 : decode cX1_failed 1 = .ok (.getfield 9, 3) := by decide +kernel
theorem dX1_failed_4 : decode cX1_failed 4 = .ok (.iconst (-1), 1) := by decide +kernel
theorem dX1_failed_5 : decode cX1_failed 5 = .ok (.if_icmp .ne 11, 3) := by decide +kernel
theorem dX1_failed_8 : decode cX1_failed 8 = .ok (.aload_n 0, 1) := by decide +kernel
theorem dX1_failed_9 : decode cX1_failed 9 = .ok (.aload_n 0, 1) := by decide +kernel
theorem dX1_failed_10 : decode cX1_failed 10 = .ok (.getfield 34, 3) := by decide +kernel
theorem dX1_failed_13 : decode cX1_failed 13 = .ok (.putfield 9, 3) := by decide +kernel
theorem dX1_failed_16 : decode cX1_failed 16 = .ok (.iconst 0, 1) := by decide +kernel
theorem dX1_failed_17 : decode cX1_failed 17 = .ok (.ireturn, 1) := by decide +kernel
theorem dX1_comes_0 : decode cX1_comes 0 = .ok (.aload_n 0, 1) := by decide +kernel
theorem dX1_comes_1 : decode cX1_comes 1 = .ok (.getfield 21, 3) := by decide +kernel
theorem dX1_comes_4 : decode cX1_comes 4 = .ok (.aload_n 0, 1) := by decide +kernel
theorem dX1_comes_5 : decode cX1_comes 5 = .ok (.getfield 34, 3) := by decide +kernel
theorem dX1_comes_8 : decode cX1_comes 8 = .ok (.invokevirtual 37, 3) := by decide +kernel
theorem dX1_comes_11 : decode cX1_comes 11 = .ok (.iload_n 1, 1) := by decide +kernel
theorem dX1_comes_12 : decode cX1_comes 12 = .ok (.if_icmp .ne 7, 3) := by decide +kernel
theorem dX1_comes_15 : decode cX1_comes 15 = .ok (.iconst 1, 1) := by decide +kernel
theorem dX1_comes_16 : decode cX1_comes 16 = .ok (.goto 4, 3) := by decide +kernel
theorem dX1_comes_19 : decode cX1_comes 19 = .ok (.iconst 0, 1) := by decide +kernel
theorem dX1_comes_20 : decode cX1_comes 20 = .ok (.ireturn, 1) := by decide +kernel
theorem dX1_passes_0 : decode cX1_passes 0 = .ok (.aload_n 0, 1) := by decide +kernel
theorem dX1_passes_1 : decode cX1_passes 1 = .ok (.iload_n 1, 1) := by decide +kernel
theorem dX1_passes_2 : decode cX1_passes 2 = .ok (.invokevirtual 56, 3) := by decide +kernel
theorem dX1_passes_5 : decode cX1_passes 5 = .ok (.ifCond .ne 8, 3) := by decide +kernel
theorem dX1_passes_8 : decode cX1_passes 8 = .ok (.aload_n 0, 1) := by decide +kernel
theorem dX1_passes_9 : decode cX1_passes 9 = .ok (.invokevirtual 45, 3) := by decide +kernel
theorem dX1_passes_12 : decode cX1_passes 12 = .ok (.ireturn, 1) := by decide +kernel
theorem dX1_passes_13 : decode cX1_passes 13 = .ok (.aload_n 0, 1) := by decide +kernel
theorem dX1_passes_14 : decode cX1_passes 14 = .ok (.dup, 1) := by decide +kernel
theorem dX1_passes_15 : decode cX1_passes 15 = .ok (.getfield 34, 3) := by decide +kernel
theorem dX1_passes_18 : decode cX1_passes 18 = .ok (.iconst 1, 1) := by decide +kernel
theorem dX1_passes_19 : decode cX1_passes 19 = .ok (.iadd, 1) := by decide +kernel
theorem dX1_passes_20 : decode cX1_passes 20 = .ok (.putfield 34, 3) := by decide +kernel
theorem dX1_passes_23 : decode cX1_passes 23 = .ok (.iconst 1, 1) := by decide +kernel
theorem dX1_passes_24 : decode cX1_passes 24 = .ok (.ireturn, 1) := by decide +kernel
theorem dX1_emit_0 : decode cX1_emit 0 = .ok (.aload_n 0, 1) := by decide +kernel
theorem dX1_emit_1 : decode cX1_emit 1 = .ok (.getfield 55, 3) := by decide +kernel
theorem dX1_emit_4 : decode cX1_emit 4 = .ok (.ifCond .lt 35, 3) := by decide +kernel
theorem dX1_emit_7 : decode cX1_emit 7 = .ok (.aload_n 0, 1) := by decide +kernel
theorem dX1_emit_8 : decode cX1_emit 8 = .ok (.getfield 55, 3) := by decide +kernel
theorem dX1_emit_11 : decode cX1_emit 11 = .ok (.aload_n 0, 1) := by decide +kernel
theorem dX1_emit_12 : decode cX1_emit 12 = .ok (.getfield 30, 3) := by decide +kernel
theorem dX1_emit_15 : decode cX1_emit 15 = .ok (.arraylength, 1) := by decide +kernel
theorem dX1_emit_16 : decode cX1_emit 16 = .ok (.if_icmp .ge 23, 3) := by decide +kernel
theorem dX1_emit_19 : decode cX1_emit 19 = .ok (.aload_n 0, 1) := by decide +kernel
theorem dX1_emit_20 : decode cX1_emit 20 = .ok (.getfield 30, 3) := by decide +kernel
theorem dX1_emit_23 : decode cX1_emit 23 = .ok (.aload_n 0, 1) := by decide +kernel
theorem dX1_emit_24 : decode cX1_emit 24 = .ok (.getfield 55, 3) := by decide +kernel
theorem dX1_emit_27 : decode cX1_emit 27 = .ok (.iload_n 1, 1) := by decide +kernel
theorem dX1_emit_28 : decode cX1_emit 28 = .ok (.iastore, 1) := by decide +kernel
theorem dX1_emit_29 : decode cX1_emit 29 = .ok (.aload_n 0, 1) := by decide +kernel
theorem dX1_emit_30 : decode cX1_emit 30 = .ok (.dup, 1) := by decide +kernel
theorem dX1_emit_31 : decode cX1_emit 31 = .ok (.getfield 55, 3) := by decide +kernel
theorem dX1_emit_34 : decode cX1_emit 34 = .ok (.iconst 1, 1) := by decide +kernel
theorem dX1_emit_35 : decode cX1_emit 35 = .ok (.iadd, 1) := by decide +kernel
theorem dX1_emit_36 : decode cX1_emit 36 = .ok (.putfield 55, 3) := by decide +kernel
theorem dX1_emit_39 : decode cX1_emit 39 = .ok (.return_, 1) := by decide +kernel
theorem dX1_either_0 : decode cX1_either 0 = .ok (.aload_n 0, 1) := by decide +kernel
theorem dX1_either_1 : decode cX1_either 1 = .ok (.iload_n 1, 1) := by decide +kernel
theorem dX1_either_2 : decode cX1_either 2 = .ok (.invokevirtual 74, 3) := by decide +kernel
theorem dX1_either_5 : decode cX1_either 5 = .ok (.istore_n 2, 1) := by decide +kernel
theorem dX1_either_6 : decode cX1_either 6 = .ok (.iconst 0, 1) := by decide +kernel
theorem dX1_either_7 : decode cX1_either 7 = .ok (.istore_n 3, 1) := by decide +kernel
theorem dX1_either_8 : decode cX1_either 8 = .ok (.iload_n 3, 1) := by decide +kernel
theorem dX1_either_9 : decode cX1_either 9 = .ok (.bipush 120, 2) := by decide +kernel
theorem dX1_either_11 : decode cX1_either 11 = .ok (.if_icmp .ge 44, 3) := by decide +kernel
theorem dX1_either_14 : decode cX1_either 14 = .ok (.iload_n 2, 1) := by decide +kernel
theorem dX1_either_15 : decode cX1_either 15 = .ok (.ifCond .eq 40, 3) := by decide +kernel
theorem dX1_either_18 : decode cX1_either 18 = .ok (.aload_n 0, 1) := by decide +kernel
theorem dX1_either_19 : decode cX1_either 19 = .ok (.bipush 124, 2) := by decide +kernel
theorem dX1_either_21 : decode cX1_either 21 = .ok (.invokevirtual 56, 3) := by decide +kernel
theorem dX1_either_24 : decode cX1_either 24 = .ok (.ifCond .eq 31, 3) := by decide +kernel
theorem dX1_either_27 : decode cX1_either 27 = .ok (.aload_n 0, 1) := by decide +kernel
theorem dX1_either_28 : decode cX1_either 28 = .ok (.dup, 1) := by decide +kernel
theorem dX1_either_29 : decode cX1_either 29 = .ok (.getfield 34, 3) := by decide +kernel
theorem dX1_either_32 : decode cX1_either 32 = .ok (.iconst 1, 1) := by decide +kernel
theorem dX1_either_33 : decode cX1_either 33 = .ok (.iadd, 1) := by decide +kernel
theorem dX1_either_34 : decode cX1_either 34 = .ok (.putfield 34, 3) := by decide +kernel
theorem dX1_either_37 : decode cX1_either 37 = .ok (.aload_n 0, 1) := by decide +kernel
theorem dX1_either_38 : decode cX1_either 38 = .ok (.iload_n 1, 1) := by decide +kernel
theorem dX1_either_39 : decode cX1_either 39 = .ok (.invokevirtual 74, 3) := by decide +kernel
theorem dX1_either_42 : decode cX1_either 42 = .ok (.istore_n 2, 1) := by decide +kernel
theorem dX1_either_43 : decode cX1_either 43 = .ok (.aload_n 0, 1) := by decide +kernel
theorem dX1_either_44 : decode cX1_either 44 = .ok (.bipush 124, 2) := by decide +kernel
theorem dX1_either_46 : decode cX1_either 46 = .ok (.invokevirtual 77, 3) := by decide +kernel
theorem dX1_either_49 : decode cX1_either 49 = .ok (.iinc 3 1, 3) := by decide +kernel
theorem dX1_either_52 : decode cX1_either 52 = .ok (.goto (-44), 3) := by decide +kernel
theorem dX1_either_55 : decode cX1_either 55 = .ok (.iload_n 2, 1) := by decide +kernel
theorem dX1_either_56 : decode cX1_either 56 = .ok (.ireturn, 1) := by decide +kernel
theorem dX1_both_0 : decode cX1_both 0 = .ok (.aload_n 0, 1) := by decide +kernel
theorem dX1_both_1 : decode cX1_both 1 = .ok (.iload_n 1, 1) := by decide +kernel
theorem dX1_both_2 : decode cX1_both 2 = .ok (.invokevirtual 81, 3) := by decide +kernel
theorem dX1_both_5 : decode cX1_both 5 = .ok (.istore_n 2, 1) := by decide +kernel
theorem dX1_both_6 : decode cX1_both 6 = .ok (.iconst 0, 1) := by decide +kernel
theorem dX1_both_7 : decode cX1_both 7 = .ok (.istore_n 3, 1) := by decide +kernel
theorem dX1_both_8 : decode cX1_both 8 = .ok (.iload_n 3, 1) := by decide +kernel
theorem dX1_both_9 : decode cX1_both 9 = .ok (.bipush 120, 2) := by decide +kernel
theorem dX1_both_11 : decode cX1_both 11 = .ok (.if_icmp .ge 44, 3) := by decide +kernel
theorem dX1_both_14 : decode cX1_both 14 = .ok (.iload_n 2, 1) := by decide +kernel
theorem dX1_both_15 : decode cX1_both 15 = .ok (.ifCond .eq 40, 3) := by decide +kernel
theorem dX1_both_18 : decode cX1_both 18 = .ok (.aload_n 0, 1) := by decide +kernel
theorem dX1_both_19 : decode cX1_both 19 = .ok (.bipush 38, 2) := by decide +kernel
theorem dX1_both_21 : decode cX1_both 21 = .ok (.invokevirtual 56, 3) := by decide +kernel
theorem dX1_both_24 : decode cX1_both 24 = .ok (.ifCond .eq 31, 3) := by decide +kernel
theorem dX1_both_27 : decode cX1_both 27 = .ok (.aload_n 0, 1) := by decide +kernel
theorem dX1_both_28 : decode cX1_both 28 = .ok (.dup, 1) := by decide +kernel
theorem dX1_both_29 : decode cX1_both 29 = .ok (.getfield 34, 3) := by decide +kernel
theorem dX1_both_32 : decode cX1_both 32 = .ok (.iconst 1, 1) := by decide +kernel
theorem dX1_both_33 : decode cX1_both 33 = .ok (.iadd, 1) := by decide +kernel
theorem dX1_both_34 : decode cX1_both 34 = .ok (.putfield 34, 3) := by decide +kernel
theorem dX1_both_37 : decode cX1_both 37 = .ok (.aload_n 0, 1) := by decide +kernel
theorem dX1_both_38 : decode cX1_both 38 = .ok (.iload_n 1, 1) := by decide +kernel
theorem dX1_both_39 : decode cX1_both 39 = .ok (.invokevirtual 81, 3) := by decide +kernel
theorem dX1_both_42 : decode cX1_both 42 = .ok (.istore_n 2, 1) := by decide +kernel
theorem dX1_both_43 : decode cX1_both 43 = .ok (.aload_n 0, 1) := by decide +kernel
theorem dX1_both_44 : decode cX1_both 44 = .ok (.bipush 38, 2) := by decide +kernel
theorem dX1_both_46 : decode cX1_both 46 = .ok (.invokevirtual 77, 3) := by decide +kernel
theorem dX1_both_49 : decode cX1_both 49 = .ok (.iinc 3 1, 3) := by decide +kernel
theorem dX1_both_52 : decode cX1_both 52 = .ok (.goto (-44), 3) := by decide +kernel
theorem dX1_both_55 : decode cX1_both 55 = .ok (.iload_n 2, 1) := by decide +kernel
theorem dX1_both_56 : decode cX1_both 56 = .ok (.ireturn, 1) := by decide +kernel
theorem dX1_factor_0 : decode cX1_factor 0 = .ok (.aload_n 0, 1) := by decide +kernel
theorem dX1_factor_1 : decode cX1_factor 1 = .ok (.bipush 33, 2) := by decide +kernel
theorem dX1_factor_3 : decode cX1_factor 3 = .ok (.invokevirtual 56, 3) := by decide +kernel
theorem dX1_factor_6 : decode cX1_factor 6 = .ok (.ifCond .ne 17, 3) := by decide +kernel
theorem dX1_factor_9 : decode cX1_factor 9 = .ok (.aload_n 0, 1) := by decide +kernel
theorem dX1_factor_10 : decode cX1_factor 10 = .ok (.bipush 40, 2) := by decide +kernel
theorem dX1_factor_12 : decode cX1_factor 12 = .ok (.invokevirtual 56, 3) := by decide +kernel
theorem dX1_factor_15 : decode cX1_factor 15 = .ok (.ifCond .ne 8, 3) := by decide +kernel
theorem dX1_factor_18 : decode cX1_factor 18 = .ok (.aload_n 0, 1) := by decide +kernel
theorem dX1_factor_19 : decode cX1_factor 19 = .ok (.invokevirtual 84, 3) := by decide +kernel
theorem dX1_factor_22 : decode cX1_factor 22 = .ok (.ireturn, 1) := by decide +kernel
theorem dX1_factor_23 : decode cX1_factor 23 = .ok (.iload_n 1, 1) := by decide +kernel
theorem dX1_factor_24 : decode cX1_factor 24 = .ok (.iconst 4, 1) := by decide +kernel
theorem dX1_factor_25 : decode cX1_factor 25 = .ok (.if_icmp .lt 8, 3) := by decide +kernel
theorem dX1_factor_28 : decode cX1_factor 28 = .ok (.aload_n 0, 1) := by decide +kernel
theorem dX1_factor_29 : decode cX1_factor 29 = .ok (.invokevirtual 45, 3) := by decide +kernel
theorem dX1_factor_32 : decode cX1_factor 32 = .ok (.ireturn, 1) := by decide +kernel
theorem dX1_factor_33 : decode cX1_factor 33 = .ok (.aload_n 0, 1) := by decide +kernel
theorem dX1_factor_34 : decode cX1_factor 34 = .ok (.bipush 33, 2) := by decide +kernel
theorem dX1_factor_36 : decode cX1_factor 36 = .ok (.invokevirtual 56, 3) := by decide +kernel
theorem dX1_factor_39 : decode cX1_factor 39 = .ok (.istore_n 2, 1) := by decide +kernel
theorem dX1_factor_40 : decode cX1_factor 40 = .ok (.aload_n 0, 1) := by decide +kernel
theorem dX1_factor_41 : decode cX1_factor 41 = .ok (.dup, 1) := by decide +kernel
theorem dX1_factor_42 : decode cX1_factor 42 = .ok (.getfield 34, 3) := by decide +kernel
theorem dX1_factor_45 : decode cX1_factor 45 = .ok (.iconst 1, 1) := by decide +kernel
theorem dX1_factor_46 : decode cX1_factor 46 = .ok (.iadd, 1) := by decide +kernel
theorem dX1_factor_47 : decode cX1_factor 47 = .ok (.putfield 34, 3) := by decide +kernel
theorem dX1_factor_50 : decode cX1_factor 50 = .ok (.iload_n 2, 1) := by decide +kernel
theorem dX1_factor_51 : decode cX1_factor 51 = .ok (.ifCond .ne 28, 3) := by decide +kernel
theorem dX1_factor_54 : decode cX1_factor 54 = .ok (.aload_n 0, 1) := by decide +kernel
theorem dX1_factor_55 : decode cX1_factor 55 = .ok (.iload_n 1, 1) := by decide +kernel
theorem dX1_factor_56 : decode cX1_factor 56 = .ok (.iconst 1, 1) := by decide +kernel
theorem dX1_factor_57 : decode cX1_factor 57 = .ok (.iadd, 1) := by decide +kernel
theorem dX1_factor_58 : decode cX1_factor 58 = .ok (.invokevirtual 59, 3) := by decide +kernel
theorem dX1_factor_61 : decode cX1_factor 61 = .ok (.ifCond .eq 16, 3) := by decide +kernel
theorem dX1_factor_64 : decode cX1_factor 64 = .ok (.aload_n 0, 1) := by decide +kernel
theorem dX1_factor_65 : decode cX1_factor 65 = .ok (.bipush 41, 2) := by decide +kernel
theorem dX1_factor_67 : decode cX1_factor 67 = .ok (.invokevirtual 49, 3) := by decide +kernel
theorem dX1_factor_70 : decode cX1_factor 70 = .ok (.ifCond .eq 7, 3) := by decide +kernel
theorem dX1_factor_73 : decode cX1_factor 73 = .ok (.iconst 1, 1) := by decide +kernel
theorem dX1_factor_74 : decode cX1_factor 74 = .ok (.goto 4, 3) := by decide +kernel
theorem dX1_factor_77 : decode cX1_factor 77 = .ok (.iconst 0, 1) := by decide +kernel
theorem dX1_factor_78 : decode cX1_factor 78 = .ok (.ireturn, 1) := by decide +kernel
theorem dX1_factor_79 : decode cX1_factor 79 = .ok (.aload_n 0, 1) := by decide +kernel
theorem dX1_factor_80 : decode cX1_factor 80 = .ok (.iload_n 1, 1) := by decide +kernel
theorem dX1_factor_81 : decode cX1_factor 81 = .ok (.iconst 1, 1) := by decide +kernel
theorem dX1_factor_82 : decode cX1_factor 82 = .ok (.iadd, 1) := by decide +kernel
theorem dX1_factor_83 : decode cX1_factor 83 = .ok (.invokevirtual 81, 3) := by decide +kernel
theorem dX1_factor_86 : decode cX1_factor 86 = .ok (.istore_n 3, 1) := by decide +kernel
theorem dX1_factor_87 : decode cX1_factor 87 = .ok (.aload_n 0, 1) := by decide +kernel
theorem dX1_factor_88 : decode cX1_factor 88 = .ok (.bipush 33, 2) := by decide +kernel
theorem dX1_factor_90 : decode cX1_factor 90 = .ok (.invokevirtual 77, 3) := by decide +kernel
theorem dX1_factor_93 : decode cX1_factor 93 = .ok (.iload_n 3, 1) := by decide +kernel
theorem dX1_factor_94 : decode cX1_factor 94 = .ok (.ireturn, 1) := by decide +kernel
theorem dX1_test_0 : decode cX1_test 0 = .ok (.aload_n 0, 1) := by decide +kernel
theorem dX1_test_1 : decode cX1_test 1 = .ok (.getfield 55, 3) := by decide +kernel
theorem dX1_test_4 : decode cX1_test 4 = .ok (.istore_n 1, 1) := by decide +kernel
theorem dX1_test_5 : decode cX1_test 5 = .ok (.aload_n 0, 1) := by decide +kernel
theorem dX1_test_6 : decode cX1_test 6 = .ok (.iconst (-1), 1) := by decide +kernel
theorem dX1_test_7 : decode cX1_test 7 = .ok (.invokevirtual 77, 3) := by decide +kernel
theorem dX1_test_10 : decode cX1_test 10 = .ok (.aload_n 0, 1) := by decide +kernel
theorem dX1_test_11 : decode cX1_test 11 = .ok (.invokevirtual 87, 3) := by decide +kernel
theorem dX1_test_14 : decode cX1_test 14 = .ok (.ifCond .ne 5, 3) := by decide +kernel
theorem dX1_test_17 : decode cX1_test 17 = .ok (.iconst 0, 1) := by decide +kernel
theorem dX1_test_18 : decode cX1_test 18 = .ok (.ireturn, 1) := by decide +kernel
theorem dX1_test_19 : decode cX1_test 19 = .ok (.aload_n 0, 1) := by decide +kernel
theorem dX1_test_20 : decode cX1_test 20 = .ok (.getfield 21, 3) := by decide +kernel
theorem dX1_test_23 : decode cX1_test 23 = .ok (.aload_n 0, 1) := by decide +kernel
theorem dX1_test_24 : decode cX1_test 24 = .ok (.getfield 34, 3) := by decide +kernel
theorem dX1_test_27 : decode cX1_test 27 = .ok (.invokevirtual 37, 3) := by decide +kernel
theorem dX1_test_30 : decode cX1_test 30 = .ok (.istore_n 2, 1) := by decide +kernel
theorem dX1_test_31 : decode cX1_test 31 = .ok (.iload_n 2, 1) := by decide +kernel
theorem dX1_test_32 : decode cX1_test 32 = .ok (.bipush 60, 2) := by decide +kernel
theorem dX1_test_34 : decode cX1_test 34 = .ok (.if_icmp .eq 20, 3) := by decide +kernel
theorem dX1_test_37 : decode cX1_test 37 = .ok (.iload_n 2, 1) := by decide +kernel
theorem dX1_test_38 : decode cX1_test 38 = .ok (.bipush 61, 2) := by decide +kernel
theorem dX1_test_40 : decode cX1_test 40 = .ok (.if_icmp .eq 14, 3) := by decide +kernel
theorem dX1_test_43 : decode cX1_test 43 = .ok (.iload_n 2, 1) := by decide +kernel
theorem dX1_test_44 : decode cX1_test 44 = .ok (.bipush 62, 2) := by decide +kernel
theorem dX1_test_46 : decode cX1_test 46 = .ok (.if_icmp .eq 8, 3) := by decide +kernel
theorem dX1_test_49 : decode cX1_test 49 = .ok (.aload_n 0, 1) := by decide +kernel
theorem dX1_test_50 : decode cX1_test 50 = .ok (.invokevirtual 45, 3) := by decide +kernel
theorem dX1_test_53 : decode cX1_test 53 = .ok (.ireturn, 1) := by decide +kernel
theorem dX1_test_54 : decode cX1_test 54 = .ok (.aload_n 0, 1) := by decide +kernel
theorem dX1_test_55 : decode cX1_test 55 = .ok (.dup, 1) := by decide +kernel
theorem dX1_test_56 : decode cX1_test 56 = .ok (.getfield 34, 3) := by decide +kernel
theorem dX1_test_59 : decode cX1_test 59 = .ok (.iconst 1, 1) := by decide +kernel
theorem dX1_test_60 : decode cX1_test 60 = .ok (.iadd, 1) := by decide +kernel
theorem dX1_test_61 : decode cX1_test 61 = .ok (.putfield 34, 3) := by decide +kernel
theorem dX1_test_64 : decode cX1_test 64 = .ok (.iload_n 1, 1) := by decide +kernel
theorem dX1_test_65 : decode cX1_test 65 = .ok (.ifCond .lt 19, 3) := by decide +kernel
theorem dX1_test_68 : decode cX1_test 68 = .ok (.iload_n 1, 1) := by decide +kernel
theorem dX1_test_69 : decode cX1_test 69 = .ok (.aload_n 0, 1) := by decide +kernel
theorem dX1_test_70 : decode cX1_test 70 = .ok (.getfield 30, 3) := by decide +kernel
theorem dX1_test_73 : decode cX1_test 73 = .ok (.arraylength, 1) := by decide +kernel
theorem dX1_test_74 : decode cX1_test 74 = .ok (.if_icmp .ge 10, 3) := by decide +kernel
theorem dX1_test_77 : decode cX1_test 77 = .ok (.aload_n 0, 1) := by decide +kernel
theorem dX1_test_78 : decode cX1_test 78 = .ok (.getfield 30, 3) := by decide +kernel
theorem dX1_test_81 : decode cX1_test 81 = .ok (.iload_n 1, 1) := by decide +kernel
theorem dX1_test_82 : decode cX1_test 82 = .ok (.iload_n 2, 1) := by decide +kernel
theorem dX1_test_83 : decode cX1_test 83 = .ok (.iastore, 1) := by decide +kernel
theorem dX1_test_84 : decode cX1_test 84 = .ok (.aload_n 0, 1) := by decide +kernel
theorem dX1_test_85 : decode cX1_test 85 = .ok (.invokevirtual 87, 3) := by decide +kernel
theorem dX1_test_88 : decode cX1_test 88 = .ok (.ireturn, 1) := by decide +kernel
theorem dX1_operand_0 : decode cX1_operand 0 = .ok (.aload_n 0, 1) := by decide +kernel
theorem dX1_operand_1 : decode cX1_operand 1 = .ok (.getfield 21, 3) := by decide +kernel
theorem dX1_operand_4 : decode cX1_operand 4 = .ok (.aload_n 0, 1) := by decide +kernel
theorem dX1_operand_5 : decode cX1_operand 5 = .ok (.getfield 34, 3) := by decide +kernel
theorem dX1_operand_8 : decode cX1_operand 8 = .ok (.invokevirtual 37, 3) := by decide +kernel
theorem dX1_operand_11 : decode cX1_operand 11 = .ok (.istore_n 1, 1) := by decide +kernel
theorem dX1_operand_12 : decode cX1_operand 12 = .ok (.iload_n 1, 1) := by decide +kernel
theorem dX1_operand_13 : decode cX1_operand 13 = .ok (.bipush 120, 2) := by decide +kernel
theorem dX1_operand_15 : decode cX1_operand 15 = .ok (.if_icmp .eq 9, 3) := by decide +kernel
theorem dX1_operand_18 : decode cX1_operand 18 = .ok (.iload_n 1, 1) := by decide +kernel
theorem dX1_operand_19 : decode cX1_operand 19 = .ok (.bipush 121, 2) := by decide +kernel
theorem dX1_operand_21 : decode cX1_operand 21 = .ok (.if_icmp .ne 7, 3) := by decide +kernel
theorem dX1_operand_24 : decode cX1_operand 24 = .ok (.iconst 1, 1) := by decide +kernel
theorem dX1_operand_25 : decode cX1_operand 25 = .ok (.goto 4, 3) := by decide +kernel
theorem dX1_operand_28 : decode cX1_operand 28 = .ok (.iconst 0, 1) := by decide +kernel
theorem dX1_operand_29 : decode cX1_operand 29 = .ok (.istore_n 2, 1) := by decide +kernel
theorem dX1_operand_30 : decode cX1_operand 30 = .ok (.iload_n 1, 1) := by decide +kernel
theorem dX1_operand_31 : decode cX1_operand 31 = .ok (.bipush 112, 2) := by decide +kernel
theorem dX1_operand_33 : decode cX1_operand 33 = .ok (.if_icmp .eq 9, 3) := by decide +kernel
theorem dX1_operand_36 : decode cX1_operand 36 = .ok (.iload_n 1, 1) := by decide +kernel
theorem dX1_operand_37 : decode cX1_operand 37 = .ok (.bipush 110, 2) := by decide +kernel
theorem dX1_operand_39 : decode cX1_operand 39 = .ok (.if_icmp .ne 7, 3) := by decide +kernel
theorem dX1_operand_42 : decode cX1_operand 42 = .ok (.iconst 1, 1) := by decide +kernel
theorem dX1_operand_43 : decode cX1_operand 43 = .ok (.goto 4, 3) := by decide +kernel
theorem dX1_operand_46 : decode cX1_operand 46 = .ok (.iconst 0, 1) := by decide +kernel
theorem dX1_operand_47 : decode cX1_operand 47 = .ok (.istore_n 3, 1) := by decide +kernel
theorem dX1_operand_48 : decode cX1_operand 48 = .ok (.iload_n 1, 1) := by decide +kernel
theorem dX1_operand_49 : decode cX1_operand 49 = .ok (.bipush 102, 2) := by decide +kernel
theorem dX1_operand_51 : decode cX1_operand 51 = .ok (.if_icmp .eq 21, 3) := by decide +kernel
theorem dX1_operand_54 : decode cX1_operand 54 = .ok (.iload_n 1, 1) := by decide +kernel
theorem dX1_operand_55 : decode cX1_operand 55 = .ok (.bipush 108, 2) := by decide +kernel
theorem dX1_operand_57 : decode cX1_operand 57 = .ok (.if_icmp .eq 15, 3) := by decide +kernel
theorem dX1_operand_60 : decode cX1_operand 60 = .ok (.iload_n 1, 1) := by decide +kernel
theorem dX1_operand_61 : decode cX1_operand 61 = .ok (.bipush 115, 2) := by decide +kernel
theorem dX1_operand_63 : decode cX1_operand 63 = .ok (.if_icmp .eq 9, 3) := by decide +kernel
theorem dX1_operand_66 : decode cX1_operand 66 = .ok (.iload_n 1, 1) := by decide +kernel
theorem dX1_operand_67 : decode cX1_operand 67 = .ok (.bipush 99, 2) := by decide +kernel
theorem dX1_operand_69 : decode cX1_operand 69 = .ok (.if_icmp .ne 7, 3) := by decide +kernel
theorem dX1_operand_72 : decode cX1_operand 72 = .ok (.iconst 1, 1) := by decide +kernel
theorem dX1_operand_73 : decode cX1_operand 73 = .ok (.goto 4, 3) := by decide +kernel
theorem dX1_operand_76 : decode cX1_operand 76 = .ok (.iconst 0, 1) := by decide +kernel
theorem dX1_operand_77 : decode cX1_operand 77 = .ok (.istore 4, 2) := by decide +kernel
theorem dX1_operand_79 : decode cX1_operand 79 = .ok (.iload_n 2, 1) := by decide +kernel
theorem dX1_operand_80 : decode cX1_operand 80 = .ok (.ifCond .eq 11, 3) := by decide +kernel
theorem dX1_operand_83 : decode cX1_operand 83 = .ok (.aload_n 0, 1) := by decide +kernel
theorem dX1_operand_84 : decode cX1_operand 84 = .ok (.bipush 120, 2) := by decide +kernel
theorem dX1_operand_86 : decode cX1_operand 86 = .ok (.iconst 0, 1) := by decide +kernel
theorem dX1_operand_87 : decode cX1_operand 87 = .ok (.invokevirtual 90, 3) := by decide +kernel
theorem dX1_operand_90 : decode cX1_operand 90 = .ok (.ireturn, 1) := by decide +kernel
theorem dX1_operand_91 : decode cX1_operand 91 = .ok (.iload_n 3, 1) := by decide +kernel
theorem dX1_operand_92 : decode cX1_operand 92 = .ok (.ifCond .ne 13, 3) := by decide +kernel
theorem dX1_operand_95 : decode cX1_operand 95 = .ok (.iload 4, 2) := by decide +kernel
theorem dX1_operand_97 : decode cX1_operand 97 = .ok (.ifCond .ne 8, 3) := by decide +kernel
theorem dX1_operand_100 : decode cX1_operand 100 = .ok (.aload_n 0, 1) := by decide +kernel
theorem dX1_operand_101 : decode cX1_operand 101 = .ok (.invokevirtual 94, 3) := by decide +kernel
theorem dX1_operand_104 : decode cX1_operand 104 = .ok (.ireturn, 1) := by decide +kernel
theorem dX1_operand_105 : decode cX1_operand 105 = .ok (.aload_n 0, 1) := by decide +kernel
theorem dX1_operand_106 : decode cX1_operand 106 = .ok (.dup, 1) := by decide +kernel
theorem dX1_operand_107 : decode cX1_operand 107 = .ok (.getfield 34, 3) := by decide +kernel
theorem dX1_operand_110 : decode cX1_operand 110 = .ok (.iconst 1, 1) := by decide +kernel
theorem dX1_operand_111 : decode cX1_operand 111 = .ok (.iadd, 1) := by decide +kernel
theorem dX1_operand_112 : decode cX1_operand 112 = .ok (.putfield 34, 3) := by decide +kernel
theorem dX1_operand_115 : decode cX1_operand 115 = .ok (.iload_n 3, 1) := by decide +kernel
theorem dX1_operand_116 : decode cX1_operand 116 = .ok (.ifCond .eq 10, 3) := by decide +kernel
theorem dX1_operand_119 : decode cX1_operand 119 = .ok (.aload_n 0, 1) := by decide +kernel
theorem dX1_operand_120 : decode cX1_operand 120 = .ok (.iload_n 1, 1) := by decide +kernel
theorem dX1_operand_121 : decode cX1_operand 121 = .ok (.iconst 0, 1) := by decide +kernel
theorem dX1_operand_122 : decode cX1_operand 122 = .ok (.invokevirtual 90, 3) := by decide +kernel
theorem dX1_operand_125 : decode cX1_operand 125 = .ok (.ireturn, 1) := by decide +kernel
theorem dX1_operand_126 : decode cX1_operand 126 = .ok (.aload_n 0, 1) := by decide +kernel
theorem dX1_operand_127 : decode cX1_operand 127 = .ok (.getfield 21, 3) := by decide +kernel
theorem dX1_operand_130 : decode cX1_operand 130 = .ok (.aload_n 0, 1) := by decide +kernel
theorem dX1_operand_131 : decode cX1_operand 131 = .ok (.getfield 34, 3) := by decide +kernel
theorem dX1_operand_134 : decode cX1_operand 134 = .ok (.invokevirtual 37, 3) := by decide +kernel
theorem dX1_operand_137 : decode cX1_operand 137 = .ok (.bipush 65, 2) := by decide +kernel
theorem dX1_operand_139 : decode cX1_operand 139 = .ok (.isub, 1) := by decide +kernel
theorem dX1_operand_140 : decode cX1_operand 140 = .ok (.istore 5, 2) := by decide +kernel
theorem dX1_operand_142 : decode cX1_operand 142 = .ok (.iload 5, 2) := by decide +kernel
theorem dX1_operand_144 : decode cX1_operand 144 = .ok (.invokestatic 41, 3) := by decide +kernel
theorem dX1_operand_147 : decode cX1_operand 147 = .ok (.ifCond .ne 8, 3) := by decide +kernel
theorem dX1_operand_150 : decode cX1_operand 150 = .ok (.aload_n 0, 1) := by decide +kernel
theorem dX1_operand_151 : decode cX1_operand 151 = .ok (.invokevirtual 45, 3) := by decide +kernel
theorem dX1_operand_154 : decode cX1_operand 154 = .ok (.ireturn, 1) := by decide +kernel
theorem dX1_operand_155 : decode cX1_operand 155 = .ok (.aload_n 0, 1) := by decide +kernel
theorem dX1_operand_156 : decode cX1_operand 156 = .ok (.dup, 1) := by decide +kernel
theorem dX1_operand_157 : decode cX1_operand 157 = .ok (.getfield 34, 3) := by decide +kernel
theorem dX1_operand_160 : decode cX1_operand 160 = .ok (.iconst 1, 1) := by decide +kernel
theorem dX1_operand_161 : decode cX1_operand 161 = .ok (.iadd, 1) := by decide +kernel
theorem dX1_operand_162 : decode cX1_operand 162 = .ok (.putfield 34, 3) := by decide +kernel
theorem dX1_operand_165 : decode cX1_operand 165 = .ok (.iload_n 1, 1) := by decide +kernel
theorem dX1_operand_166 : decode cX1_operand 166 = .ok (.bipush 99, 2) := by decide +kernel
theorem dX1_operand_168 : decode cX1_operand 168 = .ok (.if_icmp .ne 17, 3) := by decide +kernel
theorem dX1_operand_171 : decode cX1_operand 171 = .ok (.aload_n 0, 1) := by decide +kernel
theorem dX1_operand_172 : decode cX1_operand 172 = .ok (.iload_n 1, 1) := by decide +kernel
theorem dX1_operand_173 : decode cX1_operand 173 = .ok (.iconst 2, 1) := by decide +kernel
theorem dX1_operand_174 : decode cX1_operand 174 = .ok (.iload 5, 2) := by decide +kernel
theorem dX1_operand_176 : decode cX1_operand 176 = .ok (.imul, 1) := by decide +kernel
theorem dX1_operand_177 : decode cX1_operand 177 = .ok (.invokestatic 97, 3) := by decide +kernel
theorem dX1_operand_180 : decode cX1_operand 180 = .ok (.invokevirtual 77, 3) := by decide +kernel
theorem dX1_operand_183 : decode cX1_operand 183 = .ok (.iconst 1, 1) := by decide +kernel
theorem dX1_operand_184 : decode cX1_operand 184 = .ok (.ireturn, 1) := by decide +kernel
theorem dX1_operand_185 : decode cX1_operand 185 = .ok (.aload_n 0, 1) := by decide +kernel
theorem dX1_operand_186 : decode cX1_operand 186 = .ok (.iload_n 1, 1) := by decide +kernel
theorem dX1_operand_187 : decode cX1_operand 187 = .ok (.iload 5, 2) := by decide +kernel
theorem dX1_operand_189 : decode cX1_operand 189 = .ok (.invokevirtual 90, 3) := by decide +kernel
theorem dX1_operand_192 : decode cX1_operand 192 = .ok (.ireturn, 1) := by decide +kernel
theorem dX1_column_0 : decode cX1_column 0 = .ok (.aload_n 0, 1) := by decide +kernel
theorem dX1_column_1 : decode cX1_column 1 = .ok (.getfield 21, 3) := by decide +kernel
theorem dX1_column_4 : decode cX1_column 4 = .ok (.aload_n 0, 1) := by decide +kernel
theorem dX1_column_5 : decode cX1_column 5 = .ok (.getfield 34, 3) := by decide +kernel
theorem dX1_column_8 : decode cX1_column 8 = .ok (.invokevirtual 37, 3) := by decide +kernel
theorem dX1_column_11 : decode cX1_column 11 = .ok (.istore_n 3, 1) := by decide +kernel
theorem dX1_column_12 : decode cX1_column 12 = .ok (.iload_n 3, 1) := by decide +kernel
theorem dX1_column_13 : decode cX1_column 13 = .ok (.bipush 120, 2) := by decide +kernel
theorem dX1_column_15 : decode cX1_column 15 = .ok (.if_icmp .eq 14, 3) := by decide +kernel
theorem dX1_column_18 : decode cX1_column 18 = .ok (.iload_n 3, 1) := by decide +kernel
theorem dX1_column_19 : decode cX1_column 19 = .ok (.bipush 121, 2) := by decide +kernel
theorem dX1_column_21 : decode cX1_column 21 = .ok (.if_icmp .eq 8, 3) := by decide +kernel
theorem dX1_column_24 : decode cX1_column 24 = .ok (.aload_n 0, 1) := by decide +kernel
theorem dX1_column_25 : decode cX1_column 25 = .ok (.invokevirtual 45, 3) := by decide +kernel
theorem dX1_column_28 : decode cX1_column 28 = .ok (.ireturn, 1) := by decide +kernel
theorem dX1_column_29 : decode cX1_column 29 = .ok (.aload_n 0, 1) := by decide +kernel
theorem dX1_column_30 : decode cX1_column 30 = .ok (.dup, 1) := by decide +kernel
theorem dX1_column_31 : decode cX1_column 31 = .ok (.getfield 34, 3) := by decide +kernel
theorem dX1_column_34 : decode cX1_column 34 = .ok (.iconst 1, 1) := by decide +kernel
theorem dX1_column_35 : decode cX1_column 35 = .ok (.iadd, 1) := by decide +kernel
theorem dX1_column_36 : decode cX1_column 36 = .ok (.putfield 34, 3) := by decide +kernel
theorem dX1_column_39 : decode cX1_column 39 = .ok (.aload_n 0, 1) := by decide +kernel
theorem dX1_column_40 : decode cX1_column 40 = .ok (.iload_n 1, 1) := by decide +kernel
theorem dX1_column_41 : decode cX1_column 41 = .ok (.iconst 2, 1) := by decide +kernel
theorem dX1_column_42 : decode cX1_column 42 = .ok (.iload_n 2, 1) := by decide +kernel
theorem dX1_column_43 : decode cX1_column 43 = .ok (.imul, 1) := by decide +kernel
theorem dX1_column_44 : decode cX1_column 44 = .ok (.iload_n 3, 1) := by decide +kernel
theorem dX1_column_45 : decode cX1_column 45 = .ok (.bipush 121, 2) := by decide +kernel
theorem dX1_column_47 : decode cX1_column 47 = .ok (.if_icmp .ne 7, 3) := by decide +kernel
theorem dX1_column_50 : decode cX1_column 50 = .ok (.iconst 1, 1) := by decide +kernel
theorem dX1_column_51 : decode cX1_column 51 = .ok (.goto 4, 3) := by decide +kernel
theorem dX1_column_54 : decode cX1_column 54 = .ok (.iconst 0, 1) := by decide +kernel
theorem dX1_column_55 : decode cX1_column 55 = .ok (.iadd, 1) := by decide +kernel
theorem dX1_column_56 : decode cX1_column 56 = .ok (.invokestatic 97, 3) := by decide +kernel
theorem dX1_column_59 : decode cX1_column 59 = .ok (.invokevirtual 77, 3) := by decide +kernel
theorem dX1_column_62 : decode cX1_column 62 = .ok (.iconst 1, 1) := by decide +kernel
theorem dX1_column_63 : decode cX1_column 63 = .ok (.ireturn, 1) := by decide +kernel
theorem dX1_number_0 : decode cX1_number 0 = .ok (.iconst 1, 1) := by decide +kernel
theorem dX1_number_1 : decode cX1_number 1 = .ok (.istore_n 1, 1) := by decide +kernel
theorem dX1_number_2 : decode cX1_number 2 = .ok (.aload_n 0, 1) := by decide +kernel
theorem dX1_number_3 : decode cX1_number 3 = .ok (.getfield 21, 3) := by decide +kernel
theorem dX1_number_6 : decode cX1_number 6 = .ok (.aload_n 0, 1) := by decide +kernel
theorem dX1_number_7 : decode cX1_number 7 = .ok (.getfield 34, 3) := by decide +kernel
theorem dX1_number_10 : decode cX1_number 10 = .ok (.invokevirtual 37, 3) := by decide +kernel
theorem dX1_number_13 : decode cX1_number 13 = .ok (.bipush 45, 2) := by decide +kernel
theorem dX1_number_15 : decode cX1_number 15 = .ok (.if_icmp .ne 15, 3) := by decide +kernel
theorem dX1_number_18 : decode cX1_number 18 = .ok (.iconst (-1), 1) := by decide +kernel
theorem dX1_number_19 : decode cX1_number 19 = .ok (.istore_n 1, 1) := by decide +kernel
theorem dX1_number_20 : decode cX1_number 20 = .ok (.aload_n 0, 1) := by decide +kernel
theorem dX1_number_21 : decode cX1_number 21 = .ok (.dup, 1) := by decide +kernel
theorem dX1_number_22 : decode cX1_number 22 = .ok (.getfield 34, 3) := by decide +kernel
theorem dX1_number_25 : decode cX1_number 25 = .ok (.iconst 1, 1) := by decide +kernel
theorem dX1_number_26 : decode cX1_number 26 = .ok (.iadd, 1) := by decide +kernel
theorem dX1_number_27 : decode cX1_number 27 = .ok (.putfield 34, 3) := by decide +kernel
theorem dX1_number_30 : decode cX1_number 30 = .ok (.aload_n 0, 1) := by decide +kernel
theorem dX1_number_31 : decode cX1_number 31 = .ok (.getfield 34, 3) := by decide +kernel
theorem dX1_number_34 : decode cX1_number 34 = .ok (.istore_n 2, 1) := by decide +kernel
theorem dX1_number_35 : decode cX1_number 35 = .ok (.iconst 0, 1) := by decide +kernel
theorem dX1_number_36 : decode cX1_number 36 = .ok (.istore_n 3, 1) := by decide +kernel
theorem dX1_number_37 : decode cX1_number 37 = .ok (.iconst 0, 1) := by decide +kernel
theorem dX1_number_38 : decode cX1_number 38 = .ok (.istore 4, 2) := by decide +kernel
theorem dX1_number_40 : decode cX1_number 40 = .ok (.iload 4, 2) := by decide +kernel
theorem dX1_number_42 : decode cX1_number 42 = .ok (.iconst 3, 1) := by decide +kernel
theorem dX1_number_43 : decode cX1_number 43 = .ok (.if_icmp .ge 58, 3) := by decide +kernel
theorem dX1_number_46 : decode cX1_number 46 = .ok (.aload_n 0, 1) := by decide +kernel
theorem dX1_number_47 : decode cX1_number 47 = .ok (.getfield 21, 3) := by decide +kernel
theorem dX1_number_50 : decode cX1_number 50 = .ok (.aload_n 0, 1) := by decide +kernel
theorem dX1_number_51 : decode cX1_number 51 = .ok (.getfield 34, 3) := by decide +kernel
theorem dX1_number_54 : decode cX1_number 54 = .ok (.invokevirtual 37, 3) := by decide +kernel
theorem dX1_number_57 : decode cX1_number 57 = .ok (.bipush 48, 2) := by decide +kernel
theorem dX1_number_59 : decode cX1_number 59 = .ok (.isub, 1) := by decide +kernel
theorem dX1_number_60 : decode cX1_number 60 = .ok (.istore 5, 2) := by decide +kernel
theorem dX1_number_62 : decode cX1_number 62 = .ok (.iload 5, 2) := by decide +kernel
theorem dX1_number_64 : decode cX1_number 64 = .ok (.ifCond .lt 37, 3) := by decide +kernel
theorem dX1_number_67 : decode cX1_number 67 = .ok (.iload 5, 2) := by decide +kernel
theorem dX1_number_69 : decode cX1_number 69 = .ok (.bipush 9, 2) := by decide +kernel
theorem dX1_number_71 : decode cX1_number 71 = .ok (.if_icmp .le 6, 3) := by decide +kernel
theorem dX1_number_74 : decode cX1_number 74 = .ok (.goto 27, 3) := by decide +kernel
theorem dX1_number_77 : decode cX1_number 77 = .ok (.iload_n 3, 1) := by decide +kernel
theorem dX1_number_78 : decode cX1_number 78 = .ok (.bipush 10, 2) := by decide +kernel
theorem dX1_number_80 : decode cX1_number 80 = .ok (.imul, 1) := by decide +kernel
theorem dX1_number_81 : decode cX1_number 81 = .ok (.iload 5, 2) := by decide +kernel
theorem dX1_number_83 : decode cX1_number 83 = .ok (.iadd, 1) := by decide +kernel
theorem dX1_number_84 : decode cX1_number 84 = .ok (.istore_n 3, 1) := by decide +kernel
theorem dX1_number_85 : decode cX1_number 85 = .ok (.aload_n 0, 1) := by decide +kernel
theorem dX1_number_86 : decode cX1_number 86 = .ok (.dup, 1) := by decide +kernel
theorem dX1_number_87 : decode cX1_number 87 = .ok (.getfield 34, 3) := by decide +kernel
theorem dX1_number_90 : decode cX1_number 90 = .ok (.iconst 1, 1) := by decide +kernel
theorem dX1_number_91 : decode cX1_number 91 = .ok (.iadd, 1) := by decide +kernel
theorem dX1_number_92 : decode cX1_number 92 = .ok (.putfield 34, 3) := by decide +kernel
theorem dX1_number_95 : decode cX1_number 95 = .ok (.iinc 4 1, 3) := by decide +kernel
theorem dX1_number_98 : decode cX1_number 98 = .ok (.goto (-58), 3) := by decide +kernel
theorem dX1_number_101 : decode cX1_number 101 = .ok (.aload_n 0, 1) := by decide +kernel
theorem dX1_number_102 : decode cX1_number 102 = .ok (.getfield 34, 3) := by decide +kernel
theorem dX1_number_105 : decode cX1_number 105 = .ok (.iload_n 2, 1) := by decide +kernel
theorem dX1_number_106 : decode cX1_number 106 = .ok (.if_icmp .ne 8, 3) := by decide +kernel
theorem dX1_number_109 : decode cX1_number 109 = .ok (.aload_n 0, 1) := by decide +kernel
theorem dX1_number_110 : decode cX1_number 110 = .ok (.invokevirtual 45, 3) := by decide +kernel
theorem dX1_number_113 : decode cX1_number 113 = .ok (.ireturn, 1) := by decide +kernel
theorem dX1_number_114 : decode cX1_number 114 = .ok (.aload_n 0, 1) := by decide +kernel
theorem dX1_number_115 : decode cX1_number 115 = .ok (.bipush 48, 2) := by decide +kernel
theorem dX1_number_117 : decode cX1_number 117 = .ok (.iload_n 1, 1) := by decide +kernel
theorem dX1_number_118 : decode cX1_number 118 = .ok (.iload_n 3, 1) := by decide +kernel
theorem dX1_number_119 : decode cX1_number 119 = .ok (.imul, 1) := by decide +kernel
theorem dX1_number_120 : decode cX1_number 120 = .ok (.sipush 1000, 3) := by decide +kernel
theorem dX1_number_123 : decode cX1_number 123 = .ok (.iadd, 1) := by decide +kernel
theorem dX1_number_124 : decode cX1_number 124 = .ok (.invokestatic 97, 3) := by decide +kernel
theorem dX1_number_127 : decode cX1_number 127 = .ok (.invokevirtual 77, 3) := by decide +kernel
theorem dX1_number_130 : decode cX1_number 130 = .ok (.iconst 1, 1) := by decide +kernel
theorem dX1_number_131 : decode cX1_number 131 = .ok (.ireturn, 1) := by decide +kernel
theorem dX2_init_0 : decode cX2_init 0 = .ok (.aload_n 0, 1) := by decide +kernel
theorem dX2_init_1 : decode cX2_init 1 = .ok (.invokespecial 3, 3) := by decide +kernel
theorem dX2_init_4 : decode cX2_init 4 = .ok (.aload_n 0, 1) := by decide +kernel
theorem dX2_init_5 : decode cX2_init 5 = .ok (.bipush 40, 2) := by decide +kernel
theorem dX2_init_7 : decode cX2_init 7 = .ok (.newarray .long, 2) := by decide +kernel
theorem dX2_init_9 : decode cX2_init 9 = .ok (.putfield 9, 3) := by decide +kernel
theorem dX2_init_12 : decode cX2_init 12 = .ok (.aload_n 0, 1) := by decide +kernel
theorem dX2_init_13 : decode cX2_init 13 = .ok (.iconst (-1), 1) := by decide +kernel
theorem dX2_init_14 : decode cX2_init 14 = .ok (.putfield 15, 3) := by decide +kernel
theorem dX2_init_17 : decode cX2_init 17 = .ok (.return_, 1) := by decide +kernel
theorem dX3_init_0 : decode cX3_init 0 = .ok (.aload_n 0, 1) := by decide +kernel
theorem dX3_init_1 : decode cX3_init 1 = .ok (.invokespecial 3, 3) := by decide +kernel
theorem dX3_init_4 : decode cX3_init 4 = .ok (.aload_n 0, 1) := by decide +kernel
theorem dX3_init_5 : decode cX3_init 5 = .ok (.bipush 33, 2) := by decide +kernel
theorem dX3_init_7 : decode cX3_init 7 = .ok (.newarray .int, 2) := by decide +kernel
theorem dX3_init_9 : decode cX3_init 9 = .ok (.putfield 11, 3) := by decide +kernel
theorem dX3_init_12 : decode cX3_init 12 = .ok (.aload_n 0, 1) := by decide +kernel
theorem dX3_init_13 : decode cX3_init 13 = .ok (.bipush 33, 2) := by decide +kernel
theorem dX3_init_15 : decode cX3_init 15 = .ok (.newarray .int, 2) := by decide +kernel
theorem dX3_init_17 : decode cX3_init 17 = .ok (.putfield 15, 3) := by decide +kernel
theorem dX3_init_20 : decode cX3_init 20 = .ok (.aload_n 0, 1) := by decide +kernel
theorem dX3_init_21 : decode cX3_init 21 = .ok (.sipush 1056, 3) := by decide +kernel
theorem dX3_init_24 : decode cX3_init 24 = .ok (.newarray .int, 2) := by decide +kernel
theorem dX3_init_26 : decode cX3_init 26 = .ok (.putfield 18, 3) := by decide +kernel
theorem dX3_init_29 : decode cX3_init 29 = .ok (.return_, 1) := by decide +kernel
theorem dX3_has_0 : decode cX3_has 0 = .ok (.iload_n 1, 1) := by decide +kernel
theorem dX3_has_1 : decode cX3_has 1 = .ok (.ifCond .lt 21, 3) := by decide +kernel
theorem dX3_has_4 : decode cX3_has 4 = .ok (.iload_n 1, 1) := by decide +kernel
theorem dX3_has_5 : decode cX3_has 5 = .ok (.aload_n 0, 1) := by decide +kernel
theorem dX3_has_6 : decode cX3_has 6 = .ok (.getfield 21, 3) := by decide +kernel
theorem dX3_has_9 : decode cX3_has 9 = .ok (.if_icmp .ge 13, 3) := by decide +kernel
theorem dX3_has_12 : decode cX3_has 12 = .ok (.iload_n 1, 1) := by decide +kernel
theorem dX3_has_13 : decode cX3_has 13 = .ok (.bipush 33, 2) := by decide +kernel
theorem dX3_has_15 : decode cX3_has 15 = .ok (.if_icmp .ge 7, 3) := by decide +kernel
theorem dX3_has_18 : decode cX3_has 18 = .ok (.iconst 1, 1) := by decide +kernel
theorem dX3_has_19 : decode cX3_has 19 = .ok (.goto 4, 3) := by decide +kernel
theorem dX3_has_22 : decode cX3_has 22 = .ok (.iconst 0, 1) := by decide +kernel
theorem dX3_has_23 : decode cX3_has 23 = .ok (.ireturn, 1) := by decide +kernel
theorem dX3_add_0 : decode cX3_add 0 = .ok (.aload_n 0, 1) := by decide +kernel
theorem dX3_add_1 : decode cX3_add 1 = .ok (.getfield 21, 3) := by decide +kernel
theorem dX3_add_4 : decode cX3_add 4 = .ok (.istore 4, 2) := by decide +kernel
theorem dX3_add_6 : decode cX3_add 6 = .ok (.iload 4, 2) := by decide +kernel
theorem dX3_add_8 : decode cX3_add 8 = .ok (.ifCond .lt 10, 3) := by decide +kernel
theorem dX3_add_11 : decode cX3_add 11 = .ok (.iload 4, 2) := by decide +kernel
theorem dX3_add_13 : decode cX3_add 13 = .ok (.bipush 33, 2) := by decide +kernel
theorem dX3_add_15 : decode cX3_add 15 = .ok (.if_icmp .lt 4, 3) := by decide +kernel
theorem dX3_add_18 : decode cX3_add 18 = .ok (.return_, 1) := by decide +kernel
theorem dX3_add_19 : decode cX3_add 19 = .ok (.aload_n 0, 1) := by decide +kernel
theorem dX3_add_20 : decode cX3_add 20 = .ok (.dup, 1) := by decide +kernel
theorem dX3_add_21 : decode cX3_add 21 = .ok (.getfield 21, 3) := by decide +kernel
theorem dX3_add_24 : decode cX3_add 24 = .ok (.iconst 1, 1) := by decide +kernel
theorem dX3_add_25 : decode cX3_add 25 = .ok (.iadd, 1) := by decide +kernel
theorem dX3_add_26 : decode cX3_add 26 = .ok (.putfield 21, 3) := by decide +kernel
theorem dX3_add_29 : decode cX3_add 29 = .ok (.aload_n 0, 1) := by decide +kernel
theorem dX3_add_30 : decode cX3_add 30 = .ok (.getfield 11, 3) := by decide +kernel
theorem dX3_add_33 : decode cX3_add 33 = .ok (.iload 4, 2) := by decide +kernel
theorem dX3_add_35 : decode cX3_add 35 = .ok (.iload_n 1, 1) := by decide +kernel
theorem dX3_add_36 : decode cX3_add 36 = .ok (.iastore, 1) := by decide +kernel
theorem dX3_add_37 : decode cX3_add 37 = .ok (.aload_n 0, 1) := by decide +kernel
theorem dX3_add_38 : decode cX3_add 38 = .ok (.getfield 15, 3) := by decide +kernel
theorem dX3_add_41 : decode cX3_add 41 = .ok (.iload 4, 2) := by decide +kernel
theorem dX3_add_43 : decode cX3_add 43 = .ok (.iload_n 2, 1) := by decide +kernel
theorem dX3_add_44 : decode cX3_add 44 = .ok (.iastore, 1) := by decide +kernel
theorem dX3_add_45 : decode cX3_add 45 = .ok (.iconst 0, 1) := by decide +kernel
theorem dX3_add_46 : decode cX3_add 46 = .ok (.istore 5, 2) := by decide +kernel
theorem dX3_add_48 : decode cX3_add 48 = .ok (.iload 5, 2) := by decide +kernel
theorem dX3_add_50 : decode cX3_add 50 = .ok (.bipush 32, 2) := by decide +kernel
theorem dX3_add_52 : decode cX3_add 52 = .ok (.if_icmp .ge 45, 3) := by decide +kernel
theorem dX3_add_55 : decode cX3_add 55 = .ok (.aload_n 0, 1) := by decide +kernel
theorem dX3_add_56 : decode cX3_add 56 = .ok (.getfield 18, 3) := by decide +kernel
theorem dX3_add_59 : decode cX3_add 59 = .ok (.iload 4, 2) := by decide +kernel
theorem dX3_add_61 : decode cX3_add 61 = .ok (.bipush 32, 2) := by decide +kernel
theorem dX3_add_63 : decode cX3_add 63 = .ok (.imul, 1) := by decide +kernel
theorem dX3_add_64 : decode cX3_add 64 = .ok (.iload 5, 2) := by decide +kernel
theorem dX3_add_66 : decode cX3_add 66 = .ok (.iadd, 1) := by decide +kernel
theorem dX3_add_67 : decode cX3_add 67 = .ok (.iload 5, 2) := by decide +kernel
theorem dX3_add_69 : decode cX3_add 69 = .ok (.iload_n 1, 1) := by decide +kernel
theorem dX3_add_70 : decode cX3_add 70 = .ok (.if_icmp .lt 18, 3) := by decide +kernel
theorem dX3_add_73 : decode cX3_add 73 = .ok (.iload 5, 2) := by decide +kernel
theorem dX3_add_75 : decode cX3_add 75 = .ok (.iload_n 2, 1) := by decide +kernel
theorem dX3_add_76 : decode cX3_add 76 = .ok (.if_icmp .ge 12, 3) := by decide +kernel
theorem dX3_add_79 : decode cX3_add 79 = .ok (.aload_n 3, 1) := by decide +kernel
theorem dX3_add_80 : decode cX3_add 80 = .ok (.iload 5, 2) := by decide +kernel
theorem dX3_add_82 : decode cX3_add 82 = .ok (.invokevirtual 25, 3) := by decide +kernel
theorem dX3_add_85 : decode cX3_add 85 = .ok (.goto 5, 3) := by decide +kernel
theorem dX3_add_88 : decode cX3_add 88 = .ok (.bipush (-5), 2) := by decide +kernel
theorem dX3_add_90 : decode cX3_add 90 = .ok (.iastore, 1) := by decide +kernel
theorem dX3_add_91 : decode cX3_add 91 = .ok (.iinc 5 1, 3) := by decide +kernel
theorem dX3_add_94 : decode cX3_add 94 = .ok (.goto (-46), 3) := by decide +kernel
theorem dX3_add_97 : decode cX3_add 97 = .ok (.return_, 1) := by decide +kernel
theorem dX3_startOf_0 : decode cX3_startOf 0 = .ok (.aload_n 0, 1) := by decide +kernel
theorem dX3_startOf_1 : decode cX3_startOf 1 = .ok (.iload_n 1, 1) := by decide +kernel
theorem dX3_startOf_2 : decode cX3_startOf 2 = .ok (.invokevirtual 37, 3) := by decide +kernel
theorem dX3_startOf_5 : decode cX3_startOf 5 = .ok (.ifCond .eq 12, 3) := by decide +kernel
theorem dX3_startOf_8 : decode cX3_startOf 8 = .ok (.aload_n 0, 1) := by decide +kernel
theorem dX3_startOf_9 : decode cX3_startOf 9 = .ok (.getfield 11, 3) := by decide +kernel
theorem dX3_startOf_12 : decode cX3_startOf 12 = .ok (.iload_n 1, 1) := by decide +kernel
theorem dX3_startOf_13 : decode cX3_startOf 13 = .ok (.iaload, 1) := by decide +kernel
theorem dX3_startOf_14 : decode cX3_startOf 14 = .ok (.goto 4, 3) := by decide +kernel
theorem dX3_startOf_17 : decode cX3_startOf 17 = .ok (.iconst (-1), 1) := by decide +kernel
theorem dX3_startOf_18 : decode cX3_startOf 18 = .ok (.ireturn, 1) := by decide +kernel
theorem dX3_rowsOf_0 : decode cX3_rowsOf 0 = .ok (.aload_n 0, 1) := by decide +kernel
theorem dX3_rowsOf_1 : decode cX3_rowsOf 1 = .ok (.iload_n 1, 1) := by decide +kernel
theorem dX3_rowsOf_2 : decode cX3_rowsOf 2 = .ok (.invokevirtual 37, 3) := by decide +kernel
theorem dX3_rowsOf_5 : decode cX3_rowsOf 5 = .ok (.ifCond .eq 19, 3) := by decide +kernel
theorem dX3_rowsOf_8 : decode cX3_rowsOf 8 = .ok (.aload_n 0, 1) := by decide +kernel
theorem dX3_rowsOf_9 : decode cX3_rowsOf 9 = .ok (.getfield 15, 3) := by decide +kernel
theorem dX3_rowsOf_12 : decode cX3_rowsOf 12 = .ok (.iload_n 1, 1) := by decide +kernel
theorem dX3_rowsOf_13 : decode cX3_rowsOf 13 = .ok (.iaload, 1) := by decide +kernel
theorem dX3_rowsOf_14 : decode cX3_rowsOf 14 = .ok (.aload_n 0, 1) := by decide +kernel
theorem dX3_rowsOf_15 : decode cX3_rowsOf 15 = .ok (.getfield 11, 3) := by decide +kernel
theorem dX3_rowsOf_18 : decode cX3_rowsOf 18 = .ok (.iload_n 1, 1) := by decide +kernel
theorem dX3_rowsOf_19 : decode cX3_rowsOf 19 = .ok (.iaload, 1) := by decide +kernel
theorem dX3_rowsOf_20 : decode cX3_rowsOf 20 = .ok (.isub, 1) := by decide +kernel
theorem dX3_rowsOf_21 : decode cX3_rowsOf 21 = .ok (.goto 4, 3) := by decide +kernel
theorem dX3_rowsOf_24 : decode cX3_rowsOf 24 = .ok (.iconst (-1), 1) := by decide +kernel
theorem dX3_rowsOf_25 : decode cX3_rowsOf 25 = .ok (.ireturn, 1) := by decide +kernel
theorem dX3_letterOf_0 : decode cX3_letterOf 0 = .ok (.aload_n 0, 1) := by decide +kernel
theorem dX3_letterOf_1 : decode cX3_letterOf 1 = .ok (.iload_n 1, 1) := by decide +kernel
theorem dX3_letterOf_2 : decode cX3_letterOf 2 = .ok (.invokevirtual 37, 3) := by decide +kernel
theorem dX3_letterOf_5 : decode cX3_letterOf 5 = .ok (.ifCond .eq 27, 3) := by decide +kernel
theorem dX3_letterOf_8 : decode cX3_letterOf 8 = .ok (.iload_n 2, 1) := by decide +kernel
theorem dX3_letterOf_9 : decode cX3_letterOf 9 = .ok (.ifCond .lt 23, 3) := by decide +kernel
theorem dX3_letterOf_12 : decode cX3_letterOf 12 = .ok (.iload_n 2, 1) := by decide +kernel
theorem dX3_letterOf_13 : decode cX3_letterOf 13 = .ok (.bipush 32, 2) := by decide +kernel
theorem dX3_letterOf_15 : decode cX3_letterOf 15 = .ok (.if_icmp .ge 17, 3) := by decide +kernel
theorem dX3_letterOf_18 : decode cX3_letterOf 18 = .ok (.aload_n 0, 1) := by decide +kernel
theorem dX3_letterOf_19 : decode cX3_letterOf 19 = .ok (.getfield 18, 3) := by decide +kernel
theorem dX3_letterOf_22 : decode cX3_letterOf 22 = .ok (.iload_n 1, 1) := by decide +kernel
theorem dX3_letterOf_23 : decode cX3_letterOf 23 = .ok (.bipush 32, 2) := by decide +kernel
theorem dX3_letterOf_25 : decode cX3_letterOf 25 = .ok (.imul, 1) := by decide +kernel
theorem dX3_letterOf_26 : decode cX3_letterOf 26 = .ok (.iload_n 2, 1) := by decide +kernel
theorem dX3_letterOf_27 : decode cX3_letterOf 27 = .ok (.iadd, 1) := by decide +kernel
theorem dX3_letterOf_28 : decode cX3_letterOf 28 = .ok (.iaload, 1) := by decide +kernel
theorem dX3_letterOf_29 : decode cX3_letterOf 29 = .ok (.goto 5, 3) := by decide +kernel
theorem dX3_letterOf_32 : decode cX3_letterOf 32 = .ok (.bipush (-5), 2) := by decide +kernel
theorem dX3_letterOf_34 : decode cX3_letterOf 34 = .ok (.ireturn, 1) := by decide +kernel
theorem dX3_lettersOf_0 : decode cX3_lettersOf 0 = .ok (.iconst 0, 1) := by decide +kernel
theorem dX3_lettersOf_1 : decode cX3_lettersOf 1 = .ok (.istore_n 2, 1) := by decide +kernel
theorem dX3_lettersOf_2 : decode cX3_lettersOf 2 = .ok (.iconst 0, 1) := by decide +kernel
theorem dX3_lettersOf_3 : decode cX3_lettersOf 3 = .ok (.istore_n 3, 1) := by decide +kernel
theorem dX3_lettersOf_4 : decode cX3_lettersOf 4 = .ok (.iload_n 3, 1) := by decide +kernel
theorem dX3_lettersOf_5 : decode cX3_lettersOf 5 = .ok (.bipush 32, 2) := by decide +kernel
theorem dX3_lettersOf_7 : decode cX3_lettersOf 7 = .ok (.if_icmp .ge 29, 3) := by decide +kernel
theorem dX3_lettersOf_10 : decode cX3_lettersOf 10 = .ok (.aload_n 0, 1) := by decide +kernel
theorem dX3_lettersOf_11 : decode cX3_lettersOf 11 = .ok (.iload_n 1, 1) := by decide +kernel
theorem dX3_lettersOf_12 : decode cX3_lettersOf 12 = .ok (.iload_n 3, 1) := by decide +kernel
theorem dX3_lettersOf_13 : decode cX3_lettersOf 13 = .ok (.invokevirtual 41, 3) := by decide +kernel
theorem dX3_lettersOf_16 : decode cX3_lettersOf 16 = .ok (.istore 4, 2) := by decide +kernel
theorem dX3_lettersOf_18 : decode cX3_lettersOf 18 = .ok (.iload 4, 2) := by decide +kernel
theorem dX3_lettersOf_20 : decode cX3_lettersOf 20 = .ok (.ifCond .lt 10, 3) := by decide +kernel
theorem dX3_lettersOf_23 : decode cX3_lettersOf 23 = .ok (.iload_n 2, 1) := by decide +kernel
theorem dX3_lettersOf_24 : decode cX3_lettersOf 24 = .ok (.iconst 1, 1) := by decide +kernel
theorem dX3_lettersOf_25 : decode cX3_lettersOf 25 = .ok (.iload 4, 2) := by decide +kernel
theorem dX3_lettersOf_27 : decode cX3_lettersOf 27 = .ok (.ishl, 1) := by decide +kernel
theorem dX3_lettersOf_28 : decode cX3_lettersOf 28 = .ok (.ior, 1) := by decide +kernel
theorem dX3_lettersOf_29 : decode cX3_lettersOf 29 = .ok (.istore_n 2, 1) := by decide +kernel
theorem dX3_lettersOf_30 : decode cX3_lettersOf 30 = .ok (.iinc 3 1, 3) := by decide +kernel
theorem dX3_lettersOf_33 : decode cX3_lettersOf 33 = .ok (.goto (-29), 3) := by decide +kernel
theorem dX3_lettersOf_36 : decode cX3_lettersOf 36 = .ok (.iload_n 2, 1) := by decide +kernel
theorem dX3_lettersOf_37 : decode cX3_lettersOf 37 = .ok (.ireturn, 1) := by decide +kernel
theorem dX3_covering_0 : decode cX3_covering 0 = .ok (.iconst 0, 1) := by decide +kernel
theorem dX3_covering_1 : decode cX3_covering 1 = .ok (.istore_n 2, 1) := by decide +kernel
theorem dX3_covering_2 : decode cX3_covering 2 = .ok (.iconst 0, 1) := by decide +kernel
theorem dX3_covering_3 : decode cX3_covering 3 = .ok (.istore_n 3, 1) := by decide +kernel
theorem dX3_covering_4 : decode cX3_covering 4 = .ok (.iload_n 3, 1) := by decide +kernel
theorem dX3_covering_5 : decode cX3_covering 5 = .ok (.aload_n 0, 1) := by decide +kernel
theorem dX3_covering_6 : decode cX3_covering 6 = .ok (.getfield 21, 3) := by decide +kernel
theorem dX3_covering_9 : decode cX3_covering 9 = .ok (.if_icmp .ge 21, 3) := by decide +kernel
theorem dX3_covering_12 : decode cX3_covering 12 = .ok (.aload_n 0, 1) := by decide +kernel
theorem dX3_covering_13 : decode cX3_covering 13 = .ok (.iload_n 3, 1) := by decide +kernel
theorem dX3_covering_14 : decode cX3_covering 14 = .ok (.iload_n 1, 1) := by decide +kernel
theorem dX3_covering_15 : decode cX3_covering 15 = .ok (.invokevirtual 41, 3) := by decide +kernel
theorem dX3_covering_18 : decode cX3_covering 18 = .ok (.ifCond .lt 6, 3) := by decide +kernel
theorem dX3_covering_21 : decode cX3_covering 21 = .ok (.iinc 2 1, 3) := by decide +kernel
theorem dX3_covering_24 : decode cX3_covering 24 = .ok (.iinc 3 1, 3) := by decide +kernel
theorem dX3_covering_27 : decode cX3_covering 27 = .ok (.goto (-23), 3) := by decide +kernel
theorem dX3_covering_30 : decode cX3_covering 30 = .ok (.iload_n 2, 1) := by decide +kernel
theorem dX3_covering_31 : decode cX3_covering 31 = .ok (.ireturn, 1) := by decide +kernel
theorem dX4_init_0 : decode cX4_init 0 = .ok (.aload_n 0, 1) := by decide +kernel
theorem dX4_init_1 : decode cX4_init 1 = .ok (.invokespecial 3, 3) := by decide +kernel
theorem dX4_init_4 : decode cX4_init 4 = .ok (.aload_n 0, 1) := by decide +kernel
theorem dX4_init_5 : decode cX4_init 5 = .ok (.iload_n 1, 1) := by decide +kernel
theorem dX4_init_6 : decode cX4_init 6 = .ok (.ifCond .ge 7, 3) := by decide +kernel
theorem dX4_init_9 : decode cX4_init 9 = .ok (.iconst 0, 1) := by decide +kernel
theorem dX4_init_10 : decode cX4_init 10 = .ok (.goto 7, 3) := by decide +kernel
theorem dX4_init_13 : decode cX4_init 13 = .ok (.iload_n 1, 1) := by decide +kernel
theorem dX4_init_14 : decode cX4_init 14 = .ok (.bipush 9, 2) := by decide +kernel
theorem dX4_init_16 : decode cX4_init 16 = .ok (.imul, 1) := by decide +kernel
theorem dX4_init_17 : decode cX4_init 17 = .ok (.newarray .int, 2) := by decide +kernel
theorem dX4_init_19 : decode cX4_init 19 = .ok (.putfield 11, 3) := by decide +kernel
theorem dX4_init_22 : decode cX4_init 22 = .ok (.return_, 1) := by decide +kernel
