/-! decode rows, 5 -/
theorem dL_isHeld_58 : decode cL_isHeld 58 = .ok (.iload 5, 2) := by decide +kernel
theorem dL_isHeld_60 : decode cL_isHeld 60 = .ok (.invokestatic 61, 3) := by decide +kernel
theorem dL_isHeld_63 : decode cL_isHeld 63 = .ok (.ifCond .ne 12, 3) := by decide +kernel
theorem dL_isHeld_66 : decode cL_isHeld 66 = .ok (.iload 5, 2) := by decide +kernel
theorem dL_isHeld_68 : decode cL_isHeld 68 = .ok (.iconst 5, 1) := by decide +kernel
theorem dL_isHeld_69 : decode cL_isHeld 69 = .ok (.invokestatic 65, 3) := by decide +kernel
theorem dL_isHeld_72 : decode cL_isHeld 72 = .ok (.ifCond .eq 7, 3) := by decide +kernel
theorem dL_isHeld_75 : decode cL_isHeld 75 = .ok (.iconst 1, 1) := by decide +kernel
theorem dL_isHeld_76 : decode cL_isHeld 76 = .ok (.goto 4, 3) := by decide +kernel
theorem dL_isHeld_79 : decode cL_isHeld 79 = .ok (.iconst 0, 1) := by decide +kernel
theorem dL_isHeld_80 : decode cL_isHeld 80 = .ok (.ireturn, 1) := by decide +kernel
theorem dL_isHeld_81 : decode cL_isHeld 81 = .ok (.iload_n 0, 1) := by decide +kernel
theorem dL_isHeld_82 : decode cL_isHeld 82 = .ok (.iconst 2, 1) := by decide +kernel
theorem dL_isHeld_83 : decode cL_isHeld 83 = .ok (.if_icmp .ne 18, 3) := by decide +kernel
theorem dL_isHeld_86 : decode cL_isHeld 86 = .ok (.aload_n 1, 1) := by decide +kernel
theorem dL_isHeld_87 : decode cL_isHeld 87 = .ok (.iload 4, 2) := by decide +kernel
theorem dL_isHeld_89 : decode cL_isHeld 89 = .ok (.iconst 1, 1) := by decide +kernel
theorem dL_isHeld_90 : decode cL_isHeld 90 = .ok (.isub, 1) := by decide +kernel
theorem dL_isHeld_91 : decode cL_isHeld 91 = .ok (.iconst 0, 1) := by decide +kernel
theorem dL_isHeld_92 : decode cL_isHeld 92 = .ok (.invokestatic 68, 3) := by decide +kernel
theorem dL_isHeld_95 : decode cL_isHeld 95 = .ok (.iload 5, 2) := by decide +kernel
theorem dL_isHeld_97 : decode cL_isHeld 97 = .ok (.invokestatic 61, 3) := by decide +kernel
theorem dL_isHeld_100 : decode cL_isHeld 100 = .ok (.ireturn, 1) := by decide +kernel
theorem dL_isHeld_101 : decode cL_isHeld 101 = .ok (.iload_n 0, 1) := by decide +kernel
theorem dL_isHeld_102 : decode cL_isHeld 102 = .ok (.iconst 3, 1) := by decide +kernel
theorem dL_isHeld_103 : decode cL_isHeld 103 = .ok (.if_icmp .ne 24, 3) := by decide +kernel
theorem dL_isHeld_106 : decode cL_isHeld 106 = .ok (.iload 7, 2) := by decide +kernel
theorem dL_isHeld_108 : decode cL_isHeld 108 = .ok (.iconst 2, 1) := by decide +kernel
theorem dL_isHeld_109 : decode cL_isHeld 109 = .ok (.if_icmp .ge 16, 3) := by decide +kernel
theorem dL_isHeld_112 : decode cL_isHeld 112 = .ok (.iload 5, 2) := by decide +kernel
theorem dL_isHeld_114 : decode cL_isHeld 114 = .ok (.iconst 3, 1) := by decide +kernel
theorem dL_isHeld_115 : decode cL_isHeld 115 = .ok (.invokestatic 65, 3) := by decide +kernel
theorem dL_isHeld_118 : decode cL_isHeld 118 = .ok (.ifCond .ne 7, 3) := by decide +kernel
theorem dL_isHeld_121 : decode cL_isHeld 121 = .ok (.iconst 1, 1) := by decide +kernel
theorem dL_isHeld_122 : decode cL_isHeld 122 = .ok (.goto 4, 3) := by decide +kernel
theorem dL_isHeld_125 : decode cL_isHeld 125 = .ok (.iconst 0, 1) := by decide +kernel
theorem dL_isHeld_126 : decode cL_isHeld 126 = .ok (.ireturn, 1) := by decide +kernel
theorem dL_isHeld_127 : decode cL_isHeld 127 = .ok (.iload_n 0, 1) := by decide +kernel
theorem dL_isHeld_128 : decode cL_isHeld 128 = .ok (.iconst 4, 1) := by decide +kernel
theorem dL_isHeld_129 : decode cL_isHeld 129 = .ok (.if_icmp .ne 45, 3) := by decide +kernel
theorem dL_isHeld_132 : decode cL_isHeld 132 = .ok (.aload_n 1, 1) := by decide +kernel
theorem dL_isHeld_133 : decode cL_isHeld 133 = .ok (.aload_n 2, 1) := by decide +kernel
theorem dL_isHeld_134 : decode cL_isHeld 134 = .ok (.iload_n 3, 1) := by decide +kernel
theorem dL_isHeld_135 : decode cL_isHeld 135 = .ok (.iload 4, 2) := by decide +kernel
theorem dL_isHeld_137 : decode cL_isHeld 137 = .ok (.iconst 1, 1) := by decide +kernel
theorem dL_isHeld_138 : decode cL_isHeld 138 = .ok (.iconst 0, 1) := by decide +kernel
theorem dL_isHeld_139 : decode cL_isHeld 139 = .ok (.invokestatic 57, 3) := by decide +kernel
theorem dL_isHeld_142 : decode cL_isHeld 142 = .ok (.iconst 2, 1) := by decide +kernel
theorem dL_isHeld_143 : decode cL_isHeld 143 = .ok (.if_icmp .gt 25, 3) := by decide +kernel
theorem dL_isHeld_146 : decode cL_isHeld 146 = .ok (.aload_n 1, 1) := by decide +kernel
theorem dL_isHeld_147 : decode cL_isHeld 147 = .ok (.aload_n 2, 1) := by decide +kernel
theorem dL_isHeld_148 : decode cL_isHeld 148 = .ok (.iload_n 3, 1) := by decide +kernel
theorem dL_isHeld_149 : decode cL_isHeld 149 = .ok (.iload 4, 2) := by decide +kernel
theorem dL_isHeld_151 : decode cL_isHeld 151 = .ok (.iconst 0, 1) := by decide +kernel
theorem dL_isHeld_152 : decode cL_isHeld 152 = .ok (.iconst 0, 1) := by decide +kernel
theorem dL_isHeld_153 : decode cL_isHeld 153 = .ok (.invokestatic 72, 3) := by decide +kernel
theorem dL_isHeld_156 : decode cL_isHeld 156 = .ok (.iconst 1, 1) := by decide +kernel
theorem dL_isHeld_157 : decode cL_isHeld 157 = .ok (.invokestatic 68, 3) := by decide +kernel
theorem dL_isHeld_160 : decode cL_isHeld 160 = .ok (.iload 6, 2) := by decide +kernel
theorem dL_isHeld_162 : decode cL_isHeld 162 = .ok (.invokestatic 61, 3) := by decide +kernel
theorem dL_isHeld_165 : decode cL_isHeld 165 = .ok (.ifCond .eq 7, 3) := by decide +kernel
theorem dL_isHeld_168 : decode cL_isHeld 168 = .ok (.iconst 1, 1) := by decide +kernel
theorem dL_isHeld_169 : decode cL_isHeld 169 = .ok (.goto 4, 3) := by decide +kernel
theorem dL_isHeld_172 : decode cL_isHeld 172 = .ok (.iconst 0, 1) := by decide +kernel
theorem dL_isHeld_173 : decode cL_isHeld 173 = .ok (.ireturn, 1) := by decide +kernel
theorem dL_isHeld_174 : decode cL_isHeld 174 = .ok (.iload_n 0, 1) := by decide +kernel
theorem dL_isHeld_175 : decode cL_isHeld 175 = .ok (.iconst 5, 1) := by decide +kernel
theorem dL_isHeld_176 : decode cL_isHeld 176 = .ok (.if_icmp .ne 23, 3) := by decide +kernel
theorem dL_isHeld_179 : decode cL_isHeld 179 = .ok (.aload_n 1, 1) := by decide +kernel
theorem dL_isHeld_180 : decode cL_isHeld 180 = .ok (.aload_n 2, 1) := by decide +kernel
theorem dL_isHeld_181 : decode cL_isHeld 181 = .ok (.iload_n 3, 1) := by decide +kernel
theorem dL_isHeld_182 : decode cL_isHeld 182 = .ok (.iload 4, 2) := by decide +kernel
theorem dL_isHeld_184 : decode cL_isHeld 184 = .ok (.iconst 0, 1) := by decide +kernel
theorem dL_isHeld_185 : decode cL_isHeld 185 = .ok (.iconst 1, 1) := by decide +kernel
theorem dL_isHeld_186 : decode cL_isHeld 186 = .ok (.invokestatic 72, 3) := by decide +kernel
theorem dL_isHeld_189 : decode cL_isHeld 189 = .ok (.iconst 0, 1) := by decide +kernel
theorem dL_isHeld_190 : decode cL_isHeld 190 = .ok (.invokestatic 68, 3) := by decide +kernel
theorem dL_isHeld_193 : decode cL_isHeld 193 = .ok (.iload 5, 2) := by decide +kernel
theorem dL_isHeld_195 : decode cL_isHeld 195 = .ok (.invokestatic 65, 3) := by decide +kernel
theorem dL_isHeld_198 : decode cL_isHeld 198 = .ok (.ireturn, 1) := by decide +kernel
theorem dL_isHeld_199 : decode cL_isHeld 199 = .ok (.iload_n 0, 1) := by decide +kernel
theorem dL_isHeld_200 : decode cL_isHeld 200 = .ok (.bipush 6, 2) := by decide +kernel
theorem dL_isHeld_202 : decode cL_isHeld 202 = .ok (.if_icmp .ne 33, 3) := by decide +kernel
theorem dL_isHeld_205 : decode cL_isHeld 205 = .ok (.iload 5, 2) := by decide +kernel
theorem dL_isHeld_207 : decode cL_isHeld 207 = .ok (.aload_n 1, 1) := by decide +kernel
theorem dL_isHeld_208 : decode cL_isHeld 208 = .ok (.iload 4, 2) := by decide +kernel
theorem dL_isHeld_210 : decode cL_isHeld 210 = .ok (.iconst 1, 1) := by decide +kernel
theorem dL_isHeld_211 : decode cL_isHeld 211 = .ok (.iadd, 1) := by decide +kernel
theorem dL_isHeld_212 : decode cL_isHeld 212 = .ok (.iconst 0, 1) := by decide +kernel
theorem dL_isHeld_213 : decode cL_isHeld 213 = .ok (.invokestatic 68, 3) := by decide +kernel
theorem dL_isHeld_216 : decode cL_isHeld 216 = .ok (.invokestatic 61, 3) := by decide +kernel
theorem dL_isHeld_219 : decode cL_isHeld 219 = .ok (.ifCond .ne 10, 3) := by decide +kernel
theorem dL_isHeld_222 : decode cL_isHeld 222 = .ok (.iload 8, 2) := by decide +kernel
theorem dL_isHeld_224 : decode cL_isHeld 224 = .ok (.iload 7, 2) := by decide +kernel
theorem dL_isHeld_226 : decode cL_isHeld 226 = .ok (.if_icmp .le 7, 3) := by decide +kernel
theorem dL_isHeld_229 : decode cL_isHeld 229 = .ok (.iconst 1, 1) := by decide +kernel
theorem dL_isHeld_230 : decode cL_isHeld 230 = .ok (.goto 4, 3) := by decide +kernel
theorem dL_isHeld_233 : decode cL_isHeld 233 = .ok (.iconst 0, 1) := by decide +kernel
theorem dL_isHeld_234 : decode cL_isHeld 234 = .ok (.ireturn, 1) := by decide +kernel
theorem dL_isHeld_235 : decode cL_isHeld 235 = .ok (.iload_n 0, 1) := by decide +kernel
theorem dL_isHeld_236 : decode cL_isHeld 236 = .ok (.ifCond .lt 36, 3) := by decide +kernel
theorem dL_isHeld_239 : decode cL_isHeld 239 = .ok (.bipush (-2), 2) := by decide +kernel
theorem dL_isHeld_241 : decode cL_isHeld 241 = .ok (.iload 6, 2) := by decide +kernel
theorem dL_isHeld_243 : decode cL_isHeld 243 = .ok (.invokestatic 61, 3) := by decide +kernel
theorem dL_isHeld_246 : decode cL_isHeld 246 = .ok (.ifCond .ne 30, 3) := by decide +kernel
theorem dL_isHeld_249 : decode cL_isHeld 249 = .ok (.aload_n 1, 1) := by decide +kernel
theorem dL_isHeld_250 : decode cL_isHeld 250 = .ok (.aload_n 2, 1) := by decide +kernel
theorem dL_isHeld_251 : decode cL_isHeld 251 = .ok (.iload_n 3, 1) := by decide +kernel
theorem dL_isHeld_252 : decode cL_isHeld 252 = .ok (.iload 4, 2) := by decide +kernel
theorem dL_isHeld_254 : decode cL_isHeld 254 = .ok (.iconst 0, 1) := by decide +kernel
theorem dL_isHeld_255 : decode cL_isHeld 255 = .ok (.iconst 1, 1) := by decide +kernel
theorem dL_isHeld_256 : decode cL_isHeld 256 = .ok (.invokestatic 57, 3) := by decide +kernel
theorem dL_isHeld_259 : decode cL_isHeld 259 = .ok (.ifCond .lt 17, 3) := by decide +kernel
theorem dL_isHeld_262 : decode cL_isHeld 262 = .ok (.iload 5, 2) := by decide +kernel
theorem dL_isHeld_264 : decode cL_isHeld 264 = .ok (.bipush 9, 2) := by decide +kernel
theorem dL_isHeld_266 : decode cL_isHeld 266 = .ok (.invokestatic 61, 3) := by decide +kernel
theorem dL_isHeld_269 : decode cL_isHeld 269 = .ok (.ifCond .eq 7, 3) := by decide +kernel
theorem dL_isHeld_272 : decode cL_isHeld 272 = .ok (.iconst 1, 1) := by decide +kernel
theorem dL_isHeld_273 : decode cL_isHeld 273 = .ok (.goto 4, 3) := by decide +kernel
theorem dL_isHeld_276 : decode cL_isHeld 276 = .ok (.iconst 0, 1) := by decide +kernel
theorem dL_isHeld_277 : decode cL_isHeld 277 = .ok (.ireturn, 1) := by decide +kernel
theorem dL_conditions_0 : decode cL_conditions 0 = .ok (.bipush 26, 2) := by decide +kernel
theorem dL_conditions_2 : decode cL_conditions 2 = .ok (.newarray .int, 2) := by decide +kernel
theorem dL_conditions_4 : decode cL_conditions 4 = .ok (.astore_n 3, 1) := by decide +kernel
theorem dL_conditions_5 : decode cL_conditions 5 = .ok (.ldc 76, 2) := by decide +kernel
theorem dL_conditions_7 : decode cL_conditions 7 = .ok (.astore 4, 2) := by decide +kernel
theorem dL_conditions_9 : decode cL_conditions 9 = .ok (.iconst 0, 1) := by decide +kernel
theorem dL_conditions_10 : decode cL_conditions 10 = .ok (.istore 5, 2) := by decide +kernel
theorem dL_conditions_12 : decode cL_conditions 12 = .ok (.iload 5, 2) := by decide +kernel
theorem dL_conditions_14 : decode cL_conditions 14 = .ok (.bipush 26, 2) := by decide +kernel
theorem dL_conditions_16 : decode cL_conditions 16 = .ok (.if_icmp .ge 138, 3) := by decide +kernel
theorem dL_conditions_19 : decode cL_conditions 19 = .ok (.aload_n 3, 1) := by decide +kernel
theorem dL_conditions_20 : decode cL_conditions 20 = .ok (.iload 5, 2) := by decide +kernel
theorem dL_conditions_22 : decode cL_conditions 22 = .ok (.iload 5, 2) := by decide +kernel
theorem dL_conditions_24 : decode cL_conditions 24 = .ok (.iconst 3, 1) := by decide +kernel
theorem dL_conditions_25 : decode cL_conditions 25 = .ok (.if_icmp .ge 18, 3) := by decide +kernel
theorem dL_conditions_28 : decode cL_conditions 28 = .ok (.aload_n 1, 1) := by decide +kernel
theorem dL_conditions_29 : decode cL_conditions 29 = .ok (.iload_n 2, 1) := by decide +kernel
theorem dL_conditions_30 : decode cL_conditions 30 = .ok (.iload 5, 2) := by decide +kernel
theorem dL_conditions_32 : decode cL_conditions 32 = .ok (.iadd, 1) := by decide +kernel
theorem dL_conditions_33 : decode cL_conditions 33 = .ok (.bipush 10, 2) := by decide +kernel
theorem dL_conditions_35 : decode cL_conditions 35 = .ok (.invokestatic 17, 3) := by decide +kernel
theorem dL_conditions_38 : decode cL_conditions 38 = .ok (.iconst 2, 1) := by decide +kernel
theorem dL_conditions_39 : decode cL_conditions 39 = .ok (.isub, 1) := by decide +kernel
theorem dL_conditions_40 : decode cL_conditions 40 = .ok (.goto 4, 3) := by decide +kernel
theorem dL_conditions_43 : decode cL_conditions 43 = .ok (.iconst (-1), 1) := by decide +kernel
theorem dL_conditions_44 : decode cL_conditions 44 = .ok (.iastore, 1) := by decide +kernel
theorem dL_conditions_45 : decode cL_conditions 45 = .ok (.aload_n 3, 1) := by decide +kernel
theorem dL_conditions_46 : decode cL_conditions 46 = .ok (.iload 5, 2) := by decide +kernel
theorem dL_conditions_48 : decode cL_conditions 48 = .ok (.aload_n 3, 1) := by decide +kernel
theorem dL_conditions_49 : decode cL_conditions 49 = .ok (.iload 5, 2) := by decide +kernel
theorem dL_conditions_51 : decode cL_conditions 51 = .ok (.iaload, 1) := by decide +kernel
theorem dL_conditions_52 : decode cL_conditions 52 = .ok (.ifCond .ge 7, 3) := by decide +kernel
theorem dL_conditions_55 : decode cL_conditions 55 = .ok (.iconst (-1), 1) := by decide +kernel
theorem dL_conditions_56 : decode cL_conditions 56 = .ok (.goto 7, 3) := by decide +kernel
theorem dL_conditions_59 : decode cL_conditions 59 = .ok (.aload_n 3, 1) := by decide +kernel
theorem dL_conditions_60 : decode cL_conditions 60 = .ok (.iload 5, 2) := by decide +kernel
theorem dL_conditions_62 : decode cL_conditions 62 = .ok (.iaload, 1) := by decide +kernel
theorem dL_conditions_63 : decode cL_conditions 63 = .ok (.iastore, 1) := by decide +kernel
theorem dL_conditions_64 : decode cL_conditions 64 = .ok (.new 78, 3) := by decide +kernel
theorem dL_conditions_67 : decode cL_conditions 67 = .ok (.dup, 1) := by decide +kernel
theorem dL_conditions_68 : decode cL_conditions 68 = .ok (.invokespecial 80, 3) := by decide +kernel
theorem dL_conditions_71 : decode cL_conditions 71 = .ok (.aload 4, 2) := by decide +kernel
theorem dL_conditions_73 : decode cL_conditions 73 = .ok (.invokevirtual 81, 3) := by decide +kernel
theorem dL_conditions_76 : decode cL_conditions 76 = .ok (.aload_n 3, 1) := by decide +kernel
theorem dL_conditions_77 : decode cL_conditions 77 = .ok (.iload 5, 2) := by decide +kernel
theorem dL_conditions_79 : decode cL_conditions 79 = .ok (.iaload, 1) := by decide +kernel
theorem dL_conditions_80 : decode cL_conditions 80 = .ok (.ifCond .ge 8, 3) := by decide +kernel
theorem dL_conditions_83 : decode cL_conditions 83 = .ok (.ldc 76, 2) := by decide +kernel
theorem dL_conditions_85 : decode cL_conditions 85 = .ok (.goto 55, 3) := by decide +kernel
theorem dL_conditions_88 : decode cL_conditions 88 = .ok (.new 78, 3) := by decide +kernel
theorem dL_conditions_91 : decode cL_conditions 91 = .ok (.dup, 1) := by decide +kernel
theorem dL_conditions_92 : decode cL_conditions 92 = .ok (.invokespecial 80, 3) := by decide +kernel
theorem dL_conditions_95 : decode cL_conditions 95 = .ok (.aload 4, 2) := by decide +kernel
theorem dL_conditions_97 : decode cL_conditions 97 = .ok (.invokevirtual 27, 3) := by decide +kernel
theorem dL_conditions_100 : decode cL_conditions 100 = .ok (.ifCond .ne 8, 3) := by decide +kernel
theorem dL_conditions_103 : decode cL_conditions 103 = .ok (.ldc 76, 2) := by decide +kernel
theorem dL_conditions_105 : decode cL_conditions 105 = .ok (.goto 5, 3) := by decide +kernel
theorem dL_conditions_108 : decode cL_conditions 108 = .ok (.ldc 85, 2) := by decide +kernel
theorem dL_conditions_110 : decode cL_conditions 110 = .ok (.invokevirtual 81, 3) := by decide +kernel
theorem dL_conditions_113 : decode cL_conditions 113 = .ok (.bipush 65, 2) := by decide +kernel
theorem dL_conditions_115 : decode cL_conditions 115 = .ok (.iload 5, 2) := by decide +kernel
theorem dL_conditions_117 : decode cL_conditions 117 = .ok (.iadd, 1) := by decide +kernel
theorem dL_conditions_118 : decode cL_conditions 118 = .ok (.i2c, 1) := by decide +kernel
theorem dL_conditions_119 : decode cL_conditions 119 = .ok (.invokevirtual 87, 3) := by decide +kernel
theorem dL_conditions_122 : decode cL_conditions 122 = .ok (.ldc 90, 2) := by decide +kernel
theorem dL_conditions_124 : decode cL_conditions 124 = .ok (.invokevirtual 81, 3) := by decide +kernel
theorem dL_conditions_127 : decode cL_conditions 127 = .ok (.aload_n 3, 1) := by decide +kernel
theorem dL_conditions_128 : decode cL_conditions 128 = .ok (.iload 5, 2) := by decide +kernel
theorem dL_conditions_130 : decode cL_conditions 130 = .ok (.iaload, 1) := by decide +kernel
theorem dL_conditions_131 : decode cL_conditions 131 = .ok (.invokestatic 92, 3) := by decide +kernel
theorem dL_conditions_134 : decode cL_conditions 134 = .ok (.invokevirtual 81, 3) := by decide +kernel
theorem dL_conditions_137 : decode cL_conditions 137 = .ok (.invokevirtual 96, 3) := by decide +kernel
theorem dL_conditions_140 : decode cL_conditions 140 = .ok (.invokevirtual 81, 3) := by decide +kernel
theorem dL_conditions_143 : decode cL_conditions 143 = .ok (.invokevirtual 96, 3) := by decide +kernel
theorem dL_conditions_146 : decode cL_conditions 146 = .ok (.astore 4, 2) := by decide +kernel
theorem dL_conditions_148 : decode cL_conditions 148 = .ok (.iinc 5 1, 3) := by decide +kernel
theorem dL_conditions_151 : decode cL_conditions 151 = .ok (.goto (-139), 3) := by decide +kernel
theorem dL_conditions_154 : decode cL_conditions 154 = .ok (.aload 4, 2) := by decide +kernel
theorem dL_conditions_156 : decode cL_conditions 156 = .ok (.invokevirtual 27, 3) := by decide +kernel
theorem dL_conditions_159 : decode cL_conditions 159 = .ok (.ifCond .le 15, 3) := by decide +kernel
theorem dL_conditions_162 : decode cL_conditions 162 = .ok (.aload_n 0, 1) := by decide +kernel
theorem dL_conditions_163 : decode cL_conditions 163 = .ok (.aload 4, 2) := by decide +kernel
theorem dL_conditions_165 : decode cL_conditions 165 = .ok (.invokestatic 100, 3) := by decide +kernel
theorem dL_conditions_168 : decode cL_conditions 168 = .ok (.pop, 1) := by decide +kernel
theorem dL_conditions_169 : decode cL_conditions 169 = .ok (.aload_n 0, 1) := by decide +kernel
theorem dL_conditions_170 : decode cL_conditions 170 = .ok (.invokevirtual 103, 3) := by decide +kernel
theorem dL_conditions_173 : decode cL_conditions 173 = .ok (.pop, 1) := by decide +kernel
theorem dL_conditions_174 : decode cL_conditions 174 = .ok (.aload_n 3, 1) := by decide +kernel
theorem dL_conditions_175 : decode cL_conditions 175 = .ok (.areturn, 1) := by decide +kernel
theorem dL_make_0 : decode cL_make 0 = .ok (.aload_n 0, 1) := by decide +kernel
theorem dL_make_1 : decode cL_make 1 = .ok (.iload_n 1, 1) := by decide +kernel
theorem dL_make_2 : decode cL_make 2 = .ok (.iload_n 3, 1) := by decide +kernel
theorem dL_make_3 : decode cL_make 3 = .ok (.iconst 3, 1) := by decide +kernel
theorem dL_make_4 : decode cL_make 4 = .ok (.if_icmp .ge 8, 3) := by decide +kernel
theorem dL_make_7 : decode cL_make 7 = .ok (.bipush 12, 2) := by decide +kernel
theorem dL_make_9 : decode cL_make 9 = .ok (.goto 5, 3) := by decide +kernel
theorem dL_make_12 : decode cL_make 12 = .ok (.bipush 6, 2) := by decide +kernel
theorem dL_make_14 : decode cL_make 14 = .ok (.invokestatic 17, 3) := by decide +kernel
theorem dL_make_17 : decode cL_make 17 = .ok (.istore 4, 2) := by decide +kernel
theorem dL_make_19 : decode cL_make 19 = .ok (.aload_n 2, 1) := by decide +kernel
theorem dL_make_20 : decode cL_make 20 = .ok (.arraylength, 1) := by decide +kernel
theorem dL_make_21 : decode cL_make 21 = .ok (.iconst 1, 1) := by decide +kernel
theorem dL_make_22 : decode cL_make 22 = .ok (.isub, 1) := by decide +kernel
theorem dL_make_23 : decode cL_make 23 = .ok (.istore 5, 2) := by decide +kernel
theorem dL_make_25 : decode cL_make 25 = .ok (.bipush 10, 2) := by decide +kernel
theorem dL_make_27 : decode cL_make 27 = .ok (.newarray .int, 2) := by decide +kernel
theorem dL_make_29 : decode cL_make 29 = .ok (.dup, 1) := by decide +kernel
theorem dL_make_30 : decode cL_make 30 = .ok (.iconst 0, 1) := by decide +kernel
theorem dL_make_31 : decode cL_make 31 = .ok (.iconst 0, 1) := by decide +kernel
theorem dL_make_32 : decode cL_make 32 = .ok (.iastore, 1) := by decide +kernel
theorem dL_make_33 : decode cL_make 33 = .ok (.dup, 1) := by decide +kernel
theorem dL_make_34 : decode cL_make 34 = .ok (.iconst 1, 1) := by decide +kernel
theorem dL_make_35 : decode cL_make 35 = .ok (.bipush (-5), 2) := by decide +kernel
theorem dL_make_37 : decode cL_make 37 = .ok (.iastore, 1) := by decide +kernel
theorem dL_make_38 : decode cL_make 38 = .ok (.dup, 1) := by decide +kernel
theorem dL_make_39 : decode cL_make 39 = .ok (.iconst 2, 1) := by decide +kernel
theorem dL_make_40 : decode cL_make 40 = .ok (.bipush (-5), 2) := by decide +kernel
theorem dL_make_42 : decode cL_make 42 = .ok (.iastore, 1) := by decide +kernel
theorem dL_make_43 : decode cL_make 43 = .ok (.dup, 1) := by decide +kernel
theorem dL_make_44 : decode cL_make 44 = .ok (.iconst 3, 1) := by decide +kernel
theorem dL_make_45 : decode cL_make 45 = .ok (.bipush (-5), 2) := by decide +kernel
theorem dL_make_47 : decode cL_make 47 = .ok (.iastore, 1) := by decide +kernel
theorem dL_make_48 : decode cL_make 48 = .ok (.dup, 1) := by decide +kernel
theorem dL_make_49 : decode cL_make 49 = .ok (.iconst 4, 1) := by decide +kernel
theorem dL_make_50 : decode cL_make 50 = .ok (.bipush (-5), 2) := by decide +kernel
theorem dL_make_52 : decode cL_make 52 = .ok (.iastore, 1) := by decide +kernel
theorem dL_make_53 : decode cL_make 53 = .ok (.dup, 1) := by decide +kernel
theorem dL_make_54 : decode cL_make 54 = .ok (.iconst 5, 1) := by decide +kernel
theorem dL_make_55 : decode cL_make 55 = .ok (.iconst 0, 1) := by decide +kernel
theorem dL_make_56 : decode cL_make 56 = .ok (.iastore, 1) := by decide +kernel
theorem dL_make_57 : decode cL_make 57 = .ok (.dup, 1) := by decide +kernel
theorem dL_make_58 : decode cL_make 58 = .ok (.bipush 6, 2) := by decide +kernel
theorem dL_make_60 : decode cL_make 60 = .ok (.iconst (-1), 1) := by decide +kernel
theorem dL_make_61 : decode cL_make 61 = .ok (.iastore, 1) := by decide +kernel
theorem dL_make_62 : decode cL_make 62 = .ok (.dup, 1) := by decide +kernel
theorem dL_make_63 : decode cL_make 63 = .ok (.bipush 7, 2) := by decide +kernel
theorem dL_make_65 : decode cL_make 65 = .ok (.iconst (-1), 1) := by decide +kernel
theorem dL_make_66 : decode cL_make 66 = .ok (.iastore, 1) := by decide +kernel
theorem dL_make_67 : decode cL_make 67 = .ok (.dup, 1) := by decide +kernel
theorem dL_make_68 : decode cL_make 68 = .ok (.bipush 8, 2) := by decide +kernel
theorem dL_make_70 : decode cL_make 70 = .ok (.iconst (-1), 1) := by decide +kernel
theorem dL_make_71 : decode cL_make 71 = .ok (.iastore, 1) := by decide +kernel
theorem dL_make_72 : decode cL_make 72 = .ok (.dup, 1) := by decide +kernel
theorem dL_make_73 : decode cL_make 73 = .ok (.bipush 9, 2) := by decide +kernel
theorem dL_make_75 : decode cL_make 75 = .ok (.iconst (-1), 1) := by decide +kernel
theorem dL_make_76 : decode cL_make 76 = .ok (.iastore, 1) := by decide +kernel
theorem dL_make_77 : decode cL_make 77 = .ok (.astore 6, 2) := by decide +kernel
theorem dL_make_79 : decode cL_make 79 = .ok (.iload 4, 2) := by decide +kernel
theorem dL_make_81 : decode cL_make 81 = .ok (.bipush 6, 2) := by decide +kernel
theorem dL_make_83 : decode cL_make 83 = .ok (.if_icmp .ge 53, 3) := by decide +kernel
theorem dL_make_86 : decode cL_make 86 = .ok (.aload 6, 2) := by decide +kernel
theorem dL_make_88 : decode cL_make 88 = .ok (.iconst 0, 1) := by decide +kernel
theorem dL_make_89 : decode cL_make 89 = .ok (.iload 4, 2) := by decide +kernel
theorem dL_make_91 : decode cL_make 91 = .ok (.iconst 5, 1) := by decide +kernel
theorem dL_make_92 : decode cL_make 92 = .ok (.if_icmp .ne 16, 3) := by decide +kernel
theorem dL_make_95 : decode cL_make 95 = .ok (.iconst 1, 1) := by decide +kernel
theorem dL_make_96 : decode cL_make 96 = .ok (.aload_n 0, 1) := by decide +kernel
theorem dL_make_97 : decode cL_make 97 = .ok (.iload_n 1, 1) := by decide +kernel
theorem dL_make_98 : decode cL_make 98 = .ok (.iconst 1, 1) := by decide +kernel
theorem dL_make_99 : decode cL_make 99 = .ok (.iadd, 1) := by decide +kernel
theorem dL_make_100 : decode cL_make 100 = .ok (.iconst 2, 1) := by decide +kernel
theorem dL_make_101 : decode cL_make 101 = .ok (.invokestatic 17, 3) := by decide +kernel
theorem dL_make_104 : decode cL_make 104 = .ok (.iadd, 1) := by decide +kernel
theorem dL_make_105 : decode cL_make 105 = .ok (.goto 4, 3) := by decide +kernel
theorem dL_make_108 : decode cL_make 108 = .ok (.iconst 0, 1) := by decide +kernel
theorem dL_make_109 : decode cL_make 109 = .ok (.iastore, 1) := by decide +kernel
theorem dL_make_110 : decode cL_make 110 = .ok (.aload 6, 2) := by decide +kernel
theorem dL_make_112 : decode cL_make 112 = .ok (.iconst 1, 1) := by decide +kernel
theorem dL_make_113 : decode cL_make 113 = .ok (.iload 4, 2) := by decide +kernel
theorem dL_make_115 : decode cL_make 115 = .ok (.iconst 5, 1) := by decide +kernel
theorem dL_make_116 : decode cL_make 116 = .ok (.if_icmp .ne 8, 3) := by decide +kernel
theorem dL_make_119 : decode cL_make 119 = .ok (.bipush (-5), 2) := by decide +kernel
theorem dL_make_121 : decode cL_make 121 = .ok (.goto 11, 3) := by decide +kernel
theorem dL_make_124 : decode cL_make 124 = .ok (.aload_n 0, 1) := by decide +kernel
theorem dL_make_125 : decode cL_make 125 = .ok (.iload_n 1, 1) := by decide +kernel
theorem dL_make_126 : decode cL_make 126 = .ok (.iconst 1, 1) := by decide +kernel
theorem dL_make_127 : decode cL_make 127 = .ok (.iadd, 1) := by decide +kernel
theorem dL_make_128 : decode cL_make 128 = .ok (.iconst 3, 1) := by decide +kernel
theorem dL_make_129 : decode cL_make 129 = .ok (.invokestatic 17, 3) := by decide +kernel
theorem dL_make_132 : decode cL_make 132 = .ok (.iastore, 1) := by decide +kernel
theorem dL_make_133 : decode cL_make 133 = .ok (.goto 271, 3) := by decide +kernel
theorem dL_make_136 : decode cL_make 136 = .ok (.aload 6, 2) := by decide +kernel
theorem dL_make_138 : decode cL_make 138 = .ok (.iconst 0, 1) := by decide +kernel
theorem dL_make_139 : decode cL_make 139 = .ok (.iload 4, 2) := by decide +kernel
theorem dL_make_141 : decode cL_make 141 = .ok (.bipush 8, 2) := by decide +kernel
theorem dL_make_143 : decode cL_make 143 = .ok (.if_icmp .ge 7, 3) := by decide +kernel
theorem dL_make_146 : decode cL_make 146 = .ok (.iconst 3, 1) := by decide +kernel
theorem dL_make_147 : decode cL_make 147 = .ok (.goto 27, 3) := by decide +kernel
theorem dL_make_150 : decode cL_make 150 = .ok (.iload 4, 2) := by decide +kernel
theorem dL_make_152 : decode cL_make 152 = .ok (.bipush 9, 2) := by decide +kernel
theorem dL_make_154 : decode cL_make 154 = .ok (.if_icmp .ge 7, 3) := by decide +kernel
theorem dL_make_157 : decode cL_make 157 = .ok (.iconst 4, 1) := by decide +kernel
theorem dL_make_158 : decode cL_make 158 = .ok (.goto 16, 3) := by decide +kernel
theorem dL_make_161 : decode cL_make 161 = .ok (.iload 4, 2) := by decide +kernel
theorem dL_make_163 : decode cL_make 163 = .ok (.bipush 11, 2) := by decide +kernel
theorem dL_make_165 : decode cL_make 165 = .ok (.if_icmp .ge 7, 3) := by decide +kernel
theorem dL_make_168 : decode cL_make 168 = .ok (.iconst 5, 1) := by decide +kernel
theorem dL_make_169 : decode cL_make 169 = .ok (.goto 5, 3) := by decide +kernel
theorem dL_make_172 : decode cL_make 172 = .ok (.bipush 6, 2) := by decide +kernel
theorem dL_make_174 : decode cL_make 174 = .ok (.iastore, 1) := by decide +kernel
theorem dL_make_175 : decode cL_make 175 = .ok (.aload 6, 2) := by decide +kernel
theorem dL_make_177 : decode cL_make 177 = .ok (.iconst 0, 1) := by decide +kernel
theorem dL_make_178 : decode cL_make 178 = .ok (.iaload, 1) := by decide +kernel
theorem dL_make_179 : decode cL_make 179 = .ok (.iconst 5, 1) := by decide +kernel
theorem dL_make_180 : decode cL_make 180 = .ok (.if_icmp .ne 7, 3) := by decide +kernel
theorem dL_make_183 : decode cL_make 183 = .ok (.iconst 1, 1) := by decide +kernel
theorem dL_make_184 : decode cL_make 184 = .ok (.goto 13, 3) := by decide +kernel
theorem dL_make_187 : decode cL_make 187 = .ok (.iconst 2, 1) := by decide +kernel
theorem dL_make_188 : decode cL_make 188 = .ok (.aload_n 0, 1) := by decide +kernel
theorem dL_make_189 : decode cL_make 189 = .ok (.iload_n 1, 1) := by decide +kernel
theorem dL_make_190 : decode cL_make 190 = .ok (.iconst 1, 1) := by decide +kernel
theorem dL_make_191 : decode cL_make 191 = .ok (.iadd, 1) := by decide +kernel
theorem dL_make_192 : decode cL_make 192 = .ok (.iconst 2, 1) := by decide +kernel
theorem dL_make_193 : decode cL_make 193 = .ok (.invokestatic 17, 3) := by decide +kernel
theorem dL_make_196 : decode cL_make 196 = .ok (.iadd, 1) := by decide +kernel
theorem dL_make_197 : decode cL_make 197 = .ok (.istore 7, 2) := by decide +kernel
theorem dL_make_199 : decode cL_make 199 = .ok (.iconst 0, 1) := by decide +kernel
theorem dL_make_200 : decode cL_make 200 = .ok (.istore 8, 2) := by decide +kernel
theorem dL_make_202 : decode cL_make 202 = .ok (.iload 8, 2) := by decide +kernel
theorem dL_make_204 : decode cL_make 204 = .ok (.iload 7, 2) := by decide +kernel
theorem dL_make_206 : decode cL_make 206 = .ok (.if_icmp .ge 48, 3) := by decide +kernel
theorem dL_make_209 : decode cL_make 209 = .ok (.aload_n 0, 1) := by decide +kernel
theorem dL_make_210 : decode cL_make 210 = .ok (.iload_n 1, 1) := by decide +kernel
theorem dL_make_211 : decode cL_make 211 = .ok (.bipush 7, 2) := by decide +kernel
theorem dL_make_213 : decode cL_make 213 = .ok (.iadd, 1) := by decide +kernel
theorem dL_make_214 : decode cL_make 214 = .ok (.bipush 43, 2) := by decide +kernel
theorem dL_make_216 : decode cL_make 216 = .ok (.iload 8, 2) := by decide +kernel
theorem dL_make_218 : decode cL_make 218 = .ok (.imul, 1) := by decide +kernel
theorem dL_make_219 : decode cL_make 219 = .ok (.iload_n 3, 1) := by decide +kernel
theorem dL_make_220 : decode cL_make 220 = .ok (.iconst 1, 1) := by decide +kernel
theorem dL_make_221 : decode cL_make 221 = .ok (.iadd, 1) := by decide +kernel
theorem dL_make_222 : decode cL_make 222 = .ok (.imul, 1) := by decide +kernel
theorem dL_make_223 : decode cL_make 223 = .ok (.iadd, 1) := by decide +kernel
theorem dL_make_224 : decode cL_make 224 = .ok (.bipush 11, 2) := by decide +kernel
theorem dL_make_226 : decode cL_make 226 = .ok (.iload_n 3, 1) := by decide +kernel
theorem dL_make_227 : decode cL_make 227 = .ok (.imul, 1) := by decide +kernel
theorem dL_make_228 : decode cL_make 228 = .ok (.iadd, 1) := by decide +kernel
theorem dL_make_229 : decode cL_make 229 = .ok (.aload_n 2, 1) := by decide +kernel
theorem dL_make_230 : decode cL_make 230 = .ok (.iload_n 3, 1) := by decide +kernel
theorem dL_make_231 : decode cL_make 231 = .ok (.iconst 1, 1) := by decide +kernel
theorem dL_make_232 : decode cL_make 232 = .ok (.iadd, 1) := by decide +kernel
theorem dL_make_233 : decode cL_make 233 = .ok (.invokestatic 106, 3) := by decide +kernel
theorem dL_make_236 : decode cL_make 236 = .ok (.istore 9, 2) := by decide +kernel
theorem dL_make_238 : decode cL_make 238 = .ok (.aload 6, 2) := by decide +kernel
theorem dL_make_240 : decode cL_make 240 = .ok (.bipush 6, 2) := by decide +kernel
theorem dL_make_242 : decode cL_make 242 = .ok (.iload 8, 2) := by decide +kernel
theorem dL_make_244 : decode cL_make 244 = .ok (.iadd, 1) := by decide +kernel
theorem dL_make_245 : decode cL_make 245 = .ok (.iload 9, 2) := by decide +kernel
theorem dL_make_247 : decode cL_make 247 = .ok (.iastore, 1) := by decide +kernel
theorem dL_make_248 : decode cL_make 248 = .ok (.iinc 8 1, 3) := by decide +kernel
theorem dL_make_251 : decode cL_make 251 = .ok (.goto (-49), 3) := by decide +kernel
theorem dL_make_254 : decode cL_make 254 = .ok (.aload 6, 2) := by decide +kernel
theorem dL_make_256 : decode cL_make 256 = .ok (.iconst 5, 1) := by decide +kernel
theorem dL_make_257 : decode cL_make 257 = .ok (.iload 7, 2) := by decide +kernel
theorem dL_make_259 : decode cL_make 259 = .ok (.iastore, 1) := by decide +kernel
theorem dL_make_260 : decode cL_make 260 = .ok (.aload 6, 2) := by decide +kernel
theorem dL_make_262 : decode cL_make 262 = .ok (.iconst 0, 1) := by decide +kernel
theorem dL_make_263 : decode cL_make 263 = .ok (.iaload, 1) := by decide +kernel
theorem dL_make_264 : decode cL_make 264 = .ok (.iconst 5, 1) := by decide +kernel
theorem dL_make_265 : decode cL_make 265 = .ok (.if_icmp .ne 139, 3) := by decide +kernel
theorem dL_make_268 : decode cL_make 268 = .ok (.aload_n 0, 1) := by decide +kernel
theorem dL_make_269 : decode cL_make 269 = .ok (.iload_n 1, 1) := by decide +kernel
theorem dL_make_270 : decode cL_make 270 = .ok (.iconst 2, 1) := by decide +kernel
theorem dL_make_271 : decode cL_make 271 = .ok (.iadd, 1) := by decide +kernel
theorem dL_make_272 : decode cL_make 272 = .ok (.bipush 6, 2) := by decide +kernel
theorem dL_make_274 : decode cL_make 274 = .ok (.invokestatic 17, 3) := by decide +kernel
theorem dL_make_277 : decode cL_make 277 = .ok (.istore 8, 2) := by decide +kernel
theorem dL_make_279 : decode cL_make 279 = .ok (.aload 6, 2) := by decide +kernel
theorem dL_make_281 : decode cL_make 281 = .ok (.iconst 2, 1) := by decide +kernel
theorem dL_make_282 : decode cL_make 282 = .ok (.iload 8, 2) := by decide +kernel
theorem dL_make_284 : decode cL_make 284 = .ok (.ifCond .eq 9, 3) := by decide +kernel
theorem dL_make_287 : decode cL_make 287 = .ok (.iload 8, 2) := by decide +kernel
theorem dL_make_289 : decode cL_make 289 = .ok (.iconst 2, 1) := by decide +kernel
theorem dL_make_290 : decode cL_make 290 = .ok (.if_icmp .ne 7, 3) := by decide +kernel
theorem dL_make_293 : decode cL_make 293 = .ok (.iconst 0, 1) := by decide +kernel
theorem dL_make_294 : decode cL_make 294 = .ok (.goto 21, 3) := by decide +kernel
theorem dL_make_297 : decode cL_make 297 = .ok (.iload 8, 2) := by decide +kernel
theorem dL_make_299 : decode cL_make 299 = .ok (.iconst 1, 1) := by decide +kernel
theorem dL_make_300 : decode cL_make 300 = .ok (.if_icmp .ne 7, 3) := by decide +kernel
theorem dL_make_303 : decode cL_make 303 = .ok (.iconst 1, 1) := by decide +kernel
theorem dL_make_304 : decode cL_make 304 = .ok (.goto 11, 3) := by decide +kernel
theorem dL_make_307 : decode cL_make 307 = .ok (.aload_n 0, 1) := by decide +kernel
theorem dL_make_308 : decode cL_make 308 = .ok (.iload_n 1, 1) := by decide +kernel
theorem dL_make_309 : decode cL_make 309 = .ok (.iconst 3, 1) := by decide +kernel
theorem dL_make_310 : decode cL_make 310 = .ok (.iadd, 1) := by decide +kernel
theorem dL_make_311 : decode cL_make 311 = .ok (.iconst 3, 1) := by decide +kernel
theorem dL_make_312 : decode cL_make 312 = .ok (.invokestatic 17, 3) := by decide +kernel
theorem dL_make_315 : decode cL_make 315 = .ok (.iastore, 1) := by decide +kernel
theorem dL_make_316 : decode cL_make 316 = .ok (.aload 6, 2) := by decide +kernel
theorem dL_make_318 : decode cL_make 318 = .ok (.iconst 3, 1) := by decide +kernel
theorem dL_make_319 : decode cL_make 319 = .ok (.iload 8, 2) := by decide +kernel
theorem dL_make_321 : decode cL_make 321 = .ok (.iconst 2, 1) := by decide +kernel
theorem dL_make_322 : decode cL_make 322 = .ok (.if_icmp .ge 8, 3) := by decide +kernel
theorem dL_make_325 : decode cL_make 325 = .ok (.bipush 100, 2) := by decide +kernel
theorem dL_make_327 : decode cL_make 327 = .ok (.goto 37, 3) := by decide +kernel
theorem dL_make_330 : decode cL_make 330 = .ok (.iload 8, 2) := by decide +kernel
theorem dL_make_332 : decode cL_make 332 = .ok (.iconst 2, 1) := by decide +kernel
theorem dL_make_333 : decode cL_make 333 = .ok (.if_icmp .ne 7, 3) := by decide +kernel
theorem dL_make_336 : decode cL_make 336 = .ok (.iconst 1, 1) := by decide +kernel
theorem dL_make_337 : decode cL_make 337 = .ok (.goto 27, 3) := by decide +kernel
theorem dL_make_340 : decode cL_make 340 = .ok (.iload 8, 2) := by decide +kernel
theorem dL_make_342 : decode cL_make 342 = .ok (.iconst 3, 1) := by decide +kernel
theorem dL_make_343 : decode cL_make 343 = .ok (.if_icmp .ne 19, 3) := by decide +kernel
theorem dL_make_346 : decode cL_make 346 = .ok (.aload 6, 2) := by decide +kernel
theorem dL_make_348 : decode cL_make 348 = .ok (.iconst 2, 1) := by decide +kernel
theorem dL_make_349 : decode cL_make 349 = .ok (.iaload, 1) := by decide +kernel
theorem dL_make_350 : decode cL_make 350 = .ok (.aload_n 0, 1) := by decide +kernel
theorem dL_make_351 : decode cL_make 351 = .ok (.iload_n 1, 1) := by decide +kernel
theorem dL_make_352 : decode cL_make 352 = .ok (.iconst 4, 1) := by decide +kernel
theorem dL_make_353 : decode cL_make 353 = .ok (.iadd, 1) := by decide +kernel
theorem dL_make_354 : decode cL_make 354 = .ok (.iconst 3, 1) := by decide +kernel
theorem dL_make_355 : decode cL_make 355 = .ok (.invokestatic 17, 3) := by decide +kernel
theorem dL_make_358 : decode cL_make 358 = .ok (.iadd, 1) := by decide +kernel
theorem dL_make_359 : decode cL_make 359 = .ok (.goto 5, 3) := by decide +kernel
theorem dL_make_362 : decode cL_make 362 = .ok (.bipush 100, 2) := by decide +kernel
theorem dL_make_364 : decode cL_make 364 = .ok (.iastore, 1) := by decide +kernel
theorem dL_make_365 : decode cL_make 365 = .ok (.aload 6, 2) := by decide +kernel
theorem dL_make_367 : decode cL_make 367 = .ok (.iconst 3, 1) := by decide +kernel
theorem dL_make_368 : decode cL_make 368 = .ok (.aload 6, 2) := by decide +kernel
theorem dL_make_370 : decode cL_make 370 = .ok (.iconst 3, 1) := by decide +kernel
theorem dL_make_371 : decode cL_make 371 = .ok (.iaload, 1) := by decide +kernel
theorem dL_make_372 : decode cL_make 372 = .ok (.ifCond .ne 7, 3) := by decide +kernel
theorem dL_make_375 : decode cL_make 375 = .ok (.iconst 1, 1) := by decide +kernel
theorem dL_make_376 : decode cL_make 376 = .ok (.goto 7, 3) := by decide +kernel
theorem dL_make_379 : decode cL_make 379 = .ok (.aload 6, 2) := by decide +kernel
theorem dL_make_381 : decode cL_make 381 = .ok (.iconst 3, 1) := by decide +kernel
theorem dL_make_382 : decode cL_make 382 = .ok (.iaload, 1) := by decide +kernel
theorem dL_make_383 : decode cL_make 383 = .ok (.iastore, 1) := by decide +kernel
theorem dL_make_384 : decode cL_make 384 = .ok (.aload 6, 2) := by decide +kernel
theorem dL_make_386 : decode cL_make 386 = .ok (.iconst 4, 1) := by decide +kernel
theorem dL_make_387 : decode cL_make 387 = .ok (.aload_n 0, 1) := by decide +kernel
theorem dL_make_388 : decode cL_make 388 = .ok (.iload_n 1, 1) := by decide +kernel
theorem dL_make_389 : decode cL_make 389 = .ok (.iconst 5, 1) := by decide +kernel
theorem dL_make_390 : decode cL_make 390 = .ok (.iadd, 1) := by decide +kernel
theorem dL_make_391 : decode cL_make 391 = .ok (.iconst 3, 1) := by decide +kernel
theorem dL_make_392 : decode cL_make 392 = .ok (.invokestatic 17, 3) := by decide +kernel
theorem dL_make_395 : decode cL_make 395 = .ok (.ifCond .ne 7, 3) := by decide +kernel
theorem dL_make_398 : decode cL_make 398 = .ok (.iconst 0, 1) := by decide +kernel
theorem dL_make_399 : decode cL_make 399 = .ok (.goto 4, 3) := by decide +kernel
theorem dL_make_402 : decode cL_make 402 = .ok (.iconst 1, 1) := by decide +kernel
theorem dL_make_403 : decode cL_make 403 = .ok (.iastore, 1) := by decide +kernel
theorem dL_make_404 : decode cL_make 404 = .ok (.aload_n 2, 1) := by decide +kernel
theorem dL_make_405 : decode cL_make 405 = .ok (.aload_n 2, 1) := by decide +kernel
theorem dL_make_406 : decode cL_make 406 = .ok (.iload 5, 2) := by decide +kernel
theorem dL_make_408 : decode cL_make 408 = .ok (.aaload, 1) := by decide +kernel
theorem dL_make_409 : decode cL_make 409 = .ok (.iconst 0, 1) := by decide +kernel
theorem dL_make_410 : decode cL_make 410 = .ok (.iaload, 1) := by decide +kernel
theorem dL_make_411 : decode cL_make 411 = .ok (.aload 6, 2) := by decide +kernel
theorem dL_make_413 : decode cL_make 413 = .ok (.aastore, 1) := by decide +kernel
theorem dL_make_414 : decode cL_make 414 = .ok (.aload_n 2, 1) := by decide +kernel
theorem dL_make_415 : decode cL_make 415 = .ok (.iload 5, 2) := by decide +kernel
theorem dL_make_417 : decode cL_make 417 = .ok (.aaload, 1) := by decide +kernel
theorem dL_make_418 : decode cL_make 418 = .ok (.iconst 0, 1) := by decide +kernel
theorem dL_make_419 : decode cL_make 419 = .ok (.dup2, 1) := by decide +kernel
theorem dL_make_420 : decode cL_make 420 = .ok (.iaload, 1) := by decide +kernel
theorem dL_make_421 : decode cL_make 421 = .ok (.iconst 1, 1) := by decide +kernel
theorem dL_make_422 : decode cL_make 422 = .ok (.iadd, 1) := by decide +kernel
theorem dL_make_423 : decode cL_make 423 = .ok (.iastore, 1) := by decide +kernel
theorem dL_make_424 : decode cL_make 424 = .ok (.aload_n 2, 1) := by decide +kernel
theorem dL_make_425 : decode cL_make 425 = .ok (.iload 5, 2) := by decide +kernel
theorem dL_make_427 : decode cL_make 427 = .ok (.aaload, 1) := by decide +kernel
theorem dL_make_428 : decode cL_make 428 = .ok (.iconst 0, 1) := by decide +kernel
theorem dL_make_429 : decode cL_make 429 = .ok (.iaload, 1) := by decide +kernel
theorem dL_make_430 : decode cL_make 430 = .ok (.iconst 1, 1) := by decide +kernel
theorem dL_make_431 : decode cL_make 431 = .ok (.isub, 1) := by decide +kernel
theorem dL_make_432 : decode cL_make 432 = .ok (.ireturn, 1) := by decide +kernel
theorem dL_spelled_0 : decode cL_spelled 0 = .ok (.aload_n 0, 1) := by decide +kernel
theorem dL_spelled_1 : decode cL_spelled 1 = .ok (.iload_n 1, 1) := by decide +kernel
theorem dL_spelled_2 : decode cL_spelled 2 = .ok (.aaload, 1) := by decide +kernel
theorem dL_spelled_3 : decode cL_spelled 3 = .ok (.astore_n 2, 1) := by decide +kernel
theorem dL_spelled_4 : decode cL_spelled 4 = .ok (.aload_n 2, 1) := by decide +kernel
theorem dL_spelled_5 : decode cL_spelled 5 = .ok (.iconst 0, 1) := by decide +kernel
theorem dL_spelled_6 : decode cL_spelled 6 = .ok (.iaload, 1) := by decide +kernel
theorem dL_spelled_7 : decode cL_spelled 7 = .ok (.ifCond .ne 31, 3) := by decide +kernel
theorem dL_spelled_10 : decode cL_spelled 10 = .ok (.new 78, 3) := by decide +kernel
theorem dL_spelled_13 : decode cL_spelled 13 = .ok (.dup, 1) := by decide +kernel
theorem dL_spelled_14 : decode cL_spelled 14 = .ok (.invokespecial 80, 3) := by decide +kernel
theorem dL_spelled_17 : decode cL_spelled 17 = .ok (.ldc 76, 2) := by decide +kernel
theorem dL_spelled_19 : decode cL_spelled 19 = .ok (.invokevirtual 81, 3) := by decide +kernel
theorem dL_spelled_22 : decode cL_spelled 22 = .ok (.bipush 65, 2) := by decide +kernel
theorem dL_spelled_24 : decode cL_spelled 24 = .ok (.aload_n 2, 1) := by decide +kernel
theorem dL_spelled_25 : decode cL_spelled 25 = .ok (.iconst 1, 1) := by decide +kernel
theorem dL_spelled_26 : decode cL_spelled 26 = .ok (.iaload, 1) := by decide +kernel
theorem dL_spelled_27 : decode cL_spelled 27 = .ok (.iadd, 1) := by decide +kernel
theorem dL_spelled_28 : decode cL_spelled 28 = .ok (.i2c, 1) := by decide +kernel
theorem dL_spelled_29 : decode cL_spelled 29 = .ok (.invokevirtual 87, 3) := by decide +kernel
theorem dL_spelled_32 : decode cL_spelled 32 = .ok (.invokevirtual 96, 3) := by decide +kernel
theorem dL_spelled_35 : decode cL_spelled 35 = .ok (.goto 42, 3) := by decide +kernel
theorem dL_spelled_38 : decode cL_spelled 38 = .ok (.aload_n 2, 1) := by decide +kernel
theorem dL_spelled_39 : decode cL_spelled 39 = .ok (.iconst 0, 1) := by decide +kernel
theorem dL_spelled_40 : decode cL_spelled 40 = .ok (.iaload, 1) := by decide +kernel
theorem dL_spelled_41 : decode cL_spelled 41 = .ok (.iconst 1, 1) := by decide +kernel
theorem dL_spelled_42 : decode cL_spelled 42 = .ok (.if_icmp .ne 8, 3) := by decide +kernel
theorem dL_spelled_45 : decode cL_spelled 45 = .ok (.ldc 110, 2) := by decide +kernel
theorem dL_spelled_47 : decode cL_spelled 47 = .ok (.goto 30, 3) := by decide +kernel
theorem dL_spelled_50 : decode cL_spelled 50 = .ok (.aload_n 2, 1) := by decide +kernel
theorem dL_spelled_51 : decode cL_spelled 51 = .ok (.iconst 0, 1) := by decide +kernel
theorem dL_spelled_52 : decode cL_spelled 52 = .ok (.iaload, 1) := by decide +kernel
theorem dL_spelled_53 : decode cL_spelled 53 = .ok (.iconst 2, 1) := by decide +kernel
theorem dL_spelled_54 : decode cL_spelled 54 = .ok (.if_icmp .ne 8, 3) := by decide +kernel
theorem dL_spelled_57 : decode cL_spelled 57 = .ok (.ldc 112, 2) := by decide +kernel
theorem dL_spelled_59 : decode cL_spelled 59 = .ok (.goto 18, 3) := by decide +kernel
theorem dL_spelled_62 : decode cL_spelled 62 = .ok (.aload_n 2, 1) := by decide +kernel
theorem dL_spelled_63 : decode cL_spelled 63 = .ok (.iconst 0, 1) := by decide +kernel
theorem dL_spelled_64 : decode cL_spelled 64 = .ok (.iaload, 1) := by decide +kernel
theorem dL_spelled_65 : decode cL_spelled 65 = .ok (.bipush 6, 2) := by decide +kernel
theorem dL_spelled_67 : decode cL_spelled 67 = .ok (.if_icmp .ne 8, 3) := by decide +kernel
theorem dL_spelled_70 : decode cL_spelled 70 = .ok (.ldc 114, 2) := by decide +kernel
theorem dL_spelled_72 : decode cL_spelled 72 = .ok (.goto 5, 3) := by decide +kernel
theorem dL_spelled_75 : decode cL_spelled 75 = .ok (.ldc 76, 2) := by decide +kernel
theorem dL_spelled_77 : decode cL_spelled 77 = .ok (.astore_n 3, 1) := by decide +kernel
theorem dL_spelled_78 : decode cL_spelled 78 = .ok (.iconst 0, 1) := by decide +kernel
theorem dL_spelled_79 : decode cL_spelled 79 = .ok (.istore 4, 2) := by decide +kernel
theorem dL_spelled_81 : decode cL_spelled 81 = .ok (.iload 4, 2) := by decide +kernel
theorem dL_spelled_83 : decode cL_spelled 83 = .ok (.aload_n 2, 1) := by decide +kernel
theorem dL_spelled_84 : decode cL_spelled 84 = .ok (.iconst 5, 1) := by decide +kernel
theorem dL_spelled_85 : decode cL_spelled 85 = .ok (.iaload, 1) := by decide +kernel
theorem dL_spelled_86 : decode cL_spelled 86 = .ok (.if_icmp .ge 207, 3) := by decide +kernel
theorem dL_spelled_89 : decode cL_spelled 89 = .ok (.aload_n 0, 1) := by decide +kernel
theorem dL_spelled_90 : decode cL_spelled 90 = .ok (.aload_n 2, 1) := by decide +kernel
theorem dL_spelled_91 : decode cL_spelled 91 = .ok (.bipush 6, 2) := by decide +kernel
theorem dL_spelled_93 : decode cL_spelled 93 = .ok (.iload 4, 2) := by decide +kernel
theorem dL_spelled_95 : decode cL_spelled 95 = .ok (.iadd, 1) := by decide +kernel
theorem dL_spelled_96 : decode cL_spelled 96 = .ok (.iaload, 1) := by decide +kernel
theorem dL_spelled_97 : decode cL_spelled 97 = .ok (.aaload, 1) := by decide +kernel
theorem dL_spelled_98 : decode cL_spelled 98 = .ok (.iconst 0, 1) := by decide +kernel
theorem dL_spelled_99 : decode cL_spelled 99 = .ok (.iaload, 1) := by decide +kernel
theorem dL_spelled_100 : decode cL_spelled 100 = .ok (.istore 5, 2) := by decide +kernel
theorem dL_spelled_102 : decode cL_spelled 102 = .ok (.aload_n 2, 1) := by decide +kernel
theorem dL_spelled_103 : decode cL_spelled 103 = .ok (.iconst 0, 1) := by decide +kernel
theorem dL_spelled_104 : decode cL_spelled 104 = .ok (.iaload, 1) := by decide +kernel
theorem dL_spelled_105 : decode cL_spelled 105 = .ok (.iconst 5, 1) := by decide +kernel
theorem dL_spelled_106 : decode cL_spelled 106 = .ok (.if_icmp .ne 16, 3) := by decide +kernel
theorem dL_spelled_109 : decode cL_spelled 109 = .ok (.iload 5, 2) := by decide +kernel
theorem dL_spelled_111 : decode cL_spelled 111 = .ok (.iconst 2, 1) := by decide +kernel
theorem dL_spelled_112 : decode cL_spelled 112 = .ok (.if_icmp .le 10, 3) := by decide +kernel
theorem dL_spelled_115 : decode cL_spelled 115 = .ok (.iload 5, 2) := by decide +kernel
theorem dL_spelled_117 : decode cL_spelled 117 = .ok (.bipush 6, 2) := by decide +kernel
theorem dL_spelled_119 : decode cL_spelled 119 = .ok (.if_icmp .lt 35, 3) := by decide +kernel
theorem dL_spelled_122 : decode cL_spelled 122 = .ok (.aload_n 2, 1) := by decide +kernel
theorem dL_spelled_123 : decode cL_spelled 123 = .ok (.iconst 0, 1) := by decide +kernel
theorem dL_spelled_124 : decode cL_spelled 124 = .ok (.iaload, 1) := by decide +kernel
theorem dL_spelled_125 : decode cL_spelled 125 = .ok (.iconst 3, 1) := by decide +kernel
theorem dL_spelled_126 : decode cL_spelled 126 = .ok (.if_icmp .ne 15, 3) := by decide +kernel
theorem dL_spelled_129 : decode cL_spelled 129 = .ok (.iload 5, 2) := by decide +kernel
theorem dL_spelled_131 : decode cL_spelled 131 = .ok (.iconst 3, 1) := by decide +kernel
theorem dL_spelled_132 : decode cL_spelled 132 = .ok (.if_icmp .eq 22, 3) := by decide +kernel
theorem dL_spelled_135 : decode cL_spelled 135 = .ok (.iload 5, 2) := by decide +kernel
theorem dL_spelled_137 : decode cL_spelled 137 = .ok (.iconst 4, 1) := by decide +kernel
theorem dL_spelled_138 : decode cL_spelled 138 = .ok (.if_icmp .eq 16, 3) := by decide +kernel
theorem dL_spelled_141 : decode cL_spelled 141 = .ok (.aload_n 2, 1) := by decide +kernel
theorem dL_spelled_142 : decode cL_spelled 142 = .ok (.iconst 0, 1) := by decide +kernel
theorem dL_spelled_143 : decode cL_spelled 143 = .ok (.iaload, 1) := by decide +kernel
theorem dL_spelled_144 : decode cL_spelled 144 = .ok (.iconst 4, 1) := by decide +kernel
theorem dL_spelled_145 : decode cL_spelled 145 = .ok (.if_icmp .ne 13, 3) := by decide +kernel
theorem dL_spelled_148 : decode cL_spelled 148 = .ok (.iload 5, 2) := by decide +kernel
theorem dL_spelled_150 : decode cL_spelled 150 = .ok (.iconst 4, 1) := by decide +kernel
theorem dL_spelled_151 : decode cL_spelled 151 = .ok (.if_icmp .ne 7, 3) := by decide +kernel
theorem dL_spelled_154 : decode cL_spelled 154 = .ok (.iconst 1, 1) := by decide +kernel
theorem dL_spelled_155 : decode cL_spelled 155 = .ok (.goto 4, 3) := by decide +kernel
theorem dL_spelled_158 : decode cL_spelled 158 = .ok (.iconst 0, 1) := by decide +kernel
theorem dL_spelled_159 : decode cL_spelled 159 = .ok (.istore 6, 2) := by decide +kernel
theorem dL_spelled_161 : decode cL_spelled 161 = .ok (.new 78, 3) := by decide +kernel
theorem dL_spelled_164 : decode cL_spelled 164 = .ok (.dup, 1) := by decide +kernel
theorem dL_spelled_165 : decode cL_spelled 165 = .ok (.invokespecial 80, 3) := by decide +kernel
theorem dL_spelled_168 : decode cL_spelled 168 = .ok (.aload_n 3, 1) := by decide +kernel
theorem dL_spelled_169 : decode cL_spelled 169 = .ok (.invokevirtual 81, 3) := by decide +kernel
theorem dL_spelled_172 : decode cL_spelled 172 = .ok (.iload 4, 2) := by decide +kernel
theorem dL_spelled_174 : decode cL_spelled 174 = .ok (.ifCond .ne 8, 3) := by decide +kernel
theorem dL_spelled_177 : decode cL_spelled 177 = .ok (.ldc 76, 2) := by decide +kernel
theorem dL_spelled_179 : decode cL_spelled 179 = .ok (.goto 30, 3) := by decide +kernel
theorem dL_spelled_182 : decode cL_spelled 182 = .ok (.aload_n 2, 1) := by decide +kernel
theorem dL_spelled_183 : decode cL_spelled 183 = .ok (.iconst 0, 1) := by decide +kernel
theorem dL_spelled_184 : decode cL_spelled 184 = .ok (.iaload, 1) := by decide +kernel
theorem dL_spelled_185 : decode cL_spelled 185 = .ok (.iconst 4, 1) := by decide +kernel
theorem dL_spelled_186 : decode cL_spelled 186 = .ok (.if_icmp .ne 8, 3) := by decide +kernel
theorem dL_spelled_189 : decode cL_spelled 189 = .ok (.ldc 116, 2) := by decide +kernel
theorem dL_spelled_191 : decode cL_spelled 191 = .ok (.goto 18, 3) := by decide +kernel
theorem dL_spelled_194 : decode cL_spelled 194 = .ok (.aload_n 2, 1) := by decide +kernel
theorem dL_spelled_195 : decode cL_spelled 195 = .ok (.iconst 0, 1) := by decide +kernel
theorem dL_spelled_196 : decode cL_spelled 196 = .ok (.iaload, 1) := by decide +kernel
theorem dL_spelled_197 : decode cL_spelled 197 = .ok (.bipush 6, 2) := by decide +kernel
theorem dL_spelled_199 : decode cL_spelled 199 = .ok (.if_icmp .ne 8, 3) := by decide +kernel
theorem dL_spelled_202 : decode cL_spelled 202 = .ok (.ldc 118, 2) := by decide +kernel
theorem dL_spelled_204 : decode cL_spelled 204 = .ok (.goto 5, 3) := by decide +kernel
theorem dL_spelled_207 : decode cL_spelled 207 = .ok (.ldc 76, 2) := by decide +kernel
theorem dL_spelled_209 : decode cL_spelled 209 = .ok (.invokevirtual 81, 3) := by decide +kernel
theorem dL_spelled_212 : decode cL_spelled 212 = .ok (.invokevirtual 96, 3) := by decide +kernel
theorem dL_spelled_215 : decode cL_spelled 215 = .ok (.astore_n 3, 1) := by decide +kernel
theorem dL_spelled_216 : decode cL_spelled 216 = .ok (.new 78, 3) := by decide +kernel
theorem dL_spelled_219 : decode cL_spelled 219 = .ok (.dup, 1) := by decide +kernel
theorem dL_spelled_220 : decode cL_spelled 220 = .ok (.invokespecial 80, 3) := by decide +kernel
theorem dL_spelled_223 : decode cL_spelled 223 = .ok (.aload_n 3, 1) := by decide +kernel
theorem dL_spelled_224 : decode cL_spelled 224 = .ok (.invokevirtual 81, 3) := by decide +kernel
theorem dL_spelled_227 : decode cL_spelled 227 = .ok (.iload 6, 2) := by decide +kernel
theorem dL_spelled_229 : decode cL_spelled 229 = .ok (.ifCond .eq 40, 3) := by decide +kernel
theorem dL_spelled_232 : decode cL_spelled 232 = .ok (.new 78, 3) := by decide +kernel
theorem dL_spelled_235 : decode cL_spelled 235 = .ok (.dup, 1) := by decide +kernel
theorem dL_spelled_236 : decode cL_spelled 236 = .ok (.invokespecial 80, 3) := by decide +kernel
theorem dL_spelled_239 : decode cL_spelled 239 = .ok (.ldc 120, 2) := by decide +kernel
theorem dL_spelled_241 : decode cL_spelled 241 = .ok (.invokevirtual 81, 3) := by decide +kernel
theorem dL_spelled_244 : decode cL_spelled 244 = .ok (.aload_n 0, 1) := by decide +kernel
theorem dL_spelled_245 : decode cL_spelled 245 = .ok (.aload_n 2, 1) := by decide +kernel
theorem dL_spelled_246 : decode cL_spelled 246 = .ok (.bipush 6, 2) := by decide +kernel
theorem dL_spelled_248 : decode cL_spelled 248 = .ok (.iload 4, 2) := by decide +kernel
theorem dL_spelled_250 : decode cL_spelled 250 = .ok (.iadd, 1) := by decide +kernel
theorem dL_spelled_251 : decode cL_spelled 251 = .ok (.iaload, 1) := by decide +kernel
theorem dL_spelled_252 : decode cL_spelled 252 = .ok (.invokestatic 122, 3) := by decide +kernel
theorem dL_spelled_255 : decode cL_spelled 255 = .ok (.invokevirtual 81, 3) := by decide +kernel
theorem dL_spelled_258 : decode cL_spelled 258 = .ok (.ldc 126, 2) := by decide +kernel
theorem dL_spelled_260 : decode cL_spelled 260 = .ok (.invokevirtual 81, 3) := by decide +kernel
theorem dL_spelled_263 : decode cL_spelled 263 = .ok (.invokevirtual 96, 3) := by decide +kernel
theorem dL_spelled_266 : decode cL_spelled 266 = .ok (.goto 14, 3) := by decide +kernel
theorem dL_spelled_269 : decode cL_spelled 269 = .ok (.aload_n 0, 1) := by decide +kernel
theorem dL_spelled_270 : decode cL_spelled 270 = .ok (.aload_n 2, 1) := by decide +kernel
theorem dL_spelled_271 : decode cL_spelled 271 = .ok (.bipush 6, 2) := by decide +kernel
theorem dL_spelled_273 : decode cL_spelled 273 = .ok (.iload 4, 2) := by decide +kernel
theorem dL_spelled_275 : decode cL_spelled 275 = .ok (.iadd, 1) := by decide +kernel
theorem dL_spelled_276 : decode cL_spelled 276 = .ok (.iaload, 1) := by decide +kernel
theorem dL_spelled_277 : decode cL_spelled 277 = .ok (.invokestatic 122, 3) := by decide +kernel
theorem dL_spelled_280 : decode cL_spelled 280 = .ok (.invokevirtual 81, 3) := by decide +kernel
theorem dL_spelled_283 : decode cL_spelled 283 = .ok (.invokevirtual 96, 3) := by decide +kernel
theorem dL_spelled_286 : decode cL_spelled 286 = .ok (.astore_n 3, 1) := by decide +kernel
theorem dL_spelled_287 : decode cL_spelled 287 = .ok (.iinc 4 1, 3) := by decide +kernel
theorem dL_spelled_290 : decode cL_spelled 290 = .ok (.goto (-209), 3) := by decide +kernel
theorem dL_spelled_293 : decode cL_spelled 293 = .ok (.aload_n 2, 1) := by decide +kernel
theorem dL_spelled_294 : decode cL_spelled 294 = .ok (.iconst 0, 1) := by decide +kernel
theorem dL_spelled_295 : decode cL_spelled 295 = .ok (.iaload, 1) := by decide +kernel
theorem dL_spelled_296 : decode cL_spelled 296 = .ok (.iconst 5, 1) := by decide +kernel
theorem dL_spelled_297 : decode cL_spelled 297 = .ok (.if_icmp .ne 185, 3) := by decide +kernel
theorem dL_spelled_300 : decode cL_spelled 300 = .ok (.aload_n 2, 1) := by decide +kernel
theorem dL_spelled_301 : decode cL_spelled 301 = .ok (.iconst 2, 1) := by decide +kernel
theorem dL_spelled_302 : decode cL_spelled 302 = .ok (.iaload, 1) := by decide +kernel
theorem dL_spelled_303 : decode cL_spelled 303 = .ok (.istore 4, 2) := by decide +kernel
theorem dL_spelled_305 : decode cL_spelled 305 = .ok (.aload_n 2, 1) := by decide +kernel
theorem dL_spelled_306 : decode cL_spelled 306 = .ok (.iconst 3, 1) := by decide +kernel
theorem dL_spelled_307 : decode cL_spelled 307 = .ok (.iaload, 1) := by decide +kernel
theorem dL_spelled_308 : decode cL_spelled 308 = .ok (.istore 5, 2) := by decide +kernel
theorem dL_spelled_310 : decode cL_spelled 310 = .ok (.new 78, 3) := by decide +kernel
theorem dL_spelled_313 : decode cL_spelled 313 = .ok (.dup, 1) := by decide +kernel
theorem dL_spelled_314 : decode cL_spelled 314 = .ok (.invokespecial 80, 3) := by decide +kernel
theorem dL_spelled_317 : decode cL_spelled 317 = .ok (.aload_n 3, 1) := by decide +kernel
theorem dL_spelled_318 : decode cL_spelled 318 = .ok (.invokevirtual 81, 3) := by decide +kernel
theorem dL_spelled_321 : decode cL_spelled 321 = .ok (.iload 4, 2) := by decide +kernel
theorem dL_spelled_323 : decode cL_spelled 323 = .ok (.ifCond .ne 15, 3) := by decide +kernel
theorem dL_spelled_326 : decode cL_spelled 326 = .ok (.iload 5, 2) := by decide +kernel
theorem dL_spelled_328 : decode cL_spelled 328 = .ok (.bipush 100, 2) := by decide +kernel
theorem dL_spelled_330 : decode cL_spelled 330 = .ok (.if_icmp .ne 8, 3) := by decide +kernel
theorem dL_spelled_333 : decode cL_spelled 333 = .ok (.ldc 128, 2) := by decide +kernel
theorem dL_spelled_335 : decode cL_spelled 335 = .ok (.goto 109, 3) := by decide +kernel
theorem dL_spelled_338 : decode cL_spelled 338 = .ok (.iload 4, 2) := by decide +kernel
theorem dL_spelled_340 : decode cL_spelled 340 = .ok (.iconst 1, 1) := by decide +kernel
theorem dL_spelled_341 : decode cL_spelled 341 = .ok (.if_icmp .ne 15, 3) := by decide +kernel
theorem dL_spelled_344 : decode cL_spelled 344 = .ok (.iload 5, 2) := by decide +kernel
theorem dL_spelled_346 : decode cL_spelled 346 = .ok (.bipush 100, 2) := by decide +kernel
theorem dL_spelled_348 : decode cL_spelled 348 = .ok (.if_icmp .ne 8, 3) := by decide +kernel
theorem dL_spelled_351 : decode cL_spelled 351 = .ok (.ldc 130, 2) := by decide +kernel
theorem dL_spelled_353 : decode cL_spelled 353 = .ok (.goto 91, 3) := by decide +kernel
theorem dL_spelled_356 : decode cL_spelled 356 = .ok (.iload 4, 2) := by decide +kernel
theorem dL_spelled_358 : decode cL_spelled 358 = .ok (.ifCond .ne 14, 3) := by decide +kernel
theorem dL_spelled_361 : decode cL_spelled 361 = .ok (.iload 5, 2) := by decide +kernel
theorem dL_spelled_363 : decode cL_spelled 363 = .ok (.iconst 1, 1) := by decide +kernel
theorem dL_spelled_364 : decode cL_spelled 364 = .ok (.if_icmp .ne 8, 3) := by decide +kernel
theorem dL_spelled_367 : decode cL_spelled 367 = .ok (.ldc 132, 2) := by decide +kernel
theorem dL_spelled_369 : decode cL_spelled 369 = .ok (.goto 75, 3) := by decide +kernel
theorem dL_spelled_372 : decode cL_spelled 372 = .ok (.new 78, 3) := by decide +kernel
theorem dL_spelled_375 : decode cL_spelled 375 = .ok (.dup, 1) := by decide +kernel
theorem dL_spelled_376 : decode cL_spelled 376 = .ok (.invokespecial 80, 3) := by decide +kernel
theorem dL_spelled_379 : decode cL_spelled 379 = .ok (.ldc 134, 2) := by decide +kernel
theorem dL_spelled_381 : decode cL_spelled 381 = .ok (.invokevirtual 81, 3) := by decide +kernel
theorem dL_spelled_384 : decode cL_spelled 384 = .ok (.iload 4, 2) := by decide +kernel
theorem dL_spelled_386 : decode cL_spelled 386 = .ok (.invokevirtual 136, 3) := by decide +kernel
theorem dL_spelled_389 : decode cL_spelled 389 = .ok (.iload 5, 2) := by decide +kernel
theorem dL_spelled_391 : decode cL_spelled 391 = .ok (.iload 4, 2) := by decide +kernel
theorem dL_spelled_393 : decode cL_spelled 393 = .ok (.if_icmp .ne 8, 3) := by decide +kernel
theorem dL_spelled_396 : decode cL_spelled 396 = .ok (.ldc 76, 2) := by decide +kernel
theorem dL_spelled_398 : decode cL_spelled 398 = .ok (.goto 35, 3) := by decide +kernel
theorem dL_spelled_401 : decode cL_spelled 401 = .ok (.iload 5, 2) := by decide +kernel
theorem dL_spelled_403 : decode cL_spelled 403 = .ok (.bipush 100, 2) := by decide +kernel
theorem dL_spelled_405 : decode cL_spelled 405 = .ok (.if_icmp .ne 8, 3) := by decide +kernel
theorem dL_spelled_408 : decode cL_spelled 408 = .ok (.ldc 118, 2) := by decide +kernel
theorem dL_spelled_410 : decode cL_spelled 410 = .ok (.goto 23, 3) := by decide +kernel
theorem dL_spelled_413 : decode cL_spelled 413 = .ok (.new 78, 3) := by decide +kernel
theorem dL_spelled_416 : decode cL_spelled 416 = .ok (.dup, 1) := by decide +kernel
theorem dL_spelled_417 : decode cL_spelled 417 = .ok (.invokespecial 80, 3) := by decide +kernel
theorem dL_spelled_420 : decode cL_spelled 420 = .ok (.ldc 118, 2) := by decide +kernel
theorem dL_spelled_422 : decode cL_spelled 422 = .ok (.invokevirtual 81, 3) := by decide +kernel
theorem dL_spelled_425 : decode cL_spelled 425 = .ok (.iload 5, 2) := by decide +kernel
theorem dL_spelled_427 : decode cL_spelled 427 = .ok (.invokevirtual 136, 3) := by decide +kernel
theorem dL_spelled_430 : decode cL_spelled 430 = .ok (.invokevirtual 96, 3) := by decide +kernel
theorem dL_spelled_433 : decode cL_spelled 433 = .ok (.invokevirtual 81, 3) := by decide +kernel
theorem dL_spelled_436 : decode cL_spelled 436 = .ok (.ldc 139, 2) := by decide +kernel
theorem dL_spelled_438 : decode cL_spelled 438 = .ok (.invokevirtual 81, 3) := by decide +kernel
theorem dL_spelled_441 : decode cL_spelled 441 = .ok (.invokevirtual 96, 3) := by decide +kernel
theorem dL_spelled_444 : decode cL_spelled 444 = .ok (.invokevirtual 81, 3) := by decide +kernel
theorem dL_spelled_447 : decode cL_spelled 447 = .ok (.invokevirtual 96, 3) := by decide +kernel
theorem dL_spelled_450 : decode cL_spelled 450 = .ok (.astore_n 3, 1) := by decide +kernel
theorem dL_spelled_451 : decode cL_spelled 451 = .ok (.new 78, 3) := by decide +kernel
theorem dL_spelled_454 : decode cL_spelled 454 = .ok (.dup, 1) := by decide +kernel
theorem dL_spelled_455 : decode cL_spelled 455 = .ok (.invokespecial 80, 3) := by decide +kernel
theorem dL_spelled_458 : decode cL_spelled 458 = .ok (.aload_n 3, 1) := by decide +kernel
theorem dL_spelled_459 : decode cL_spelled 459 = .ok (.invokevirtual 81, 3) := by decide +kernel
theorem dL_spelled_462 : decode cL_spelled 462 = .ok (.aload_n 2, 1) := by decide +kernel
theorem dL_spelled_463 : decode cL_spelled 463 = .ok (.iconst 4, 1) := by decide +kernel
theorem dL_spelled_464 : decode cL_spelled 464 = .ok (.iaload, 1) := by decide +kernel
theorem dL_spelled_465 : decode cL_spelled 465 = .ok (.ifCond .ne 8, 3) := by decide +kernel
theorem dL_spelled_468 : decode cL_spelled 468 = .ok (.ldc 132, 2) := by decide +kernel
theorem dL_spelled_470 : decode cL_spelled 470 = .ok (.goto 5, 3) := by decide +kernel
theorem dL_spelled_473 : decode cL_spelled 473 = .ok (.ldc 76, 2) := by decide +kernel
theorem dL_spelled_475 : decode cL_spelled 475 = .ok (.invokevirtual 81, 3) := by decide +kernel
theorem dL_spelled_478 : decode cL_spelled 478 = .ok (.invokevirtual 96, 3) := by decide +kernel
theorem dL_spelled_481 : decode cL_spelled 481 = .ok (.astore_n 3, 1) := by decide +kernel
theorem dL_spelled_482 : decode cL_spelled 482 = .ok (.aload_n 2, 1) := by decide +kernel
theorem dL_spelled_483 : decode cL_spelled 483 = .ok (.iconst 0, 1) := by decide +kernel
theorem dL_spelled_484 : decode cL_spelled 484 = .ok (.iaload, 1) := by decide +kernel
theorem dL_spelled_485 : decode cL_spelled 485 = .ok (.bipush 6, 2) := by decide +kernel
theorem dL_spelled_487 : decode cL_spelled 487 = .ok (.if_icmp .ne 25, 3) := by decide +kernel
theorem dL_spelled_490 : decode cL_spelled 490 = .ok (.new 78, 3) := by decide +kernel
theorem dL_spelled_493 : decode cL_spelled 493 = .ok (.dup, 1) := by decide +kernel
theorem dL_spelled_494 : decode cL_spelled 494 = .ok (.invokespecial 80, 3) := by decide +kernel
theorem dL_spelled_497 : decode cL_spelled 497 = .ok (.aload_n 3, 1) := by decide +kernel
theorem dL_spelled_498 : decode cL_spelled 498 = .ok (.invokevirtual 81, 3) := by decide +kernel
theorem dL_spelled_501 : decode cL_spelled 501 = .ok (.ldc 126, 2) := by decide +kernel
theorem dL_spelled_503 : decode cL_spelled 503 = .ok (.invokevirtual 81, 3) := by decide +kernel
theorem dL_spelled_506 : decode cL_spelled 506 = .ok (.invokevirtual 96, 3) := by decide +kernel
theorem dL_spelled_509 : decode cL_spelled 509 = .ok (.goto 4, 3) := by decide +kernel
theorem dL_spelled_512 : decode cL_spelled 512 = .ok (.aload_n 3, 1) := by decide +kernel
theorem dL_spelled_513 : decode cL_spelled 513 = .ok (.areturn, 1) := by decide +kernel
theorem dL_pattern_0 : decode cL_pattern 0 = .ok (.iconst 0, 1) := by decide +kernel
theorem dL_pattern_1 : decode cL_pattern 1 = .ok (.istore_n 3, 1) := by decide +kernel
theorem dL_pattern_2 : decode cL_pattern 2 = .ok (.iload_n 3, 1) := by decide +kernel
theorem dL_pattern_3 : decode cL_pattern 3 = .ok (.bipush 9, 2) := by decide +kernel
theorem dL_pattern_5 : decode cL_pattern 5 = .ok (.if_icmp .ge 112, 3) := by decide +kernel
theorem dL_pattern_8 : decode cL_pattern 8 = .ok (.bipush 70, 2) := by decide +kernel
theorem dL_pattern_10 : decode cL_pattern 10 = .ok (.anewarray 15, 3) := by decide +kernel
theorem dL_pattern_13 : decode cL_pattern 13 = .ok (.astore 4, 2) := by decide +kernel
theorem dL_pattern_15 : decode cL_pattern 15 = .ok (.aload 4, 2) := by decide +kernel
theorem dL_pattern_17 : decode cL_pattern 17 = .ok (.bipush 69, 2) := by decide +kernel
theorem dL_pattern_19 : decode cL_pattern 19 = .ok (.iconst 1, 1) := by decide +kernel
theorem dL_pattern_20 : decode cL_pattern 20 = .ok (.newarray .int, 2) := by decide +kernel
theorem dL_pattern_22 : decode cL_pattern 22 = .ok (.aastore, 1) := by decide +kernel
theorem dL_pattern_23 : decode cL_pattern 23 = .ok (.aload_n 1, 1) := by decide +kernel
theorem dL_pattern_24 : decode cL_pattern 24 = .ok (.iload_n 2, 1) := by decide +kernel
theorem dL_pattern_25 : decode cL_pattern 25 = .ok (.sipush 977, 3) := by decide +kernel
theorem dL_pattern_28 : decode cL_pattern 28 = .ok (.iload_n 3, 1) := by decide +kernel
theorem dL_pattern_29 : decode cL_pattern 29 = .ok (.imul, 1) := by decide +kernel
theorem dL_pattern_30 : decode cL_pattern 30 = .ok (.iadd, 1) := by decide +kernel
theorem dL_pattern_31 : decode cL_pattern 31 = .ok (.aload 4, 2) := by decide +kernel
theorem dL_pattern_33 : decode cL_pattern 33 = .ok (.iconst 0, 1) := by decide +kernel
theorem dL_pattern_34 : decode cL_pattern 34 = .ok (.invokestatic 106, 3) := by decide +kernel
theorem dL_pattern_37 : decode cL_pattern 37 = .ok (.pop, 1) := by decide +kernel
theorem dL_pattern_38 : decode cL_pattern 38 = .ok (.aload 4, 2) := by decide +kernel
theorem dL_pattern_40 : decode cL_pattern 40 = .ok (.aload 4, 2) := by decide +kernel
theorem dL_pattern_42 : decode cL_pattern 42 = .ok (.bipush 69, 2) := by decide +kernel
theorem dL_pattern_44 : decode cL_pattern 44 = .ok (.aaload, 1) := by decide +kernel
theorem dL_pattern_45 : decode cL_pattern 45 = .ok (.iconst 0, 1) := by decide +kernel
theorem dL_pattern_46 : decode cL_pattern 46 = .ok (.iaload, 1) := by decide +kernel
theorem dL_pattern_47 : decode cL_pattern 47 = .ok (.iconst 1, 1) := by decide +kernel
theorem dL_pattern_48 : decode cL_pattern 48 = .ok (.isub, 1) := by decide +kernel
theorem dL_pattern_49 : decode cL_pattern 49 = .ok (.invokestatic 122, 3) := by decide +kernel
theorem dL_pattern_52 : decode cL_pattern 52 = .ok (.astore 5, 2) := by decide +kernel
theorem dL_pattern_54 : decode cL_pattern 54 = .ok (.aload 5, 2) := by decide +kernel
theorem dL_pattern_56 : decode cL_pattern 56 = .ok (.invokevirtual 27, 3) := by decide +kernel
theorem dL_pattern_59 : decode cL_pattern 59 = .ok (.bipush 60, 2) := by decide +kernel
theorem dL_pattern_61 : decode cL_pattern 61 = .ok (.if_icmp .ge 50, 3) := by decide +kernel
theorem dL_pattern_64 : decode cL_pattern 64 = .ok (.aload 5, 2) := by decide +kernel
theorem dL_pattern_66 : decode cL_pattern 66 = .ok (.invokevirtual 27, 3) := by decide +kernel
theorem dL_pattern_69 : decode cL_pattern 69 = .ok (.iconst 3, 1) := by decide +kernel
theorem dL_pattern_70 : decode cL_pattern 70 = .ok (.if_icmp .gt 8, 3) := by decide +kernel
theorem dL_pattern_73 : decode cL_pattern 73 = .ok (.iload_n 3, 1) := by decide +kernel
theorem dL_pattern_74 : decode cL_pattern 74 = .ok (.iconst 4, 1) := by decide +kernel
theorem dL_pattern_75 : decode cL_pattern 75 = .ok (.if_icmp .le 36, 3) := by decide +kernel
theorem dL_pattern_78 : decode cL_pattern 78 = .ok (.aload_n 0, 1) := by decide +kernel
theorem dL_pattern_79 : decode cL_pattern 79 = .ok (.aload 5, 2) := by decide +kernel
theorem dL_pattern_81 : decode cL_pattern 81 = .ok (.invokestatic 100, 3) := by decide +kernel
theorem dL_pattern_84 : decode cL_pattern 84 = .ok (.ifCond .eq 22, 3) := by decide +kernel
theorem dL_pattern_87 : decode cL_pattern 87 = .ok (.aload_n 0, 1) := by decide +kernel
theorem dL_pattern_88 : decode cL_pattern 88 = .ok (.invokevirtual 141, 3) := by decide +kernel
theorem dL_pattern_91 : decode cL_pattern 91 = .ok (.aload 4, 2) := by decide +kernel
theorem dL_pattern_93 : decode cL_pattern 93 = .ok (.bipush 69, 2) := by decide +kernel
theorem dL_pattern_95 : decode cL_pattern 95 = .ok (.aaload, 1) := by decide +kernel
theorem dL_pattern_96 : decode cL_pattern 96 = .ok (.iconst 0, 1) := by decide +kernel
theorem dL_pattern_97 : decode cL_pattern 97 = .ok (.iaload, 1) := by decide +kernel
theorem dL_pattern_98 : decode cL_pattern 98 = .ok (.if_icmp .ne 8, 3) := by decide +kernel
theorem dL_pattern_101 : decode cL_pattern 101 = .ok (.aload 4, 2) := by decide +kernel
theorem dL_pattern_103 : decode cL_pattern 103 = .ok (.goto 7, 3) := by decide +kernel
theorem dL_pattern_106 : decode cL_pattern 106 = .ok (.iconst 0, 1) := by decide +kernel
theorem dL_pattern_107 : decode cL_pattern 107 = .ok (.anewarray 15, 3) := by decide +kernel
theorem dL_pattern_110 : decode cL_pattern 110 = .ok (.areturn, 1) := by decide +kernel
theorem dL_pattern_111 : decode cL_pattern 111 = .ok (.iinc 3 1, 3) := by decide +kernel
theorem dL_pattern_114 : decode cL_pattern 114 = .ok (.goto (-112), 3) := by decide +kernel
theorem dL_pattern_117 : decode cL_pattern 117 = .ok (.bipush 70, 2) := by decide +kernel
theorem dL_pattern_119 : decode cL_pattern 119 = .ok (.anewarray 15, 3) := by decide +kernel
theorem dL_pattern_122 : decode cL_pattern 122 = .ok (.astore_n 3, 1) := by decide +kernel
theorem dL_pattern_123 : decode cL_pattern 123 = .ok (.aload_n 3, 1) := by decide +kernel
theorem dL_pattern_124 : decode cL_pattern 124 = .ok (.iconst 0, 1) := by decide +kernel
theorem dL_pattern_125 : decode cL_pattern 125 = .ok (.bipush 10, 2) := by decide +kernel
theorem dL_pattern_127 : decode cL_pattern 127 = .ok (.newarray .int, 2) := by decide +kernel
theorem dL_pattern_129 : decode cL_pattern 129 = .ok (.dup, 1) := by decide +kernel
theorem dL_pattern_130 : decode cL_pattern 130 = .ok (.iconst 0, 1) := by decide +kernel
theorem dL_pattern_131 : decode cL_pattern 131 = .ok (.iconst 0, 1) := by decide +kernel
theorem dL_pattern_132 : decode cL_pattern 132 = .ok (.iastore, 1) := by decide +kernel
theorem dL_pattern_133 : decode cL_pattern 133 = .ok (.dup, 1) := by decide +kernel
theorem dL_pattern_134 : decode cL_pattern 134 = .ok (.iconst 1, 1) := by decide +kernel
theorem dL_pattern_135 : decode cL_pattern 135 = .ok (.iconst 0, 1) := by decide +kernel
theorem dL_pattern_136 : decode cL_pattern 136 = .ok (.iastore, 1) := by decide +kernel
theorem dL_pattern_137 : decode cL_pattern 137 = .ok (.dup, 1) := by decide +kernel
theorem dL_pattern_138 : decode cL_pattern 138 = .ok (.iconst 2, 1) := by decide +kernel
theorem dL_pattern_139 : decode cL_pattern 139 = .ok (.bipush (-5), 2) := by decide +kernel
theorem dL_pattern_141 : decode cL_pattern 141 = .ok (.iastore, 1) := by decide +kernel
theorem dL_pattern_142 : decode cL_pattern 142 = .ok (.dup, 1) := by decide +kernel
theorem dL_pattern_143 : decode cL_pattern 143 = .ok (.iconst 3, 1) := by decide +kernel
theorem dL_pattern_144 : decode cL_pattern 144 = .ok (.bipush (-5), 2) := by decide +kernel
theorem dL_pattern_146 : decode cL_pattern 146 = .ok (.iastore, 1) := by decide +kernel
theorem dL_pattern_147 : decode cL_pattern 147 = .ok (.dup, 1) := by decide +kernel
theorem dL_pattern_148 : decode cL_pattern 148 = .ok (.iconst 4, 1) := by decide +kernel
theorem dL_pattern_149 : decode cL_pattern 149 = .ok (.bipush (-5), 2) := by decide +kernel
theorem dL_pattern_151 : decode cL_pattern 151 = .ok (.iastore, 1) := by decide +kernel
theorem dL_pattern_152 : decode cL_pattern 152 = .ok (.dup, 1) := by decide +kernel
theorem dL_pattern_153 : decode cL_pattern 153 = .ok (.iconst 5, 1) := by decide +kernel
theorem dL_pattern_154 : decode cL_pattern 154 = .ok (.iconst 0, 1) := by decide +kernel
theorem dL_pattern_155 : decode cL_pattern 155 = .ok (.iastore, 1) := by decide +kernel
theorem dL_pattern_156 : decode cL_pattern 156 = .ok (.dup, 1) := by decide +kernel
theorem dL_pattern_157 : decode cL_pattern 157 = .ok (.bipush 6, 2) := by decide +kernel
theorem dL_pattern_159 : decode cL_pattern 159 = .ok (.iconst (-1), 1) := by decide +kernel
theorem dL_pattern_160 : decode cL_pattern 160 = .ok (.iastore, 1) := by decide +kernel
theorem dL_pattern_161 : decode cL_pattern 161 = .ok (.dup, 1) := by decide +kernel
theorem dL_pattern_162 : decode cL_pattern 162 = .ok (.bipush 7, 2) := by decide +kernel
theorem dL_pattern_164 : decode cL_pattern 164 = .ok (.iconst (-1), 1) := by decide +kernel
theorem dL_pattern_165 : decode cL_pattern 165 = .ok (.iastore, 1) := by decide +kernel
theorem dL_pattern_166 : decode cL_pattern 166 = .ok (.dup, 1) := by decide +kernel
theorem dL_pattern_167 : decode cL_pattern 167 = .ok (.bipush 8, 2) := by decide +kernel
theorem dL_pattern_169 : decode cL_pattern 169 = .ok (.iconst (-1), 1) := by decide +kernel
theorem dL_pattern_170 : decode cL_pattern 170 = .ok (.iastore, 1) := by decide +kernel
theorem dL_pattern_171 : decode cL_pattern 171 = .ok (.dup, 1) := by decide +kernel
theorem dL_pattern_172 : decode cL_pattern 172 = .ok (.bipush 9, 2) := by decide +kernel
theorem dL_pattern_174 : decode cL_pattern 174 = .ok (.iconst (-1), 1) := by decide +kernel
theorem dL_pattern_175 : decode cL_pattern 175 = .ok (.iastore, 1) := by decide +kernel
theorem dL_pattern_176 : decode cL_pattern 176 = .ok (.aastore, 1) := by decide +kernel
theorem dL_pattern_177 : decode cL_pattern 177 = .ok (.aload_n 3, 1) := by decide +kernel
theorem dL_pattern_178 : decode cL_pattern 178 = .ok (.bipush 69, 2) := by decide +kernel
theorem dL_pattern_180 : decode cL_pattern 180 = .ok (.iconst 1, 1) := by decide +kernel
theorem dL_pattern_181 : decode cL_pattern 181 = .ok (.newarray .int, 2) := by decide +kernel
theorem dL_pattern_183 : decode cL_pattern 183 = .ok (.dup, 1) := by decide +kernel
theorem dL_pattern_184 : decode cL_pattern 184 = .ok (.iconst 0, 1) := by decide +kernel
theorem dL_pattern_185 : decode cL_pattern 185 = .ok (.iconst 1, 1) := by decide +kernel
theorem dL_pattern_186 : decode cL_pattern 186 = .ok (.iastore, 1) := by decide +kernel
theorem dL_pattern_187 : decode cL_pattern 187 = .ok (.aastore, 1) := by decide +kernel
theorem dL_pattern_188 : decode cL_pattern 188 = .ok (.aload_n 0, 1) := by decide +kernel
theorem dL_pattern_189 : decode cL_pattern 189 = .ok (.ldc 144, 2) := by decide +kernel
theorem dL_pattern_191 : decode cL_pattern 191 = .ok (.invokestatic 100, 3) := by decide +kernel
theorem dL_pattern_194 : decode cL_pattern 194 = .ok (.ifCond .eq 15, 3) := by decide +kernel
theorem dL_pattern_197 : decode cL_pattern 197 = .ok (.aload_n 0, 1) := by decide +kernel
theorem dL_pattern_198 : decode cL_pattern 198 = .ok (.invokevirtual 141, 3) := by decide +kernel
theorem dL_pattern_201 : decode cL_pattern 201 = .ok (.iconst 1, 1) := by decide +kernel
theorem dL_pattern_202 : decode cL_pattern 202 = .ok (.if_icmp .ne 7, 3) := by decide +kernel
theorem dL_pattern_205 : decode cL_pattern 205 = .ok (.aload_n 3, 1) := by decide +kernel
theorem dL_pattern_206 : decode cL_pattern 206 = .ok (.goto 7, 3) := by decide +kernel
theorem dL_pattern_209 : decode cL_pattern 209 = .ok (.iconst 0, 1) := by decide +kernel
theorem dL_pattern_210 : decode cL_pattern 210 = .ok (.anewarray 15, 3) := by decide +kernel
theorem dL_pattern_213 : decode cL_pattern 213 = .ok (.areturn, 1) := by decide +kernel
theorem dL_law_0 : decode cL_law 0 = .ok (.new 22, 3) := by decide +kernel
theorem dL_law_3 : decode cL_law 3 = .ok (.dup, 1) := by decide +kernel
theorem dL_law_4 : decode cL_law 4 = .ok (.invokespecial 146, 3) := by decide +kernel
theorem dL_law_7 : decode cL_law 7 = .ok (.astore_n 1, 1) := by decide +kernel
theorem dL_law_8 : decode cL_law 8 = .ok (.aload_n 0, 1) := by decide +kernel
theorem dL_law_9 : decode cL_law 9 = .ok (.iconst 0, 1) := by decide +kernel
theorem dL_law_10 : decode cL_law 10 = .ok (.bipush 8, 2) := by decide +kernel
theorem dL_law_12 : decode cL_law 12 = .ok (.invokestatic 17, 3) := by decide +kernel
theorem dL_law_15 : decode cL_law 15 = .ok (.istore_n 2, 1) := by decide +kernel
theorem dL_law_16 : decode cL_law 16 = .ok (.aload_n 0, 1) := by decide +kernel
theorem dL_law_17 : decode cL_law 17 = .ok (.iconst 1, 1) := by decide +kernel
theorem dL_law_18 : decode cL_law 18 = .ok (.iload_n 2, 1) := by decide +kernel
theorem dL_law_19 : decode cL_law 19 = .ok (.invokestatic 147, 3) := by decide +kernel
theorem dL_law_22 : decode cL_law 22 = .ok (.astore_n 3, 1) := by decide +kernel
theorem dL_law_23 : decode cL_law 23 = .ok (.aload_n 1, 1) := by decide +kernel
theorem dL_law_24 : decode cL_law 24 = .ok (.aload_n 0, 1) := by decide +kernel
theorem dL_law_25 : decode cL_law 25 = .ok (.bipush 40, 2) := by decide +kernel
theorem dL_law_27 : decode cL_law 27 = .ok (.invokestatic 151, 3) := by decide +kernel
theorem dL_law_30 : decode cL_law 30 = .ok (.astore 4, 2) := by decide +kernel
theorem dL_law_32 : decode cL_law 32 = .ok (.aload_n 1, 1) := by decide +kernel
theorem dL_law_33 : decode cL_law 33 = .ok (.aload_n 0, 1) := by decide +kernel
theorem dL_law_34 : decode cL_law 34 = .ok (.bipush 50, 2) := by decide +kernel
theorem dL_law_36 : decode cL_law 36 = .ok (.invokestatic 155, 3) := by decide +kernel
theorem dL_law_39 : decode cL_law 39 = .ok (.astore 5, 2) := by decide +kernel
theorem dL_law_41 : decode cL_law 41 = .ok (.aload 5, 2) := by decide +kernel
theorem dL_law_43 : decode cL_law 43 = .ok (.arraylength, 1) := by decide +kernel
theorem dL_law_44 : decode cL_law 44 = .ok (.ifCond .eq 11, 3) := by decide +kernel
theorem dL_law_47 : decode cL_law 47 = .ok (.aload_n 1, 1) := by decide +kernel
theorem dL_law_48 : decode cL_law 48 = .ok (.aload_n 3, 1) := by decide +kernel
theorem dL_law_49 : decode cL_law 49 = .ok (.invokestatic 158, 3) := by decide +kernel
theorem dL_law_52 : decode cL_law 52 = .ok (.ifCond .ne 5, 3) := by decide +kernel
theorem dL_law_55 : decode cL_law 55 = .ok (.iconst 0, 1) := by decide +kernel
theorem dL_law_56 : decode cL_law 56 = .ok (.ireturn, 1) := by decide +kernel
theorem dL_law_57 : decode cL_law 57 = .ok (.aload_n 1, 1) := by decide +kernel
theorem dL_law_58 : decode cL_law 58 = .ok (.sipush 800, 3) := by decide +kernel
theorem dL_law_61 : decode cL_law 61 = .ok (.invokevirtual 162, 3) := by decide +kernel
theorem dL_law_64 : decode cL_law 64 = .ok (.pop, 1) := by decide +kernel
theorem dL_law_65 : decode cL_law 65 = .ok (.iconst 0, 1) := by decide +kernel
theorem dL_law_66 : decode cL_law 66 = .ok (.istore 6, 2) := by decide +kernel
theorem dL_law_68 : decode cL_law 68 = .ok (.iload 6, 2) := by decide +kernel
theorem dL_law_70 : decode cL_law 70 = .ok (.iload_n 2, 1) := by decide +kernel
theorem dL_law_71 : decode cL_law 71 = .ok (.if_icmp .gt 403, 3) := by decide +kernel
theorem dL_law_74 : decode cL_law 74 = .ok (.aload_n 1, 1) := by decide +kernel
theorem dL_law_75 : decode cL_law 75 = .ok (.iload 6, 2) := by decide +kernel
theorem dL_law_77 : decode cL_law 77 = .ok (.invokevirtual 165, 3) := by decide +kernel
theorem dL_law_80 : decode cL_law 80 = .ok (.istore 7, 2) := by decide +kernel
theorem dL_law_82 : decode cL_law 82 = .ok (.aload_n 1, 1) := by decide +kernel
theorem dL_law_83 : decode cL_law 83 = .ok (.iload 6, 2) := by decide +kernel
theorem dL_law_85 : decode cL_law 85 = .ok (.invokevirtual 168, 3) := by decide +kernel
theorem dL_law_88 : decode cL_law 88 = .ok (.istore 8, 2) := by decide +kernel
theorem dL_law_90 : decode cL_law 90 = .ok (.aload_n 1, 1) := by decide +kernel
theorem dL_law_91 : decode cL_law 91 = .ok (.iload 6, 2) := by decide +kernel
theorem dL_law_93 : decode cL_law 93 = .ok (.iconst 0, 1) := by decide +kernel
theorem dL_law_94 : decode cL_law 94 = .ok (.invokevirtual 171, 3) := by decide +kernel
theorem dL_law_97 : decode cL_law 97 = .ok (.istore 9, 2) := by decide +kernel
theorem dL_law_99 : decode cL_law 99 = .ok (.aload_n 1, 1) := by decide +kernel
theorem dL_law_100 : decode cL_law 100 = .ok (.iload 6, 2) := by decide +kernel
theorem dL_law_102 : decode cL_law 102 = .ok (.iconst 1, 1) := by decide +kernel
theorem dL_law_103 : decode cL_law 103 = .ok (.invokevirtual 171, 3) := by decide +kernel
theorem dL_law_106 : decode cL_law 106 = .ok (.istore 10, 2) := by decide +kernel
theorem dL_law_108 : decode cL_law 108 = .ok (.bipush 40, 2) := by decide +kernel
theorem dL_law_110 : decode cL_law 110 = .ok (.newarray .int, 2) := by decide +kernel
theorem dL_law_112 : decode cL_law 112 = .ok (.astore 11, 2) := by decide +kernel
theorem dL_law_114 : decode cL_law 114 = .ok (.iload 7, 2) := by decide +kernel
theorem dL_law_116 : decode cL_law 116 = .ok (.ifCond .lt 127, 3) := by decide +kernel
theorem dL_law_119 : decode cL_law 119 = .ok (.iconst 0, 1) := by decide +kernel
theorem dL_law_120 : decode cL_law 120 = .ok (.istore 12, 2) := by decide +kernel
theorem dL_law_122 : decode cL_law 122 = .ok (.iload 12, 2) := by decide +kernel
theorem dL_law_124 : decode cL_law 124 = .ok (.iload 7, 2) := by decide +kernel
theorem dL_law_126 : decode cL_law 126 = .ok (.if_icmp .ge 65, 3) := by decide +kernel
theorem dL_law_129 : decode cL_law 129 = .ok (.aload 11, 2) := by decide +kernel
theorem dL_law_131 : decode cL_law 131 = .ok (.iload 6, 2) := by decide +kernel
theorem dL_law_133 : decode cL_law 133 = .ok (.iload 12, 2) := by decide +kernel
theorem dL_law_135 : decode cL_law 135 = .ok (.iadd, 1) := by decide +kernel
theorem dL_law_136 : decode cL_law 136 = .ok (.aload_n 1, 1) := by decide +kernel
theorem dL_law_137 : decode cL_law 137 = .ok (.iload 6, 2) := by decide +kernel
theorem dL_law_139 : decode cL_law 139 = .ok (.iload 12, 2) := by decide +kernel
theorem dL_law_141 : decode cL_law 141 = .ok (.invokevirtual 174, 3) := by decide +kernel
theorem dL_law_144 : decode cL_law 144 = .ok (.iastore, 1) := by decide +kernel
theorem dL_law_145 : decode cL_law 145 = .ok (.aload 11, 2) := by decide +kernel
theorem dL_law_147 : decode cL_law 147 = .ok (.iload 6, 2) := by decide +kernel
theorem dL_law_149 : decode cL_law 149 = .ok (.iload 12, 2) := by decide +kernel
theorem dL_law_151 : decode cL_law 151 = .ok (.iadd, 1) := by decide +kernel
theorem dL_law_152 : decode cL_law 152 = .ok (.iaload, 1) := by decide +kernel
theorem dL_law_153 : decode cL_law 153 = .ok (.ifCond .lt 30, 3) := by decide +kernel
theorem dL_law_156 : decode cL_law 156 = .ok (.aload 4, 2) := by decide +kernel
theorem dL_law_158 : decode cL_law 158 = .ok (.aload 11, 2) := by decide +kernel
theorem dL_law_160 : decode cL_law 160 = .ok (.iload 6, 2) := by decide +kernel
theorem dL_law_162 : decode cL_law 162 = .ok (.iload 12, 2) := by decide +kernel
theorem dL_law_164 : decode cL_law 164 = .ok (.iadd, 1) := by decide +kernel
theorem dL_law_165 : decode cL_law 165 = .ok (.iaload, 1) := by decide +kernel
theorem dL_law_166 : decode cL_law 166 = .ok (.iaload, 1) := by decide +kernel
theorem dL_law_167 : decode cL_law 167 = .ok (.aload_n 3, 1) := by decide +kernel
theorem dL_law_168 : decode cL_law 168 = .ok (.aload 11, 2) := by decide +kernel
theorem dL_law_170 : decode cL_law 170 = .ok (.iload 6, 2) := by decide +kernel
theorem dL_law_172 : decode cL_law 172 = .ok (.iload 6, 2) := by decide +kernel
theorem dL_law_174 : decode cL_law 174 = .ok (.iload 12, 2) := by decide +kernel
theorem dL_law_176 : decode cL_law 176 = .ok (.iadd, 1) := by decide +kernel
theorem dL_law_177 : decode cL_law 177 = .ok (.invokestatic 177, 3) := by decide +kernel
theorem dL_law_180 : decode cL_law 180 = .ok (.ifCond .ne 5, 3) := by decide +kernel
theorem dL_law_183 : decode cL_law 183 = .ok (.iconst 0, 1) := by decide +kernel
theorem dL_law_184 : decode cL_law 184 = .ok (.ireturn, 1) := by decide +kernel
theorem dL_law_185 : decode cL_law 185 = .ok (.iinc 12 1, 3) := by decide +kernel
theorem dL_law_188 : decode cL_law 188 = .ok (.goto (-66), 3) := by decide +kernel
theorem dL_law_191 : decode cL_law 191 = .ok (.aload_n 1, 1) := by decide +kernel
theorem dL_law_192 : decode cL_law 192 = .ok (.iload 6, 2) := by decide +kernel
theorem dL_law_194 : decode cL_law 194 = .ok (.iload 7, 2) := by decide +kernel
theorem dL_law_196 : decode cL_law 196 = .ok (.invokevirtual 174, 3) := by decide +kernel
theorem dL_law_199 : decode cL_law 199 = .ok (.bipush (-5), 2) := by decide +kernel
theorem dL_law_201 : decode cL_law 201 = .ok (.if_icmp .ne 40, 3) := by decide +kernel
theorem dL_law_204 : decode cL_law 204 = .ok (.aload_n 1, 1) := by decide +kernel
theorem dL_law_205 : decode cL_law 205 = .ok (.iload 6, 2) := by decide +kernel
theorem dL_law_207 : decode cL_law 207 = .ok (.iload 6, 2) := by decide +kernel
theorem dL_law_209 : decode cL_law 209 = .ok (.iload 7, 2) := by decide +kernel
theorem dL_law_211 : decode cL_law 211 = .ok (.iadd, 1) := by decide +kernel
theorem dL_law_212 : decode cL_law 212 = .ok (.invokevirtual 181, 3) := by decide +kernel
theorem dL_law_215 : decode cL_law 215 = .ok (.iconst 1, 1) := by decide +kernel
theorem dL_law_216 : decode cL_law 216 = .ok (.if_icmp .ne 25, 3) := by decide +kernel
