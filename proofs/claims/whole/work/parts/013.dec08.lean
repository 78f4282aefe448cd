/-! decode rows, 8 -/
theorem dX11_run_89 : decode cX11_run 89 = .ok (.iconst 1, 1) := by decide +kernel
theorem dX11_run_90 : decode cX11_run 90 = .ok (.iadd, 1) := by decide +kernel
theorem dX11_run_91 : decode cX11_run 91 = .ok (.iload 4, 2) := by decide +kernel
theorem dX11_run_93 : decode cX11_run 93 = .ok (.iastore, 1) := by decide +kernel
theorem dX11_run_94 : decode cX11_run 94 = .ok (.iconst 0, 1) := by decide +kernel
theorem dX11_run_95 : decode cX11_run 95 = .ok (.istore 5, 2) := by decide +kernel
theorem dX11_run_97 : decode cX11_run 97 = .ok (.iload 5, 2) := by decide +kernel
theorem dX11_run_99 : decode cX11_run 99 = .ok (.iload 4, 2) := by decide +kernel
theorem dX11_run_101 : decode cX11_run 101 = .ok (.if_icmp .ge 32, 3) := by decide +kernel
theorem dX11_run_104 : decode cX11_run 104 = .ok (.aload_n 0, 1) := by decide +kernel
theorem dX11_run_105 : decode cX11_run 105 = .ok (.getfield 84, 3) := by decide +kernel
theorem dX11_run_108 : decode cX11_run 108 = .ok (.bipush 34, 2) := by decide +kernel
theorem dX11_run_110 : decode cX11_run 110 = .ok (.iload_n 1, 1) := by decide +kernel
theorem dX11_run_111 : decode cX11_run 111 = .ok (.imul, 1) := by decide +kernel
theorem dX11_run_112 : decode cX11_run 112 = .ok (.iconst 2, 1) := by decide +kernel
theorem dX11_run_113 : decode cX11_run 113 = .ok (.iadd, 1) := by decide +kernel
theorem dX11_run_114 : decode cX11_run 114 = .ok (.iload 5, 2) := by decide +kernel
theorem dX11_run_116 : decode cX11_run 116 = .ok (.iadd, 1) := by decide +kernel
theorem dX11_run_117 : decode cX11_run 117 = .ok (.aload_n 0, 1) := by decide +kernel
theorem dX11_run_118 : decode cX11_run 118 = .ok (.getfield 54, 3) := by decide +kernel
theorem dX11_run_121 : decode cX11_run 121 = .ok (.iload_n 2, 1) := by decide +kernel
theorem dX11_run_122 : decode cX11_run 122 = .ok (.iload 5, 2) := by decide +kernel
theorem dX11_run_124 : decode cX11_run 124 = .ok (.iadd, 1) := by decide +kernel
theorem dX11_run_125 : decode cX11_run 125 = .ok (.iaload, 1) := by decide +kernel
theorem dX11_run_126 : decode cX11_run 126 = .ok (.iastore, 1) := by decide +kernel
theorem dX11_run_127 : decode cX11_run 127 = .ok (.iinc 5 1, 3) := by decide +kernel
theorem dX11_run_130 : decode cX11_run 130 = .ok (.goto (-33), 3) := by decide +kernel
theorem dX11_run_133 : decode cX11_run 133 = .ok (.iinc 1 1, 3) := by decide +kernel
theorem dX11_run_136 : decode cX11_run 136 = .ok (.aload_n 0, 1) := by decide +kernel
theorem dX11_run_137 : decode cX11_run 137 = .ok (.iload_n 2, 1) := by decide +kernel
theorem dX11_run_138 : decode cX11_run 138 = .ok (.iload 4, 2) := by decide +kernel
theorem dX11_run_140 : decode cX11_run 140 = .ok (.invokevirtual 365, 3) := by decide +kernel
theorem dX11_run_143 : decode cX11_run 143 = .ok (.istore_n 2, 1) := by decide +kernel
theorem dX11_run_144 : decode cX11_run 144 = .ok (.goto 6, 3) := by decide +kernel
theorem dX11_run_147 : decode cX11_run 147 = .ok (.iinc 2 1, 3) := by decide +kernel
theorem dX11_run_150 : decode cX11_run 150 = .ok (.goto (-133), 3) := by decide +kernel
theorem dX11_run_153 : decode cX11_run 153 = .ok (.aload_n 0, 1) := by decide +kernel
theorem dX11_run_154 : decode cX11_run 154 = .ok (.getfield 9, 3) := by decide +kernel
theorem dX11_run_157 : decode cX11_run 157 = .ok (.sipush 3336, 3) := by decide +kernel
theorem dX11_run_160 : decode cX11_run 160 = .ok (.iload_n 1, 1) := by decide +kernel
theorem dX11_run_161 : decode cX11_run 161 = .ok (.iastore, 1) := by decide +kernel
theorem dX11_run_162 : decode cX11_run 162 = .ok (.iconst 0, 1) := by decide +kernel
theorem dX11_run_163 : decode cX11_run 163 = .ok (.istore_n 3, 1) := by decide +kernel
theorem dX11_run_164 : decode cX11_run 164 = .ok (.iload_n 3, 1) := by decide +kernel
theorem dX11_run_165 : decode cX11_run 165 = .ok (.bipush 34, 2) := by decide +kernel
theorem dX11_run_167 : decode cX11_run 167 = .ok (.iload_n 1, 1) := by decide +kernel
theorem dX11_run_168 : decode cX11_run 168 = .ok (.imul, 1) := by decide +kernel
theorem dX11_run_169 : decode cX11_run 169 = .ok (.if_icmp .ge 25, 3) := by decide +kernel
theorem dX11_run_172 : decode cX11_run 172 = .ok (.aload_n 0, 1) := by decide +kernel
theorem dX11_run_173 : decode cX11_run 173 = .ok (.getfield 9, 3) := by decide +kernel
theorem dX11_run_176 : decode cX11_run 176 = .ok (.sipush 3337, 3) := by decide +kernel
theorem dX11_run_179 : decode cX11_run 179 = .ok (.iload_n 3, 1) := by decide +kernel
theorem dX11_run_180 : decode cX11_run 180 = .ok (.iadd, 1) := by decide +kernel
theorem dX11_run_181 : decode cX11_run 181 = .ok (.aload_n 0, 1) := by decide +kernel
theorem dX11_run_182 : decode cX11_run 182 = .ok (.getfield 84, 3) := by decide +kernel
theorem dX11_run_185 : decode cX11_run 185 = .ok (.iload_n 3, 1) := by decide +kernel
theorem dX11_run_186 : decode cX11_run 186 = .ok (.iaload, 1) := by decide +kernel
theorem dX11_run_187 : decode cX11_run 187 = .ok (.iastore, 1) := by decide +kernel
theorem dX11_run_188 : decode cX11_run 188 = .ok (.iinc 3 1, 3) := by decide +kernel
theorem dX11_run_191 : decode cX11_run 191 = .ok (.goto (-27), 3) := by decide +kernel
theorem dX11_run_194 : decode cX11_run 194 = .ok (.iload_n 1, 1) := by decide +kernel
theorem dX11_run_195 : decode cX11_run 195 = .ok (.ireturn, 1) := by decide +kernel
theorem dX11_isMatch_0 : decode cX11_isMatch 0 = .ok (.iload_n 1, 1) := by decide +kernel
theorem dX11_isMatch_1 : decode cX11_isMatch 1 = .ok (.i2l, 1) := by decide +kernel
theorem dX11_isMatch_2 : decode cX11_isMatch 2 = .ok (.lconst 0, 1) := by decide +kernel
theorem dX11_isMatch_3 : decode cX11_isMatch 3 = .ok (.aload_n 0, 1) := by decide +kernel
theorem dX11_isMatch_4 : decode cX11_isMatch 4 = .ok (.getfield 9, 3) := by decide +kernel
theorem dX11_isMatch_7 : decode cX11_isMatch 7 = .ok (.sipush 3336, 3) := by decide +kernel
theorem dX11_isMatch_10 : decode cX11_isMatch 10 = .ok (.iaload, 1) := by decide +kernel
theorem dX11_isMatch_11 : decode cX11_isMatch 11 = .ok (.iconst 1, 1) := by decide +kernel
theorem dX11_isMatch_12 : decode cX11_isMatch 12 = .ok (.isub, 1) := by decide +kernel
theorem dX11_isMatch_13 : decode cX11_isMatch 13 = .ok (.i2l, 1) := by decide +kernel
theorem dX11_isMatch_14 : decode cX11_isMatch 14 = .ok (.invokestatic 101, 3) := by decide +kernel
theorem dX11_isMatch_17 : decode cX11_isMatch 17 = .ok (.ireturn, 1) := by decide +kernel
theorem dX11_matched_0 : decode cX11_matched 0 = .ok (.aload_n 0, 1) := by decide +kernel
theorem dX11_matched_1 : decode cX11_matched 1 = .ok (.getfield 9, 3) := by decide +kernel
theorem dX11_matched_4 : decode cX11_matched 4 = .ok (.sipush 3337, 3) := by decide +kernel
theorem dX11_matched_7 : decode cX11_matched 7 = .ok (.bipush 34, 2) := by decide +kernel
theorem dX11_matched_9 : decode cX11_matched 9 = .ok (.iload_n 1, 1) := by decide +kernel
theorem dX11_matched_10 : decode cX11_matched 10 = .ok (.imul, 1) := by decide +kernel
theorem dX11_matched_11 : decode cX11_matched 11 = .ok (.iadd, 1) := by decide +kernel
theorem dX11_matched_12 : decode cX11_matched 12 = .ok (.iload_n 2, 1) := by decide +kernel
theorem dX11_matched_13 : decode cX11_matched 13 = .ok (.iadd, 1) := by decide +kernel
theorem dX11_matched_14 : decode cX11_matched 14 = .ok (.iaload, 1) := by decide +kernel
theorem dX11_matched_15 : decode cX11_matched 15 = .ok (.ireturn, 1) := by decide +kernel
theorem dX11_labelled_0 : decode cX11_labelled 0 = .ok (.iload_n 2, 1) := by decide +kernel
theorem dX11_labelled_1 : decode cX11_labelled 1 = .ok (.aload_n 0, 1) := by decide +kernel
theorem dX11_labelled_2 : decode cX11_labelled 2 = .ok (.iload_n 1, 1) := by decide +kernel
theorem dX11_labelled_3 : decode cX11_labelled 3 = .ok (.iconst 0, 1) := by decide +kernel
theorem dX11_labelled_4 : decode cX11_labelled 4 = .ok (.invokevirtual 368, 3) := by decide +kernel
theorem dX11_labelled_7 : decode cX11_labelled 7 = .ok (.isub, 1) := by decide +kernel
theorem dX11_labelled_8 : decode cX11_labelled 8 = .ok (.istore_n 3, 1) := by decide +kernel
theorem dX11_labelled_9 : decode cX11_labelled 9 = .ok (.iload_n 3, 1) := by decide +kernel
theorem dX11_labelled_10 : decode cX11_labelled 10 = .ok (.i2l, 1) := by decide +kernel
theorem dX11_labelled_11 : decode cX11_labelled 11 = .ok (.lconst 0, 1) := by decide +kernel
theorem dX11_labelled_12 : decode cX11_labelled 12 = .ok (.aload_n 0, 1) := by decide +kernel
theorem dX11_labelled_13 : decode cX11_labelled 13 = .ok (.iload_n 1, 1) := by decide +kernel
theorem dX11_labelled_14 : decode cX11_labelled 14 = .ok (.iconst 1, 1) := by decide +kernel
theorem dX11_labelled_15 : decode cX11_labelled 15 = .ok (.invokevirtual 368, 3) := by decide +kernel
theorem dX11_labelled_18 : decode cX11_labelled 18 = .ok (.iconst 1, 1) := by decide +kernel
theorem dX11_labelled_19 : decode cX11_labelled 19 = .ok (.isub, 1) := by decide +kernel
theorem dX11_labelled_20 : decode cX11_labelled 20 = .ok (.i2l, 1) := by decide +kernel
theorem dX11_labelled_21 : decode cX11_labelled 21 = .ok (.invokestatic 101, 3) := by decide +kernel
theorem dX11_labelled_24 : decode cX11_labelled 24 = .ok (.ifCond .eq 14, 3) := by decide +kernel
theorem dX11_labelled_27 : decode cX11_labelled 27 = .ok (.aload_n 0, 1) := by decide +kernel
theorem dX11_labelled_28 : decode cX11_labelled 28 = .ok (.iload_n 1, 1) := by decide +kernel
theorem dX11_labelled_29 : decode cX11_labelled 29 = .ok (.iconst 2, 1) := by decide +kernel
theorem dX11_labelled_30 : decode cX11_labelled 30 = .ok (.iload_n 3, 1) := by decide +kernel
theorem dX11_labelled_31 : decode cX11_labelled 31 = .ok (.iadd, 1) := by decide +kernel
theorem dX11_labelled_32 : decode cX11_labelled 32 = .ok (.invokevirtual 368, 3) := by decide +kernel
theorem dX11_labelled_35 : decode cX11_labelled 35 = .ok (.goto 5, 3) := by decide +kernel
theorem dX11_labelled_38 : decode cX11_labelled 38 = .ok (.bipush (-5), 2) := by decide +kernel
theorem dX11_labelled_40 : decode cX11_labelled 40 = .ok (.ireturn, 1) := by decide +kernel
theorem dX11_match_0 : decode cX11_match 0 = .ok (.aload_n 0, 1) := by decide +kernel
theorem dX11_match_1 : decode cX11_match 1 = .ok (.iload_n 1, 1) := by decide +kernel
theorem dX11_match_2 : decode cX11_match 2 = .ok (.invokevirtual 371, 3) := by decide +kernel
theorem dX11_match_5 : decode cX11_match 5 = .ok (.ifCond .eq 15, 3) := by decide +kernel
theorem dX11_match_8 : decode cX11_match 8 = .ok (.iload_n 2, 1) := by decide +kernel
theorem dX11_match_9 : decode cX11_match 9 = .ok (.i2l, 1) := by decide +kernel
theorem dX11_match_10 : decode cX11_match 10 = .ok (.lconst 0, 1) := by decide +kernel
theorem dX11_match_11 : decode cX11_match 11 = .ok (.ldc2_w 361, 3) := by decide +kernel
theorem dX11_match_14 : decode cX11_match 14 = .ok (.invokestatic 101, 3) := by decide +kernel
theorem dX11_match_17 : decode cX11_match 17 = .ok (.ifCond .ne 5, 3) := by decide +kernel
theorem dX11_match_20 : decode cX11_match 20 = .ok (.iconst (-1), 1) := by decide +kernel
theorem dX11_match_21 : decode cX11_match 21 = .ok (.ireturn, 1) := by decide +kernel
theorem dX11_match_22 : decode cX11_match 22 = .ok (.iconst 0, 1) := by decide +kernel
theorem dX11_match_23 : decode cX11_match 23 = .ok (.istore_n 3, 1) := by decide +kernel
theorem dX11_match_24 : decode cX11_match 24 = .ok (.iconst 0, 1) := by decide +kernel
theorem dX11_match_25 : decode cX11_match 25 = .ok (.istore 4, 2) := by decide +kernel
theorem dX11_match_27 : decode cX11_match 27 = .ok (.iconst 0, 1) := by decide +kernel
theorem dX11_match_28 : decode cX11_match 28 = .ok (.istore 5, 2) := by decide +kernel
theorem dX11_match_30 : decode cX11_match 30 = .ok (.iload 5, 2) := by decide +kernel
theorem dX11_match_32 : decode cX11_match 32 = .ok (.aload_n 0, 1) := by decide +kernel
theorem dX11_match_33 : decode cX11_match 33 = .ok (.iload_n 1, 1) := by decide +kernel
theorem dX11_match_34 : decode cX11_match 34 = .ok (.iconst 1, 1) := by decide +kernel
theorem dX11_match_35 : decode cX11_match 35 = .ok (.invokevirtual 368, 3) := by decide +kernel
theorem dX11_match_38 : decode cX11_match 38 = .ok (.if_icmp .ge 44, 3) := by decide +kernel
theorem dX11_match_41 : decode cX11_match 41 = .ok (.iconst 1, 1) := by decide +kernel
theorem dX11_match_42 : decode cX11_match 42 = .ok (.aload_n 0, 1) := by decide +kernel
theorem dX11_match_43 : decode cX11_match 43 = .ok (.iload_n 1, 1) := by decide +kernel
theorem dX11_match_44 : decode cX11_match 44 = .ok (.iconst 2, 1) := by decide +kernel
theorem dX11_match_45 : decode cX11_match 45 = .ok (.iload 5, 2) := by decide +kernel
theorem dX11_match_47 : decode cX11_match 47 = .ok (.iadd, 1) := by decide +kernel
theorem dX11_match_48 : decode cX11_match 48 = .ok (.invokevirtual 368, 3) := by decide +kernel
theorem dX11_match_51 : decode cX11_match 51 = .ok (.ishl, 1) := by decide +kernel
theorem dX11_match_52 : decode cX11_match 52 = .ok (.istore 6, 2) := by decide +kernel
theorem dX11_match_54 : decode cX11_match 54 = .ok (.iload 4, 2) := by decide +kernel
theorem dX11_match_56 : decode cX11_match 56 = .ok (.iload_n 3, 1) := by decide +kernel
theorem dX11_match_57 : decode cX11_match 57 = .ok (.iload 6, 2) := by decide +kernel
theorem dX11_match_59 : decode cX11_match 59 = .ok (.iand, 1) := by decide +kernel
theorem dX11_match_60 : decode cX11_match 60 = .ok (.ifCond .ne 7, 3) := by decide +kernel
theorem dX11_match_63 : decode cX11_match 63 = .ok (.iconst 1, 1) := by decide +kernel
theorem dX11_match_64 : decode cX11_match 64 = .ok (.goto 4, 3) := by decide +kernel
theorem dX11_match_67 : decode cX11_match 67 = .ok (.iconst 0, 1) := by decide +kernel
theorem dX11_match_68 : decode cX11_match 68 = .ok (.iadd, 1) := by decide +kernel
theorem dX11_match_69 : decode cX11_match 69 = .ok (.istore 4, 2) := by decide +kernel
theorem dX11_match_71 : decode cX11_match 71 = .ok (.iload_n 3, 1) := by decide +kernel
theorem dX11_match_72 : decode cX11_match 72 = .ok (.iload 6, 2) := by decide +kernel
theorem dX11_match_74 : decode cX11_match 74 = .ok (.ior, 1) := by decide +kernel
theorem dX11_match_75 : decode cX11_match 75 = .ok (.istore_n 3, 1) := by decide +kernel
theorem dX11_match_76 : decode cX11_match 76 = .ok (.iinc 5 1, 3) := by decide +kernel
theorem dX11_match_79 : decode cX11_match 79 = .ok (.goto (-49), 3) := by decide +kernel
theorem dX11_match_82 : decode cX11_match 82 = .ok (.iload_n 2, 1) := by decide +kernel
theorem dX11_match_83 : decode cX11_match 83 = .ok (.iconst 2, 1) := by decide +kernel
theorem dX11_match_84 : decode cX11_match 84 = .ok (.if_icmp .ge 12, 3) := by decide +kernel
theorem dX11_match_87 : decode cX11_match 87 = .ok (.aload_n 0, 1) := by decide +kernel
theorem dX11_match_88 : decode cX11_match 88 = .ok (.iload_n 1, 1) := by decide +kernel
theorem dX11_match_89 : decode cX11_match 89 = .ok (.iload_n 2, 1) := by decide +kernel
theorem dX11_match_90 : decode cX11_match 90 = .ok (.invokevirtual 368, 3) := by decide +kernel
theorem dX11_match_93 : decode cX11_match 93 = .ok (.goto 14, 3) := by decide +kernel
theorem dX11_match_96 : decode cX11_match 96 = .ok (.iload_n 2, 1) := by decide +kernel
theorem dX11_match_97 : decode cX11_match 97 = .ok (.iconst 2, 1) := by decide +kernel
theorem dX11_match_98 : decode cX11_match 98 = .ok (.if_icmp .ne 8, 3) := by decide +kernel
theorem dX11_match_101 : decode cX11_match 101 = .ok (.iload 4, 2) := by decide +kernel
theorem dX11_match_103 : decode cX11_match 103 = .ok (.goto 4, 3) := by decide +kernel
theorem dX11_match_106 : decode cX11_match 106 = .ok (.iload_n 3, 1) := by decide +kernel
theorem dX11_match_107 : decode cX11_match 107 = .ok (.ireturn, 1) := by decide +kernel
theorem dX11_label_0 : decode cX11_label 0 = .ok (.aload_n 0, 1) := by decide +kernel
theorem dX11_label_1 : decode cX11_label 1 = .ok (.iload_n 1, 1) := by decide +kernel
theorem dX11_label_2 : decode cX11_label 2 = .ok (.invokevirtual 371, 3) := by decide +kernel
theorem dX11_label_5 : decode cX11_label 5 = .ok (.ifCond .eq 20, 3) := by decide +kernel
theorem dX11_label_8 : decode cX11_label 8 = .ok (.aload_n 0, 1) := by decide +kernel
theorem dX11_label_9 : decode cX11_label 9 = .ok (.iload_n 2, 1) := by decide +kernel
theorem dX11_label_10 : decode cX11_label 10 = .ok (.invokevirtual 113, 3) := by decide +kernel
theorem dX11_label_13 : decode cX11_label 13 = .ok (.ifCond .eq 12, 3) := by decide +kernel
theorem dX11_label_16 : decode cX11_label 16 = .ok (.aload_n 0, 1) := by decide +kernel
theorem dX11_label_17 : decode cX11_label 17 = .ok (.iload_n 1, 1) := by decide +kernel
theorem dX11_label_18 : decode cX11_label 18 = .ok (.iload_n 2, 1) := by decide +kernel
theorem dX11_label_19 : decode cX11_label 19 = .ok (.invokevirtual 374, 3) := by decide +kernel
theorem dX11_label_22 : decode cX11_label 22 = .ok (.goto 4, 3) := by decide +kernel
theorem dX11_label_25 : decode cX11_label 25 = .ok (.iconst (-1), 1) := by decide +kernel
theorem dX11_label_26 : decode cX11_label 26 = .ok (.ireturn, 1) := by decide +kernel
theorem dX11_isMeasure_0 : decode cX11_isMeasure 0 = .ok (.iload_n 0, 1) := by decide +kernel
theorem dX11_isMeasure_1 : decode cX11_isMeasure 1 = .ok (.i2l, 1) := by decide +kernel
theorem dX11_isMeasure_2 : decode cX11_isMeasure 2 = .ok (.lconst 0, 1) := by decide +kernel
theorem dX11_isMeasure_3 : decode cX11_isMeasure 3 = .ok (.ldc2_w 377, 3) := by decide +kernel
theorem dX11_isMeasure_6 : decode cX11_isMeasure 6 = .ok (.invokestatic 101, 3) := by decide +kernel
theorem dX11_isMeasure_9 : decode cX11_isMeasure 9 = .ok (.ifCond .eq 29, 3) := by decide +kernel
theorem dX11_isMeasure_12 : decode cX11_isMeasure 12 = .ok (.iload_n 1, 1) := by decide +kernel
theorem dX11_isMeasure_13 : decode cX11_isMeasure 13 = .ok (.i2l, 1) := by decide +kernel
theorem dX11_isMeasure_14 : decode cX11_isMeasure 14 = .ok (.lconst 0, 1) := by decide +kernel
theorem dX11_isMeasure_15 : decode cX11_isMeasure 15 = .ok (.lconst 1, 1) := by decide +kernel
theorem dX11_isMeasure_16 : decode cX11_isMeasure 16 = .ok (.invokestatic 101, 3) := by decide +kernel
theorem dX11_isMeasure_19 : decode cX11_isMeasure 19 = .ok (.ifCond .eq 19, 3) := by decide +kernel
theorem dX11_isMeasure_22 : decode cX11_isMeasure 22 = .ok (.iload_n 2, 1) := by decide +kernel
theorem dX11_isMeasure_23 : decode cX11_isMeasure 23 = .ok (.i2l, 1) := by decide +kernel
theorem dX11_isMeasure_24 : decode cX11_isMeasure 24 = .ok (.lconst 0, 1) := by decide +kernel
theorem dX11_isMeasure_25 : decode cX11_isMeasure 25 = .ok (.ldc2_w 198, 3) := by decide +kernel
theorem dX11_isMeasure_28 : decode cX11_isMeasure 28 = .ok (.invokestatic 101, 3) := by decide +kernel
theorem dX11_isMeasure_31 : decode cX11_isMeasure 31 = .ok (.ifCond .eq 7, 3) := by decide +kernel
theorem dX11_isMeasure_34 : decode cX11_isMeasure 34 = .ok (.iconst 1, 1) := by decide +kernel
theorem dX11_isMeasure_35 : decode cX11_isMeasure 35 = .ok (.goto 4, 3) := by decide +kernel
theorem dX11_isMeasure_38 : decode cX11_isMeasure 38 = .ok (.iconst 0, 1) := by decide +kernel
theorem dX11_isMeasure_39 : decode cX11_isMeasure 39 = .ok (.ireturn, 1) := by decide +kernel
theorem dX11_measure_0 : decode cX11_measure 0 = .ok (.aload_n 0, 1) := by decide +kernel
theorem dX11_measure_1 : decode cX11_measure 1 = .ok (.iload_n 1, 1) := by decide +kernel
theorem dX11_measure_2 : decode cX11_measure 2 = .ok (.invokevirtual 371, 3) := by decide +kernel
theorem dX11_measure_5 : decode cX11_measure 5 = .ok (.ifCond .eq 13, 3) := by decide +kernel
theorem dX11_measure_8 : decode cX11_measure 8 = .ok (.iload_n 2, 1) := by decide +kernel
theorem dX11_measure_9 : decode cX11_measure 9 = .ok (.iload_n 3, 1) := by decide +kernel
theorem dX11_measure_10 : decode cX11_measure 10 = .ok (.iload 4, 2) := by decide +kernel
theorem dX11_measure_12 : decode cX11_measure 12 = .ok (.invokestatic 379, 3) := by decide +kernel
theorem dX11_measure_15 : decode cX11_measure 15 = .ok (.ifCond .ne 7, 3) := by decide +kernel
theorem dX11_measure_18 : decode cX11_measure 18 = .ok (.ldc2_w 382, 3) := by decide +kernel
theorem dX11_measure_21 : decode cX11_measure 21 = .ok (.lreturn, 1) := by decide +kernel
theorem dX11_measure_22 : decode cX11_measure 22 = .ok (.iconst 0, 1) := by decide +kernel
theorem dX11_measure_23 : decode cX11_measure 23 = .ok (.istore 5, 2) := by decide +kernel
theorem dX11_measure_25 : decode cX11_measure 25 = .ok (.iconst 0, 1) := by decide +kernel
theorem dX11_measure_26 : decode cX11_measure 26 = .ok (.istore 6, 2) := by decide +kernel
theorem dX11_measure_28 : decode cX11_measure 28 = .ok (.lconst 0, 1) := by decide +kernel
theorem dX11_measure_29 : decode cX11_measure 29 = .ok (.lstore 7, 2) := by decide +kernel
theorem dX11_measure_31 : decode cX11_measure 31 = .ok (.lconst 0, 1) := by decide +kernel
theorem dX11_measure_32 : decode cX11_measure 32 = .ok (.lstore 9, 2) := by decide +kernel
theorem dX11_measure_34 : decode cX11_measure 34 = .ok (.lconst 0, 1) := by decide +kernel
theorem dX11_measure_35 : decode cX11_measure 35 = .ok (.lstore 11, 2) := by decide +kernel
theorem dX11_measure_37 : decode cX11_measure 37 = .ok (.lconst 0, 1) := by decide +kernel
theorem dX11_measure_38 : decode cX11_measure 38 = .ok (.lstore 13, 2) := by decide +kernel
theorem dX11_measure_40 : decode cX11_measure 40 = .ok (.lconst 0, 1) := by decide +kernel
theorem dX11_measure_41 : decode cX11_measure 41 = .ok (.lstore 15, 2) := by decide +kernel
theorem dX11_measure_43 : decode cX11_measure 43 = .ok (.iconst 0, 1) := by decide +kernel
theorem dX11_measure_44 : decode cX11_measure 44 = .ok (.istore 17, 2) := by decide +kernel
theorem dX11_measure_46 : decode cX11_measure 46 = .ok (.iload 17, 2) := by decide +kernel
theorem dX11_measure_48 : decode cX11_measure 48 = .ok (.aload_n 0, 1) := by decide +kernel
theorem dX11_measure_49 : decode cX11_measure 49 = .ok (.invokevirtual 97, 3) := by decide +kernel
theorem dX11_measure_52 : decode cX11_measure 52 = .ok (.if_icmp .ge 127, 3) := by decide +kernel
theorem dX11_measure_55 : decode cX11_measure 55 = .ok (.aload_n 0, 1) := by decide +kernel
theorem dX11_measure_56 : decode cX11_measure 56 = .ok (.iload_n 1, 1) := by decide +kernel
theorem dX11_measure_57 : decode cX11_measure 57 = .ok (.iload 17, 2) := by decide +kernel
theorem dX11_measure_59 : decode cX11_measure 59 = .ok (.invokevirtual 374, 3) := by decide +kernel
theorem dX11_measure_62 : decode cX11_measure 62 = .ok (.istore 18, 2) := by decide +kernel
theorem dX11_measure_64 : decode cX11_measure 64 = .ok (.aload_n 0, 1) := by decide +kernel
theorem dX11_measure_65 : decode cX11_measure 65 = .ok (.getfield 9, 3) := by decide +kernel
theorem dX11_measure_68 : decode cX11_measure 68 = .ok (.iconst 2, 1) := by decide +kernel
theorem dX11_measure_69 : decode cX11_measure 69 = .ok (.iload 17, 2) := by decide +kernel
theorem dX11_measure_71 : decode cX11_measure 71 = .ok (.imul, 1) := by decide +kernel
theorem dX11_measure_72 : decode cX11_measure 72 = .ok (.iload_n 3, 1) := by decide +kernel
theorem dX11_measure_73 : decode cX11_measure 73 = .ok (.iadd, 1) := by decide +kernel
theorem dX11_measure_74 : decode cX11_measure 74 = .ok (.iaload, 1) := by decide +kernel
theorem dX11_measure_75 : decode cX11_measure 75 = .ok (.i2l, 1) := by decide +kernel
theorem dX11_measure_76 : decode cX11_measure 76 = .ok (.lstore 19, 2) := by decide +kernel
theorem dX11_measure_78 : decode cX11_measure 78 = .ok (.iload 18, 2) := by decide +kernel
theorem dX11_measure_80 : decode cX11_measure 80 = .ok (.ifCond .lt 93, 3) := by decide +kernel
theorem dX11_measure_83 : decode cX11_measure 83 = .ok (.iload_n 2, 1) := by decide +kernel
theorem dX11_measure_84 : decode cX11_measure 84 = .ok (.bipush 26, 2) := by decide +kernel
theorem dX11_measure_86 : decode cX11_measure 86 = .ok (.if_icmp .eq 9, 3) := by decide +kernel
theorem dX11_measure_89 : decode cX11_measure 89 = .ok (.iload 18, 2) := by decide +kernel
theorem dX11_measure_91 : decode cX11_measure 91 = .ok (.iload_n 2, 1) := by decide +kernel
theorem dX11_measure_92 : decode cX11_measure 92 = .ok (.if_icmp .ne 81, 3) := by decide +kernel
theorem dX11_measure_95 : decode cX11_measure 95 = .ok (.iinc 5 1, 3) := by decide +kernel
theorem dX11_measure_98 : decode cX11_measure 98 = .ok (.lload 19, 2) := by decide +kernel
theorem dX11_measure_100 : decode cX11_measure 100 = .ok (.ldc2_w 384, 3) := by decide +kernel
theorem dX11_measure_103 : decode cX11_measure 103 = .ok (.lcmp, 1) := by decide +kernel
theorem dX11_measure_104 : decode cX11_measure 104 = .ok (.ifCond .eq 69, 3) := by decide +kernel
theorem dX11_measure_107 : decode cX11_measure 107 = .ok (.iload 6, 2) := by decide +kernel
theorem dX11_measure_109 : decode cX11_measure 109 = .ok (.ifCond .ne 8, 3) := by decide +kernel
theorem dX11_measure_112 : decode cX11_measure 112 = .ok (.lload 19, 2) := by decide +kernel
theorem dX11_measure_114 : decode cX11_measure 114 = .ok (.goto 10, 3) := by decide +kernel
theorem dX11_measure_117 : decode cX11_measure 117 = .ok (.lload 9, 2) := by decide +kernel
theorem dX11_measure_119 : decode cX11_measure 119 = .ok (.lload 19, 2) := by decide +kernel
theorem dX11_measure_121 : decode cX11_measure 121 = .ok (.invokestatic 386, 3) := by decide +kernel
theorem dX11_measure_124 : decode cX11_measure 124 = .ok (.lstore 9, 2) := by decide +kernel
theorem dX11_measure_126 : decode cX11_measure 126 = .ok (.iload 6, 2) := by decide +kernel
theorem dX11_measure_128 : decode cX11_measure 128 = .ok (.ifCond .ne 8, 3) := by decide +kernel
theorem dX11_measure_131 : decode cX11_measure 131 = .ok (.lload 19, 2) := by decide +kernel
theorem dX11_measure_133 : decode cX11_measure 133 = .ok (.goto 10, 3) := by decide +kernel
theorem dX11_measure_136 : decode cX11_measure 136 = .ok (.lload 11, 2) := by decide +kernel
theorem dX11_measure_138 : decode cX11_measure 138 = .ok (.lload 19, 2) := by decide +kernel
theorem dX11_measure_140 : decode cX11_measure 140 = .ok (.invokestatic 389, 3) := by decide +kernel
theorem dX11_measure_143 : decode cX11_measure 143 = .ok (.lstore 11, 2) := by decide +kernel
theorem dX11_measure_145 : decode cX11_measure 145 = .ok (.iload 6, 2) := by decide +kernel
theorem dX11_measure_147 : decode cX11_measure 147 = .ok (.ifCond .ne 8, 3) := by decide +kernel
theorem dX11_measure_150 : decode cX11_measure 150 = .ok (.lload 19, 2) := by decide +kernel
theorem dX11_measure_152 : decode cX11_measure 152 = .ok (.goto 5, 3) := by decide +kernel
theorem dX11_measure_155 : decode cX11_measure 155 = .ok (.lload 13, 2) := by decide +kernel
theorem dX11_measure_157 : decode cX11_measure 157 = .ok (.lstore 13, 2) := by decide +kernel
theorem dX11_measure_159 : decode cX11_measure 159 = .ok (.lload 19, 2) := by decide +kernel
theorem dX11_measure_161 : decode cX11_measure 161 = .ok (.lstore 15, 2) := by decide +kernel
theorem dX11_measure_163 : decode cX11_measure 163 = .ok (.lload 7, 2) := by decide +kernel
theorem dX11_measure_165 : decode cX11_measure 165 = .ok (.lload 19, 2) := by decide +kernel
theorem dX11_measure_167 : decode cX11_measure 167 = .ok (.ladd, 1) := by decide +kernel
theorem dX11_measure_168 : decode cX11_measure 168 = .ok (.lstore 7, 2) := by decide +kernel
theorem dX11_measure_170 : decode cX11_measure 170 = .ok (.iinc 6 1, 3) := by decide +kernel
theorem dX11_measure_173 : decode cX11_measure 173 = .ok (.iinc 17 1, 3) := by decide +kernel
theorem dX11_measure_176 : decode cX11_measure 176 = .ok (.goto (-130), 3) := by decide +kernel
theorem dX11_measure_179 : decode cX11_measure 179 = .ok (.iload 4, 2) := by decide +kernel
theorem dX11_measure_181 : decode cX11_measure 181 = .ok (.ifCond .ne 7, 3) := by decide +kernel
theorem dX11_measure_184 : decode cX11_measure 184 = .ok (.iload 5, 2) := by decide +kernel
theorem dX11_measure_186 : decode cX11_measure 186 = .ok (.i2l, 1) := by decide +kernel
theorem dX11_measure_187 : decode cX11_measure 187 = .ok (.lreturn, 1) := by decide +kernel
theorem dX11_measure_188 : decode cX11_measure 188 = .ok (.iload 4, 2) := by decide +kernel
theorem dX11_measure_190 : decode cX11_measure 190 = .ok (.iconst 1, 1) := by decide +kernel
theorem dX11_measure_191 : decode cX11_measure 191 = .ok (.if_icmp .ne 6, 3) := by decide +kernel
theorem dX11_measure_194 : decode cX11_measure 194 = .ok (.lload 7, 2) := by decide +kernel
theorem dX11_measure_196 : decode cX11_measure 196 = .ok (.lreturn, 1) := by decide +kernel
theorem dX11_measure_197 : decode cX11_measure 197 = .ok (.iload 6, 2) := by decide +kernel
theorem dX11_measure_199 : decode cX11_measure 199 = .ok (.ifCond .ne 7, 3) := by decide +kernel
theorem dX11_measure_202 : decode cX11_measure 202 = .ok (.ldc2_w 382, 3) := by decide +kernel
theorem dX11_measure_205 : decode cX11_measure 205 = .ok (.lreturn, 1) := by decide +kernel
theorem dX11_measure_206 : decode cX11_measure 206 = .ok (.lload 7, 2) := by decide +kernel
theorem dX11_measure_208 : decode cX11_measure 208 = .ok (.iload 6, 2) := by decide +kernel
theorem dX11_measure_210 : decode cX11_measure 210 = .ok (.i2l, 1) := by decide +kernel
theorem dX11_measure_211 : decode cX11_measure 211 = .ok (.ldiv, 1) := by decide +kernel
theorem dX11_measure_212 : decode cX11_measure 212 = .ok (.lstore 17, 2) := by decide +kernel
theorem dX11_measure_214 : decode cX11_measure 214 = .ok (.lload 17, 2) := by decide +kernel
theorem dX11_measure_216 : decode cX11_measure 216 = .ok (.lload 17, 2) := by decide +kernel
theorem dX11_measure_218 : decode cX11_measure 218 = .ok (.iload 6, 2) := by decide +kernel
theorem dX11_measure_220 : decode cX11_measure 220 = .ok (.i2l, 1) := by decide +kernel
theorem dX11_measure_221 : decode cX11_measure 221 = .ok (.lmul, 1) := by decide +kernel
theorem dX11_measure_222 : decode cX11_measure 222 = .ok (.lload 7, 2) := by decide +kernel
theorem dX11_measure_224 : decode cX11_measure 224 = .ok (.lcmp, 1) := by decide +kernel
theorem dX11_measure_225 : decode cX11_measure 225 = .ok (.ifCond .le 7, 3) := by decide +kernel
theorem dX11_measure_228 : decode cX11_measure 228 = .ok (.lconst 1, 1) := by decide +kernel
theorem dX11_measure_229 : decode cX11_measure 229 = .ok (.goto 4, 3) := by decide +kernel
theorem dX11_measure_232 : decode cX11_measure 232 = .ok (.lconst 0, 1) := by decide +kernel
theorem dX11_measure_233 : decode cX11_measure 233 = .ok (.lsub, 1) := by decide +kernel
theorem dX11_measure_234 : decode cX11_measure 234 = .ok (.lstore 17, 2) := by decide +kernel
theorem dX11_measure_236 : decode cX11_measure 236 = .ok (.iload 4, 2) := by decide +kernel
theorem dX11_measure_238 : decode cX11_measure 238 = .ok (.iconst 2, 1) := by decide +kernel
theorem dX11_measure_239 : decode cX11_measure 239 = .ok (.if_icmp .ne 8, 3) := by decide +kernel
theorem dX11_measure_242 : decode cX11_measure 242 = .ok (.lload 9, 2) := by decide +kernel
theorem dX11_measure_244 : decode cX11_measure 244 = .ok (.goto 38, 3) := by decide +kernel
theorem dX11_measure_247 : decode cX11_measure 247 = .ok (.iload 4, 2) := by decide +kernel
theorem dX11_measure_249 : decode cX11_measure 249 = .ok (.iconst 3, 1) := by decide +kernel
theorem dX11_measure_250 : decode cX11_measure 250 = .ok (.if_icmp .ne 8, 3) := by decide +kernel
theorem dX11_measure_253 : decode cX11_measure 253 = .ok (.lload 11, 2) := by decide +kernel
theorem dX11_measure_255 : decode cX11_measure 255 = .ok (.goto 27, 3) := by decide +kernel
theorem dX11_measure_258 : decode cX11_measure 258 = .ok (.iload 4, 2) := by decide +kernel
theorem dX11_measure_260 : decode cX11_measure 260 = .ok (.iconst 4, 1) := by decide +kernel
theorem dX11_measure_261 : decode cX11_measure 261 = .ok (.if_icmp .ne 8, 3) := by decide +kernel
theorem dX11_measure_264 : decode cX11_measure 264 = .ok (.lload 13, 2) := by decide +kernel
theorem dX11_measure_266 : decode cX11_measure 266 = .ok (.goto 16, 3) := by decide +kernel
theorem dX11_measure_269 : decode cX11_measure 269 = .ok (.iload 4, 2) := by decide +kernel
theorem dX11_measure_271 : decode cX11_measure 271 = .ok (.iconst 5, 1) := by decide +kernel
theorem dX11_measure_272 : decode cX11_measure 272 = .ok (.if_icmp .ne 8, 3) := by decide +kernel
theorem dX11_measure_275 : decode cX11_measure 275 = .ok (.lload 15, 2) := by decide +kernel
theorem dX11_measure_277 : decode cX11_measure 277 = .ok (.goto 5, 3) := by decide +kernel
theorem dX11_measure_280 : decode cX11_measure 280 = .ok (.lload 17, 2) := by decide +kernel
theorem dX11_measure_282 : decode cX11_measure 282 = .ok (.lreturn, 1) := by decide +kernel
theorem dX11_in_0 : decode cX11_in 0 = .ok (.iconst 0, 1) := by decide +kernel
theorem dX11_in_1 : decode cX11_in 1 = .ok (.istore_n 2, 1) := by decide +kernel
theorem dX11_in_2 : decode cX11_in 2 = .ok (.iconst 0, 1) := by decide +kernel
theorem dX11_in_3 : decode cX11_in 3 = .ok (.istore_n 3, 1) := by decide +kernel
theorem dX11_in_4 : decode cX11_in 4 = .ok (.iload_n 3, 1) := by decide +kernel
theorem dX11_in_5 : decode cX11_in 5 = .ok (.aload_n 0, 1) := by decide +kernel
theorem dX11_in_6 : decode cX11_in 6 = .ok (.getfield 9, 3) := by decide +kernel
theorem dX11_in_9 : decode cX11_in 9 = .ok (.sipush 3336, 3) := by decide +kernel
theorem dX11_in_12 : decode cX11_in 12 = .ok (.iaload, 1) := by decide +kernel
theorem dX11_in_13 : decode cX11_in 13 = .ok (.if_icmp .ge 26, 3) := by decide +kernel
theorem dX11_in_16 : decode cX11_in 16 = .ok (.iload_n 2, 1) := by decide +kernel
theorem dX11_in_17 : decode cX11_in 17 = .ok (.aload_n 0, 1) := by decide +kernel
theorem dX11_in_18 : decode cX11_in 18 = .ok (.iload_n 3, 1) := by decide +kernel
theorem dX11_in_19 : decode cX11_in 19 = .ok (.iload_n 1, 1) := by decide +kernel
theorem dX11_in_20 : decode cX11_in 20 = .ok (.invokevirtual 374, 3) := by decide +kernel
theorem dX11_in_23 : decode cX11_in 23 = .ok (.ifCond .lt 7, 3) := by decide +kernel
theorem dX11_in_26 : decode cX11_in 26 = .ok (.iconst 1, 1) := by decide +kernel
theorem dX11_in_27 : decode cX11_in 27 = .ok (.goto 4, 3) := by decide +kernel
theorem dX11_in_30 : decode cX11_in 30 = .ok (.iconst 0, 1) := by decide +kernel
theorem dX11_in_31 : decode cX11_in 31 = .ok (.iadd, 1) := by decide +kernel
theorem dX11_in_32 : decode cX11_in 32 = .ok (.istore_n 2, 1) := by decide +kernel
theorem dX11_in_33 : decode cX11_in 33 = .ok (.iinc 3 1, 3) := by decide +kernel
theorem dX11_in_36 : decode cX11_in 36 = .ok (.goto (-32), 3) := by decide +kernel
theorem dX11_in_39 : decode cX11_in 39 = .ok (.iload_n 2, 1) := by decide +kernel
theorem dX11_in_40 : decode cX11_in 40 = .ok (.ireturn, 1) := by decide +kernel
theorem dX11_covered_0 : decode cX11_covered 0 = .ok (.aload_n 0, 1) := by decide +kernel
theorem dX11_covered_1 : decode cX11_covered 1 = .ok (.iload_n 1, 1) := by decide +kernel
theorem dX11_covered_2 : decode cX11_covered 2 = .ok (.invokevirtual 113, 3) := by decide +kernel
theorem dX11_covered_5 : decode cX11_covered 5 = .ok (.ifCond .eq 11, 3) := by decide +kernel
theorem dX11_covered_8 : decode cX11_covered 8 = .ok (.aload_n 0, 1) := by decide +kernel
theorem dX11_covered_9 : decode cX11_covered 9 = .ok (.iload_n 1, 1) := by decide +kernel
theorem dX11_covered_10 : decode cX11_covered 10 = .ok (.invokevirtual 391, 3) := by decide +kernel
theorem dX11_covered_13 : decode cX11_covered 13 = .ok (.goto 4, 3) := by decide +kernel
theorem dX11_covered_16 : decode cX11_covered 16 = .ok (.iconst (-1), 1) := by decide +kernel
theorem dX11_covered_17 : decode cX11_covered 17 = .ok (.ireturn, 1) := by decide +kernel
theorem dX11_told_0 : decode cX11_told 0 = .ok (.iload_n 1, 1) := by decide +kernel
theorem dX11_told_1 : decode cX11_told 1 = .ok (.tableswitch 209 0 9 #[55, 60, 76, 85, 94, 103, 112, 121, 165, 204], 55) := by decide +kernel
theorem dX11_told_56 : decode cX11_told 56 = .ok (.aload_n 0, 1) := by decide +kernel
theorem dX11_told_57 : decode cX11_told 57 = .ok (.invokevirtual 97, 3) := by decide +kernel
theorem dX11_told_60 : decode cX11_told 60 = .ok (.ireturn, 1) := by decide +kernel
theorem dX11_told_61 : decode cX11_told 61 = .ok (.aload_n 0, 1) := by decide +kernel
theorem dX11_told_62 : decode cX11_told 62 = .ok (.invokevirtual 195, 3) := by decide +kernel
theorem dX11_told_65 : decode cX11_told 65 = .ok (.ifCond .eq 10, 3) := by decide +kernel
theorem dX11_told_68 : decode cX11_told 68 = .ok (.aload_n 0, 1) := by decide +kernel
theorem dX11_told_69 : decode cX11_told 69 = .ok (.getfield 139, 3) := by decide +kernel
theorem dX11_told_72 : decode cX11_told 72 = .ok (.goto 4, 3) := by decide +kernel
theorem dX11_told_75 : decode cX11_told 75 = .ok (.iconst 0, 1) := by decide +kernel
theorem dX11_told_76 : decode cX11_told 76 = .ok (.ireturn, 1) := by decide +kernel
theorem dX11_told_77 : decode cX11_told 77 = .ok (.aload_n 0, 1) := by decide +kernel
theorem dX11_told_78 : decode cX11_told 78 = .ok (.getfield 9, 3) := by decide +kernel
theorem dX11_told_81 : decode cX11_told 81 = .ok (.sipush 3336, 3) := by decide +kernel
theorem dX11_told_84 : decode cX11_told 84 = .ok (.iaload, 1) := by decide +kernel
theorem dX11_told_85 : decode cX11_told 85 = .ok (.ireturn, 1) := by decide +kernel
theorem dX11_told_86 : decode cX11_told 86 = .ok (.aload_n 0, 1) := by decide +kernel
theorem dX11_told_87 : decode cX11_told 87 = .ok (.getfield 9, 3) := by decide +kernel
theorem dX11_told_90 : decode cX11_told 90 = .ok (.sipush 3332, 3) := by decide +kernel
theorem dX11_told_93 : decode cX11_told 93 = .ok (.iaload, 1) := by decide +kernel
theorem dX11_told_94 : decode cX11_told 94 = .ok (.ireturn, 1) := by decide +kernel
theorem dX11_told_95 : decode cX11_told 95 = .ok (.aload_n 0, 1) := by decide +kernel
theorem dX11_told_96 : decode cX11_told 96 = .ok (.getfield 9, 3) := by decide +kernel
theorem dX11_told_99 : decode cX11_told 99 = .ok (.sipush 3333, 3) := by decide +kernel
theorem dX11_told_102 : decode cX11_told 102 = .ok (.iaload, 1) := by decide +kernel
theorem dX11_told_103 : decode cX11_told 103 = .ok (.ireturn, 1) := by decide +kernel
theorem dX11_told_104 : decode cX11_told 104 = .ok (.aload_n 0, 1) := by decide +kernel
theorem dX11_told_105 : decode cX11_told 105 = .ok (.getfield 9, 3) := by decide +kernel
theorem dX11_told_108 : decode cX11_told 108 = .ok (.sipush 3334, 3) := by decide +kernel
theorem dX11_told_111 : decode cX11_told 111 = .ok (.iaload, 1) := by decide +kernel
theorem dX11_told_112 : decode cX11_told 112 = .ok (.ireturn, 1) := by decide +kernel
theorem dX11_told_113 : decode cX11_told 113 = .ok (.aload_n 0, 1) := by decide +kernel
theorem dX11_told_114 : decode cX11_told 114 = .ok (.getfield 9, 3) := by decide +kernel
theorem dX11_told_117 : decode cX11_told 117 = .ok (.sipush 3335, 3) := by decide +kernel
theorem dX11_told_120 : decode cX11_told 120 = .ok (.iaload, 1) := by decide +kernel
theorem dX11_told_121 : decode cX11_told 121 = .ok (.ireturn, 1) := by decide +kernel
theorem dX11_told_122 : decode cX11_told 122 = .ok (.iconst 0, 1) := by decide +kernel
theorem dX11_told_123 : decode cX11_told 123 = .ok (.istore_n 2, 1) := by decide +kernel
theorem dX11_told_124 : decode cX11_told 124 = .ok (.iconst 0, 1) := by decide +kernel
theorem dX11_told_125 : decode cX11_told 125 = .ok (.istore_n 3, 1) := by decide +kernel
theorem dX11_told_126 : decode cX11_told 126 = .ok (.iload_n 3, 1) := by decide +kernel
theorem dX11_told_127 : decode cX11_told 127 = .ok (.bipush 26, 2) := by decide +kernel
theorem dX11_told_129 : decode cX11_told 129 = .ok (.if_icmp .ge 35, 3) := by decide +kernel
theorem dX11_told_132 : decode cX11_told 132 = .ok (.iload_n 2, 1) := by decide +kernel
theorem dX11_told_133 : decode cX11_told 133 = .ok (.aload_n 0, 1) := by decide +kernel
theorem dX11_told_134 : decode cX11_told 134 = .ok (.getfield 9, 3) := by decide +kernel
theorem dX11_told_137 : decode cX11_told 137 = .ok (.sipush 186, 3) := by decide +kernel
theorem dX11_told_140 : decode cX11_told 140 = .ok (.bipush 121, 2) := by decide +kernel
theorem dX11_told_142 : decode cX11_told 142 = .ok (.iload_n 3, 1) := by decide +kernel
theorem dX11_told_143 : decode cX11_told 143 = .ok (.imul, 1) := by decide +kernel
theorem dX11_told_144 : decode cX11_told 144 = .ok (.iadd, 1) := by decide +kernel
theorem dX11_told_145 : decode cX11_told 145 = .ok (.iaload, 1) := by decide +kernel
theorem dX11_told_146 : decode cX11_told 146 = .ok (.ifCond .le 9, 3) := by decide +kernel
theorem dX11_told_149 : decode cX11_told 149 = .ok (.iconst 1, 1) := by decide +kernel
theorem dX11_told_150 : decode cX11_told 150 = .ok (.iload_n 3, 1) := by decide +kernel
theorem dX11_told_151 : decode cX11_told 151 = .ok (.ishl, 1) := by decide +kernel
theorem dX11_told_152 : decode cX11_told 152 = .ok (.goto 4, 3) := by decide +kernel
theorem dX11_told_155 : decode cX11_told 155 = .ok (.iconst 0, 1) := by decide +kernel
theorem dX11_told_156 : decode cX11_told 156 = .ok (.ior, 1) := by decide +kernel
theorem dX11_told_157 : decode cX11_told 157 = .ok (.istore_n 2, 1) := by decide +kernel
theorem dX11_told_158 : decode cX11_told 158 = .ok (.iinc 3 1, 3) := by decide +kernel
theorem dX11_told_161 : decode cX11_told 161 = .ok (.goto (-35), 3) := by decide +kernel
theorem dX11_told_164 : decode cX11_told 164 = .ok (.iload_n 2, 1) := by decide +kernel
theorem dX11_told_165 : decode cX11_told 165 = .ok (.ireturn, 1) := by decide +kernel
theorem dX11_told_166 : decode cX11_told 166 = .ok (.iconst 0, 1) := by decide +kernel
theorem dX11_told_167 : decode cX11_told 167 = .ok (.istore_n 3, 1) := by decide +kernel
theorem dX11_told_168 : decode cX11_told 168 = .ok (.iconst 0, 1) := by decide +kernel
theorem dX11_told_169 : decode cX11_told 169 = .ok (.istore 4, 2) := by decide +kernel
theorem dX11_told_171 : decode cX11_told 171 = .ok (.iload 4, 2) := by decide +kernel
theorem dX11_told_173 : decode cX11_told 173 = .ok (.aload_n 0, 1) := by decide +kernel
theorem dX11_told_174 : decode cX11_told 174 = .ok (.invokevirtual 97, 3) := by decide +kernel
theorem dX11_told_177 : decode cX11_told 177 = .ok (.if_icmp .ge 26, 3) := by decide +kernel
theorem dX11_told_180 : decode cX11_told 180 = .ok (.iload_n 3, 1) := by decide +kernel
theorem dX11_told_181 : decode cX11_told 181 = .ok (.aload_n 0, 1) := by decide +kernel
theorem dX11_told_182 : decode cX11_told 182 = .ok (.iload 4, 2) := by decide +kernel
theorem dX11_told_184 : decode cX11_told 184 = .ok (.invokevirtual 391, 3) := by decide +kernel
theorem dX11_told_187 : decode cX11_told 187 = .ok (.ifCond .ne 7, 3) := by decide +kernel
theorem dX11_told_190 : decode cX11_told 190 = .ok (.iconst 1, 1) := by decide +kernel
theorem dX11_told_191 : decode cX11_told 191 = .ok (.goto 4, 3) := by decide +kernel
theorem dX11_told_194 : decode cX11_told 194 = .ok (.iconst 0, 1) := by decide +kernel
theorem dX11_told_195 : decode cX11_told 195 = .ok (.iadd, 1) := by decide +kernel
theorem dX11_told_196 : decode cX11_told 196 = .ok (.istore_n 3, 1) := by decide +kernel
theorem dX11_told_197 : decode cX11_told 197 = .ok (.iinc 4 1, 3) := by decide +kernel
theorem dX11_told_200 : decode cX11_told 200 = .ok (.goto (-29), 3) := by decide +kernel
theorem dX11_told_203 : decode cX11_told 203 = .ok (.iload_n 3, 1) := by decide +kernel
theorem dX11_told_204 : decode cX11_told 204 = .ok (.ireturn, 1) := by decide +kernel
theorem dX11_told_205 : decode cX11_told 205 = .ok (.aload_n 0, 1) := by decide +kernel
theorem dX11_told_206 : decode cX11_told 206 = .ok (.getfield 118, 3) := by decide +kernel
theorem dX11_told_209 : decode cX11_told 209 = .ok (.ireturn, 1) := by decide +kernel
theorem dX11_told_210 : decode cX11_told 210 = .ok (.iconst (-1), 1) := by decide +kernel
theorem dX11_told_211 : decode cX11_told 211 = .ok (.ireturn, 1) := by decide +kernel
theorem dX11_isList_0 : decode cX11_isList 0 = .ok (.iload_n 0, 1) := by decide +kernel
theorem dX11_isList_1 : decode cX11_isList 1 = .ok (.i2l, 1) := by decide +kernel
theorem dX11_isList_2 : decode cX11_isList 2 = .ok (.lconst 0, 1) := by decide +kernel
theorem dX11_isList_3 : decode cX11_isList 3 = .ok (.ldc2_w 361, 3) := by decide +kernel
theorem dX11_isList_6 : decode cX11_isList 6 = .ok (.invokestatic 101, 3) := by decide +kernel
theorem dX11_isList_9 : decode cX11_isList 9 = .ok (.ireturn, 1) := by decide +kernel
theorem dX11_list_0 : decode cX11_list 0 = .ok (.iload_n 1, 1) := by decide +kernel
theorem dX11_list_1 : decode cX11_list 1 = .ok (.invokestatic 394, 3) := by decide +kernel
theorem dX11_list_4 : decode cX11_list 4 = .ok (.ifCond .ne 5, 3) := by decide +kernel
theorem dX11_list_7 : decode cX11_list 7 = .ok (.iconst (-1), 1) := by decide +kernel
theorem dX11_list_8 : decode cX11_list 8 = .ok (.ireturn, 1) := by decide +kernel
theorem dX11_list_9 : decode cX11_list 9 = .ok (.iload_n 2, 1) := by decide +kernel
theorem dX11_list_10 : decode cX11_list 10 = .ok (.bipush 40, 2) := by decide +kernel
theorem dX11_list_12 : decode cX11_list 12 = .ok (.if_icmp .le 6, 3) := by decide +kernel
theorem dX11_list_15 : decode cX11_list 15 = .ok (.bipush (-2), 2) := by decide +kernel
theorem dX11_list_17 : decode cX11_list 17 = .ok (.ireturn, 1) := by decide +kernel
theorem dX11_list_18 : decode cX11_list 18 = .ok (.iload_n 2, 1) := by decide +kernel
theorem dX11_list_19 : decode cX11_list 19 = .ok (.ifCond .ge 6, 3) := by decide +kernel
theorem dX11_list_22 : decode cX11_list 22 = .ok (.bipush (-14), 2) := by decide +kernel
theorem dX11_list_24 : decode cX11_list 24 = .ok (.ireturn, 1) := by decide +kernel
theorem dX11_list_25 : decode cX11_list 25 = .ok (.aload_n 0, 1) := by decide +kernel
theorem dX11_list_26 : decode cX11_list 26 = .ok (.getfield 87, 3) := by decide +kernel
theorem dX11_list_29 : decode cX11_list 29 = .ok (.iload_n 1, 1) := by decide +kernel
theorem dX11_list_30 : decode cX11_list 30 = .ok (.iload_n 2, 1) := by decide +kernel
theorem dX11_list_31 : decode cX11_list 31 = .ok (.iastore, 1) := by decide +kernel
theorem dX11_list_32 : decode cX11_list 32 = .ok (.iconst 0, 1) := by decide +kernel
theorem dX11_list_33 : decode cX11_list 33 = .ok (.istore_n 3, 1) := by decide +kernel
theorem dX11_list_34 : decode cX11_list 34 = .ok (.iload_n 3, 1) := by decide +kernel
theorem dX11_list_35 : decode cX11_list 35 = .ok (.bipush 40, 2) := by decide +kernel
theorem dX11_list_37 : decode cX11_list 37 = .ok (.if_icmp .ge 21, 3) := by decide +kernel
theorem dX11_list_40 : decode cX11_list 40 = .ok (.aload_n 0, 1) := by decide +kernel
theorem dX11_list_41 : decode cX11_list 41 = .ok (.getfield 90, 3) := by decide +kernel
theorem dX11_list_44 : decode cX11_list 44 = .ok (.bipush 40, 2) := by decide +kernel
theorem dX11_list_46 : decode cX11_list 46 = .ok (.iload_n 1, 1) := by decide +kernel
theorem dX11_list_47 : decode cX11_list 47 = .ok (.imul, 1) := by decide +kernel
theorem dX11_list_48 : decode cX11_list 48 = .ok (.iload_n 3, 1) := by decide +kernel
theorem dX11_list_49 : decode cX11_list 49 = .ok (.iadd, 1) := by decide +kernel
theorem dX11_list_50 : decode cX11_list 50 = .ok (.lconst 0, 1) := by decide +kernel
theorem dX11_list_51 : decode cX11_list 51 = .ok (.lastore, 1) := by decide +kernel
theorem dX11_list_52 : decode cX11_list 52 = .ok (.iinc 3 1, 3) := by decide +kernel
theorem dX11_list_55 : decode cX11_list 55 = .ok (.goto (-21), 3) := by decide +kernel
theorem dX11_list_58 : decode cX11_list 58 = .ok (.iconst 1, 1) := by decide +kernel
theorem dX11_list_59 : decode cX11_list 59 = .ok (.ireturn, 1) := by decide +kernel
theorem dX11_put_0 : decode cX11_put 0 = .ok (.iload_n 1, 1) := by decide +kernel
theorem dX11_put_1 : decode cX11_put 1 = .ok (.invokestatic 394, 3) := by decide +kernel
theorem dX11_put_4 : decode cX11_put 4 = .ok (.ifCond .ne 5, 3) := by decide +kernel
theorem dX11_put_7 : decode cX11_put 7 = .ok (.iconst (-1), 1) := by decide +kernel
theorem dX11_put_8 : decode cX11_put 8 = .ok (.ireturn, 1) := by decide +kernel
theorem dX11_put_9 : decode cX11_put 9 = .ok (.aload_n 0, 1) := by decide +kernel
theorem dX11_put_10 : decode cX11_put 10 = .ok (.getfield 87, 3) := by decide +kernel
theorem dX11_put_13 : decode cX11_put 13 = .ok (.iload_n 1, 1) := by decide +kernel
theorem dX11_put_14 : decode cX11_put 14 = .ok (.iaload, 1) := by decide +kernel
theorem dX11_put_15 : decode cX11_put 15 = .ok (.ifCond .ge 6, 3) := by decide +kernel
theorem dX11_put_18 : decode cX11_put 18 = .ok (.bipush (-11), 2) := by decide +kernel
theorem dX11_put_20 : decode cX11_put 20 = .ok (.ireturn, 1) := by decide +kernel
theorem dX11_put_21 : decode cX11_put 21 = .ok (.iload_n 2, 1) := by decide +kernel
theorem dX11_put_22 : decode cX11_put 22 = .ok (.i2l, 1) := by decide +kernel
theorem dX11_put_23 : decode cX11_put 23 = .ok (.lconst 0, 1) := by decide +kernel
theorem dX11_put_24 : decode cX11_put 24 = .ok (.aload_n 0, 1) := by decide +kernel
theorem dX11_put_25 : decode cX11_put 25 = .ok (.getfield 87, 3) := by decide +kernel
theorem dX11_put_28 : decode cX11_put 28 = .ok (.iload_n 1, 1) := by decide +kernel
theorem dX11_put_29 : decode cX11_put 29 = .ok (.iaload, 1) := by decide +kernel
theorem dX11_put_30 : decode cX11_put 30 = .ok (.iconst 1, 1) := by decide +kernel
theorem dX11_put_31 : decode cX11_put 31 = .ok (.isub, 1) := by decide +kernel
theorem dX11_put_32 : decode cX11_put 32 = .ok (.i2l, 1) := by decide +kernel
theorem dX11_put_33 : decode cX11_put 33 = .ok (.invokestatic 101, 3) := by decide +kernel
theorem dX11_put_36 : decode cX11_put 36 = .ok (.ifCond .ne 6, 3) := by decide +kernel
theorem dX11_put_39 : decode cX11_put 39 = .ok (.bipush (-13), 2) := by decide +kernel
theorem dX11_put_41 : decode cX11_put 41 = .ok (.ireturn, 1) := by decide +kernel
theorem dX11_put_42 : decode cX11_put 42 = .ok (.aload_n 0, 1) := by decide +kernel
theorem dX11_put_43 : decode cX11_put 43 = .ok (.getfield 90, 3) := by decide +kernel
theorem dX11_put_46 : decode cX11_put 46 = .ok (.bipush 40, 2) := by decide +kernel
theorem dX11_put_48 : decode cX11_put 48 = .ok (.iload_n 1, 1) := by decide +kernel
theorem dX11_put_49 : decode cX11_put 49 = .ok (.imul, 1) := by decide +kernel
theorem dX11_put_50 : decode cX11_put 50 = .ok (.iload_n 2, 1) := by decide +kernel
theorem dX11_put_51 : decode cX11_put 51 = .ok (.iadd, 1) := by decide +kernel
theorem dX11_put_52 : decode cX11_put 52 = .ok (.lload_n 3, 1) := by decide +kernel
theorem dX11_put_53 : decode cX11_put 53 = .ok (.lastore, 1) := by decide +kernel
theorem dX11_put_54 : decode cX11_put 54 = .ok (.iconst 1, 1) := by decide +kernel
theorem dX11_put_55 : decode cX11_put 55 = .ok (.ireturn, 1) := by decide +kernel
theorem dX11_get_0 : decode cX11_get 0 = .ok (.iload_n 1, 1) := by decide +kernel
theorem dX11_get_1 : decode cX11_get 1 = .ok (.invokestatic 394, 3) := by decide +kernel
theorem dX11_get_4 : decode cX11_get 4 = .ok (.ifCond .eq 35, 3) := by decide +kernel
theorem dX11_get_7 : decode cX11_get 7 = .ok (.iload_n 2, 1) := by decide +kernel
theorem dX11_get_8 : decode cX11_get 8 = .ok (.i2l, 1) := by decide +kernel
theorem dX11_get_9 : decode cX11_get 9 = .ok (.lconst 0, 1) := by decide +kernel
theorem dX11_get_10 : decode cX11_get 10 = .ok (.aload_n 0, 1) := by decide +kernel
theorem dX11_get_11 : decode cX11_get 11 = .ok (.getfield 87, 3) := by decide +kernel
theorem dX11_get_14 : decode cX11_get 14 = .ok (.iload_n 1, 1) := by decide +kernel
theorem dX11_get_15 : decode cX11_get 15 = .ok (.iaload, 1) := by decide +kernel
theorem dX11_get_16 : decode cX11_get 16 = .ok (.iconst 1, 1) := by decide +kernel
theorem dX11_get_17 : decode cX11_get 17 = .ok (.isub, 1) := by decide +kernel
theorem dX11_get_18 : decode cX11_get 18 = .ok (.i2l, 1) := by decide +kernel
theorem dX11_get_19 : decode cX11_get 19 = .ok (.invokestatic 101, 3) := by decide +kernel
theorem dX11_get_22 : decode cX11_get 22 = .ok (.ifCond .eq 17, 3) := by decide +kernel
theorem dX11_get_25 : decode cX11_get 25 = .ok (.aload_n 0, 1) := by decide +kernel
theorem dX11_get_26 : decode cX11_get 26 = .ok (.getfield 90, 3) := by decide +kernel
theorem dX11_get_29 : decode cX11_get 29 = .ok (.bipush 40, 2) := by decide +kernel
theorem dX11_get_31 : decode cX11_get 31 = .ok (.iload_n 1, 1) := by decide +kernel
theorem dX11_get_32 : decode cX11_get 32 = .ok (.imul, 1) := by decide +kernel
theorem dX11_get_33 : decode cX11_get 33 = .ok (.iload_n 2, 1) := by decide +kernel
theorem dX11_get_34 : decode cX11_get 34 = .ok (.iadd, 1) := by decide +kernel
theorem dX11_get_35 : decode cX11_get 35 = .ok (.laload, 1) := by decide +kernel
theorem dX11_get_36 : decode cX11_get 36 = .ok (.goto 6, 3) := by decide +kernel
theorem dX11_get_39 : decode cX11_get 39 = .ok (.ldc2_w 382, 3) := by decide +kernel
theorem dX11_get_42 : decode cX11_get 42 = .ok (.lreturn, 1) := by decide +kernel
theorem dX11_move_0 : decode cX11_move 0 = .ok (.iload_n 1, 1) := by decide +kernel
theorem dX11_move_1 : decode cX11_move 1 = .ok (.invokestatic 394, 3) := by decide +kernel
theorem dX11_move_4 : decode cX11_move 4 = .ok (.ifCond .eq 10, 3) := by decide +kernel
theorem dX11_move_7 : decode cX11_move 7 = .ok (.iload_n 3, 1) := by decide +kernel
theorem dX11_move_8 : decode cX11_move 8 = .ok (.invokestatic 394, 3) := by decide +kernel
theorem dX11_move_11 : decode cX11_move 11 = .ok (.ifCond .ne 5, 3) := by decide +kernel
theorem dX11_move_14 : decode cX11_move 14 = .ok (.iconst (-1), 1) := by decide +kernel
theorem dX11_move_15 : decode cX11_move 15 = .ok (.ireturn, 1) := by decide +kernel
theorem dX11_move_16 : decode cX11_move 16 = .ok (.aload_n 0, 1) := by decide +kernel
theorem dX11_move_17 : decode cX11_move 17 = .ok (.getfield 87, 3) := by decide +kernel
theorem dX11_move_20 : decode cX11_move 20 = .ok (.iload_n 1, 1) := by decide +kernel
theorem dX11_move_21 : decode cX11_move 21 = .ok (.iaload, 1) := by decide +kernel
theorem dX11_move_22 : decode cX11_move 22 = .ok (.ifCond .lt 12, 3) := by decide +kernel
theorem dX11_move_25 : decode cX11_move 25 = .ok (.aload_n 0, 1) := by decide +kernel
theorem dX11_move_26 : decode cX11_move 26 = .ok (.getfield 87, 3) := by decide +kernel
theorem dX11_move_29 : decode cX11_move 29 = .ok (.iload_n 3, 1) := by decide +kernel
theorem dX11_move_30 : decode cX11_move 30 = .ok (.iaload, 1) := by decide +kernel
theorem dX11_move_31 : decode cX11_move 31 = .ok (.ifCond .ge 6, 3) := by decide +kernel
theorem dX11_move_34 : decode cX11_move 34 = .ok (.bipush (-11), 2) := by decide +kernel
theorem dX11_move_36 : decode cX11_move 36 = .ok (.ireturn, 1) := by decide +kernel
theorem dX11_move_37 : decode cX11_move 37 = .ok (.iload 5, 2) := by decide +kernel
theorem dX11_move_39 : decode cX11_move 39 = .ok (.ifCond .lt 39, 3) := by decide +kernel
theorem dX11_move_42 : decode cX11_move 42 = .ok (.iload_n 2, 1) := by decide +kernel
theorem dX11_move_43 : decode cX11_move 43 = .ok (.ifCond .lt 35, 3) := by decide +kernel
theorem dX11_move_46 : decode cX11_move 46 = .ok (.iload 4, 2) := by decide +kernel
theorem dX11_move_48 : decode cX11_move 48 = .ok (.ifCond .lt 30, 3) := by decide +kernel
theorem dX11_move_51 : decode cX11_move 51 = .ok (.iload 5, 2) := by decide +kernel
theorem dX11_move_53 : decode cX11_move 53 = .ok (.aload_n 0, 1) := by decide +kernel
theorem dX11_move_54 : decode cX11_move 54 = .ok (.getfield 87, 3) := by decide +kernel
theorem dX11_move_57 : decode cX11_move 57 = .ok (.iload_n 1, 1) := by decide +kernel
theorem dX11_move_58 : decode cX11_move 58 = .ok (.iaload, 1) := by decide +kernel
theorem dX11_move_59 : decode cX11_move 59 = .ok (.iload_n 2, 1) := by decide +kernel
theorem dX11_move_60 : decode cX11_move 60 = .ok (.isub, 1) := by decide +kernel
theorem dX11_move_61 : decode cX11_move 61 = .ok (.if_icmp .gt 17, 3) := by decide +kernel
theorem dX11_move_64 : decode cX11_move 64 = .ok (.iload 5, 2) := by decide +kernel
theorem dX11_move_66 : decode cX11_move 66 = .ok (.aload_n 0, 1) := by decide +kernel
theorem dX11_move_67 : decode cX11_move 67 = .ok (.getfield 87, 3) := by decide +kernel
theorem dX11_move_70 : decode cX11_move 70 = .ok (.iload_n 3, 1) := by decide +kernel
theorem dX11_move_71 : decode cX11_move 71 = .ok (.iaload, 1) := by decide +kernel
theorem dX11_move_72 : decode cX11_move 72 = .ok (.iload 4, 2) := by decide +kernel
theorem dX11_move_74 : decode cX11_move 74 = .ok (.isub, 1) := by decide +kernel
theorem dX11_move_75 : decode cX11_move 75 = .ok (.if_icmp .le 6, 3) := by decide +kernel
theorem dX11_move_78 : decode cX11_move 78 = .ok (.bipush (-13), 2) := by decide +kernel
theorem dX11_move_80 : decode cX11_move 80 = .ok (.ireturn, 1) := by decide +kernel
theorem dX11_move_81 : decode cX11_move 81 = .ok (.iconst 0, 1) := by decide +kernel
theorem dX11_move_82 : decode cX11_move 82 = .ok (.istore 6, 2) := by decide +kernel
theorem dX11_move_84 : decode cX11_move 84 = .ok (.iload 6, 2) := by decide +kernel
theorem dX11_move_86 : decode cX11_move 86 = .ok (.iload 5, 2) := by decide +kernel
theorem dX11_move_88 : decode cX11_move 88 = .ok (.if_icmp .ge 30, 3) := by decide +kernel
theorem dX11_move_91 : decode cX11_move 91 = .ok (.aload_n 0, 1) := by decide +kernel
theorem dX11_move_92 : decode cX11_move 92 = .ok (.getfield 94, 3) := by decide +kernel
theorem dX11_move_95 : decode cX11_move 95 = .ok (.iload 6, 2) := by decide +kernel
theorem dX11_move_97 : decode cX11_move 97 = .ok (.aload_n 0, 1) := by decide +kernel
theorem dX11_move_98 : decode cX11_move 98 = .ok (.getfield 90, 3) := by decide +kernel
theorem dX11_move_101 : decode cX11_move 101 = .ok (.bipush 40, 2) := by decide +kernel
theorem dX11_move_103 : decode cX11_move 103 = .ok (.iload_n 1, 1) := by decide +kernel
theorem dX11_move_104 : decode cX11_move 104 = .ok (.imul, 1) := by decide +kernel
theorem dX11_move_105 : decode cX11_move 105 = .ok (.iload_n 2, 1) := by decide +kernel
theorem dX11_move_106 : decode cX11_move 106 = .ok (.iadd, 1) := by decide +kernel
theorem dX11_move_107 : decode cX11_move 107 = .ok (.iload 6, 2) := by decide +kernel
theorem dX11_move_109 : decode cX11_move 109 = .ok (.iadd, 1) := by decide +kernel
theorem dX11_move_110 : decode cX11_move 110 = .ok (.laload, 1) := by decide +kernel
theorem dX11_move_111 : decode cX11_move 111 = .ok (.lastore, 1) := by decide +kernel
theorem dX11_move_112 : decode cX11_move 112 = .ok (.iinc 6 1, 3) := by decide +kernel
theorem dX11_move_115 : decode cX11_move 115 = .ok (.goto (-31), 3) := by decide +kernel
theorem dX11_move_118 : decode cX11_move 118 = .ok (.iconst 0, 1) := by decide +kernel
theorem dX11_move_119 : decode cX11_move 119 = .ok (.istore 6, 2) := by decide +kernel
theorem dX11_move_121 : decode cX11_move 121 = .ok (.iload 6, 2) := by decide +kernel
theorem dX11_move_123 : decode cX11_move 123 = .ok (.iload 5, 2) := by decide +kernel
theorem dX11_move_125 : decode cX11_move 125 = .ok (.if_icmp .ge 31, 3) := by decide +kernel
theorem dX11_move_128 : decode cX11_move 128 = .ok (.aload_n 0, 1) := by decide +kernel
theorem dX11_move_129 : decode cX11_move 129 = .ok (.getfield 90, 3) := by decide +kernel
theorem dX11_move_132 : decode cX11_move 132 = .ok (.bipush 40, 2) := by decide +kernel
theorem dX11_move_134 : decode cX11_move 134 = .ok (.iload_n 3, 1) := by decide +kernel
theorem dX11_move_135 : decode cX11_move 135 = .ok (.imul, 1) := by decide +kernel
theorem dX11_move_136 : decode cX11_move 136 = .ok (.iload 4, 2) := by decide +kernel
theorem dX11_move_138 : decode cX11_move 138 = .ok (.iadd, 1) := by decide +kernel
theorem dX11_move_139 : decode cX11_move 139 = .ok (.iload 6, 2) := by decide +kernel
theorem dX11_move_141 : decode cX11_move 141 = .ok (.iadd, 1) := by decide +kernel
theorem dX11_move_142 : decode cX11_move 142 = .ok (.aload_n 0, 1) := by decide +kernel
theorem dX11_move_143 : decode cX11_move 143 = .ok (.getfield 94, 3) := by decide +kernel
theorem dX11_move_146 : decode cX11_move 146 = .ok (.iload 6, 2) := by decide +kernel
theorem dX11_move_148 : decode cX11_move 148 = .ok (.laload, 1) := by decide +kernel
theorem dX11_move_149 : decode cX11_move 149 = .ok (.lastore, 1) := by decide +kernel
theorem dX11_move_150 : decode cX11_move 150 = .ok (.iinc 6 1, 3) := by decide +kernel
theorem dX11_move_153 : decode cX11_move 153 = .ok (.goto (-32), 3) := by decide +kernel
theorem dX11_move_156 : decode cX11_move 156 = .ok (.iload 5, 2) := by decide +kernel
theorem dX11_move_158 : decode cX11_move 158 = .ok (.ireturn, 1) := by decide +kernel
theorem dX11_lay_0 : decode cX11_lay 0 = .ok (.iload_n 1, 1) := by decide +kernel
theorem dX11_lay_1 : decode cX11_lay 1 = .ok (.invokestatic 394, 3) := by decide +kernel
theorem dX11_lay_4 : decode cX11_lay 4 = .ok (.ifCond .eq 14, 3) := by decide +kernel
theorem dX11_lay_7 : decode cX11_lay 7 = .ok (.iload_n 3, 1) := by decide +kernel
theorem dX11_lay_8 : decode cX11_lay 8 = .ok (.iload 4, 2) := by decide +kernel
theorem dX11_lay_10 : decode cX11_lay 10 = .ok (.iload 5, 2) := by decide +kernel
theorem dX11_lay_12 : decode cX11_lay 12 = .ok (.invokestatic 379, 3) := by decide +kernel
theorem dX11_lay_15 : decode cX11_lay 15 = .ok (.ifCond .ne 5, 3) := by decide +kernel
theorem dX11_lay_18 : decode cX11_lay 18 = .ok (.iconst (-1), 1) := by decide +kernel
theorem dX11_lay_19 : decode cX11_lay 19 = .ok (.ireturn, 1) := by decide +kernel
theorem dX11_lay_20 : decode cX11_lay 20 = .ok (.aload_n 0, 1) := by decide +kernel
theorem dX11_lay_21 : decode cX11_lay 21 = .ok (.getfield 87, 3) := by decide +kernel
theorem dX11_lay_24 : decode cX11_lay 24 = .ok (.iload_n 1, 1) := by decide +kernel
theorem dX11_lay_25 : decode cX11_lay 25 = .ok (.iaload, 1) := by decide +kernel
theorem dX11_lay_26 : decode cX11_lay 26 = .ok (.ifCond .ge 6, 3) := by decide +kernel
theorem dX11_lay_29 : decode cX11_lay 29 = .ok (.bipush (-11), 2) := by decide +kernel
theorem dX11_lay_31 : decode cX11_lay 31 = .ok (.ireturn, 1) := by decide +kernel
theorem dX11_lay_32 : decode cX11_lay 32 = .ok (.iconst 0, 1) := by decide +kernel
theorem dX11_lay_33 : decode cX11_lay 33 = .ok (.istore 6, 2) := by decide +kernel
theorem dX11_lay_35 : decode cX11_lay 35 = .ok (.iload 6, 2) := by decide +kernel
theorem dX11_lay_37 : decode cX11_lay 37 = .ok (.aload_n 0, 1) := by decide +kernel
theorem dX11_lay_38 : decode cX11_lay 38 = .ok (.getfield 9, 3) := by decide +kernel
theorem dX11_lay_41 : decode cX11_lay 41 = .ok (.sipush 3336, 3) := by decide +kernel
theorem dX11_lay_44 : decode cX11_lay 44 = .ok (.iaload, 1) := by decide +kernel
theorem dX11_lay_45 : decode cX11_lay 45 = .ok (.if_icmp .ge 58, 3) := by decide +kernel
theorem dX11_lay_48 : decode cX11_lay 48 = .ok (.iload_n 2, 1) := by decide +kernel
theorem dX11_lay_49 : decode cX11_lay 49 = .ok (.ifCond .lt 20, 3) := by decide +kernel
theorem dX11_lay_52 : decode cX11_lay 52 = .ok (.iload_n 2, 1) := by decide +kernel
theorem dX11_lay_53 : decode cX11_lay 53 = .ok (.i2l, 1) := by decide +kernel
theorem dX11_lay_54 : decode cX11_lay 54 = .ok (.iload 6, 2) := by decide +kernel
theorem dX11_lay_56 : decode cX11_lay 56 = .ok (.i2l, 1) := by decide +kernel
theorem dX11_lay_57 : decode cX11_lay 57 = .ok (.ladd, 1) := by decide +kernel
theorem dX11_lay_58 : decode cX11_lay 58 = .ok (.aload_n 0, 1) := by decide +kernel
theorem dX11_lay_59 : decode cX11_lay 59 = .ok (.getfield 87, 3) := by decide +kernel
theorem dX11_lay_62 : decode cX11_lay 62 = .ok (.iload_n 1, 1) := by decide +kernel
theorem dX11_lay_63 : decode cX11_lay 63 = .ok (.iaload, 1) := by decide +kernel
theorem dX11_lay_64 : decode cX11_lay 64 = .ok (.i2l, 1) := by decide +kernel
theorem dX11_lay_65 : decode cX11_lay 65 = .ok (.lcmp, 1) := by decide +kernel
theorem dX11_lay_66 : decode cX11_lay 66 = .ok (.ifCond .lt 6, 3) := by decide +kernel
theorem dX11_lay_69 : decode cX11_lay 69 = .ok (.bipush (-13), 2) := by decide +kernel
theorem dX11_lay_71 : decode cX11_lay 71 = .ok (.ireturn, 1) := by decide +kernel
theorem dX11_lay_72 : decode cX11_lay 72 = .ok (.aload_n 0, 1) := by decide +kernel
theorem dX11_lay_73 : decode cX11_lay 73 = .ok (.getfield 90, 3) := by decide +kernel
theorem dX11_lay_76 : decode cX11_lay 76 = .ok (.bipush 40, 2) := by decide +kernel
theorem dX11_lay_78 : decode cX11_lay 78 = .ok (.iload_n 1, 1) := by decide +kernel
theorem dX11_lay_79 : decode cX11_lay 79 = .ok (.imul, 1) := by decide +kernel
theorem dX11_lay_80 : decode cX11_lay 80 = .ok (.iload_n 2, 1) := by decide +kernel
theorem dX11_lay_81 : decode cX11_lay 81 = .ok (.iadd, 1) := by decide +kernel
theorem dX11_lay_82 : decode cX11_lay 82 = .ok (.iload 6, 2) := by decide +kernel
theorem dX11_lay_84 : decode cX11_lay 84 = .ok (.iadd, 1) := by decide +kernel
theorem dX11_lay_85 : decode cX11_lay 85 = .ok (.aload_n 0, 1) := by decide +kernel
theorem dX11_lay_86 : decode cX11_lay 86 = .ok (.iload 6, 2) := by decide +kernel
theorem dX11_lay_88 : decode cX11_lay 88 = .ok (.iload_n 3, 1) := by decide +kernel
theorem dX11_lay_89 : decode cX11_lay 89 = .ok (.iload 4, 2) := by decide +kernel
theorem dX11_lay_91 : decode cX11_lay 91 = .ok (.iload 5, 2) := by decide +kernel
theorem dX11_lay_93 : decode cX11_lay 93 = .ok (.invokevirtual 397, 3) := by decide +kernel
theorem dX11_lay_96 : decode cX11_lay 96 = .ok (.lastore, 1) := by decide +kernel
theorem dX11_lay_97 : decode cX11_lay 97 = .ok (.iinc 6 1, 3) := by decide +kernel
theorem dX11_lay_100 : decode cX11_lay 100 = .ok (.goto (-65), 3) := by decide +kernel
theorem dX11_lay_103 : decode cX11_lay 103 = .ok (.aload_n 0, 1) := by decide +kernel
theorem dX11_lay_104 : decode cX11_lay 104 = .ok (.getfield 9, 3) := by decide +kernel
theorem dX11_lay_107 : decode cX11_lay 107 = .ok (.sipush 3336, 3) := by decide +kernel
theorem dX11_lay_110 : decode cX11_lay 110 = .ok (.iaload, 1) := by decide +kernel
theorem dX11_lay_111 : decode cX11_lay 111 = .ok (.ireturn, 1) := by decide +kernel
theorem dX11_judge_0 : decode cX11_judge 0 = .ok (.iload_n 1, 1) := by decide +kernel
theorem dX11_judge_1 : decode cX11_judge 1 = .ok (.invokestatic 394, 3) := by decide +kernel
theorem dX11_judge_4 : decode cX11_judge 4 = .ok (.ifCond .eq 14, 3) := by decide +kernel
theorem dX11_judge_7 : decode cX11_judge 7 = .ok (.iload_n 3, 1) := by decide +kernel
theorem dX11_judge_8 : decode cX11_judge 8 = .ok (.iload 4, 2) := by decide +kernel
theorem dX11_judge_10 : decode cX11_judge 10 = .ok (.iload 5, 2) := by decide +kernel
theorem dX11_judge_12 : decode cX11_judge 12 = .ok (.invokestatic 379, 3) := by decide +kernel
theorem dX11_judge_15 : decode cX11_judge 15 = .ok (.ifCond .ne 5, 3) := by decide +kernel
theorem dX11_judge_18 : decode cX11_judge 18 = .ok (.iconst (-1), 1) := by decide +kernel
theorem dX11_judge_19 : decode cX11_judge 19 = .ok (.ireturn, 1) := by decide +kernel
theorem dX11_judge_20 : decode cX11_judge 20 = .ok (.aload_n 0, 1) := by decide +kernel
theorem dX11_judge_21 : decode cX11_judge 21 = .ok (.getfield 87, 3) := by decide +kernel
theorem dX11_judge_24 : decode cX11_judge 24 = .ok (.iload_n 1, 1) := by decide +kernel
theorem dX11_judge_25 : decode cX11_judge 25 = .ok (.iaload, 1) := by decide +kernel
theorem dX11_judge_26 : decode cX11_judge 26 = .ok (.ifCond .ge 6, 3) := by decide +kernel
theorem dX11_judge_29 : decode cX11_judge 29 = .ok (.bipush (-11), 2) := by decide +kernel
theorem dX11_judge_31 : decode cX11_judge 31 = .ok (.ireturn, 1) := by decide +kernel
theorem dX11_judge_32 : decode cX11_judge 32 = .ok (.iconst 0, 1) := by decide +kernel
theorem dX11_judge_33 : decode cX11_judge 33 = .ok (.istore 6, 2) := by decide +kernel
theorem dX11_judge_35 : decode cX11_judge 35 = .ok (.iload 6, 2) := by decide +kernel
theorem dX11_judge_37 : decode cX11_judge 37 = .ok (.aload_n 0, 1) := by decide +kernel
theorem dX11_judge_38 : decode cX11_judge 38 = .ok (.getfield 9, 3) := by decide +kernel
theorem dX11_judge_41 : decode cX11_judge 41 = .ok (.sipush 3336, 3) := by decide +kernel
theorem dX11_judge_44 : decode cX11_judge 44 = .ok (.iaload, 1) := by decide +kernel
theorem dX11_judge_45 : decode cX11_judge 45 = .ok (.if_icmp .ge 68, 3) := by decide +kernel
theorem dX11_judge_48 : decode cX11_judge 48 = .ok (.iload_n 2, 1) := by decide +kernel
theorem dX11_judge_49 : decode cX11_judge 49 = .ok (.ifCond .lt 20, 3) := by decide +kernel
theorem dX11_judge_52 : decode cX11_judge 52 = .ok (.iload_n 2, 1) := by decide +kernel
theorem dX11_judge_53 : decode cX11_judge 53 = .ok (.i2l, 1) := by decide +kernel
theorem dX11_judge_54 : decode cX11_judge 54 = .ok (.iload 6, 2) := by decide +kernel
theorem dX11_judge_56 : decode cX11_judge 56 = .ok (.i2l, 1) := by decide +kernel
theorem dX11_judge_57 : decode cX11_judge 57 = .ok (.ladd, 1) := by decide +kernel
theorem dX11_judge_58 : decode cX11_judge 58 = .ok (.aload_n 0, 1) := by decide +kernel
theorem dX11_judge_59 : decode cX11_judge 59 = .ok (.getfield 87, 3) := by decide +kernel
theorem dX11_judge_62 : decode cX11_judge 62 = .ok (.iload_n 1, 1) := by decide +kernel
theorem dX11_judge_63 : decode cX11_judge 63 = .ok (.iaload, 1) := by decide +kernel
theorem dX11_judge_64 : decode cX11_judge 64 = .ok (.i2l, 1) := by decide +kernel
theorem dX11_judge_65 : decode cX11_judge 65 = .ok (.lcmp, 1) := by decide +kernel
theorem dX11_judge_66 : decode cX11_judge 66 = .ok (.ifCond .lt 9, 3) := by decide +kernel
theorem dX11_judge_69 : decode cX11_judge 69 = .ok (.bipush 100, 2) := by decide +kernel
theorem dX11_judge_71 : decode cX11_judge 71 = .ok (.iload 6, 2) := by decide +kernel
theorem dX11_judge_73 : decode cX11_judge 73 = .ok (.iadd, 1) := by decide +kernel
theorem dX11_judge_74 : decode cX11_judge 74 = .ok (.ireturn, 1) := by decide +kernel
theorem dX11_judge_75 : decode cX11_judge 75 = .ok (.aload_n 0, 1) := by decide +kernel
theorem dX11_judge_76 : decode cX11_judge 76 = .ok (.getfield 90, 3) := by decide +kernel
theorem dX11_judge_79 : decode cX11_judge 79 = .ok (.bipush 40, 2) := by decide +kernel
theorem dX11_judge_81 : decode cX11_judge 81 = .ok (.iload_n 1, 1) := by decide +kernel
theorem dX11_judge_82 : decode cX11_judge 82 = .ok (.imul, 1) := by decide +kernel
theorem dX11_judge_83 : decode cX11_judge 83 = .ok (.iload_n 2, 1) := by decide +kernel
theorem dX11_judge_84 : decode cX11_judge 84 = .ok (.iadd, 1) := by decide +kernel
theorem dX11_judge_85 : decode cX11_judge 85 = .ok (.iload 6, 2) := by decide +kernel
theorem dX11_judge_87 : decode cX11_judge 87 = .ok (.iadd, 1) := by decide +kernel
theorem dX11_judge_88 : decode cX11_judge 88 = .ok (.laload, 1) := by decide +kernel
theorem dX11_judge_89 : decode cX11_judge 89 = .ok (.aload_n 0, 1) := by decide +kernel
theorem dX11_judge_90 : decode cX11_judge 90 = .ok (.iload 6, 2) := by decide +kernel
theorem dX11_judge_92 : decode cX11_judge 92 = .ok (.iload_n 3, 1) := by decide +kernel
theorem dX11_judge_93 : decode cX11_judge 93 = .ok (.iload 4, 2) := by decide +kernel
theorem dX11_judge_95 : decode cX11_judge 95 = .ok (.iload 5, 2) := by decide +kernel
theorem dX11_judge_97 : decode cX11_judge 97 = .ok (.invokevirtual 397, 3) := by decide +kernel
theorem dX11_judge_100 : decode cX11_judge 100 = .ok (.lcmp, 1) := by decide +kernel
theorem dX11_judge_101 : decode cX11_judge 101 = .ok (.ifCond .eq 6, 3) := by decide +kernel
theorem dX11_judge_104 : decode cX11_judge 104 = .ok (.iload 6, 2) := by decide +kernel
theorem dX11_judge_106 : decode cX11_judge 106 = .ok (.ireturn, 1) := by decide +kernel
theorem dX11_judge_107 : decode cX11_judge 107 = .ok (.iinc 6 1, 3) := by decide +kernel
theorem dX11_judge_110 : decode cX11_judge 110 = .ok (.goto (-75), 3) := by decide +kernel
theorem dX11_judge_113 : decode cX11_judge 113 = .ok (.bipush (-5), 2) := by decide +kernel
theorem dX11_judge_115 : decode cX11_judge 115 = .ok (.ireturn, 1) := by decide +kernel
theorem dX11_image_0 : decode cX11_image 0 = .ok (.aload_n 0, 1) := by decide +kernel
theorem dX11_image_1 : decode cX11_image 1 = .ok (.getfield 9, 3) := by decide +kernel
theorem dX11_image_4 : decode cX11_image 4 = .ok (.aload_n 0, 1) := by decide +kernel
theorem dX11_image_5 : decode cX11_image 5 = .ok (.getfield 15, 3) := by decide +kernel
theorem dX11_image_8 : decode cX11_image 8 = .ok (.invokestatic 401, 3) := by decide +kernel
theorem dX11_image_11 : decode cX11_image 11 = .ok (.aload_n 0, 1) := by decide +kernel
theorem dX11_image_12 : decode cX11_image 12 = .ok (.iconst 1, 1) := by decide +kernel
theorem dX11_image_13 : decode cX11_image 13 = .ok (.putfield 405, 3) := by decide +kernel
theorem dX11_image_16 : decode cX11_image 16 = .ok (.aload_n 0, 1) := by decide +kernel
theorem dX11_image_17 : decode cX11_image 17 = .ok (.invokevirtual 97, 3) := by decide +kernel
theorem dX11_image_20 : decode cX11_image 20 = .ok (.ireturn, 1) := by decide +kernel
theorem dX11_undo_0 : decode cX11_undo 0 = .ok (.aload_n 0, 1) := by decide +kernel
theorem dX11_undo_1 : decode cX11_undo 1 = .ok (.getfield 405, 3) := by decide +kernel
theorem dX11_undo_4 : decode cX11_undo 4 = .ok (.ifCond .ne 6, 3) := by decide +kernel
theorem dX11_undo_7 : decode cX11_undo 7 = .ok (.bipush (-3), 2) := by decide +kernel
theorem dX11_undo_9 : decode cX11_undo 9 = .ok (.ireturn, 1) := by decide +kernel
theorem dX11_undo_10 : decode cX11_undo 10 = .ok (.aload_n 0, 1) := by decide +kernel
theorem dX11_undo_11 : decode cX11_undo 11 = .ok (.getfield 15, 3) := by decide +kernel
theorem dX11_undo_14 : decode cX11_undo 14 = .ok (.aload_n 0, 1) := by decide +kernel
theorem dX11_undo_15 : decode cX11_undo 15 = .ok (.getfield 9, 3) := by decide +kernel
theorem dX11_undo_18 : decode cX11_undo 18 = .ok (.invokestatic 401, 3) := by decide +kernel
theorem dX11_undo_21 : decode cX11_undo 21 = .ok (.aload_n 0, 1) := by decide +kernel
theorem dX11_undo_22 : decode cX11_undo 22 = .ok (.invokevirtual 97, 3) := by decide +kernel
theorem dX11_undo_25 : decode cX11_undo 25 = .ok (.ireturn, 1) := by decide +kernel
theorem dJ6_bitCount_0f7a4_0 : decode cJ6_bitCount_0f7a4 0 = .ok (.iload_n 0, 1) := by decide +kernel
theorem dJ6_bitCount_0f7a4_1 : decode cJ6_bitCount_0f7a4 1 = .ok (.iload_n 0, 1) := by decide +kernel
theorem dJ6_bitCount_0f7a4_2 : decode cJ6_bitCount_0f7a4 2 = .ok (.iconst 1, 1) := by decide +kernel
theorem dJ6_bitCount_0f7a4_3 : decode cJ6_bitCount_0f7a4 3 = .ok (.iushr, 1) := by decide +kernel
theorem dJ6_bitCount_0f7a4_4 : decode cJ6_bitCount_0f7a4 4 = .ok (.ldc_w 265, 3) := by decide +kernel
theorem dJ6_bitCount_0f7a4_7 : decode cJ6_bitCount_0f7a4 7 = .ok (.iand, 1) := by decide +kernel
theorem dJ6_bitCount_0f7a4_8 : decode cJ6_bitCount_0f7a4 8 = .ok (.isub, 1) := by decide +kernel
theorem dJ6_bitCount_0f7a4_9 : decode cJ6_bitCount_0f7a4 9 = .ok (.istore_n 0, 1) := by decide +kernel
theorem dJ6_bitCount_0f7a4_10 : decode cJ6_bitCount_0f7a4 10 = .ok (.iload_n 0, 1) := by decide +kernel
theorem dJ6_bitCount_0f7a4_11 : decode cJ6_bitCount_0f7a4 11 = .ok (.ldc_w 266, 3) := by decide +kernel
theorem dJ6_bitCount_0f7a4_14 : decode cJ6_bitCount_0f7a4 14 = .ok (.iand, 1) := by decide +kernel
theorem dJ6_bitCount_0f7a4_15 : decode cJ6_bitCount_0f7a4 15 = .ok (.iload_n 0, 1) := by decide +kernel
theorem dJ6_bitCount_0f7a4_16 : decode cJ6_bitCount_0f7a4 16 = .ok (.iconst 2, 1) := by decide +kernel
theorem dJ6_bitCount_0f7a4_17 : decode cJ6_bitCount_0f7a4 17 = .ok (.iushr, 1) := by decide +kernel
theorem dJ6_bitCount_0f7a4_18 : decode cJ6_bitCount_0f7a4 18 = .ok (.ldc_w 266, 3) := by decide +kernel
theorem dJ6_bitCount_0f7a4_21 : decode cJ6_bitCount_0f7a4 21 = .ok (.iand, 1) := by decide +kernel
theorem dJ6_bitCount_0f7a4_22 : decode cJ6_bitCount_0f7a4 22 = .ok (.iadd, 1) := by decide +kernel
theorem dJ6_bitCount_0f7a4_23 : decode cJ6_bitCount_0f7a4 23 = .ok (.istore_n 0, 1) := by decide +kernel
theorem dJ6_bitCount_0f7a4_24 : decode cJ6_bitCount_0f7a4 24 = .ok (.iload_n 0, 1) := by decide +kernel
theorem dJ6_bitCount_0f7a4_25 : decode cJ6_bitCount_0f7a4 25 = .ok (.iload_n 0, 1) := by decide +kernel
theorem dJ6_bitCount_0f7a4_26 : decode cJ6_bitCount_0f7a4 26 = .ok (.iconst 4, 1) := by decide +kernel
theorem dJ6_bitCount_0f7a4_27 : decode cJ6_bitCount_0f7a4 27 = .ok (.iushr, 1) := by decide +kernel
theorem dJ6_bitCount_0f7a4_28 : decode cJ6_bitCount_0f7a4 28 = .ok (.iadd, 1) := by decide +kernel
theorem dJ6_bitCount_0f7a4_29 : decode cJ6_bitCount_0f7a4 29 = .ok (.ldc_w 267, 3) := by decide +kernel
theorem dJ6_bitCount_0f7a4_32 : decode cJ6_bitCount_0f7a4 32 = .ok (.iand, 1) := by decide +kernel
theorem dJ6_bitCount_0f7a4_33 : decode cJ6_bitCount_0f7a4 33 = .ok (.istore_n 0, 1) := by decide +kernel
theorem dJ6_bitCount_0f7a4_34 : decode cJ6_bitCount_0f7a4 34 = .ok (.iload_n 0, 1) := by decide +kernel
theorem dJ6_bitCount_0f7a4_35 : decode cJ6_bitCount_0f7a4 35 = .ok (.iload_n 0, 1) := by decide +kernel
theorem dJ6_bitCount_0f7a4_36 : decode cJ6_bitCount_0f7a4 36 = .ok (.bipush 8, 2) := by decide +kernel
theorem dJ6_bitCount_0f7a4_38 : decode cJ6_bitCount_0f7a4 38 = .ok (.iushr, 1) := by decide +kernel
theorem dJ6_bitCount_0f7a4_39 : decode cJ6_bitCount_0f7a4 39 = .ok (.iadd, 1) := by decide +kernel
theorem dJ6_bitCount_0f7a4_40 : decode cJ6_bitCount_0f7a4 40 = .ok (.istore_n 0, 1) := by decide +kernel
theorem dJ6_bitCount_0f7a4_41 : decode cJ6_bitCount_0f7a4 41 = .ok (.iload_n 0, 1) := by decide +kernel
theorem dJ6_bitCount_0f7a4_42 : decode cJ6_bitCount_0f7a4 42 = .ok (.iload_n 0, 1) := by decide +kernel
theorem dJ6_bitCount_0f7a4_43 : decode cJ6_bitCount_0f7a4 43 = .ok (.bipush 16, 2) := by decide +kernel
theorem dJ6_bitCount_0f7a4_45 : decode cJ6_bitCount_0f7a4 45 = .ok (.iushr, 1) := by decide +kernel
theorem dJ6_bitCount_0f7a4_46 : decode cJ6_bitCount_0f7a4 46 = .ok (.iadd, 1) := by decide +kernel
theorem dJ6_bitCount_0f7a4_47 : decode cJ6_bitCount_0f7a4 47 = .ok (.istore_n 0, 1) := by decide +kernel
theorem dJ6_bitCount_0f7a4_48 : decode cJ6_bitCount_0f7a4 48 = .ok (.iload_n 0, 1) := by decide +kernel
theorem dJ6_bitCount_0f7a4_49 : decode cJ6_bitCount_0f7a4 49 = .ok (.bipush 63, 2) := by decide +kernel
theorem dJ6_bitCount_0f7a4_51 : decode cJ6_bitCount_0f7a4 51 = .ok (.iand, 1) := by decide +kernel
theorem dJ6_bitCount_0f7a4_52 : decode cJ6_bitCount_0f7a4 52 = .ok (.ireturn, 1) := by decide +kernel
theorem dJ9_floorDiv_f86c9_0 : decode cJ9_floorDiv_f86c9 0 = .ok (.lload_n 0, 1) := by decide +kernel
theorem dJ9_floorDiv_f86c9_1 : decode cJ9_floorDiv_f86c9 1 = .ok (.lload_n 2, 1) := by decide +kernel
theorem dJ9_floorDiv_f86c9_2 : decode cJ9_floorDiv_f86c9 2 = .ok (.ldiv, 1) := by decide +kernel
theorem dJ9_floorDiv_f86c9_3 : decode cJ9_floorDiv_f86c9 3 = .ok (.lstore 4, 2) := by decide +kernel
theorem dJ9_floorDiv_f86c9_5 : decode cJ9_floorDiv_f86c9 5 = .ok (.lload_n 0, 1) := by decide +kernel
theorem dJ9_floorDiv_f86c9_6 : decode cJ9_floorDiv_f86c9 6 = .ok (.lload_n 2, 1) := by decide +kernel
theorem dJ9_floorDiv_f86c9_7 : decode cJ9_floorDiv_f86c9 7 = .ok (.lxor, 1) := by decide +kernel
theorem dJ9_floorDiv_f86c9_8 : decode cJ9_floorDiv_f86c9 8 = .ok (.lconst 0, 1) := by decide +kernel
theorem dJ9_floorDiv_f86c9_9 : decode cJ9_floorDiv_f86c9 9 = .ok (.lcmp, 1) := by decide +kernel
theorem dJ9_floorDiv_f86c9_10 : decode cJ9_floorDiv_f86c9 10 = .ok (.ifCond .ge 17, 3) := by decide +kernel
theorem dJ9_floorDiv_f86c9_13 : decode cJ9_floorDiv_f86c9 13 = .ok (.lload 4, 2) := by decide +kernel
theorem dJ9_floorDiv_f86c9_15 : decode cJ9_floorDiv_f86c9 15 = .ok (.lload_n 2, 1) := by decide +kernel
theorem dJ9_floorDiv_f86c9_16 : decode cJ9_floorDiv_f86c9 16 = .ok (.lmul, 1) := by decide +kernel
theorem dJ9_floorDiv_f86c9_17 : decode cJ9_floorDiv_f86c9 17 = .ok (.lload_n 0, 1) := by decide +kernel
theorem dJ9_floorDiv_f86c9_18 : decode cJ9_floorDiv_f86c9 18 = .ok (.lcmp, 1) := by decide +kernel
theorem dJ9_floorDiv_f86c9_19 : decode cJ9_floorDiv_f86c9 19 = .ok (.ifCond .eq 8, 3) := by decide +kernel
theorem dJ9_floorDiv_f86c9_22 : decode cJ9_floorDiv_f86c9 22 = .ok (.lload 4, 2) := by decide +kernel
theorem dJ9_floorDiv_f86c9_24 : decode cJ9_floorDiv_f86c9 24 = .ok (.lconst 1, 1) := by decide +kernel
theorem dJ9_floorDiv_f86c9_25 : decode cJ9_floorDiv_f86c9 25 = .ok (.lsub, 1) := by decide +kernel
theorem dJ9_floorDiv_f86c9_26 : decode cJ9_floorDiv_f86c9 26 = .ok (.lreturn, 1) := by decide +kernel
theorem dJ9_floorDiv_f86c9_27 : decode cJ9_floorDiv_f86c9 27 = .ok (.lload 4, 2) := by decide +kernel
theorem dJ9_floorDiv_f86c9_29 : decode cJ9_floorDiv_f86c9 29 = .ok (.lreturn, 1) := by decide +kernel
theorem dJ9_max_7cf53_0 : decode cJ9_max_7cf53 0 = .ok (.iload_n 0, 1) := by decide +kernel
theorem dJ9_max_7cf53_1 : decode cJ9_max_7cf53 1 = .ok (.iload_n 1, 1) := by decide +kernel
theorem dJ9_max_7cf53_2 : decode cJ9_max_7cf53 2 = .ok (.if_icmp .lt 7, 3) := by decide +kernel
theorem dJ9_max_7cf53_5 : decode cJ9_max_7cf53 5 = .ok (.iload_n 0, 1) := by decide +kernel
theorem dJ9_max_7cf53_6 : decode cJ9_max_7cf53 6 = .ok (.goto 4, 3) := by decide +kernel
theorem dJ9_max_7cf53_9 : decode cJ9_max_7cf53 9 = .ok (.iload_n 1, 1) := by decide +kernel
theorem dJ9_max_7cf53_10 : decode cJ9_max_7cf53 10 = .ok (.ireturn, 1) := by decide +kernel
theorem dJ9_max_f86c9_0 : decode cJ9_max_f86c9 0 = .ok (.lload_n 0, 1) := by decide +kernel
theorem dJ9_max_f86c9_1 : decode cJ9_max_f86c9 1 = .ok (.lload_n 2, 1) := by decide +kernel
theorem dJ9_max_f86c9_2 : decode cJ9_max_f86c9 2 = .ok (.lcmp, 1) := by decide +kernel
theorem dJ9_max_f86c9_3 : decode cJ9_max_f86c9 3 = .ok (.ifCond .lt 7, 3) := by decide +kernel
theorem dJ9_max_f86c9_6 : decode cJ9_max_f86c9 6 = .ok (.lload_n 0, 1) := by decide +kernel
theorem dJ9_max_f86c9_7 : decode cJ9_max_f86c9 7 = .ok (.goto 4, 3) := by decide +kernel
theorem dJ9_max_f86c9_10 : decode cJ9_max_f86c9 10 = .ok (.lload_n 2, 1) := by decide +kernel
theorem dJ9_max_f86c9_11 : decode cJ9_max_f86c9 11 = .ok (.lreturn, 1) := by decide +kernel
theorem dJ9_min_7cf53_0 : decode cJ9_min_7cf53 0 = .ok (.iload_n 0, 1) := by decide +kernel
theorem dJ9_min_7cf53_1 : decode cJ9_min_7cf53 1 = .ok (.iload_n 1, 1) := by decide +kernel
theorem dJ9_min_7cf53_2 : decode cJ9_min_7cf53 2 = .ok (.if_icmp .gt 7, 3) := by decide +kernel
theorem dJ9_min_7cf53_5 : decode cJ9_min_7cf53 5 = .ok (.iload_n 0, 1) := by decide +kernel
theorem dJ9_min_7cf53_6 : decode cJ9_min_7cf53 6 = .ok (.goto 4, 3) := by decide +kernel
theorem dJ9_min_7cf53_9 : decode cJ9_min_7cf53 9 = .ok (.iload_n 1, 1) := by decide +kernel
theorem dJ9_min_7cf53_10 : decode cJ9_min_7cf53 10 = .ok (.ireturn, 1) := by decide +kernel
theorem dJ9_min_f86c9_0 : decode cJ9_min_f86c9 0 = .ok (.lload_n 0, 1) := by decide +kernel
theorem dJ9_min_f86c9_1 : decode cJ9_min_f86c9 1 = .ok (.lload_n 2, 1) := by decide +kernel
theorem dJ9_min_f86c9_2 : decode cJ9_min_f86c9 2 = .ok (.lcmp, 1) := by decide +kernel
theorem dJ9_min_f86c9_3 : decode cJ9_min_f86c9 3 = .ok (.ifCond .gt 7, 3) := by decide +kernel
theorem dJ9_min_f86c9_6 : decode cJ9_min_f86c9 6 = .ok (.lload_n 0, 1) := by decide +kernel
theorem dJ9_min_f86c9_7 : decode cJ9_min_f86c9 7 = .ok (.goto 4, 3) := by decide +kernel
theorem dJ9_min_f86c9_10 : decode cJ9_min_f86c9 10 = .ok (.lload_n 2, 1) := by decide +kernel
theorem dJ9_min_f86c9_11 : decode cJ9_min_f86c9 11 = .ok (.lreturn, 1) := by decide +kernel
theorem dJ7_fill_d0a16_0 : decode cJ7_fill_d0a16 0 = .ok (.iconst 0, 1) := by decide +kernel
theorem dJ7_fill_d0a16_1 : decode cJ7_fill_d0a16 1 = .ok (.istore_n 3, 1) := by decide +kernel
theorem dJ7_fill_d0a16_2 : decode cJ7_fill_d0a16 2 = .ok (.aload_n 0, 1) := by decide +kernel
theorem dJ7_fill_d0a16_3 : decode cJ7_fill_d0a16 3 = .ok (.arraylength, 1) := by decide +kernel
theorem dJ7_fill_d0a16_4 : decode cJ7_fill_d0a16 4 = .ok (.istore 4, 2) := by decide +kernel
theorem dJ7_fill_d0a16_6 : decode cJ7_fill_d0a16 6 = .ok (.iload_n 3, 1) := by decide +kernel
theorem dJ7_fill_d0a16_7 : decode cJ7_fill_d0a16 7 = .ok (.iload 4, 2) := by decide +kernel
theorem dJ7_fill_d0a16_9 : decode cJ7_fill_d0a16 9 = .ok (.if_icmp .ge 13, 3) := by decide +kernel
theorem dJ7_fill_d0a16_12 : decode cJ7_fill_d0a16 12 = .ok (.aload_n 0, 1) := by decide +kernel
theorem dJ7_fill_d0a16_13 : decode cJ7_fill_d0a16 13 = .ok (.iload_n 3, 1) := by decide +kernel
theorem dJ7_fill_d0a16_14 : decode cJ7_fill_d0a16 14 = .ok (.lload_n 1, 1) := by decide +kernel
theorem dJ7_fill_d0a16_15 : decode cJ7_fill_d0a16 15 = .ok (.lastore, 1) := by decide +kernel
theorem dJ7_fill_d0a16_16 : decode cJ7_fill_d0a16 16 = .ok (.iinc 3 1, 3) := by decide +kernel
theorem dJ7_fill_d0a16_19 : decode cJ7_fill_d0a16 19 = .ok (.goto (-13), 3) := by decide +kernel
theorem dJ7_fill_d0a16_22 : decode cJ7_fill_d0a16 22 = .ok (.return_, 1) := by decide +kernel
theorem dJ7_copyOf_59c91_0 : decode cJ7_copyOf_59c91 0 = .ok (.iload_n 1, 1) := by decide +kernel
theorem dJ7_copyOf_59c91_1 : decode cJ7_copyOf_59c91 1 = .ok (.aload_n 0, 1) := by decide +kernel
theorem dJ7_copyOf_59c91_2 : decode cJ7_copyOf_59c91 2 = .ok (.arraylength, 1) := by decide +kernel
theorem dJ7_copyOf_59c91_3 : decode cJ7_copyOf_59c91 3 = .ok (.if_icmp .ne 11, 3) := by decide +kernel
theorem dJ7_copyOf_59c91_6 : decode cJ7_copyOf_59c91 6 = .ok (.aload_n 0, 1) := by decide +kernel
theorem dJ7_copyOf_59c91_7 : decode cJ7_copyOf_59c91 7 = .ok (.invokevirtual 316, 3) := by decide +kernel
theorem dJ7_copyOf_59c91_10 : decode cJ7_copyOf_59c91 10 = .ok (.checkcast 317, 3) := by decide +kernel
theorem dJ7_copyOf_59c91_13 : decode cJ7_copyOf_59c91 13 = .ok (.areturn, 1) := by decide +kernel
theorem dJ7_copyOf_59c91_14 : decode cJ7_copyOf_59c91 14 = .ok (.iload_n 1, 1) := by decide +kernel
theorem dJ7_copyOf_59c91_15 : decode cJ7_copyOf_59c91 15 = .ok (.newarray .int, 2) := by decide +kernel
theorem dJ7_copyOf_59c91_17 : decode cJ7_copyOf_59c91 17 = .ok (.astore_n 2, 1) := by decide +kernel
theorem dJ7_copyOf_59c91_18 : decode cJ7_copyOf_59c91 18 = .ok (.aload_n 0, 1) := by decide +kernel
theorem dJ7_copyOf_59c91_19 : decode cJ7_copyOf_59c91 19 = .ok (.iconst 0, 1) := by decide +kernel
theorem dJ7_copyOf_59c91_20 : decode cJ7_copyOf_59c91 20 = .ok (.aload_n 2, 1) := by decide +kernel
theorem dJ7_copyOf_59c91_21 : decode cJ7_copyOf_59c91 21 = .ok (.iconst 0, 1) := by decide +kernel
theorem dJ7_copyOf_59c91_22 : decode cJ7_copyOf_59c91 22 = .ok (.aload_n 0, 1) := by decide +kernel
theorem dJ7_copyOf_59c91_23 : decode cJ7_copyOf_59c91 23 = .ok (.arraylength, 1) := by decide +kernel
theorem dJ7_copyOf_59c91_24 : decode cJ7_copyOf_59c91 24 = .ok (.iload_n 1, 1) := by decide +kernel
theorem dJ7_copyOf_59c91_25 : decode cJ7_copyOf_59c91 25 = .ok (.invokestatic 304, 3) := by decide +kernel
theorem dJ7_copyOf_59c91_28 : decode cJ7_copyOf_59c91 28 = .ok (.invokestatic 150, 3) := by decide +kernel
theorem dJ7_copyOf_59c91_31 : decode cJ7_copyOf_59c91 31 = .ok (.aload_n 2, 1) := by decide +kernel
theorem dJ7_copyOf_59c91_32 : decode cJ7_copyOf_59c91 32 = .ok (.areturn, 1) := by decide +kernel
theorem dL_law_0 : decode cL_law 0 = .ok (.new 7, 3) := by decide +kernel
theorem dL_law_3 : decode cL_law 3 = .ok (.dup, 1) := by decide +kernel
theorem dL_law_4 : decode cL_law 4 = .ok (.invokespecial 9, 3) := by decide +kernel
theorem dL_law_7 : decode cL_law 7 = .ok (.astore_n 1, 1) := by decide +kernel
theorem dL_law_8 : decode cL_law 8 = .ok (.new 10, 3) := by decide +kernel
theorem dL_law_11 : decode cL_law 11 = .ok (.dup, 1) := by decide +kernel
theorem dL_law_12 : decode cL_law 12 = .ok (.invokespecial 12, 3) := by decide +kernel
theorem dL_law_15 : decode cL_law 15 = .ok (.astore_n 2, 1) := by decide +kernel
theorem dL_law_16 : decode cL_law 16 = .ok (.iconst 0, 1) := by decide +kernel
theorem dL_law_17 : decode cL_law 17 = .ok (.istore_n 3, 1) := by decide +kernel
theorem dL_law_18 : decode cL_law 18 = .ok (.iload_n 3, 1) := by decide +kernel
theorem dL_law_19 : decode cL_law 19 = .ok (.aload_n 0, 1) := by decide +kernel
theorem dL_law_20 : decode cL_law 20 = .ok (.arraylength, 1) := by decide +kernel
theorem dL_law_21 : decode cL_law 21 = .ok (.bipush 6, 2) := by decide +kernel
theorem dL_law_23 : decode cL_law 23 = .ok (.isub, 1) := by decide +kernel
theorem dL_law_24 : decode cL_law 24 = .ok (.if_icmp .gt 1237, 3) := by decide +kernel
theorem dL_law_27 : decode cL_law 27 = .ok (.aload_n 0, 1) := by decide +kernel
theorem dL_law_28 : decode cL_law 28 = .ok (.iload_n 3, 1) := by decide +kernel
theorem dL_law_29 : decode cL_law 29 = .ok (.iaload, 1) := by decide +kernel
theorem dL_law_30 : decode cL_law 30 = .ok (.bipush 63, 2) := by decide +kernel
theorem dL_law_32 : decode cL_law 32 = .ok (.iand, 1) := by decide +kernel
theorem dL_law_33 : decode cL_law 33 = .ok (.tableswitch 1222 0 34 #[155, 188, 231, 244, 277, 300, 313, 326, 339, 372, 385, 408, 441, 464, 487, 520, 543, 566, 599, 622, 655, 688, 701, 734, 767, 821, 844, 867, 900, 973, 1007, 1070, 1133, 1196, 1209], 155) := by decide +kernel
theorem dL_law_188 : decode cL_law 188 = .ok (.aload_n 1, 1) := by decide +kernel
theorem dL_law_189 : decode cL_law 189 = .ok (.aload_n 0, 1) := by decide +kernel
theorem dL_law_190 : decode cL_law 190 = .ok (.iload_n 3, 1) := by decide +kernel
theorem dL_law_191 : decode cL_law 191 = .ok (.iconst 1, 1) := by decide +kernel
theorem dL_law_192 : decode cL_law 192 = .ok (.iadd, 1) := by decide +kernel
theorem dL_law_193 : decode cL_law 193 = .ok (.iaload, 1) := by decide +kernel
theorem dL_law_194 : decode cL_law 194 = .ok (.aload_n 0, 1) := by decide +kernel
theorem dL_law_195 : decode cL_law 195 = .ok (.iload_n 3, 1) := by decide +kernel
theorem dL_law_196 : decode cL_law 196 = .ok (.iconst 2, 1) := by decide +kernel
theorem dL_law_197 : decode cL_law 197 = .ok (.iadd, 1) := by decide +kernel
theorem dL_law_198 : decode cL_law 198 = .ok (.iaload, 1) := by decide +kernel
theorem dL_law_199 : decode cL_law 199 = .ok (.invokevirtual 13, 3) := by decide +kernel
