/-! decode rows, 4 -/
theorem dX10_label_11 : decode cX10_label 11 = .ok (.ifCond .eq 32, 3) := by decide +kernel
theorem dX10_label_14 : decode cX10_label 14 = .ok (.aload_n 0, 1) := by decide +kernel
theorem dX10_label_15 : decode cX10_label 15 = .ok (.getfield 12, 3) := by decide +kernel
theorem dX10_label_18 : decode cX10_label 18 = .ok (.getfield 55, 3) := by decide +kernel
theorem dX10_label_21 : decode cX10_label 21 = .ok (.iload_n 2, 1) := by decide +kernel
theorem dX10_label_22 : decode cX10_label 22 = .ok (.invokevirtual 73, 3) := by decide +kernel
theorem dX10_label_25 : decode cX10_label 25 = .ok (.ifCond .eq 18, 3) := by decide +kernel
theorem dX10_label_28 : decode cX10_label 28 = .ok (.aload_n 0, 1) := by decide +kernel
theorem dX10_label_29 : decode cX10_label 29 = .ok (.getfield 12, 3) := by decide +kernel
theorem dX10_label_32 : decode cX10_label 32 = .ok (.getfield 69, 3) := by decide +kernel
theorem dX10_label_35 : decode cX10_label 35 = .ok (.iload_n 1, 1) := by decide +kernel
theorem dX10_label_36 : decode cX10_label 36 = .ok (.iload_n 2, 1) := by decide +kernel
theorem dX10_label_37 : decode cX10_label 37 = .ok (.invokevirtual 198, 3) := by decide +kernel
theorem dX10_label_40 : decode cX10_label 40 = .ok (.goto 4, 3) := by decide +kernel
theorem dX10_label_43 : decode cX10_label 43 = .ok (.iconst (-1), 1) := by decide +kernel
theorem dX10_label_44 : decode cX10_label 44 = .ok (.ireturn, 1) := by decide +kernel
theorem dX10_measure_0 : decode cX10_measure 0 = .ok (.aload_n 0, 1) := by decide +kernel
theorem dX10_measure_1 : decode cX10_measure 1 = .ok (.getfield 12, 3) := by decide +kernel
theorem dX10_measure_4 : decode cX10_measure 4 = .ok (.getfield 69, 3) := by decide +kernel
theorem dX10_measure_7 : decode cX10_measure 7 = .ok (.iload_n 1, 1) := by decide +kernel
theorem dX10_measure_8 : decode cX10_measure 8 = .ok (.invokevirtual 181, 3) := by decide +kernel
theorem dX10_measure_11 : decode cX10_measure 11 = .ok (.ifCond .eq 13, 3) := by decide +kernel
theorem dX10_measure_14 : decode cX10_measure 14 = .ok (.iload_n 2, 1) := by decide +kernel
theorem dX10_measure_15 : decode cX10_measure 15 = .ok (.iload_n 3, 1) := by decide +kernel
theorem dX10_measure_16 : decode cX10_measure 16 = .ok (.iload 4, 2) := by decide +kernel
theorem dX10_measure_18 : decode cX10_measure 18 = .ok (.invokestatic 201, 3) := by decide +kernel
theorem dX10_measure_21 : decode cX10_measure 21 = .ok (.ifCond .ne 7, 3) := by decide +kernel
theorem dX10_measure_24 : decode cX10_measure 24 = .ok (.ldc2_w 205, 3) := by decide +kernel
theorem dX10_measure_27 : decode cX10_measure 27 = .ok (.lreturn, 1) := by decide +kernel
theorem dX10_measure_28 : decode cX10_measure 28 = .ok (.aload_n 0, 1) := by decide +kernel
theorem dX10_measure_29 : decode cX10_measure 29 = .ok (.getfield 12, 3) := by decide +kernel
theorem dX10_measure_32 : decode cX10_measure 32 = .ok (.getfield 69, 3) := by decide +kernel
theorem dX10_measure_35 : decode cX10_measure 35 = .ok (.iload_n 1, 1) := by decide +kernel
theorem dX10_measure_36 : decode cX10_measure 36 = .ok (.iload_n 2, 1) := by decide +kernel
theorem dX10_measure_37 : decode cX10_measure 37 = .ok (.iload_n 3, 1) := by decide +kernel
theorem dX10_measure_38 : decode cX10_measure 38 = .ok (.iload 4, 2) := by decide +kernel
theorem dX10_measure_40 : decode cX10_measure 40 = .ok (.aload_n 0, 1) := by decide +kernel
theorem dX10_measure_41 : decode cX10_measure 41 = .ok (.getfield 12, 3) := by decide +kernel
theorem dX10_measure_44 : decode cX10_measure 44 = .ok (.getfield 55, 3) := by decide +kernel
theorem dX10_measure_47 : decode cX10_measure 47 = .ok (.invokevirtual 207, 3) := by decide +kernel
theorem dX10_measure_50 : decode cX10_measure 50 = .ok (.lreturn, 1) := by decide +kernel
theorem dX10_covered_0 : decode cX10_covered 0 = .ok (.aload_n 0, 1) := by decide +kernel
theorem dX10_covered_1 : decode cX10_covered 1 = .ok (.getfield 12, 3) := by decide +kernel
theorem dX10_covered_4 : decode cX10_covered 4 = .ok (.getfield 55, 3) := by decide +kernel
theorem dX10_covered_7 : decode cX10_covered 7 = .ok (.iload_n 1, 1) := by decide +kernel
theorem dX10_covered_8 : decode cX10_covered 8 = .ok (.invokevirtual 73, 3) := by decide +kernel
theorem dX10_covered_11 : decode cX10_covered 11 = .ok (.ifCond .eq 17, 3) := by decide +kernel
theorem dX10_covered_14 : decode cX10_covered 14 = .ok (.aload_n 0, 1) := by decide +kernel
theorem dX10_covered_15 : decode cX10_covered 15 = .ok (.getfield 12, 3) := by decide +kernel
theorem dX10_covered_18 : decode cX10_covered 18 = .ok (.getfield 69, 3) := by decide +kernel
theorem dX10_covered_21 : decode cX10_covered 21 = .ok (.iload_n 1, 1) := by decide +kernel
theorem dX10_covered_22 : decode cX10_covered 22 = .ok (.invokevirtual 211, 3) := by decide +kernel
theorem dX10_covered_25 : decode cX10_covered 25 = .ok (.goto 4, 3) := by decide +kernel
theorem dX10_covered_28 : decode cX10_covered 28 = .ok (.iconst (-1), 1) := by decide +kernel
theorem dX10_covered_29 : decode cX10_covered 29 = .ok (.ireturn, 1) := by decide +kernel
theorem dX10_told_0 : decode cX10_told 0 = .ok (.iload_n 1, 1) := by decide +kernel
theorem dX10_told_1 : decode cX10_told 1 = .ok (.tableswitch 155 0 9 #[55, 66, 91, 102, 110, 118, 126, 134, 142, 147], 55) := by decide +kernel
theorem dX10_told_56 : decode cX10_told 56 = .ok (.aload_n 0, 1) := by decide +kernel
theorem dX10_told_57 : decode cX10_told 57 = .ok (.getfield 12, 3) := by decide +kernel
theorem dX10_told_60 : decode cX10_told 60 = .ok (.getfield 55, 3) := by decide +kernel
theorem dX10_told_63 : decode cX10_told 63 = .ok (.getfield 59, 3) := by decide +kernel
theorem dX10_told_66 : decode cX10_told 66 = .ok (.ireturn, 1) := by decide +kernel
theorem dX10_told_67 : decode cX10_told 67 = .ok (.aload_n 0, 1) := by decide +kernel
theorem dX10_told_68 : decode cX10_told 68 = .ok (.getfield 12, 3) := by decide +kernel
theorem dX10_told_71 : decode cX10_told 71 = .ok (.getfield 103, 3) := by decide +kernel
theorem dX10_told_74 : decode cX10_told 74 = .ok (.ifnonnull 7, 3) := by decide +kernel
theorem dX10_told_77 : decode cX10_told 77 = .ok (.iconst 0, 1) := by decide +kernel
theorem dX10_told_78 : decode cX10_told 78 = .ok (.goto 13, 3) := by decide +kernel
theorem dX10_told_81 : decode cX10_told 81 = .ok (.aload_n 0, 1) := by decide +kernel
theorem dX10_told_82 : decode cX10_told 82 = .ok (.getfield 12, 3) := by decide +kernel
theorem dX10_told_85 : decode cX10_told 85 = .ok (.getfield 103, 3) := by decide +kernel
theorem dX10_told_88 : decode cX10_told 88 = .ok (.getfield 107, 3) := by decide +kernel
theorem dX10_told_91 : decode cX10_told 91 = .ok (.ireturn, 1) := by decide +kernel
theorem dX10_told_92 : decode cX10_told 92 = .ok (.aload_n 0, 1) := by decide +kernel
theorem dX10_told_93 : decode cX10_told 93 = .ok (.getfield 12, 3) := by decide +kernel
theorem dX10_told_96 : decode cX10_told 96 = .ok (.getfield 69, 3) := by decide +kernel
theorem dX10_told_99 : decode cX10_told 99 = .ok (.getfield 72, 3) := by decide +kernel
theorem dX10_told_102 : decode cX10_told 102 = .ok (.ireturn, 1) := by decide +kernel
theorem dX10_told_103 : decode cX10_told 103 = .ok (.aload_n 0, 1) := by decide +kernel
theorem dX10_told_104 : decode cX10_told 104 = .ok (.getfield 12, 3) := by decide +kernel
theorem dX10_told_107 : decode cX10_told 107 = .ok (.getfield 141, 3) := by decide +kernel
theorem dX10_told_110 : decode cX10_told 110 = .ok (.ireturn, 1) := by decide +kernel
theorem dX10_told_111 : decode cX10_told 111 = .ok (.aload_n 0, 1) := by decide +kernel
theorem dX10_told_112 : decode cX10_told 112 = .ok (.getfield 12, 3) := by decide +kernel
theorem dX10_told_115 : decode cX10_told 115 = .ok (.getfield 138, 3) := by decide +kernel
theorem dX10_told_118 : decode cX10_told 118 = .ok (.ireturn, 1) := by decide +kernel
theorem dX10_told_119 : decode cX10_told 119 = .ok (.aload_n 0, 1) := by decide +kernel
theorem dX10_told_120 : decode cX10_told 120 = .ok (.getfield 12, 3) := by decide +kernel
theorem dX10_told_123 : decode cX10_told 123 = .ok (.getfield 144, 3) := by decide +kernel
theorem dX10_told_126 : decode cX10_told 126 = .ok (.ireturn, 1) := by decide +kernel
theorem dX10_told_127 : decode cX10_told 127 = .ok (.aload_n 0, 1) := by decide +kernel
theorem dX10_told_128 : decode cX10_told 128 = .ok (.getfield 12, 3) := by decide +kernel
theorem dX10_told_131 : decode cX10_told 131 = .ok (.getfield 147, 3) := by decide +kernel
theorem dX10_told_134 : decode cX10_told 134 = .ok (.ireturn, 1) := by decide +kernel
theorem dX10_told_135 : decode cX10_told 135 = .ok (.aload_n 0, 1) := by decide +kernel
theorem dX10_told_136 : decode cX10_told 136 = .ok (.getfield 12, 3) := by decide +kernel
theorem dX10_told_139 : decode cX10_told 139 = .ok (.invokevirtual 214, 3) := by decide +kernel
theorem dX10_told_142 : decode cX10_told 142 = .ok (.ireturn, 1) := by decide +kernel
theorem dX10_told_143 : decode cX10_told 143 = .ok (.aload_n 0, 1) := by decide +kernel
theorem dX10_told_144 : decode cX10_told 144 = .ok (.invokevirtual 217, 3) := by decide +kernel
theorem dX10_told_147 : decode cX10_told 147 = .ok (.ireturn, 1) := by decide +kernel
theorem dX10_told_148 : decode cX10_told 148 = .ok (.aload_n 0, 1) := by decide +kernel
theorem dX10_told_149 : decode cX10_told 149 = .ok (.getfield 30, 3) := by decide +kernel
theorem dX10_told_152 : decode cX10_told 152 = .ok (.getfield 86, 3) := by decide +kernel
theorem dX10_told_155 : decode cX10_told 155 = .ok (.ireturn, 1) := by decide +kernel
theorem dX10_told_156 : decode cX10_told 156 = .ok (.iconst (-1), 1) := by decide +kernel
theorem dX10_told_157 : decode cX10_told 157 = .ok (.ireturn, 1) := by decide +kernel
theorem dX10_list_0 : decode cX10_list 0 = .ok (.aload_n 0, 1) := by decide +kernel
theorem dX10_list_1 : decode cX10_list 1 = .ok (.iload_n 1, 1) := by decide +kernel
theorem dX10_list_2 : decode cX10_list 2 = .ok (.invokevirtual 220, 3) := by decide +kernel
theorem dX10_list_5 : decode cX10_list 5 = .ok (.astore_n 3, 1) := by decide +kernel
theorem dX10_list_6 : decode cX10_list 6 = .ok (.aload_n 3, 1) := by decide +kernel
theorem dX10_list_7 : decode cX10_list 7 = .ok (.ifnonnull 5, 3) := by decide +kernel
theorem dX10_list_10 : decode cX10_list 10 = .ok (.iconst (-1), 1) := by decide +kernel
theorem dX10_list_11 : decode cX10_list 11 = .ok (.ireturn, 1) := by decide +kernel
theorem dX10_list_12 : decode cX10_list 12 = .ok (.iload_n 2, 1) := by decide +kernel
theorem dX10_list_13 : decode cX10_list 13 = .ok (.bipush 40, 2) := by decide +kernel
theorem dX10_list_15 : decode cX10_list 15 = .ok (.if_icmp .le 6, 3) := by decide +kernel
theorem dX10_list_18 : decode cX10_list 18 = .ok (.bipush (-2), 2) := by decide +kernel
theorem dX10_list_20 : decode cX10_list 20 = .ok (.ireturn, 1) := by decide +kernel
theorem dX10_list_21 : decode cX10_list 21 = .ok (.iload_n 2, 1) := by decide +kernel
theorem dX10_list_22 : decode cX10_list 22 = .ok (.ifCond .ge 6, 3) := by decide +kernel
theorem dX10_list_25 : decode cX10_list 25 = .ok (.bipush (-14), 2) := by decide +kernel
theorem dX10_list_27 : decode cX10_list 27 = .ok (.ireturn, 1) := by decide +kernel
theorem dX10_list_28 : decode cX10_list 28 = .ok (.aload_n 3, 1) := by decide +kernel
theorem dX10_list_29 : decode cX10_list 29 = .ok (.iload_n 2, 1) := by decide +kernel
theorem dX10_list_30 : decode cX10_list 30 = .ok (.invokevirtual 224, 3) := by decide +kernel
theorem dX10_list_33 : decode cX10_list 33 = .ok (.iconst 1, 1) := by decide +kernel
theorem dX10_list_34 : decode cX10_list 34 = .ok (.ireturn, 1) := by decide +kernel
theorem dX10_put_0 : decode cX10_put 0 = .ok (.aload_n 0, 1) := by decide +kernel
theorem dX10_put_1 : decode cX10_put 1 = .ok (.iload_n 1, 1) := by decide +kernel
theorem dX10_put_2 : decode cX10_put 2 = .ok (.invokevirtual 220, 3) := by decide +kernel
theorem dX10_put_5 : decode cX10_put 5 = .ok (.astore 5, 2) := by decide +kernel
theorem dX10_put_7 : decode cX10_put 7 = .ok (.aload 5, 2) := by decide +kernel
theorem dX10_put_9 : decode cX10_put 9 = .ok (.ifnonnull 5, 3) := by decide +kernel
theorem dX10_put_12 : decode cX10_put 12 = .ok (.iconst (-1), 1) := by decide +kernel
theorem dX10_put_13 : decode cX10_put 13 = .ok (.ireturn, 1) := by decide +kernel
theorem dX10_put_14 : decode cX10_put 14 = .ok (.aload 5, 2) := by decide +kernel
theorem dX10_put_16 : decode cX10_put 16 = .ok (.getfield 228, 3) := by decide +kernel
theorem dX10_put_19 : decode cX10_put 19 = .ok (.ifCond .ge 6, 3) := by decide +kernel
theorem dX10_put_22 : decode cX10_put 22 = .ok (.bipush (-11), 2) := by decide +kernel
theorem dX10_put_24 : decode cX10_put 24 = .ok (.ireturn, 1) := by decide +kernel
theorem dX10_put_25 : decode cX10_put 25 = .ok (.aload 5, 2) := by decide +kernel
theorem dX10_put_27 : decode cX10_put 27 = .ok (.iload_n 2, 1) := by decide +kernel
theorem dX10_put_28 : decode cX10_put 28 = .ok (.i2l, 1) := by decide +kernel
theorem dX10_put_29 : decode cX10_put 29 = .ok (.lload_n 3, 1) := by decide +kernel
theorem dX10_put_30 : decode cX10_put 30 = .ok (.invokevirtual 229, 3) := by decide +kernel
theorem dX10_put_33 : decode cX10_put 33 = .ok (.ifCond .eq 7, 3) := by decide +kernel
theorem dX10_put_36 : decode cX10_put 36 = .ok (.iconst 1, 1) := by decide +kernel
theorem dX10_put_37 : decode cX10_put 37 = .ok (.goto 5, 3) := by decide +kernel
theorem dX10_put_40 : decode cX10_put 40 = .ok (.bipush (-13), 2) := by decide +kernel
theorem dX10_put_42 : decode cX10_put 42 = .ok (.ireturn, 1) := by decide +kernel
theorem dX10_get_0 : decode cX10_get 0 = .ok (.aload_n 0, 1) := by decide +kernel
theorem dX10_get_1 : decode cX10_get 1 = .ok (.iload_n 1, 1) := by decide +kernel
theorem dX10_get_2 : decode cX10_get 2 = .ok (.invokevirtual 220, 3) := by decide +kernel
theorem dX10_get_5 : decode cX10_get 5 = .ok (.astore_n 3, 1) := by decide +kernel
theorem dX10_get_6 : decode cX10_get 6 = .ok (.aload_n 3, 1) := by decide +kernel
theorem dX10_get_7 : decode cX10_get 7 = .ok (.ifnonnull 9, 3) := by decide +kernel
theorem dX10_get_10 : decode cX10_get 10 = .ok (.ldc2_w 205, 3) := by decide +kernel
theorem dX10_get_13 : decode cX10_get 13 = .ok (.goto 9, 3) := by decide +kernel
theorem dX10_get_16 : decode cX10_get 16 = .ok (.aload_n 3, 1) := by decide +kernel
theorem dX10_get_17 : decode cX10_get 17 = .ok (.iload_n 2, 1) := by decide +kernel
theorem dX10_get_18 : decode cX10_get 18 = .ok (.i2l, 1) := by decide +kernel
theorem dX10_get_19 : decode cX10_get 19 = .ok (.invokevirtual 232, 3) := by decide +kernel
theorem dX10_get_22 : decode cX10_get 22 = .ok (.lreturn, 1) := by decide +kernel
theorem dX10_move_0 : decode cX10_move 0 = .ok (.aload_n 0, 1) := by decide +kernel
theorem dX10_move_1 : decode cX10_move 1 = .ok (.iload_n 1, 1) := by decide +kernel
theorem dX10_move_2 : decode cX10_move 2 = .ok (.invokevirtual 220, 3) := by decide +kernel
theorem dX10_move_5 : decode cX10_move 5 = .ok (.astore 6, 2) := by decide +kernel
theorem dX10_move_7 : decode cX10_move 7 = .ok (.aload_n 0, 1) := by decide +kernel
theorem dX10_move_8 : decode cX10_move 8 = .ok (.iload_n 3, 1) := by decide +kernel
theorem dX10_move_9 : decode cX10_move 9 = .ok (.invokevirtual 220, 3) := by decide +kernel
theorem dX10_move_12 : decode cX10_move 12 = .ok (.astore 7, 2) := by decide +kernel
theorem dX10_move_14 : decode cX10_move 14 = .ok (.aload 6, 2) := by decide +kernel
theorem dX10_move_16 : decode cX10_move 16 = .ok (.ifnull 8, 3) := by decide +kernel
theorem dX10_move_19 : decode cX10_move 19 = .ok (.aload 7, 2) := by decide +kernel
theorem dX10_move_21 : decode cX10_move 21 = .ok (.ifnonnull 5, 3) := by decide +kernel
theorem dX10_move_24 : decode cX10_move 24 = .ok (.iconst (-1), 1) := by decide +kernel
theorem dX10_move_25 : decode cX10_move 25 = .ok (.ireturn, 1) := by decide +kernel
theorem dX10_move_26 : decode cX10_move 26 = .ok (.aload 6, 2) := by decide +kernel
theorem dX10_move_28 : decode cX10_move 28 = .ok (.getfield 228, 3) := by decide +kernel
theorem dX10_move_31 : decode cX10_move 31 = .ok (.ifCond .lt 11, 3) := by decide +kernel
theorem dX10_move_34 : decode cX10_move 34 = .ok (.aload 7, 2) := by decide +kernel
theorem dX10_move_36 : decode cX10_move 36 = .ok (.getfield 228, 3) := by decide +kernel
theorem dX10_move_39 : decode cX10_move 39 = .ok (.ifCond .ge 6, 3) := by decide +kernel
theorem dX10_move_42 : decode cX10_move 42 = .ok (.bipush (-11), 2) := by decide +kernel
theorem dX10_move_44 : decode cX10_move 44 = .ok (.ireturn, 1) := by decide +kernel
theorem dX10_move_45 : decode cX10_move 45 = .ok (.aload 6, 2) := by decide +kernel
theorem dX10_move_47 : decode cX10_move 47 = .ok (.iload_n 2, 1) := by decide +kernel
theorem dX10_move_48 : decode cX10_move 48 = .ok (.iload 5, 2) := by decide +kernel
theorem dX10_move_50 : decode cX10_move 50 = .ok (.invokevirtual 235, 3) := by decide +kernel
theorem dX10_move_53 : decode cX10_move 53 = .ok (.ifCond .eq 15, 3) := by decide +kernel
theorem dX10_move_56 : decode cX10_move 56 = .ok (.aload 7, 2) := by decide +kernel
theorem dX10_move_58 : decode cX10_move 58 = .ok (.iload 4, 2) := by decide +kernel
theorem dX10_move_60 : decode cX10_move 60 = .ok (.iload 5, 2) := by decide +kernel
theorem dX10_move_62 : decode cX10_move 62 = .ok (.invokevirtual 235, 3) := by decide +kernel
theorem dX10_move_65 : decode cX10_move 65 = .ok (.ifCond .ne 6, 3) := by decide +kernel
theorem dX10_move_68 : decode cX10_move 68 = .ok (.bipush (-13), 2) := by decide +kernel
theorem dX10_move_70 : decode cX10_move 70 = .ok (.ireturn, 1) := by decide +kernel
theorem dX10_move_71 : decode cX10_move 71 = .ok (.aload 6, 2) := by decide +kernel
theorem dX10_move_73 : decode cX10_move 73 = .ok (.getfield 238, 3) := by decide +kernel
theorem dX10_move_76 : decode cX10_move 76 = .ok (.iload_n 2, 1) := by decide +kernel
theorem dX10_move_77 : decode cX10_move 77 = .ok (.aload 7, 2) := by decide +kernel
theorem dX10_move_79 : decode cX10_move 79 = .ok (.getfield 238, 3) := by decide +kernel
theorem dX10_move_82 : decode cX10_move 82 = .ok (.iload 4, 2) := by decide +kernel
theorem dX10_move_84 : decode cX10_move 84 = .ok (.iload 5, 2) := by decide +kernel
theorem dX10_move_86 : decode cX10_move 86 = .ok (.invokestatic 242, 3) := by decide +kernel
theorem dX10_move_89 : decode cX10_move 89 = .ok (.iload 5, 2) := by decide +kernel
theorem dX10_move_91 : decode cX10_move 91 = .ok (.ireturn, 1) := by decide +kernel
theorem dX10_lay_0 : decode cX10_lay 0 = .ok (.aload_n 0, 1) := by decide +kernel
theorem dX10_lay_1 : decode cX10_lay 1 = .ok (.iload_n 1, 1) := by decide +kernel
theorem dX10_lay_2 : decode cX10_lay 2 = .ok (.invokevirtual 220, 3) := by decide +kernel
theorem dX10_lay_5 : decode cX10_lay 5 = .ok (.astore 6, 2) := by decide +kernel
theorem dX10_lay_7 : decode cX10_lay 7 = .ok (.aload 6, 2) := by decide +kernel
theorem dX10_lay_9 : decode cX10_lay 9 = .ok (.ifnull 14, 3) := by decide +kernel
theorem dX10_lay_12 : decode cX10_lay 12 = .ok (.iload_n 3, 1) := by decide +kernel
theorem dX10_lay_13 : decode cX10_lay 13 = .ok (.iload 4, 2) := by decide +kernel
theorem dX10_lay_15 : decode cX10_lay 15 = .ok (.iload 5, 2) := by decide +kernel
theorem dX10_lay_17 : decode cX10_lay 17 = .ok (.invokestatic 201, 3) := by decide +kernel
theorem dX10_lay_20 : decode cX10_lay 20 = .ok (.ifCond .ne 5, 3) := by decide +kernel
theorem dX10_lay_23 : decode cX10_lay 23 = .ok (.iconst (-1), 1) := by decide +kernel
theorem dX10_lay_24 : decode cX10_lay 24 = .ok (.ireturn, 1) := by decide +kernel
theorem dX10_lay_25 : decode cX10_lay 25 = .ok (.aload 6, 2) := by decide +kernel
theorem dX10_lay_27 : decode cX10_lay 27 = .ok (.getfield 228, 3) := by decide +kernel
theorem dX10_lay_30 : decode cX10_lay 30 = .ok (.ifCond .ge 6, 3) := by decide +kernel
theorem dX10_lay_33 : decode cX10_lay 33 = .ok (.bipush (-11), 2) := by decide +kernel
theorem dX10_lay_35 : decode cX10_lay 35 = .ok (.ireturn, 1) := by decide +kernel
theorem dX10_lay_36 : decode cX10_lay 36 = .ok (.iconst 0, 1) := by decide +kernel
theorem dX10_lay_37 : decode cX10_lay 37 = .ok (.istore 7, 2) := by decide +kernel
theorem dX10_lay_39 : decode cX10_lay 39 = .ok (.iconst 0, 1) := by decide +kernel
theorem dX10_lay_40 : decode cX10_lay 40 = .ok (.istore 8, 2) := by decide +kernel
theorem dX10_lay_42 : decode cX10_lay 42 = .ok (.iload 8, 2) := by decide +kernel
theorem dX10_lay_44 : decode cX10_lay 44 = .ok (.aload_n 0, 1) := by decide +kernel
theorem dX10_lay_45 : decode cX10_lay 45 = .ok (.getfield 12, 3) := by decide +kernel
theorem dX10_lay_48 : decode cX10_lay 48 = .ok (.getfield 69, 3) := by decide +kernel
theorem dX10_lay_51 : decode cX10_lay 51 = .ok (.getfield 72, 3) := by decide +kernel
theorem dX10_lay_54 : decode cX10_lay 54 = .ok (.if_icmp .ge 53, 3) := by decide +kernel
theorem dX10_lay_57 : decode cX10_lay 57 = .ok (.aload 6, 2) := by decide +kernel
theorem dX10_lay_59 : decode cX10_lay 59 = .ok (.iload_n 2, 1) := by decide +kernel
theorem dX10_lay_60 : decode cX10_lay 60 = .ok (.i2l, 1) := by decide +kernel
theorem dX10_lay_61 : decode cX10_lay 61 = .ok (.iload 8, 2) := by decide +kernel
theorem dX10_lay_63 : decode cX10_lay 63 = .ok (.i2l, 1) := by decide +kernel
theorem dX10_lay_64 : decode cX10_lay 64 = .ok (.ladd, 1) := by decide +kernel
theorem dX10_lay_65 : decode cX10_lay 65 = .ok (.aload_n 0, 1) := by decide +kernel
theorem dX10_lay_66 : decode cX10_lay 66 = .ok (.getfield 12, 3) := by decide +kernel
theorem dX10_lay_69 : decode cX10_lay 69 = .ok (.getfield 69, 3) := by decide +kernel
theorem dX10_lay_72 : decode cX10_lay 72 = .ok (.iload 8, 2) := by decide +kernel
theorem dX10_lay_74 : decode cX10_lay 74 = .ok (.iload_n 3, 1) := by decide +kernel
theorem dX10_lay_75 : decode cX10_lay 75 = .ok (.iload 4, 2) := by decide +kernel
theorem dX10_lay_77 : decode cX10_lay 77 = .ok (.iload 5, 2) := by decide +kernel
theorem dX10_lay_79 : decode cX10_lay 79 = .ok (.aload_n 0, 1) := by decide +kernel
theorem dX10_lay_80 : decode cX10_lay 80 = .ok (.getfield 12, 3) := by decide +kernel
theorem dX10_lay_83 : decode cX10_lay 83 = .ok (.getfield 55, 3) := by decide +kernel
theorem dX10_lay_86 : decode cX10_lay 86 = .ok (.invokevirtual 207, 3) := by decide +kernel
theorem dX10_lay_89 : decode cX10_lay 89 = .ok (.invokevirtual 229, 3) := by decide +kernel
theorem dX10_lay_92 : decode cX10_lay 92 = .ok (.ifCond .ne 6, 3) := by decide +kernel
theorem dX10_lay_95 : decode cX10_lay 95 = .ok (.bipush (-13), 2) := by decide +kernel
theorem dX10_lay_97 : decode cX10_lay 97 = .ok (.ireturn, 1) := by decide +kernel
theorem dX10_lay_98 : decode cX10_lay 98 = .ok (.iinc 7 1, 3) := by decide +kernel
theorem dX10_lay_101 : decode cX10_lay 101 = .ok (.iinc 8 1, 3) := by decide +kernel
theorem dX10_lay_104 : decode cX10_lay 104 = .ok (.goto (-62), 3) := by decide +kernel
theorem dX10_lay_107 : decode cX10_lay 107 = .ok (.iload 7, 2) := by decide +kernel
theorem dX10_lay_109 : decode cX10_lay 109 = .ok (.ireturn, 1) := by decide +kernel
theorem dX10_judge_0 : decode cX10_judge 0 = .ok (.aload_n 0, 1) := by decide +kernel
theorem dX10_judge_1 : decode cX10_judge 1 = .ok (.iload_n 1, 1) := by decide +kernel
theorem dX10_judge_2 : decode cX10_judge 2 = .ok (.invokevirtual 220, 3) := by decide +kernel
theorem dX10_judge_5 : decode cX10_judge 5 = .ok (.astore 6, 2) := by decide +kernel
theorem dX10_judge_7 : decode cX10_judge 7 = .ok (.aload 6, 2) := by decide +kernel
theorem dX10_judge_9 : decode cX10_judge 9 = .ok (.ifnull 14, 3) := by decide +kernel
theorem dX10_judge_12 : decode cX10_judge 12 = .ok (.iload_n 3, 1) := by decide +kernel
theorem dX10_judge_13 : decode cX10_judge 13 = .ok (.iload 4, 2) := by decide +kernel
theorem dX10_judge_15 : decode cX10_judge 15 = .ok (.iload 5, 2) := by decide +kernel
theorem dX10_judge_17 : decode cX10_judge 17 = .ok (.invokestatic 201, 3) := by decide +kernel
theorem dX10_judge_20 : decode cX10_judge 20 = .ok (.ifCond .ne 5, 3) := by decide +kernel
theorem dX10_judge_23 : decode cX10_judge 23 = .ok (.iconst (-1), 1) := by decide +kernel
theorem dX10_judge_24 : decode cX10_judge 24 = .ok (.ireturn, 1) := by decide +kernel
theorem dX10_judge_25 : decode cX10_judge 25 = .ok (.aload 6, 2) := by decide +kernel
theorem dX10_judge_27 : decode cX10_judge 27 = .ok (.getfield 228, 3) := by decide +kernel
theorem dX10_judge_30 : decode cX10_judge 30 = .ok (.ifCond .ge 6, 3) := by decide +kernel
theorem dX10_judge_33 : decode cX10_judge 33 = .ok (.bipush (-11), 2) := by decide +kernel
theorem dX10_judge_35 : decode cX10_judge 35 = .ok (.ireturn, 1) := by decide +kernel
theorem dX10_judge_36 : decode cX10_judge 36 = .ok (.iconst 0, 1) := by decide +kernel
theorem dX10_judge_37 : decode cX10_judge 37 = .ok (.istore 7, 2) := by decide +kernel
theorem dX10_judge_39 : decode cX10_judge 39 = .ok (.iload 7, 2) := by decide +kernel
theorem dX10_judge_41 : decode cX10_judge 41 = .ok (.aload_n 0, 1) := by decide +kernel
theorem dX10_judge_42 : decode cX10_judge 42 = .ok (.getfield 12, 3) := by decide +kernel
theorem dX10_judge_45 : decode cX10_judge 45 = .ok (.getfield 69, 3) := by decide +kernel
theorem dX10_judge_48 : decode cX10_judge 48 = .ok (.getfield 72, 3) := by decide +kernel
theorem dX10_judge_51 : decode cX10_judge 51 = .ok (.if_icmp .ge 71, 3) := by decide +kernel
theorem dX10_judge_54 : decode cX10_judge 54 = .ok (.aload 6, 2) := by decide +kernel
theorem dX10_judge_56 : decode cX10_judge 56 = .ok (.iload_n 2, 1) := by decide +kernel
theorem dX10_judge_57 : decode cX10_judge 57 = .ok (.i2l, 1) := by decide +kernel
theorem dX10_judge_58 : decode cX10_judge 58 = .ok (.iload 7, 2) := by decide +kernel
theorem dX10_judge_60 : decode cX10_judge 60 = .ok (.i2l, 1) := by decide +kernel
theorem dX10_judge_61 : decode cX10_judge 61 = .ok (.ladd, 1) := by decide +kernel
theorem dX10_judge_62 : decode cX10_judge 62 = .ok (.invokevirtual 248, 3) := by decide +kernel
theorem dX10_judge_65 : decode cX10_judge 65 = .ok (.ifCond .ne 9, 3) := by decide +kernel
theorem dX10_judge_68 : decode cX10_judge 68 = .ok (.bipush 100, 2) := by decide +kernel
theorem dX10_judge_70 : decode cX10_judge 70 = .ok (.iload 7, 2) := by decide +kernel
theorem dX10_judge_72 : decode cX10_judge 72 = .ok (.iadd, 1) := by decide +kernel
theorem dX10_judge_73 : decode cX10_judge 73 = .ok (.ireturn, 1) := by decide +kernel
theorem dX10_judge_74 : decode cX10_judge 74 = .ok (.aload 6, 2) := by decide +kernel
theorem dX10_judge_76 : decode cX10_judge 76 = .ok (.iload_n 2, 1) := by decide +kernel
theorem dX10_judge_77 : decode cX10_judge 77 = .ok (.i2l, 1) := by decide +kernel
theorem dX10_judge_78 : decode cX10_judge 78 = .ok (.iload 7, 2) := by decide +kernel
theorem dX10_judge_80 : decode cX10_judge 80 = .ok (.i2l, 1) := by decide +kernel
theorem dX10_judge_81 : decode cX10_judge 81 = .ok (.ladd, 1) := by decide +kernel
theorem dX10_judge_82 : decode cX10_judge 82 = .ok (.invokevirtual 232, 3) := by decide +kernel
theorem dX10_judge_85 : decode cX10_judge 85 = .ok (.aload_n 0, 1) := by decide +kernel
theorem dX10_judge_86 : decode cX10_judge 86 = .ok (.getfield 12, 3) := by decide +kernel
theorem dX10_judge_89 : decode cX10_judge 89 = .ok (.getfield 69, 3) := by decide +kernel
theorem dX10_judge_92 : decode cX10_judge 92 = .ok (.iload 7, 2) := by decide +kernel
theorem dX10_judge_94 : decode cX10_judge 94 = .ok (.iload_n 3, 1) := by decide +kernel
theorem dX10_judge_95 : decode cX10_judge 95 = .ok (.iload 4, 2) := by decide +kernel
theorem dX10_judge_97 : decode cX10_judge 97 = .ok (.iload 5, 2) := by decide +kernel
theorem dX10_judge_99 : decode cX10_judge 99 = .ok (.aload_n 0, 1) := by decide +kernel
theorem dX10_judge_100 : decode cX10_judge 100 = .ok (.getfield 12, 3) := by decide +kernel
theorem dX10_judge_103 : decode cX10_judge 103 = .ok (.getfield 55, 3) := by decide +kernel
theorem dX10_judge_106 : decode cX10_judge 106 = .ok (.invokevirtual 207, 3) := by decide +kernel
theorem dX10_judge_109 : decode cX10_judge 109 = .ok (.lcmp, 1) := by decide +kernel
theorem dX10_judge_110 : decode cX10_judge 110 = .ok (.ifCond .eq 6, 3) := by decide +kernel
theorem dX10_judge_113 : decode cX10_judge 113 = .ok (.iload 7, 2) := by decide +kernel
theorem dX10_judge_115 : decode cX10_judge 115 = .ok (.ireturn, 1) := by decide +kernel
theorem dX10_judge_116 : decode cX10_judge 116 = .ok (.iinc 7 1, 3) := by decide +kernel
theorem dX10_judge_119 : decode cX10_judge 119 = .ok (.goto (-80), 3) := by decide +kernel
theorem dX10_judge_122 : decode cX10_judge 122 = .ok (.bipush (-5), 2) := by decide +kernel
theorem dX10_judge_124 : decode cX10_judge 124 = .ok (.ireturn, 1) := by decide +kernel
theorem dX10_image_0 : decode cX10_image 0 = .ok (.aload_n 0, 1) := by decide +kernel
theorem dX10_image_1 : decode cX10_image 1 = .ok (.getfield 251, 3) := by decide +kernel
theorem dX10_image_4 : decode cX10_image 4 = .ok (.ifnonnull 14, 3) := by decide +kernel
theorem dX10_image_7 : decode cX10_image 7 = .ok (.aload_n 0, 1) := by decide +kernel
theorem dX10_image_8 : decode cX10_image 8 = .ok (.new 9, 3) := by decide +kernel
theorem dX10_image_11 : decode cX10_image 11 = .ok (.dup, 1) := by decide +kernel
theorem dX10_image_12 : decode cX10_image 12 = .ok (.invokespecial 11, 3) := by decide +kernel
theorem dX10_image_15 : decode cX10_image 15 = .ok (.putfield 251, 3) := by decide +kernel
theorem dX10_image_18 : decode cX10_image 18 = .ok (.aload_n 0, 1) := by decide +kernel
theorem dX10_image_19 : decode cX10_image 19 = .ok (.getfield 251, 3) := by decide +kernel
theorem dX10_image_22 : decode cX10_image 22 = .ok (.aload_n 0, 1) := by decide +kernel
theorem dX10_image_23 : decode cX10_image 23 = .ok (.getfield 12, 3) := by decide +kernel
theorem dX10_image_26 : decode cX10_image 26 = .ok (.invokevirtual 254, 3) := by decide +kernel
theorem dX10_image_29 : decode cX10_image 29 = .ok (.aload_n 0, 1) := by decide +kernel
theorem dX10_image_30 : decode cX10_image 30 = .ok (.getfield 12, 3) := by decide +kernel
theorem dX10_image_33 : decode cX10_image 33 = .ok (.getfield 55, 3) := by decide +kernel
theorem dX10_image_36 : decode cX10_image 36 = .ok (.getfield 59, 3) := by decide +kernel
theorem dX10_image_39 : decode cX10_image 39 = .ok (.ireturn, 1) := by decide +kernel
theorem dX10_undo_0 : decode cX10_undo 0 = .ok (.aload_n 0, 1) := by decide +kernel
theorem dX10_undo_1 : decode cX10_undo 1 = .ok (.getfield 251, 3) := by decide +kernel
theorem dX10_undo_4 : decode cX10_undo 4 = .ok (.ifnonnull 6, 3) := by decide +kernel
theorem dX10_undo_7 : decode cX10_undo 7 = .ok (.bipush (-3), 2) := by decide +kernel
theorem dX10_undo_9 : decode cX10_undo 9 = .ok (.ireturn, 1) := by decide +kernel
theorem dX10_undo_10 : decode cX10_undo 10 = .ok (.aload_n 0, 1) := by decide +kernel
theorem dX10_undo_11 : decode cX10_undo 11 = .ok (.getfield 12, 3) := by decide +kernel
theorem dX10_undo_14 : decode cX10_undo 14 = .ok (.aload_n 0, 1) := by decide +kernel
theorem dX10_undo_15 : decode cX10_undo 15 = .ok (.getfield 251, 3) := by decide +kernel
theorem dX10_undo_18 : decode cX10_undo 18 = .ok (.invokevirtual 254, 3) := by decide +kernel
theorem dX10_undo_21 : decode cX10_undo 21 = .ok (.aload_n 0, 1) := by decide +kernel
theorem dX10_undo_22 : decode cX10_undo 22 = .ok (.getfield 12, 3) := by decide +kernel
theorem dX10_undo_25 : decode cX10_undo 25 = .ok (.getfield 55, 3) := by decide +kernel
theorem dX10_undo_28 : decode cX10_undo 28 = .ok (.getfield 59, 3) := by decide +kernel
theorem dX10_undo_31 : decode cX10_undo 31 = .ok (.ireturn, 1) := by decide +kernel
theorem dX10_startBehind_0 : decode cX10_startBehind 0 = .ok (.iload_n 1, 1) := by decide +kernel
theorem dX10_startBehind_1 : decode cX10_startBehind 1 = .ok (.istore_n 2, 1) := by decide +kernel
theorem dX10_startBehind_2 : decode cX10_startBehind 2 = .ok (.aload_n 0, 1) := by decide +kernel
theorem dX10_startBehind_3 : decode cX10_startBehind 3 = .ok (.getfield 12, 3) := by decide +kernel
theorem dX10_startBehind_6 : decode cX10_startBehind 6 = .ok (.getfield 141, 3) := by decide +kernel
theorem dX10_startBehind_9 : decode cX10_startBehind 9 = .ok (.ifCond .ne 14, 3) := by decide +kernel
theorem dX10_startBehind_12 : decode cX10_startBehind 12 = .ok (.aload_n 0, 1) := by decide +kernel
theorem dX10_startBehind_13 : decode cX10_startBehind 13 = .ok (.getfield 23, 3) := by decide +kernel
theorem dX10_startBehind_16 : decode cX10_startBehind 16 = .ok (.getfield 157, 3) := by decide +kernel
theorem dX10_startBehind_19 : decode cX10_startBehind 19 = .ok (.istore_n 2, 1) := by decide +kernel
theorem dX10_startBehind_20 : decode cX10_startBehind 20 = .ok (.goto 67, 3) := by decide +kernel
theorem dX10_startBehind_23 : decode cX10_startBehind 23 = .ok (.aload_n 0, 1) := by decide +kernel
theorem dX10_startBehind_24 : decode cX10_startBehind 24 = .ok (.getfield 12, 3) := by decide +kernel
theorem dX10_startBehind_27 : decode cX10_startBehind 27 = .ok (.getfield 141, 3) := by decide +kernel
theorem dX10_startBehind_30 : decode cX10_startBehind 30 = .ok (.iconst 1, 1) := by decide +kernel
theorem dX10_startBehind_31 : decode cX10_startBehind 31 = .ok (.if_icmp .eq 56, 3) := by decide +kernel
theorem dX10_startBehind_34 : decode cX10_startBehind 34 = .ok (.iload_n 1, 1) := by decide +kernel
theorem dX10_startBehind_35 : decode cX10_startBehind 35 = .ok (.istore_n 3, 1) := by decide +kernel
theorem dX10_startBehind_36 : decode cX10_startBehind 36 = .ok (.iload_n 3, 1) := by decide +kernel
theorem dX10_startBehind_37 : decode cX10_startBehind 37 = .ok (.aload_n 0, 1) := by decide +kernel
theorem dX10_startBehind_38 : decode cX10_startBehind 38 = .ok (.getfield 23, 3) := by decide +kernel
theorem dX10_startBehind_41 : decode cX10_startBehind 41 = .ok (.getfield 157, 3) := by decide +kernel
theorem dX10_startBehind_44 : decode cX10_startBehind 44 = .ok (.if_icmp .ge 43, 3) := by decide +kernel
theorem dX10_startBehind_47 : decode cX10_startBehind 47 = .ok (.aload_n 0, 1) := by decide +kernel
theorem dX10_startBehind_48 : decode cX10_startBehind 48 = .ok (.getfield 23, 3) := by decide +kernel
theorem dX10_startBehind_51 : decode cX10_startBehind 51 = .ok (.iload_n 3, 1) := by decide +kernel
theorem dX10_startBehind_52 : decode cX10_startBehind 52 = .ok (.invokevirtual 163, 3) := by decide +kernel
theorem dX10_startBehind_55 : decode cX10_startBehind 55 = .ok (.aload_n 0, 1) := by decide +kernel
theorem dX10_startBehind_56 : decode cX10_startBehind 56 = .ok (.getfield 12, 3) := by decide +kernel
theorem dX10_startBehind_59 : decode cX10_startBehind 59 = .ok (.getfield 138, 3) := by decide +kernel
theorem dX10_startBehind_62 : decode cX10_startBehind 62 = .ok (.if_icmp .ne 19, 3) := by decide +kernel
theorem dX10_startBehind_65 : decode cX10_startBehind 65 = .ok (.iload_n 3, 1) := by decide +kernel
theorem dX10_startBehind_66 : decode cX10_startBehind 66 = .ok (.istore_n 2, 1) := by decide +kernel
theorem dX10_startBehind_67 : decode cX10_startBehind 67 = .ok (.aload_n 0, 1) := by decide +kernel
theorem dX10_startBehind_68 : decode cX10_startBehind 68 = .ok (.getfield 12, 3) := by decide +kernel
theorem dX10_startBehind_71 : decode cX10_startBehind 71 = .ok (.getfield 141, 3) := by decide +kernel
theorem dX10_startBehind_74 : decode cX10_startBehind 74 = .ok (.iconst 2, 1) := by decide +kernel
theorem dX10_startBehind_75 : decode cX10_startBehind 75 = .ok (.if_icmp .ne 6, 3) := by decide +kernel
theorem dX10_startBehind_78 : decode cX10_startBehind 78 = .ok (.goto 9, 3) := by decide +kernel
theorem dX10_startBehind_81 : decode cX10_startBehind 81 = .ok (.iinc 3 1, 3) := by decide +kernel
theorem dX10_startBehind_84 : decode cX10_startBehind 84 = .ok (.goto (-48), 3) := by decide +kernel
theorem dX10_startBehind_87 : decode cX10_startBehind 87 = .ok (.iload_n 2, 1) := by decide +kernel
theorem dX10_startBehind_88 : decode cX10_startBehind 88 = .ok (.iload_n 1, 1) := by decide +kernel
theorem dX10_startBehind_89 : decode cX10_startBehind 89 = .ok (.if_icmp .le 7, 3) := by decide +kernel
theorem dX10_startBehind_92 : decode cX10_startBehind 92 = .ok (.iload_n 2, 1) := by decide +kernel
theorem dX10_startBehind_93 : decode cX10_startBehind 93 = .ok (.goto 6, 3) := by decide +kernel
theorem dX10_startBehind_96 : decode cX10_startBehind 96 = .ok (.iload_n 1, 1) := by decide +kernel
theorem dX10_startBehind_97 : decode cX10_startBehind 97 = .ok (.iconst 1, 1) := by decide +kernel
theorem dX10_startBehind_98 : decode cX10_startBehind 98 = .ok (.iadd, 1) := by decide +kernel
theorem dX10_startBehind_99 : decode cX10_startBehind 99 = .ok (.ireturn, 1) := by decide +kernel
theorem dX10_rowsInNoMatch_0 : decode cX10_rowsInNoMatch 0 = .ok (.iconst 0, 1) := by decide +kernel
theorem dX10_rowsInNoMatch_1 : decode cX10_rowsInNoMatch 1 = .ok (.istore_n 1, 1) := by decide +kernel
theorem dX10_rowsInNoMatch_2 : decode cX10_rowsInNoMatch 2 = .ok (.iconst 0, 1) := by decide +kernel
theorem dX10_rowsInNoMatch_3 : decode cX10_rowsInNoMatch 3 = .ok (.istore_n 2, 1) := by decide +kernel
theorem dX10_rowsInNoMatch_4 : decode cX10_rowsInNoMatch 4 = .ok (.iload_n 2, 1) := by decide +kernel
theorem dX10_rowsInNoMatch_5 : decode cX10_rowsInNoMatch 5 = .ok (.aload_n 0, 1) := by decide +kernel
theorem dX10_rowsInNoMatch_6 : decode cX10_rowsInNoMatch 6 = .ok (.getfield 12, 3) := by decide +kernel
theorem dX10_rowsInNoMatch_9 : decode cX10_rowsInNoMatch 9 = .ok (.getfield 55, 3) := by decide +kernel
theorem dX10_rowsInNoMatch_12 : decode cX10_rowsInNoMatch 12 = .ok (.getfield 59, 3) := by decide +kernel
theorem dX10_rowsInNoMatch_15 : decode cX10_rowsInNoMatch 15 = .ok (.if_icmp .ge 26, 3) := by decide +kernel
theorem dX10_rowsInNoMatch_18 : decode cX10_rowsInNoMatch 18 = .ok (.aload_n 0, 1) := by decide +kernel
theorem dX10_rowsInNoMatch_19 : decode cX10_rowsInNoMatch 19 = .ok (.getfield 12, 3) := by decide +kernel
theorem dX10_rowsInNoMatch_22 : decode cX10_rowsInNoMatch 22 = .ok (.getfield 69, 3) := by decide +kernel
theorem dX10_rowsInNoMatch_25 : decode cX10_rowsInNoMatch 25 = .ok (.iload_n 2, 1) := by decide +kernel
theorem dX10_rowsInNoMatch_26 : decode cX10_rowsInNoMatch 26 = .ok (.invokevirtual 211, 3) := by decide +kernel
theorem dX10_rowsInNoMatch_29 : decode cX10_rowsInNoMatch 29 = .ok (.ifCond .ne 6, 3) := by decide +kernel
theorem dX10_rowsInNoMatch_32 : decode cX10_rowsInNoMatch 32 = .ok (.iinc 1 1, 3) := by decide +kernel
theorem dX10_rowsInNoMatch_35 : decode cX10_rowsInNoMatch 35 = .ok (.iinc 2 1, 3) := by decide +kernel
theorem dX10_rowsInNoMatch_38 : decode cX10_rowsInNoMatch 38 = .ok (.goto (-34), 3) := by decide +kernel
theorem dX10_rowsInNoMatch_41 : decode cX10_rowsInNoMatch 41 = .ok (.iload_n 1, 1) := by decide +kernel
theorem dX10_rowsInNoMatch_42 : decode cX10_rowsInNoMatch 42 = .ok (.ireturn, 1) := by decide +kernel
theorem dX10_listAt_0 : decode cX10_listAt 0 = .ok (.iload_n 1, 1) := by decide +kernel
theorem dX10_listAt_1 : decode cX10_listAt 1 = .ok (.ifCond .lt 12, 3) := by decide +kernel
theorem dX10_listAt_4 : decode cX10_listAt 4 = .ok (.iload_n 1, 1) := by decide +kernel
theorem dX10_listAt_5 : decode cX10_listAt 5 = .ok (.aload_n 0, 1) := by decide +kernel
theorem dX10_listAt_6 : decode cX10_listAt 6 = .ok (.getfield 39, 3) := by decide +kernel
theorem dX10_listAt_9 : decode cX10_listAt 9 = .ok (.arraylength, 1) := by decide +kernel
theorem dX10_listAt_10 : decode cX10_listAt 10 = .ok (.if_icmp .lt 7, 3) := by decide +kernel
theorem dX10_listAt_13 : decode cX10_listAt 13 = .ok (.aconst_null, 1) := by decide +kernel
theorem dX10_listAt_14 : decode cX10_listAt 14 = .ok (.goto 9, 3) := by decide +kernel
theorem dX10_listAt_17 : decode cX10_listAt 17 = .ok (.aload_n 0, 1) := by decide +kernel
theorem dX10_listAt_18 : decode cX10_listAt 18 = .ok (.getfield 39, 3) := by decide +kernel
theorem dX10_listAt_21 : decode cX10_listAt 21 = .ok (.iload_n 1, 1) := by decide +kernel
theorem dX10_listAt_22 : decode cX10_listAt 22 = .ok (.aaload, 1) := by decide +kernel
theorem dX10_listAt_23 : decode cX10_listAt 23 = .ok (.areturn, 1) := by decide +kernel
theorem dX10_isCell_0 : decode cX10_isCell 0 = .ok (.iload_n 0, 1) := by decide +kernel
theorem dX10_isCell_1 : decode cX10_isCell 1 = .ok (.sipush (-999), 3) := by decide +kernel
theorem dX10_isCell_4 : decode cX10_isCell 4 = .ok (.if_icmp .lt 14, 3) := by decide +kernel
theorem dX10_isCell_7 : decode cX10_isCell 7 = .ok (.iload_n 0, 1) := by decide +kernel
theorem dX10_isCell_8 : decode cX10_isCell 8 = .ok (.sipush 1000, 3) := by decide +kernel
theorem dX10_isCell_11 : decode cX10_isCell 11 = .ok (.if_icmp .gt 7, 3) := by decide +kernel
theorem dX10_isCell_14 : decode cX10_isCell 14 = .ok (.iconst 1, 1) := by decide +kernel
theorem dX10_isCell_15 : decode cX10_isCell 15 = .ok (.goto 4, 3) := by decide +kernel
theorem dX10_isCell_18 : decode cX10_isCell 18 = .ok (.iconst 0, 1) := by decide +kernel
theorem dX10_isCell_19 : decode cX10_isCell 19 = .ok (.ireturn, 1) := by decide +kernel
theorem dX10_isColumn_0 : decode cX10_isColumn 0 = .ok (.iload_n 0, 1) := by decide +kernel
theorem dX10_isColumn_1 : decode cX10_isColumn 1 = .ok (.ifCond .lt 12, 3) := by decide +kernel
theorem dX10_isColumn_4 : decode cX10_isColumn 4 = .ok (.iload_n 0, 1) := by decide +kernel
theorem dX10_isColumn_5 : decode cX10_isColumn 5 = .ok (.iconst 2, 1) := by decide +kernel
theorem dX10_isColumn_6 : decode cX10_isColumn 6 = .ok (.if_icmp .ge 7, 3) := by decide +kernel
theorem dX10_isColumn_9 : decode cX10_isColumn 9 = .ok (.iconst 1, 1) := by decide +kernel
theorem dX10_isColumn_10 : decode cX10_isColumn 10 = .ok (.goto 4, 3) := by decide +kernel
theorem dX10_isColumn_13 : decode cX10_isColumn 13 = .ok (.iconst 0, 1) := by decide +kernel
theorem dX10_isColumn_14 : decode cX10_isColumn 14 = .ok (.ireturn, 1) := by decide +kernel
theorem dX10_isLetter_0 : decode cX10_isLetter 0 = .ok (.iload_n 0, 1) := by decide +kernel
theorem dX10_isLetter_1 : decode cX10_isLetter 1 = .ok (.ifCond .lt 13, 3) := by decide +kernel
theorem dX10_isLetter_4 : decode cX10_isLetter 4 = .ok (.iload_n 0, 1) := by decide +kernel
theorem dX10_isLetter_5 : decode cX10_isLetter 5 = .ok (.bipush 26, 2) := by decide +kernel
theorem dX10_isLetter_7 : decode cX10_isLetter 7 = .ok (.if_icmp .ge 7, 3) := by decide +kernel
theorem dX10_isLetter_10 : decode cX10_isLetter 10 = .ok (.iconst 1, 1) := by decide +kernel
theorem dX10_isLetter_11 : decode cX10_isLetter 11 = .ok (.goto 4, 3) := by decide +kernel
theorem dX10_isLetter_14 : decode cX10_isLetter 14 = .ok (.iconst 0, 1) := by decide +kernel
theorem dX10_isLetter_15 : decode cX10_isLetter 15 = .ok (.ireturn, 1) := by decide +kernel
theorem dX10_isMeasure_0 : decode cX10_isMeasure 0 = .ok (.iload_n 0, 1) := by decide +kernel
theorem dX10_isMeasure_1 : decode cX10_isMeasure 1 = .ok (.ifCond .lt 30, 3) := by decide +kernel
theorem dX10_isMeasure_4 : decode cX10_isMeasure 4 = .ok (.iload_n 0, 1) := by decide +kernel
theorem dX10_isMeasure_5 : decode cX10_isMeasure 5 = .ok (.bipush 26, 2) := by decide +kernel
theorem dX10_isMeasure_7 : decode cX10_isMeasure 7 = .ok (.if_icmp .gt 24, 3) := by decide +kernel
theorem dX10_isMeasure_10 : decode cX10_isMeasure 10 = .ok (.iload_n 1, 1) := by decide +kernel
theorem dX10_isMeasure_11 : decode cX10_isMeasure 11 = .ok (.invokestatic 76, 3) := by decide +kernel
theorem dX10_isMeasure_14 : decode cX10_isMeasure 14 = .ok (.ifCond .eq 17, 3) := by decide +kernel
theorem dX10_isMeasure_17 : decode cX10_isMeasure 17 = .ok (.iload_n 2, 1) := by decide +kernel
theorem dX10_isMeasure_18 : decode cX10_isMeasure 18 = .ok (.ifCond .lt 13, 3) := by decide +kernel
theorem dX10_isMeasure_21 : decode cX10_isMeasure 21 = .ok (.iload_n 2, 1) := by decide +kernel
theorem dX10_isMeasure_22 : decode cX10_isMeasure 22 = .ok (.bipush 7, 2) := by decide +kernel
theorem dX10_isMeasure_24 : decode cX10_isMeasure 24 = .ok (.if_icmp .ge 7, 3) := by decide +kernel
theorem dX10_isMeasure_27 : decode cX10_isMeasure 27 = .ok (.iconst 1, 1) := by decide +kernel
theorem dX10_isMeasure_28 : decode cX10_isMeasure 28 = .ok (.goto 4, 3) := by decide +kernel
theorem dX10_isMeasure_31 : decode cX10_isMeasure 31 = .ok (.iconst 0, 1) := by decide +kernel
theorem dX10_isMeasure_32 : decode cX10_isMeasure 32 = .ok (.ireturn, 1) := by decide +kernel
theorem dX11_isIn_0 : decode cX11_isIn 0 = .ok (.lload_n 0, 1) := by decide +kernel
theorem dX11_isIn_1 : decode cX11_isIn 1 = .ok (.lload_n 2, 1) := by decide +kernel
theorem dX11_isIn_2 : decode cX11_isIn 2 = .ok (.lcmp, 1) := by decide +kernel
theorem dX11_isIn_3 : decode cX11_isIn 3 = .ok (.ifCond .lt 14, 3) := by decide +kernel
theorem dX11_isIn_6 : decode cX11_isIn 6 = .ok (.lload_n 0, 1) := by decide +kernel
theorem dX11_isIn_7 : decode cX11_isIn 7 = .ok (.lload 4, 2) := by decide +kernel
theorem dX11_isIn_9 : decode cX11_isIn 9 = .ok (.lcmp, 1) := by decide +kernel
theorem dX11_isIn_10 : decode cX11_isIn 10 = .ok (.ifCond .gt 7, 3) := by decide +kernel
theorem dX11_isIn_13 : decode cX11_isIn 13 = .ok (.iconst 1, 1) := by decide +kernel
theorem dX11_isIn_14 : decode cX11_isIn 14 = .ok (.goto 4, 3) := by decide +kernel
theorem dX11_isIn_17 : decode cX11_isIn 17 = .ok (.iconst 0, 1) := by decide +kernel
theorem dX11_isIn_18 : decode cX11_isIn 18 = .ok (.ireturn, 1) := by decide +kernel
theorem dX11_init_0 : decode cX11_init 0 = .ok (.aload_n 0, 1) := by decide +kernel
theorem dX11_init_1 : decode cX11_init 1 = .ok (.invokespecial 3, 3) := by decide +kernel
theorem dX11_init_4 : decode cX11_init 4 = .ok (.aload_n 0, 1) := by decide +kernel
theorem dX11_init_5 : decode cX11_init 5 = .ok (.sipush 4459, 3) := by decide +kernel
theorem dX11_init_8 : decode cX11_init 8 = .ok (.newarray .int, 2) := by decide +kernel
theorem dX11_init_10 : decode cX11_init 10 = .ok (.putfield 9, 3) := by decide +kernel
theorem dX11_init_13 : decode cX11_init 13 = .ok (.aload_n 0, 1) := by decide +kernel
theorem dX11_init_14 : decode cX11_init 14 = .ok (.sipush 4459, 3) := by decide +kernel
theorem dX11_init_17 : decode cX11_init 17 = .ok (.newarray .int, 2) := by decide +kernel
theorem dX11_init_19 : decode cX11_init 19 = .ok (.putfield 15, 3) := by decide +kernel
theorem dX11_init_22 : decode cX11_init 22 = .ok (.aload_n 0, 1) := by decide +kernel
theorem dX11_init_23 : decode cX11_init 23 = .ok (.bipush 120, 2) := by decide +kernel
theorem dX11_init_25 : decode cX11_init 25 = .ok (.newarray .int, 2) := by decide +kernel
theorem dX11_init_27 : decode cX11_init 27 = .ok (.putfield 18, 3) := by decide +kernel
theorem dX11_init_30 : decode cX11_init 30 = .ok (.aload_n 0, 1) := by decide +kernel
theorem dX11_init_31 : decode cX11_init 31 = .ok (.bipush 120, 2) := by decide +kernel
theorem dX11_init_33 : decode cX11_init 33 = .ok (.newarray .int, 2) := by decide +kernel
theorem dX11_init_35 : decode cX11_init 35 = .ok (.putfield 21, 3) := by decide +kernel
theorem dX11_init_38 : decode cX11_init 38 = .ok (.aload_n 0, 1) := by decide +kernel
theorem dX11_init_39 : decode cX11_init 39 = .ok (.sipush 250, 3) := by decide +kernel
theorem dX11_init_42 : decode cX11_init 42 = .ok (.newarray .int, 2) := by decide +kernel
theorem dX11_init_44 : decode cX11_init 44 = .ok (.putfield 24, 3) := by decide +kernel
theorem dX11_init_47 : decode cX11_init 47 = .ok (.aload_n 0, 1) := by decide +kernel
theorem dX11_init_48 : decode cX11_init 48 = .ok (.sipush 250, 3) := by decide +kernel
theorem dX11_init_51 : decode cX11_init 51 = .ok (.newarray .int, 2) := by decide +kernel
theorem dX11_init_53 : decode cX11_init 53 = .ok (.putfield 27, 3) := by decide +kernel
theorem dX11_init_56 : decode cX11_init 56 = .ok (.aload_n 0, 1) := by decide +kernel
theorem dX11_init_57 : decode cX11_init 57 = .ok (.sipush 250, 3) := by decide +kernel
theorem dX11_init_60 : decode cX11_init 60 = .ok (.newarray .int, 2) := by decide +kernel
theorem dX11_init_62 : decode cX11_init 62 = .ok (.putfield 30, 3) := by decide +kernel
theorem dX11_init_65 : decode cX11_init 65 = .ok (.aload_n 0, 1) := by decide +kernel
theorem dX11_init_66 : decode cX11_init 66 = .ok (.sipush 250, 3) := by decide +kernel
theorem dX11_init_69 : decode cX11_init 69 = .ok (.newarray .int, 2) := by decide +kernel
theorem dX11_init_71 : decode cX11_init 71 = .ok (.putfield 33, 3) := by decide +kernel
theorem dX11_init_74 : decode cX11_init 74 = .ok (.aload_n 0, 1) := by decide +kernel
theorem dX11_init_75 : decode cX11_init 75 = .ok (.sipush 250, 3) := by decide +kernel
theorem dX11_init_78 : decode cX11_init 78 = .ok (.newarray .int, 2) := by decide +kernel
theorem dX11_init_80 : decode cX11_init 80 = .ok (.putfield 36, 3) := by decide +kernel
theorem dX11_init_83 : decode cX11_init 83 = .ok (.aload_n 0, 1) := by decide +kernel
theorem dX11_init_84 : decode cX11_init 84 = .ok (.sipush 250, 3) := by decide +kernel
theorem dX11_init_87 : decode cX11_init 87 = .ok (.newarray .int, 2) := by decide +kernel
theorem dX11_init_89 : decode cX11_init 89 = .ok (.putfield 39, 3) := by decide +kernel
theorem dX11_init_92 : decode cX11_init 92 = .ok (.aload_n 0, 1) := by decide +kernel
theorem dX11_init_93 : decode cX11_init 93 = .ok (.sipush 250, 3) := by decide +kernel
theorem dX11_init_96 : decode cX11_init 96 = .ok (.newarray .int, 2) := by decide +kernel
theorem dX11_init_98 : decode cX11_init 98 = .ok (.putfield 42, 3) := by decide +kernel
theorem dX11_init_101 : decode cX11_init 101 = .ok (.aload_n 0, 1) := by decide +kernel
theorem dX11_init_102 : decode cX11_init 102 = .ok (.sipush 250, 3) := by decide +kernel
theorem dX11_init_105 : decode cX11_init 105 = .ok (.newarray .int, 2) := by decide +kernel
theorem dX11_init_107 : decode cX11_init 107 = .ok (.putfield 45, 3) := by decide +kernel
theorem dX11_init_110 : decode cX11_init 110 = .ok (.aload_n 0, 1) := by decide +kernel
theorem dX11_init_111 : decode cX11_init 111 = .ok (.sipush 250, 3) := by decide +kernel
theorem dX11_init_114 : decode cX11_init 114 = .ok (.newarray .int, 2) := by decide +kernel
theorem dX11_init_116 : decode cX11_init 116 = .ok (.putfield 48, 3) := by decide +kernel
theorem dX11_init_119 : decode cX11_init 119 = .ok (.aload_n 0, 1) := by decide +kernel
theorem dX11_init_120 : decode cX11_init 120 = .ok (.sipush 400, 3) := by decide +kernel
theorem dX11_init_123 : decode cX11_init 123 = .ok (.newarray .int, 2) := by decide +kernel
theorem dX11_init_125 : decode cX11_init 125 = .ok (.putfield 51, 3) := by decide +kernel
theorem dX11_init_128 : decode cX11_init 128 = .ok (.aload_n 0, 1) := by decide +kernel
theorem dX11_init_129 : decode cX11_init 129 = .ok (.bipush 32, 2) := by decide +kernel
theorem dX11_init_131 : decode cX11_init 131 = .ok (.newarray .int, 2) := by decide +kernel
theorem dX11_init_133 : decode cX11_init 133 = .ok (.putfield 54, 3) := by decide +kernel
theorem dX11_init_136 : decode cX11_init 136 = .ok (.aload_n 0, 1) := by decide +kernel
theorem dX11_init_137 : decode cX11_init 137 = .ok (.bipush 120, 2) := by decide +kernel
theorem dX11_init_139 : decode cX11_init 139 = .ok (.newarray .int, 2) := by decide +kernel
theorem dX11_init_141 : decode cX11_init 141 = .ok (.putfield 57, 3) := by decide +kernel
theorem dX11_init_144 : decode cX11_init 144 = .ok (.aload_n 0, 1) := by decide +kernel
theorem dX11_init_145 : decode cX11_init 145 = .ok (.bipush 120, 2) := by decide +kernel
theorem dX11_init_147 : decode cX11_init 147 = .ok (.newarray .int, 2) := by decide +kernel
theorem dX11_init_149 : decode cX11_init 149 = .ok (.putfield 60, 3) := by decide +kernel
theorem dX11_init_152 : decode cX11_init 152 = .ok (.aload_n 0, 1) := by decide +kernel
theorem dX11_init_153 : decode cX11_init 153 = .ok (.bipush 120, 2) := by decide +kernel
theorem dX11_init_155 : decode cX11_init 155 = .ok (.newarray .int, 2) := by decide +kernel
theorem dX11_init_157 : decode cX11_init 157 = .ok (.putfield 63, 3) := by decide +kernel
theorem dX11_init_160 : decode cX11_init 160 = .ok (.aload_n 0, 1) := by decide +kernel
theorem dX11_init_161 : decode cX11_init 161 = .ok (.sipush 5030, 3) := by decide +kernel
theorem dX11_init_164 : decode cX11_init 164 = .ok (.newarray .int, 2) := by decide +kernel
theorem dX11_init_166 : decode cX11_init 166 = .ok (.putfield 66, 3) := by decide +kernel
theorem dX11_init_169 : decode cX11_init 169 = .ok (.aload_n 0, 1) := by decide +kernel
theorem dX11_init_170 : decode cX11_init 170 = .ok (.sipush 5030, 3) := by decide +kernel
theorem dX11_init_173 : decode cX11_init 173 = .ok (.newarray .int, 2) := by decide +kernel
theorem dX11_init_175 : decode cX11_init 175 = .ok (.putfield 69, 3) := by decide +kernel
theorem dX11_init_178 : decode cX11_init 178 = .ok (.aload_n 0, 1) := by decide +kernel
theorem dX11_init_179 : decode cX11_init 179 = .ok (.sipush 5010, 3) := by decide +kernel
theorem dX11_init_182 : decode cX11_init 182 = .ok (.newarray .int, 2) := by decide +kernel
theorem dX11_init_184 : decode cX11_init 184 = .ok (.putfield 72, 3) := by decide +kernel
theorem dX11_init_187 : decode cX11_init 187 = .ok (.aload_n 0, 1) := by decide +kernel
theorem dX11_init_188 : decode cX11_init 188 = .ok (.sipush 5010, 3) := by decide +kernel
theorem dX11_init_191 : decode cX11_init 191 = .ok (.newarray .int, 2) := by decide +kernel
theorem dX11_init_193 : decode cX11_init 193 = .ok (.putfield 75, 3) := by decide +kernel
theorem dX11_init_196 : decode cX11_init 196 = .ok (.aload_n 0, 1) := by decide +kernel
theorem dX11_init_197 : decode cX11_init 197 = .ok (.sipush 5010, 3) := by decide +kernel
theorem dX11_init_200 : decode cX11_init 200 = .ok (.newarray .int, 2) := by decide +kernel
theorem dX11_init_202 : decode cX11_init 202 = .ok (.putfield 78, 3) := by decide +kernel
theorem dX11_init_205 : decode cX11_init 205 = .ok (.aload_n 0, 1) := by decide +kernel
theorem dX11_init_206 : decode cX11_init 206 = .ok (.sipush 5010, 3) := by decide +kernel
theorem dX11_init_209 : decode cX11_init 209 = .ok (.newarray .int, 2) := by decide +kernel
theorem dX11_init_211 : decode cX11_init 211 = .ok (.putfield 81, 3) := by decide +kernel
theorem dX11_init_214 : decode cX11_init 214 = .ok (.aload_n 0, 1) := by decide +kernel
theorem dX11_init_215 : decode cX11_init 215 = .ok (.sipush 1122, 3) := by decide +kernel
theorem dX11_init_218 : decode cX11_init 218 = .ok (.newarray .int, 2) := by decide +kernel
theorem dX11_init_220 : decode cX11_init 220 = .ok (.putfield 84, 3) := by decide +kernel
theorem dX11_init_223 : decode cX11_init 223 = .ok (.aload_n 0, 1) := by decide +kernel
theorem dX11_init_224 : decode cX11_init 224 = .ok (.iconst 4, 1) := by decide +kernel
theorem dX11_init_225 : decode cX11_init 225 = .ok (.newarray .int, 2) := by decide +kernel
theorem dX11_init_227 : decode cX11_init 227 = .ok (.dup, 1) := by decide +kernel
theorem dX11_init_228 : decode cX11_init 228 = .ok (.iconst 0, 1) := by decide +kernel
theorem dX11_init_229 : decode cX11_init 229 = .ok (.iconst (-1), 1) := by decide +kernel
theorem dX11_init_230 : decode cX11_init 230 = .ok (.iastore, 1) := by decide +kernel
theorem dX11_init_231 : decode cX11_init 231 = .ok (.dup, 1) := by decide +kernel
theorem dX11_init_232 : decode cX11_init 232 = .ok (.iconst 1, 1) := by decide +kernel
theorem dX11_init_233 : decode cX11_init 233 = .ok (.iconst (-1), 1) := by decide +kernel
theorem dX11_init_234 : decode cX11_init 234 = .ok (.iastore, 1) := by decide +kernel
theorem dX11_init_235 : decode cX11_init 235 = .ok (.dup, 1) := by decide +kernel
theorem dX11_init_236 : decode cX11_init 236 = .ok (.iconst 2, 1) := by decide +kernel
theorem dX11_init_237 : decode cX11_init 237 = .ok (.iconst (-1), 1) := by decide +kernel
theorem dX11_init_238 : decode cX11_init 238 = .ok (.iastore, 1) := by decide +kernel
theorem dX11_init_239 : decode cX11_init 239 = .ok (.dup, 1) := by decide +kernel
theorem dX11_init_240 : decode cX11_init 240 = .ok (.iconst 3, 1) := by decide +kernel
theorem dX11_init_241 : decode cX11_init 241 = .ok (.iconst (-1), 1) := by decide +kernel
theorem dX11_init_242 : decode cX11_init 242 = .ok (.iastore, 1) := by decide +kernel
theorem dX11_init_243 : decode cX11_init 243 = .ok (.putfield 87, 3) := by decide +kernel
theorem dX11_init_246 : decode cX11_init 246 = .ok (.aload_n 0, 1) := by decide +kernel
theorem dX11_init_247 : decode cX11_init 247 = .ok (.sipush 160, 3) := by decide +kernel
theorem dX11_init_250 : decode cX11_init 250 = .ok (.newarray .long, 2) := by decide +kernel
theorem dX11_init_252 : decode cX11_init 252 = .ok (.putfield 90, 3) := by decide +kernel
theorem dX11_init_255 : decode cX11_init 255 = .ok (.aload_n 0, 1) := by decide +kernel
theorem dX11_init_256 : decode cX11_init 256 = .ok (.bipush 40, 2) := by decide +kernel
theorem dX11_init_258 : decode cX11_init 258 = .ok (.newarray .long, 2) := by decide +kernel
theorem dX11_init_260 : decode cX11_init 260 = .ok (.putfield 94, 3) := by decide +kernel
theorem dX11_init_263 : decode cX11_init 263 = .ok (.aload_n 0, 1) := by decide +kernel
theorem dX11_init_264 : decode cX11_init 264 = .ok (.getfield 9, 3) := by decide +kernel
theorem dX11_init_267 : decode cX11_init 267 = .ok (.sipush 3334, 3) := by decide +kernel
theorem dX11_init_270 : decode cX11_init 270 = .ok (.iconst 1, 1) := by decide +kernel
theorem dX11_init_271 : decode cX11_init 271 = .ok (.iastore, 1) := by decide +kernel
theorem dX11_init_272 : decode cX11_init 272 = .ok (.aload_n 0, 1) := by decide +kernel
theorem dX11_init_273 : decode cX11_init 273 = .ok (.getfield 9, 3) := by decide +kernel
theorem dX11_init_276 : decode cX11_init 276 = .ok (.sipush 3335, 3) := by decide +kernel
theorem dX11_init_279 : decode cX11_init 279 = .ok (.sipush 5000, 3) := by decide +kernel
theorem dX11_init_282 : decode cX11_init 282 = .ok (.iastore, 1) := by decide +kernel
theorem dX11_init_283 : decode cX11_init 283 = .ok (.return_, 1) := by decide +kernel
theorem dX11_pours_0 : decode cX11_pours 0 = .ok (.iconst 0, 1) := by decide +kernel
theorem dX11_pours_1 : decode cX11_pours 1 = .ok (.istore_n 2, 1) := by decide +kernel
theorem dX11_pours_2 : decode cX11_pours 2 = .ok (.iload_n 2, 1) := by decide +kernel
theorem dX11_pours_3 : decode cX11_pours 3 = .ok (.sipush 4459, 3) := by decide +kernel
theorem dX11_pours_6 : decode cX11_pours 6 = .ok (.if_icmp .ge 15, 3) := by decide +kernel
theorem dX11_pours_9 : decode cX11_pours 9 = .ok (.aload_n 1, 1) := by decide +kernel
theorem dX11_pours_10 : decode cX11_pours 10 = .ok (.iload_n 2, 1) := by decide +kernel
theorem dX11_pours_11 : decode cX11_pours 11 = .ok (.aload_n 0, 1) := by decide +kernel
theorem dX11_pours_12 : decode cX11_pours 12 = .ok (.iload_n 2, 1) := by decide +kernel
theorem dX11_pours_13 : decode cX11_pours 13 = .ok (.iaload, 1) := by decide +kernel
theorem dX11_pours_14 : decode cX11_pours 14 = .ok (.iastore, 1) := by decide +kernel
theorem dX11_pours_15 : decode cX11_pours 15 = .ok (.iinc 2 1, 3) := by decide +kernel
theorem dX11_pours_18 : decode cX11_pours 18 = .ok (.goto (-16), 3) := by decide +kernel
theorem dX11_pours_21 : decode cX11_pours 21 = .ok (.return_, 1) := by decide +kernel
theorem dX11_many_0 : decode cX11_many 0 = .ok (.aload_n 0, 1) := by decide +kernel
theorem dX11_many_1 : decode cX11_many 1 = .ok (.getfield 9, 3) := by decide +kernel
theorem dX11_many_4 : decode cX11_many 4 = .ok (.bipush 64, 2) := by decide +kernel
theorem dX11_many_6 : decode cX11_many 6 = .ok (.iaload, 1) := by decide +kernel
theorem dX11_many_7 : decode cX11_many 7 = .ok (.ireturn, 1) := by decide +kernel
theorem dX11_isRow_0 : decode cX11_isRow 0 = .ok (.iload_n 1, 1) := by decide +kernel
theorem dX11_isRow_1 : decode cX11_isRow 1 = .ok (.i2l, 1) := by decide +kernel
theorem dX11_isRow_2 : decode cX11_isRow 2 = .ok (.lconst 0, 1) := by decide +kernel
theorem dX11_isRow_3 : decode cX11_isRow 3 = .ok (.aload_n 0, 1) := by decide +kernel
theorem dX11_isRow_4 : decode cX11_isRow 4 = .ok (.invokevirtual 97, 3) := by decide +kernel
theorem dX11_isRow_7 : decode cX11_isRow 7 = .ok (.iconst 1, 1) := by decide +kernel
theorem dX11_isRow_8 : decode cX11_isRow 8 = .ok (.isub, 1) := by decide +kernel
theorem dX11_isRow_9 : decode cX11_isRow 9 = .ok (.i2l, 1) := by decide +kernel
theorem dX11_isRow_10 : decode cX11_isRow 10 = .ok (.invokestatic 101, 3) := by decide +kernel
theorem dX11_isRow_13 : decode cX11_isRow 13 = .ok (.ireturn, 1) := by decide +kernel
theorem dX11_isWorth_0 : decode cX11_isWorth 0 = .ok (.iload_n 0, 1) := by decide +kernel
theorem dX11_isWorth_1 : decode cX11_isWorth 1 = .ok (.i2l, 1) := by decide +kernel
theorem dX11_isWorth_2 : decode cX11_isWorth 2 = .ok (.ldc2_w 105, 3) := by decide +kernel
theorem dX11_isWorth_5 : decode cX11_isWorth 5 = .ok (.ldc2_w 107, 3) := by decide +kernel
theorem dX11_isWorth_8 : decode cX11_isWorth 8 = .ok (.invokestatic 101, 3) := by decide +kernel
theorem dX11_isWorth_11 : decode cX11_isWorth 11 = .ok (.ifCond .ne 10, 3) := by decide +kernel
theorem dX11_isWorth_14 : decode cX11_isWorth 14 = .ok (.iload_n 0, 1) := by decide +kernel
theorem dX11_isWorth_15 : decode cX11_isWorth 15 = .ok (.sipush 1000, 3) := by decide +kernel
theorem dX11_isWorth_18 : decode cX11_isWorth 18 = .ok (.if_icmp .ne 7, 3) := by decide +kernel
theorem dX11_isWorth_21 : decode cX11_isWorth 21 = .ok (.iconst 1, 1) := by decide +kernel
theorem dX11_isWorth_22 : decode cX11_isWorth 22 = .ok (.goto 4, 3) := by decide +kernel
theorem dX11_isWorth_25 : decode cX11_isWorth 25 = .ok (.iconst 0, 1) := by decide +kernel
theorem dX11_isWorth_26 : decode cX11_isWorth 26 = .ok (.ireturn, 1) := by decide +kernel
theorem dX11_row_0 : decode cX11_row 0 = .ok (.iload_n 1, 1) := by decide +kernel
theorem dX11_row_1 : decode cX11_row 1 = .ok (.invokestatic 109, 3) := by decide +kernel
theorem dX11_row_4 : decode cX11_row 4 = .ok (.ifCond .eq 10, 3) := by decide +kernel
theorem dX11_row_7 : decode cX11_row 7 = .ok (.iload_n 2, 1) := by decide +kernel
theorem dX11_row_8 : decode cX11_row 8 = .ok (.invokestatic 109, 3) := by decide +kernel
theorem dX11_row_11 : decode cX11_row 11 = .ok (.ifCond .ne 6, 3) := by decide +kernel
theorem dX11_row_14 : decode cX11_row 14 = .ok (.bipush (-2), 2) := by decide +kernel
theorem dX11_row_16 : decode cX11_row 16 = .ok (.ireturn, 1) := by decide +kernel
theorem dX11_row_17 : decode cX11_row 17 = .ok (.aload_n 0, 1) := by decide +kernel
theorem dX11_row_18 : decode cX11_row 18 = .ok (.invokevirtual 97, 3) := by decide +kernel
theorem dX11_row_21 : decode cX11_row 21 = .ok (.bipush 32, 2) := by decide +kernel
theorem dX11_row_23 : decode cX11_row 23 = .ok (.if_icmp .ne 6, 3) := by decide +kernel
theorem dX11_row_26 : decode cX11_row 26 = .ok (.bipush (-4), 2) := by decide +kernel
theorem dX11_row_28 : decode cX11_row 28 = .ok (.ireturn, 1) := by decide +kernel
theorem dX11_row_29 : decode cX11_row 29 = .ok (.aload_n 0, 1) := by decide +kernel
theorem dX11_row_30 : decode cX11_row 30 = .ok (.getfield 9, 3) := by decide +kernel
theorem dX11_row_33 : decode cX11_row 33 = .ok (.sipush 3336, 3) := by decide +kernel
theorem dX11_row_36 : decode cX11_row 36 = .ok (.iconst 0, 1) := by decide +kernel
theorem dX11_row_37 : decode cX11_row 37 = .ok (.iastore, 1) := by decide +kernel
theorem dX11_row_38 : decode cX11_row 38 = .ok (.aload_n 0, 1) := by decide +kernel
theorem dX11_row_39 : decode cX11_row 39 = .ok (.getfield 9, 3) := by decide +kernel
theorem dX11_row_42 : decode cX11_row 42 = .ok (.iconst 2, 1) := by decide +kernel
theorem dX11_row_43 : decode cX11_row 43 = .ok (.aload_n 0, 1) := by decide +kernel
theorem dX11_row_44 : decode cX11_row 44 = .ok (.invokevirtual 97, 3) := by decide +kernel
theorem dX11_row_47 : decode cX11_row 47 = .ok (.imul, 1) := by decide +kernel
theorem dX11_row_48 : decode cX11_row 48 = .ok (.iload_n 1, 1) := by decide +kernel
theorem dX11_row_49 : decode cX11_row 49 = .ok (.iastore, 1) := by decide +kernel
theorem dX11_row_50 : decode cX11_row 50 = .ok (.aload_n 0, 1) := by decide +kernel
theorem dX11_row_51 : decode cX11_row 51 = .ok (.getfield 9, 3) := by decide +kernel
theorem dX11_row_54 : decode cX11_row 54 = .ok (.iconst 2, 1) := by decide +kernel
theorem dX11_row_55 : decode cX11_row 55 = .ok (.aload_n 0, 1) := by decide +kernel
theorem dX11_row_56 : decode cX11_row 56 = .ok (.invokevirtual 97, 3) := by decide +kernel
theorem dX11_row_59 : decode cX11_row 59 = .ok (.imul, 1) := by decide +kernel
theorem dX11_row_60 : decode cX11_row 60 = .ok (.iconst 1, 1) := by decide +kernel
theorem dX11_row_61 : decode cX11_row 61 = .ok (.iadd, 1) := by decide +kernel
theorem dX11_row_62 : decode cX11_row 62 = .ok (.iload_n 2, 1) := by decide +kernel
theorem dX11_row_63 : decode cX11_row 63 = .ok (.iastore, 1) := by decide +kernel
theorem dX11_row_64 : decode cX11_row 64 = .ok (.aload_n 0, 1) := by decide +kernel
theorem dX11_row_65 : decode cX11_row 65 = .ok (.getfield 9, 3) := by decide +kernel
theorem dX11_row_68 : decode cX11_row 68 = .ok (.bipush 64, 2) := by decide +kernel
theorem dX11_row_70 : decode cX11_row 70 = .ok (.dup2, 1) := by decide +kernel
theorem dX11_row_71 : decode cX11_row 71 = .ok (.iaload, 1) := by decide +kernel
theorem dX11_row_72 : decode cX11_row 72 = .ok (.iconst 1, 1) := by decide +kernel
theorem dX11_row_73 : decode cX11_row 73 = .ok (.iadd, 1) := by decide +kernel
theorem dX11_row_74 : decode cX11_row 74 = .ok (.iastore, 1) := by decide +kernel
theorem dX11_row_75 : decode cX11_row 75 = .ok (.aload_n 0, 1) := by decide +kernel
theorem dX11_row_76 : decode cX11_row 76 = .ok (.invokevirtual 97, 3) := by decide +kernel
theorem dX11_row_79 : decode cX11_row 79 = .ok (.iconst 1, 1) := by decide +kernel
theorem dX11_row_80 : decode cX11_row 80 = .ok (.isub, 1) := by decide +kernel
theorem dX11_row_81 : decode cX11_row 81 = .ok (.ireturn, 1) := by decide +kernel
theorem dX11_set_0 : decode cX11_set 0 = .ok (.aload_n 0, 1) := by decide +kernel
theorem dX11_set_1 : decode cX11_set 1 = .ok (.iload_n 1, 1) := by decide +kernel
theorem dX11_set_2 : decode cX11_set 2 = .ok (.invokevirtual 113, 3) := by decide +kernel
theorem dX11_set_5 : decode cX11_set 5 = .ok (.ifCond .ne 5, 3) := by decide +kernel
theorem dX11_set_8 : decode cX11_set 8 = .ok (.iconst (-1), 1) := by decide +kernel
theorem dX11_set_9 : decode cX11_set 9 = .ok (.ireturn, 1) := by decide +kernel
theorem dX11_set_10 : decode cX11_set 10 = .ok (.iload_n 2, 1) := by decide +kernel
theorem dX11_set_11 : decode cX11_set 11 = .ok (.invokestatic 109, 3) := by decide +kernel
theorem dX11_set_14 : decode cX11_set 14 = .ok (.ifCond .eq 10, 3) := by decide +kernel
theorem dX11_set_17 : decode cX11_set 17 = .ok (.iload_n 3, 1) := by decide +kernel
theorem dX11_set_18 : decode cX11_set 18 = .ok (.invokestatic 109, 3) := by decide +kernel
theorem dX11_set_21 : decode cX11_set 21 = .ok (.ifCond .ne 6, 3) := by decide +kernel
theorem dX11_set_24 : decode cX11_set 24 = .ok (.bipush (-2), 2) := by decide +kernel
theorem dX11_set_26 : decode cX11_set 26 = .ok (.ireturn, 1) := by decide +kernel
theorem dX11_set_27 : decode cX11_set 27 = .ok (.aload_n 0, 1) := by decide +kernel
theorem dX11_set_28 : decode cX11_set 28 = .ok (.getfield 9, 3) := by decide +kernel
theorem dX11_set_31 : decode cX11_set 31 = .ok (.sipush 3336, 3) := by decide +kernel
theorem dX11_set_34 : decode cX11_set 34 = .ok (.iconst 0, 1) := by decide +kernel
theorem dX11_set_35 : decode cX11_set 35 = .ok (.iastore, 1) := by decide +kernel
theorem dX11_set_36 : decode cX11_set 36 = .ok (.aload_n 0, 1) := by decide +kernel
theorem dX11_set_37 : decode cX11_set 37 = .ok (.getfield 9, 3) := by decide +kernel
theorem dX11_set_40 : decode cX11_set 40 = .ok (.iconst 2, 1) := by decide +kernel
theorem dX11_set_41 : decode cX11_set 41 = .ok (.iload_n 1, 1) := by decide +kernel
theorem dX11_set_42 : decode cX11_set 42 = .ok (.imul, 1) := by decide +kernel
theorem dX11_set_43 : decode cX11_set 43 = .ok (.iload_n 2, 1) := by decide +kernel
theorem dX11_set_44 : decode cX11_set 44 = .ok (.iastore, 1) := by decide +kernel
theorem dX11_set_45 : decode cX11_set 45 = .ok (.aload_n 0, 1) := by decide +kernel
theorem dX11_set_46 : decode cX11_set 46 = .ok (.getfield 9, 3) := by decide +kernel
theorem dX11_set_49 : decode cX11_set 49 = .ok (.iconst 2, 1) := by decide +kernel
theorem dX11_set_50 : decode cX11_set 50 = .ok (.iload_n 1, 1) := by decide +kernel
theorem dX11_set_51 : decode cX11_set 51 = .ok (.imul, 1) := by decide +kernel
theorem dX11_set_52 : decode cX11_set 52 = .ok (.iconst 1, 1) := by decide +kernel
theorem dX11_set_53 : decode cX11_set 53 = .ok (.iadd, 1) := by decide +kernel
theorem dX11_set_54 : decode cX11_set 54 = .ok (.iload_n 3, 1) := by decide +kernel
theorem dX11_set_55 : decode cX11_set 55 = .ok (.iastore, 1) := by decide +kernel
theorem dX11_set_56 : decode cX11_set 56 = .ok (.aload_n 0, 1) := by decide +kernel
theorem dX11_set_57 : decode cX11_set 57 = .ok (.invokevirtual 97, 3) := by decide +kernel
theorem dX11_set_60 : decode cX11_set 60 = .ok (.ireturn, 1) := by decide +kernel
theorem dX11_drop_0 : decode cX11_drop 0 = .ok (.aload_n 0, 1) := by decide +kernel
theorem dX11_drop_1 : decode cX11_drop 1 = .ok (.invokevirtual 97, 3) := by decide +kernel
theorem dX11_drop_4 : decode cX11_drop 4 = .ok (.ifCond .ne 6, 3) := by decide +kernel
theorem dX11_drop_7 : decode cX11_drop 7 = .ok (.bipush (-3), 2) := by decide +kernel
theorem dX11_drop_9 : decode cX11_drop 9 = .ok (.ireturn, 1) := by decide +kernel
theorem dX11_drop_10 : decode cX11_drop 10 = .ok (.aload_n 0, 1) := by decide +kernel
theorem dX11_drop_11 : decode cX11_drop 11 = .ok (.getfield 9, 3) := by decide +kernel
theorem dX11_drop_14 : decode cX11_drop 14 = .ok (.sipush 3336, 3) := by decide +kernel
theorem dX11_drop_17 : decode cX11_drop 17 = .ok (.iconst 0, 1) := by decide +kernel
theorem dX11_drop_18 : decode cX11_drop 18 = .ok (.iastore, 1) := by decide +kernel
theorem dX11_drop_19 : decode cX11_drop 19 = .ok (.aload_n 0, 1) := by decide +kernel
theorem dX11_drop_20 : decode cX11_drop 20 = .ok (.getfield 9, 3) := by decide +kernel
theorem dX11_drop_23 : decode cX11_drop 23 = .ok (.bipush 64, 2) := by decide +kernel
theorem dX11_drop_25 : decode cX11_drop 25 = .ok (.dup2, 1) := by decide +kernel
theorem dX11_drop_26 : decode cX11_drop 26 = .ok (.iaload, 1) := by decide +kernel
theorem dX11_drop_27 : decode cX11_drop 27 = .ok (.iconst 1, 1) := by decide +kernel
theorem dX11_drop_28 : decode cX11_drop 28 = .ok (.isub, 1) := by decide +kernel
theorem dX11_drop_29 : decode cX11_drop 29 = .ok (.iastore, 1) := by decide +kernel
theorem dX11_drop_30 : decode cX11_drop 30 = .ok (.aload_n 0, 1) := by decide +kernel
theorem dX11_drop_31 : decode cX11_drop 31 = .ok (.invokevirtual 97, 3) := by decide +kernel
theorem dX11_drop_34 : decode cX11_drop 34 = .ok (.ireturn, 1) := by decide +kernel
theorem dX11_cell_0 : decode cX11_cell 0 = .ok (.aload_n 0, 1) := by decide +kernel
theorem dX11_cell_1 : decode cX11_cell 1 = .ok (.iload_n 1, 1) := by decide +kernel
theorem dX11_cell_2 : decode cX11_cell 2 = .ok (.invokevirtual 113, 3) := by decide +kernel
theorem dX11_cell_5 : decode cX11_cell 5 = .ok (.ifCond .eq 26, 3) := by decide +kernel
theorem dX11_cell_8 : decode cX11_cell 8 = .ok (.iload_n 2, 1) := by decide +kernel
theorem dX11_cell_9 : decode cX11_cell 9 = .ok (.i2l, 1) := by decide +kernel
theorem dX11_cell_10 : decode cX11_cell 10 = .ok (.lconst 0, 1) := by decide +kernel
theorem dX11_cell_11 : decode cX11_cell 11 = .ok (.lconst 1, 1) := by decide +kernel
theorem dX11_cell_12 : decode cX11_cell 12 = .ok (.invokestatic 101, 3) := by decide +kernel
theorem dX11_cell_15 : decode cX11_cell 15 = .ok (.ifCond .eq 16, 3) := by decide +kernel
theorem dX11_cell_18 : decode cX11_cell 18 = .ok (.aload_n 0, 1) := by decide +kernel
theorem dX11_cell_19 : decode cX11_cell 19 = .ok (.getfield 9, 3) := by decide +kernel
theorem dX11_cell_22 : decode cX11_cell 22 = .ok (.iconst 2, 1) := by decide +kernel
theorem dX11_cell_23 : decode cX11_cell 23 = .ok (.iload_n 1, 1) := by decide +kernel
theorem dX11_cell_24 : decode cX11_cell 24 = .ok (.imul, 1) := by decide +kernel
theorem dX11_cell_25 : decode cX11_cell 25 = .ok (.iload_n 2, 1) := by decide +kernel
theorem dX11_cell_26 : decode cX11_cell 26 = .ok (.iadd, 1) := by decide +kernel
theorem dX11_cell_27 : decode cX11_cell 27 = .ok (.iaload, 1) := by decide +kernel
theorem dX11_cell_28 : decode cX11_cell 28 = .ok (.goto 4, 3) := by decide +kernel
theorem dX11_cell_31 : decode cX11_cell 31 = .ok (.iconst (-1), 1) := by decide +kernel
theorem dX11_cell_32 : decode cX11_cell 32 = .ok (.ireturn, 1) := by decide +kernel
theorem dX11_feed_0 : decode cX11_feed 0 = .ok (.iload_n 1, 1) := by decide +kernel
theorem dX11_feed_1 : decode cX11_feed 1 = .ok (.i2l, 1) := by decide +kernel
theorem dX11_feed_2 : decode cX11_feed 2 = .ok (.lconst 1, 1) := by decide +kernel
theorem dX11_feed_3 : decode cX11_feed 3 = .ok (.ldc2_w 116, 3) := by decide +kernel
theorem dX11_feed_6 : decode cX11_feed 6 = .ok (.invokestatic 101, 3) := by decide +kernel
theorem dX11_feed_9 : decode cX11_feed 9 = .ok (.ifCond .ne 6, 3) := by decide +kernel
theorem dX11_feed_12 : decode cX11_feed 12 = .ok (.bipush (-2), 2) := by decide +kernel
theorem dX11_feed_14 : decode cX11_feed 14 = .ok (.ireturn, 1) := by decide +kernel
theorem dX11_feed_15 : decode cX11_feed 15 = .ok (.aload_n 0, 1) := by decide +kernel
theorem dX11_feed_16 : decode cX11_feed 16 = .ok (.getfield 118, 3) := by decide +kernel
theorem dX11_feed_19 : decode cX11_feed 19 = .ok (.bipush 120, 2) := by decide +kernel
theorem dX11_feed_21 : decode cX11_feed 21 = .ok (.if_icmp .ne 6, 3) := by decide +kernel
theorem dX11_feed_24 : decode cX11_feed 24 = .ok (.bipush (-4), 2) := by decide +kernel
theorem dX11_feed_26 : decode cX11_feed 26 = .ok (.ireturn, 1) := by decide +kernel
theorem dX11_feed_27 : decode cX11_feed 27 = .ok (.aload_n 0, 1) := by decide +kernel
theorem dX11_feed_28 : decode cX11_feed 28 = .ok (.getfield 18, 3) := by decide +kernel
theorem dX11_feed_31 : decode cX11_feed 31 = .ok (.aload_n 0, 1) := by decide +kernel
theorem dX11_feed_32 : decode cX11_feed 32 = .ok (.getfield 118, 3) := by decide +kernel
theorem dX11_feed_35 : decode cX11_feed 35 = .ok (.iload_n 1, 1) := by decide +kernel
theorem dX11_feed_36 : decode cX11_feed 36 = .ok (.iastore, 1) := by decide +kernel
theorem dX11_feed_37 : decode cX11_feed 37 = .ok (.aload_n 0, 1) := by decide +kernel
theorem dX11_feed_38 : decode cX11_feed 38 = .ok (.dup, 1) := by decide +kernel
theorem dX11_feed_39 : decode cX11_feed 39 = .ok (.getfield 118, 3) := by decide +kernel
theorem dX11_feed_42 : decode cX11_feed 42 = .ok (.iconst 1, 1) := by decide +kernel
theorem dX11_feed_43 : decode cX11_feed 43 = .ok (.iadd, 1) := by decide +kernel
theorem dX11_feed_44 : decode cX11_feed 44 = .ok (.putfield 118, 3) := by decide +kernel
theorem dX11_feed_47 : decode cX11_feed 47 = .ok (.aload_n 0, 1) := by decide +kernel
theorem dX11_feed_48 : decode cX11_feed 48 = .ok (.getfield 118, 3) := by decide +kernel
theorem dX11_feed_51 : decode cX11_feed 51 = .ok (.ireturn, 1) := by decide +kernel
theorem dX11_clear_0 : decode cX11_clear 0 = .ok (.aload_n 0, 1) := by decide +kernel
theorem dX11_clear_1 : decode cX11_clear 1 = .ok (.getfield 118, 3) := by decide +kernel
theorem dX11_clear_4 : decode cX11_clear 4 = .ok (.istore_n 1, 1) := by decide +kernel
theorem dX11_clear_5 : decode cX11_clear 5 = .ok (.aload_n 0, 1) := by decide +kernel
theorem dX11_clear_6 : decode cX11_clear 6 = .ok (.iconst 0, 1) := by decide +kernel
theorem dX11_clear_7 : decode cX11_clear 7 = .ok (.putfield 118, 3) := by decide +kernel
theorem dX11_clear_10 : decode cX11_clear 10 = .ok (.iload_n 1, 1) := by decide +kernel
theorem dX11_clear_11 : decode cX11_clear 11 = .ok (.ireturn, 1) := by decide +kernel
theorem dX11_takesTape_0 : decode cX11_takesTape 0 = .ok (.aload_n 0, 1) := by decide +kernel
theorem dX11_takesTape_1 : decode cX11_takesTape 1 = .ok (.aload_n 0, 1) := by decide +kernel
theorem dX11_takesTape_2 : decode cX11_takesTape 2 = .ok (.getfield 118, 3) := by decide +kernel
theorem dX11_takesTape_5 : decode cX11_takesTape 5 = .ok (.putfield 122, 3) := by decide +kernel
theorem dX11_takesTape_8 : decode cX11_takesTape 8 = .ok (.aload_n 0, 1) := by decide +kernel
theorem dX11_takesTape_9 : decode cX11_takesTape 9 = .ok (.iconst 0, 1) := by decide +kernel
theorem dX11_takesTape_10 : decode cX11_takesTape 10 = .ok (.putfield 118, 3) := by decide +kernel
theorem dX11_takesTape_13 : decode cX11_takesTape 13 = .ok (.iconst 0, 1) := by decide +kernel
theorem dX11_takesTape_14 : decode cX11_takesTape 14 = .ok (.istore_n 1, 1) := by decide +kernel
theorem dX11_takesTape_15 : decode cX11_takesTape 15 = .ok (.iload_n 1, 1) := by decide +kernel
theorem dX11_takesTape_16 : decode cX11_takesTape 16 = .ok (.aload_n 0, 1) := by decide +kernel
theorem dX11_takesTape_17 : decode cX11_takesTape 17 = .ok (.getfield 122, 3) := by decide +kernel
theorem dX11_takesTape_20 : decode cX11_takesTape 20 = .ok (.if_icmp .ge 21, 3) := by decide +kernel
theorem dX11_takesTape_23 : decode cX11_takesTape 23 = .ok (.aload_n 0, 1) := by decide +kernel
theorem dX11_takesTape_24 : decode cX11_takesTape 24 = .ok (.getfield 21, 3) := by decide +kernel
theorem dX11_takesTape_27 : decode cX11_takesTape 27 = .ok (.iload_n 1, 1) := by decide +kernel
theorem dX11_takesTape_28 : decode cX11_takesTape 28 = .ok (.aload_n 0, 1) := by decide +kernel
theorem dX11_takesTape_29 : decode cX11_takesTape 29 = .ok (.getfield 18, 3) := by decide +kernel
theorem dX11_takesTape_32 : decode cX11_takesTape 32 = .ok (.iload_n 1, 1) := by decide +kernel
theorem dX11_takesTape_33 : decode cX11_takesTape 33 = .ok (.iaload, 1) := by decide +kernel
theorem dX11_takesTape_34 : decode cX11_takesTape 34 = .ok (.iastore, 1) := by decide +kernel
theorem dX11_takesTape_35 : decode cX11_takesTape 35 = .ok (.iinc 1 1, 3) := by decide +kernel
theorem dX11_takesTape_38 : decode cX11_takesTape 38 = .ok (.goto (-23), 3) := by decide +kernel
theorem dX11_takesTape_41 : decode cX11_takesTape 41 = .ok (.aload_n 0, 1) := by decide +kernel
theorem dX11_takesTape_42 : decode cX11_takesTape 42 = .ok (.iconst 0, 1) := by decide +kernel
theorem dX11_takesTape_43 : decode cX11_takesTape 43 = .ok (.putfield 125, 3) := by decide +kernel
theorem dX11_takesTape_46 : decode cX11_takesTape 46 = .ok (.aload_n 0, 1) := by decide +kernel
theorem dX11_takesTape_47 : decode cX11_takesTape 47 = .ok (.iconst 1, 1) := by decide +kernel
theorem dX11_takesTape_48 : decode cX11_takesTape 48 = .ok (.putfield 128, 3) := by decide +kernel
theorem dX11_takesTape_51 : decode cX11_takesTape 51 = .ok (.return_, 1) := by decide +kernel
theorem dX11_isAt_0 : decode cX11_isAt 0 = .ok (.aload_n 0, 1) := by decide +kernel
theorem dX11_isAt_1 : decode cX11_isAt 1 = .ok (.getfield 128, 3) := by decide +kernel
theorem dX11_isAt_4 : decode cX11_isAt 4 = .ok (.ifCond .eq 31, 3) := by decide +kernel
theorem dX11_isAt_7 : decode cX11_isAt 7 = .ok (.aload_n 0, 1) := by decide +kernel
theorem dX11_isAt_8 : decode cX11_isAt 8 = .ok (.getfield 125, 3) := by decide +kernel
theorem dX11_isAt_11 : decode cX11_isAt 11 = .ok (.aload_n 0, 1) := by decide +kernel
theorem dX11_isAt_12 : decode cX11_isAt 12 = .ok (.getfield 122, 3) := by decide +kernel
theorem dX11_isAt_15 : decode cX11_isAt 15 = .ok (.if_icmp .ge 20, 3) := by decide +kernel
theorem dX11_isAt_18 : decode cX11_isAt 18 = .ok (.aload_n 0, 1) := by decide +kernel
theorem dX11_isAt_19 : decode cX11_isAt 19 = .ok (.getfield 21, 3) := by decide +kernel
theorem dX11_isAt_22 : decode cX11_isAt 22 = .ok (.aload_n 0, 1) := by decide +kernel
theorem dX11_isAt_23 : decode cX11_isAt 23 = .ok (.getfield 125, 3) := by decide +kernel
theorem dX11_isAt_26 : decode cX11_isAt 26 = .ok (.iaload, 1) := by decide +kernel
theorem dX11_isAt_27 : decode cX11_isAt 27 = .ok (.iload_n 1, 1) := by decide +kernel
theorem dX11_isAt_28 : decode cX11_isAt 28 = .ok (.if_icmp .ne 7, 3) := by decide +kernel
theorem dX11_isAt_31 : decode cX11_isAt 31 = .ok (.iconst 1, 1) := by decide +kernel
theorem dX11_isAt_32 : decode cX11_isAt 32 = .ok (.goto 4, 3) := by decide +kernel
theorem dX11_isAt_35 : decode cX11_isAt 35 = .ok (.iconst 0, 1) := by decide +kernel
theorem dX11_isAt_36 : decode cX11_isAt 36 = .ok (.ireturn, 1) := by decide +kernel
theorem dX11_isAmong_0 : decode cX11_isAmong 0 = .ok (.aload_n 0, 1) := by decide +kernel
theorem dX11_isAmong_1 : decode cX11_isAmong 1 = .ok (.getfield 128, 3) := by decide +kernel
theorem dX11_isAmong_4 : decode cX11_isAmong 4 = .ok (.ifCond .eq 38, 3) := by decide +kernel
theorem dX11_isAmong_7 : decode cX11_isAmong 7 = .ok (.aload_n 0, 1) := by decide +kernel
theorem dX11_isAmong_8 : decode cX11_isAmong 8 = .ok (.getfield 125, 3) := by decide +kernel
theorem dX11_isAmong_11 : decode cX11_isAmong 11 = .ok (.aload_n 0, 1) := by decide +kernel
theorem dX11_isAmong_12 : decode cX11_isAmong 12 = .ok (.getfield 122, 3) := by decide +kernel
theorem dX11_isAmong_15 : decode cX11_isAmong 15 = .ok (.if_icmp .ge 27, 3) := by decide +kernel
theorem dX11_isAmong_18 : decode cX11_isAmong 18 = .ok (.aload_n 0, 1) := by decide +kernel
theorem dX11_isAmong_19 : decode cX11_isAmong 19 = .ok (.getfield 21, 3) := by decide +kernel
theorem dX11_isAmong_22 : decode cX11_isAmong 22 = .ok (.aload_n 0, 1) := by decide +kernel
theorem dX11_isAmong_23 : decode cX11_isAmong 23 = .ok (.getfield 125, 3) := by decide +kernel
theorem dX11_isAmong_26 : decode cX11_isAmong 26 = .ok (.iaload, 1) := by decide +kernel
theorem dX11_isAmong_27 : decode cX11_isAmong 27 = .ok (.i2l, 1) := by decide +kernel
theorem dX11_isAmong_28 : decode cX11_isAmong 28 = .ok (.iload_n 1, 1) := by decide +kernel
theorem dX11_isAmong_29 : decode cX11_isAmong 29 = .ok (.i2l, 1) := by decide +kernel
theorem dX11_isAmong_30 : decode cX11_isAmong 30 = .ok (.iload_n 2, 1) := by decide +kernel
theorem dX11_isAmong_31 : decode cX11_isAmong 31 = .ok (.i2l, 1) := by decide +kernel
theorem dX11_isAmong_32 : decode cX11_isAmong 32 = .ok (.invokestatic 101, 3) := by decide +kernel
theorem dX11_isAmong_35 : decode cX11_isAmong 35 = .ok (.ifCond .eq 7, 3) := by decide +kernel
theorem dX11_isAmong_38 : decode cX11_isAmong 38 = .ok (.iconst 1, 1) := by decide +kernel
theorem dX11_isAmong_39 : decode cX11_isAmong 39 = .ok (.goto 4, 3) := by decide +kernel
theorem dX11_isAmong_42 : decode cX11_isAmong 42 = .ok (.iconst 0, 1) := by decide +kernel
theorem dX11_isAmong_43 : decode cX11_isAmong 43 = .ok (.ireturn, 1) := by decide +kernel
theorem dX11_takes_0 : decode cX11_takes 0 = .ok (.aload_n 0, 1) := by decide +kernel
theorem dX11_takes_1 : decode cX11_takes 1 = .ok (.iload_n 1, 1) := by decide +kernel
theorem dX11_takes_2 : decode cX11_takes 2 = .ok (.invokevirtual 132, 3) := by decide +kernel
theorem dX11_takes_5 : decode cX11_takes 5 = .ok (.ifCond .eq 16, 3) := by decide +kernel
theorem dX11_takes_8 : decode cX11_takes 8 = .ok (.aload_n 0, 1) := by decide +kernel
theorem dX11_takes_9 : decode cX11_takes 9 = .ok (.dup, 1) := by decide +kernel
theorem dX11_takes_10 : decode cX11_takes 10 = .ok (.getfield 125, 3) := by decide +kernel
theorem dX11_takes_13 : decode cX11_takes 13 = .ok (.iconst 1, 1) := by decide +kernel
theorem dX11_takes_14 : decode cX11_takes 14 = .ok (.iadd, 1) := by decide +kernel
theorem dX11_takes_15 : decode cX11_takes 15 = .ok (.putfield 125, 3) := by decide +kernel
theorem dX11_takes_18 : decode cX11_takes 18 = .ok (.goto 8, 3) := by decide +kernel
theorem dX11_takes_21 : decode cX11_takes 21 = .ok (.aload_n 0, 1) := by decide +kernel
theorem dX11_takes_22 : decode cX11_takes 22 = .ok (.iconst 0, 1) := by decide +kernel
theorem dX11_takes_23 : decode cX11_takes 23 = .ok (.putfield 128, 3) := by decide +kernel
theorem dX11_takes_26 : decode cX11_takes 26 = .ok (.return_, 1) := by decide +kernel
theorem dX11_fails_0 : decode cX11_fails 0 = .ok (.aload_n 0, 1) := by decide +kernel
theorem dX11_fails_1 : decode cX11_fails 1 = .ok (.aload_n 0, 1) := by decide +kernel
theorem dX11_fails_2 : decode cX11_fails 2 = .ok (.getfield 128, 3) := by decide +kernel
theorem dX11_fails_5 : decode cX11_fails 5 = .ok (.ifCond .eq 7, 3) := by decide +kernel
theorem dX11_fails_8 : decode cX11_fails 8 = .ok (.iload_n 1, 1) := by decide +kernel
theorem dX11_fails_9 : decode cX11_fails 9 = .ok (.goto 7, 3) := by decide +kernel
theorem dX11_fails_12 : decode cX11_fails 12 = .ok (.aload_n 0, 1) := by decide +kernel
theorem dX11_fails_13 : decode cX11_fails 13 = .ok (.getfield 125, 3) := by decide +kernel
theorem dX11_fails_16 : decode cX11_fails 16 = .ok (.putfield 125, 3) := by decide +kernel
theorem dX11_fails_19 : decode cX11_fails 19 = .ok (.aload_n 0, 1) := by decide +kernel
theorem dX11_fails_20 : decode cX11_fails 20 = .ok (.iconst 0, 1) := by decide +kernel
theorem dX11_fails_21 : decode cX11_fails 21 = .ok (.putfield 128, 3) := by decide +kernel
theorem dX11_fails_24 : decode cX11_fails 24 = .ok (.return_, 1) := by decide +kernel
theorem dX11_number_0 : decode cX11_number 0 = .ok (.aload_n 0, 1) := by decide +kernel
theorem dX11_number_1 : decode cX11_number 1 = .ok (.getfield 125, 3) := by decide +kernel
theorem dX11_number_4 : decode cX11_number 4 = .ok (.istore_n 2, 1) := by decide +kernel
theorem dX11_number_5 : decode cX11_number 5 = .ok (.iconst 0, 1) := by decide +kernel
theorem dX11_number_6 : decode cX11_number 6 = .ok (.istore_n 3, 1) := by decide +kernel
theorem dX11_number_7 : decode cX11_number 7 = .ok (.aload_n 0, 1) := by decide +kernel
theorem dX11_number_8 : decode cX11_number 8 = .ok (.getfield 125, 3) := by decide +kernel
theorem dX11_number_11 : decode cX11_number 11 = .ok (.iload_n 2, 1) := by decide +kernel
theorem dX11_number_12 : decode cX11_number 12 = .ok (.isub, 1) := by decide +kernel
theorem dX11_number_13 : decode cX11_number 13 = .ok (.iload_n 1, 1) := by decide +kernel
theorem dX11_number_14 : decode cX11_number 14 = .ok (.if_icmp .ge 45, 3) := by decide +kernel
theorem dX11_number_17 : decode cX11_number 17 = .ok (.aload_n 0, 1) := by decide +kernel
theorem dX11_number_18 : decode cX11_number 18 = .ok (.bipush 48, 2) := by decide +kernel
theorem dX11_number_20 : decode cX11_number 20 = .ok (.bipush 57, 2) := by decide +kernel
theorem dX11_number_22 : decode cX11_number 22 = .ok (.invokevirtual 135, 3) := by decide +kernel
theorem dX11_number_25 : decode cX11_number 25 = .ok (.ifCond .eq 34, 3) := by decide +kernel
theorem dX11_number_28 : decode cX11_number 28 = .ok (.bipush 10, 2) := by decide +kernel
theorem dX11_number_30 : decode cX11_number 30 = .ok (.iload_n 3, 1) := by decide +kernel
theorem dX11_number_31 : decode cX11_number 31 = .ok (.imul, 1) := by decide +kernel
theorem dX11_number_32 : decode cX11_number 32 = .ok (.aload_n 0, 1) := by decide +kernel
theorem dX11_number_33 : decode cX11_number 33 = .ok (.getfield 21, 3) := by decide +kernel
theorem dX11_number_36 : decode cX11_number 36 = .ok (.aload_n 0, 1) := by decide +kernel
theorem dX11_number_37 : decode cX11_number 37 = .ok (.getfield 125, 3) := by decide +kernel
theorem dX11_number_40 : decode cX11_number 40 = .ok (.iaload, 1) := by decide +kernel
theorem dX11_number_41 : decode cX11_number 41 = .ok (.iadd, 1) := by decide +kernel
theorem dX11_number_42 : decode cX11_number 42 = .ok (.bipush 48, 2) := by decide +kernel
theorem dX11_number_44 : decode cX11_number 44 = .ok (.isub, 1) := by decide +kernel
theorem dX11_number_45 : decode cX11_number 45 = .ok (.istore_n 3, 1) := by decide +kernel
theorem dX11_number_46 : decode cX11_number 46 = .ok (.aload_n 0, 1) := by decide +kernel
theorem dX11_number_47 : decode cX11_number 47 = .ok (.dup, 1) := by decide +kernel
theorem dX11_number_48 : decode cX11_number 48 = .ok (.getfield 125, 3) := by decide +kernel
theorem dX11_number_51 : decode cX11_number 51 = .ok (.iconst 1, 1) := by decide +kernel
theorem dX11_number_52 : decode cX11_number 52 = .ok (.iadd, 1) := by decide +kernel
theorem dX11_number_53 : decode cX11_number 53 = .ok (.putfield 125, 3) := by decide +kernel
theorem dX11_number_56 : decode cX11_number 56 = .ok (.goto (-49), 3) := by decide +kernel
theorem dX11_number_59 : decode cX11_number 59 = .ok (.aload_n 0, 1) := by decide +kernel
theorem dX11_number_60 : decode cX11_number 60 = .ok (.getfield 128, 3) := by decide +kernel
theorem dX11_number_63 : decode cX11_number 63 = .ok (.ifCond .eq 16, 3) := by decide +kernel
theorem dX11_number_66 : decode cX11_number 66 = .ok (.aload_n 0, 1) := by decide +kernel
theorem dX11_number_67 : decode cX11_number 67 = .ok (.getfield 125, 3) := by decide +kernel
theorem dX11_number_70 : decode cX11_number 70 = .ok (.iload_n 2, 1) := by decide +kernel
theorem dX11_number_71 : decode cX11_number 71 = .ok (.if_icmp .ne 8, 3) := by decide +kernel
theorem dX11_number_74 : decode cX11_number 74 = .ok (.aload_n 0, 1) := by decide +kernel
theorem dX11_number_75 : decode cX11_number 75 = .ok (.iconst 0, 1) := by decide +kernel
theorem dX11_number_76 : decode cX11_number 76 = .ok (.putfield 128, 3) := by decide +kernel
theorem dX11_number_79 : decode cX11_number 79 = .ok (.iload_n 3, 1) := by decide +kernel
theorem dX11_number_80 : decode cX11_number 80 = .ok (.ireturn, 1) := by decide +kernel
