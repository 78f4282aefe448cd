/-! decode rows, 6 -/
theorem dX11_times_106 : decode cX11_times 106 = .ok (.invokevirtual 203, 3) := by decide +kernel
theorem dX11_times_109 : decode cX11_times 109 = .ok (.aload_n 0, 1) := by decide +kernel
theorem dX11_times_110 : decode cX11_times 110 = .ok (.getfield 33, 3) := by decide +kernel
theorem dX11_times_113 : decode cX11_times 113 = .ok (.iload_n 1, 1) := by decide +kernel
theorem dX11_times_114 : decode cX11_times 114 = .ok (.iaload, 1) := by decide +kernel
theorem dX11_times_115 : decode cX11_times 115 = .ok (.bipush 100, 2) := by decide +kernel
theorem dX11_times_117 : decode cX11_times 117 = .ok (.if_icmp .eq 13, 3) := by decide +kernel
theorem dX11_times_120 : decode cX11_times 120 = .ok (.aload_n 0, 1) := by decide +kernel
theorem dX11_times_121 : decode cX11_times 121 = .ok (.aload_n 0, 1) := by decide +kernel
theorem dX11_times_122 : decode cX11_times 122 = .ok (.getfield 33, 3) := by decide +kernel
theorem dX11_times_125 : decode cX11_times 125 = .ok (.iload_n 1, 1) := by decide +kernel
theorem dX11_times_126 : decode cX11_times 126 = .ok (.iaload, 1) := by decide +kernel
theorem dX11_times_127 : decode cX11_times 127 = .ok (.invokevirtual 213, 3) := by decide +kernel
theorem dX11_times_130 : decode cX11_times 130 = .ok (.aload_n 0, 1) := by decide +kernel
theorem dX11_times_131 : decode cX11_times 131 = .ok (.bipush 125, 2) := by decide +kernel
theorem dX11_times_133 : decode cX11_times 133 = .ok (.invokevirtual 203, 3) := by decide +kernel
theorem dX11_times_136 : decode cX11_times 136 = .ok (.aload_n 0, 1) := by decide +kernel
theorem dX11_times_137 : decode cX11_times 137 = .ok (.getfield 36, 3) := by decide +kernel
theorem dX11_times_140 : decode cX11_times 140 = .ok (.iload_n 1, 1) := by decide +kernel
theorem dX11_times_141 : decode cX11_times 141 = .ok (.iaload, 1) := by decide +kernel
theorem dX11_times_142 : decode cX11_times 142 = .ok (.ifCond .ne 9, 3) := by decide +kernel
theorem dX11_times_145 : decode cX11_times 145 = .ok (.aload_n 0, 1) := by decide +kernel
theorem dX11_times_146 : decode cX11_times 146 = .ok (.bipush 63, 2) := by decide +kernel
theorem dX11_times_148 : decode cX11_times 148 = .ok (.invokevirtual 203, 3) := by decide +kernel
theorem dX11_times_151 : decode cX11_times 151 = .ok (.return_, 1) := by decide +kernel
theorem dX11_spell_0 : decode cX11_spell 0 = .ok (.aload_n 0, 1) := by decide +kernel
theorem dX11_spell_1 : decode cX11_spell 1 = .ok (.invokevirtual 195, 3) := by decide +kernel
theorem dX11_spell_4 : decode cX11_spell 4 = .ok (.ifCond .ne 6, 3) := by decide +kernel
theorem dX11_spell_7 : decode cX11_spell 7 = .ok (.bipush (-3), 2) := by decide +kernel
theorem dX11_spell_9 : decode cX11_spell 9 = .ok (.ireturn, 1) := by decide +kernel
theorem dX11_spell_10 : decode cX11_spell 10 = .ok (.aload_n 0, 1) := by decide +kernel
theorem dX11_spell_11 : decode cX11_spell 11 = .ok (.iconst 0, 1) := by decide +kernel
theorem dX11_spell_12 : decode cX11_spell 12 = .ok (.putfield 200, 3) := by decide +kernel
theorem dX11_spell_15 : decode cX11_spell 15 = .ok (.aload_n 0, 1) := by decide +kernel
theorem dX11_spell_16 : decode cX11_spell 16 = .ok (.aload_n 0, 1) := by decide +kernel
theorem dX11_spell_17 : decode cX11_spell 17 = .ok (.getfield 139, 3) := by decide +kernel
theorem dX11_spell_20 : decode cX11_spell 20 = .ok (.iconst 1, 1) := by decide +kernel
theorem dX11_spell_21 : decode cX11_spell 21 = .ok (.isub, 1) := by decide +kernel
theorem dX11_spell_22 : decode cX11_spell 22 = .ok (.iconst 0, 1) := by decide +kernel
theorem dX11_spell_23 : decode cX11_spell 23 = .ok (.invokevirtual 206, 3) := by decide +kernel
theorem dX11_spell_26 : decode cX11_spell 26 = .ok (.aload_n 0, 1) := by decide +kernel
theorem dX11_spell_27 : decode cX11_spell 27 = .ok (.getfield 200, 3) := by decide +kernel
theorem dX11_spell_30 : decode cX11_spell 30 = .ok (.ireturn, 1) := by decide +kernel
theorem dX11_paper_0 : decode cX11_paper 0 = .ok (.iload_n 1, 1) := by decide +kernel
theorem dX11_paper_1 : decode cX11_paper 1 = .ok (.i2l, 1) := by decide +kernel
theorem dX11_paper_2 : decode cX11_paper 2 = .ok (.lconst 0, 1) := by decide +kernel
theorem dX11_paper_3 : decode cX11_paper 3 = .ok (.aload_n 0, 1) := by decide +kernel
theorem dX11_paper_4 : decode cX11_paper 4 = .ok (.getfield 200, 3) := by decide +kernel
theorem dX11_paper_7 : decode cX11_paper 7 = .ok (.iconst 1, 1) := by decide +kernel
theorem dX11_paper_8 : decode cX11_paper 8 = .ok (.isub, 1) := by decide +kernel
theorem dX11_paper_9 : decode cX11_paper 9 = .ok (.i2l, 1) := by decide +kernel
theorem dX11_paper_10 : decode cX11_paper 10 = .ok (.invokestatic 101, 3) := by decide +kernel
theorem dX11_paper_13 : decode cX11_paper 13 = .ok (.ifCond .eq 12, 3) := by decide +kernel
theorem dX11_paper_16 : decode cX11_paper 16 = .ok (.aload_n 0, 1) := by decide +kernel
theorem dX11_paper_17 : decode cX11_paper 17 = .ok (.getfield 51, 3) := by decide +kernel
theorem dX11_paper_20 : decode cX11_paper 20 = .ok (.iload_n 1, 1) := by decide +kernel
theorem dX11_paper_21 : decode cX11_paper 21 = .ok (.iaload, 1) := by decide +kernel
theorem dX11_paper_22 : decode cX11_paper 22 = .ok (.goto 4, 3) := by decide +kernel
theorem dX11_paper_25 : decode cX11_paper 25 = .ok (.iconst (-1), 1) := by decide +kernel
theorem dX11_paper_26 : decode cX11_paper 26 = .ok (.ireturn, 1) := by decide +kernel
theorem dX11_seen_0 : decode cX11_seen 0 = .ok (.aload_n 0, 1) := by decide +kernel
theorem dX11_seen_1 : decode cX11_seen 1 = .ok (.getfield 216, 3) := by decide +kernel
theorem dX11_seen_4 : decode cX11_seen 4 = .ok (.ifCond .ge 5, 3) := by decide +kernel
theorem dX11_seen_7 : decode cX11_seen 7 = .ok (.lconst 0, 1) := by decide +kernel
theorem dX11_seen_8 : decode cX11_seen 8 = .ok (.lreturn, 1) := by decide +kernel
theorem dX11_seen_9 : decode cX11_seen 9 = .ok (.aload_n 0, 1) := by decide +kernel
theorem dX11_seen_10 : decode cX11_seen 10 = .ok (.iload_n 1, 1) := by decide +kernel
theorem dX11_seen_11 : decode cX11_seen 11 = .ok (.invokevirtual 113, 3) := by decide +kernel
theorem dX11_seen_14 : decode cX11_seen 14 = .ok (.ifCond .eq 23, 3) := by decide +kernel
theorem dX11_seen_17 : decode cX11_seen 17 = .ok (.aload_n 0, 1) := by decide +kernel
theorem dX11_seen_18 : decode cX11_seen 18 = .ok (.getfield 9, 3) := by decide +kernel
theorem dX11_seen_21 : decode cX11_seen 21 = .ok (.iconst 2, 1) := by decide +kernel
theorem dX11_seen_22 : decode cX11_seen 22 = .ok (.iload_n 1, 1) := by decide +kernel
theorem dX11_seen_23 : decode cX11_seen 23 = .ok (.imul, 1) := by decide +kernel
theorem dX11_seen_24 : decode cX11_seen 24 = .ok (.iload_n 2, 1) := by decide +kernel
theorem dX11_seen_25 : decode cX11_seen 25 = .ok (.iadd, 1) := by decide +kernel
theorem dX11_seen_26 : decode cX11_seen 26 = .ok (.iaload, 1) := by decide +kernel
theorem dX11_seen_27 : decode cX11_seen 27 = .ok (.sipush 1000, 3) := by decide +kernel
theorem dX11_seen_30 : decode cX11_seen 30 = .ok (.if_icmp .eq 7, 3) := by decide +kernel
theorem dX11_seen_33 : decode cX11_seen 33 = .ok (.iconst 1, 1) := by decide +kernel
theorem dX11_seen_34 : decode cX11_seen 34 = .ok (.goto 4, 3) := by decide +kernel
theorem dX11_seen_37 : decode cX11_seen 37 = .ok (.iconst 0, 1) := by decide +kernel
theorem dX11_seen_38 : decode cX11_seen 38 = .ok (.istore_n 3, 1) := by decide +kernel
theorem dX11_seen_39 : decode cX11_seen 39 = .ok (.aload_n 0, 1) := by decide +kernel
theorem dX11_seen_40 : decode cX11_seen 40 = .ok (.aload_n 0, 1) := by decide +kernel
theorem dX11_seen_41 : decode cX11_seen 41 = .ok (.getfield 219, 3) := by decide +kernel
theorem dX11_seen_44 : decode cX11_seen 44 = .ok (.ifCond .ne 7, 3) := by decide +kernel
theorem dX11_seen_47 : decode cX11_seen 47 = .ok (.iload_n 3, 1) := by decide +kernel
theorem dX11_seen_48 : decode cX11_seen 48 = .ok (.ifCond .ne 7, 3) := by decide +kernel
theorem dX11_seen_51 : decode cX11_seen 51 = .ok (.iconst 1, 1) := by decide +kernel
theorem dX11_seen_52 : decode cX11_seen 52 = .ok (.goto 4, 3) := by decide +kernel
theorem dX11_seen_55 : decode cX11_seen 55 = .ok (.iconst 0, 1) := by decide +kernel
theorem dX11_seen_56 : decode cX11_seen 56 = .ok (.putfield 219, 3) := by decide +kernel
theorem dX11_seen_59 : decode cX11_seen 59 = .ok (.iload_n 3, 1) := by decide +kernel
theorem dX11_seen_60 : decode cX11_seen 60 = .ok (.ifCond .eq 17, 3) := by decide +kernel
theorem dX11_seen_63 : decode cX11_seen 63 = .ok (.aload_n 0, 1) := by decide +kernel
theorem dX11_seen_64 : decode cX11_seen 64 = .ok (.getfield 9, 3) := by decide +kernel
theorem dX11_seen_67 : decode cX11_seen 67 = .ok (.iconst 2, 1) := by decide +kernel
theorem dX11_seen_68 : decode cX11_seen 68 = .ok (.iload_n 1, 1) := by decide +kernel
theorem dX11_seen_69 : decode cX11_seen 69 = .ok (.imul, 1) := by decide +kernel
theorem dX11_seen_70 : decode cX11_seen 70 = .ok (.iload_n 2, 1) := by decide +kernel
theorem dX11_seen_71 : decode cX11_seen 71 = .ok (.iadd, 1) := by decide +kernel
theorem dX11_seen_72 : decode cX11_seen 72 = .ok (.iaload, 1) := by decide +kernel
theorem dX11_seen_73 : decode cX11_seen 73 = .ok (.i2l, 1) := by decide +kernel
theorem dX11_seen_74 : decode cX11_seen 74 = .ok (.goto 4, 3) := by decide +kernel
theorem dX11_seen_77 : decode cX11_seen 77 = .ok (.lconst 0, 1) := by decide +kernel
theorem dX11_seen_78 : decode cX11_seen 78 = .ok (.lreturn, 1) := by decide +kernel
theorem dX11_column_0 : decode cX11_column 0 = .ok (.aload_n 0, 1) := by decide +kernel
theorem dX11_column_1 : decode cX11_column 1 = .ok (.bipush 121, 2) := by decide +kernel
theorem dX11_column_3 : decode cX11_column 3 = .ok (.invokevirtual 132, 3) := by decide +kernel
theorem dX11_column_6 : decode cX11_column 6 = .ok (.ifCond .eq 7, 3) := by decide +kernel
theorem dX11_column_9 : decode cX11_column 9 = .ok (.iconst 1, 1) := by decide +kernel
theorem dX11_column_10 : decode cX11_column 10 = .ok (.goto 4, 3) := by decide +kernel
theorem dX11_column_13 : decode cX11_column 13 = .ok (.iconst 0, 1) := by decide +kernel
theorem dX11_column_14 : decode cX11_column 14 = .ok (.istore_n 1, 1) := by decide +kernel
theorem dX11_column_15 : decode cX11_column 15 = .ok (.aload_n 0, 1) := by decide +kernel
theorem dX11_column_16 : decode cX11_column 16 = .ok (.iload_n 1, 1) := by decide +kernel
theorem dX11_column_17 : decode cX11_column 17 = .ok (.iconst 1, 1) := by decide +kernel
theorem dX11_column_18 : decode cX11_column 18 = .ok (.if_icmp .ne 8, 3) := by decide +kernel
theorem dX11_column_21 : decode cX11_column 21 = .ok (.bipush 121, 2) := by decide +kernel
theorem dX11_column_23 : decode cX11_column 23 = .ok (.goto 5, 3) := by decide +kernel
theorem dX11_column_26 : decode cX11_column 26 = .ok (.bipush 120, 2) := by decide +kernel
theorem dX11_column_28 : decode cX11_column 28 = .ok (.invokevirtual 146, 3) := by decide +kernel
theorem dX11_column_31 : decode cX11_column 31 = .ok (.iload_n 1, 1) := by decide +kernel
theorem dX11_column_32 : decode cX11_column 32 = .ok (.ireturn, 1) := by decide +kernel
theorem dX11_lettered_0 : decode cX11_lettered 0 = .ok (.iconst (-1), 1) := by decide +kernel
theorem dX11_lettered_1 : decode cX11_lettered 1 = .ok (.istore_n 3, 1) := by decide +kernel
theorem dX11_lettered_2 : decode cX11_lettered 2 = .ok (.aload_n 0, 1) := by decide +kernel
theorem dX11_lettered_3 : decode cX11_lettered 3 = .ok (.getfield 222, 3) := by decide +kernel
theorem dX11_lettered_6 : decode cX11_lettered 6 = .ok (.istore 4, 2) := by decide +kernel
theorem dX11_lettered_8 : decode cX11_lettered 8 = .ok (.iload 4, 2) := by decide +kernel
theorem dX11_lettered_10 : decode cX11_lettered 10 = .ok (.aload_n 0, 1) := by decide +kernel
theorem dX11_lettered_11 : decode cX11_lettered 11 = .ok (.getfield 216, 3) := by decide +kernel
theorem dX11_lettered_14 : decode cX11_lettered 14 = .ok (.if_icmp .gt 35, 3) := by decide +kernel
theorem dX11_lettered_17 : decode cX11_lettered 17 = .ok (.aload_n 0, 1) := by decide +kernel
theorem dX11_lettered_18 : decode cX11_lettered 18 = .ok (.getfield 54, 3) := by decide +kernel
theorem dX11_lettered_21 : decode cX11_lettered 21 = .ok (.iload 4, 2) := by decide +kernel
theorem dX11_lettered_23 : decode cX11_lettered 23 = .ok (.iaload, 1) := by decide +kernel
theorem dX11_lettered_24 : decode cX11_lettered 24 = .ok (.iload_n 1, 1) := by decide +kernel
theorem dX11_lettered_25 : decode cX11_lettered 25 = .ok (.if_icmp .ne 16, 3) := by decide +kernel
theorem dX11_lettered_28 : decode cX11_lettered 28 = .ok (.iload_n 3, 1) := by decide +kernel
theorem dX11_lettered_29 : decode cX11_lettered 29 = .ok (.ifCond .lt 7, 3) := by decide +kernel
theorem dX11_lettered_32 : decode cX11_lettered 32 = .ok (.iload_n 2, 1) := by decide +kernel
theorem dX11_lettered_33 : decode cX11_lettered 33 = .ok (.ifCond .ne 8, 3) := by decide +kernel
theorem dX11_lettered_36 : decode cX11_lettered 36 = .ok (.iload 4, 2) := by decide +kernel
theorem dX11_lettered_38 : decode cX11_lettered 38 = .ok (.goto 4, 3) := by decide +kernel
theorem dX11_lettered_41 : decode cX11_lettered 41 = .ok (.iload_n 3, 1) := by decide +kernel
theorem dX11_lettered_42 : decode cX11_lettered 42 = .ok (.istore_n 3, 1) := by decide +kernel
theorem dX11_lettered_43 : decode cX11_lettered 43 = .ok (.iinc 4 1, 3) := by decide +kernel
theorem dX11_lettered_46 : decode cX11_lettered 46 = .ok (.goto (-38), 3) := by decide +kernel
theorem dX11_lettered_49 : decode cX11_lettered 49 = .ok (.iload_n 3, 1) := by decide +kernel
theorem dX11_lettered_50 : decode cX11_lettered 50 = .ok (.ireturn, 1) := by decide +kernel
theorem dX11_summed_0 : decode cX11_summed 0 = .ok (.lconst 0, 1) := by decide +kernel
theorem dX11_summed_1 : decode cX11_summed 1 = .ok (.lstore_n 3, 1) := by decide +kernel
theorem dX11_summed_2 : decode cX11_summed 2 = .ok (.aload_n 0, 1) := by decide +kernel
theorem dX11_summed_3 : decode cX11_summed 3 = .ok (.getfield 222, 3) := by decide +kernel
theorem dX11_summed_6 : decode cX11_summed 6 = .ok (.istore 5, 2) := by decide +kernel
theorem dX11_summed_8 : decode cX11_summed 8 = .ok (.iload 5, 2) := by decide +kernel
theorem dX11_summed_10 : decode cX11_summed 10 = .ok (.aload_n 0, 1) := by decide +kernel
theorem dX11_summed_11 : decode cX11_summed 11 = .ok (.getfield 216, 3) := by decide +kernel
theorem dX11_summed_14 : decode cX11_summed 14 = .ok (.if_icmp .gt 56, 3) := by decide +kernel
theorem dX11_summed_17 : decode cX11_summed 17 = .ok (.lload_n 3, 1) := by decide +kernel
theorem dX11_summed_18 : decode cX11_summed 18 = .ok (.aload_n 0, 1) := by decide +kernel
theorem dX11_summed_19 : decode cX11_summed 19 = .ok (.getfield 54, 3) := by decide +kernel
theorem dX11_summed_22 : decode cX11_summed 22 = .ok (.iload 5, 2) := by decide +kernel
theorem dX11_summed_24 : decode cX11_summed 24 = .ok (.iaload, 1) := by decide +kernel
theorem dX11_summed_25 : decode cX11_summed 25 = .ok (.iload_n 1, 1) := by decide +kernel
theorem dX11_summed_26 : decode cX11_summed 26 = .ok (.if_icmp .ne 35, 3) := by decide +kernel
theorem dX11_summed_29 : decode cX11_summed 29 = .ok (.aload_n 0, 1) := by decide +kernel
theorem dX11_summed_30 : decode cX11_summed 30 = .ok (.getfield 9, 3) := by decide +kernel
theorem dX11_summed_33 : decode cX11_summed 33 = .ok (.iconst 2, 1) := by decide +kernel
theorem dX11_summed_34 : decode cX11_summed 34 = .ok (.iload 5, 2) := by decide +kernel
theorem dX11_summed_36 : decode cX11_summed 36 = .ok (.imul, 1) := by decide +kernel
theorem dX11_summed_37 : decode cX11_summed 37 = .ok (.iload_n 2, 1) := by decide +kernel
theorem dX11_summed_38 : decode cX11_summed 38 = .ok (.iadd, 1) := by decide +kernel
theorem dX11_summed_39 : decode cX11_summed 39 = .ok (.iaload, 1) := by decide +kernel
theorem dX11_summed_40 : decode cX11_summed 40 = .ok (.sipush 1000, 3) := by decide +kernel
theorem dX11_summed_43 : decode cX11_summed 43 = .ok (.if_icmp .eq 18, 3) := by decide +kernel
theorem dX11_summed_46 : decode cX11_summed 46 = .ok (.aload_n 0, 1) := by decide +kernel
theorem dX11_summed_47 : decode cX11_summed 47 = .ok (.getfield 9, 3) := by decide +kernel
theorem dX11_summed_50 : decode cX11_summed 50 = .ok (.iconst 2, 1) := by decide +kernel
theorem dX11_summed_51 : decode cX11_summed 51 = .ok (.iload 5, 2) := by decide +kernel
theorem dX11_summed_53 : decode cX11_summed 53 = .ok (.imul, 1) := by decide +kernel
theorem dX11_summed_54 : decode cX11_summed 54 = .ok (.iload_n 2, 1) := by decide +kernel
theorem dX11_summed_55 : decode cX11_summed 55 = .ok (.iadd, 1) := by decide +kernel
theorem dX11_summed_56 : decode cX11_summed 56 = .ok (.iaload, 1) := by decide +kernel
theorem dX11_summed_57 : decode cX11_summed 57 = .ok (.i2l, 1) := by decide +kernel
theorem dX11_summed_58 : decode cX11_summed 58 = .ok (.goto 4, 3) := by decide +kernel
theorem dX11_summed_61 : decode cX11_summed 61 = .ok (.lconst 0, 1) := by decide +kernel
theorem dX11_summed_62 : decode cX11_summed 62 = .ok (.ladd, 1) := by decide +kernel
theorem dX11_summed_63 : decode cX11_summed 63 = .ok (.lstore_n 3, 1) := by decide +kernel
theorem dX11_summed_64 : decode cX11_summed 64 = .ok (.iinc 5 1, 3) := by decide +kernel
theorem dX11_summed_67 : decode cX11_summed 67 = .ok (.goto (-59), 3) := by decide +kernel
theorem dX11_summed_70 : decode cX11_summed 70 = .ok (.lload_n 3, 1) := by decide +kernel
theorem dX11_summed_71 : decode cX11_summed 71 = .ok (.lreturn, 1) := by decide +kernel
theorem dX11_counted_0 : decode cX11_counted 0 = .ok (.iconst 0, 1) := by decide +kernel
theorem dX11_counted_1 : decode cX11_counted 1 = .ok (.istore_n 2, 1) := by decide +kernel
theorem dX11_counted_2 : decode cX11_counted 2 = .ok (.aload_n 0, 1) := by decide +kernel
theorem dX11_counted_3 : decode cX11_counted 3 = .ok (.getfield 222, 3) := by decide +kernel
theorem dX11_counted_6 : decode cX11_counted 6 = .ok (.istore_n 3, 1) := by decide +kernel
theorem dX11_counted_7 : decode cX11_counted 7 = .ok (.iload_n 3, 1) := by decide +kernel
theorem dX11_counted_8 : decode cX11_counted 8 = .ok (.aload_n 0, 1) := by decide +kernel
theorem dX11_counted_9 : decode cX11_counted 9 = .ok (.getfield 216, 3) := by decide +kernel
theorem dX11_counted_12 : decode cX11_counted 12 = .ok (.if_icmp .gt 27, 3) := by decide +kernel
theorem dX11_counted_15 : decode cX11_counted 15 = .ok (.iload_n 2, 1) := by decide +kernel
theorem dX11_counted_16 : decode cX11_counted 16 = .ok (.aload_n 0, 1) := by decide +kernel
theorem dX11_counted_17 : decode cX11_counted 17 = .ok (.getfield 54, 3) := by decide +kernel
theorem dX11_counted_20 : decode cX11_counted 20 = .ok (.iload_n 3, 1) := by decide +kernel
theorem dX11_counted_21 : decode cX11_counted 21 = .ok (.iaload, 1) := by decide +kernel
theorem dX11_counted_22 : decode cX11_counted 22 = .ok (.iload_n 1, 1) := by decide +kernel
theorem dX11_counted_23 : decode cX11_counted 23 = .ok (.if_icmp .ne 7, 3) := by decide +kernel
theorem dX11_counted_26 : decode cX11_counted 26 = .ok (.iconst 1, 1) := by decide +kernel
theorem dX11_counted_27 : decode cX11_counted 27 = .ok (.goto 4, 3) := by decide +kernel
theorem dX11_counted_30 : decode cX11_counted 30 = .ok (.iconst 0, 1) := by decide +kernel
theorem dX11_counted_31 : decode cX11_counted 31 = .ok (.iadd, 1) := by decide +kernel
theorem dX11_counted_32 : decode cX11_counted 32 = .ok (.istore_n 2, 1) := by decide +kernel
theorem dX11_counted_33 : decode cX11_counted 33 = .ok (.iinc 3 1, 3) := by decide +kernel
theorem dX11_counted_36 : decode cX11_counted 36 = .ok (.goto (-29), 3) := by decide +kernel
theorem dX11_counted_39 : decode cX11_counted 39 = .ok (.iload_n 2, 1) := by decide +kernel
theorem dX11_counted_40 : decode cX11_counted 40 = .ok (.ireturn, 1) := by decide +kernel
theorem dX11_operand_0 : decode cX11_operand 0 = .ok (.aload_n 0, 1) := by decide +kernel
theorem dX11_operand_1 : decode cX11_operand 1 = .ok (.bipush 120, 2) := by decide +kernel
theorem dX11_operand_3 : decode cX11_operand 3 = .ok (.invokevirtual 132, 3) := by decide +kernel
theorem dX11_operand_6 : decode cX11_operand 6 = .ok (.ifCond .ne 12, 3) := by decide +kernel
theorem dX11_operand_9 : decode cX11_operand 9 = .ok (.aload_n 0, 1) := by decide +kernel
theorem dX11_operand_10 : decode cX11_operand 10 = .ok (.bipush 121, 2) := by decide +kernel
theorem dX11_operand_12 : decode cX11_operand 12 = .ok (.invokevirtual 132, 3) := by decide +kernel
theorem dX11_operand_15 : decode cX11_operand 15 = .ok (.ifCond .eq 16, 3) := by decide +kernel
theorem dX11_operand_18 : decode cX11_operand 18 = .ok (.aload_n 0, 1) := by decide +kernel
theorem dX11_operand_19 : decode cX11_operand 19 = .ok (.aload_n 0, 1) := by decide +kernel
theorem dX11_operand_20 : decode cX11_operand 20 = .ok (.getfield 216, 3) := by decide +kernel
theorem dX11_operand_23 : decode cX11_operand 23 = .ok (.aload_n 0, 1) := by decide +kernel
theorem dX11_operand_24 : decode cX11_operand 24 = .ok (.invokevirtual 225, 3) := by decide +kernel
theorem dX11_operand_27 : decode cX11_operand 27 = .ok (.invokevirtual 228, 3) := by decide +kernel
theorem dX11_operand_30 : decode cX11_operand 30 = .ok (.lreturn, 1) := by decide +kernel
theorem dX11_operand_31 : decode cX11_operand 31 = .ok (.aload_n 0, 1) := by decide +kernel
theorem dX11_operand_32 : decode cX11_operand 32 = .ok (.bipush 112, 2) := by decide +kernel
theorem dX11_operand_34 : decode cX11_operand 34 = .ok (.invokevirtual 132, 3) := by decide +kernel
theorem dX11_operand_37 : decode cX11_operand 37 = .ok (.ifCond .ne 12, 3) := by decide +kernel
theorem dX11_operand_40 : decode cX11_operand 40 = .ok (.aload_n 0, 1) := by decide +kernel
theorem dX11_operand_41 : decode cX11_operand 41 = .ok (.bipush 110, 2) := by decide +kernel
theorem dX11_operand_43 : decode cX11_operand 43 = .ok (.invokevirtual 132, 3) := by decide +kernel
theorem dX11_operand_46 : decode cX11_operand 46 = .ok (.ifCond .eq 50, 3) := by decide +kernel
theorem dX11_operand_49 : decode cX11_operand 49 = .ok (.aload_n 0, 1) := by decide +kernel
theorem dX11_operand_50 : decode cX11_operand 50 = .ok (.getfield 21, 3) := by decide +kernel
theorem dX11_operand_53 : decode cX11_operand 53 = .ok (.aload_n 0, 1) := by decide +kernel
theorem dX11_operand_54 : decode cX11_operand 54 = .ok (.getfield 125, 3) := by decide +kernel
theorem dX11_operand_57 : decode cX11_operand 57 = .ok (.iaload, 1) := by decide +kernel
theorem dX11_operand_58 : decode cX11_operand 58 = .ok (.bipush 112, 2) := by decide +kernel
theorem dX11_operand_60 : decode cX11_operand 60 = .ok (.if_icmp .ne 7, 3) := by decide +kernel
theorem dX11_operand_63 : decode cX11_operand 63 = .ok (.iconst (-1), 1) := by decide +kernel
theorem dX11_operand_64 : decode cX11_operand 64 = .ok (.goto 4, 3) := by decide +kernel
theorem dX11_operand_67 : decode cX11_operand 67 = .ok (.iconst 1, 1) := by decide +kernel
theorem dX11_operand_68 : decode cX11_operand 68 = .ok (.istore_n 1, 1) := by decide +kernel
theorem dX11_operand_69 : decode cX11_operand 69 = .ok (.aload_n 0, 1) := by decide +kernel
theorem dX11_operand_70 : decode cX11_operand 70 = .ok (.dup, 1) := by decide +kernel
theorem dX11_operand_71 : decode cX11_operand 71 = .ok (.getfield 125, 3) := by decide +kernel
theorem dX11_operand_74 : decode cX11_operand 74 = .ok (.iconst 1, 1) := by decide +kernel
theorem dX11_operand_75 : decode cX11_operand 75 = .ok (.iadd, 1) := by decide +kernel
theorem dX11_operand_76 : decode cX11_operand 76 = .ok (.putfield 125, 3) := by decide +kernel
theorem dX11_operand_79 : decode cX11_operand 79 = .ok (.aload_n 0, 1) := by decide +kernel
theorem dX11_operand_80 : decode cX11_operand 80 = .ok (.invokevirtual 225, 3) := by decide +kernel
theorem dX11_operand_83 : decode cX11_operand 83 = .ok (.istore_n 2, 1) := by decide +kernel
theorem dX11_operand_84 : decode cX11_operand 84 = .ok (.aload_n 0, 1) := by decide +kernel
theorem dX11_operand_85 : decode cX11_operand 85 = .ok (.aload_n 0, 1) := by decide +kernel
theorem dX11_operand_86 : decode cX11_operand 86 = .ok (.getfield 216, 3) := by decide +kernel
theorem dX11_operand_89 : decode cX11_operand 89 = .ok (.iload_n 1, 1) := by decide +kernel
theorem dX11_operand_90 : decode cX11_operand 90 = .ok (.iadd, 1) := by decide +kernel
theorem dX11_operand_91 : decode cX11_operand 91 = .ok (.iload_n 2, 1) := by decide +kernel
theorem dX11_operand_92 : decode cX11_operand 92 = .ok (.invokevirtual 228, 3) := by decide +kernel
theorem dX11_operand_95 : decode cX11_operand 95 = .ok (.lreturn, 1) := by decide +kernel
theorem dX11_operand_96 : decode cX11_operand 96 = .ok (.aload_n 0, 1) := by decide +kernel
theorem dX11_operand_97 : decode cX11_operand 97 = .ok (.bipush 102, 2) := by decide +kernel
theorem dX11_operand_99 : decode cX11_operand 99 = .ok (.invokevirtual 132, 3) := by decide +kernel
theorem dX11_operand_102 : decode cX11_operand 102 = .ok (.ifCond .ne 74, 3) := by decide +kernel
theorem dX11_operand_105 : decode cX11_operand 105 = .ok (.aload_n 0, 1) := by decide +kernel
theorem dX11_operand_106 : decode cX11_operand 106 = .ok (.bipush 108, 2) := by decide +kernel
theorem dX11_operand_108 : decode cX11_operand 108 = .ok (.invokevirtual 132, 3) := by decide +kernel
theorem dX11_operand_111 : decode cX11_operand 111 = .ok (.ifCond .ne 65, 3) := by decide +kernel
theorem dX11_operand_114 : decode cX11_operand 114 = .ok (.aload_n 0, 1) := by decide +kernel
theorem dX11_operand_115 : decode cX11_operand 115 = .ok (.bipush 115, 2) := by decide +kernel
theorem dX11_operand_117 : decode cX11_operand 117 = .ok (.invokevirtual 132, 3) := by decide +kernel
theorem dX11_operand_120 : decode cX11_operand 120 = .ok (.ifCond .ne 56, 3) := by decide +kernel
theorem dX11_operand_123 : decode cX11_operand 123 = .ok (.aload_n 0, 1) := by decide +kernel
theorem dX11_operand_124 : decode cX11_operand 124 = .ok (.bipush 99, 2) := by decide +kernel
theorem dX11_operand_126 : decode cX11_operand 126 = .ok (.invokevirtual 132, 3) := by decide +kernel
theorem dX11_operand_129 : decode cX11_operand 129 = .ok (.ifCond .ne 47, 3) := by decide +kernel
theorem dX11_operand_132 : decode cX11_operand 132 = .ok (.aload_n 0, 1) := by decide +kernel
theorem dX11_operand_133 : decode cX11_operand 133 = .ok (.bipush 45, 2) := by decide +kernel
theorem dX11_operand_135 : decode cX11_operand 135 = .ok (.invokevirtual 132, 3) := by decide +kernel
theorem dX11_operand_138 : decode cX11_operand 138 = .ok (.istore_n 1, 1) := by decide +kernel
theorem dX11_operand_139 : decode cX11_operand 139 = .ok (.aload_n 0, 1) := by decide +kernel
theorem dX11_operand_140 : decode cX11_operand 140 = .ok (.dup, 1) := by decide +kernel
theorem dX11_operand_141 : decode cX11_operand 141 = .ok (.getfield 125, 3) := by decide +kernel
theorem dX11_operand_144 : decode cX11_operand 144 = .ok (.iload_n 1, 1) := by decide +kernel
theorem dX11_operand_145 : decode cX11_operand 145 = .ok (.ifCond .eq 7, 3) := by decide +kernel
theorem dX11_operand_148 : decode cX11_operand 148 = .ok (.iconst 1, 1) := by decide +kernel
theorem dX11_operand_149 : decode cX11_operand 149 = .ok (.goto 4, 3) := by decide +kernel
theorem dX11_operand_152 : decode cX11_operand 152 = .ok (.iconst 0, 1) := by decide +kernel
theorem dX11_operand_153 : decode cX11_operand 153 = .ok (.iadd, 1) := by decide +kernel
theorem dX11_operand_154 : decode cX11_operand 154 = .ok (.putfield 125, 3) := by decide +kernel
theorem dX11_operand_157 : decode cX11_operand 157 = .ok (.aload_n 0, 1) := by decide +kernel
theorem dX11_operand_158 : decode cX11_operand 158 = .ok (.iconst 3, 1) := by decide +kernel
theorem dX11_operand_159 : decode cX11_operand 159 = .ok (.invokevirtual 160, 3) := by decide +kernel
theorem dX11_operand_162 : decode cX11_operand 162 = .ok (.istore_n 2, 1) := by decide +kernel
theorem dX11_operand_163 : decode cX11_operand 163 = .ok (.iload_n 1, 1) := by decide +kernel
theorem dX11_operand_164 : decode cX11_operand 164 = .ok (.ifCond .eq 9, 3) := by decide +kernel
theorem dX11_operand_167 : decode cX11_operand 167 = .ok (.iload_n 2, 1) := by decide +kernel
theorem dX11_operand_168 : decode cX11_operand 168 = .ok (.ineg, 1) := by decide +kernel
theorem dX11_operand_169 : decode cX11_operand 169 = .ok (.i2l, 1) := by decide +kernel
theorem dX11_operand_170 : decode cX11_operand 170 = .ok (.goto 5, 3) := by decide +kernel
theorem dX11_operand_173 : decode cX11_operand 173 = .ok (.iload_n 2, 1) := by decide +kernel
theorem dX11_operand_174 : decode cX11_operand 174 = .ok (.i2l, 1) := by decide +kernel
theorem dX11_operand_175 : decode cX11_operand 175 = .ok (.lreturn, 1) := by decide +kernel
theorem dX11_operand_176 : decode cX11_operand 176 = .ok (.aload_n 0, 1) := by decide +kernel
theorem dX11_operand_177 : decode cX11_operand 177 = .ok (.getfield 21, 3) := by decide +kernel
theorem dX11_operand_180 : decode cX11_operand 180 = .ok (.aload_n 0, 1) := by decide +kernel
theorem dX11_operand_181 : decode cX11_operand 181 = .ok (.getfield 125, 3) := by decide +kernel
theorem dX11_operand_184 : decode cX11_operand 184 = .ok (.iaload, 1) := by decide +kernel
theorem dX11_operand_185 : decode cX11_operand 185 = .ok (.istore_n 1, 1) := by decide +kernel
theorem dX11_operand_186 : decode cX11_operand 186 = .ok (.aload_n 0, 1) := by decide +kernel
theorem dX11_operand_187 : decode cX11_operand 187 = .ok (.dup, 1) := by decide +kernel
theorem dX11_operand_188 : decode cX11_operand 188 = .ok (.getfield 125, 3) := by decide +kernel
theorem dX11_operand_191 : decode cX11_operand 191 = .ok (.iconst 1, 1) := by decide +kernel
theorem dX11_operand_192 : decode cX11_operand 192 = .ok (.iadd, 1) := by decide +kernel
theorem dX11_operand_193 : decode cX11_operand 193 = .ok (.putfield 125, 3) := by decide +kernel
theorem dX11_operand_196 : decode cX11_operand 196 = .ok (.aload_n 0, 1) := by decide +kernel
theorem dX11_operand_197 : decode cX11_operand 197 = .ok (.bipush 65, 2) := by decide +kernel
theorem dX11_operand_199 : decode cX11_operand 199 = .ok (.bipush 90, 2) := by decide +kernel
theorem dX11_operand_201 : decode cX11_operand 201 = .ok (.invokevirtual 135, 3) := by decide +kernel
theorem dX11_operand_204 : decode cX11_operand 204 = .ok (.ifCond .ne 10, 3) := by decide +kernel
theorem dX11_operand_207 : decode cX11_operand 207 = .ok (.aload_n 0, 1) := by decide +kernel
theorem dX11_operand_208 : decode cX11_operand 208 = .ok (.iconst 0, 1) := by decide +kernel
theorem dX11_operand_209 : decode cX11_operand 209 = .ok (.putfield 128, 3) := by decide +kernel
theorem dX11_operand_212 : decode cX11_operand 212 = .ok (.lconst 0, 1) := by decide +kernel
theorem dX11_operand_213 : decode cX11_operand 213 = .ok (.lreturn, 1) := by decide +kernel
theorem dX11_operand_214 : decode cX11_operand 214 = .ok (.aload_n 0, 1) := by decide +kernel
theorem dX11_operand_215 : decode cX11_operand 215 = .ok (.getfield 21, 3) := by decide +kernel
theorem dX11_operand_218 : decode cX11_operand 218 = .ok (.aload_n 0, 1) := by decide +kernel
theorem dX11_operand_219 : decode cX11_operand 219 = .ok (.getfield 125, 3) := by decide +kernel
theorem dX11_operand_222 : decode cX11_operand 222 = .ok (.iaload, 1) := by decide +kernel
theorem dX11_operand_223 : decode cX11_operand 223 = .ok (.bipush 65, 2) := by decide +kernel
theorem dX11_operand_225 : decode cX11_operand 225 = .ok (.isub, 1) := by decide +kernel
theorem dX11_operand_226 : decode cX11_operand 226 = .ok (.istore_n 2, 1) := by decide +kernel
theorem dX11_operand_227 : decode cX11_operand 227 = .ok (.aload_n 0, 1) := by decide +kernel
theorem dX11_operand_228 : decode cX11_operand 228 = .ok (.dup, 1) := by decide +kernel
theorem dX11_operand_229 : decode cX11_operand 229 = .ok (.getfield 125, 3) := by decide +kernel
theorem dX11_operand_232 : decode cX11_operand 232 = .ok (.iconst 1, 1) := by decide +kernel
theorem dX11_operand_233 : decode cX11_operand 233 = .ok (.iadd, 1) := by decide +kernel
theorem dX11_operand_234 : decode cX11_operand 234 = .ok (.putfield 125, 3) := by decide +kernel
theorem dX11_operand_237 : decode cX11_operand 237 = .ok (.iload_n 1, 1) := by decide +kernel
theorem dX11_operand_238 : decode cX11_operand 238 = .ok (.bipush 99, 2) := by decide +kernel
theorem dX11_operand_240 : decode cX11_operand 240 = .ok (.if_icmp .ne 21, 3) := by decide +kernel
theorem dX11_operand_243 : decode cX11_operand 243 = .ok (.aload_n 0, 1) := by decide +kernel
theorem dX11_operand_244 : decode cX11_operand 244 = .ok (.getfield 216, 3) := by decide +kernel
theorem dX11_operand_247 : decode cX11_operand 247 = .ok (.ifCond .ge 7, 3) := by decide +kernel
theorem dX11_operand_250 : decode cX11_operand 250 = .ok (.lconst 0, 1) := by decide +kernel
theorem dX11_operand_251 : decode cX11_operand 251 = .ok (.goto 9, 3) := by decide +kernel
theorem dX11_operand_254 : decode cX11_operand 254 = .ok (.aload_n 0, 1) := by decide +kernel
theorem dX11_operand_255 : decode cX11_operand 255 = .ok (.iload_n 2, 1) := by decide +kernel
theorem dX11_operand_256 : decode cX11_operand 256 = .ok (.invokevirtual 232, 3) := by decide +kernel
theorem dX11_operand_259 : decode cX11_operand 259 = .ok (.i2l, 1) := by decide +kernel
theorem dX11_operand_260 : decode cX11_operand 260 = .ok (.lreturn, 1) := by decide +kernel
theorem dX11_operand_261 : decode cX11_operand 261 = .ok (.aload_n 0, 1) := by decide +kernel
theorem dX11_operand_262 : decode cX11_operand 262 = .ok (.invokevirtual 225, 3) := by decide +kernel
theorem dX11_operand_265 : decode cX11_operand 265 = .ok (.istore_n 3, 1) := by decide +kernel
theorem dX11_operand_266 : decode cX11_operand 266 = .ok (.aload_n 0, 1) := by decide +kernel
theorem dX11_operand_267 : decode cX11_operand 267 = .ok (.getfield 216, 3) := by decide +kernel
theorem dX11_operand_270 : decode cX11_operand 270 = .ok (.ifCond .ge 7, 3) := by decide +kernel
theorem dX11_operand_273 : decode cX11_operand 273 = .ok (.lconst 0, 1) := by decide +kernel
theorem dX11_operand_274 : decode cX11_operand 274 = .ok (.goto 39, 3) := by decide +kernel
theorem dX11_operand_277 : decode cX11_operand 277 = .ok (.iload_n 1, 1) := by decide +kernel
theorem dX11_operand_278 : decode cX11_operand 278 = .ok (.bipush 115, 2) := by decide +kernel
theorem dX11_operand_280 : decode cX11_operand 280 = .ok (.if_icmp .ne 12, 3) := by decide +kernel
theorem dX11_operand_283 : decode cX11_operand 283 = .ok (.aload_n 0, 1) := by decide +kernel
theorem dX11_operand_284 : decode cX11_operand 284 = .ok (.iload_n 2, 1) := by decide +kernel
theorem dX11_operand_285 : decode cX11_operand 285 = .ok (.iload_n 3, 1) := by decide +kernel
theorem dX11_operand_286 : decode cX11_operand 286 = .ok (.invokevirtual 235, 3) := by decide +kernel
theorem dX11_operand_289 : decode cX11_operand 289 = .ok (.goto 24, 3) := by decide +kernel
theorem dX11_operand_292 : decode cX11_operand 292 = .ok (.aload_n 0, 1) := by decide +kernel
theorem dX11_operand_293 : decode cX11_operand 293 = .ok (.aload_n 0, 1) := by decide +kernel
theorem dX11_operand_294 : decode cX11_operand 294 = .ok (.iload_n 2, 1) := by decide +kernel
theorem dX11_operand_295 : decode cX11_operand 295 = .ok (.iload_n 1, 1) := by decide +kernel
theorem dX11_operand_296 : decode cX11_operand 296 = .ok (.bipush 102, 2) := by decide +kernel
theorem dX11_operand_298 : decode cX11_operand 298 = .ok (.if_icmp .ne 7, 3) := by decide +kernel
theorem dX11_operand_301 : decode cX11_operand 301 = .ok (.iconst 1, 1) := by decide +kernel
theorem dX11_operand_302 : decode cX11_operand 302 = .ok (.goto 4, 3) := by decide +kernel
theorem dX11_operand_305 : decode cX11_operand 305 = .ok (.iconst 0, 1) := by decide +kernel
theorem dX11_operand_306 : decode cX11_operand 306 = .ok (.invokevirtual 238, 3) := by decide +kernel
theorem dX11_operand_309 : decode cX11_operand 309 = .ok (.iload_n 3, 1) := by decide +kernel
theorem dX11_operand_310 : decode cX11_operand 310 = .ok (.invokevirtual 228, 3) := by decide +kernel
theorem dX11_operand_313 : decode cX11_operand 313 = .ok (.lreturn, 1) := by decide +kernel
theorem dX11_test_0 : decode cX11_test 0 = .ok (.aload_n 0, 1) := by decide +kernel
theorem dX11_test_1 : decode cX11_test 1 = .ok (.iconst 0, 1) := by decide +kernel
theorem dX11_test_2 : decode cX11_test 2 = .ok (.putfield 219, 3) := by decide +kernel
theorem dX11_test_5 : decode cX11_test 5 = .ok (.aload_n 0, 1) := by decide +kernel
theorem dX11_test_6 : decode cX11_test 6 = .ok (.invokevirtual 242, 3) := by decide +kernel
theorem dX11_test_9 : decode cX11_test 9 = .ok (.lstore_n 1, 1) := by decide +kernel
theorem dX11_test_10 : decode cX11_test 10 = .ok (.aload_n 0, 1) := by decide +kernel
theorem dX11_test_11 : decode cX11_test 11 = .ok (.bipush 60, 2) := by decide +kernel
theorem dX11_test_13 : decode cX11_test 13 = .ok (.invokevirtual 132, 3) := by decide +kernel
theorem dX11_test_16 : decode cX11_test 16 = .ok (.ifCond .eq 7, 3) := by decide +kernel
theorem dX11_test_19 : decode cX11_test 19 = .ok (.iconst (-1), 1) := by decide +kernel
theorem dX11_test_20 : decode cX11_test 20 = .ok (.goto 17, 3) := by decide +kernel
theorem dX11_test_23 : decode cX11_test 23 = .ok (.aload_n 0, 1) := by decide +kernel
theorem dX11_test_24 : decode cX11_test 24 = .ok (.bipush 62, 2) := by decide +kernel
theorem dX11_test_26 : decode cX11_test 26 = .ok (.invokevirtual 132, 3) := by decide +kernel
theorem dX11_test_29 : decode cX11_test 29 = .ok (.ifCond .eq 7, 3) := by decide +kernel
theorem dX11_test_32 : decode cX11_test 32 = .ok (.iconst 1, 1) := by decide +kernel
theorem dX11_test_33 : decode cX11_test 33 = .ok (.goto 4, 3) := by decide +kernel
theorem dX11_test_36 : decode cX11_test 36 = .ok (.iconst 0, 1) := by decide +kernel
theorem dX11_test_37 : decode cX11_test 37 = .ok (.istore_n 3, 1) := by decide +kernel
theorem dX11_test_38 : decode cX11_test 38 = .ok (.aload_n 0, 1) := by decide +kernel
theorem dX11_test_39 : decode cX11_test 39 = .ok (.iload_n 3, 1) := by decide +kernel
theorem dX11_test_40 : decode cX11_test 40 = .ok (.ifCond .ge 8, 3) := by decide +kernel
theorem dX11_test_43 : decode cX11_test 43 = .ok (.bipush 60, 2) := by decide +kernel
theorem dX11_test_45 : decode cX11_test 45 = .ok (.goto 14, 3) := by decide +kernel
theorem dX11_test_48 : decode cX11_test 48 = .ok (.iload_n 3, 1) := by decide +kernel
theorem dX11_test_49 : decode cX11_test 49 = .ok (.ifCond .le 8, 3) := by decide +kernel
theorem dX11_test_52 : decode cX11_test 52 = .ok (.bipush 62, 2) := by decide +kernel
theorem dX11_test_54 : decode cX11_test 54 = .ok (.goto 5, 3) := by decide +kernel
theorem dX11_test_57 : decode cX11_test 57 = .ok (.bipush 61, 2) := by decide +kernel
theorem dX11_test_59 : decode cX11_test 59 = .ok (.invokevirtual 146, 3) := by decide +kernel
theorem dX11_test_62 : decode cX11_test 62 = .ok (.aload_n 0, 1) := by decide +kernel
theorem dX11_test_63 : decode cX11_test 63 = .ok (.invokevirtual 242, 3) := by decide +kernel
theorem dX11_test_66 : decode cX11_test 66 = .ok (.lstore 4, 2) := by decide +kernel
theorem dX11_test_68 : decode cX11_test 68 = .ok (.aload_n 0, 1) := by decide +kernel
theorem dX11_test_69 : decode cX11_test 69 = .ok (.getfield 219, 3) := by decide +kernel
theorem dX11_test_72 : decode cX11_test 72 = .ok (.ifCond .ne 42, 3) := by decide +kernel
theorem dX11_test_75 : decode cX11_test 75 = .ok (.iload_n 3, 1) := by decide +kernel
theorem dX11_test_76 : decode cX11_test 76 = .ok (.ifCond .ge 13, 3) := by decide +kernel
theorem dX11_test_79 : decode cX11_test 79 = .ok (.lload_n 1, 1) := by decide +kernel
theorem dX11_test_80 : decode cX11_test 80 = .ok (.lload 4, 2) := by decide +kernel
theorem dX11_test_82 : decode cX11_test 82 = .ok (.lcmp, 1) := by decide +kernel
theorem dX11_test_83 : decode cX11_test 83 = .ok (.ifCond .ge 31, 3) := by decide +kernel
theorem dX11_test_86 : decode cX11_test 86 = .ok (.goto 24, 3) := by decide +kernel
theorem dX11_test_89 : decode cX11_test 89 = .ok (.iload_n 3, 1) := by decide +kernel
theorem dX11_test_90 : decode cX11_test 90 = .ok (.ifCond .le 13, 3) := by decide +kernel
theorem dX11_test_93 : decode cX11_test 93 = .ok (.lload_n 1, 1) := by decide +kernel
theorem dX11_test_94 : decode cX11_test 94 = .ok (.lload 4, 2) := by decide +kernel
theorem dX11_test_96 : decode cX11_test 96 = .ok (.lcmp, 1) := by decide +kernel
theorem dX11_test_97 : decode cX11_test 97 = .ok (.ifCond .le 17, 3) := by decide +kernel
theorem dX11_test_100 : decode cX11_test 100 = .ok (.goto 10, 3) := by decide +kernel
theorem dX11_test_103 : decode cX11_test 103 = .ok (.lload_n 1, 1) := by decide +kernel
theorem dX11_test_104 : decode cX11_test 104 = .ok (.lload 4, 2) := by decide +kernel
theorem dX11_test_106 : decode cX11_test 106 = .ok (.lcmp, 1) := by decide +kernel
theorem dX11_test_107 : decode cX11_test 107 = .ok (.ifCond .ne 7, 3) := by decide +kernel
theorem dX11_test_110 : decode cX11_test 110 = .ok (.iconst 1, 1) := by decide +kernel
theorem dX11_test_111 : decode cX11_test 111 = .ok (.goto 4, 3) := by decide +kernel
theorem dX11_test_114 : decode cX11_test 114 = .ok (.iconst 0, 1) := by decide +kernel
theorem dX11_test_115 : decode cX11_test 115 = .ok (.ireturn, 1) := by decide +kernel
theorem dX11_factor_0 : decode cX11_factor 0 = .ok (.aload_n 0, 1) := by decide +kernel
theorem dX11_factor_1 : decode cX11_factor 1 = .ok (.getfield 246, 3) := by decide +kernel
theorem dX11_factor_4 : decode cX11_factor 4 = .ok (.iconst 4, 1) := by decide +kernel
theorem dX11_factor_5 : decode cX11_factor 5 = .ok (.if_icmp .ge 58, 3) := by decide +kernel
theorem dX11_factor_8 : decode cX11_factor 8 = .ok (.aload_n 0, 1) := by decide +kernel
theorem dX11_factor_9 : decode cX11_factor 9 = .ok (.bipush 33, 2) := by decide +kernel
theorem dX11_factor_11 : decode cX11_factor 11 = .ok (.invokevirtual 132, 3) := by decide +kernel
theorem dX11_factor_14 : decode cX11_factor 14 = .ok (.ifCond .eq 49, 3) := by decide +kernel
theorem dX11_factor_17 : decode cX11_factor 17 = .ok (.aload_n 0, 1) := by decide +kernel
theorem dX11_factor_18 : decode cX11_factor 18 = .ok (.dup, 1) := by decide +kernel
theorem dX11_factor_19 : decode cX11_factor 19 = .ok (.getfield 125, 3) := by decide +kernel
theorem dX11_factor_22 : decode cX11_factor 22 = .ok (.iconst 1, 1) := by decide +kernel
theorem dX11_factor_23 : decode cX11_factor 23 = .ok (.iadd, 1) := by decide +kernel
theorem dX11_factor_24 : decode cX11_factor 24 = .ok (.putfield 125, 3) := by decide +kernel
theorem dX11_factor_27 : decode cX11_factor 27 = .ok (.aload_n 0, 1) := by decide +kernel
theorem dX11_factor_28 : decode cX11_factor 28 = .ok (.dup, 1) := by decide +kernel
theorem dX11_factor_29 : decode cX11_factor 29 = .ok (.getfield 246, 3) := by decide +kernel
theorem dX11_factor_32 : decode cX11_factor 32 = .ok (.iconst 1, 1) := by decide +kernel
theorem dX11_factor_33 : decode cX11_factor 33 = .ok (.iadd, 1) := by decide +kernel
theorem dX11_factor_34 : decode cX11_factor 34 = .ok (.putfield 246, 3) := by decide +kernel
theorem dX11_factor_37 : decode cX11_factor 37 = .ok (.aload_n 0, 1) := by decide +kernel
theorem dX11_factor_38 : decode cX11_factor 38 = .ok (.invokevirtual 249, 3) := by decide +kernel
theorem dX11_factor_41 : decode cX11_factor 41 = .ok (.ifCond .ne 7, 3) := by decide +kernel
theorem dX11_factor_44 : decode cX11_factor 44 = .ok (.iconst 1, 1) := by decide +kernel
theorem dX11_factor_45 : decode cX11_factor 45 = .ok (.goto 4, 3) := by decide +kernel
theorem dX11_factor_48 : decode cX11_factor 48 = .ok (.iconst 0, 1) := by decide +kernel
theorem dX11_factor_49 : decode cX11_factor 49 = .ok (.istore_n 1, 1) := by decide +kernel
theorem dX11_factor_50 : decode cX11_factor 50 = .ok (.aload_n 0, 1) := by decide +kernel
theorem dX11_factor_51 : decode cX11_factor 51 = .ok (.dup, 1) := by decide +kernel
theorem dX11_factor_52 : decode cX11_factor 52 = .ok (.getfield 246, 3) := by decide +kernel
theorem dX11_factor_55 : decode cX11_factor 55 = .ok (.iconst 1, 1) := by decide +kernel
theorem dX11_factor_56 : decode cX11_factor 56 = .ok (.isub, 1) := by decide +kernel
theorem dX11_factor_57 : decode cX11_factor 57 = .ok (.putfield 246, 3) := by decide +kernel
theorem dX11_factor_60 : decode cX11_factor 60 = .ok (.goto 69, 3) := by decide +kernel
theorem dX11_factor_63 : decode cX11_factor 63 = .ok (.aload_n 0, 1) := by decide +kernel
theorem dX11_factor_64 : decode cX11_factor 64 = .ok (.getfield 246, 3) := by decide +kernel
theorem dX11_factor_67 : decode cX11_factor 67 = .ok (.iconst 4, 1) := by decide +kernel
theorem dX11_factor_68 : decode cX11_factor 68 = .ok (.if_icmp .ge 56, 3) := by decide +kernel
theorem dX11_factor_71 : decode cX11_factor 71 = .ok (.aload_n 0, 1) := by decide +kernel
theorem dX11_factor_72 : decode cX11_factor 72 = .ok (.bipush 40, 2) := by decide +kernel
theorem dX11_factor_74 : decode cX11_factor 74 = .ok (.invokevirtual 132, 3) := by decide +kernel
theorem dX11_factor_77 : decode cX11_factor 77 = .ok (.ifCond .eq 47, 3) := by decide +kernel
theorem dX11_factor_80 : decode cX11_factor 80 = .ok (.aload_n 0, 1) := by decide +kernel
theorem dX11_factor_81 : decode cX11_factor 81 = .ok (.dup, 1) := by decide +kernel
theorem dX11_factor_82 : decode cX11_factor 82 = .ok (.getfield 125, 3) := by decide +kernel
theorem dX11_factor_85 : decode cX11_factor 85 = .ok (.iconst 1, 1) := by decide +kernel
theorem dX11_factor_86 : decode cX11_factor 86 = .ok (.iadd, 1) := by decide +kernel
theorem dX11_factor_87 : decode cX11_factor 87 = .ok (.putfield 125, 3) := by decide +kernel
theorem dX11_factor_90 : decode cX11_factor 90 = .ok (.aload_n 0, 1) := by decide +kernel
theorem dX11_factor_91 : decode cX11_factor 91 = .ok (.dup, 1) := by decide +kernel
theorem dX11_factor_92 : decode cX11_factor 92 = .ok (.getfield 246, 3) := by decide +kernel
theorem dX11_factor_95 : decode cX11_factor 95 = .ok (.iconst 1, 1) := by decide +kernel
theorem dX11_factor_96 : decode cX11_factor 96 = .ok (.iadd, 1) := by decide +kernel
theorem dX11_factor_97 : decode cX11_factor 97 = .ok (.putfield 246, 3) := by decide +kernel
theorem dX11_factor_100 : decode cX11_factor 100 = .ok (.aload_n 0, 1) := by decide +kernel
theorem dX11_factor_101 : decode cX11_factor 101 = .ok (.invokevirtual 252, 3) := by decide +kernel
theorem dX11_factor_104 : decode cX11_factor 104 = .ok (.istore_n 1, 1) := by decide +kernel
theorem dX11_factor_105 : decode cX11_factor 105 = .ok (.aload_n 0, 1) := by decide +kernel
theorem dX11_factor_106 : decode cX11_factor 106 = .ok (.dup, 1) := by decide +kernel
theorem dX11_factor_107 : decode cX11_factor 107 = .ok (.getfield 246, 3) := by decide +kernel
theorem dX11_factor_110 : decode cX11_factor 110 = .ok (.iconst 1, 1) := by decide +kernel
theorem dX11_factor_111 : decode cX11_factor 111 = .ok (.isub, 1) := by decide +kernel
theorem dX11_factor_112 : decode cX11_factor 112 = .ok (.putfield 246, 3) := by decide +kernel
theorem dX11_factor_115 : decode cX11_factor 115 = .ok (.aload_n 0, 1) := by decide +kernel
theorem dX11_factor_116 : decode cX11_factor 116 = .ok (.bipush 41, 2) := by decide +kernel
theorem dX11_factor_118 : decode cX11_factor 118 = .ok (.invokevirtual 146, 3) := by decide +kernel
theorem dX11_factor_121 : decode cX11_factor 121 = .ok (.goto 8, 3) := by decide +kernel
theorem dX11_factor_124 : decode cX11_factor 124 = .ok (.aload_n 0, 1) := by decide +kernel
theorem dX11_factor_125 : decode cX11_factor 125 = .ok (.invokevirtual 255, 3) := by decide +kernel
theorem dX11_factor_128 : decode cX11_factor 128 = .ok (.istore_n 1, 1) := by decide +kernel
theorem dX11_factor_129 : decode cX11_factor 129 = .ok (.iload_n 1, 1) := by decide +kernel
theorem dX11_factor_130 : decode cX11_factor 130 = .ok (.ireturn, 1) := by decide +kernel
theorem dX11_both_0 : decode cX11_both 0 = .ok (.aload_n 0, 1) := by decide +kernel
theorem dX11_both_1 : decode cX11_both 1 = .ok (.invokevirtual 249, 3) := by decide +kernel
theorem dX11_both_4 : decode cX11_both 4 = .ok (.istore_n 1, 1) := by decide +kernel
theorem dX11_both_5 : decode cX11_both 5 = .ok (.aload_n 0, 1) := by decide +kernel
theorem dX11_both_6 : decode cX11_both 6 = .ok (.bipush 38, 2) := by decide +kernel
theorem dX11_both_8 : decode cX11_both 8 = .ok (.invokevirtual 132, 3) := by decide +kernel
theorem dX11_both_11 : decode cX11_both 11 = .ok (.ifCond .eq 35, 3) := by decide +kernel
theorem dX11_both_14 : decode cX11_both 14 = .ok (.aload_n 0, 1) := by decide +kernel
theorem dX11_both_15 : decode cX11_both 15 = .ok (.dup, 1) := by decide +kernel
theorem dX11_both_16 : decode cX11_both 16 = .ok (.getfield 125, 3) := by decide +kernel
theorem dX11_both_19 : decode cX11_both 19 = .ok (.iconst 1, 1) := by decide +kernel
theorem dX11_both_20 : decode cX11_both 20 = .ok (.iadd, 1) := by decide +kernel
theorem dX11_both_21 : decode cX11_both 21 = .ok (.putfield 125, 3) := by decide +kernel
theorem dX11_both_24 : decode cX11_both 24 = .ok (.aload_n 0, 1) := by decide +kernel
theorem dX11_both_25 : decode cX11_both 25 = .ok (.invokevirtual 249, 3) := by decide +kernel
theorem dX11_both_28 : decode cX11_both 28 = .ok (.istore_n 2, 1) := by decide +kernel
theorem dX11_both_29 : decode cX11_both 29 = .ok (.iload_n 1, 1) := by decide +kernel
theorem dX11_both_30 : decode cX11_both 30 = .ok (.ifCond .eq 11, 3) := by decide +kernel
theorem dX11_both_33 : decode cX11_both 33 = .ok (.iload_n 2, 1) := by decide +kernel
theorem dX11_both_34 : decode cX11_both 34 = .ok (.ifCond .eq 7, 3) := by decide +kernel
theorem dX11_both_37 : decode cX11_both 37 = .ok (.iconst 1, 1) := by decide +kernel
theorem dX11_both_38 : decode cX11_both 38 = .ok (.goto 4, 3) := by decide +kernel
theorem dX11_both_41 : decode cX11_both 41 = .ok (.iconst 0, 1) := by decide +kernel
theorem dX11_both_42 : decode cX11_both 42 = .ok (.istore_n 1, 1) := by decide +kernel
theorem dX11_both_43 : decode cX11_both 43 = .ok (.goto (-38), 3) := by decide +kernel
theorem dX11_both_46 : decode cX11_both 46 = .ok (.iload_n 1, 1) := by decide +kernel
theorem dX11_both_47 : decode cX11_both 47 = .ok (.ireturn, 1) := by decide +kernel
theorem dX11_either_0 : decode cX11_either 0 = .ok (.aload_n 0, 1) := by decide +kernel
theorem dX11_either_1 : decode cX11_either 1 = .ok (.invokevirtual 258, 3) := by decide +kernel
theorem dX11_either_4 : decode cX11_either 4 = .ok (.istore_n 1, 1) := by decide +kernel
theorem dX11_either_5 : decode cX11_either 5 = .ok (.aload_n 0, 1) := by decide +kernel
theorem dX11_either_6 : decode cX11_either 6 = .ok (.bipush 124, 2) := by decide +kernel
theorem dX11_either_8 : decode cX11_either 8 = .ok (.invokevirtual 132, 3) := by decide +kernel
theorem dX11_either_11 : decode cX11_either 11 = .ok (.ifCond .eq 35, 3) := by decide +kernel
theorem dX11_either_14 : decode cX11_either 14 = .ok (.aload_n 0, 1) := by decide +kernel
theorem dX11_either_15 : decode cX11_either 15 = .ok (.dup, 1) := by decide +kernel
theorem dX11_either_16 : decode cX11_either 16 = .ok (.getfield 125, 3) := by decide +kernel
theorem dX11_either_19 : decode cX11_either 19 = .ok (.iconst 1, 1) := by decide +kernel
theorem dX11_either_20 : decode cX11_either 20 = .ok (.iadd, 1) := by decide +kernel
theorem dX11_either_21 : decode cX11_either 21 = .ok (.putfield 125, 3) := by decide +kernel
theorem dX11_either_24 : decode cX11_either 24 = .ok (.aload_n 0, 1) := by decide +kernel
theorem dX11_either_25 : decode cX11_either 25 = .ok (.invokevirtual 258, 3) := by decide +kernel
theorem dX11_either_28 : decode cX11_either 28 = .ok (.istore_n 2, 1) := by decide +kernel
theorem dX11_either_29 : decode cX11_either 29 = .ok (.iload_n 1, 1) := by decide +kernel
theorem dX11_either_30 : decode cX11_either 30 = .ok (.ifCond .ne 7, 3) := by decide +kernel
theorem dX11_either_33 : decode cX11_either 33 = .ok (.iload_n 2, 1) := by decide +kernel
theorem dX11_either_34 : decode cX11_either 34 = .ok (.ifCond .eq 7, 3) := by decide +kernel
theorem dX11_either_37 : decode cX11_either 37 = .ok (.iconst 1, 1) := by decide +kernel
theorem dX11_either_38 : decode cX11_either 38 = .ok (.goto 4, 3) := by decide +kernel
theorem dX11_either_41 : decode cX11_either 41 = .ok (.iconst 0, 1) := by decide +kernel
theorem dX11_either_42 : decode cX11_either 42 = .ok (.istore_n 1, 1) := by decide +kernel
theorem dX11_either_43 : decode cX11_either 43 = .ok (.goto (-38), 3) := by decide +kernel
theorem dX11_either_46 : decode cX11_either 46 = .ok (.iload_n 1, 1) := by decide +kernel
theorem dX11_either_47 : decode cX11_either 47 = .ok (.ireturn, 1) := by decide +kernel
theorem dX11_isHolding_0 : decode cX11_isHolding 0 = .ok (.aload_n 0, 1) := by decide +kernel
theorem dX11_isHolding_1 : decode cX11_isHolding 1 = .ok (.getfield 54, 3) := by decide +kernel
theorem dX11_isHolding_4 : decode cX11_isHolding 4 = .ok (.iload_n 3, 1) := by decide +kernel
theorem dX11_isHolding_5 : decode cX11_isHolding 5 = .ok (.iload_n 1, 1) := by decide +kernel
theorem dX11_isHolding_6 : decode cX11_isHolding 6 = .ok (.iastore, 1) := by decide +kernel
theorem dX11_isHolding_7 : decode cX11_isHolding 7 = .ok (.sipush 186, 3) := by decide +kernel
theorem dX11_isHolding_10 : decode cX11_isHolding 10 = .ok (.bipush 121, 2) := by decide +kernel
theorem dX11_isHolding_12 : decode cX11_isHolding 12 = .ok (.iload_n 1, 1) := by decide +kernel
theorem dX11_isHolding_13 : decode cX11_isHolding 13 = .ok (.imul, 1) := by decide +kernel
theorem dX11_isHolding_14 : decode cX11_isHolding 14 = .ok (.iadd, 1) := by decide +kernel
theorem dX11_isHolding_15 : decode cX11_isHolding 15 = .ok (.istore 4, 2) := by decide +kernel
theorem dX11_isHolding_17 : decode cX11_isHolding 17 = .ok (.aload_n 0, 1) := by decide +kernel
theorem dX11_isHolding_18 : decode cX11_isHolding 18 = .ok (.aload_n 0, 1) := by decide +kernel
theorem dX11_isHolding_19 : decode cX11_isHolding 19 = .ok (.getfield 9, 3) := by decide +kernel
theorem dX11_isHolding_22 : decode cX11_isHolding 22 = .ok (.iload 4, 2) := by decide +kernel
theorem dX11_isHolding_24 : decode cX11_isHolding 24 = .ok (.iaload, 1) := by decide +kernel
theorem dX11_isHolding_25 : decode cX11_isHolding 25 = .ok (.putfield 122, 3) := by decide +kernel
theorem dX11_isHolding_28 : decode cX11_isHolding 28 = .ok (.aload_n 0, 1) := by decide +kernel
theorem dX11_isHolding_29 : decode cX11_isHolding 29 = .ok (.getfield 122, 3) := by decide +kernel
theorem dX11_isHolding_32 : decode cX11_isHolding 32 = .ok (.ifCond .ne 5, 3) := by decide +kernel
theorem dX11_isHolding_35 : decode cX11_isHolding 35 = .ok (.iconst 1, 1) := by decide +kernel
theorem dX11_isHolding_36 : decode cX11_isHolding 36 = .ok (.ireturn, 1) := by decide +kernel
theorem dX11_isHolding_37 : decode cX11_isHolding 37 = .ok (.iconst 0, 1) := by decide +kernel
theorem dX11_isHolding_38 : decode cX11_isHolding 38 = .ok (.istore 5, 2) := by decide +kernel
theorem dX11_isHolding_40 : decode cX11_isHolding 40 = .ok (.iload 5, 2) := by decide +kernel
theorem dX11_isHolding_42 : decode cX11_isHolding 42 = .ok (.aload_n 0, 1) := by decide +kernel
theorem dX11_isHolding_43 : decode cX11_isHolding 43 = .ok (.getfield 122, 3) := by decide +kernel
theorem dX11_isHolding_46 : decode cX11_isHolding 46 = .ok (.if_icmp .ge 28, 3) := by decide +kernel
theorem dX11_isHolding_49 : decode cX11_isHolding 49 = .ok (.aload_n 0, 1) := by decide +kernel
theorem dX11_isHolding_50 : decode cX11_isHolding 50 = .ok (.getfield 21, 3) := by decide +kernel
theorem dX11_isHolding_53 : decode cX11_isHolding 53 = .ok (.iload 5, 2) := by decide +kernel
theorem dX11_isHolding_55 : decode cX11_isHolding 55 = .ok (.aload_n 0, 1) := by decide +kernel
theorem dX11_isHolding_56 : decode cX11_isHolding 56 = .ok (.getfield 9, 3) := by decide +kernel
theorem dX11_isHolding_59 : decode cX11_isHolding 59 = .ok (.iload 4, 2) := by decide +kernel
theorem dX11_isHolding_61 : decode cX11_isHolding 61 = .ok (.iconst 1, 1) := by decide +kernel
theorem dX11_isHolding_62 : decode cX11_isHolding 62 = .ok (.iadd, 1) := by decide +kernel
theorem dX11_isHolding_63 : decode cX11_isHolding 63 = .ok (.iload 5, 2) := by decide +kernel
theorem dX11_isHolding_65 : decode cX11_isHolding 65 = .ok (.iadd, 1) := by decide +kernel
theorem dX11_isHolding_66 : decode cX11_isHolding 66 = .ok (.iaload, 1) := by decide +kernel
theorem dX11_isHolding_67 : decode cX11_isHolding 67 = .ok (.iastore, 1) := by decide +kernel
theorem dX11_isHolding_68 : decode cX11_isHolding 68 = .ok (.iinc 5 1, 3) := by decide +kernel
theorem dX11_isHolding_71 : decode cX11_isHolding 71 = .ok (.goto (-31), 3) := by decide +kernel
theorem dX11_isHolding_74 : decode cX11_isHolding 74 = .ok (.aload_n 0, 1) := by decide +kernel
theorem dX11_isHolding_75 : decode cX11_isHolding 75 = .ok (.iconst 0, 1) := by decide +kernel
theorem dX11_isHolding_76 : decode cX11_isHolding 76 = .ok (.putfield 125, 3) := by decide +kernel
theorem dX11_isHolding_79 : decode cX11_isHolding 79 = .ok (.aload_n 0, 1) := by decide +kernel
theorem dX11_isHolding_80 : decode cX11_isHolding 80 = .ok (.iconst 1, 1) := by decide +kernel
theorem dX11_isHolding_81 : decode cX11_isHolding 81 = .ok (.putfield 128, 3) := by decide +kernel
theorem dX11_isHolding_84 : decode cX11_isHolding 84 = .ok (.aload_n 0, 1) := by decide +kernel
theorem dX11_isHolding_85 : decode cX11_isHolding 85 = .ok (.iconst 0, 1) := by decide +kernel
theorem dX11_isHolding_86 : decode cX11_isHolding 86 = .ok (.putfield 246, 3) := by decide +kernel
theorem dX11_isHolding_89 : decode cX11_isHolding 89 = .ok (.aload_n 0, 1) := by decide +kernel
theorem dX11_isHolding_90 : decode cX11_isHolding 90 = .ok (.iload_n 2, 1) := by decide +kernel
theorem dX11_isHolding_91 : decode cX11_isHolding 91 = .ok (.putfield 222, 3) := by decide +kernel
theorem dX11_isHolding_94 : decode cX11_isHolding 94 = .ok (.aload_n 0, 1) := by decide +kernel
theorem dX11_isHolding_95 : decode cX11_isHolding 95 = .ok (.iload_n 3, 1) := by decide +kernel
theorem dX11_isHolding_96 : decode cX11_isHolding 96 = .ok (.putfield 216, 3) := by decide +kernel
theorem dX11_isHolding_99 : decode cX11_isHolding 99 = .ok (.aload_n 0, 1) := by decide +kernel
theorem dX11_isHolding_100 : decode cX11_isHolding 100 = .ok (.invokevirtual 252, 3) := by decide +kernel
theorem dX11_isHolding_103 : decode cX11_isHolding 103 = .ok (.ireturn, 1) := by decide +kernel
theorem dX11_define_0 : decode cX11_define 0 = .ok (.aload_n 0, 1) := by decide +kernel
theorem dX11_define_1 : decode cX11_define 1 = .ok (.invokevirtual 192, 3) := by decide +kernel
theorem dX11_define_4 : decode cX11_define 4 = .ok (.aload_n 0, 1) := by decide +kernel
theorem dX11_define_5 : decode cX11_define 5 = .ok (.iconst (-1), 1) := by decide +kernel
theorem dX11_define_6 : decode cX11_define 6 = .ok (.putfield 216, 3) := by decide +kernel
theorem dX11_define_9 : decode cX11_define 9 = .ok (.iconst 0, 1) := by decide +kernel
theorem dX11_define_10 : decode cX11_define 10 = .ok (.istore_n 1, 1) := by decide +kernel
theorem dX11_define_11 : decode cX11_define 11 = .ok (.iconst 1, 1) := by decide +kernel
theorem dX11_define_12 : decode cX11_define 12 = .ok (.istore_n 2, 1) := by decide +kernel
theorem dX11_define_13 : decode cX11_define 13 = .ok (.iload_n 2, 1) := by decide +kernel
theorem dX11_define_14 : decode cX11_define 14 = .ok (.ifCond .eq 156, 3) := by decide +kernel
theorem dX11_define_17 : decode cX11_define 17 = .ok (.aload_n 0, 1) := by decide +kernel
theorem dX11_define_18 : decode cX11_define 18 = .ok (.getfield 128, 3) := by decide +kernel
theorem dX11_define_21 : decode cX11_define 21 = .ok (.ifCond .eq 149, 3) := by decide +kernel
theorem dX11_define_24 : decode cX11_define 24 = .ok (.aload_n 0, 1) := by decide +kernel
theorem dX11_define_25 : decode cX11_define 25 = .ok (.bipush 65, 2) := by decide +kernel
theorem dX11_define_27 : decode cX11_define 27 = .ok (.bipush 90, 2) := by decide +kernel
theorem dX11_define_29 : decode cX11_define 29 = .ok (.invokevirtual 135, 3) := by decide +kernel
theorem dX11_define_32 : decode cX11_define 32 = .ok (.ifCond .eq 34, 3) := by decide +kernel
theorem dX11_define_35 : decode cX11_define 35 = .ok (.aload_n 0, 1) := by decide +kernel
theorem dX11_define_36 : decode cX11_define 36 = .ok (.getfield 63, 3) := by decide +kernel
theorem dX11_define_39 : decode cX11_define 39 = .ok (.iload_n 1, 1) := by decide +kernel
theorem dX11_define_40 : decode cX11_define 40 = .ok (.aload_n 0, 1) := by decide +kernel
theorem dX11_define_41 : decode cX11_define 41 = .ok (.getfield 21, 3) := by decide +kernel
theorem dX11_define_44 : decode cX11_define 44 = .ok (.aload_n 0, 1) := by decide +kernel
theorem dX11_define_45 : decode cX11_define 45 = .ok (.getfield 125, 3) := by decide +kernel
theorem dX11_define_48 : decode cX11_define 48 = .ok (.iaload, 1) := by decide +kernel
theorem dX11_define_49 : decode cX11_define 49 = .ok (.bipush 65, 2) := by decide +kernel
theorem dX11_define_51 : decode cX11_define 51 = .ok (.isub, 1) := by decide +kernel
theorem dX11_define_52 : decode cX11_define 52 = .ok (.iastore, 1) := by decide +kernel
theorem dX11_define_53 : decode cX11_define 53 = .ok (.aload_n 0, 1) := by decide +kernel
theorem dX11_define_54 : decode cX11_define 54 = .ok (.dup, 1) := by decide +kernel
theorem dX11_define_55 : decode cX11_define 55 = .ok (.getfield 125, 3) := by decide +kernel
theorem dX11_define_58 : decode cX11_define 58 = .ok (.iconst 1, 1) := by decide +kernel
theorem dX11_define_59 : decode cX11_define 59 = .ok (.iadd, 1) := by decide +kernel
theorem dX11_define_60 : decode cX11_define 60 = .ok (.putfield 125, 3) := by decide +kernel
theorem dX11_define_63 : decode cX11_define 63 = .ok (.goto 8, 3) := by decide +kernel
theorem dX11_define_66 : decode cX11_define 66 = .ok (.aload_n 0, 1) := by decide +kernel
theorem dX11_define_67 : decode cX11_define 67 = .ok (.iconst 0, 1) := by decide +kernel
theorem dX11_define_68 : decode cX11_define 68 = .ok (.putfield 128, 3) := by decide +kernel
theorem dX11_define_71 : decode cX11_define 71 = .ok (.aload_n 0, 1) := by decide +kernel
theorem dX11_define_72 : decode cX11_define 72 = .ok (.bipush 61, 2) := by decide +kernel
theorem dX11_define_74 : decode cX11_define 74 = .ok (.invokevirtual 146, 3) := by decide +kernel
theorem dX11_define_77 : decode cX11_define 77 = .ok (.aload_n 0, 1) := by decide +kernel
theorem dX11_define_78 : decode cX11_define 78 = .ok (.getfield 60, 3) := by decide +kernel
theorem dX11_define_81 : decode cX11_define 81 = .ok (.iload_n 1, 1) := by decide +kernel
theorem dX11_define_82 : decode cX11_define 82 = .ok (.aload_n 0, 1) := by decide +kernel
theorem dX11_define_83 : decode cX11_define 83 = .ok (.getfield 125, 3) := by decide +kernel
theorem dX11_define_86 : decode cX11_define 86 = .ok (.iastore, 1) := by decide +kernel
theorem dX11_define_87 : decode cX11_define 87 = .ok (.aload_n 0, 1) := by decide +kernel
theorem dX11_define_88 : decode cX11_define 88 = .ok (.iconst 0, 1) := by decide +kernel
theorem dX11_define_89 : decode cX11_define 89 = .ok (.putfield 246, 3) := by decide +kernel
theorem dX11_define_92 : decode cX11_define 92 = .ok (.aload_n 0, 1) := by decide +kernel
theorem dX11_define_93 : decode cX11_define 93 = .ok (.getfield 128, 3) := by decide +kernel
theorem dX11_define_96 : decode cX11_define 96 = .ok (.ifCond .eq 33, 3) := by decide +kernel
theorem dX11_define_99 : decode cX11_define 99 = .ok (.aload_n 0, 1) := by decide +kernel
theorem dX11_define_100 : decode cX11_define 100 = .ok (.getfield 125, 3) := by decide +kernel
theorem dX11_define_103 : decode cX11_define 103 = .ok (.aload_n 0, 1) := by decide +kernel
theorem dX11_define_104 : decode cX11_define 104 = .ok (.getfield 122, 3) := by decide +kernel
theorem dX11_define_107 : decode cX11_define 107 = .ok (.if_icmp .ge 22, 3) := by decide +kernel
theorem dX11_define_110 : decode cX11_define 110 = .ok (.aload_n 0, 1) := by decide +kernel
theorem dX11_define_111 : decode cX11_define 111 = .ok (.getfield 21, 3) := by decide +kernel
theorem dX11_define_114 : decode cX11_define 114 = .ok (.aload_n 0, 1) := by decide +kernel
theorem dX11_define_115 : decode cX11_define 115 = .ok (.getfield 125, 3) := by decide +kernel
theorem dX11_define_118 : decode cX11_define 118 = .ok (.iaload, 1) := by decide +kernel
theorem dX11_define_119 : decode cX11_define 119 = .ok (.bipush 59, 2) := by decide +kernel
theorem dX11_define_121 : decode cX11_define 121 = .ok (.if_icmp .eq 8, 3) := by decide +kernel
theorem dX11_define_124 : decode cX11_define 124 = .ok (.aload_n 0, 1) := by decide +kernel
theorem dX11_define_125 : decode cX11_define 125 = .ok (.invokevirtual 252, 3) := by decide +kernel
theorem dX11_define_128 : decode cX11_define 128 = .ok (.pop, 1) := by decide +kernel
theorem dX11_define_129 : decode cX11_define 129 = .ok (.aload_n 0, 1) := by decide +kernel
theorem dX11_define_130 : decode cX11_define 130 = .ok (.getfield 57, 3) := by decide +kernel
theorem dX11_define_133 : decode cX11_define 133 = .ok (.iload_n 1, 1) := by decide +kernel
theorem dX11_define_134 : decode cX11_define 134 = .ok (.aload_n 0, 1) := by decide +kernel
theorem dX11_define_135 : decode cX11_define 135 = .ok (.getfield 125, 3) := by decide +kernel
theorem dX11_define_138 : decode cX11_define 138 = .ok (.iastore, 1) := by decide +kernel
theorem dX11_define_139 : decode cX11_define 139 = .ok (.iinc 1 1, 3) := by decide +kernel
theorem dX11_define_142 : decode cX11_define 142 = .ok (.aload_n 0, 1) := by decide +kernel
theorem dX11_define_143 : decode cX11_define 143 = .ok (.bipush 59, 2) := by decide +kernel
theorem dX11_define_145 : decode cX11_define 145 = .ok (.invokevirtual 132, 3) := by decide +kernel
theorem dX11_define_148 : decode cX11_define 148 = .ok (.istore_n 2, 1) := by decide +kernel
theorem dX11_define_149 : decode cX11_define 149 = .ok (.aload_n 0, 1) := by decide +kernel
theorem dX11_define_150 : decode cX11_define 150 = .ok (.dup, 1) := by decide +kernel
theorem dX11_define_151 : decode cX11_define 151 = .ok (.getfield 125, 3) := by decide +kernel
theorem dX11_define_154 : decode cX11_define 154 = .ok (.iload_n 2, 1) := by decide +kernel
theorem dX11_define_155 : decode cX11_define 155 = .ok (.ifCond .eq 7, 3) := by decide +kernel
theorem dX11_define_158 : decode cX11_define 158 = .ok (.iconst 1, 1) := by decide +kernel
theorem dX11_define_159 : decode cX11_define 159 = .ok (.goto 4, 3) := by decide +kernel
theorem dX11_define_162 : decode cX11_define 162 = .ok (.iconst 0, 1) := by decide +kernel
theorem dX11_define_163 : decode cX11_define 163 = .ok (.iadd, 1) := by decide +kernel
theorem dX11_define_164 : decode cX11_define 164 = .ok (.putfield 125, 3) := by decide +kernel
theorem dX11_define_167 : decode cX11_define 167 = .ok (.goto (-154), 3) := by decide +kernel
theorem dX11_define_170 : decode cX11_define 170 = .ok (.aload_n 0, 1) := by decide +kernel
theorem dX11_define_171 : decode cX11_define 171 = .ok (.getfield 128, 3) := by decide +kernel
theorem dX11_define_174 : decode cX11_define 174 = .ok (.ifCond .eq 14, 3) := by decide +kernel
theorem dX11_define_177 : decode cX11_define 177 = .ok (.aload_n 0, 1) := by decide +kernel
theorem dX11_define_178 : decode cX11_define 178 = .ok (.getfield 125, 3) := by decide +kernel
theorem dX11_define_181 : decode cX11_define 181 = .ok (.aload_n 0, 1) := by decide +kernel
theorem dX11_define_182 : decode cX11_define 182 = .ok (.getfield 122, 3) := by decide +kernel
theorem dX11_define_185 : decode cX11_define 185 = .ok (.if_icmp .ge 11, 3) := by decide +kernel
theorem dX11_define_188 : decode cX11_define 188 = .ok (.bipush (-100), 2) := by decide +kernel
theorem dX11_define_190 : decode cX11_define 190 = .ok (.aload_n 0, 1) := by decide +kernel
theorem dX11_define_191 : decode cX11_define 191 = .ok (.getfield 125, 3) := by decide +kernel
theorem dX11_define_194 : decode cX11_define 194 = .ok (.isub, 1) := by decide +kernel
theorem dX11_define_195 : decode cX11_define 195 = .ok (.ireturn, 1) := by decide +kernel
theorem dX11_define_196 : decode cX11_define 196 = .ok (.aload_n 0, 1) := by decide +kernel
theorem dX11_define_197 : decode cX11_define 197 = .ok (.getfield 9, 3) := by decide +kernel
theorem dX11_define_200 : decode cX11_define 200 = .ok (.sipush 3336, 3) := by decide +kernel
theorem dX11_define_203 : decode cX11_define 203 = .ok (.iconst 0, 1) := by decide +kernel
theorem dX11_define_204 : decode cX11_define 204 = .ok (.iastore, 1) := by decide +kernel
theorem dX11_define_205 : decode cX11_define 205 = .ok (.iconst 0, 1) := by decide +kernel
theorem dX11_define_206 : decode cX11_define 206 = .ok (.istore_n 3, 1) := by decide +kernel
theorem dX11_define_207 : decode cX11_define 207 = .ok (.iload_n 3, 1) := by decide +kernel
theorem dX11_define_208 : decode cX11_define 208 = .ok (.iload_n 1, 1) := by decide +kernel
theorem dX11_define_209 : decode cX11_define 209 = .ok (.if_icmp .ge 95, 3) := by decide +kernel
theorem dX11_define_212 : decode cX11_define 212 = .ok (.sipush 186, 3) := by decide +kernel
theorem dX11_define_215 : decode cX11_define 215 = .ok (.bipush 121, 2) := by decide +kernel
theorem dX11_define_217 : decode cX11_define 217 = .ok (.aload_n 0, 1) := by decide +kernel
theorem dX11_define_218 : decode cX11_define 218 = .ok (.getfield 63, 3) := by decide +kernel
theorem dX11_define_221 : decode cX11_define 221 = .ok (.iload_n 3, 1) := by decide +kernel
theorem dX11_define_222 : decode cX11_define 222 = .ok (.iaload, 1) := by decide +kernel
theorem dX11_define_223 : decode cX11_define 223 = .ok (.imul, 1) := by decide +kernel
theorem dX11_define_224 : decode cX11_define 224 = .ok (.iadd, 1) := by decide +kernel
theorem dX11_define_225 : decode cX11_define 225 = .ok (.istore 4, 2) := by decide +kernel
theorem dX11_define_227 : decode cX11_define 227 = .ok (.aload_n 0, 1) := by decide +kernel
theorem dX11_define_228 : decode cX11_define 228 = .ok (.getfield 9, 3) := by decide +kernel
theorem dX11_define_231 : decode cX11_define 231 = .ok (.iload 4, 2) := by decide +kernel
theorem dX11_define_233 : decode cX11_define 233 = .ok (.aload_n 0, 1) := by decide +kernel
theorem dX11_define_234 : decode cX11_define 234 = .ok (.getfield 57, 3) := by decide +kernel
theorem dX11_define_237 : decode cX11_define 237 = .ok (.iload_n 3, 1) := by decide +kernel
theorem dX11_define_238 : decode cX11_define 238 = .ok (.iaload, 1) := by decide +kernel
theorem dX11_define_239 : decode cX11_define 239 = .ok (.aload_n 0, 1) := by decide +kernel
theorem dX11_define_240 : decode cX11_define 240 = .ok (.getfield 60, 3) := by decide +kernel
theorem dX11_define_243 : decode cX11_define 243 = .ok (.iload_n 3, 1) := by decide +kernel
theorem dX11_define_244 : decode cX11_define 244 = .ok (.iaload, 1) := by decide +kernel
theorem dX11_define_245 : decode cX11_define 245 = .ok (.isub, 1) := by decide +kernel
theorem dX11_define_246 : decode cX11_define 246 = .ok (.iastore, 1) := by decide +kernel
theorem dX11_define_247 : decode cX11_define 247 = .ok (.aload_n 0, 1) := by decide +kernel
theorem dX11_define_248 : decode cX11_define 248 = .ok (.getfield 60, 3) := by decide +kernel
theorem dX11_define_251 : decode cX11_define 251 = .ok (.iload_n 3, 1) := by decide +kernel
theorem dX11_define_252 : decode cX11_define 252 = .ok (.iaload, 1) := by decide +kernel
theorem dX11_define_253 : decode cX11_define 253 = .ok (.istore 5, 2) := by decide +kernel
theorem dX11_define_255 : decode cX11_define 255 = .ok (.iload 5, 2) := by decide +kernel
theorem dX11_define_257 : decode cX11_define 257 = .ok (.aload_n 0, 1) := by decide +kernel
theorem dX11_define_258 : decode cX11_define 258 = .ok (.getfield 57, 3) := by decide +kernel
theorem dX11_define_261 : decode cX11_define 261 = .ok (.iload_n 3, 1) := by decide +kernel
theorem dX11_define_262 : decode cX11_define 262 = .ok (.iaload, 1) := by decide +kernel
theorem dX11_define_263 : decode cX11_define 263 = .ok (.if_icmp .ge 35, 3) := by decide +kernel
theorem dX11_define_266 : decode cX11_define 266 = .ok (.aload_n 0, 1) := by decide +kernel
theorem dX11_define_267 : decode cX11_define 267 = .ok (.getfield 9, 3) := by decide +kernel
theorem dX11_define_270 : decode cX11_define 270 = .ok (.iload 4, 2) := by decide +kernel
theorem dX11_define_272 : decode cX11_define 272 = .ok (.iconst 1, 1) := by decide +kernel
theorem dX11_define_273 : decode cX11_define 273 = .ok (.iadd, 1) := by decide +kernel
theorem dX11_define_274 : decode cX11_define 274 = .ok (.iload 5, 2) := by decide +kernel
theorem dX11_define_276 : decode cX11_define 276 = .ok (.iadd, 1) := by decide +kernel
theorem dX11_define_277 : decode cX11_define 277 = .ok (.aload_n 0, 1) := by decide +kernel
theorem dX11_define_278 : decode cX11_define 278 = .ok (.getfield 60, 3) := by decide +kernel
theorem dX11_define_281 : decode cX11_define 281 = .ok (.iload_n 3, 1) := by decide +kernel
theorem dX11_define_282 : decode cX11_define 282 = .ok (.iaload, 1) := by decide +kernel
theorem dX11_define_283 : decode cX11_define 283 = .ok (.isub, 1) := by decide +kernel
theorem dX11_define_284 : decode cX11_define 284 = .ok (.aload_n 0, 1) := by decide +kernel
theorem dX11_define_285 : decode cX11_define 285 = .ok (.getfield 21, 3) := by decide +kernel
theorem dX11_define_288 : decode cX11_define 288 = .ok (.iload 5, 2) := by decide +kernel
theorem dX11_define_290 : decode cX11_define 290 = .ok (.iaload, 1) := by decide +kernel
theorem dX11_define_291 : decode cX11_define 291 = .ok (.iastore, 1) := by decide +kernel
theorem dX11_define_292 : decode cX11_define 292 = .ok (.iinc 5 1, 3) := by decide +kernel
theorem dX11_define_295 : decode cX11_define 295 = .ok (.goto (-40), 3) := by decide +kernel
theorem dX11_define_298 : decode cX11_define 298 = .ok (.iinc 3 1, 3) := by decide +kernel
theorem dX11_define_301 : decode cX11_define 301 = .ok (.goto (-94), 3) := by decide +kernel
theorem dX11_define_304 : decode cX11_define 304 = .ok (.iload_n 1, 1) := by decide +kernel
theorem dX11_define_305 : decode cX11_define 305 = .ok (.ireturn, 1) := by decide +kernel
theorem dX11_holds_0 : decode cX11_holds 0 = .ok (.iload_n 1, 1) := by decide +kernel
theorem dX11_holds_1 : decode cX11_holds 1 = .ok (.i2l, 1) := by decide +kernel
theorem dX11_holds_2 : decode cX11_holds 2 = .ok (.lconst 0, 1) := by decide +kernel
theorem dX11_holds_3 : decode cX11_holds 3 = .ok (.ldc2_w 261, 3) := by decide +kernel
theorem dX11_holds_6 : decode cX11_holds 6 = .ok (.invokestatic 101, 3) := by decide +kernel
theorem dX11_holds_9 : decode cX11_holds 9 = .ok (.ifCond .eq 29, 3) := by decide +kernel
theorem dX11_holds_12 : decode cX11_holds 12 = .ok (.aload_n 0, 1) := by decide +kernel
theorem dX11_holds_13 : decode cX11_holds 13 = .ok (.iload_n 2, 1) := by decide +kernel
theorem dX11_holds_14 : decode cX11_holds 14 = .ok (.invokevirtual 113, 3) := by decide +kernel
theorem dX11_holds_17 : decode cX11_holds 17 = .ok (.ifCond .eq 21, 3) := by decide +kernel
theorem dX11_holds_20 : decode cX11_holds 20 = .ok (.aload_n 0, 1) := by decide +kernel
theorem dX11_holds_21 : decode cX11_holds 21 = .ok (.iload_n 1, 1) := by decide +kernel
theorem dX11_holds_22 : decode cX11_holds 22 = .ok (.iload_n 2, 1) := by decide +kernel
theorem dX11_holds_23 : decode cX11_holds 23 = .ok (.iload_n 2, 1) := by decide +kernel
theorem dX11_holds_24 : decode cX11_holds 24 = .ok (.invokevirtual 263, 3) := by decide +kernel
theorem dX11_holds_27 : decode cX11_holds 27 = .ok (.ifCond .eq 7, 3) := by decide +kernel
theorem dX11_holds_30 : decode cX11_holds 30 = .ok (.iconst 1, 1) := by decide +kernel
theorem dX11_holds_31 : decode cX11_holds 31 = .ok (.goto 8, 3) := by decide +kernel
theorem dX11_holds_34 : decode cX11_holds 34 = .ok (.iconst 0, 1) := by decide +kernel
theorem dX11_holds_35 : decode cX11_holds 35 = .ok (.goto 4, 3) := by decide +kernel
theorem dX11_holds_38 : decode cX11_holds 38 = .ok (.iconst (-1), 1) := by decide +kernel
theorem dX11_holds_39 : decode cX11_holds 39 = .ok (.ireturn, 1) := by decide +kernel
theorem dX11_tells_0 : decode cX11_tells 0 = .ok (.aload_n 0, 1) := by decide +kernel
theorem dX11_tells_1 : decode cX11_tells 1 = .ok (.getfield 66, 3) := by decide +kernel
theorem dX11_tells_4 : decode cX11_tells 4 = .ok (.aload_n 0, 1) := by decide +kernel
theorem dX11_tells_5 : decode cX11_tells 5 = .ok (.getfield 267, 3) := by decide +kernel
theorem dX11_tells_8 : decode cX11_tells 8 = .ok (.iload_n 2, 1) := by decide +kernel
theorem dX11_tells_9 : decode cX11_tells 9 = .ok (.bipush 64, 2) := by decide +kernel
theorem dX11_tells_11 : decode cX11_tells 11 = .ok (.imul, 1) := by decide +kernel
theorem dX11_tells_12 : decode cX11_tells 12 = .ok (.iload_n 3, 1) := by decide +kernel
theorem dX11_tells_13 : decode cX11_tells 13 = .ok (.iadd, 1) := by decide +kernel
theorem dX11_tells_14 : decode cX11_tells 14 = .ok (.iastore, 1) := by decide +kernel
theorem dX11_tells_15 : decode cX11_tells 15 = .ok (.aload_n 0, 1) := by decide +kernel
theorem dX11_tells_16 : decode cX11_tells 16 = .ok (.getfield 69, 3) := by decide +kernel
theorem dX11_tells_19 : decode cX11_tells 19 = .ok (.aload_n 0, 1) := by decide +kernel
theorem dX11_tells_20 : decode cX11_tells 20 = .ok (.getfield 267, 3) := by decide +kernel
theorem dX11_tells_23 : decode cX11_tells 23 = .ok (.iload_n 1, 1) := by decide +kernel
theorem dX11_tells_24 : decode cX11_tells 24 = .ok (.sipush 8192, 3) := by decide +kernel
theorem dX11_tells_27 : decode cX11_tells 27 = .ok (.imul, 1) := by decide +kernel
theorem dX11_tells_28 : decode cX11_tells 28 = .ok (.iload 4, 2) := by decide +kernel
theorem dX11_tells_30 : decode cX11_tells 30 = .ok (.iadd, 1) := by decide +kernel
theorem dX11_tells_31 : decode cX11_tells 31 = .ok (.iconst 1, 1) := by decide +kernel
theorem dX11_tells_32 : decode cX11_tells 32 = .ok (.iadd, 1) := by decide +kernel
theorem dX11_tells_33 : decode cX11_tells 33 = .ok (.iastore, 1) := by decide +kernel
theorem dX11_tells_34 : decode cX11_tells 34 = .ok (.aload_n 0, 1) := by decide +kernel
theorem dX11_tells_35 : decode cX11_tells 35 = .ok (.dup, 1) := by decide +kernel
theorem dX11_tells_36 : decode cX11_tells 36 = .ok (.getfield 267, 3) := by decide +kernel
theorem dX11_tells_39 : decode cX11_tells 39 = .ok (.iconst 1, 1) := by decide +kernel
theorem dX11_tells_40 : decode cX11_tells 40 = .ok (.iadd, 1) := by decide +kernel
theorem dX11_tells_41 : decode cX11_tells 41 = .ok (.putfield 267, 3) := by decide +kernel
theorem dX11_tells_44 : decode cX11_tells 44 = .ok (.aload_n 0, 1) := by decide +kernel
theorem dX11_tells_45 : decode cX11_tells 45 = .ok (.getfield 267, 3) := by decide +kernel
theorem dX11_tells_48 : decode cX11_tells 48 = .ok (.iconst 1, 1) := by decide +kernel
theorem dX11_tells_49 : decode cX11_tells 49 = .ok (.isub, 1) := by decide +kernel
theorem dX11_tells_50 : decode cX11_tells 50 = .ok (.ireturn, 1) := by decide +kernel
theorem dX11_isTry_0 : decode cX11_isTry 0 = .ok (.aload_n 0, 1) := by decide +kernel
theorem dX11_isTry_1 : decode cX11_isTry 1 = .ok (.getfield 270, 3) := by decide +kernel
theorem dX11_isTry_4 : decode cX11_isTry 4 = .ok (.aload_n 0, 1) := by decide +kernel
theorem dX11_isTry_5 : decode cX11_isTry 5 = .ok (.getfield 9, 3) := by decide +kernel
theorem dX11_isTry_8 : decode cX11_isTry 8 = .ok (.sipush 3335, 3) := by decide +kernel
theorem dX11_isTry_11 : decode cX11_isTry 11 = .ok (.iaload, 1) := by decide +kernel
theorem dX11_isTry_12 : decode cX11_isTry 12 = .ok (.if_icmp .ne 10, 3) := by decide +kernel
theorem dX11_isTry_15 : decode cX11_isTry 15 = .ok (.aload_n 0, 1) := by decide +kernel
theorem dX11_isTry_16 : decode cX11_isTry 16 = .ok (.iconst 1, 1) := by decide +kernel
theorem dX11_isTry_17 : decode cX11_isTry 17 = .ok (.putfield 273, 3) := by decide +kernel
theorem dX11_isTry_20 : decode cX11_isTry 20 = .ok (.iconst 0, 1) := by decide +kernel
theorem dX11_isTry_21 : decode cX11_isTry 21 = .ok (.ireturn, 1) := by decide +kernel
theorem dX11_isTry_22 : decode cX11_isTry 22 = .ok (.aload_n 0, 1) := by decide +kernel
theorem dX11_isTry_23 : decode cX11_isTry 23 = .ok (.dup, 1) := by decide +kernel
theorem dX11_isTry_24 : decode cX11_isTry 24 = .ok (.getfield 270, 3) := by decide +kernel
theorem dX11_isTry_27 : decode cX11_isTry 27 = .ok (.iconst 1, 1) := by decide +kernel
theorem dX11_isTry_28 : decode cX11_isTry 28 = .ok (.iadd, 1) := by decide +kernel
theorem dX11_isTry_29 : decode cX11_isTry 29 = .ok (.putfield 270, 3) := by decide +kernel
theorem dX11_isTry_32 : decode cX11_isTry 32 = .ok (.iconst 1, 1) := by decide +kernel
theorem dX11_isTry_33 : decode cX11_isTry 33 = .ok (.ireturn, 1) := by decide +kernel
theorem dX11_leaves_0 : decode cX11_leaves 0 = .ok (.aload_n 0, 1) := by decide +kernel
theorem dX11_leaves_1 : decode cX11_leaves 1 = .ok (.getfield 72, 3) := by decide +kernel
theorem dX11_leaves_4 : decode cX11_leaves 4 = .ok (.aload_n 0, 1) := by decide +kernel
theorem dX11_leaves_5 : decode cX11_leaves 5 = .ok (.getfield 276, 3) := by decide +kernel
theorem dX11_leaves_8 : decode cX11_leaves 8 = .ok (.iload_n 1, 1) := by decide +kernel
theorem dX11_leaves_9 : decode cX11_leaves 9 = .ok (.iastore, 1) := by decide +kernel
theorem dX11_leaves_10 : decode cX11_leaves 10 = .ok (.aload_n 0, 1) := by decide +kernel
theorem dX11_leaves_11 : decode cX11_leaves 11 = .ok (.getfield 75, 3) := by decide +kernel
theorem dX11_leaves_14 : decode cX11_leaves 14 = .ok (.aload_n 0, 1) := by decide +kernel
theorem dX11_leaves_15 : decode cX11_leaves 15 = .ok (.getfield 276, 3) := by decide +kernel
theorem dX11_leaves_18 : decode cX11_leaves 18 = .ok (.iload_n 2, 1) := by decide +kernel
theorem dX11_leaves_19 : decode cX11_leaves 19 = .ok (.iastore, 1) := by decide +kernel
theorem dX11_leaves_20 : decode cX11_leaves 20 = .ok (.aload_n 0, 1) := by decide +kernel
theorem dX11_leaves_21 : decode cX11_leaves 21 = .ok (.getfield 78, 3) := by decide +kernel
theorem dX11_leaves_24 : decode cX11_leaves 24 = .ok (.aload_n 0, 1) := by decide +kernel
theorem dX11_leaves_25 : decode cX11_leaves 25 = .ok (.getfield 276, 3) := by decide +kernel
theorem dX11_leaves_28 : decode cX11_leaves 28 = .ok (.iload_n 3, 1) := by decide +kernel
theorem dX11_leaves_29 : decode cX11_leaves 29 = .ok (.iconst 1, 1) := by decide +kernel
theorem dX11_leaves_30 : decode cX11_leaves 30 = .ok (.iadd, 1) := by decide +kernel
theorem dX11_leaves_31 : decode cX11_leaves 31 = .ok (.sipush 8192, 3) := by decide +kernel
theorem dX11_leaves_34 : decode cX11_leaves 34 = .ok (.imul, 1) := by decide +kernel
theorem dX11_leaves_35 : decode cX11_leaves 35 = .ok (.aload_n 0, 1) := by decide +kernel
theorem dX11_leaves_36 : decode cX11_leaves 36 = .ok (.getfield 267, 3) := by decide +kernel
theorem dX11_leaves_39 : decode cX11_leaves 39 = .ok (.iadd, 1) := by decide +kernel
theorem dX11_leaves_40 : decode cX11_leaves 40 = .ok (.iastore, 1) := by decide +kernel
theorem dX11_leaves_41 : decode cX11_leaves 41 = .ok (.aload_n 0, 1) := by decide +kernel
theorem dX11_leaves_42 : decode cX11_leaves 42 = .ok (.getfield 81, 3) := by decide +kernel
theorem dX11_leaves_45 : decode cX11_leaves 45 = .ok (.aload_n 0, 1) := by decide +kernel
theorem dX11_leaves_46 : decode cX11_leaves 46 = .ok (.getfield 276, 3) := by decide +kernel
theorem dX11_leaves_49 : decode cX11_leaves 49 = .ok (.aload_n 0, 1) := by decide +kernel
theorem dX11_leaves_50 : decode cX11_leaves 50 = .ok (.getfield 279, 3) := by decide +kernel
theorem dX11_leaves_53 : decode cX11_leaves 53 = .ok (.iastore, 1) := by decide +kernel
theorem dX11_leaves_54 : decode cX11_leaves 54 = .ok (.aload_n 0, 1) := by decide +kernel
theorem dX11_leaves_55 : decode cX11_leaves 55 = .ok (.dup, 1) := by decide +kernel
theorem dX11_leaves_56 : decode cX11_leaves 56 = .ok (.getfield 276, 3) := by decide +kernel
theorem dX11_leaves_59 : decode cX11_leaves 59 = .ok (.iconst 1, 1) := by decide +kernel
theorem dX11_leaves_60 : decode cX11_leaves 60 = .ok (.iadd, 1) := by decide +kernel
theorem dX11_leaves_61 : decode cX11_leaves 61 = .ok (.putfield 276, 3) := by decide +kernel
theorem dX11_leaves_64 : decode cX11_leaves 64 = .ok (.return_, 1) := by decide +kernel
theorem dX11_kid_0 : decode cX11_kid 0 = .ok (.aload_n 0, 1) := by decide +kernel
theorem dX11_kid_1 : decode cX11_kid 1 = .ok (.getfield 42, 3) := by decide +kernel
theorem dX11_kid_4 : decode cX11_kid 4 = .ok (.iload_n 1, 1) := by decide +kernel
theorem dX11_kid_5 : decode cX11_kid 5 = .ok (.iaload, 1) := by decide +kernel
theorem dX11_kid_6 : decode cX11_kid 6 = .ok (.istore_n 3, 1) := by decide +kernel
theorem dX11_kid_7 : decode cX11_kid 7 = .ok (.iconst 0, 1) := by decide +kernel
theorem dX11_kid_8 : decode cX11_kid 8 = .ok (.istore 4, 2) := by decide +kernel
theorem dX11_kid_10 : decode cX11_kid 10 = .ok (.iload 4, 2) := by decide +kernel
theorem dX11_kid_12 : decode cX11_kid 12 = .ok (.iload_n 2, 1) := by decide +kernel
theorem dX11_kid_13 : decode cX11_kid 13 = .ok (.if_icmp .ge 16, 3) := by decide +kernel
theorem dX11_kid_16 : decode cX11_kid 16 = .ok (.aload_n 0, 1) := by decide +kernel
theorem dX11_kid_17 : decode cX11_kid 17 = .ok (.getfield 45, 3) := by decide +kernel
theorem dX11_kid_20 : decode cX11_kid 20 = .ok (.iload_n 3, 1) := by decide +kernel
theorem dX11_kid_21 : decode cX11_kid 21 = .ok (.iaload, 1) := by decide +kernel
theorem dX11_kid_22 : decode cX11_kid 22 = .ok (.istore_n 3, 1) := by decide +kernel
theorem dX11_kid_23 : decode cX11_kid 23 = .ok (.iinc 4 1, 3) := by decide +kernel
theorem dX11_kid_26 : decode cX11_kid 26 = .ok (.goto (-16), 3) := by decide +kernel
theorem dX11_kid_29 : decode cX11_kid 29 = .ok (.iload_n 3, 1) := by decide +kernel
theorem dX11_kid_30 : decode cX11_kid 30 = .ok (.ireturn, 1) := by decide +kernel
theorem dX11_goes_0 : decode cX11_goes 0 = .ok (.aload_n 0, 1) := by decide +kernel
theorem dX11_goes_1 : decode cX11_goes 1 = .ok (.iload_n 1, 1) := by decide +kernel
theorem dX11_goes_2 : decode cX11_goes 2 = .ok (.putfield 282, 3) := by decide +kernel
theorem dX11_goes_5 : decode cX11_goes 5 = .ok (.aload_n 0, 1) := by decide +kernel
theorem dX11_goes_6 : decode cX11_goes 6 = .ok (.iload_n 2, 1) := by decide +kernel
theorem dX11_goes_7 : decode cX11_goes 7 = .ok (.putfield 285, 3) := by decide +kernel
theorem dX11_goes_10 : decode cX11_goes 10 = .ok (.return_, 1) := by decide +kernel
theorem dX11_once_0 : decode cX11_once 0 = .ok (.aload_n 0, 1) := by decide +kernel
theorem dX11_once_1 : decode cX11_once 1 = .ok (.iload_n 1, 1) := by decide +kernel
theorem dX11_once_2 : decode cX11_once 2 = .ok (.iload_n 2, 1) := by decide +kernel
theorem dX11_once_3 : decode cX11_once 3 = .ok (.iconst 1, 1) := by decide +kernel
theorem dX11_once_4 : decode cX11_once 4 = .ok (.iadd, 1) := by decide +kernel
theorem dX11_once_5 : decode cX11_once 5 = .ok (.aload_n 0, 1) := by decide +kernel
theorem dX11_once_6 : decode cX11_once 6 = .ok (.getfield 279, 3) := by decide +kernel
theorem dX11_once_9 : decode cX11_once 9 = .ok (.iload_n 3, 1) := by decide +kernel
theorem dX11_once_10 : decode cX11_once 10 = .ok (.invokevirtual 288, 3) := by decide +kernel
theorem dX11_once_13 : decode cX11_once 13 = .ok (.istore 4, 2) := by decide +kernel
theorem dX11_once_15 : decode cX11_once 15 = .ok (.aload_n 0, 1) := by decide +kernel
theorem dX11_once_16 : decode cX11_once 16 = .ok (.aload_n 0, 1) := by decide +kernel
theorem dX11_once_17 : decode cX11_once 17 = .ok (.getfield 42, 3) := by decide +kernel
theorem dX11_once_20 : decode cX11_once 20 = .ok (.iload_n 1, 1) := by decide +kernel
theorem dX11_once_21 : decode cX11_once 21 = .ok (.iaload, 1) := by decide +kernel
theorem dX11_once_22 : decode cX11_once 22 = .ok (.iload 4, 2) := by decide +kernel
theorem dX11_once_24 : decode cX11_once 24 = .ok (.invokevirtual 292, 3) := by decide +kernel
theorem dX11_once_27 : decode cX11_once 27 = .ok (.return_, 1) := by decide +kernel
theorem dX11_repetition_0 : decode cX11_repetition 0 = .ok (.aload_n 0, 1) := by decide +kernel
theorem dX11_repetition_1 : decode cX11_repetition 1 = .ok (.invokevirtual 296, 3) := by decide +kernel
theorem dX11_repetition_4 : decode cX11_repetition 4 = .ok (.ifCond .ne 4, 3) := by decide +kernel
theorem dX11_repetition_7 : decode cX11_repetition 7 = .ok (.return_, 1) := by decide +kernel
theorem dX11_repetition_8 : decode cX11_repetition 8 = .ok (.iload_n 2, 1) := by decide +kernel
theorem dX11_repetition_9 : decode cX11_repetition 9 = .ok (.aload_n 0, 1) := by decide +kernel
theorem dX11_repetition_10 : decode cX11_repetition 10 = .ok (.getfield 30, 3) := by decide +kernel
theorem dX11_repetition_13 : decode cX11_repetition 13 = .ok (.iload_n 1, 1) := by decide +kernel
theorem dX11_repetition_14 : decode cX11_repetition 14 = .ok (.iaload, 1) := by decide +kernel
theorem dX11_repetition_15 : decode cX11_repetition 15 = .ok (.if_icmp .le 19, 3) := by decide +kernel
theorem dX11_repetition_18 : decode cX11_repetition 18 = .ok (.aload_n 0, 1) := by decide +kernel
theorem dX11_repetition_19 : decode cX11_repetition 19 = .ok (.getfield 279, 3) := by decide +kernel
theorem dX11_repetition_22 : decode cX11_repetition 22 = .ok (.iload_n 3, 1) := by decide +kernel
theorem dX11_repetition_23 : decode cX11_repetition 23 = .ok (.if_icmp .ne 11, 3) := by decide +kernel
theorem dX11_repetition_26 : decode cX11_repetition 26 = .ok (.aload_n 0, 1) := by decide +kernel
theorem dX11_repetition_27 : decode cX11_repetition 27 = .ok (.iconst 1, 1) := by decide +kernel
theorem dX11_repetition_28 : decode cX11_repetition 28 = .ok (.putfield 299, 3) := by decide +kernel
theorem dX11_repetition_31 : decode cX11_repetition 31 = .ok (.goto 99, 3) := by decide +kernel
theorem dX11_repetition_34 : decode cX11_repetition 34 = .ok (.iload_n 2, 1) := by decide +kernel
theorem dX11_repetition_35 : decode cX11_repetition 35 = .ok (.aload_n 0, 1) := by decide +kernel
theorem dX11_repetition_36 : decode cX11_repetition 36 = .ok (.getfield 30, 3) := by decide +kernel
theorem dX11_repetition_39 : decode cX11_repetition 39 = .ok (.iload_n 1, 1) := by decide +kernel
theorem dX11_repetition_40 : decode cX11_repetition 40 = .ok (.iaload, 1) := by decide +kernel
theorem dX11_repetition_41 : decode cX11_repetition 41 = .ok (.if_icmp .ge 14, 3) := by decide +kernel
theorem dX11_repetition_44 : decode cX11_repetition 44 = .ok (.aload_n 0, 1) := by decide +kernel
theorem dX11_repetition_45 : decode cX11_repetition 45 = .ok (.iload_n 1, 1) := by decide +kernel
theorem dX11_repetition_46 : decode cX11_repetition 46 = .ok (.iload_n 2, 1) := by decide +kernel
theorem dX11_repetition_47 : decode cX11_repetition 47 = .ok (.iload 4, 2) := by decide +kernel
theorem dX11_repetition_49 : decode cX11_repetition 49 = .ok (.invokevirtual 302, 3) := by decide +kernel
theorem dX11_repetition_52 : decode cX11_repetition 52 = .ok (.goto 78, 3) := by decide +kernel
theorem dX11_repetition_55 : decode cX11_repetition 55 = .ok (.iload_n 2, 1) := by decide +kernel
theorem dX11_repetition_56 : decode cX11_repetition 56 = .ok (.aload_n 0, 1) := by decide +kernel
theorem dX11_repetition_57 : decode cX11_repetition 57 = .ok (.getfield 33, 3) := by decide +kernel
theorem dX11_repetition_60 : decode cX11_repetition 60 = .ok (.iload_n 1, 1) := by decide +kernel
