/-! decode rows, 7 -/
theorem dX11_repetition_61 : decode cX11_repetition 61 = .ok (.iaload, 1) := by decide +kernel
theorem dX11_repetition_62 : decode cX11_repetition 62 = .ok (.if_icmp .ne 24, 3) := by decide +kernel
theorem dX11_repetition_65 : decode cX11_repetition 65 = .ok (.aload_n 0, 1) := by decide +kernel
theorem dX11_repetition_66 : decode cX11_repetition 66 = .ok (.getfield 33, 3) := by decide +kernel
theorem dX11_repetition_69 : decode cX11_repetition 69 = .ok (.iload_n 1, 1) := by decide +kernel
theorem dX11_repetition_70 : decode cX11_repetition 70 = .ok (.iaload, 1) := by decide +kernel
theorem dX11_repetition_71 : decode cX11_repetition 71 = .ok (.bipush 100, 2) := by decide +kernel
theorem dX11_repetition_73 : decode cX11_repetition 73 = .ok (.if_icmp .eq 13, 3) := by decide +kernel
theorem dX11_repetition_76 : decode cX11_repetition 76 = .ok (.aload_n 0, 1) := by decide +kernel
theorem dX11_repetition_77 : decode cX11_repetition 77 = .ok (.iconst (-1), 1) := by decide +kernel
theorem dX11_repetition_78 : decode cX11_repetition 78 = .ok (.iload 4, 2) := by decide +kernel
theorem dX11_repetition_80 : decode cX11_repetition 80 = .ok (.invokevirtual 292, 3) := by decide +kernel
theorem dX11_repetition_83 : decode cX11_repetition 83 = .ok (.goto 47, 3) := by decide +kernel
theorem dX11_repetition_86 : decode cX11_repetition 86 = .ok (.aload_n 0, 1) := by decide +kernel
theorem dX11_repetition_87 : decode cX11_repetition 87 = .ok (.getfield 36, 3) := by decide +kernel
theorem dX11_repetition_90 : decode cX11_repetition 90 = .ok (.iload_n 1, 1) := by decide +kernel
theorem dX11_repetition_91 : decode cX11_repetition 91 = .ok (.iaload, 1) := by decide +kernel
theorem dX11_repetition_92 : decode cX11_repetition 92 = .ok (.iconst 1, 1) := by decide +kernel
theorem dX11_repetition_93 : decode cX11_repetition 93 = .ok (.if_icmp .ne 22, 3) := by decide +kernel
theorem dX11_repetition_96 : decode cX11_repetition 96 = .ok (.aload_n 0, 1) := by decide +kernel
theorem dX11_repetition_97 : decode cX11_repetition 97 = .ok (.iload_n 1, 1) := by decide +kernel
theorem dX11_repetition_98 : decode cX11_repetition 98 = .ok (.iload_n 2, 1) := by decide +kernel
theorem dX11_repetition_99 : decode cX11_repetition 99 = .ok (.iload 4, 2) := by decide +kernel
theorem dX11_repetition_101 : decode cX11_repetition 101 = .ok (.invokevirtual 306, 3) := by decide +kernel
theorem dX11_repetition_104 : decode cX11_repetition 104 = .ok (.aload_n 0, 1) := by decide +kernel
theorem dX11_repetition_105 : decode cX11_repetition 105 = .ok (.iload_n 1, 1) := by decide +kernel
theorem dX11_repetition_106 : decode cX11_repetition 106 = .ok (.iload_n 2, 1) := by decide +kernel
theorem dX11_repetition_107 : decode cX11_repetition 107 = .ok (.iload 4, 2) := by decide +kernel
theorem dX11_repetition_109 : decode cX11_repetition 109 = .ok (.invokevirtual 302, 3) := by decide +kernel
theorem dX11_repetition_112 : decode cX11_repetition 112 = .ok (.goto 18, 3) := by decide +kernel
theorem dX11_repetition_115 : decode cX11_repetition 115 = .ok (.aload_n 0, 1) := by decide +kernel
theorem dX11_repetition_116 : decode cX11_repetition 116 = .ok (.iload_n 1, 1) := by decide +kernel
theorem dX11_repetition_117 : decode cX11_repetition 117 = .ok (.iload_n 2, 1) := by decide +kernel
theorem dX11_repetition_118 : decode cX11_repetition 118 = .ok (.iload 4, 2) := by decide +kernel
theorem dX11_repetition_120 : decode cX11_repetition 120 = .ok (.invokevirtual 306, 3) := by decide +kernel
theorem dX11_repetition_123 : decode cX11_repetition 123 = .ok (.aload_n 0, 1) := by decide +kernel
theorem dX11_repetition_124 : decode cX11_repetition 124 = .ok (.iconst (-1), 1) := by decide +kernel
theorem dX11_repetition_125 : decode cX11_repetition 125 = .ok (.iload 4, 2) := by decide +kernel
theorem dX11_repetition_127 : decode cX11_repetition 127 = .ok (.invokevirtual 292, 3) := by decide +kernel
theorem dX11_repetition_130 : decode cX11_repetition 130 = .ok (.return_, 1) := by decide +kernel
theorem dX11_undone_0 : decode cX11_undone 0 = .ok (.iload_n 3, 1) := by decide +kernel
theorem dX11_undone_1 : decode cX11_undone 1 = .ok (.istore 4, 2) := by decide +kernel
theorem dX11_undone_3 : decode cX11_undone 3 = .ok (.iload 4, 2) := by decide +kernel
theorem dX11_undone_5 : decode cX11_undone 5 = .ok (.aload_n 0, 1) := by decide +kernel
theorem dX11_undone_6 : decode cX11_undone 6 = .ok (.getfield 39, 3) := by decide +kernel
theorem dX11_undone_9 : decode cX11_undone 9 = .ok (.iload_n 1, 1) := by decide +kernel
theorem dX11_undone_10 : decode cX11_undone 10 = .ok (.iaload, 1) := by decide +kernel
theorem dX11_undone_11 : decode cX11_undone 11 = .ok (.if_icmp .ge 19, 3) := by decide +kernel
theorem dX11_undone_14 : decode cX11_undone 14 = .ok (.iload_n 2, 1) := by decide +kernel
theorem dX11_undone_15 : decode cX11_undone 15 = .ok (.iload 4, 2) := by decide +kernel
theorem dX11_undone_17 : decode cX11_undone 17 = .ok (.ishr, 1) := by decide +kernel
theorem dX11_undone_18 : decode cX11_undone 18 = .ok (.iconst 1, 1) := by decide +kernel
theorem dX11_undone_19 : decode cX11_undone 19 = .ok (.iand, 1) := by decide +kernel
theorem dX11_undone_20 : decode cX11_undone 20 = .ok (.iconst 1, 1) := by decide +kernel
theorem dX11_undone_21 : decode cX11_undone 21 = .ok (.if_icmp .ne 9, 3) := by decide +kernel
theorem dX11_undone_24 : decode cX11_undone 24 = .ok (.iinc 4 1, 3) := by decide +kernel
theorem dX11_undone_27 : decode cX11_undone 27 = .ok (.goto (-24), 3) := by decide +kernel
theorem dX11_undone_30 : decode cX11_undone 30 = .ok (.iload 4, 2) := by decide +kernel
theorem dX11_undone_32 : decode cX11_undone 32 = .ok (.ireturn, 1) := by decide +kernel
theorem dX11_anyOf_0 : decode cX11_anyOf 0 = .ok (.aload_n 0, 1) := by decide +kernel
theorem dX11_anyOf_1 : decode cX11_anyOf 1 = .ok (.iload_n 1, 1) := by decide +kernel
theorem dX11_anyOf_2 : decode cX11_anyOf 2 = .ok (.iload_n 2, 1) := by decide +kernel
theorem dX11_anyOf_3 : decode cX11_anyOf 3 = .ok (.iload_n 3, 1) := by decide +kernel
theorem dX11_anyOf_4 : decode cX11_anyOf 4 = .ok (.invokevirtual 309, 3) := by decide +kernel
theorem dX11_anyOf_7 : decode cX11_anyOf 7 = .ok (.istore 5, 2) := by decide +kernel
theorem dX11_anyOf_9 : decode cX11_anyOf 9 = .ok (.aload_n 0, 1) := by decide +kernel
theorem dX11_anyOf_10 : decode cX11_anyOf 10 = .ok (.iload_n 1, 1) := by decide +kernel
theorem dX11_anyOf_11 : decode cX11_anyOf 11 = .ok (.iload_n 2, 1) := by decide +kernel
theorem dX11_anyOf_12 : decode cX11_anyOf 12 = .ok (.iload 5, 2) := by decide +kernel
theorem dX11_anyOf_14 : decode cX11_anyOf 14 = .ok (.iconst 1, 1) := by decide +kernel
theorem dX11_anyOf_15 : decode cX11_anyOf 15 = .ok (.iadd, 1) := by decide +kernel
theorem dX11_anyOf_16 : decode cX11_anyOf 16 = .ok (.invokevirtual 309, 3) := by decide +kernel
theorem dX11_anyOf_19 : decode cX11_anyOf 19 = .ok (.aload_n 0, 1) := by decide +kernel
theorem dX11_anyOf_20 : decode cX11_anyOf 20 = .ok (.getfield 39, 3) := by decide +kernel
theorem dX11_anyOf_23 : decode cX11_anyOf 23 = .ok (.iload_n 1, 1) := by decide +kernel
theorem dX11_anyOf_24 : decode cX11_anyOf 24 = .ok (.iaload, 1) := by decide +kernel
theorem dX11_anyOf_25 : decode cX11_anyOf 25 = .ok (.if_icmp .ge 19, 3) := by decide +kernel
theorem dX11_anyOf_28 : decode cX11_anyOf 28 = .ok (.aload_n 0, 1) := by decide +kernel
theorem dX11_anyOf_29 : decode cX11_anyOf 29 = .ok (.iload_n 1, 1) := by decide +kernel
theorem dX11_anyOf_30 : decode cX11_anyOf 30 = .ok (.iload_n 2, 1) := by decide +kernel
theorem dX11_anyOf_31 : decode cX11_anyOf 31 = .ok (.bipush 8, 2) := by decide +kernel
theorem dX11_anyOf_33 : decode cX11_anyOf 33 = .ok (.imul, 1) := by decide +kernel
theorem dX11_anyOf_34 : decode cX11_anyOf 34 = .ok (.iload 5, 2) := by decide +kernel
theorem dX11_anyOf_36 : decode cX11_anyOf 36 = .ok (.iadd, 1) := by decide +kernel
theorem dX11_anyOf_37 : decode cX11_anyOf 37 = .ok (.iconst 1, 1) := by decide +kernel
theorem dX11_anyOf_38 : decode cX11_anyOf 38 = .ok (.iadd, 1) := by decide +kernel
theorem dX11_anyOf_39 : decode cX11_anyOf 39 = .ok (.iload 4, 2) := by decide +kernel
theorem dX11_anyOf_41 : decode cX11_anyOf 41 = .ok (.invokevirtual 306, 3) := by decide +kernel
theorem dX11_anyOf_44 : decode cX11_anyOf 44 = .ok (.aload_n 0, 1) := by decide +kernel
theorem dX11_anyOf_45 : decode cX11_anyOf 45 = .ok (.iload_n 1, 1) := by decide +kernel
theorem dX11_anyOf_46 : decode cX11_anyOf 46 = .ok (.iload_n 2, 1) := by decide +kernel
theorem dX11_anyOf_47 : decode cX11_anyOf 47 = .ok (.iconst 1, 1) := by decide +kernel
theorem dX11_anyOf_48 : decode cX11_anyOf 48 = .ok (.iload 5, 2) := by decide +kernel
theorem dX11_anyOf_50 : decode cX11_anyOf 50 = .ok (.ishl, 1) := by decide +kernel
theorem dX11_anyOf_51 : decode cX11_anyOf 51 = .ok (.ior, 1) := by decide +kernel
theorem dX11_anyOf_52 : decode cX11_anyOf 52 = .ok (.iconst 0, 1) := by decide +kernel
theorem dX11_anyOf_53 : decode cX11_anyOf 53 = .ok (.iload 4, 2) := by decide +kernel
theorem dX11_anyOf_55 : decode cX11_anyOf 55 = .ok (.invokevirtual 288, 3) := by decide +kernel
theorem dX11_anyOf_58 : decode cX11_anyOf 58 = .ok (.istore 6, 2) := by decide +kernel
theorem dX11_anyOf_60 : decode cX11_anyOf 60 = .ok (.aload_n 0, 1) := by decide +kernel
theorem dX11_anyOf_61 : decode cX11_anyOf 61 = .ok (.aload_n 0, 1) := by decide +kernel
theorem dX11_anyOf_62 : decode cX11_anyOf 62 = .ok (.iload_n 1, 1) := by decide +kernel
theorem dX11_anyOf_63 : decode cX11_anyOf 63 = .ok (.iload 5, 2) := by decide +kernel
theorem dX11_anyOf_65 : decode cX11_anyOf 65 = .ok (.invokevirtual 312, 3) := by decide +kernel
theorem dX11_anyOf_68 : decode cX11_anyOf 68 = .ok (.iload 6, 2) := by decide +kernel
theorem dX11_anyOf_70 : decode cX11_anyOf 70 = .ok (.invokevirtual 292, 3) := by decide +kernel
theorem dX11_anyOf_73 : decode cX11_anyOf 73 = .ok (.return_, 1) := by decide +kernel
theorem dX11_order_0 : decode cX11_order 0 = .ok (.aload_n 0, 1) := by decide +kernel
theorem dX11_order_1 : decode cX11_order 1 = .ok (.invokevirtual 296, 3) := by decide +kernel
theorem dX11_order_4 : decode cX11_order 4 = .ok (.ifCond .ne 4, 3) := by decide +kernel
theorem dX11_order_7 : decode cX11_order 7 = .ok (.return_, 1) := by decide +kernel
theorem dX11_order_8 : decode cX11_order 8 = .ok (.aload_n 0, 1) := by decide +kernel
theorem dX11_order_9 : decode cX11_order 9 = .ok (.iload_n 1, 1) := by decide +kernel
theorem dX11_order_10 : decode cX11_order 10 = .ok (.iload_n 2, 1) := by decide +kernel
theorem dX11_order_11 : decode cX11_order 11 = .ok (.iconst 0, 1) := by decide +kernel
theorem dX11_order_12 : decode cX11_order 12 = .ok (.invokevirtual 309, 3) := by decide +kernel
theorem dX11_order_15 : decode cX11_order 15 = .ok (.aload_n 0, 1) := by decide +kernel
theorem dX11_order_16 : decode cX11_order 16 = .ok (.getfield 39, 3) := by decide +kernel
theorem dX11_order_19 : decode cX11_order 19 = .ok (.iload_n 1, 1) := by decide +kernel
theorem dX11_order_20 : decode cX11_order 20 = .ok (.iaload, 1) := by decide +kernel
theorem dX11_order_21 : decode cX11_order 21 = .ok (.if_icmp .ne 12, 3) := by decide +kernel
theorem dX11_order_24 : decode cX11_order 24 = .ok (.aload_n 0, 1) := by decide +kernel
theorem dX11_order_25 : decode cX11_order 25 = .ok (.iconst (-1), 1) := by decide +kernel
theorem dX11_order_26 : decode cX11_order 26 = .ok (.iload_n 3, 1) := by decide +kernel
theorem dX11_order_27 : decode cX11_order 27 = .ok (.invokevirtual 292, 3) := by decide +kernel
theorem dX11_order_30 : decode cX11_order 30 = .ok (.goto 11, 3) := by decide +kernel
theorem dX11_order_33 : decode cX11_order 33 = .ok (.aload_n 0, 1) := by decide +kernel
theorem dX11_order_34 : decode cX11_order 34 = .ok (.iload_n 1, 1) := by decide +kernel
theorem dX11_order_35 : decode cX11_order 35 = .ok (.iload_n 2, 1) := by decide +kernel
theorem dX11_order_36 : decode cX11_order 36 = .ok (.iconst 0, 1) := by decide +kernel
theorem dX11_order_37 : decode cX11_order 37 = .ok (.iload_n 3, 1) := by decide +kernel
theorem dX11_order_38 : decode cX11_order 38 = .ok (.invokevirtual 316, 3) := by decide +kernel
theorem dX11_order_41 : decode cX11_order 41 = .ok (.return_, 1) := by decide +kernel
theorem dX11_come_0 : decode cX11_come 0 = .ok (.aload_n 0, 1) := by decide +kernel
theorem dX11_come_1 : decode cX11_come 1 = .ok (.getfield 282, 3) := by decide +kernel
theorem dX11_come_4 : decode cX11_come 4 = .ok (.istore_n 1, 1) := by decide +kernel
theorem dX11_come_5 : decode cX11_come 5 = .ok (.aload_n 0, 1) := by decide +kernel
theorem dX11_come_6 : decode cX11_come 6 = .ok (.getfield 285, 3) := by decide +kernel
theorem dX11_come_9 : decode cX11_come 9 = .ok (.istore_n 2, 1) := by decide +kernel
theorem dX11_come_10 : decode cX11_come 10 = .ok (.aload_n 0, 1) := by decide +kernel
theorem dX11_come_11 : decode cX11_come 11 = .ok (.getfield 24, 3) := by decide +kernel
theorem dX11_come_14 : decode cX11_come 14 = .ok (.iload_n 1, 1) := by decide +kernel
theorem dX11_come_15 : decode cX11_come 15 = .ok (.iaload, 1) := by decide +kernel
theorem dX11_come_16 : decode cX11_come 16 = .ok (.iconst 3, 1) := by decide +kernel
theorem dX11_come_17 : decode cX11_come 17 = .ok (.if_icmp .ne 26, 3) := by decide +kernel
theorem dX11_come_20 : decode cX11_come 20 = .ok (.aload_n 0, 1) := by decide +kernel
theorem dX11_come_21 : decode cX11_come 21 = .ok (.iload_n 1, 1) := by decide +kernel
theorem dX11_come_22 : decode cX11_come 22 = .ok (.iconst 1, 1) := by decide +kernel
theorem dX11_come_23 : decode cX11_come 23 = .ok (.iconst 0, 1) := by decide +kernel
theorem dX11_come_24 : decode cX11_come 24 = .ok (.iload_n 2, 1) := by decide +kernel
theorem dX11_come_25 : decode cX11_come 25 = .ok (.invokevirtual 288, 3) := by decide +kernel
theorem dX11_come_28 : decode cX11_come 28 = .ok (.istore_n 3, 1) := by decide +kernel
theorem dX11_come_29 : decode cX11_come 29 = .ok (.aload_n 0, 1) := by decide +kernel
theorem dX11_come_30 : decode cX11_come 30 = .ok (.aload_n 0, 1) := by decide +kernel
theorem dX11_come_31 : decode cX11_come 31 = .ok (.getfield 42, 3) := by decide +kernel
theorem dX11_come_34 : decode cX11_come 34 = .ok (.iload_n 1, 1) := by decide +kernel
theorem dX11_come_35 : decode cX11_come 35 = .ok (.iaload, 1) := by decide +kernel
theorem dX11_come_36 : decode cX11_come 36 = .ok (.iload_n 3, 1) := by decide +kernel
theorem dX11_come_37 : decode cX11_come 37 = .ok (.invokevirtual 292, 3) := by decide +kernel
theorem dX11_come_40 : decode cX11_come 40 = .ok (.goto 203, 3) := by decide +kernel
theorem dX11_come_43 : decode cX11_come 43 = .ok (.aload_n 0, 1) := by decide +kernel
theorem dX11_come_44 : decode cX11_come 44 = .ok (.getfield 24, 3) := by decide +kernel
theorem dX11_come_47 : decode cX11_come 47 = .ok (.iload_n 1, 1) := by decide +kernel
theorem dX11_come_48 : decode cX11_come 48 = .ok (.iaload, 1) := by decide +kernel
theorem dX11_come_49 : decode cX11_come 49 = .ok (.bipush 6, 2) := by decide +kernel
theorem dX11_come_51 : decode cX11_come 51 = .ok (.if_icmp .ne 13, 3) := by decide +kernel
theorem dX11_come_54 : decode cX11_come 54 = .ok (.aload_n 0, 1) := by decide +kernel
theorem dX11_come_55 : decode cX11_come 55 = .ok (.iload_n 1, 1) := by decide +kernel
theorem dX11_come_56 : decode cX11_come 56 = .ok (.iconst 0, 1) := by decide +kernel
theorem dX11_come_57 : decode cX11_come 57 = .ok (.iload_n 2, 1) := by decide +kernel
theorem dX11_come_58 : decode cX11_come 58 = .ok (.invokevirtual 320, 3) := by decide +kernel
theorem dX11_come_61 : decode cX11_come 61 = .ok (.goto 182, 3) := by decide +kernel
theorem dX11_come_64 : decode cX11_come 64 = .ok (.aload_n 0, 1) := by decide +kernel
theorem dX11_come_65 : decode cX11_come 65 = .ok (.getfield 24, 3) := by decide +kernel
theorem dX11_come_68 : decode cX11_come 68 = .ok (.iload_n 1, 1) := by decide +kernel
theorem dX11_come_69 : decode cX11_come 69 = .ok (.iaload, 1) := by decide +kernel
theorem dX11_come_70 : decode cX11_come 70 = .ok (.iconst 5, 1) := by decide +kernel
theorem dX11_come_71 : decode cX11_come 71 = .ok (.if_icmp .ne 14, 3) := by decide +kernel
theorem dX11_come_74 : decode cX11_come 74 = .ok (.aload_n 0, 1) := by decide +kernel
theorem dX11_come_75 : decode cX11_come 75 = .ok (.iload_n 1, 1) := by decide +kernel
theorem dX11_come_76 : decode cX11_come 76 = .ok (.iconst 0, 1) := by decide +kernel
theorem dX11_come_77 : decode cX11_come 77 = .ok (.iconst 0, 1) := by decide +kernel
theorem dX11_come_78 : decode cX11_come 78 = .ok (.iload_n 2, 1) := by decide +kernel
theorem dX11_come_79 : decode cX11_come 79 = .ok (.invokevirtual 323, 3) := by decide +kernel
theorem dX11_come_82 : decode cX11_come 82 = .ok (.goto 161, 3) := by decide +kernel
theorem dX11_come_85 : decode cX11_come 85 = .ok (.aload_n 0, 1) := by decide +kernel
theorem dX11_come_86 : decode cX11_come 86 = .ok (.invokevirtual 296, 3) := by decide +kernel
theorem dX11_come_89 : decode cX11_come 89 = .ok (.ifCond .eq 154, 3) := by decide +kernel
theorem dX11_come_92 : decode cX11_come 92 = .ok (.aload_n 0, 1) := by decide +kernel
theorem dX11_come_93 : decode cX11_come 93 = .ok (.getfield 24, 3) := by decide +kernel
theorem dX11_come_96 : decode cX11_come 96 = .ok (.iload_n 1, 1) := by decide +kernel
theorem dX11_come_97 : decode cX11_come 97 = .ok (.iaload, 1) := by decide +kernel
theorem dX11_come_98 : decode cX11_come 98 = .ok (.iconst 4, 1) := by decide +kernel
theorem dX11_come_99 : decode cX11_come 99 = .ok (.if_icmp .ne 24, 3) := by decide +kernel
theorem dX11_come_102 : decode cX11_come 102 = .ok (.aload_n 0, 1) := by decide +kernel
theorem dX11_come_103 : decode cX11_come 103 = .ok (.iload_n 1, 1) := by decide +kernel
theorem dX11_come_104 : decode cX11_come 104 = .ok (.iconst 1, 1) := by decide +kernel
theorem dX11_come_105 : decode cX11_come 105 = .ok (.iload_n 2, 1) := by decide +kernel
theorem dX11_come_106 : decode cX11_come 106 = .ok (.invokevirtual 306, 3) := by decide +kernel
theorem dX11_come_109 : decode cX11_come 109 = .ok (.aload_n 0, 1) := by decide +kernel
theorem dX11_come_110 : decode cX11_come 110 = .ok (.aload_n 0, 1) := by decide +kernel
theorem dX11_come_111 : decode cX11_come 111 = .ok (.getfield 42, 3) := by decide +kernel
theorem dX11_come_114 : decode cX11_come 114 = .ok (.iload_n 1, 1) := by decide +kernel
theorem dX11_come_115 : decode cX11_come 115 = .ok (.iaload, 1) := by decide +kernel
theorem dX11_come_116 : decode cX11_come 116 = .ok (.iload_n 2, 1) := by decide +kernel
theorem dX11_come_117 : decode cX11_come 117 = .ok (.invokevirtual 292, 3) := by decide +kernel
theorem dX11_come_120 : decode cX11_come 120 = .ok (.goto 123, 3) := by decide +kernel
theorem dX11_come_123 : decode cX11_come 123 = .ok (.aload_n 0, 1) := by decide +kernel
theorem dX11_come_124 : decode cX11_come 124 = .ok (.getfield 24, 3) := by decide +kernel
theorem dX11_come_127 : decode cX11_come 127 = .ok (.iload_n 1, 1) := by decide +kernel
theorem dX11_come_128 : decode cX11_come 128 = .ok (.iaload, 1) := by decide +kernel
theorem dX11_come_129 : decode cX11_come 129 = .ok (.ifCond .ne 74, 3) := by decide +kernel
theorem dX11_come_132 : decode cX11_come 132 = .ok (.aload_n 0, 1) := by decide +kernel
theorem dX11_come_133 : decode cX11_come 133 = .ok (.aload_n 0, 1) := by decide +kernel
theorem dX11_come_134 : decode cX11_come 134 = .ok (.getfield 279, 3) := by decide +kernel
theorem dX11_come_137 : decode cX11_come 137 = .ok (.aload_n 0, 1) := by decide +kernel
theorem dX11_come_138 : decode cX11_come 138 = .ok (.invokevirtual 97, 3) := by decide +kernel
theorem dX11_come_141 : decode cX11_come 141 = .ok (.if_icmp .eq 24, 3) := by decide +kernel
theorem dX11_come_144 : decode cX11_come 144 = .ok (.aload_n 0, 1) := by decide +kernel
theorem dX11_come_145 : decode cX11_come 145 = .ok (.aload_n 0, 1) := by decide +kernel
theorem dX11_come_146 : decode cX11_come 146 = .ok (.getfield 27, 3) := by decide +kernel
theorem dX11_come_149 : decode cX11_come 149 = .ok (.iload_n 1, 1) := by decide +kernel
theorem dX11_come_150 : decode cX11_come 150 = .ok (.iaload, 1) := by decide +kernel
theorem dX11_come_151 : decode cX11_come 151 = .ok (.aload_n 0, 1) := by decide +kernel
theorem dX11_come_152 : decode cX11_come 152 = .ok (.getfield 326, 3) := by decide +kernel
theorem dX11_come_155 : decode cX11_come 155 = .ok (.aload_n 0, 1) := by decide +kernel
theorem dX11_come_156 : decode cX11_come 156 = .ok (.getfield 279, 3) := by decide +kernel
theorem dX11_come_159 : decode cX11_come 159 = .ok (.invokevirtual 263, 3) := by decide +kernel
theorem dX11_come_162 : decode cX11_come 162 = .ok (.ifCond .ne 7, 3) := by decide +kernel
theorem dX11_come_165 : decode cX11_come 165 = .ok (.iconst 1, 1) := by decide +kernel
theorem dX11_come_166 : decode cX11_come 166 = .ok (.goto 4, 3) := by decide +kernel
theorem dX11_come_169 : decode cX11_come 169 = .ok (.iconst 0, 1) := by decide +kernel
theorem dX11_come_170 : decode cX11_come 170 = .ok (.putfield 299, 3) := by decide +kernel
theorem dX11_come_173 : decode cX11_come 173 = .ok (.aload_n 0, 1) := by decide +kernel
theorem dX11_come_174 : decode cX11_come 174 = .ok (.dup, 1) := by decide +kernel
theorem dX11_come_175 : decode cX11_come 175 = .ok (.getfield 279, 3) := by decide +kernel
theorem dX11_come_178 : decode cX11_come 178 = .ok (.aload_n 0, 1) := by decide +kernel
theorem dX11_come_179 : decode cX11_come 179 = .ok (.getfield 299, 3) := by decide +kernel
theorem dX11_come_182 : decode cX11_come 182 = .ok (.ifCond .eq 7, 3) := by decide +kernel
theorem dX11_come_185 : decode cX11_come 185 = .ok (.iconst 0, 1) := by decide +kernel
theorem dX11_come_186 : decode cX11_come 186 = .ok (.goto 4, 3) := by decide +kernel
theorem dX11_come_189 : decode cX11_come 189 = .ok (.iconst 1, 1) := by decide +kernel
theorem dX11_come_190 : decode cX11_come 190 = .ok (.iadd, 1) := by decide +kernel
theorem dX11_come_191 : decode cX11_come 191 = .ok (.putfield 279, 3) := by decide +kernel
theorem dX11_come_194 : decode cX11_come 194 = .ok (.aload_n 0, 1) := by decide +kernel
theorem dX11_come_195 : decode cX11_come 195 = .ok (.iconst (-1), 1) := by decide +kernel
theorem dX11_come_196 : decode cX11_come 196 = .ok (.iload_n 2, 1) := by decide +kernel
theorem dX11_come_197 : decode cX11_come 197 = .ok (.invokevirtual 292, 3) := by decide +kernel
theorem dX11_come_200 : decode cX11_come 200 = .ok (.goto 43, 3) := by decide +kernel
theorem dX11_come_203 : decode cX11_come 203 = .ok (.aload_n 0, 1) := by decide +kernel
theorem dX11_come_204 : decode cX11_come 204 = .ok (.aload_n 0, 1) := by decide +kernel
theorem dX11_come_205 : decode cX11_come 205 = .ok (.getfield 279, 3) := by decide +kernel
theorem dX11_come_208 : decode cX11_come 208 = .ok (.aload_n 0, 1) := by decide +kernel
theorem dX11_come_209 : decode cX11_come 209 = .ok (.getfield 24, 3) := by decide +kernel
theorem dX11_come_212 : decode cX11_come 212 = .ok (.iload_n 1, 1) := by decide +kernel
theorem dX11_come_213 : decode cX11_come 213 = .ok (.iaload, 1) := by decide +kernel
theorem dX11_come_214 : decode cX11_come 214 = .ok (.iconst 1, 1) := by decide +kernel
theorem dX11_come_215 : decode cX11_come 215 = .ok (.if_icmp .ne 7, 3) := by decide +kernel
theorem dX11_come_218 : decode cX11_come 218 = .ok (.iconst 0, 1) := by decide +kernel
theorem dX11_come_219 : decode cX11_come 219 = .ok (.goto 7, 3) := by decide +kernel
theorem dX11_come_222 : decode cX11_come 222 = .ok (.aload_n 0, 1) := by decide +kernel
theorem dX11_come_223 : decode cX11_come 223 = .ok (.invokevirtual 97, 3) := by decide +kernel
theorem dX11_come_226 : decode cX11_come 226 = .ok (.if_icmp .eq 7, 3) := by decide +kernel
theorem dX11_come_229 : decode cX11_come 229 = .ok (.iconst 1, 1) := by decide +kernel
theorem dX11_come_230 : decode cX11_come 230 = .ok (.goto 4, 3) := by decide +kernel
theorem dX11_come_233 : decode cX11_come 233 = .ok (.iconst 0, 1) := by decide +kernel
theorem dX11_come_234 : decode cX11_come 234 = .ok (.putfield 299, 3) := by decide +kernel
theorem dX11_come_237 : decode cX11_come 237 = .ok (.aload_n 0, 1) := by decide +kernel
theorem dX11_come_238 : decode cX11_come 238 = .ok (.iconst (-1), 1) := by decide +kernel
theorem dX11_come_239 : decode cX11_come 239 = .ok (.iload_n 2, 1) := by decide +kernel
theorem dX11_come_240 : decode cX11_come 240 = .ok (.invokevirtual 292, 3) := by decide +kernel
theorem dX11_come_243 : decode cX11_come 243 = .ok (.return_, 1) := by decide +kernel
theorem dX11_goOn_0 : decode cX11_goOn 0 = .ok (.aload_n 0, 1) := by decide +kernel
theorem dX11_goOn_1 : decode cX11_goOn 1 = .ok (.getfield 69, 3) := by decide +kernel
theorem dX11_goOn_4 : decode cX11_goOn 4 = .ok (.aload_n 0, 1) := by decide +kernel
theorem dX11_goOn_5 : decode cX11_goOn 5 = .ok (.getfield 285, 3) := by decide +kernel
theorem dX11_goOn_8 : decode cX11_goOn 8 = .ok (.iaload, 1) := by decide +kernel
theorem dX11_goOn_9 : decode cX11_goOn 9 = .ok (.sipush 8192, 3) := by decide +kernel
theorem dX11_goOn_12 : decode cX11_goOn 12 = .ok (.idiv, 1) := by decide +kernel
theorem dX11_goOn_13 : decode cX11_goOn 13 = .ok (.istore_n 1, 1) := by decide +kernel
theorem dX11_goOn_14 : decode cX11_goOn 14 = .ok (.aload_n 0, 1) := by decide +kernel
theorem dX11_goOn_15 : decode cX11_goOn 15 = .ok (.getfield 69, 3) := by decide +kernel
theorem dX11_goOn_18 : decode cX11_goOn 18 = .ok (.aload_n 0, 1) := by decide +kernel
theorem dX11_goOn_19 : decode cX11_goOn 19 = .ok (.getfield 285, 3) := by decide +kernel
theorem dX11_goOn_22 : decode cX11_goOn 22 = .ok (.iaload, 1) := by decide +kernel
theorem dX11_goOn_23 : decode cX11_goOn 23 = .ok (.sipush 8192, 3) := by decide +kernel
theorem dX11_goOn_26 : decode cX11_goOn 26 = .ok (.irem, 1) := by decide +kernel
theorem dX11_goOn_27 : decode cX11_goOn 27 = .ok (.iconst 1, 1) := by decide +kernel
theorem dX11_goOn_28 : decode cX11_goOn 28 = .ok (.isub, 1) := by decide +kernel
theorem dX11_goOn_29 : decode cX11_goOn 29 = .ok (.istore_n 2, 1) := by decide +kernel
theorem dX11_goOn_30 : decode cX11_goOn 30 = .ok (.aload_n 0, 1) := by decide +kernel
theorem dX11_goOn_31 : decode cX11_goOn 31 = .ok (.getfield 66, 3) := by decide +kernel
theorem dX11_goOn_34 : decode cX11_goOn 34 = .ok (.aload_n 0, 1) := by decide +kernel
theorem dX11_goOn_35 : decode cX11_goOn 35 = .ok (.getfield 285, 3) := by decide +kernel
theorem dX11_goOn_38 : decode cX11_goOn 38 = .ok (.iaload, 1) := by decide +kernel
theorem dX11_goOn_39 : decode cX11_goOn 39 = .ok (.bipush 64, 2) := by decide +kernel
theorem dX11_goOn_41 : decode cX11_goOn 41 = .ok (.idiv, 1) := by decide +kernel
theorem dX11_goOn_42 : decode cX11_goOn 42 = .ok (.istore_n 3, 1) := by decide +kernel
theorem dX11_goOn_43 : decode cX11_goOn 43 = .ok (.aload_n 0, 1) := by decide +kernel
theorem dX11_goOn_44 : decode cX11_goOn 44 = .ok (.getfield 24, 3) := by decide +kernel
theorem dX11_goOn_47 : decode cX11_goOn 47 = .ok (.iload_n 1, 1) := by decide +kernel
theorem dX11_goOn_48 : decode cX11_goOn 48 = .ok (.iaload, 1) := by decide +kernel
theorem dX11_goOn_49 : decode cX11_goOn 49 = .ok (.iconst 5, 1) := by decide +kernel
theorem dX11_goOn_50 : decode cX11_goOn 50 = .ok (.if_icmp .ne 25, 3) := by decide +kernel
theorem dX11_goOn_53 : decode cX11_goOn 53 = .ok (.aload_n 0, 1) := by decide +kernel
theorem dX11_goOn_54 : decode cX11_goOn 54 = .ok (.iload_n 1, 1) := by decide +kernel
theorem dX11_goOn_55 : decode cX11_goOn 55 = .ok (.iload_n 3, 1) := by decide +kernel
theorem dX11_goOn_56 : decode cX11_goOn 56 = .ok (.aload_n 0, 1) := by decide +kernel
theorem dX11_goOn_57 : decode cX11_goOn 57 = .ok (.getfield 66, 3) := by decide +kernel
theorem dX11_goOn_60 : decode cX11_goOn 60 = .ok (.aload_n 0, 1) := by decide +kernel
theorem dX11_goOn_61 : decode cX11_goOn 61 = .ok (.getfield 285, 3) := by decide +kernel
theorem dX11_goOn_64 : decode cX11_goOn 64 = .ok (.iaload, 1) := by decide +kernel
theorem dX11_goOn_65 : decode cX11_goOn 65 = .ok (.bipush 64, 2) := by decide +kernel
theorem dX11_goOn_67 : decode cX11_goOn 67 = .ok (.irem, 1) := by decide +kernel
theorem dX11_goOn_68 : decode cX11_goOn 68 = .ok (.iload_n 2, 1) := by decide +kernel
theorem dX11_goOn_69 : decode cX11_goOn 69 = .ok (.invokevirtual 323, 3) := by decide +kernel
theorem dX11_goOn_72 : decode cX11_goOn 72 = .ok (.goto 68, 3) := by decide +kernel
theorem dX11_goOn_75 : decode cX11_goOn 75 = .ok (.aload_n 0, 1) := by decide +kernel
theorem dX11_goOn_76 : decode cX11_goOn 76 = .ok (.getfield 24, 3) := by decide +kernel
theorem dX11_goOn_79 : decode cX11_goOn 79 = .ok (.iload_n 1, 1) := by decide +kernel
theorem dX11_goOn_80 : decode cX11_goOn 80 = .ok (.iaload, 1) := by decide +kernel
theorem dX11_goOn_81 : decode cX11_goOn 81 = .ok (.bipush 6, 2) := by decide +kernel
theorem dX11_goOn_83 : decode cX11_goOn 83 = .ok (.if_icmp .ne 13, 3) := by decide +kernel
theorem dX11_goOn_86 : decode cX11_goOn 86 = .ok (.aload_n 0, 1) := by decide +kernel
theorem dX11_goOn_87 : decode cX11_goOn 87 = .ok (.iload_n 1, 1) := by decide +kernel
theorem dX11_goOn_88 : decode cX11_goOn 88 = .ok (.iload_n 3, 1) := by decide +kernel
theorem dX11_goOn_89 : decode cX11_goOn 89 = .ok (.iload_n 2, 1) := by decide +kernel
theorem dX11_goOn_90 : decode cX11_goOn 90 = .ok (.invokevirtual 320, 3) := by decide +kernel
theorem dX11_goOn_93 : decode cX11_goOn 93 = .ok (.goto 47, 3) := by decide +kernel
theorem dX11_goOn_96 : decode cX11_goOn 96 = .ok (.aload_n 0, 1) := by decide +kernel
theorem dX11_goOn_97 : decode cX11_goOn 97 = .ok (.iload_n 1, 1) := by decide +kernel
theorem dX11_goOn_98 : decode cX11_goOn 98 = .ok (.iload_n 3, 1) := by decide +kernel
theorem dX11_goOn_99 : decode cX11_goOn 99 = .ok (.invokevirtual 312, 3) := by decide +kernel
theorem dX11_goOn_102 : decode cX11_goOn 102 = .ok (.istore 4, 2) := by decide +kernel
theorem dX11_goOn_104 : decode cX11_goOn 104 = .ok (.iload_n 3, 1) := by decide +kernel
theorem dX11_goOn_105 : decode cX11_goOn 105 = .ok (.iconst 1, 1) := by decide +kernel
theorem dX11_goOn_106 : decode cX11_goOn 106 = .ok (.iadd, 1) := by decide +kernel
theorem dX11_goOn_107 : decode cX11_goOn 107 = .ok (.aload_n 0, 1) := by decide +kernel
theorem dX11_goOn_108 : decode cX11_goOn 108 = .ok (.getfield 39, 3) := by decide +kernel
theorem dX11_goOn_111 : decode cX11_goOn 111 = .ok (.iload_n 1, 1) := by decide +kernel
theorem dX11_goOn_112 : decode cX11_goOn 112 = .ok (.iaload, 1) := by decide +kernel
theorem dX11_goOn_113 : decode cX11_goOn 113 = .ok (.if_icmp .ge 16, 3) := by decide +kernel
theorem dX11_goOn_116 : decode cX11_goOn 116 = .ok (.aload_n 0, 1) := by decide +kernel
theorem dX11_goOn_117 : decode cX11_goOn 117 = .ok (.iload_n 1, 1) := by decide +kernel
theorem dX11_goOn_118 : decode cX11_goOn 118 = .ok (.iload_n 3, 1) := by decide +kernel
theorem dX11_goOn_119 : decode cX11_goOn 119 = .ok (.iconst 1, 1) := by decide +kernel
theorem dX11_goOn_120 : decode cX11_goOn 120 = .ok (.iadd, 1) := by decide +kernel
theorem dX11_goOn_121 : decode cX11_goOn 121 = .ok (.iconst 0, 1) := by decide +kernel
theorem dX11_goOn_122 : decode cX11_goOn 122 = .ok (.iload_n 2, 1) := by decide +kernel
theorem dX11_goOn_123 : decode cX11_goOn 123 = .ok (.invokevirtual 288, 3) := by decide +kernel
theorem dX11_goOn_126 : decode cX11_goOn 126 = .ok (.goto 4, 3) := by decide +kernel
theorem dX11_goOn_129 : decode cX11_goOn 129 = .ok (.iload_n 2, 1) := by decide +kernel
theorem dX11_goOn_130 : decode cX11_goOn 130 = .ok (.istore 5, 2) := by decide +kernel
theorem dX11_goOn_132 : decode cX11_goOn 132 = .ok (.aload_n 0, 1) := by decide +kernel
theorem dX11_goOn_133 : decode cX11_goOn 133 = .ok (.iload 4, 2) := by decide +kernel
theorem dX11_goOn_135 : decode cX11_goOn 135 = .ok (.iload 5, 2) := by decide +kernel
theorem dX11_goOn_137 : decode cX11_goOn 137 = .ok (.invokevirtual 292, 3) := by decide +kernel
theorem dX11_goOn_140 : decode cX11_goOn 140 = .ok (.return_, 1) := by decide +kernel
theorem dX11_turns_0 : decode cX11_turns 0 = .ok (.aload_n 0, 1) := by decide +kernel
theorem dX11_turns_1 : decode cX11_turns 1 = .ok (.dup, 1) := by decide +kernel
theorem dX11_turns_2 : decode cX11_turns 2 = .ok (.getfield 276, 3) := by decide +kernel
theorem dX11_turns_5 : decode cX11_turns 5 = .ok (.iconst 1, 1) := by decide +kernel
theorem dX11_turns_6 : decode cX11_turns 6 = .ok (.isub, 1) := by decide +kernel
theorem dX11_turns_7 : decode cX11_turns 7 = .ok (.putfield 276, 3) := by decide +kernel
theorem dX11_turns_10 : decode cX11_turns 10 = .ok (.aload_n 0, 1) := by decide +kernel
theorem dX11_turns_11 : decode cX11_turns 11 = .ok (.getfield 72, 3) := by decide +kernel
theorem dX11_turns_14 : decode cX11_turns 14 = .ok (.aload_n 0, 1) := by decide +kernel
theorem dX11_turns_15 : decode cX11_turns 15 = .ok (.getfield 276, 3) := by decide +kernel
theorem dX11_turns_18 : decode cX11_turns 18 = .ok (.iaload, 1) := by decide +kernel
theorem dX11_turns_19 : decode cX11_turns 19 = .ok (.istore_n 1, 1) := by decide +kernel
theorem dX11_turns_20 : decode cX11_turns 20 = .ok (.aload_n 0, 1) := by decide +kernel
theorem dX11_turns_21 : decode cX11_turns 21 = .ok (.getfield 75, 3) := by decide +kernel
theorem dX11_turns_24 : decode cX11_turns 24 = .ok (.aload_n 0, 1) := by decide +kernel
theorem dX11_turns_25 : decode cX11_turns 25 = .ok (.getfield 276, 3) := by decide +kernel
theorem dX11_turns_28 : decode cX11_turns 28 = .ok (.iaload, 1) := by decide +kernel
theorem dX11_turns_29 : decode cX11_turns 29 = .ok (.istore_n 2, 1) := by decide +kernel
theorem dX11_turns_30 : decode cX11_turns 30 = .ok (.aload_n 0, 1) := by decide +kernel
theorem dX11_turns_31 : decode cX11_turns 31 = .ok (.getfield 78, 3) := by decide +kernel
theorem dX11_turns_34 : decode cX11_turns 34 = .ok (.aload_n 0, 1) := by decide +kernel
theorem dX11_turns_35 : decode cX11_turns 35 = .ok (.getfield 276, 3) := by decide +kernel
theorem dX11_turns_38 : decode cX11_turns 38 = .ok (.iaload, 1) := by decide +kernel
theorem dX11_turns_39 : decode cX11_turns 39 = .ok (.sipush 8192, 3) := by decide +kernel
theorem dX11_turns_42 : decode cX11_turns 42 = .ok (.idiv, 1) := by decide +kernel
theorem dX11_turns_43 : decode cX11_turns 43 = .ok (.iconst 1, 1) := by decide +kernel
theorem dX11_turns_44 : decode cX11_turns 44 = .ok (.isub, 1) := by decide +kernel
theorem dX11_turns_45 : decode cX11_turns 45 = .ok (.istore_n 3, 1) := by decide +kernel
theorem dX11_turns_46 : decode cX11_turns 46 = .ok (.aload_n 0, 1) := by decide +kernel
theorem dX11_turns_47 : decode cX11_turns 47 = .ok (.aload_n 0, 1) := by decide +kernel
theorem dX11_turns_48 : decode cX11_turns 48 = .ok (.getfield 78, 3) := by decide +kernel
theorem dX11_turns_51 : decode cX11_turns 51 = .ok (.aload_n 0, 1) := by decide +kernel
theorem dX11_turns_52 : decode cX11_turns 52 = .ok (.getfield 276, 3) := by decide +kernel
theorem dX11_turns_55 : decode cX11_turns 55 = .ok (.iaload, 1) := by decide +kernel
theorem dX11_turns_56 : decode cX11_turns 56 = .ok (.sipush 8192, 3) := by decide +kernel
theorem dX11_turns_59 : decode cX11_turns 59 = .ok (.irem, 1) := by decide +kernel
theorem dX11_turns_60 : decode cX11_turns 60 = .ok (.putfield 267, 3) := by decide +kernel
theorem dX11_turns_63 : decode cX11_turns 63 = .ok (.aload_n 0, 1) := by decide +kernel
theorem dX11_turns_64 : decode cX11_turns 64 = .ok (.aload_n 0, 1) := by decide +kernel
theorem dX11_turns_65 : decode cX11_turns 65 = .ok (.getfield 81, 3) := by decide +kernel
theorem dX11_turns_68 : decode cX11_turns 68 = .ok (.aload_n 0, 1) := by decide +kernel
theorem dX11_turns_69 : decode cX11_turns 69 = .ok (.getfield 276, 3) := by decide +kernel
theorem dX11_turns_72 : decode cX11_turns 72 = .ok (.iaload, 1) := by decide +kernel
theorem dX11_turns_73 : decode cX11_turns 73 = .ok (.putfield 279, 3) := by decide +kernel
theorem dX11_turns_76 : decode cX11_turns 76 = .ok (.aload_n 0, 1) := by decide +kernel
theorem dX11_turns_77 : decode cX11_turns 77 = .ok (.iconst 0, 1) := by decide +kernel
theorem dX11_turns_78 : decode cX11_turns 78 = .ok (.putfield 299, 3) := by decide +kernel
theorem dX11_turns_81 : decode cX11_turns 81 = .ok (.aload_n 0, 1) := by decide +kernel
theorem dX11_turns_82 : decode cX11_turns 82 = .ok (.getfield 24, 3) := by decide +kernel
theorem dX11_turns_85 : decode cX11_turns 85 = .ok (.iload_n 1, 1) := by decide +kernel
theorem dX11_turns_86 : decode cX11_turns 86 = .ok (.iaload, 1) := by decide +kernel
theorem dX11_turns_87 : decode cX11_turns 87 = .ok (.iconst 4, 1) := by decide +kernel
theorem dX11_turns_88 : decode cX11_turns 88 = .ok (.if_icmp .ne 38, 3) := by decide +kernel
theorem dX11_turns_91 : decode cX11_turns 91 = .ok (.iload_n 2, 1) := by decide +kernel
theorem dX11_turns_92 : decode cX11_turns 92 = .ok (.iconst 1, 1) := by decide +kernel
theorem dX11_turns_93 : decode cX11_turns 93 = .ok (.iadd, 1) := by decide +kernel
theorem dX11_turns_94 : decode cX11_turns 94 = .ok (.aload_n 0, 1) := by decide +kernel
theorem dX11_turns_95 : decode cX11_turns 95 = .ok (.getfield 39, 3) := by decide +kernel
theorem dX11_turns_98 : decode cX11_turns 98 = .ok (.iload_n 1, 1) := by decide +kernel
theorem dX11_turns_99 : decode cX11_turns 99 = .ok (.iaload, 1) := by decide +kernel
theorem dX11_turns_100 : decode cX11_turns 100 = .ok (.if_icmp .ge 12, 3) := by decide +kernel
theorem dX11_turns_103 : decode cX11_turns 103 = .ok (.aload_n 0, 1) := by decide +kernel
theorem dX11_turns_104 : decode cX11_turns 104 = .ok (.iload_n 1, 1) := by decide +kernel
theorem dX11_turns_105 : decode cX11_turns 105 = .ok (.iload_n 2, 1) := by decide +kernel
theorem dX11_turns_106 : decode cX11_turns 106 = .ok (.iconst 1, 1) := by decide +kernel
theorem dX11_turns_107 : decode cX11_turns 107 = .ok (.iadd, 1) := by decide +kernel
theorem dX11_turns_108 : decode cX11_turns 108 = .ok (.iload_n 3, 1) := by decide +kernel
theorem dX11_turns_109 : decode cX11_turns 109 = .ok (.invokevirtual 306, 3) := by decide +kernel
theorem dX11_turns_112 : decode cX11_turns 112 = .ok (.aload_n 0, 1) := by decide +kernel
theorem dX11_turns_113 : decode cX11_turns 113 = .ok (.aload_n 0, 1) := by decide +kernel
theorem dX11_turns_114 : decode cX11_turns 114 = .ok (.iload_n 1, 1) := by decide +kernel
theorem dX11_turns_115 : decode cX11_turns 115 = .ok (.iload_n 2, 1) := by decide +kernel
theorem dX11_turns_116 : decode cX11_turns 116 = .ok (.invokevirtual 312, 3) := by decide +kernel
theorem dX11_turns_119 : decode cX11_turns 119 = .ok (.iload_n 3, 1) := by decide +kernel
theorem dX11_turns_120 : decode cX11_turns 120 = .ok (.invokevirtual 292, 3) := by decide +kernel
theorem dX11_turns_123 : decode cX11_turns 123 = .ok (.goto 57, 3) := by decide +kernel
theorem dX11_turns_126 : decode cX11_turns 126 = .ok (.aload_n 0, 1) := by decide +kernel
theorem dX11_turns_127 : decode cX11_turns 127 = .ok (.getfield 24, 3) := by decide +kernel
theorem dX11_turns_130 : decode cX11_turns 130 = .ok (.iload_n 1, 1) := by decide +kernel
theorem dX11_turns_131 : decode cX11_turns 131 = .ok (.iaload, 1) := by decide +kernel
theorem dX11_turns_132 : decode cX11_turns 132 = .ok (.bipush 6, 2) := by decide +kernel
theorem dX11_turns_134 : decode cX11_turns 134 = .ok (.if_icmp .ne 20, 3) := by decide +kernel
theorem dX11_turns_137 : decode cX11_turns 137 = .ok (.aload_n 0, 1) := by decide +kernel
theorem dX11_turns_138 : decode cX11_turns 138 = .ok (.iload_n 1, 1) := by decide +kernel
theorem dX11_turns_139 : decode cX11_turns 139 = .ok (.iload_n 2, 1) := by decide +kernel
theorem dX11_turns_140 : decode cX11_turns 140 = .ok (.bipush 8, 2) := by decide +kernel
theorem dX11_turns_142 : decode cX11_turns 142 = .ok (.idiv, 1) := by decide +kernel
theorem dX11_turns_143 : decode cX11_turns 143 = .ok (.iload_n 2, 1) := by decide +kernel
theorem dX11_turns_144 : decode cX11_turns 144 = .ok (.bipush 8, 2) := by decide +kernel
theorem dX11_turns_146 : decode cX11_turns 146 = .ok (.irem, 1) := by decide +kernel
theorem dX11_turns_147 : decode cX11_turns 147 = .ok (.iload_n 3, 1) := by decide +kernel
theorem dX11_turns_148 : decode cX11_turns 148 = .ok (.invokevirtual 316, 3) := by decide +kernel
theorem dX11_turns_151 : decode cX11_turns 151 = .ok (.goto 29, 3) := by decide +kernel
theorem dX11_turns_154 : decode cX11_turns 154 = .ok (.aload_n 0, 1) := by decide +kernel
theorem dX11_turns_155 : decode cX11_turns 155 = .ok (.getfield 36, 3) := by decide +kernel
theorem dX11_turns_158 : decode cX11_turns 158 = .ok (.iload_n 1, 1) := by decide +kernel
theorem dX11_turns_159 : decode cX11_turns 159 = .ok (.iaload, 1) := by decide +kernel
theorem dX11_turns_160 : decode cX11_turns 160 = .ok (.iconst 1, 1) := by decide +kernel
theorem dX11_turns_161 : decode cX11_turns 161 = .ok (.if_icmp .ne 12, 3) := by decide +kernel
theorem dX11_turns_164 : decode cX11_turns 164 = .ok (.aload_n 0, 1) := by decide +kernel
theorem dX11_turns_165 : decode cX11_turns 165 = .ok (.iconst (-1), 1) := by decide +kernel
theorem dX11_turns_166 : decode cX11_turns 166 = .ok (.iload_n 3, 1) := by decide +kernel
theorem dX11_turns_167 : decode cX11_turns 167 = .ok (.invokevirtual 292, 3) := by decide +kernel
theorem dX11_turns_170 : decode cX11_turns 170 = .ok (.goto 10, 3) := by decide +kernel
theorem dX11_turns_173 : decode cX11_turns 173 = .ok (.aload_n 0, 1) := by decide +kernel
theorem dX11_turns_174 : decode cX11_turns 174 = .ok (.iload_n 1, 1) := by decide +kernel
theorem dX11_turns_175 : decode cX11_turns 175 = .ok (.iload_n 2, 1) := by decide +kernel
theorem dX11_turns_176 : decode cX11_turns 176 = .ok (.iload_n 3, 1) := by decide +kernel
theorem dX11_turns_177 : decode cX11_turns 177 = .ok (.invokevirtual 302, 3) := by decide +kernel
theorem dX11_turns_180 : decode cX11_turns 180 = .ok (.return_, 1) := by decide +kernel
theorem dX11_search_0 : decode cX11_search 0 = .ok (.aload_n 0, 1) := by decide +kernel
theorem dX11_search_1 : decode cX11_search 1 = .ok (.invokevirtual 195, 3) := by decide +kernel
theorem dX11_search_4 : decode cX11_search 4 = .ok (.pop, 1) := by decide +kernel
theorem dX11_search_5 : decode cX11_search 5 = .ok (.aload_n 0, 1) := by decide +kernel
theorem dX11_search_6 : decode cX11_search 6 = .ok (.iconst 0, 1) := by decide +kernel
theorem dX11_search_7 : decode cX11_search 7 = .ok (.putfield 267, 3) := by decide +kernel
theorem dX11_search_10 : decode cX11_search 10 = .ok (.aload_n 0, 1) := by decide +kernel
theorem dX11_search_11 : decode cX11_search 11 = .ok (.iconst 0, 1) := by decide +kernel
theorem dX11_search_12 : decode cX11_search 12 = .ok (.putfield 276, 3) := by decide +kernel
theorem dX11_search_15 : decode cX11_search 15 = .ok (.aload_n 0, 1) := by decide +kernel
theorem dX11_search_16 : decode cX11_search 16 = .ok (.iconst 0, 1) := by decide +kernel
theorem dX11_search_17 : decode cX11_search 17 = .ok (.putfield 270, 3) := by decide +kernel
theorem dX11_search_20 : decode cX11_search 20 = .ok (.aload_n 0, 1) := by decide +kernel
theorem dX11_search_21 : decode cX11_search 21 = .ok (.iload_n 1, 1) := by decide +kernel
theorem dX11_search_22 : decode cX11_search 22 = .ok (.putfield 279, 3) := by decide +kernel
theorem dX11_search_25 : decode cX11_search 25 = .ok (.aload_n 0, 1) := by decide +kernel
theorem dX11_search_26 : decode cX11_search 26 = .ok (.iload_n 1, 1) := by decide +kernel
theorem dX11_search_27 : decode cX11_search 27 = .ok (.putfield 326, 3) := by decide +kernel
theorem dX11_search_30 : decode cX11_search 30 = .ok (.aload_n 0, 1) := by decide +kernel
theorem dX11_search_31 : decode cX11_search 31 = .ok (.iconst 0, 1) := by decide +kernel
theorem dX11_search_32 : decode cX11_search 32 = .ok (.putfield 329, 3) := by decide +kernel
theorem dX11_search_35 : decode cX11_search 35 = .ok (.aload_n 0, 1) := by decide +kernel
theorem dX11_search_36 : decode cX11_search 36 = .ok (.bipush (-5), 2) := by decide +kernel
theorem dX11_search_38 : decode cX11_search 38 = .ok (.putfield 332, 3) := by decide +kernel
theorem dX11_search_41 : decode cX11_search 41 = .ok (.aload_n 0, 1) := by decide +kernel
theorem dX11_search_42 : decode cX11_search 42 = .ok (.bipush (-5), 2) := by decide +kernel
theorem dX11_search_44 : decode cX11_search 44 = .ok (.putfield 335, 3) := by decide +kernel
theorem dX11_search_47 : decode cX11_search 47 = .ok (.aload_n 0, 1) := by decide +kernel
theorem dX11_search_48 : decode cX11_search 48 = .ok (.iconst 0, 1) := by decide +kernel
theorem dX11_search_49 : decode cX11_search 49 = .ok (.putfield 273, 3) := by decide +kernel
theorem dX11_search_52 : decode cX11_search 52 = .ok (.aload_n 0, 1) := by decide +kernel
theorem dX11_search_53 : decode cX11_search 53 = .ok (.iconst 0, 1) := by decide +kernel
theorem dX11_search_54 : decode cX11_search 54 = .ok (.putfield 299, 3) := by decide +kernel
theorem dX11_search_57 : decode cX11_search 57 = .ok (.iconst 0, 1) := by decide +kernel
theorem dX11_search_58 : decode cX11_search 58 = .ok (.istore_n 3, 1) := by decide +kernel
theorem dX11_search_59 : decode cX11_search 59 = .ok (.iconst 0, 1) := by decide +kernel
theorem dX11_search_60 : decode cX11_search 60 = .ok (.istore 4, 2) := by decide +kernel
theorem dX11_search_62 : decode cX11_search 62 = .ok (.aload_n 0, 1) := by decide +kernel
theorem dX11_search_63 : decode cX11_search 63 = .ok (.aload_n 0, 1) := by decide +kernel
theorem dX11_search_64 : decode cX11_search 64 = .ok (.getfield 139, 3) := by decide +kernel
theorem dX11_search_67 : decode cX11_search 67 = .ok (.iconst 1, 1) := by decide +kernel
theorem dX11_search_68 : decode cX11_search 68 = .ok (.isub, 1) := by decide +kernel
theorem dX11_search_69 : decode cX11_search 69 = .ok (.iconst (-1), 1) := by decide +kernel
theorem dX11_search_70 : decode cX11_search 70 = .ok (.invokevirtual 292, 3) := by decide +kernel
theorem dX11_search_73 : decode cX11_search 73 = .ok (.iload 4, 2) := by decide +kernel
theorem dX11_search_75 : decode cX11_search 75 = .ok (.ifCond .ne 169, 3) := by decide +kernel
theorem dX11_search_78 : decode cX11_search 78 = .ok (.aload_n 0, 1) := by decide +kernel
theorem dX11_search_79 : decode cX11_search 79 = .ok (.getfield 273, 3) := by decide +kernel
theorem dX11_search_82 : decode cX11_search 82 = .ok (.ifCond .ne 162, 3) := by decide +kernel
theorem dX11_search_85 : decode cX11_search 85 = .ok (.aload_n 0, 1) := by decide +kernel
theorem dX11_search_86 : decode cX11_search 86 = .ok (.getfield 299, 3) := by decide +kernel
theorem dX11_search_89 : decode cX11_search 89 = .ok (.ifCond .eq 29, 3) := by decide +kernel
theorem dX11_search_92 : decode cX11_search 92 = .ok (.aload_n 0, 1) := by decide +kernel
theorem dX11_search_93 : decode cX11_search 93 = .ok (.getfield 276, 3) := by decide +kernel
theorem dX11_search_96 : decode cX11_search 96 = .ok (.ifCond .ne 7, 3) := by decide +kernel
theorem dX11_search_99 : decode cX11_search 99 = .ok (.iconst 1, 1) := by decide +kernel
theorem dX11_search_100 : decode cX11_search 100 = .ok (.goto 4, 3) := by decide +kernel
theorem dX11_search_103 : decode cX11_search 103 = .ok (.iconst 0, 1) := by decide +kernel
theorem dX11_search_104 : decode cX11_search 104 = .ok (.istore 4, 2) := by decide +kernel
theorem dX11_search_106 : decode cX11_search 106 = .ok (.iload 4, 2) := by decide +kernel
theorem dX11_search_108 : decode cX11_search 108 = .ok (.ifCond .ne (-35), 3) := by decide +kernel
theorem dX11_search_111 : decode cX11_search 111 = .ok (.aload_n 0, 1) := by decide +kernel
theorem dX11_search_112 : decode cX11_search 112 = .ok (.invokevirtual 338, 3) := by decide +kernel
theorem dX11_search_115 : decode cX11_search 115 = .ok (.goto (-42), 3) := by decide +kernel
theorem dX11_search_118 : decode cX11_search 118 = .ok (.aload_n 0, 1) := by decide +kernel
theorem dX11_search_119 : decode cX11_search 119 = .ok (.getfield 282, 3) := by decide +kernel
theorem dX11_search_122 : decode cX11_search 122 = .ok (.ifCond .lt 10, 3) := by decide +kernel
theorem dX11_search_125 : decode cX11_search 125 = .ok (.aload_n 0, 1) := by decide +kernel
theorem dX11_search_126 : decode cX11_search 126 = .ok (.invokevirtual 341, 3) := by decide +kernel
theorem dX11_search_129 : decode cX11_search 129 = .ok (.goto (-56), 3) := by decide +kernel
theorem dX11_search_132 : decode cX11_search 132 = .ok (.aload_n 0, 1) := by decide +kernel
theorem dX11_search_133 : decode cX11_search 133 = .ok (.getfield 285, 3) := by decide +kernel
theorem dX11_search_136 : decode cX11_search 136 = .ok (.ifCond .lt 10, 3) := by decide +kernel
theorem dX11_search_139 : decode cX11_search 139 = .ok (.aload_n 0, 1) := by decide +kernel
theorem dX11_search_140 : decode cX11_search 140 = .ok (.invokevirtual 344, 3) := by decide +kernel
theorem dX11_search_143 : decode cX11_search 143 = .ok (.goto (-70), 3) := by decide +kernel
theorem dX11_search_146 : decode cX11_search 146 = .ok (.aload_n 0, 1) := by decide +kernel
theorem dX11_search_147 : decode cX11_search 147 = .ok (.dup, 1) := by decide +kernel
theorem dX11_search_148 : decode cX11_search 148 = .ok (.getfield 329, 3) := by decide +kernel
theorem dX11_search_151 : decode cX11_search 151 = .ok (.iconst 1, 1) := by decide +kernel
theorem dX11_search_152 : decode cX11_search 152 = .ok (.iadd, 1) := by decide +kernel
theorem dX11_search_153 : decode cX11_search 153 = .ok (.putfield 329, 3) := by decide +kernel
theorem dX11_search_156 : decode cX11_search 156 = .ok (.aload_n 0, 1) := by decide +kernel
theorem dX11_search_157 : decode cX11_search 157 = .ok (.aload_n 0, 1) := by decide +kernel
theorem dX11_search_158 : decode cX11_search 158 = .ok (.getfield 332, 3) := by decide +kernel
theorem dX11_search_161 : decode cX11_search 161 = .ok (.ifCond .ge 12, 3) := by decide +kernel
theorem dX11_search_164 : decode cX11_search 164 = .ok (.aload_n 0, 1) := by decide +kernel
theorem dX11_search_165 : decode cX11_search 165 = .ok (.getfield 279, 3) := by decide +kernel
theorem dX11_search_168 : decode cX11_search 168 = .ok (.iload_n 1, 1) := by decide +kernel
theorem dX11_search_169 : decode cX11_search 169 = .ok (.isub, 1) := by decide +kernel
theorem dX11_search_170 : decode cX11_search 170 = .ok (.goto 16, 3) := by decide +kernel
theorem dX11_search_173 : decode cX11_search 173 = .ok (.aload_n 0, 1) := by decide +kernel
theorem dX11_search_174 : decode cX11_search 174 = .ok (.getfield 332, 3) := by decide +kernel
theorem dX11_search_177 : decode cX11_search 177 = .ok (.aload_n 0, 1) := by decide +kernel
theorem dX11_search_178 : decode cX11_search 178 = .ok (.getfield 279, 3) := by decide +kernel
theorem dX11_search_181 : decode cX11_search 181 = .ok (.iload_n 1, 1) := by decide +kernel
theorem dX11_search_182 : decode cX11_search 182 = .ok (.isub, 1) := by decide +kernel
theorem dX11_search_183 : decode cX11_search 183 = .ok (.invokestatic 347, 3) := by decide +kernel
theorem dX11_search_186 : decode cX11_search 186 = .ok (.putfield 332, 3) := by decide +kernel
theorem dX11_search_189 : decode cX11_search 189 = .ok (.aload_n 0, 1) := by decide +kernel
theorem dX11_search_190 : decode cX11_search 190 = .ok (.aload_n 0, 1) := by decide +kernel
theorem dX11_search_191 : decode cX11_search 191 = .ok (.getfield 335, 3) := by decide +kernel
theorem dX11_search_194 : decode cX11_search 194 = .ok (.aload_n 0, 1) := by decide +kernel
theorem dX11_search_195 : decode cX11_search 195 = .ok (.getfield 279, 3) := by decide +kernel
theorem dX11_search_198 : decode cX11_search 198 = .ok (.iload_n 1, 1) := by decide +kernel
theorem dX11_search_199 : decode cX11_search 199 = .ok (.isub, 1) := by decide +kernel
theorem dX11_search_200 : decode cX11_search 200 = .ok (.invokestatic 352, 3) := by decide +kernel
theorem dX11_search_203 : decode cX11_search 203 = .ok (.putfield 335, 3) := by decide +kernel
theorem dX11_search_206 : decode cX11_search 206 = .ok (.iload_n 2, 1) := by decide +kernel
theorem dX11_search_207 : decode cX11_search 207 = .ok (.iconst (-1), 1) := by decide +kernel
theorem dX11_search_208 : decode cX11_search 208 = .ok (.if_icmp .eq 11, 3) := by decide +kernel
theorem dX11_search_211 : decode cX11_search 211 = .ok (.aload_n 0, 1) := by decide +kernel
theorem dX11_search_212 : decode cX11_search 212 = .ok (.getfield 279, 3) := by decide +kernel
theorem dX11_search_215 : decode cX11_search 215 = .ok (.iload_n 2, 1) := by decide +kernel
theorem dX11_search_216 : decode cX11_search 216 = .ok (.if_icmp .ne 7, 3) := by decide +kernel
theorem dX11_search_219 : decode cX11_search 219 = .ok (.iconst 1, 1) := by decide +kernel
theorem dX11_search_220 : decode cX11_search 220 = .ok (.goto 4, 3) := by decide +kernel
theorem dX11_search_223 : decode cX11_search 223 = .ok (.iconst 0, 1) := by decide +kernel
theorem dX11_search_224 : decode cX11_search 224 = .ok (.istore_n 3, 1) := by decide +kernel
theorem dX11_search_225 : decode cX11_search 225 = .ok (.iload_n 3, 1) := by decide +kernel
theorem dX11_search_226 : decode cX11_search 226 = .ok (.istore 4, 2) := by decide +kernel
theorem dX11_search_228 : decode cX11_search 228 = .ok (.aload_n 0, 1) := by decide +kernel
theorem dX11_search_229 : decode cX11_search 229 = .ok (.iload_n 3, 1) := by decide +kernel
theorem dX11_search_230 : decode cX11_search 230 = .ok (.ifCond .ne 7, 3) := by decide +kernel
theorem dX11_search_233 : decode cX11_search 233 = .ok (.iconst 1, 1) := by decide +kernel
theorem dX11_search_234 : decode cX11_search 234 = .ok (.goto 4, 3) := by decide +kernel
theorem dX11_search_237 : decode cX11_search 237 = .ok (.iconst 0, 1) := by decide +kernel
theorem dX11_search_238 : decode cX11_search 238 = .ok (.putfield 299, 3) := by decide +kernel
theorem dX11_search_241 : decode cX11_search 241 = .ok (.goto (-168), 3) := by decide +kernel
theorem dX11_search_244 : decode cX11_search 244 = .ok (.iload_n 3, 1) := by decide +kernel
theorem dX11_search_245 : decode cX11_search 245 = .ok (.ireturn, 1) := by decide +kernel
theorem dX11_wrong_0 : decode cX11_wrong 0 = .ok (.iload_n 1, 1) := by decide +kernel
theorem dX11_wrong_1 : decode cX11_wrong 1 = .ok (.i2l, 1) := by decide +kernel
theorem dX11_wrong_2 : decode cX11_wrong 2 = .ok (.lconst 0, 1) := by decide +kernel
theorem dX11_wrong_3 : decode cX11_wrong 3 = .ok (.aload_n 0, 1) := by decide +kernel
theorem dX11_wrong_4 : decode cX11_wrong 4 = .ok (.invokevirtual 97, 3) := by decide +kernel
theorem dX11_wrong_7 : decode cX11_wrong 7 = .ok (.i2l, 1) := by decide +kernel
theorem dX11_wrong_8 : decode cX11_wrong 8 = .ok (.invokestatic 101, 3) := by decide +kernel
theorem dX11_wrong_11 : decode cX11_wrong 11 = .ok (.ifCond .ne 7, 3) := by decide +kernel
theorem dX11_wrong_14 : decode cX11_wrong 14 = .ok (.iconst (-1), 1) := by decide +kernel
theorem dX11_wrong_15 : decode cX11_wrong 15 = .ok (.goto 19, 3) := by decide +kernel
theorem dX11_wrong_18 : decode cX11_wrong 18 = .ok (.aload_n 0, 1) := by decide +kernel
theorem dX11_wrong_19 : decode cX11_wrong 19 = .ok (.getfield 9, 3) := by decide +kernel
theorem dX11_wrong_22 : decode cX11_wrong 22 = .ok (.bipush 65, 2) := by decide +kernel
theorem dX11_wrong_24 : decode cX11_wrong 24 = .ok (.iaload, 1) := by decide +kernel
theorem dX11_wrong_25 : decode cX11_wrong 25 = .ok (.ifCond .ne 8, 3) := by decide +kernel
theorem dX11_wrong_28 : decode cX11_wrong 28 = .ok (.bipush (-3), 2) := by decide +kernel
theorem dX11_wrong_30 : decode cX11_wrong 30 = .ok (.goto 4, 3) := by decide +kernel
theorem dX11_wrong_33 : decode cX11_wrong 33 = .ok (.iconst 0, 1) := by decide +kernel
theorem dX11_wrong_34 : decode cX11_wrong 34 = .ok (.ireturn, 1) := by decide +kernel
theorem dX11_first_0 : decode cX11_first 0 = .ok (.aload_n 0, 1) := by decide +kernel
theorem dX11_first_1 : decode cX11_first 1 = .ok (.iload_n 1, 1) := by decide +kernel
theorem dX11_first_2 : decode cX11_first 2 = .ok (.invokevirtual 355, 3) := by decide +kernel
theorem dX11_first_5 : decode cX11_first 5 = .ok (.istore_n 2, 1) := by decide +kernel
theorem dX11_first_6 : decode cX11_first 6 = .ok (.iload_n 2, 1) := by decide +kernel
theorem dX11_first_7 : decode cX11_first 7 = .ok (.ifCond .eq 5, 3) := by decide +kernel
theorem dX11_first_10 : decode cX11_first 10 = .ok (.iload_n 2, 1) := by decide +kernel
theorem dX11_first_11 : decode cX11_first 11 = .ok (.ireturn, 1) := by decide +kernel
theorem dX11_first_12 : decode cX11_first 12 = .ok (.aload_n 0, 1) := by decide +kernel
theorem dX11_first_13 : decode cX11_first 13 = .ok (.iload_n 1, 1) := by decide +kernel
theorem dX11_first_14 : decode cX11_first 14 = .ok (.iconst (-1), 1) := by decide +kernel
theorem dX11_first_15 : decode cX11_first 15 = .ok (.invokevirtual 358, 3) := by decide +kernel
theorem dX11_first_18 : decode cX11_first 18 = .ok (.istore_n 3, 1) := by decide +kernel
theorem dX11_first_19 : decode cX11_first 19 = .ok (.aload_n 0, 1) := by decide +kernel
theorem dX11_first_20 : decode cX11_first 20 = .ok (.getfield 273, 3) := by decide +kernel
theorem dX11_first_23 : decode cX11_first 23 = .ok (.ifCond .eq 8, 3) := by decide +kernel
theorem dX11_first_26 : decode cX11_first 26 = .ok (.bipush (-7), 2) := by decide +kernel
theorem dX11_first_28 : decode cX11_first 28 = .ok (.goto 18, 3) := by decide +kernel
theorem dX11_first_31 : decode cX11_first 31 = .ok (.iload_n 3, 1) := by decide +kernel
theorem dX11_first_32 : decode cX11_first 32 = .ok (.ifCond .eq 12, 3) := by decide +kernel
theorem dX11_first_35 : decode cX11_first 35 = .ok (.aload_n 0, 1) := by decide +kernel
theorem dX11_first_36 : decode cX11_first 36 = .ok (.getfield 279, 3) := by decide +kernel
theorem dX11_first_39 : decode cX11_first 39 = .ok (.iload_n 1, 1) := by decide +kernel
theorem dX11_first_40 : decode cX11_first 40 = .ok (.isub, 1) := by decide +kernel
theorem dX11_first_41 : decode cX11_first 41 = .ok (.goto 5, 3) := by decide +kernel
theorem dX11_first_44 : decode cX11_first 44 = .ok (.bipush (-5), 2) := by decide +kernel
theorem dX11_first_46 : decode cX11_first 46 = .ok (.ireturn, 1) := by decide +kernel
theorem dX11_tries_0 : decode cX11_tries 0 = .ok (.aload_n 0, 1) := by decide +kernel
theorem dX11_tries_1 : decode cX11_tries 1 = .ok (.iload_n 1, 1) := by decide +kernel
theorem dX11_tries_2 : decode cX11_tries 2 = .ok (.invokevirtual 355, 3) := by decide +kernel
theorem dX11_tries_5 : decode cX11_tries 5 = .ok (.istore_n 2, 1) := by decide +kernel
theorem dX11_tries_6 : decode cX11_tries 6 = .ok (.iload_n 2, 1) := by decide +kernel
theorem dX11_tries_7 : decode cX11_tries 7 = .ok (.ifCond .eq 5, 3) := by decide +kernel
theorem dX11_tries_10 : decode cX11_tries 10 = .ok (.iload_n 2, 1) := by decide +kernel
theorem dX11_tries_11 : decode cX11_tries 11 = .ok (.ireturn, 1) := by decide +kernel
theorem dX11_tries_12 : decode cX11_tries 12 = .ok (.aload_n 0, 1) := by decide +kernel
theorem dX11_tries_13 : decode cX11_tries 13 = .ok (.iload_n 1, 1) := by decide +kernel
theorem dX11_tries_14 : decode cX11_tries 14 = .ok (.iconst (-1), 1) := by decide +kernel
theorem dX11_tries_15 : decode cX11_tries 15 = .ok (.invokevirtual 358, 3) := by decide +kernel
theorem dX11_tries_18 : decode cX11_tries 18 = .ok (.pop, 1) := by decide +kernel
theorem dX11_tries_19 : decode cX11_tries 19 = .ok (.aload_n 0, 1) := by decide +kernel
theorem dX11_tries_20 : decode cX11_tries 20 = .ok (.getfield 273, 3) := by decide +kernel
theorem dX11_tries_23 : decode cX11_tries 23 = .ok (.ifCond .eq 8, 3) := by decide +kernel
theorem dX11_tries_26 : decode cX11_tries 26 = .ok (.bipush (-7), 2) := by decide +kernel
theorem dX11_tries_28 : decode cX11_tries 28 = .ok (.goto 7, 3) := by decide +kernel
theorem dX11_tries_31 : decode cX11_tries 31 = .ok (.aload_n 0, 1) := by decide +kernel
theorem dX11_tries_32 : decode cX11_tries 32 = .ok (.getfield 270, 3) := by decide +kernel
theorem dX11_tries_35 : decode cX11_tries 35 = .ok (.ireturn, 1) := by decide +kernel
theorem dX11_way_0 : decode cX11_way 0 = .ok (.aload_n 0, 1) := by decide +kernel
theorem dX11_way_1 : decode cX11_way 1 = .ok (.iload_n 1, 1) := by decide +kernel
theorem dX11_way_2 : decode cX11_way 2 = .ok (.invokevirtual 355, 3) := by decide +kernel
theorem dX11_way_5 : decode cX11_way 5 = .ok (.istore_n 3, 1) := by decide +kernel
theorem dX11_way_6 : decode cX11_way 6 = .ok (.iload_n 3, 1) := by decide +kernel
theorem dX11_way_7 : decode cX11_way 7 = .ok (.ifCond .eq 5, 3) := by decide +kernel
theorem dX11_way_10 : decode cX11_way 10 = .ok (.iload_n 3, 1) := by decide +kernel
theorem dX11_way_11 : decode cX11_way 11 = .ok (.ireturn, 1) := by decide +kernel
theorem dX11_way_12 : decode cX11_way 12 = .ok (.aload_n 0, 1) := by decide +kernel
theorem dX11_way_13 : decode cX11_way 13 = .ok (.iload_n 1, 1) := by decide +kernel
theorem dX11_way_14 : decode cX11_way 14 = .ok (.iconst (-1), 1) := by decide +kernel
theorem dX11_way_15 : decode cX11_way 15 = .ok (.invokevirtual 358, 3) := by decide +kernel
theorem dX11_way_18 : decode cX11_way 18 = .ok (.istore 4, 2) := by decide +kernel
theorem dX11_way_20 : decode cX11_way 20 = .ok (.aload_n 0, 1) := by decide +kernel
theorem dX11_way_21 : decode cX11_way 21 = .ok (.getfield 273, 3) := by decide +kernel
theorem dX11_way_24 : decode cX11_way 24 = .ok (.ifCond .eq 8, 3) := by decide +kernel
theorem dX11_way_27 : decode cX11_way 27 = .ok (.bipush (-7), 2) := by decide +kernel
theorem dX11_way_29 : decode cX11_way 29 = .ok (.goto 39, 3) := by decide +kernel
theorem dX11_way_32 : decode cX11_way 32 = .ok (.iload 4, 2) := by decide +kernel
theorem dX11_way_34 : decode cX11_way 34 = .ok (.ifCond .eq 32, 3) := by decide +kernel
theorem dX11_way_37 : decode cX11_way 37 = .ok (.iload_n 2, 1) := by decide +kernel
theorem dX11_way_38 : decode cX11_way 38 = .ok (.i2l, 1) := by decide +kernel
theorem dX11_way_39 : decode cX11_way 39 = .ok (.lconst 0, 1) := by decide +kernel
theorem dX11_way_40 : decode cX11_way 40 = .ok (.aload_n 0, 1) := by decide +kernel
theorem dX11_way_41 : decode cX11_way 41 = .ok (.getfield 279, 3) := by decide +kernel
theorem dX11_way_44 : decode cX11_way 44 = .ok (.iload_n 1, 1) := by decide +kernel
theorem dX11_way_45 : decode cX11_way 45 = .ok (.isub, 1) := by decide +kernel
theorem dX11_way_46 : decode cX11_way 46 = .ok (.iconst 1, 1) := by decide +kernel
theorem dX11_way_47 : decode cX11_way 47 = .ok (.isub, 1) := by decide +kernel
theorem dX11_way_48 : decode cX11_way 48 = .ok (.i2l, 1) := by decide +kernel
theorem dX11_way_49 : decode cX11_way 49 = .ok (.invokestatic 101, 3) := by decide +kernel
theorem dX11_way_52 : decode cX11_way 52 = .ok (.ifCond .eq 14, 3) := by decide +kernel
theorem dX11_way_55 : decode cX11_way 55 = .ok (.aload_n 0, 1) := by decide +kernel
theorem dX11_way_56 : decode cX11_way 56 = .ok (.getfield 54, 3) := by decide +kernel
theorem dX11_way_59 : decode cX11_way 59 = .ok (.iload_n 1, 1) := by decide +kernel
theorem dX11_way_60 : decode cX11_way 60 = .ok (.iload_n 2, 1) := by decide +kernel
theorem dX11_way_61 : decode cX11_way 61 = .ok (.iadd, 1) := by decide +kernel
theorem dX11_way_62 : decode cX11_way 62 = .ok (.iaload, 1) := by decide +kernel
theorem dX11_way_63 : decode cX11_way 63 = .ok (.goto 5, 3) := by decide +kernel
theorem dX11_way_66 : decode cX11_way 66 = .ok (.bipush (-5), 2) := by decide +kernel
theorem dX11_way_68 : decode cX11_way 68 = .ok (.ireturn, 1) := by decide +kernel
theorem dX11_ways_0 : decode cX11_ways 0 = .ok (.aload_n 0, 1) := by decide +kernel
theorem dX11_ways_1 : decode cX11_ways 1 = .ok (.iload_n 1, 1) := by decide +kernel
theorem dX11_ways_2 : decode cX11_ways 2 = .ok (.invokevirtual 355, 3) := by decide +kernel
theorem dX11_ways_5 : decode cX11_ways 5 = .ok (.istore_n 2, 1) := by decide +kernel
theorem dX11_ways_6 : decode cX11_ways 6 = .ok (.iload_n 2, 1) := by decide +kernel
theorem dX11_ways_7 : decode cX11_ways 7 = .ok (.ifCond .eq 5, 3) := by decide +kernel
theorem dX11_ways_10 : decode cX11_ways 10 = .ok (.iload_n 2, 1) := by decide +kernel
theorem dX11_ways_11 : decode cX11_ways 11 = .ok (.ireturn, 1) := by decide +kernel
theorem dX11_ways_12 : decode cX11_ways 12 = .ok (.aload_n 0, 1) := by decide +kernel
theorem dX11_ways_13 : decode cX11_ways 13 = .ok (.iload_n 1, 1) := by decide +kernel
theorem dX11_ways_14 : decode cX11_ways 14 = .ok (.bipush (-2), 2) := by decide +kernel
theorem dX11_ways_16 : decode cX11_ways 16 = .ok (.invokevirtual 358, 3) := by decide +kernel
theorem dX11_ways_19 : decode cX11_ways 19 = .ok (.pop, 1) := by decide +kernel
theorem dX11_ways_20 : decode cX11_ways 20 = .ok (.aload_n 0, 1) := by decide +kernel
theorem dX11_ways_21 : decode cX11_ways 21 = .ok (.getfield 273, 3) := by decide +kernel
theorem dX11_ways_24 : decode cX11_ways 24 = .ok (.ifCond .eq 8, 3) := by decide +kernel
theorem dX11_ways_27 : decode cX11_ways 27 = .ok (.bipush (-7), 2) := by decide +kernel
theorem dX11_ways_29 : decode cX11_ways 29 = .ok (.goto 7, 3) := by decide +kernel
theorem dX11_ways_32 : decode cX11_ways 32 = .ok (.aload_n 0, 1) := by decide +kernel
theorem dX11_ways_33 : decode cX11_ways 33 = .ok (.getfield 329, 3) := by decide +kernel
theorem dX11_ways_36 : decode cX11_ways 36 = .ok (.ireturn, 1) := by decide +kernel
theorem dX11_spans_0 : decode cX11_spans 0 = .ok (.iload_n 2, 1) := by decide +kernel
theorem dX11_spans_1 : decode cX11_spans 1 = .ok (.i2l, 1) := by decide +kernel
theorem dX11_spans_2 : decode cX11_spans 2 = .ok (.lconst 0, 1) := by decide +kernel
theorem dX11_spans_3 : decode cX11_spans 3 = .ok (.lconst 1, 1) := by decide +kernel
theorem dX11_spans_4 : decode cX11_spans 4 = .ok (.invokestatic 101, 3) := by decide +kernel
theorem dX11_spans_7 : decode cX11_spans 7 = .ok (.ifCond .ne 7, 3) := by decide +kernel
theorem dX11_spans_10 : decode cX11_spans 10 = .ok (.iconst (-1), 1) := by decide +kernel
theorem dX11_spans_11 : decode cX11_spans 11 = .ok (.goto 8, 3) := by decide +kernel
theorem dX11_spans_14 : decode cX11_spans 14 = .ok (.aload_n 0, 1) := by decide +kernel
theorem dX11_spans_15 : decode cX11_spans 15 = .ok (.iload_n 1, 1) := by decide +kernel
theorem dX11_spans_16 : decode cX11_spans 16 = .ok (.invokevirtual 355, 3) := by decide +kernel
theorem dX11_spans_19 : decode cX11_spans 19 = .ok (.istore_n 3, 1) := by decide +kernel
theorem dX11_spans_20 : decode cX11_spans 20 = .ok (.iload_n 3, 1) := by decide +kernel
theorem dX11_spans_21 : decode cX11_spans 21 = .ok (.ifCond .eq 5, 3) := by decide +kernel
theorem dX11_spans_24 : decode cX11_spans 24 = .ok (.iload_n 3, 1) := by decide +kernel
theorem dX11_spans_25 : decode cX11_spans 25 = .ok (.ireturn, 1) := by decide +kernel
theorem dX11_spans_26 : decode cX11_spans 26 = .ok (.aload_n 0, 1) := by decide +kernel
theorem dX11_spans_27 : decode cX11_spans 27 = .ok (.iload_n 1, 1) := by decide +kernel
theorem dX11_spans_28 : decode cX11_spans 28 = .ok (.bipush (-2), 2) := by decide +kernel
theorem dX11_spans_30 : decode cX11_spans 30 = .ok (.invokevirtual 358, 3) := by decide +kernel
theorem dX11_spans_33 : decode cX11_spans 33 = .ok (.pop, 1) := by decide +kernel
theorem dX11_spans_34 : decode cX11_spans 34 = .ok (.aload_n 0, 1) := by decide +kernel
theorem dX11_spans_35 : decode cX11_spans 35 = .ok (.getfield 273, 3) := by decide +kernel
theorem dX11_spans_38 : decode cX11_spans 38 = .ok (.ifCond .eq 8, 3) := by decide +kernel
theorem dX11_spans_41 : decode cX11_spans 41 = .ok (.bipush (-7), 2) := by decide +kernel
theorem dX11_spans_43 : decode cX11_spans 43 = .ok (.goto 18, 3) := by decide +kernel
theorem dX11_spans_46 : decode cX11_spans 46 = .ok (.iload_n 2, 1) := by decide +kernel
theorem dX11_spans_47 : decode cX11_spans 47 = .ok (.ifCond .ne 10, 3) := by decide +kernel
theorem dX11_spans_50 : decode cX11_spans 50 = .ok (.aload_n 0, 1) := by decide +kernel
theorem dX11_spans_51 : decode cX11_spans 51 = .ok (.getfield 332, 3) := by decide +kernel
theorem dX11_spans_54 : decode cX11_spans 54 = .ok (.goto 7, 3) := by decide +kernel
theorem dX11_spans_57 : decode cX11_spans 57 = .ok (.aload_n 0, 1) := by decide +kernel
theorem dX11_spans_58 : decode cX11_spans 58 = .ok (.getfield 335, 3) := by decide +kernel
theorem dX11_spans_61 : decode cX11_spans 61 = .ok (.ireturn, 1) := by decide +kernel
theorem dX11_fits_0 : decode cX11_fits 0 = .ok (.iload_n 2, 1) := by decide +kernel
theorem dX11_fits_1 : decode cX11_fits 1 = .ok (.i2l, 1) := by decide +kernel
theorem dX11_fits_2 : decode cX11_fits 2 = .ok (.iconst 0, 1) := by decide +kernel
theorem dX11_fits_3 : decode cX11_fits 3 = .ok (.iload_n 1, 1) := by decide +kernel
theorem dX11_fits_4 : decode cX11_fits 4 = .ok (.invokestatic 352, 3) := by decide +kernel
theorem dX11_fits_7 : decode cX11_fits 7 = .ok (.i2l, 1) := by decide +kernel
theorem dX11_fits_8 : decode cX11_fits 8 = .ok (.aload_n 0, 1) := by decide +kernel
theorem dX11_fits_9 : decode cX11_fits 9 = .ok (.invokevirtual 97, 3) := by decide +kernel
theorem dX11_fits_12 : decode cX11_fits 12 = .ok (.i2l, 1) := by decide +kernel
theorem dX11_fits_13 : decode cX11_fits 13 = .ok (.invokestatic 101, 3) := by decide +kernel
theorem dX11_fits_16 : decode cX11_fits 16 = .ok (.ifCond .ne 7, 3) := by decide +kernel
theorem dX11_fits_19 : decode cX11_fits 19 = .ok (.iconst (-1), 1) := by decide +kernel
theorem dX11_fits_20 : decode cX11_fits 20 = .ok (.goto 8, 3) := by decide +kernel
theorem dX11_fits_23 : decode cX11_fits 23 = .ok (.aload_n 0, 1) := by decide +kernel
theorem dX11_fits_24 : decode cX11_fits 24 = .ok (.iload_n 1, 1) := by decide +kernel
theorem dX11_fits_25 : decode cX11_fits 25 = .ok (.invokevirtual 355, 3) := by decide +kernel
theorem dX11_fits_28 : decode cX11_fits 28 = .ok (.istore_n 3, 1) := by decide +kernel
theorem dX11_fits_29 : decode cX11_fits 29 = .ok (.iload_n 3, 1) := by decide +kernel
theorem dX11_fits_30 : decode cX11_fits 30 = .ok (.ifCond .eq 5, 3) := by decide +kernel
theorem dX11_fits_33 : decode cX11_fits 33 = .ok (.iload_n 3, 1) := by decide +kernel
theorem dX11_fits_34 : decode cX11_fits 34 = .ok (.ireturn, 1) := by decide +kernel
theorem dX11_fits_35 : decode cX11_fits 35 = .ok (.aload_n 0, 1) := by decide +kernel
theorem dX11_fits_36 : decode cX11_fits 36 = .ok (.iload_n 1, 1) := by decide +kernel
theorem dX11_fits_37 : decode cX11_fits 37 = .ok (.iload_n 2, 1) := by decide +kernel
theorem dX11_fits_38 : decode cX11_fits 38 = .ok (.invokevirtual 358, 3) := by decide +kernel
theorem dX11_fits_41 : decode cX11_fits 41 = .ok (.istore 4, 2) := by decide +kernel
theorem dX11_fits_43 : decode cX11_fits 43 = .ok (.aload_n 0, 1) := by decide +kernel
theorem dX11_fits_44 : decode cX11_fits 44 = .ok (.getfield 273, 3) := by decide +kernel
theorem dX11_fits_47 : decode cX11_fits 47 = .ok (.ifCond .eq 8, 3) := by decide +kernel
theorem dX11_fits_50 : decode cX11_fits 50 = .ok (.bipush (-7), 2) := by decide +kernel
theorem dX11_fits_52 : decode cX11_fits 52 = .ok (.goto 13, 3) := by decide +kernel
theorem dX11_fits_55 : decode cX11_fits 55 = .ok (.iload 4, 2) := by decide +kernel
theorem dX11_fits_57 : decode cX11_fits 57 = .ok (.ifCond .eq 7, 3) := by decide +kernel
theorem dX11_fits_60 : decode cX11_fits 60 = .ok (.iconst 1, 1) := by decide +kernel
theorem dX11_fits_61 : decode cX11_fits 61 = .ok (.goto 4, 3) := by decide +kernel
theorem dX11_fits_64 : decode cX11_fits 64 = .ok (.iconst 0, 1) := by decide +kernel
theorem dX11_fits_65 : decode cX11_fits 65 = .ok (.ireturn, 1) := by decide +kernel
theorem dX11_mode_0 : decode cX11_mode 0 = .ok (.iload_n 1, 1) := by decide +kernel
theorem dX11_mode_1 : decode cX11_mode 1 = .ok (.i2l, 1) := by decide +kernel
theorem dX11_mode_2 : decode cX11_mode 2 = .ok (.lconst 0, 1) := by decide +kernel
theorem dX11_mode_3 : decode cX11_mode 3 = .ok (.ldc2_w 361, 3) := by decide +kernel
theorem dX11_mode_6 : decode cX11_mode 6 = .ok (.invokestatic 101, 3) := by decide +kernel
theorem dX11_mode_9 : decode cX11_mode 9 = .ok (.ifCond .eq 15, 3) := by decide +kernel
theorem dX11_mode_12 : decode cX11_mode 12 = .ok (.iload_n 2, 1) := by decide +kernel
theorem dX11_mode_13 : decode cX11_mode 13 = .ok (.i2l, 1) := by decide +kernel
theorem dX11_mode_14 : decode cX11_mode 14 = .ok (.lconst 0, 1) := by decide +kernel
theorem dX11_mode_15 : decode cX11_mode 15 = .ok (.ldc2_w 261, 3) := by decide +kernel
theorem dX11_mode_18 : decode cX11_mode 18 = .ok (.invokestatic 101, 3) := by decide +kernel
theorem dX11_mode_21 : decode cX11_mode 21 = .ok (.ifCond .ne 5, 3) := by decide +kernel
theorem dX11_mode_24 : decode cX11_mode 24 = .ok (.iconst (-1), 1) := by decide +kernel
theorem dX11_mode_25 : decode cX11_mode 25 = .ok (.ireturn, 1) := by decide +kernel
theorem dX11_mode_26 : decode cX11_mode 26 = .ok (.bipush 10, 2) := by decide +kernel
theorem dX11_mode_28 : decode cX11_mode 28 = .ok (.aload_n 0, 1) := by decide +kernel
theorem dX11_mode_29 : decode cX11_mode 29 = .ok (.getfield 9, 3) := by decide +kernel
theorem dX11_mode_32 : decode cX11_mode 32 = .ok (.sipush 3333, 3) := by decide +kernel
theorem dX11_mode_35 : decode cX11_mode 35 = .ok (.iaload, 1) := by decide +kernel
theorem dX11_mode_36 : decode cX11_mode 36 = .ok (.imul, 1) := by decide +kernel
theorem dX11_mode_37 : decode cX11_mode 37 = .ok (.aload_n 0, 1) := by decide +kernel
theorem dX11_mode_38 : decode cX11_mode 38 = .ok (.getfield 9, 3) := by decide +kernel
theorem dX11_mode_41 : decode cX11_mode 41 = .ok (.sipush 3332, 3) := by decide +kernel
theorem dX11_mode_44 : decode cX11_mode 44 = .ok (.iaload, 1) := by decide +kernel
theorem dX11_mode_45 : decode cX11_mode 45 = .ok (.iadd, 1) := by decide +kernel
theorem dX11_mode_46 : decode cX11_mode 46 = .ok (.istore_n 3, 1) := by decide +kernel
theorem dX11_mode_47 : decode cX11_mode 47 = .ok (.aload_n 0, 1) := by decide +kernel
theorem dX11_mode_48 : decode cX11_mode 48 = .ok (.getfield 9, 3) := by decide +kernel
theorem dX11_mode_51 : decode cX11_mode 51 = .ok (.sipush 3332, 3) := by decide +kernel
theorem dX11_mode_54 : decode cX11_mode 54 = .ok (.iload_n 1, 1) := by decide +kernel
theorem dX11_mode_55 : decode cX11_mode 55 = .ok (.iastore, 1) := by decide +kernel
theorem dX11_mode_56 : decode cX11_mode 56 = .ok (.aload_n 0, 1) := by decide +kernel
theorem dX11_mode_57 : decode cX11_mode 57 = .ok (.getfield 9, 3) := by decide +kernel
theorem dX11_mode_60 : decode cX11_mode 60 = .ok (.sipush 3333, 3) := by decide +kernel
theorem dX11_mode_63 : decode cX11_mode 63 = .ok (.iload_n 2, 1) := by decide +kernel
theorem dX11_mode_64 : decode cX11_mode 64 = .ok (.iastore, 1) := by decide +kernel
theorem dX11_mode_65 : decode cX11_mode 65 = .ok (.iload_n 3, 1) := by decide +kernel
theorem dX11_mode_66 : decode cX11_mode 66 = .ok (.ireturn, 1) := by decide +kernel
theorem dX11_empties_0 : decode cX11_empties 0 = .ok (.iload_n 1, 1) := by decide +kernel
theorem dX11_empties_1 : decode cX11_empties 1 = .ok (.i2l, 1) := by decide +kernel
theorem dX11_empties_2 : decode cX11_empties 2 = .ok (.lconst 0, 1) := by decide +kernel
theorem dX11_empties_3 : decode cX11_empties 3 = .ok (.lconst 1, 1) := by decide +kernel
theorem dX11_empties_4 : decode cX11_empties 4 = .ok (.invokestatic 101, 3) := by decide +kernel
theorem dX11_empties_7 : decode cX11_empties 7 = .ok (.ifCond .ne 5, 3) := by decide +kernel
theorem dX11_empties_10 : decode cX11_empties 10 = .ok (.iconst (-1), 1) := by decide +kernel
theorem dX11_empties_11 : decode cX11_empties 11 = .ok (.ireturn, 1) := by decide +kernel
theorem dX11_empties_12 : decode cX11_empties 12 = .ok (.aload_n 0, 1) := by decide +kernel
theorem dX11_empties_13 : decode cX11_empties 13 = .ok (.getfield 9, 3) := by decide +kernel
theorem dX11_empties_16 : decode cX11_empties 16 = .ok (.sipush 3334, 3) := by decide +kernel
theorem dX11_empties_19 : decode cX11_empties 19 = .ok (.iaload, 1) := by decide +kernel
theorem dX11_empties_20 : decode cX11_empties 20 = .ok (.istore_n 2, 1) := by decide +kernel
theorem dX11_empties_21 : decode cX11_empties 21 = .ok (.aload_n 0, 1) := by decide +kernel
theorem dX11_empties_22 : decode cX11_empties 22 = .ok (.getfield 9, 3) := by decide +kernel
theorem dX11_empties_25 : decode cX11_empties 25 = .ok (.sipush 3334, 3) := by decide +kernel
theorem dX11_empties_28 : decode cX11_empties 28 = .ok (.iload_n 1, 1) := by decide +kernel
theorem dX11_empties_29 : decode cX11_empties 29 = .ok (.iastore, 1) := by decide +kernel
theorem dX11_empties_30 : decode cX11_empties 30 = .ok (.iload_n 2, 1) := by decide +kernel
theorem dX11_empties_31 : decode cX11_empties 31 = .ok (.ireturn, 1) := by decide +kernel
theorem dX11_may_0 : decode cX11_may 0 = .ok (.iload_n 1, 1) := by decide +kernel
theorem dX11_may_1 : decode cX11_may 1 = .ok (.i2l, 1) := by decide +kernel
theorem dX11_may_2 : decode cX11_may 2 = .ok (.lconst 1, 1) := by decide +kernel
theorem dX11_may_3 : decode cX11_may 3 = .ok (.ldc2_w 363, 3) := by decide +kernel
theorem dX11_may_6 : decode cX11_may 6 = .ok (.invokestatic 101, 3) := by decide +kernel
theorem dX11_may_9 : decode cX11_may 9 = .ok (.ifCond .ne 6, 3) := by decide +kernel
theorem dX11_may_12 : decode cX11_may 12 = .ok (.bipush (-2), 2) := by decide +kernel
theorem dX11_may_14 : decode cX11_may 14 = .ok (.ireturn, 1) := by decide +kernel
theorem dX11_may_15 : decode cX11_may 15 = .ok (.aload_n 0, 1) := by decide +kernel
theorem dX11_may_16 : decode cX11_may 16 = .ok (.getfield 9, 3) := by decide +kernel
theorem dX11_may_19 : decode cX11_may 19 = .ok (.sipush 3335, 3) := by decide +kernel
theorem dX11_may_22 : decode cX11_may 22 = .ok (.iaload, 1) := by decide +kernel
theorem dX11_may_23 : decode cX11_may 23 = .ok (.istore_n 2, 1) := by decide +kernel
theorem dX11_may_24 : decode cX11_may 24 = .ok (.aload_n 0, 1) := by decide +kernel
theorem dX11_may_25 : decode cX11_may 25 = .ok (.getfield 9, 3) := by decide +kernel
theorem dX11_may_28 : decode cX11_may 28 = .ok (.sipush 3335, 3) := by decide +kernel
theorem dX11_may_31 : decode cX11_may 31 = .ok (.iload_n 1, 1) := by decide +kernel
theorem dX11_may_32 : decode cX11_may 32 = .ok (.iastore, 1) := by decide +kernel
theorem dX11_may_33 : decode cX11_may 33 = .ok (.iload_n 2, 1) := by decide +kernel
theorem dX11_may_34 : decode cX11_may 34 = .ok (.ireturn, 1) := by decide +kernel
theorem dX11_behindMatch_0 : decode cX11_behindMatch 0 = .ok (.aload_n 0, 1) := by decide +kernel
theorem dX11_behindMatch_1 : decode cX11_behindMatch 1 = .ok (.getfield 9, 3) := by decide +kernel
theorem dX11_behindMatch_4 : decode cX11_behindMatch 4 = .ok (.sipush 3332, 3) := by decide +kernel
theorem dX11_behindMatch_7 : decode cX11_behindMatch 7 = .ok (.iaload, 1) := by decide +kernel
theorem dX11_behindMatch_8 : decode cX11_behindMatch 8 = .ok (.ifCond .ne 9, 3) := by decide +kernel
theorem dX11_behindMatch_11 : decode cX11_behindMatch 11 = .ok (.iload_n 1, 1) := by decide +kernel
theorem dX11_behindMatch_12 : decode cX11_behindMatch 12 = .ok (.iload_n 2, 1) := by decide +kernel
theorem dX11_behindMatch_13 : decode cX11_behindMatch 13 = .ok (.iadd, 1) := by decide +kernel
theorem dX11_behindMatch_14 : decode cX11_behindMatch 14 = .ok (.goto 6, 3) := by decide +kernel
theorem dX11_behindMatch_17 : decode cX11_behindMatch 17 = .ok (.iload_n 1, 1) := by decide +kernel
theorem dX11_behindMatch_18 : decode cX11_behindMatch 18 = .ok (.iconst 1, 1) := by decide +kernel
theorem dX11_behindMatch_19 : decode cX11_behindMatch 19 = .ok (.iadd, 1) := by decide +kernel
theorem dX11_behindMatch_20 : decode cX11_behindMatch 20 = .ok (.istore_n 3, 1) := by decide +kernel
theorem dX11_behindMatch_21 : decode cX11_behindMatch 21 = .ok (.aload_n 0, 1) := by decide +kernel
theorem dX11_behindMatch_22 : decode cX11_behindMatch 22 = .ok (.getfield 9, 3) := by decide +kernel
theorem dX11_behindMatch_25 : decode cX11_behindMatch 25 = .ok (.sipush 3332, 3) := by decide +kernel
theorem dX11_behindMatch_28 : decode cX11_behindMatch 28 = .ok (.iaload, 1) := by decide +kernel
theorem dX11_behindMatch_29 : decode cX11_behindMatch 29 = .ok (.iconst 1, 1) := by decide +kernel
theorem dX11_behindMatch_30 : decode cX11_behindMatch 30 = .ok (.if_icmp .le 94, 3) := by decide +kernel
theorem dX11_behindMatch_33 : decode cX11_behindMatch 33 = .ok (.iconst 0, 1) := by decide +kernel
theorem dX11_behindMatch_34 : decode cX11_behindMatch 34 = .ok (.istore 4, 2) := by decide +kernel
theorem dX11_behindMatch_36 : decode cX11_behindMatch 36 = .ok (.iload_n 1, 1) := by decide +kernel
theorem dX11_behindMatch_37 : decode cX11_behindMatch 37 = .ok (.istore 5, 2) := by decide +kernel
theorem dX11_behindMatch_39 : decode cX11_behindMatch 39 = .ok (.iload 5, 2) := by decide +kernel
theorem dX11_behindMatch_41 : decode cX11_behindMatch 41 = .ok (.iload_n 1, 1) := by decide +kernel
theorem dX11_behindMatch_42 : decode cX11_behindMatch 42 = .ok (.iload_n 2, 1) := by decide +kernel
theorem dX11_behindMatch_43 : decode cX11_behindMatch 43 = .ok (.iadd, 1) := by decide +kernel
theorem dX11_behindMatch_44 : decode cX11_behindMatch 44 = .ok (.if_icmp .ge 80, 3) := by decide +kernel
theorem dX11_behindMatch_47 : decode cX11_behindMatch 47 = .ok (.aload_n 0, 1) := by decide +kernel
theorem dX11_behindMatch_48 : decode cX11_behindMatch 48 = .ok (.getfield 54, 3) := by decide +kernel
theorem dX11_behindMatch_51 : decode cX11_behindMatch 51 = .ok (.iload 5, 2) := by decide +kernel
theorem dX11_behindMatch_53 : decode cX11_behindMatch 53 = .ok (.iaload, 1) := by decide +kernel
theorem dX11_behindMatch_54 : decode cX11_behindMatch 54 = .ok (.aload_n 0, 1) := by decide +kernel
theorem dX11_behindMatch_55 : decode cX11_behindMatch 55 = .ok (.getfield 9, 3) := by decide +kernel
theorem dX11_behindMatch_58 : decode cX11_behindMatch 58 = .ok (.sipush 3333, 3) := by decide +kernel
theorem dX11_behindMatch_61 : decode cX11_behindMatch 61 = .ok (.iaload, 1) := by decide +kernel
theorem dX11_behindMatch_62 : decode cX11_behindMatch 62 = .ok (.if_icmp .ne 24, 3) := by decide +kernel
theorem dX11_behindMatch_65 : decode cX11_behindMatch 65 = .ok (.iload 4, 2) := by decide +kernel
theorem dX11_behindMatch_67 : decode cX11_behindMatch 67 = .ok (.ifCond .eq 15, 3) := by decide +kernel
theorem dX11_behindMatch_70 : decode cX11_behindMatch 70 = .ok (.aload_n 0, 1) := by decide +kernel
theorem dX11_behindMatch_71 : decode cX11_behindMatch 71 = .ok (.getfield 9, 3) := by decide +kernel
theorem dX11_behindMatch_74 : decode cX11_behindMatch 74 = .ok (.sipush 3332, 3) := by decide +kernel
theorem dX11_behindMatch_77 : decode cX11_behindMatch 77 = .ok (.iaload, 1) := by decide +kernel
theorem dX11_behindMatch_78 : decode cX11_behindMatch 78 = .ok (.iconst 3, 1) := by decide +kernel
theorem dX11_behindMatch_79 : decode cX11_behindMatch 79 = .ok (.if_icmp .ne 7, 3) := by decide +kernel
theorem dX11_behindMatch_82 : decode cX11_behindMatch 82 = .ok (.iconst 1, 1) := by decide +kernel
theorem dX11_behindMatch_83 : decode cX11_behindMatch 83 = .ok (.goto 4, 3) := by decide +kernel
theorem dX11_behindMatch_86 : decode cX11_behindMatch 86 = .ok (.iconst 0, 1) := by decide +kernel
theorem dX11_behindMatch_87 : decode cX11_behindMatch 87 = .ok (.istore 6, 2) := by decide +kernel
theorem dX11_behindMatch_89 : decode cX11_behindMatch 89 = .ok (.iload 6, 2) := by decide +kernel
theorem dX11_behindMatch_91 : decode cX11_behindMatch 91 = .ok (.ifCond .eq 8, 3) := by decide +kernel
theorem dX11_behindMatch_94 : decode cX11_behindMatch 94 = .ok (.iload 5, 2) := by decide +kernel
theorem dX11_behindMatch_96 : decode cX11_behindMatch 96 = .ok (.goto 4, 3) := by decide +kernel
theorem dX11_behindMatch_99 : decode cX11_behindMatch 99 = .ok (.iload_n 3, 1) := by decide +kernel
theorem dX11_behindMatch_100 : decode cX11_behindMatch 100 = .ok (.istore_n 3, 1) := by decide +kernel
theorem dX11_behindMatch_101 : decode cX11_behindMatch 101 = .ok (.iload 4, 2) := by decide +kernel
theorem dX11_behindMatch_103 : decode cX11_behindMatch 103 = .ok (.ifCond .ne 8, 3) := by decide +kernel
theorem dX11_behindMatch_106 : decode cX11_behindMatch 106 = .ok (.iload 6, 2) := by decide +kernel
theorem dX11_behindMatch_108 : decode cX11_behindMatch 108 = .ok (.ifCond .eq 7, 3) := by decide +kernel
theorem dX11_behindMatch_111 : decode cX11_behindMatch 111 = .ok (.iconst 1, 1) := by decide +kernel
theorem dX11_behindMatch_112 : decode cX11_behindMatch 112 = .ok (.goto 4, 3) := by decide +kernel
theorem dX11_behindMatch_115 : decode cX11_behindMatch 115 = .ok (.iconst 0, 1) := by decide +kernel
theorem dX11_behindMatch_116 : decode cX11_behindMatch 116 = .ok (.istore 4, 2) := by decide +kernel
theorem dX11_behindMatch_118 : decode cX11_behindMatch 118 = .ok (.iinc 5 1, 3) := by decide +kernel
theorem dX11_behindMatch_121 : decode cX11_behindMatch 121 = .ok (.goto (-82), 3) := by decide +kernel
theorem dX11_behindMatch_124 : decode cX11_behindMatch 124 = .ok (.iload_n 3, 1) := by decide +kernel
theorem dX11_behindMatch_125 : decode cX11_behindMatch 125 = .ok (.iload_n 1, 1) := by decide +kernel
theorem dX11_behindMatch_126 : decode cX11_behindMatch 126 = .ok (.iconst 1, 1) := by decide +kernel
theorem dX11_behindMatch_127 : decode cX11_behindMatch 127 = .ok (.iadd, 1) := by decide +kernel
theorem dX11_behindMatch_128 : decode cX11_behindMatch 128 = .ok (.invokestatic 352, 3) := by decide +kernel
theorem dX11_behindMatch_131 : decode cX11_behindMatch 131 = .ok (.ireturn, 1) := by decide +kernel
theorem dX11_run_0 : decode cX11_run 0 = .ok (.aload_n 0, 1) := by decide +kernel
theorem dX11_run_1 : decode cX11_run 1 = .ok (.getfield 9, 3) := by decide +kernel
theorem dX11_run_4 : decode cX11_run 4 = .ok (.bipush 65, 2) := by decide +kernel
theorem dX11_run_6 : decode cX11_run 6 = .ok (.iaload, 1) := by decide +kernel
theorem dX11_run_7 : decode cX11_run 7 = .ok (.ifCond .ne 6, 3) := by decide +kernel
theorem dX11_run_10 : decode cX11_run 10 = .ok (.bipush (-3), 2) := by decide +kernel
theorem dX11_run_12 : decode cX11_run 12 = .ok (.ireturn, 1) := by decide +kernel
theorem dX11_run_13 : decode cX11_run 13 = .ok (.iconst 0, 1) := by decide +kernel
theorem dX11_run_14 : decode cX11_run 14 = .ok (.istore_n 1, 1) := by decide +kernel
theorem dX11_run_15 : decode cX11_run 15 = .ok (.iconst 0, 1) := by decide +kernel
theorem dX11_run_16 : decode cX11_run 16 = .ok (.istore_n 2, 1) := by decide +kernel
theorem dX11_run_17 : decode cX11_run 17 = .ok (.iload_n 2, 1) := by decide +kernel
theorem dX11_run_18 : decode cX11_run 18 = .ok (.aload_n 0, 1) := by decide +kernel
theorem dX11_run_19 : decode cX11_run 19 = .ok (.invokevirtual 97, 3) := by decide +kernel
theorem dX11_run_22 : decode cX11_run 22 = .ok (.if_icmp .gt 131, 3) := by decide +kernel
theorem dX11_run_25 : decode cX11_run 25 = .ok (.aload_n 0, 1) := by decide +kernel
theorem dX11_run_26 : decode cX11_run 26 = .ok (.iload_n 2, 1) := by decide +kernel
theorem dX11_run_27 : decode cX11_run 27 = .ok (.iconst (-1), 1) := by decide +kernel
theorem dX11_run_28 : decode cX11_run 28 = .ok (.invokevirtual 358, 3) := by decide +kernel
theorem dX11_run_31 : decode cX11_run 31 = .ok (.istore_n 3, 1) := by decide +kernel
theorem dX11_run_32 : decode cX11_run 32 = .ok (.aload_n 0, 1) := by decide +kernel
theorem dX11_run_33 : decode cX11_run 33 = .ok (.getfield 273, 3) := by decide +kernel
theorem dX11_run_36 : decode cX11_run 36 = .ok (.ifCond .eq 6, 3) := by decide +kernel
theorem dX11_run_39 : decode cX11_run 39 = .ok (.bipush (-7), 2) := by decide +kernel
theorem dX11_run_41 : decode cX11_run 41 = .ok (.ireturn, 1) := by decide +kernel
theorem dX11_run_42 : decode cX11_run 42 = .ok (.aload_n 0, 1) := by decide +kernel
theorem dX11_run_43 : decode cX11_run 43 = .ok (.getfield 279, 3) := by decide +kernel
theorem dX11_run_46 : decode cX11_run 46 = .ok (.iload_n 2, 1) := by decide +kernel
theorem dX11_run_47 : decode cX11_run 47 = .ok (.isub, 1) := by decide +kernel
theorem dX11_run_48 : decode cX11_run 48 = .ok (.istore 4, 2) := by decide +kernel
theorem dX11_run_50 : decode cX11_run 50 = .ok (.iload_n 3, 1) := by decide +kernel
theorem dX11_run_51 : decode cX11_run 51 = .ok (.ifCond .eq 96, 3) := by decide +kernel
theorem dX11_run_54 : decode cX11_run 54 = .ok (.iload 4, 2) := by decide +kernel
theorem dX11_run_56 : decode cX11_run 56 = .ok (.ifCond .gt 15, 3) := by decide +kernel
theorem dX11_run_59 : decode cX11_run 59 = .ok (.aload_n 0, 1) := by decide +kernel
theorem dX11_run_60 : decode cX11_run 60 = .ok (.getfield 9, 3) := by decide +kernel
theorem dX11_run_63 : decode cX11_run 63 = .ok (.sipush 3334, 3) := by decide +kernel
theorem dX11_run_66 : decode cX11_run 66 = .ok (.iaload, 1) := by decide +kernel
theorem dX11_run_67 : decode cX11_run 67 = .ok (.iconst 1, 1) := by decide +kernel
theorem dX11_run_68 : decode cX11_run 68 = .ok (.if_icmp .ne 79, 3) := by decide +kernel
theorem dX11_run_71 : decode cX11_run 71 = .ok (.aload_n 0, 1) := by decide +kernel
theorem dX11_run_72 : decode cX11_run 72 = .ok (.getfield 84, 3) := by decide +kernel
theorem dX11_run_75 : decode cX11_run 75 = .ok (.bipush 34, 2) := by decide +kernel
theorem dX11_run_77 : decode cX11_run 77 = .ok (.iload_n 1, 1) := by decide +kernel
theorem dX11_run_78 : decode cX11_run 78 = .ok (.imul, 1) := by decide +kernel
theorem dX11_run_79 : decode cX11_run 79 = .ok (.iload_n 2, 1) := by decide +kernel
theorem dX11_run_80 : decode cX11_run 80 = .ok (.iastore, 1) := by decide +kernel
theorem dX11_run_81 : decode cX11_run 81 = .ok (.aload_n 0, 1) := by decide +kernel
theorem dX11_run_82 : decode cX11_run 82 = .ok (.getfield 84, 3) := by decide +kernel
theorem dX11_run_85 : decode cX11_run 85 = .ok (.bipush 34, 2) := by decide +kernel
theorem dX11_run_87 : decode cX11_run 87 = .ok (.iload_n 1, 1) := by decide +kernel
theorem dX11_run_88 : decode cX11_run 88 = .ok (.imul, 1) := by decide +kernel
