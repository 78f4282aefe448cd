/-! decode rows, 2 -/
theorem dX5_anyOrder_75 : decode cX5_anyOrder 75 = .ok (.aload_n 0, 1) := by decide +kernel
theorem dX5_anyOrder_76 : decode cX5_anyOrder 76 = .ok (.getfield 29, 3) := by decide +kernel
theorem dX5_anyOrder_79 : decode cX5_anyOrder 79 = .ok (.iload_n 3, 1) := by decide +kernel
theorem dX5_anyOrder_80 : decode cX5_anyOrder 80 = .ok (.iload 5, 2) := by decide +kernel
theorem dX5_anyOrder_82 : decode cX5_anyOrder 82 = .ok (.invokevirtual 53, 3) := by decide +kernel
theorem dX5_anyOrder_85 : decode cX5_anyOrder 85 = .ok (.iload 5, 2) := by decide +kernel
theorem dX5_anyOrder_87 : decode cX5_anyOrder 87 = .ok (.istore_n 3, 1) := by decide +kernel
theorem dX5_anyOrder_88 : decode cX5_anyOrder 88 = .ok (.iinc 4 1, 3) := by decide +kernel
theorem dX5_anyOrder_91 : decode cX5_anyOrder 91 = .ok (.goto (-52), 3) := by decide +kernel
theorem dX5_anyOrder_94 : decode cX5_anyOrder 94 = .ok (.iload_n 3, 1) := by decide +kernel
theorem dX5_anyOrder_95 : decode cX5_anyOrder 95 = .ok (.ifCond .lt 18, 3) := by decide +kernel
theorem dX5_anyOrder_98 : decode cX5_anyOrder 98 = .ok (.iload 4, 2) := by decide +kernel
theorem dX5_anyOrder_100 : decode cX5_anyOrder 100 = .ok (.iconst 2, 1) := by decide +kernel
theorem dX5_anyOrder_101 : decode cX5_anyOrder 101 = .ok (.if_icmp .lt 12, 3) := by decide +kernel
theorem dX5_anyOrder_104 : decode cX5_anyOrder 104 = .ok (.aload_n 0, 1) := by decide +kernel
theorem dX5_anyOrder_105 : decode cX5_anyOrder 105 = .ok (.bipush 41, 2) := by decide +kernel
theorem dX5_anyOrder_107 : decode cX5_anyOrder 107 = .ok (.invokevirtual 49, 3) := by decide +kernel
theorem dX5_anyOrder_110 : decode cX5_anyOrder 110 = .ok (.ifCond .ne 12, 3) := by decide +kernel
theorem dX5_anyOrder_113 : decode cX5_anyOrder 113 = .ok (.aload_n 0, 1) := by decide +kernel
theorem dX5_anyOrder_114 : decode cX5_anyOrder 114 = .ok (.aload_n 0, 1) := by decide +kernel
theorem dX5_anyOrder_115 : decode cX5_anyOrder 115 = .ok (.getfield 37, 3) := by decide +kernel
theorem dX5_anyOrder_118 : decode cX5_anyOrder 118 = .ok (.invokevirtual 40, 3) := by decide +kernel
theorem dX5_anyOrder_121 : decode cX5_anyOrder 121 = .ok (.ireturn, 1) := by decide +kernel
theorem dX5_anyOrder_122 : decode cX5_anyOrder 122 = .ok (.aload_n 0, 1) := by decide +kernel
theorem dX5_anyOrder_123 : decode cX5_anyOrder 123 = .ok (.dup, 1) := by decide +kernel
theorem dX5_anyOrder_124 : decode cX5_anyOrder 124 = .ok (.getfield 37, 3) := by decide +kernel
theorem dX5_anyOrder_127 : decode cX5_anyOrder 127 = .ok (.iconst 1, 1) := by decide +kernel
theorem dX5_anyOrder_128 : decode cX5_anyOrder 128 = .ok (.iadd, 1) := by decide +kernel
theorem dX5_anyOrder_129 : decode cX5_anyOrder 129 = .ok (.putfield 37, 3) := by decide +kernel
theorem dX5_anyOrder_132 : decode cX5_anyOrder 132 = .ok (.aload_n 0, 1) := by decide +kernel
theorem dX5_anyOrder_133 : decode cX5_anyOrder 133 = .ok (.getfield 29, 3) := by decide +kernel
theorem dX5_anyOrder_136 : decode cX5_anyOrder 136 = .ok (.bipush 6, 2) := by decide +kernel
theorem dX5_anyOrder_138 : decode cX5_anyOrder 138 = .ok (.iload_n 2, 1) := by decide +kernel
theorem dX5_anyOrder_139 : decode cX5_anyOrder 139 = .ok (.iload 4, 2) := by decide +kernel
theorem dX5_anyOrder_141 : decode cX5_anyOrder 141 = .ok (.invokevirtual 57, 3) := by decide +kernel
theorem dX5_anyOrder_144 : decode cX5_anyOrder 144 = .ok (.ireturn, 1) := by decide +kernel
theorem dX5_bounded_0 : decode cX5_bounded 0 = .ok (.aload_n 0, 1) := by decide +kernel
theorem dX5_bounded_1 : decode cX5_bounded 1 = .ok (.invokevirtual 89, 3) := by decide +kernel
theorem dX5_bounded_4 : decode cX5_bounded 4 = .ok (.istore_n 2, 1) := by decide +kernel
theorem dX5_bounded_5 : decode cX5_bounded 5 = .ok (.iload_n 2, 1) := by decide +kernel
theorem dX5_bounded_6 : decode cX5_bounded 6 = .ok (.ifCond .ge 5, 3) := by decide +kernel
theorem dX5_bounded_9 : decode cX5_bounded 9 = .ok (.iconst (-1), 1) := by decide +kernel
theorem dX5_bounded_10 : decode cX5_bounded 10 = .ok (.ireturn, 1) := by decide +kernel
theorem dX5_bounded_11 : decode cX5_bounded 11 = .ok (.iload_n 2, 1) := by decide +kernel
theorem dX5_bounded_12 : decode cX5_bounded 12 = .ok (.istore_n 3, 1) := by decide +kernel
theorem dX5_bounded_13 : decode cX5_bounded 13 = .ok (.aload_n 0, 1) := by decide +kernel
theorem dX5_bounded_14 : decode cX5_bounded 14 = .ok (.bipush 44, 2) := by decide +kernel
theorem dX5_bounded_16 : decode cX5_bounded 16 = .ok (.invokevirtual 49, 3) := by decide +kernel
theorem dX5_bounded_19 : decode cX5_bounded 19 = .ok (.ifCond .eq 22, 3) := by decide +kernel
theorem dX5_bounded_22 : decode cX5_bounded 22 = .ok (.aload_n 0, 1) := by decide +kernel
theorem dX5_bounded_23 : decode cX5_bounded 23 = .ok (.dup, 1) := by decide +kernel
theorem dX5_bounded_24 : decode cX5_bounded 24 = .ok (.getfield 37, 3) := by decide +kernel
theorem dX5_bounded_27 : decode cX5_bounded 27 = .ok (.iconst 1, 1) := by decide +kernel
theorem dX5_bounded_28 : decode cX5_bounded 28 = .ok (.iadd, 1) := by decide +kernel
theorem dX5_bounded_29 : decode cX5_bounded 29 = .ok (.putfield 37, 3) := by decide +kernel
theorem dX5_bounded_32 : decode cX5_bounded 32 = .ok (.aload_n 0, 1) := by decide +kernel
theorem dX5_bounded_33 : decode cX5_bounded 33 = .ok (.iload_n 2, 1) := by decide +kernel
theorem dX5_bounded_34 : decode cX5_bounded 34 = .ok (.invokevirtual 93, 3) := by decide +kernel
theorem dX5_bounded_37 : decode cX5_bounded 37 = .ok (.istore_n 3, 1) := by decide +kernel
theorem dX5_bounded_38 : decode cX5_bounded 38 = .ok (.goto 16, 3) := by decide +kernel
theorem dX5_bounded_41 : decode cX5_bounded 41 = .ok (.iload_n 2, 1) := by decide +kernel
theorem dX5_bounded_42 : decode cX5_bounded 42 = .ok (.ifCond .ne 12, 3) := by decide +kernel
theorem dX5_bounded_45 : decode cX5_bounded 45 = .ok (.aload_n 0, 1) := by decide +kernel
theorem dX5_bounded_46 : decode cX5_bounded 46 = .ok (.aload_n 0, 1) := by decide +kernel
theorem dX5_bounded_47 : decode cX5_bounded 47 = .ok (.getfield 37, 3) := by decide +kernel
theorem dX5_bounded_50 : decode cX5_bounded 50 = .ok (.invokevirtual 40, 3) := by decide +kernel
theorem dX5_bounded_53 : decode cX5_bounded 53 = .ok (.ireturn, 1) := by decide +kernel
theorem dX5_bounded_54 : decode cX5_bounded 54 = .ok (.iload_n 3, 1) := by decide +kernel
theorem dX5_bounded_55 : decode cX5_bounded 55 = .ok (.ifCond .lt 12, 3) := by decide +kernel
theorem dX5_bounded_58 : decode cX5_bounded 58 = .ok (.aload_n 0, 1) := by decide +kernel
theorem dX5_bounded_59 : decode cX5_bounded 59 = .ok (.bipush 125, 2) := by decide +kernel
theorem dX5_bounded_61 : decode cX5_bounded 61 = .ok (.invokevirtual 49, 3) := by decide +kernel
theorem dX5_bounded_64 : decode cX5_bounded 64 = .ok (.ifCond .ne 12, 3) := by decide +kernel
theorem dX5_bounded_67 : decode cX5_bounded 67 = .ok (.aload_n 0, 1) := by decide +kernel
theorem dX5_bounded_68 : decode cX5_bounded 68 = .ok (.aload_n 0, 1) := by decide +kernel
theorem dX5_bounded_69 : decode cX5_bounded 69 = .ok (.getfield 37, 3) := by decide +kernel
theorem dX5_bounded_72 : decode cX5_bounded 72 = .ok (.invokevirtual 40, 3) := by decide +kernel
theorem dX5_bounded_75 : decode cX5_bounded 75 = .ok (.ireturn, 1) := by decide +kernel
theorem dX5_bounded_76 : decode cX5_bounded 76 = .ok (.aload_n 0, 1) := by decide +kernel
theorem dX5_bounded_77 : decode cX5_bounded 77 = .ok (.dup, 1) := by decide +kernel
theorem dX5_bounded_78 : decode cX5_bounded 78 = .ok (.getfield 37, 3) := by decide +kernel
theorem dX5_bounded_81 : decode cX5_bounded 81 = .ok (.iconst 1, 1) := by decide +kernel
theorem dX5_bounded_82 : decode cX5_bounded 82 = .ok (.iadd, 1) := by decide +kernel
theorem dX5_bounded_83 : decode cX5_bounded 83 = .ok (.putfield 37, 3) := by decide +kernel
theorem dX5_bounded_86 : decode cX5_bounded 86 = .ok (.aload_n 0, 1) := by decide +kernel
theorem dX5_bounded_87 : decode cX5_bounded 87 = .ok (.iload_n 1, 1) := by decide +kernel
theorem dX5_bounded_88 : decode cX5_bounded 88 = .ok (.iload_n 2, 1) := by decide +kernel
theorem dX5_bounded_89 : decode cX5_bounded 89 = .ok (.iload_n 3, 1) := by decide +kernel
theorem dX5_bounded_90 : decode cX5_bounded 90 = .ok (.invokevirtual 73, 3) := by decide +kernel
theorem dX5_bounded_93 : decode cX5_bounded 93 = .ok (.ireturn, 1) := by decide +kernel
theorem dX5_mostBehind_0 : decode cX5_mostBehind 0 = .ok (.aload_n 0, 1) := by decide +kernel
theorem dX5_mostBehind_1 : decode cX5_mostBehind 1 = .ok (.bipush 125, 2) := by decide +kernel
theorem dX5_mostBehind_3 : decode cX5_mostBehind 3 = .ok (.invokevirtual 49, 3) := by decide +kernel
theorem dX5_mostBehind_6 : decode cX5_mostBehind 6 = .ok (.ifCond .eq 6, 3) := by decide +kernel
theorem dX5_mostBehind_9 : decode cX5_mostBehind 9 = .ok (.bipush 100, 2) := by decide +kernel
theorem dX5_mostBehind_11 : decode cX5_mostBehind 11 = .ok (.ireturn, 1) := by decide +kernel
theorem dX5_mostBehind_12 : decode cX5_mostBehind 12 = .ok (.aload_n 0, 1) := by decide +kernel
theorem dX5_mostBehind_13 : decode cX5_mostBehind 13 = .ok (.getfield 37, 3) := by decide +kernel
theorem dX5_mostBehind_16 : decode cX5_mostBehind 16 = .ok (.istore_n 2, 1) := by decide +kernel
theorem dX5_mostBehind_17 : decode cX5_mostBehind 17 = .ok (.aload_n 0, 1) := by decide +kernel
theorem dX5_mostBehind_18 : decode cX5_mostBehind 18 = .ok (.invokevirtual 89, 3) := by decide +kernel
theorem dX5_mostBehind_21 : decode cX5_mostBehind 21 = .ok (.istore_n 3, 1) := by decide +kernel
theorem dX5_mostBehind_22 : decode cX5_mostBehind 22 = .ok (.iload_n 3, 1) := by decide +kernel
theorem dX5_mostBehind_23 : decode cX5_mostBehind 23 = .ok (.ifCond .lt 20, 3) := by decide +kernel
theorem dX5_mostBehind_26 : decode cX5_mostBehind 26 = .ok (.iload_n 3, 1) := by decide +kernel
theorem dX5_mostBehind_27 : decode cX5_mostBehind 27 = .ok (.ifCond .eq 8, 3) := by decide +kernel
theorem dX5_mostBehind_30 : decode cX5_mostBehind 30 = .ok (.iload_n 3, 1) := by decide +kernel
theorem dX5_mostBehind_31 : decode cX5_mostBehind 31 = .ok (.iload_n 1, 1) := by decide +kernel
theorem dX5_mostBehind_32 : decode cX5_mostBehind 32 = .ok (.if_icmp .ge 11, 3) := by decide +kernel
theorem dX5_mostBehind_35 : decode cX5_mostBehind 35 = .ok (.aload_n 0, 1) := by decide +kernel
theorem dX5_mostBehind_36 : decode cX5_mostBehind 36 = .ok (.iload_n 2, 1) := by decide +kernel
theorem dX5_mostBehind_37 : decode cX5_mostBehind 37 = .ok (.invokevirtual 40, 3) := by decide +kernel
theorem dX5_mostBehind_40 : decode cX5_mostBehind 40 = .ok (.goto 4, 3) := by decide +kernel
theorem dX5_mostBehind_43 : decode cX5_mostBehind 43 = .ok (.iload_n 3, 1) := by decide +kernel
theorem dX5_mostBehind_44 : decode cX5_mostBehind 44 = .ok (.ireturn, 1) := by decide +kernel
theorem dX5_number_0 : decode cX5_number 0 = .ok (.aload_n 0, 1) := by decide +kernel
theorem dX5_number_1 : decode cX5_number 1 = .ok (.getfield 37, 3) := by decide +kernel
theorem dX5_number_4 : decode cX5_number 4 = .ok (.istore_n 1, 1) := by decide +kernel
theorem dX5_number_5 : decode cX5_number 5 = .ok (.iconst 0, 1) := by decide +kernel
theorem dX5_number_6 : decode cX5_number 6 = .ok (.istore_n 2, 1) := by decide +kernel
theorem dX5_number_7 : decode cX5_number 7 = .ok (.iconst 0, 1) := by decide +kernel
theorem dX5_number_8 : decode cX5_number 8 = .ok (.istore_n 3, 1) := by decide +kernel
theorem dX5_number_9 : decode cX5_number 9 = .ok (.iload_n 3, 1) := by decide +kernel
theorem dX5_number_10 : decode cX5_number 10 = .ok (.iconst 2, 1) := by decide +kernel
theorem dX5_number_11 : decode cX5_number 11 = .ok (.if_icmp .ge 58, 3) := by decide +kernel
theorem dX5_number_14 : decode cX5_number 14 = .ok (.aload_n 0, 1) := by decide +kernel
theorem dX5_number_15 : decode cX5_number 15 = .ok (.getfield 15, 3) := by decide +kernel
theorem dX5_number_18 : decode cX5_number 18 = .ok (.aload_n 0, 1) := by decide +kernel
theorem dX5_number_19 : decode cX5_number 19 = .ok (.getfield 37, 3) := by decide +kernel
theorem dX5_number_22 : decode cX5_number 22 = .ok (.invokevirtual 43, 3) := by decide +kernel
theorem dX5_number_25 : decode cX5_number 25 = .ok (.bipush 48, 2) := by decide +kernel
theorem dX5_number_27 : decode cX5_number 27 = .ok (.isub, 1) := by decide +kernel
theorem dX5_number_28 : decode cX5_number 28 = .ok (.istore 4, 2) := by decide +kernel
theorem dX5_number_30 : decode cX5_number 30 = .ok (.iload 4, 2) := by decide +kernel
theorem dX5_number_32 : decode cX5_number 32 = .ok (.ifCond .lt 37, 3) := by decide +kernel
theorem dX5_number_35 : decode cX5_number 35 = .ok (.iload 4, 2) := by decide +kernel
theorem dX5_number_37 : decode cX5_number 37 = .ok (.bipush 9, 2) := by decide +kernel
theorem dX5_number_39 : decode cX5_number 39 = .ok (.if_icmp .le 6, 3) := by decide +kernel
theorem dX5_number_42 : decode cX5_number 42 = .ok (.goto 27, 3) := by decide +kernel
theorem dX5_number_45 : decode cX5_number 45 = .ok (.iload_n 2, 1) := by decide +kernel
theorem dX5_number_46 : decode cX5_number 46 = .ok (.bipush 10, 2) := by decide +kernel
theorem dX5_number_48 : decode cX5_number 48 = .ok (.imul, 1) := by decide +kernel
theorem dX5_number_49 : decode cX5_number 49 = .ok (.iload 4, 2) := by decide +kernel
theorem dX5_number_51 : decode cX5_number 51 = .ok (.iadd, 1) := by decide +kernel
theorem dX5_number_52 : decode cX5_number 52 = .ok (.istore_n 2, 1) := by decide +kernel
theorem dX5_number_53 : decode cX5_number 53 = .ok (.aload_n 0, 1) := by decide +kernel
theorem dX5_number_54 : decode cX5_number 54 = .ok (.dup, 1) := by decide +kernel
theorem dX5_number_55 : decode cX5_number 55 = .ok (.getfield 37, 3) := by decide +kernel
theorem dX5_number_58 : decode cX5_number 58 = .ok (.iconst 1, 1) := by decide +kernel
theorem dX5_number_59 : decode cX5_number 59 = .ok (.iadd, 1) := by decide +kernel
theorem dX5_number_60 : decode cX5_number 60 = .ok (.putfield 37, 3) := by decide +kernel
theorem dX5_number_63 : decode cX5_number 63 = .ok (.iinc 3 1, 3) := by decide +kernel
theorem dX5_number_66 : decode cX5_number 66 = .ok (.goto (-57), 3) := by decide +kernel
theorem dX5_number_69 : decode cX5_number 69 = .ok (.aload_n 0, 1) := by decide +kernel
theorem dX5_number_70 : decode cX5_number 70 = .ok (.getfield 37, 3) := by decide +kernel
theorem dX5_number_73 : decode cX5_number 73 = .ok (.iload_n 1, 1) := by decide +kernel
theorem dX5_number_74 : decode cX5_number 74 = .ok (.if_icmp .ne 14, 3) := by decide +kernel
theorem dX5_number_77 : decode cX5_number 77 = .ok (.aload_n 0, 1) := by decide +kernel
theorem dX5_number_78 : decode cX5_number 78 = .ok (.aload_n 0, 1) := by decide +kernel
theorem dX5_number_79 : decode cX5_number 79 = .ok (.getfield 37, 3) := by decide +kernel
theorem dX5_number_82 : decode cX5_number 82 = .ok (.invokevirtual 40, 3) := by decide +kernel
theorem dX5_number_85 : decode cX5_number 85 = .ok (.goto 4, 3) := by decide +kernel
theorem dX5_number_88 : decode cX5_number 88 = .ok (.iload_n 2, 1) := by decide +kernel
theorem dX5_number_89 : decode cX5_number 89 = .ok (.ireturn, 1) := by decide +kernel
theorem dX5_repeated_0 : decode cX5_repeated 0 = .ok (.iconst 1, 1) := by decide +kernel
theorem dX5_repeated_1 : decode cX5_repeated 1 = .ok (.istore 4, 2) := by decide +kernel
theorem dX5_repeated_3 : decode cX5_repeated 3 = .ok (.aload_n 0, 1) := by decide +kernel
theorem dX5_repeated_4 : decode cX5_repeated 4 = .ok (.bipush 63, 2) := by decide +kernel
theorem dX5_repeated_6 : decode cX5_repeated 6 = .ok (.invokevirtual 49, 3) := by decide +kernel
theorem dX5_repeated_9 : decode cX5_repeated 9 = .ok (.ifCond .eq 16, 3) := by decide +kernel
theorem dX5_repeated_12 : decode cX5_repeated 12 = .ok (.aload_n 0, 1) := by decide +kernel
theorem dX5_repeated_13 : decode cX5_repeated 13 = .ok (.dup, 1) := by decide +kernel
theorem dX5_repeated_14 : decode cX5_repeated 14 = .ok (.getfield 37, 3) := by decide +kernel
theorem dX5_repeated_17 : decode cX5_repeated 17 = .ok (.iconst 1, 1) := by decide +kernel
theorem dX5_repeated_18 : decode cX5_repeated 18 = .ok (.iadd, 1) := by decide +kernel
theorem dX5_repeated_19 : decode cX5_repeated 19 = .ok (.putfield 37, 3) := by decide +kernel
theorem dX5_repeated_22 : decode cX5_repeated 22 = .ok (.iconst 0, 1) := by decide +kernel
theorem dX5_repeated_23 : decode cX5_repeated 23 = .ok (.istore 4, 2) := by decide +kernel
theorem dX5_repeated_25 : decode cX5_repeated 25 = .ok (.aload_n 0, 1) := by decide +kernel
theorem dX5_repeated_26 : decode cX5_repeated 26 = .ok (.getfield 29, 3) := by decide +kernel
theorem dX5_repeated_29 : decode cX5_repeated 29 = .ok (.iload_n 1, 1) := by decide +kernel
theorem dX5_repeated_30 : decode cX5_repeated 30 = .ok (.iload_n 2, 1) := by decide +kernel
theorem dX5_repeated_31 : decode cX5_repeated 31 = .ok (.iload_n 3, 1) := by decide +kernel
theorem dX5_repeated_32 : decode cX5_repeated 32 = .ok (.iload 4, 2) := by decide +kernel
theorem dX5_repeated_34 : decode cX5_repeated 34 = .ok (.invokevirtual 96, 3) := by decide +kernel
theorem dX5_repeated_37 : decode cX5_repeated 37 = .ok (.ireturn, 1) := by decide +kernel
theorem dX6_init_0 : decode cX6_init 0 = .ok (.aload_n 0, 1) := by decide +kernel
theorem dX6_init_1 : decode cX6_init 1 = .ok (.invokespecial 3, 3) := by decide +kernel
theorem dX6_init_4 : decode cX6_init 4 = .ok (.aload_n 0, 1) := by decide +kernel
theorem dX6_init_5 : decode cX6_init 5 = .ok (.bipush 32, 2) := by decide +kernel
theorem dX6_init_7 : decode cX6_init 7 = .ok (.newarray .int, 2) := by decide +kernel
theorem dX6_init_9 : decode cX6_init 9 = .ok (.putfield 9, 3) := by decide +kernel
theorem dX6_init_12 : decode cX6_init 12 = .ok (.aload_n 0, 1) := by decide +kernel
theorem dX6_init_13 : decode cX6_init 13 = .ok (.sipush 256, 3) := by decide +kernel
theorem dX6_init_16 : decode cX6_init 16 = .ok (.newarray .int, 2) := by decide +kernel
theorem dX6_init_18 : decode cX6_init 18 = .ok (.putfield 15, 3) := by decide +kernel
theorem dX6_init_21 : decode cX6_init 21 = .ok (.aload_n 0, 1) := by decide +kernel
theorem dX6_init_22 : decode cX6_init 22 = .ok (.sipush 320, 3) := by decide +kernel
theorem dX6_init_25 : decode cX6_init 25 = .ok (.newarray .int, 2) := by decide +kernel
theorem dX6_init_27 : decode cX6_init 27 = .ok (.putfield 18, 3) := by decide +kernel
theorem dX6_init_30 : decode cX6_init 30 = .ok (.aload_n 0, 1) := by decide +kernel
theorem dX6_init_31 : decode cX6_init 31 = .ok (.aload_n 1, 1) := by decide +kernel
theorem dX6_init_32 : decode cX6_init 32 = .ok (.putfield 21, 3) := by decide +kernel
theorem dX6_init_35 : decode cX6_init 35 = .ok (.return_, 1) := by decide +kernel
theorem dX6_letterAt_0 : decode cX6_letterAt 0 = .ok (.iload_n 1, 1) := by decide +kernel
theorem dX6_letterAt_1 : decode cX6_letterAt 1 = .ok (.ifCond .lt 9, 3) := by decide +kernel
theorem dX6_letterAt_4 : decode cX6_letterAt 4 = .ok (.iload_n 1, 1) := by decide +kernel
theorem dX6_letterAt_5 : decode cX6_letterAt 5 = .ok (.bipush 32, 2) := by decide +kernel
theorem dX6_letterAt_7 : decode cX6_letterAt 7 = .ok (.if_icmp .lt 8, 3) := by decide +kernel
theorem dX6_letterAt_10 : decode cX6_letterAt 10 = .ok (.bipush (-5), 2) := by decide +kernel
theorem dX6_letterAt_12 : decode cX6_letterAt 12 = .ok (.goto 9, 3) := by decide +kernel
theorem dX6_letterAt_15 : decode cX6_letterAt 15 = .ok (.aload_n 0, 1) := by decide +kernel
theorem dX6_letterAt_16 : decode cX6_letterAt 16 = .ok (.getfield 9, 3) := by decide +kernel
theorem dX6_letterAt_19 : decode cX6_letterAt 19 = .ok (.iload_n 1, 1) := by decide +kernel
theorem dX6_letterAt_20 : decode cX6_letterAt 20 = .ok (.iaload, 1) := by decide +kernel
theorem dX6_letterAt_21 : decode cX6_letterAt 21 = .ok (.ireturn, 1) := by decide +kernel
theorem dX6_seek_0 : decode cX6_seek 0 = .ok (.aload_n 0, 1) := by decide +kernel
theorem dX6_seek_1 : decode cX6_seek 1 = .ok (.getfield 21, 3) := by decide +kernel
theorem dX6_seek_4 : decode cX6_seek 4 = .ok (.getfield 25, 3) := by decide +kernel
theorem dX6_seek_7 : decode cX6_seek 7 = .ok (.astore_n 3, 1) := by decide +kernel
theorem dX6_seek_8 : decode cX6_seek 8 = .ok (.iload_n 1, 1) := by decide +kernel
theorem dX6_seek_9 : decode cX6_seek 9 = .ok (.ifCond .lt 17, 3) := by decide +kernel
theorem dX6_seek_12 : decode cX6_seek 12 = .ok (.iload_n 1, 1) := by decide +kernel
theorem dX6_seek_13 : decode cX6_seek 13 = .ok (.aload_n 0, 1) := by decide +kernel
theorem dX6_seek_14 : decode cX6_seek 14 = .ok (.getfield 21, 3) := by decide +kernel
theorem dX6_seek_17 : decode cX6_seek 17 = .ok (.getfield 31, 3) := by decide +kernel
theorem dX6_seek_20 : decode cX6_seek 20 = .ok (.getfield 35, 3) := by decide +kernel
theorem dX6_seek_23 : decode cX6_seek 23 = .ok (.if_icmp .le 5, 3) := by decide +kernel
theorem dX6_seek_26 : decode cX6_seek 26 = .ok (.iconst (-1), 1) := by decide +kernel
theorem dX6_seek_27 : decode cX6_seek 27 = .ok (.ireturn, 1) := by decide +kernel
theorem dX6_seek_28 : decode cX6_seek 28 = .ok (.aload_n 3, 1) := by decide +kernel
theorem dX6_seek_29 : decode cX6_seek 29 = .ok (.ifnonnull 6, 3) := by decide +kernel
theorem dX6_seek_32 : decode cX6_seek 32 = .ok (.bipush (-3), 2) := by decide +kernel
theorem dX6_seek_34 : decode cX6_seek 34 = .ok (.ireturn, 1) := by decide +kernel
theorem dX6_seek_35 : decode cX6_seek 35 = .ok (.aload_n 0, 1) := by decide +kernel
theorem dX6_seek_36 : decode cX6_seek 36 = .ok (.iload_n 1, 1) := by decide +kernel
theorem dX6_seek_37 : decode cX6_seek 37 = .ok (.aload_n 3, 1) := by decide +kernel
theorem dX6_seek_38 : decode cX6_seek 38 = .ok (.getfield 41, 3) := by decide +kernel
theorem dX6_seek_41 : decode cX6_seek 41 = .ok (.iconst 1, 1) := by decide +kernel
theorem dX6_seek_42 : decode cX6_seek 42 = .ok (.isub, 1) := by decide +kernel
theorem dX6_seek_43 : decode cX6_seek 43 = .ok (.invokevirtual 46, 3) := by decide +kernel
theorem dX6_seek_46 : decode cX6_seek 46 = .ok (.iconst 0, 1) := by decide +kernel
theorem dX6_seek_47 : decode cX6_seek 47 = .ok (.istore 4, 2) := by decide +kernel
theorem dX6_seek_49 : decode cX6_seek 49 = .ok (.iconst 0, 1) := by decide +kernel
theorem dX6_seek_50 : decode cX6_seek 50 = .ok (.istore 5, 2) := by decide +kernel
theorem dX6_seek_52 : decode cX6_seek 52 = .ok (.iload 5, 2) := by decide +kernel
theorem dX6_seek_54 : decode cX6_seek 54 = .ok (.ldc 50, 2) := by decide +kernel
theorem dX6_seek_56 : decode cX6_seek 56 = .ok (.if_icmp .ge 106, 3) := by decide +kernel
theorem dX6_seek_59 : decode cX6_seek 59 = .ok (.iload 4, 2) := by decide +kernel
theorem dX6_seek_61 : decode cX6_seek 61 = .ok (.ifCond .ne 13, 3) := by decide +kernel
theorem dX6_seek_64 : decode cX6_seek 64 = .ok (.aload_n 0, 1) := by decide +kernel
theorem dX6_seek_65 : decode cX6_seek 65 = .ok (.aload_n 3, 1) := by decide +kernel
theorem dX6_seek_66 : decode cX6_seek 66 = .ok (.invokevirtual 51, 3) := by decide +kernel
theorem dX6_seek_69 : decode cX6_seek 69 = .ok (.istore 4, 2) := by decide +kernel
theorem dX6_seek_71 : decode cX6_seek 71 = .ok (.goto 85, 3) := by decide +kernel
theorem dX6_seek_74 : decode cX6_seek 74 = .ok (.iload 4, 2) := by decide +kernel
theorem dX6_seek_76 : decode cX6_seek 76 = .ok (.iconst 1, 1) := by decide +kernel
theorem dX6_seek_77 : decode cX6_seek 77 = .ok (.if_icmp .ne 20, 3) := by decide +kernel
theorem dX6_seek_80 : decode cX6_seek 80 = .ok (.aload_n 0, 1) := by decide +kernel
theorem dX6_seek_81 : decode cX6_seek 81 = .ok (.getfield 55, 3) := by decide +kernel
theorem dX6_seek_84 : decode cX6_seek 84 = .ok (.ifCond .lt 13, 3) := by decide +kernel
theorem dX6_seek_87 : decode cX6_seek 87 = .ok (.aload_n 0, 1) := by decide +kernel
theorem dX6_seek_88 : decode cX6_seek 88 = .ok (.aload_n 3, 1) := by decide +kernel
theorem dX6_seek_89 : decode cX6_seek 89 = .ok (.invokevirtual 58, 3) := by decide +kernel
theorem dX6_seek_92 : decode cX6_seek 92 = .ok (.istore 4, 2) := by decide +kernel
theorem dX6_seek_94 : decode cX6_seek 94 = .ok (.goto 62, 3) := by decide +kernel
theorem dX6_seek_97 : decode cX6_seek 97 = .ok (.iload 4, 2) := by decide +kernel
theorem dX6_seek_99 : decode cX6_seek 99 = .ok (.iconst 1, 1) := by decide +kernel
theorem dX6_seek_100 : decode cX6_seek 100 = .ok (.if_icmp .ne 28, 3) := by decide +kernel
theorem dX6_seek_103 : decode cX6_seek 103 = .ok (.aload_n 0, 1) := by decide +kernel
theorem dX6_seek_104 : decode cX6_seek 104 = .ok (.invokevirtual 61, 3) := by decide +kernel
theorem dX6_seek_107 : decode cX6_seek 107 = .ok (.iload_n 2, 1) := by decide +kernel
theorem dX6_seek_108 : decode cX6_seek 108 = .ok (.iconst (-1), 1) := by decide +kernel
theorem dX6_seek_109 : decode cX6_seek 109 = .ok (.if_icmp .eq 11, 3) := by decide +kernel
theorem dX6_seek_112 : decode cX6_seek 112 = .ok (.iload_n 2, 1) := by decide +kernel
theorem dX6_seek_113 : decode cX6_seek 113 = .ok (.aload_n 0, 1) := by decide +kernel
theorem dX6_seek_114 : decode cX6_seek 114 = .ok (.getfield 64, 3) := by decide +kernel
theorem dX6_seek_117 : decode cX6_seek 117 = .ok (.if_icmp .ne 5, 3) := by decide +kernel
theorem dX6_seek_120 : decode cX6_seek 120 = .ok (.iconst 1, 1) := by decide +kernel
theorem dX6_seek_121 : decode cX6_seek 121 = .ok (.ireturn, 1) := by decide +kernel
theorem dX6_seek_122 : decode cX6_seek 122 = .ok (.iconst 2, 1) := by decide +kernel
theorem dX6_seek_123 : decode cX6_seek 123 = .ok (.istore 4, 2) := by decide +kernel
theorem dX6_seek_125 : decode cX6_seek 125 = .ok (.goto 31, 3) := by decide +kernel
theorem dX6_seek_128 : decode cX6_seek 128 = .ok (.iload 4, 2) := by decide +kernel
theorem dX6_seek_130 : decode cX6_seek 130 = .ok (.iconst 3, 1) := by decide +kernel
theorem dX6_seek_131 : decode cX6_seek 131 = .ok (.if_icmp .ne 6, 3) := by decide +kernel
theorem dX6_seek_134 : decode cX6_seek 134 = .ok (.bipush (-7), 2) := by decide +kernel
theorem dX6_seek_136 : decode cX6_seek 136 = .ok (.ireturn, 1) := by decide +kernel
theorem dX6_seek_137 : decode cX6_seek 137 = .ok (.aload_n 0, 1) := by decide +kernel
theorem dX6_seek_138 : decode cX6_seek 138 = .ok (.getfield 67, 3) := by decide +kernel
theorem dX6_seek_141 : decode cX6_seek 141 = .ok (.ifCond .le 13, 3) := by decide +kernel
theorem dX6_seek_144 : decode cX6_seek 144 = .ok (.aload_n 0, 1) := by decide +kernel
theorem dX6_seek_145 : decode cX6_seek 145 = .ok (.aload_n 3, 1) := by decide +kernel
theorem dX6_seek_146 : decode cX6_seek 146 = .ok (.invokevirtual 70, 3) := by decide +kernel
theorem dX6_seek_149 : decode cX6_seek 149 = .ok (.istore 4, 2) := by decide +kernel
theorem dX6_seek_151 : decode cX6_seek 151 = .ok (.goto 5, 3) := by decide +kernel
theorem dX6_seek_154 : decode cX6_seek 154 = .ok (.iconst 0, 1) := by decide +kernel
theorem dX6_seek_155 : decode cX6_seek 155 = .ok (.ireturn, 1) := by decide +kernel
theorem dX6_seek_156 : decode cX6_seek 156 = .ok (.iinc 5 1, 3) := by decide +kernel
theorem dX6_seek_159 : decode cX6_seek 159 = .ok (.goto (-107), 3) := by decide +kernel
theorem dX6_seek_162 : decode cX6_seek 162 = .ok (.bipush (-7), 2) := by decide +kernel
theorem dX6_seek_164 : decode cX6_seek 164 = .ok (.ireturn, 1) := by decide +kernel
theorem dX6_begin_0 : decode cX6_begin 0 = .ok (.aload_n 0, 1) := by decide +kernel
theorem dX6_begin_1 : decode cX6_begin 1 = .ok (.iload_n 1, 1) := by decide +kernel
theorem dX6_begin_2 : decode cX6_begin 2 = .ok (.putfield 73, 3) := by decide +kernel
theorem dX6_begin_5 : decode cX6_begin 5 = .ok (.aload_n 0, 1) := by decide +kernel
theorem dX6_begin_6 : decode cX6_begin 6 = .ok (.iload_n 1, 1) := by decide +kernel
theorem dX6_begin_7 : decode cX6_begin 7 = .ok (.putfield 64, 3) := by decide +kernel
theorem dX6_begin_10 : decode cX6_begin 10 = .ok (.aload_n 0, 1) := by decide +kernel
theorem dX6_begin_11 : decode cX6_begin 11 = .ok (.iload_n 2, 1) := by decide +kernel
theorem dX6_begin_12 : decode cX6_begin 12 = .ok (.putfield 76, 3) := by decide +kernel
theorem dX6_begin_15 : decode cX6_begin 15 = .ok (.aload_n 0, 1) := by decide +kernel
theorem dX6_begin_16 : decode cX6_begin 16 = .ok (.iconst (-1), 1) := by decide +kernel
theorem dX6_begin_17 : decode cX6_begin 17 = .ok (.putfield 55, 3) := by decide +kernel
theorem dX6_begin_20 : decode cX6_begin 20 = .ok (.aload_n 0, 1) := by decide +kernel
theorem dX6_begin_21 : decode cX6_begin 21 = .ok (.iconst 0, 1) := by decide +kernel
theorem dX6_begin_22 : decode cX6_begin 22 = .ok (.putfield 79, 3) := by decide +kernel
theorem dX6_begin_25 : decode cX6_begin 25 = .ok (.aload_n 0, 1) := by decide +kernel
theorem dX6_begin_26 : decode cX6_begin 26 = .ok (.iconst 0, 1) := by decide +kernel
theorem dX6_begin_27 : decode cX6_begin 27 = .ok (.putfield 67, 3) := by decide +kernel
theorem dX6_begin_30 : decode cX6_begin 30 = .ok (.aload_n 0, 1) := by decide +kernel
theorem dX6_begin_31 : decode cX6_begin 31 = .ok (.iconst 0, 1) := by decide +kernel
theorem dX6_begin_32 : decode cX6_begin 32 = .ok (.putfield 82, 3) := by decide +kernel
theorem dX6_begin_35 : decode cX6_begin 35 = .ok (.aload_n 0, 1) := by decide +kernel
theorem dX6_begin_36 : decode cX6_begin 36 = .ok (.iconst 0, 1) := by decide +kernel
theorem dX6_begin_37 : decode cX6_begin 37 = .ok (.putfield 85, 3) := by decide +kernel
theorem dX6_begin_40 : decode cX6_begin 40 = .ok (.aload_n 0, 1) := by decide +kernel
theorem dX6_begin_41 : decode cX6_begin 41 = .ok (.iconst 0, 1) := by decide +kernel
theorem dX6_begin_42 : decode cX6_begin 42 = .ok (.putfield 88, 3) := by decide +kernel
theorem dX6_begin_45 : decode cX6_begin 45 = .ok (.aload_n 0, 1) := by decide +kernel
theorem dX6_begin_46 : decode cX6_begin 46 = .ok (.iconst 0, 1) := by decide +kernel
theorem dX6_begin_47 : decode cX6_begin 47 = .ok (.putfield 91, 3) := by decide +kernel
theorem dX6_begin_50 : decode cX6_begin 50 = .ok (.return_, 1) := by decide +kernel
theorem dX6_noteWay_0 : decode cX6_noteWay 0 = .ok (.aload_n 0, 1) := by decide +kernel
theorem dX6_noteWay_1 : decode cX6_noteWay 1 = .ok (.getfield 64, 3) := by decide +kernel
theorem dX6_noteWay_4 : decode cX6_noteWay 4 = .ok (.aload_n 0, 1) := by decide +kernel
theorem dX6_noteWay_5 : decode cX6_noteWay 5 = .ok (.getfield 73, 3) := by decide +kernel
theorem dX6_noteWay_8 : decode cX6_noteWay 8 = .ok (.isub, 1) := by decide +kernel
theorem dX6_noteWay_9 : decode cX6_noteWay 9 = .ok (.istore_n 1, 1) := by decide +kernel
theorem dX6_noteWay_10 : decode cX6_noteWay 10 = .ok (.aload_n 0, 1) := by decide +kernel
theorem dX6_noteWay_11 : decode cX6_noteWay 11 = .ok (.aload_n 0, 1) := by decide +kernel
theorem dX6_noteWay_12 : decode cX6_noteWay 12 = .ok (.getfield 85, 3) := by decide +kernel
theorem dX6_noteWay_15 : decode cX6_noteWay 15 = .ok (.ifCond .ne 7, 3) := by decide +kernel
theorem dX6_noteWay_18 : decode cX6_noteWay 18 = .ok (.iload_n 1, 1) := by decide +kernel
theorem dX6_noteWay_19 : decode cX6_noteWay 19 = .ok (.goto 11, 3) := by decide +kernel
theorem dX6_noteWay_22 : decode cX6_noteWay 22 = .ok (.aload_n 0, 1) := by decide +kernel
theorem dX6_noteWay_23 : decode cX6_noteWay 23 = .ok (.getfield 88, 3) := by decide +kernel
theorem dX6_noteWay_26 : decode cX6_noteWay 26 = .ok (.iload_n 1, 1) := by decide +kernel
theorem dX6_noteWay_27 : decode cX6_noteWay 27 = .ok (.invokestatic 94, 3) := by decide +kernel
theorem dX6_noteWay_30 : decode cX6_noteWay 30 = .ok (.putfield 88, 3) := by decide +kernel
theorem dX6_noteWay_33 : decode cX6_noteWay 33 = .ok (.aload_n 0, 1) := by decide +kernel
theorem dX6_noteWay_34 : decode cX6_noteWay 34 = .ok (.aload_n 0, 1) := by decide +kernel
theorem dX6_noteWay_35 : decode cX6_noteWay 35 = .ok (.getfield 91, 3) := by decide +kernel
theorem dX6_noteWay_38 : decode cX6_noteWay 38 = .ok (.iload_n 1, 1) := by decide +kernel
theorem dX6_noteWay_39 : decode cX6_noteWay 39 = .ok (.invokestatic 100, 3) := by decide +kernel
theorem dX6_noteWay_42 : decode cX6_noteWay 42 = .ok (.putfield 91, 3) := by decide +kernel
theorem dX6_noteWay_45 : decode cX6_noteWay 45 = .ok (.aload_n 0, 1) := by decide +kernel
theorem dX6_noteWay_46 : decode cX6_noteWay 46 = .ok (.dup, 1) := by decide +kernel
theorem dX6_noteWay_47 : decode cX6_noteWay 47 = .ok (.getfield 85, 3) := by decide +kernel
theorem dX6_noteWay_50 : decode cX6_noteWay 50 = .ok (.iconst 1, 1) := by decide +kernel
theorem dX6_noteWay_51 : decode cX6_noteWay 51 = .ok (.iadd, 1) := by decide +kernel
theorem dX6_noteWay_52 : decode cX6_noteWay 52 = .ok (.putfield 85, 3) := by decide +kernel
theorem dX6_noteWay_55 : decode cX6_noteWay 55 = .ok (.return_, 1) := by decide +kernel
theorem dX6_mayTry_0 : decode cX6_mayTry 0 = .ok (.aload_n 0, 1) := by decide +kernel
theorem dX6_mayTry_1 : decode cX6_mayTry 1 = .ok (.dup, 1) := by decide +kernel
theorem dX6_mayTry_2 : decode cX6_mayTry 2 = .ok (.getfield 82, 3) := by decide +kernel
theorem dX6_mayTry_5 : decode cX6_mayTry 5 = .ok (.iconst 1, 1) := by decide +kernel
theorem dX6_mayTry_6 : decode cX6_mayTry 6 = .ok (.iadd, 1) := by decide +kernel
theorem dX6_mayTry_7 : decode cX6_mayTry 7 = .ok (.putfield 82, 3) := by decide +kernel
theorem dX6_mayTry_10 : decode cX6_mayTry 10 = .ok (.aload_n 0, 1) := by decide +kernel
theorem dX6_mayTry_11 : decode cX6_mayTry 11 = .ok (.getfield 82, 3) := by decide +kernel
theorem dX6_mayTry_14 : decode cX6_mayTry 14 = .ok (.aload_n 0, 1) := by decide +kernel
theorem dX6_mayTry_15 : decode cX6_mayTry 15 = .ok (.getfield 21, 3) := by decide +kernel
theorem dX6_mayTry_18 : decode cX6_mayTry 18 = .ok (.getfield 103, 3) := by decide +kernel
theorem dX6_mayTry_21 : decode cX6_mayTry 21 = .ok (.if_icmp .gt 7, 3) := by decide +kernel
theorem dX6_mayTry_24 : decode cX6_mayTry 24 = .ok (.iconst 1, 1) := by decide +kernel
theorem dX6_mayTry_25 : decode cX6_mayTry 25 = .ok (.goto 4, 3) := by decide +kernel
theorem dX6_mayTry_28 : decode cX6_mayTry 28 = .ok (.iconst 0, 1) := by decide +kernel
theorem dX6_mayTry_29 : decode cX6_mayTry 29 = .ok (.ireturn, 1) := by decide +kernel
theorem dX6_come_0 : decode cX6_come 0 = .ok (.aload_n 1, 1) := by decide +kernel
theorem dX6_come_1 : decode cX6_come 1 = .ok (.aload_n 0, 1) := by decide +kernel
theorem dX6_come_2 : decode cX6_come 2 = .ok (.getfield 76, 3) := by decide +kernel
theorem dX6_come_5 : decode cX6_come 5 = .ok (.iconst 0, 1) := by decide +kernel
theorem dX6_come_6 : decode cX6_come 6 = .ok (.invokevirtual 106, 3) := by decide +kernel
theorem dX6_come_9 : decode cX6_come 9 = .ok (.istore_n 2, 1) := by decide +kernel
theorem dX6_come_10 : decode cX6_come 10 = .ok (.iload_n 2, 1) := by decide +kernel
theorem dX6_come_11 : decode cX6_come 11 = .ok (.iconst 3, 1) := by decide +kernel
theorem dX6_come_12 : decode cX6_come 12 = .ok (.if_icmp .ne 19, 3) := by decide +kernel
theorem dX6_come_15 : decode cX6_come 15 = .ok (.aload_n 0, 1) := by decide +kernel
theorem dX6_come_16 : decode cX6_come 16 = .ok (.aload_n 1, 1) := by decide +kernel
theorem dX6_come_17 : decode cX6_come 17 = .ok (.aload_n 1, 1) := by decide +kernel
theorem dX6_come_18 : decode cX6_come 18 = .ok (.aload_n 0, 1) := by decide +kernel
theorem dX6_come_19 : decode cX6_come 19 = .ok (.getfield 76, 3) := by decide +kernel
theorem dX6_come_22 : decode cX6_come 22 = .ok (.bipush 7, 2) := by decide +kernel
theorem dX6_come_24 : decode cX6_come 24 = .ok (.invokevirtual 106, 3) := by decide +kernel
theorem dX6_come_27 : decode cX6_come 27 = .ok (.invokevirtual 109, 3) := by decide +kernel
theorem dX6_come_30 : decode cX6_come 30 = .ok (.ireturn, 1) := by decide +kernel
theorem dX6_come_31 : decode cX6_come 31 = .ok (.aload_n 0, 1) := by decide +kernel
theorem dX6_come_32 : decode cX6_come 32 = .ok (.invokevirtual 113, 3) := by decide +kernel
theorem dX6_come_35 : decode cX6_come 35 = .ok (.ifCond .ne 5, 3) := by decide +kernel
theorem dX6_come_38 : decode cX6_come 38 = .ok (.iconst 3, 1) := by decide +kernel
theorem dX6_come_39 : decode cX6_come 39 = .ok (.ireturn, 1) := by decide +kernel
theorem dX6_come_40 : decode cX6_come 40 = .ok (.iload_n 2, 1) := by decide +kernel
theorem dX6_come_41 : decode cX6_come 41 = .ok (.tableswitch 113 0 5 #[39, 53, 66, 113, 89, 105], 39) := by decide +kernel
theorem dX6_come_80 : decode cX6_come 80 = .ok (.aload_n 0, 1) := by decide +kernel
theorem dX6_come_81 : decode cX6_come 81 = .ok (.aload_n 1, 1) := by decide +kernel
theorem dX6_come_82 : decode cX6_come 82 = .ok (.aload_n 0, 1) := by decide +kernel
theorem dX6_come_83 : decode cX6_come 83 = .ok (.getfield 76, 3) := by decide +kernel
theorem dX6_come_86 : decode cX6_come 86 = .ok (.iconst 1, 1) := by decide +kernel
theorem dX6_come_87 : decode cX6_come 87 = .ok (.invokevirtual 106, 3) := by decide +kernel
theorem dX6_come_90 : decode cX6_come 90 = .ok (.invokevirtual 117, 3) := by decide +kernel
theorem dX6_come_93 : decode cX6_come 93 = .ok (.ireturn, 1) := by decide +kernel
theorem dX6_come_94 : decode cX6_come 94 = .ok (.aload_n 0, 1) := by decide +kernel
theorem dX6_come_95 : decode cX6_come 95 = .ok (.getfield 64, 3) := by decide +kernel
theorem dX6_come_98 : decode cX6_come 98 = .ok (.ifCond .ne 7, 3) := by decide +kernel
theorem dX6_come_101 : decode cX6_come 101 = .ok (.iconst 1, 1) := by decide +kernel
theorem dX6_come_102 : decode cX6_come 102 = .ok (.goto 4, 3) := by decide +kernel
theorem dX6_come_105 : decode cX6_come 105 = .ok (.iconst 2, 1) := by decide +kernel
theorem dX6_come_106 : decode cX6_come 106 = .ok (.ireturn, 1) := by decide +kernel
theorem dX6_come_107 : decode cX6_come 107 = .ok (.aload_n 0, 1) := by decide +kernel
theorem dX6_come_108 : decode cX6_come 108 = .ok (.getfield 64, 3) := by decide +kernel
theorem dX6_come_111 : decode cX6_come 111 = .ok (.aload_n 0, 1) := by decide +kernel
theorem dX6_come_112 : decode cX6_come 112 = .ok (.getfield 21, 3) := by decide +kernel
theorem dX6_come_115 : decode cX6_come 115 = .ok (.getfield 31, 3) := by decide +kernel
theorem dX6_come_118 : decode cX6_come 118 = .ok (.getfield 35, 3) := by decide +kernel
theorem dX6_come_121 : decode cX6_come 121 = .ok (.if_icmp .ne 7, 3) := by decide +kernel
theorem dX6_come_124 : decode cX6_come 124 = .ok (.iconst 1, 1) := by decide +kernel
theorem dX6_come_125 : decode cX6_come 125 = .ok (.goto 4, 3) := by decide +kernel
theorem dX6_come_128 : decode cX6_come 128 = .ok (.iconst 2, 1) := by decide +kernel
theorem dX6_come_129 : decode cX6_come 129 = .ok (.ireturn, 1) := by decide +kernel
theorem dX6_come_130 : decode cX6_come 130 = .ok (.aload_n 0, 1) := by decide +kernel
theorem dX6_come_131 : decode cX6_come 131 = .ok (.aload_n 1, 1) := by decide +kernel
theorem dX6_come_132 : decode cX6_come 132 = .ok (.aload_n 1, 1) := by decide +kernel
theorem dX6_come_133 : decode cX6_come 133 = .ok (.aload_n 0, 1) := by decide +kernel
theorem dX6_come_134 : decode cX6_come 134 = .ok (.getfield 76, 3) := by decide +kernel
theorem dX6_come_137 : decode cX6_come 137 = .ok (.bipush 7, 2) := by decide +kernel
theorem dX6_come_139 : decode cX6_come 139 = .ok (.invokevirtual 106, 3) := by decide +kernel
theorem dX6_come_142 : decode cX6_come 142 = .ok (.invokevirtual 121, 3) := by decide +kernel
theorem dX6_come_145 : decode cX6_come 145 = .ok (.ireturn, 1) := by decide +kernel
theorem dX6_come_146 : decode cX6_come 146 = .ok (.aload_n 0, 1) := by decide +kernel
theorem dX6_come_147 : decode cX6_come 147 = .ok (.aload_n 1, 1) := by decide +kernel
theorem dX6_come_148 : decode cX6_come 148 = .ok (.iconst 0, 1) := by decide +kernel
theorem dX6_come_149 : decode cX6_come 149 = .ok (.iconst (-1), 1) := by decide +kernel
theorem dX6_come_150 : decode cX6_come 150 = .ok (.invokevirtual 124, 3) := by decide +kernel
theorem dX6_come_153 : decode cX6_come 153 = .ok (.ireturn, 1) := by decide +kernel
theorem dX6_come_154 : decode cX6_come 154 = .ok (.aload_n 0, 1) := by decide +kernel
theorem dX6_come_155 : decode cX6_come 155 = .ok (.aload_n 1, 1) := by decide +kernel
theorem dX6_come_156 : decode cX6_come 156 = .ok (.iconst 0, 1) := by decide +kernel
theorem dX6_come_157 : decode cX6_come 157 = .ok (.iconst 0, 1) := by decide +kernel
theorem dX6_come_158 : decode cX6_come 158 = .ok (.invokevirtual 128, 3) := by decide +kernel
theorem dX6_come_161 : decode cX6_come 161 = .ok (.ireturn, 1) := by decide +kernel
theorem dX6_goOn_0 : decode cX6_goOn 0 = .ok (.aload_n 0, 1) := by decide +kernel
theorem dX6_goOn_1 : decode cX6_goOn 1 = .ok (.getfield 55, 3) := by decide +kernel
theorem dX6_goOn_4 : decode cX6_goOn 4 = .ok (.istore_n 2, 1) := by decide +kernel
theorem dX6_goOn_5 : decode cX6_goOn 5 = .ok (.aload_n 0, 1) := by decide +kernel
theorem dX6_goOn_6 : decode cX6_goOn 6 = .ok (.iload_n 2, 1) := by decide +kernel
theorem dX6_goOn_7 : decode cX6_goOn 7 = .ok (.iconst 2, 1) := by decide +kernel
theorem dX6_goOn_8 : decode cX6_goOn 8 = .ok (.invokevirtual 131, 3) := by decide +kernel
theorem dX6_goOn_11 : decode cX6_goOn 11 = .ok (.istore_n 3, 1) := by decide +kernel
theorem dX6_goOn_12 : decode cX6_goOn 12 = .ok (.aload_n 0, 1) := by decide +kernel
theorem dX6_goOn_13 : decode cX6_goOn 13 = .ok (.aload_n 0, 1) := by decide +kernel
theorem dX6_goOn_14 : decode cX6_goOn 14 = .ok (.iload_n 2, 1) := by decide +kernel
theorem dX6_goOn_15 : decode cX6_goOn 15 = .ok (.iconst 0, 1) := by decide +kernel
theorem dX6_goOn_16 : decode cX6_goOn 16 = .ok (.invokevirtual 131, 3) := by decide +kernel
theorem dX6_goOn_19 : decode cX6_goOn 19 = .ok (.putfield 76, 3) := by decide +kernel
theorem dX6_goOn_22 : decode cX6_goOn 22 = .ok (.aload_n 0, 1) := by decide +kernel
theorem dX6_goOn_23 : decode cX6_goOn 23 = .ok (.aload_n 0, 1) := by decide +kernel
theorem dX6_goOn_24 : decode cX6_goOn 24 = .ok (.iload_n 2, 1) := by decide +kernel
theorem dX6_goOn_25 : decode cX6_goOn 25 = .ok (.iconst 1, 1) := by decide +kernel
theorem dX6_goOn_26 : decode cX6_goOn 26 = .ok (.invokevirtual 131, 3) := by decide +kernel
theorem dX6_goOn_29 : decode cX6_goOn 29 = .ok (.putfield 55, 3) := by decide +kernel
theorem dX6_goOn_32 : decode cX6_goOn 32 = .ok (.aload_n 1, 1) := by decide +kernel
theorem dX6_goOn_33 : decode cX6_goOn 33 = .ok (.aload_n 0, 1) := by decide +kernel
theorem dX6_goOn_34 : decode cX6_goOn 34 = .ok (.getfield 76, 3) := by decide +kernel
theorem dX6_goOn_37 : decode cX6_goOn 37 = .ok (.iconst 0, 1) := by decide +kernel
theorem dX6_goOn_38 : decode cX6_goOn 38 = .ok (.invokevirtual 106, 3) := by decide +kernel
theorem dX6_goOn_41 : decode cX6_goOn 41 = .ok (.istore 4, 2) := by decide +kernel
theorem dX6_goOn_43 : decode cX6_goOn 43 = .ok (.iload 4, 2) := by decide +kernel
theorem dX6_goOn_45 : decode cX6_goOn 45 = .ok (.iconst 3, 1) := by decide +kernel
theorem dX6_goOn_46 : decode cX6_goOn 46 = .ok (.if_icmp .ne 16, 3) := by decide +kernel
theorem dX6_goOn_49 : decode cX6_goOn 49 = .ok (.aload_n 0, 1) := by decide +kernel
theorem dX6_goOn_50 : decode cX6_goOn 50 = .ok (.aload_n 1, 1) := by decide +kernel
theorem dX6_goOn_51 : decode cX6_goOn 51 = .ok (.aload_n 1, 1) := by decide +kernel
theorem dX6_goOn_52 : decode cX6_goOn 52 = .ok (.iload_n 3, 1) := by decide +kernel
theorem dX6_goOn_53 : decode cX6_goOn 53 = .ok (.bipush 8, 2) := by decide +kernel
theorem dX6_goOn_55 : decode cX6_goOn 55 = .ok (.invokevirtual 106, 3) := by decide +kernel
theorem dX6_goOn_58 : decode cX6_goOn 58 = .ok (.invokevirtual 109, 3) := by decide +kernel
theorem dX6_goOn_61 : decode cX6_goOn 61 = .ok (.ireturn, 1) := by decide +kernel
theorem dX6_goOn_62 : decode cX6_goOn 62 = .ok (.aload_n 0, 1) := by decide +kernel
theorem dX6_goOn_63 : decode cX6_goOn 63 = .ok (.invokevirtual 113, 3) := by decide +kernel
theorem dX6_goOn_66 : decode cX6_goOn 66 = .ok (.ifCond .ne 5, 3) := by decide +kernel
theorem dX6_goOn_69 : decode cX6_goOn 69 = .ok (.iconst 3, 1) := by decide +kernel
theorem dX6_goOn_70 : decode cX6_goOn 70 = .ok (.ireturn, 1) := by decide +kernel
theorem dX6_goOn_71 : decode cX6_goOn 71 = .ok (.iload 4, 2) := by decide +kernel
theorem dX6_goOn_73 : decode cX6_goOn 73 = .ok (.iconst 5, 1) := by decide +kernel
theorem dX6_goOn_74 : decode cX6_goOn 74 = .ok (.if_icmp .ne 18, 3) := by decide +kernel
theorem dX6_goOn_77 : decode cX6_goOn 77 = .ok (.aload_n 0, 1) := by decide +kernel
theorem dX6_goOn_78 : decode cX6_goOn 78 = .ok (.aload_n 1, 1) := by decide +kernel
theorem dX6_goOn_79 : decode cX6_goOn 79 = .ok (.iload_n 3, 1) := by decide +kernel
theorem dX6_goOn_80 : decode cX6_goOn 80 = .ok (.aload_n 0, 1) := by decide +kernel
theorem dX6_goOn_81 : decode cX6_goOn 81 = .ok (.iload_n 2, 1) := by decide +kernel
theorem dX6_goOn_82 : decode cX6_goOn 82 = .ok (.iconst 3, 1) := by decide +kernel
theorem dX6_goOn_83 : decode cX6_goOn 83 = .ok (.invokevirtual 131, 3) := by decide +kernel
theorem dX6_goOn_86 : decode cX6_goOn 86 = .ok (.invokevirtual 124, 3) := by decide +kernel
theorem dX6_goOn_89 : decode cX6_goOn 89 = .ok (.goto 10, 3) := by decide +kernel
theorem dX6_goOn_92 : decode cX6_goOn 92 = .ok (.aload_n 0, 1) := by decide +kernel
theorem dX6_goOn_93 : decode cX6_goOn 93 = .ok (.aload_n 1, 1) := by decide +kernel
theorem dX6_goOn_94 : decode cX6_goOn 94 = .ok (.iload_n 3, 1) := by decide +kernel
theorem dX6_goOn_95 : decode cX6_goOn 95 = .ok (.iconst 0, 1) := by decide +kernel
theorem dX6_goOn_96 : decode cX6_goOn 96 = .ok (.invokevirtual 128, 3) := by decide +kernel
theorem dX6_goOn_99 : decode cX6_goOn 99 = .ok (.ireturn, 1) := by decide +kernel
theorem dX6_goBack_0 : decode cX6_goBack 0 = .ok (.aload_n 0, 1) := by decide +kernel
theorem dX6_goBack_1 : decode cX6_goBack 1 = .ok (.dup, 1) := by decide +kernel
theorem dX6_goBack_2 : decode cX6_goBack 2 = .ok (.getfield 67, 3) := by decide +kernel
theorem dX6_goBack_5 : decode cX6_goBack 5 = .ok (.iconst 1, 1) := by decide +kernel
theorem dX6_goBack_6 : decode cX6_goBack 6 = .ok (.isub, 1) := by decide +kernel
theorem dX6_goBack_7 : decode cX6_goBack 7 = .ok (.putfield 67, 3) := by decide +kernel
theorem dX6_goBack_10 : decode cX6_goBack 10 = .ok (.aload_n 0, 1) := by decide +kernel
theorem dX6_goBack_11 : decode cX6_goBack 11 = .ok (.aload_n 0, 1) := by decide +kernel
theorem dX6_goBack_12 : decode cX6_goBack 12 = .ok (.iconst 0, 1) := by decide +kernel
theorem dX6_goBack_13 : decode cX6_goBack 13 = .ok (.invokevirtual 134, 3) := by decide +kernel
theorem dX6_goBack_16 : decode cX6_goBack 16 = .ok (.putfield 76, 3) := by decide +kernel
theorem dX6_goBack_19 : decode cX6_goBack 19 = .ok (.aload_n 0, 1) := by decide +kernel
theorem dX6_goBack_20 : decode cX6_goBack 20 = .ok (.aload_n 0, 1) := by decide +kernel
theorem dX6_goBack_21 : decode cX6_goBack 21 = .ok (.iconst 1, 1) := by decide +kernel
theorem dX6_goBack_22 : decode cX6_goBack 22 = .ok (.invokevirtual 134, 3) := by decide +kernel
theorem dX6_goBack_25 : decode cX6_goBack 25 = .ok (.putfield 55, 3) := by decide +kernel
theorem dX6_goBack_28 : decode cX6_goBack 28 = .ok (.aload_n 0, 1) := by decide +kernel
theorem dX6_goBack_29 : decode cX6_goBack 29 = .ok (.aload_n 0, 1) := by decide +kernel
theorem dX6_goBack_30 : decode cX6_goBack 30 = .ok (.iconst 3, 1) := by decide +kernel
theorem dX6_goBack_31 : decode cX6_goBack 31 = .ok (.invokevirtual 134, 3) := by decide +kernel
theorem dX6_goBack_34 : decode cX6_goBack 34 = .ok (.putfield 64, 3) := by decide +kernel
theorem dX6_goBack_37 : decode cX6_goBack 37 = .ok (.aload_n 0, 1) := by decide +kernel
theorem dX6_goBack_38 : decode cX6_goBack 38 = .ok (.aload_n 0, 1) := by decide +kernel
theorem dX6_goBack_39 : decode cX6_goBack 39 = .ok (.iconst 4, 1) := by decide +kernel
theorem dX6_goBack_40 : decode cX6_goBack 40 = .ok (.invokevirtual 134, 3) := by decide +kernel
theorem dX6_goBack_43 : decode cX6_goBack 43 = .ok (.putfield 79, 3) := by decide +kernel
theorem dX6_goBack_46 : decode cX6_goBack 46 = .ok (.aload_n 0, 1) := by decide +kernel
theorem dX6_goBack_47 : decode cX6_goBack 47 = .ok (.iconst 2, 1) := by decide +kernel
theorem dX6_goBack_48 : decode cX6_goBack 48 = .ok (.invokevirtual 134, 3) := by decide +kernel
theorem dX6_goBack_51 : decode cX6_goBack 51 = .ok (.istore_n 2, 1) := by decide +kernel
theorem dX6_goBack_52 : decode cX6_goBack 52 = .ok (.aload_n 1, 1) := by decide +kernel
theorem dX6_goBack_53 : decode cX6_goBack 53 = .ok (.aload_n 0, 1) := by decide +kernel
theorem dX6_goBack_54 : decode cX6_goBack 54 = .ok (.getfield 76, 3) := by decide +kernel
theorem dX6_goBack_57 : decode cX6_goBack 57 = .ok (.iconst 0, 1) := by decide +kernel
theorem dX6_goBack_58 : decode cX6_goBack 58 = .ok (.invokevirtual 106, 3) := by decide +kernel
theorem dX6_goBack_61 : decode cX6_goBack 61 = .ok (.lookupswitch 58 #[(4, 27), (5, 34)], 27) := by decide +kernel
theorem dX6_goBack_88 : decode cX6_goBack 88 = .ok (.aload_n 0, 1) := by decide +kernel
theorem dX6_goBack_89 : decode cX6_goBack 89 = .ok (.aload_n 1, 1) := by decide +kernel
theorem dX6_goBack_90 : decode cX6_goBack 90 = .ok (.iload_n 2, 1) := by decide +kernel
theorem dX6_goBack_91 : decode cX6_goBack 91 = .ok (.invokevirtual 121, 3) := by decide +kernel
theorem dX6_goBack_94 : decode cX6_goBack 94 = .ok (.ireturn, 1) := by decide +kernel
theorem dX6_goBack_95 : decode cX6_goBack 95 = .ok (.aload_n 1, 1) := by decide +kernel
theorem dX6_goBack_96 : decode cX6_goBack 96 = .ok (.aload_n 0, 1) := by decide +kernel
theorem dX6_goBack_97 : decode cX6_goBack 97 = .ok (.getfield 76, 3) := by decide +kernel
theorem dX6_goBack_100 : decode cX6_goBack 100 = .ok (.iconst 5, 1) := by decide +kernel
theorem dX6_goBack_101 : decode cX6_goBack 101 = .ok (.invokevirtual 106, 3) := by decide +kernel
theorem dX6_goBack_104 : decode cX6_goBack 104 = .ok (.iconst 1, 1) := by decide +kernel
theorem dX6_goBack_105 : decode cX6_goBack 105 = .ok (.if_icmp .ne 7, 3) := by decide +kernel
theorem dX6_goBack_108 : decode cX6_goBack 108 = .ok (.iconst 1, 1) := by decide +kernel
theorem dX6_goBack_109 : decode cX6_goBack 109 = .ok (.goto 9, 3) := by decide +kernel
theorem dX6_goBack_112 : decode cX6_goBack 112 = .ok (.aload_n 0, 1) := by decide +kernel
theorem dX6_goBack_113 : decode cX6_goBack 113 = .ok (.aload_n 1, 1) := by decide +kernel
theorem dX6_goBack_114 : decode cX6_goBack 114 = .ok (.iload_n 2, 1) := by decide +kernel
theorem dX6_goBack_115 : decode cX6_goBack 115 = .ok (.invokevirtual 137, 3) := by decide +kernel
theorem dX6_goBack_118 : decode cX6_goBack 118 = .ok (.ireturn, 1) := by decide +kernel
theorem dX6_goBack_119 : decode cX6_goBack 119 = .ok (.aload_n 0, 1) := by decide +kernel
theorem dX6_goBack_120 : decode cX6_goBack 120 = .ok (.aload_n 1, 1) := by decide +kernel
theorem dX6_goBack_121 : decode cX6_goBack 121 = .ok (.iload_n 2, 1) := by decide +kernel
theorem dX6_goBack_122 : decode cX6_goBack 122 = .ok (.bipush 8, 2) := by decide +kernel
theorem dX6_goBack_124 : decode cX6_goBack 124 = .ok (.idiv, 1) := by decide +kernel
theorem dX6_goBack_125 : decode cX6_goBack 125 = .ok (.iload_n 2, 1) := by decide +kernel
theorem dX6_goBack_126 : decode cX6_goBack 126 = .ok (.bipush 8, 2) := by decide +kernel
theorem dX6_goBack_128 : decode cX6_goBack 128 = .ok (.irem, 1) := by decide +kernel
theorem dX6_goBack_129 : decode cX6_goBack 129 = .ok (.invokevirtual 128, 3) := by decide +kernel
theorem dX6_goBack_132 : decode cX6_goBack 132 = .ok (.ireturn, 1) := by decide +kernel
theorem dX6_takeLetter_0 : decode cX6_takeLetter 0 = .ok (.aload_n 0, 1) := by decide +kernel
theorem dX6_takeLetter_1 : decode cX6_takeLetter 1 = .ok (.getfield 64, 3) := by decide +kernel
theorem dX6_takeLetter_4 : decode cX6_takeLetter 4 = .ok (.aload_n 0, 1) := by decide +kernel
theorem dX6_takeLetter_5 : decode cX6_takeLetter 5 = .ok (.getfield 21, 3) := by decide +kernel
theorem dX6_takeLetter_8 : decode cX6_takeLetter 8 = .ok (.getfield 31, 3) := by decide +kernel
theorem dX6_takeLetter_11 : decode cX6_takeLetter 11 = .ok (.getfield 35, 3) := by decide +kernel
theorem dX6_takeLetter_14 : decode cX6_takeLetter 14 = .ok (.if_icmp .ge 19, 3) := by decide +kernel
theorem dX6_takeLetter_17 : decode cX6_takeLetter 17 = .ok (.aload_n 0, 1) := by decide +kernel
theorem dX6_takeLetter_18 : decode cX6_takeLetter 18 = .ok (.getfield 64, 3) := by decide +kernel
theorem dX6_takeLetter_21 : decode cX6_takeLetter 21 = .ok (.ifCond .lt 12, 3) := by decide +kernel
theorem dX6_takeLetter_24 : decode cX6_takeLetter 24 = .ok (.aload_n 0, 1) := by decide +kernel
theorem dX6_takeLetter_25 : decode cX6_takeLetter 25 = .ok (.getfield 64, 3) := by decide +kernel
theorem dX6_takeLetter_28 : decode cX6_takeLetter 28 = .ok (.bipush 32, 2) := by decide +kernel
theorem dX6_takeLetter_30 : decode cX6_takeLetter 30 = .ok (.if_icmp .lt 5, 3) := by decide +kernel
theorem dX6_takeLetter_33 : decode cX6_takeLetter 33 = .ok (.iconst 2, 1) := by decide +kernel
theorem dX6_takeLetter_34 : decode cX6_takeLetter 34 = .ok (.ireturn, 1) := by decide +kernel
theorem dX6_takeLetter_35 : decode cX6_takeLetter 35 = .ok (.aload_n 0, 1) := by decide +kernel
theorem dX6_takeLetter_36 : decode cX6_takeLetter 36 = .ok (.getfield 9, 3) := by decide +kernel
theorem dX6_takeLetter_39 : decode cX6_takeLetter 39 = .ok (.aload_n 0, 1) := by decide +kernel
theorem dX6_takeLetter_40 : decode cX6_takeLetter 40 = .ok (.getfield 64, 3) := by decide +kernel
theorem dX6_takeLetter_43 : decode cX6_takeLetter 43 = .ok (.iload_n 1, 1) := by decide +kernel
theorem dX6_takeLetter_44 : decode cX6_takeLetter 44 = .ok (.iastore, 1) := by decide +kernel
theorem dX6_takeLetter_45 : decode cX6_takeLetter 45 = .ok (.iload_n 1, 1) := by decide +kernel
theorem dX6_takeLetter_46 : decode cX6_takeLetter 46 = .ok (.invokestatic 140, 3) := by decide +kernel
theorem dX6_takeLetter_49 : decode cX6_takeLetter 49 = .ok (.ifCond .eq 15, 3) := by decide +kernel
theorem dX6_takeLetter_52 : decode cX6_takeLetter 52 = .ok (.aload_n 0, 1) := by decide +kernel
theorem dX6_takeLetter_53 : decode cX6_takeLetter 53 = .ok (.getfield 21, 3) := by decide +kernel
theorem dX6_takeLetter_56 : decode cX6_takeLetter 56 = .ok (.getfield 144, 3) := by decide +kernel
theorem dX6_takeLetter_59 : decode cX6_takeLetter 59 = .ok (.iload_n 1, 1) := by decide +kernel
theorem dX6_takeLetter_60 : decode cX6_takeLetter 60 = .ok (.aaload, 1) := by decide +kernel
theorem dX6_takeLetter_61 : decode cX6_takeLetter 61 = .ok (.goto 4, 3) := by decide +kernel
theorem dX6_takeLetter_64 : decode cX6_takeLetter 64 = .ok (.aconst_null, 1) := by decide +kernel
theorem dX6_takeLetter_65 : decode cX6_takeLetter 65 = .ok (.astore_n 2, 1) := by decide +kernel
theorem dX6_takeLetter_66 : decode cX6_takeLetter 66 = .ok (.aload_n 2, 1) := by decide +kernel
theorem dX6_takeLetter_67 : decode cX6_takeLetter 67 = .ok (.ifnull 17, 3) := by decide +kernel
theorem dX6_takeLetter_70 : decode cX6_takeLetter 70 = .ok (.aload_n 2, 1) := by decide +kernel
theorem dX6_takeLetter_71 : decode cX6_takeLetter 71 = .ok (.aload_n 0, 1) := by decide +kernel
theorem dX6_takeLetter_72 : decode cX6_takeLetter 72 = .ok (.aload_n 0, 1) := by decide +kernel
theorem dX6_takeLetter_73 : decode cX6_takeLetter 73 = .ok (.getfield 64, 3) := by decide +kernel
theorem dX6_takeLetter_76 : decode cX6_takeLetter 76 = .ok (.invokevirtual 148, 3) := by decide +kernel
theorem dX6_takeLetter_79 : decode cX6_takeLetter 79 = .ok (.ifCond .ne 5, 3) := by decide +kernel
theorem dX6_takeLetter_82 : decode cX6_takeLetter 82 = .ok (.iconst 2, 1) := by decide +kernel
theorem dX6_takeLetter_83 : decode cX6_takeLetter 83 = .ok (.ireturn, 1) := by decide +kernel
theorem dX6_takeLetter_84 : decode cX6_takeLetter 84 = .ok (.aload_n 0, 1) := by decide +kernel
theorem dX6_takeLetter_85 : decode cX6_takeLetter 85 = .ok (.dup, 1) := by decide +kernel
theorem dX6_takeLetter_86 : decode cX6_takeLetter 86 = .ok (.getfield 64, 3) := by decide +kernel
theorem dX6_takeLetter_89 : decode cX6_takeLetter 89 = .ok (.iconst 1, 1) := by decide +kernel
theorem dX6_takeLetter_90 : decode cX6_takeLetter 90 = .ok (.iadd, 1) := by decide +kernel
theorem dX6_takeLetter_91 : decode cX6_takeLetter 91 = .ok (.putfield 64, 3) := by decide +kernel
theorem dX6_takeLetter_94 : decode cX6_takeLetter 94 = .ok (.iconst 1, 1) := by decide +kernel
theorem dX6_takeLetter_95 : decode cX6_takeLetter 95 = .ok (.ireturn, 1) := by decide +kernel
theorem dX6_comeWithin_0 : decode cX6_comeWithin 0 = .ok (.aload_n 1, 1) := by decide +kernel
theorem dX6_comeWithin_1 : decode cX6_comeWithin 1 = .ok (.iload_n 2, 1) := by decide +kernel
theorem dX6_comeWithin_2 : decode cX6_comeWithin 2 = .ok (.bipush 8, 2) := by decide +kernel
theorem dX6_comeWithin_4 : decode cX6_comeWithin 4 = .ok (.invokevirtual 106, 3) := by decide +kernel
theorem dX6_comeWithin_7 : decode cX6_comeWithin 7 = .ok (.ifCond .lt 8, 3) := by decide +kernel
theorem dX6_comeWithin_10 : decode cX6_comeWithin 10 = .ok (.aload_n 0, 1) := by decide +kernel
theorem dX6_comeWithin_11 : decode cX6_comeWithin 11 = .ok (.iload_n 2, 1) := by decide +kernel
theorem dX6_comeWithin_12 : decode cX6_comeWithin 12 = .ok (.invokevirtual 154, 3) := by decide +kernel
theorem dX6_comeWithin_15 : decode cX6_comeWithin 15 = .ok (.aload_n 0, 1) := by decide +kernel
theorem dX6_comeWithin_16 : decode cX6_comeWithin 16 = .ok (.iload_n 2, 1) := by decide +kernel
theorem dX6_comeWithin_17 : decode cX6_comeWithin 17 = .ok (.putfield 76, 3) := by decide +kernel
theorem dX6_comeWithin_20 : decode cX6_comeWithin 20 = .ok (.iconst 0, 1) := by decide +kernel
theorem dX6_comeWithin_21 : decode cX6_comeWithin 21 = .ok (.ireturn, 1) := by decide +kernel
theorem dX6_choose_0 : decode cX6_choose 0 = .ok (.aload_n 1, 1) := by decide +kernel
theorem dX6_choose_1 : decode cX6_choose 1 = .ok (.iload_n 2, 1) := by decide +kernel
theorem dX6_choose_2 : decode cX6_choose 2 = .ok (.bipush 8, 2) := by decide +kernel
theorem dX6_choose_4 : decode cX6_choose 4 = .ok (.invokevirtual 106, 3) := by decide +kernel
theorem dX6_choose_7 : decode cX6_choose 7 = .ok (.istore_n 3, 1) := by decide +kernel
theorem dX6_choose_8 : decode cX6_choose 8 = .ok (.iload_n 3, 1) := by decide +kernel
theorem dX6_choose_9 : decode cX6_choose 9 = .ok (.ifCond .lt 8, 3) := by decide +kernel
theorem dX6_choose_12 : decode cX6_choose 12 = .ok (.aload_n 0, 1) := by decide +kernel
theorem dX6_choose_13 : decode cX6_choose 13 = .ok (.iload_n 3, 1) := by decide +kernel
theorem dX6_choose_14 : decode cX6_choose 14 = .ok (.invokevirtual 158, 3) := by decide +kernel
theorem dX6_choose_17 : decode cX6_choose 17 = .ok (.aload_n 0, 1) := by decide +kernel
theorem dX6_choose_18 : decode cX6_choose 18 = .ok (.iload_n 2, 1) := by decide +kernel
theorem dX6_choose_19 : decode cX6_choose 19 = .ok (.putfield 76, 3) := by decide +kernel
theorem dX6_choose_22 : decode cX6_choose 22 = .ok (.iconst 0, 1) := by decide +kernel
theorem dX6_choose_23 : decode cX6_choose 23 = .ok (.ireturn, 1) := by decide +kernel
theorem dX6_repeat_0 : decode cX6_repeat 0 = .ok (.aload_n 1, 1) := by decide +kernel
theorem dX6_repeat_1 : decode cX6_repeat 1 = .ok (.aload_n 0, 1) := by decide +kernel
theorem dX6_repeat_2 : decode cX6_repeat 2 = .ok (.getfield 76, 3) := by decide +kernel
theorem dX6_repeat_5 : decode cX6_repeat 5 = .ok (.iconst 3, 1) := by decide +kernel
theorem dX6_repeat_6 : decode cX6_repeat 6 = .ok (.invokevirtual 106, 3) := by decide +kernel
theorem dX6_repeat_9 : decode cX6_repeat 9 = .ok (.istore 4, 2) := by decide +kernel
theorem dX6_repeat_11 : decode cX6_repeat 11 = .ok (.aload_n 1, 1) := by decide +kernel
theorem dX6_repeat_12 : decode cX6_repeat 12 = .ok (.aload_n 0, 1) := by decide +kernel
theorem dX6_repeat_13 : decode cX6_repeat 13 = .ok (.getfield 76, 3) := by decide +kernel
theorem dX6_repeat_16 : decode cX6_repeat 16 = .ok (.iconst 4, 1) := by decide +kernel
theorem dX6_repeat_17 : decode cX6_repeat 17 = .ok (.invokevirtual 106, 3) := by decide +kernel
theorem dX6_repeat_20 : decode cX6_repeat 20 = .ok (.istore 5, 2) := by decide +kernel
theorem dX6_repeat_22 : decode cX6_repeat 22 = .ok (.iload_n 2, 1) := by decide +kernel
theorem dX6_repeat_23 : decode cX6_repeat 23 = .ok (.iload 4, 2) := by decide +kernel
theorem dX6_repeat_25 : decode cX6_repeat 25 = .ok (.if_icmp .le 13, 3) := by decide +kernel
theorem dX6_repeat_28 : decode cX6_repeat 28 = .ok (.aload_n 0, 1) := by decide +kernel
theorem dX6_repeat_29 : decode cX6_repeat 29 = .ok (.getfield 64, 3) := by decide +kernel
theorem dX6_repeat_32 : decode cX6_repeat 32 = .ok (.iload_n 3, 1) := by decide +kernel
theorem dX6_repeat_33 : decode cX6_repeat 33 = .ok (.if_icmp .ne 5, 3) := by decide +kernel
theorem dX6_repeat_36 : decode cX6_repeat 36 = .ok (.iconst 2, 1) := by decide +kernel
theorem dX6_repeat_37 : decode cX6_repeat 37 = .ok (.ireturn, 1) := by decide +kernel
theorem dX6_repeat_38 : decode cX6_repeat 38 = .ok (.iload_n 2, 1) := by decide +kernel
theorem dX6_repeat_39 : decode cX6_repeat 39 = .ok (.iload 4, 2) := by decide +kernel
theorem dX6_repeat_41 : decode cX6_repeat 41 = .ok (.if_icmp .ge 10, 3) := by decide +kernel
theorem dX6_repeat_44 : decode cX6_repeat 44 = .ok (.aload_n 0, 1) := by decide +kernel
theorem dX6_repeat_45 : decode cX6_repeat 45 = .ok (.aload_n 1, 1) := by decide +kernel
theorem dX6_repeat_46 : decode cX6_repeat 46 = .ok (.iload_n 2, 1) := by decide +kernel
theorem dX6_repeat_47 : decode cX6_repeat 47 = .ok (.invokevirtual 137, 3) := by decide +kernel
theorem dX6_repeat_50 : decode cX6_repeat 50 = .ok (.ireturn, 1) := by decide +kernel
theorem dX6_repeat_51 : decode cX6_repeat 51 = .ok (.iload_n 2, 1) := by decide +kernel
theorem dX6_repeat_52 : decode cX6_repeat 52 = .ok (.iload 5, 2) := by decide +kernel
theorem dX6_repeat_54 : decode cX6_repeat 54 = .ok (.if_icmp .ne 12, 3) := by decide +kernel
theorem dX6_repeat_57 : decode cX6_repeat 57 = .ok (.iload 5, 2) := by decide +kernel
theorem dX6_repeat_59 : decode cX6_repeat 59 = .ok (.bipush 100, 2) := by decide +kernel
theorem dX6_repeat_61 : decode cX6_repeat 61 = .ok (.if_icmp .eq 5, 3) := by decide +kernel
theorem dX6_repeat_64 : decode cX6_repeat 64 = .ok (.iconst 1, 1) := by decide +kernel
theorem dX6_repeat_65 : decode cX6_repeat 65 = .ok (.ireturn, 1) := by decide +kernel
theorem dX6_repeat_66 : decode cX6_repeat 66 = .ok (.aload_n 0, 1) := by decide +kernel
theorem dX6_repeat_67 : decode cX6_repeat 67 = .ok (.iload_n 2, 1) := by decide +kernel
theorem dX6_repeat_68 : decode cX6_repeat 68 = .ok (.invokevirtual 158, 3) := by decide +kernel
theorem dX6_repeat_71 : decode cX6_repeat 71 = .ok (.aload_n 1, 1) := by decide +kernel
theorem dX6_repeat_72 : decode cX6_repeat 72 = .ok (.aload_n 0, 1) := by decide +kernel
theorem dX6_repeat_73 : decode cX6_repeat 73 = .ok (.getfield 76, 3) := by decide +kernel
theorem dX6_repeat_76 : decode cX6_repeat 76 = .ok (.iconst 5, 1) := by decide +kernel
theorem dX6_repeat_77 : decode cX6_repeat 77 = .ok (.invokevirtual 106, 3) := by decide +kernel
theorem dX6_repeat_80 : decode cX6_repeat 80 = .ok (.iconst 1, 1) := by decide +kernel
theorem dX6_repeat_81 : decode cX6_repeat 81 = .ok (.if_icmp .ne 12, 3) := by decide +kernel
theorem dX6_repeat_84 : decode cX6_repeat 84 = .ok (.aload_n 0, 1) := by decide +kernel
theorem dX6_repeat_85 : decode cX6_repeat 85 = .ok (.aload_n 1, 1) := by decide +kernel
theorem dX6_repeat_86 : decode cX6_repeat 86 = .ok (.iload_n 2, 1) := by decide +kernel
theorem dX6_repeat_87 : decode cX6_repeat 87 = .ok (.invokevirtual 137, 3) := by decide +kernel
theorem dX6_repeat_90 : decode cX6_repeat 90 = .ok (.goto 4, 3) := by decide +kernel
theorem dX6_repeat_93 : decode cX6_repeat 93 = .ok (.iconst 1, 1) := by decide +kernel
theorem dX6_repeat_94 : decode cX6_repeat 94 = .ok (.ireturn, 1) := by decide +kernel
theorem dX6_onceMore_0 : decode cX6_onceMore 0 = .ok (.aload_n 0, 1) := by decide +kernel
theorem dX6_onceMore_1 : decode cX6_onceMore 1 = .ok (.iload_n 2, 1) := by decide +kernel
theorem dX6_onceMore_2 : decode cX6_onceMore 2 = .ok (.iconst 1, 1) := by decide +kernel
theorem dX6_onceMore_3 : decode cX6_onceMore 3 = .ok (.iadd, 1) := by decide +kernel
theorem dX6_onceMore_4 : decode cX6_onceMore 4 = .ok (.invokevirtual 154, 3) := by decide +kernel
theorem dX6_onceMore_7 : decode cX6_onceMore 7 = .ok (.aload_n 0, 1) := by decide +kernel
theorem dX6_onceMore_8 : decode cX6_onceMore 8 = .ok (.aload_n 1, 1) := by decide +kernel
theorem dX6_onceMore_9 : decode cX6_onceMore 9 = .ok (.aload_n 0, 1) := by decide +kernel
theorem dX6_onceMore_10 : decode cX6_onceMore 10 = .ok (.getfield 76, 3) := by decide +kernel
theorem dX6_onceMore_13 : decode cX6_onceMore 13 = .ok (.bipush 7, 2) := by decide +kernel
theorem dX6_onceMore_15 : decode cX6_onceMore 15 = .ok (.invokevirtual 106, 3) := by decide +kernel
theorem dX6_onceMore_18 : decode cX6_onceMore 18 = .ok (.putfield 76, 3) := by decide +kernel
theorem dX6_onceMore_21 : decode cX6_onceMore 21 = .ok (.iconst 0, 1) := by decide +kernel
theorem dX6_onceMore_22 : decode cX6_onceMore 22 = .ok (.ireturn, 1) := by decide +kernel
theorem dX6_order_0 : decode cX6_order 0 = .ok (.aload_n 1, 1) := by decide +kernel
theorem dX6_order_1 : decode cX6_order 1 = .ok (.aload_n 0, 1) := by decide +kernel
theorem dX6_order_2 : decode cX6_order 2 = .ok (.getfield 76, 3) := by decide +kernel
theorem dX6_order_5 : decode cX6_order 5 = .ok (.iconst 2, 1) := by decide +kernel
theorem dX6_order_6 : decode cX6_order 6 = .ok (.invokevirtual 106, 3) := by decide +kernel
theorem dX6_order_9 : decode cX6_order 9 = .ok (.istore 4, 2) := by decide +kernel
theorem dX6_order_11 : decode cX6_order 11 = .ok (.iload_n 2, 1) := by decide +kernel
theorem dX6_order_12 : decode cX6_order 12 = .ok (.iload_n 3, 1) := by decide +kernel
theorem dX6_order_13 : decode cX6_order 13 = .ok (.iload 4, 2) := by decide +kernel
theorem dX6_order_15 : decode cX6_order 15 = .ok (.invokestatic 161, 3) := by decide +kernel
theorem dX6_order_18 : decode cX6_order 18 = .ok (.istore 5, 2) := by decide +kernel
theorem dX6_order_20 : decode cX6_order 20 = .ok (.iload 5, 2) := by decide +kernel
theorem dX6_order_22 : decode cX6_order 22 = .ok (.iload 4, 2) := by decide +kernel
theorem dX6_order_24 : decode cX6_order 24 = .ok (.if_icmp .lt 5, 3) := by decide +kernel
theorem dX6_order_27 : decode cX6_order 27 = .ok (.iconst 1, 1) := by decide +kernel
theorem dX6_order_28 : decode cX6_order 28 = .ok (.ireturn, 1) := by decide +kernel
theorem dX6_order_29 : decode cX6_order 29 = .ok (.iload_n 2, 1) := by decide +kernel
theorem dX6_order_30 : decode cX6_order 30 = .ok (.iload 5, 2) := by decide +kernel
theorem dX6_order_32 : decode cX6_order 32 = .ok (.iconst 1, 1) := by decide +kernel
theorem dX6_order_33 : decode cX6_order 33 = .ok (.iadd, 1) := by decide +kernel
theorem dX6_order_34 : decode cX6_order 34 = .ok (.iload 4, 2) := by decide +kernel
theorem dX6_order_36 : decode cX6_order 36 = .ok (.invokestatic 161, 3) := by decide +kernel
theorem dX6_order_39 : decode cX6_order 39 = .ok (.istore 6, 2) := by decide +kernel
theorem dX6_order_41 : decode cX6_order 41 = .ok (.iload 6, 2) := by decide +kernel
theorem dX6_order_43 : decode cX6_order 43 = .ok (.iload 4, 2) := by decide +kernel
theorem dX6_order_45 : decode cX6_order 45 = .ok (.if_icmp .ge 14, 3) := by decide +kernel
theorem dX6_order_48 : decode cX6_order 48 = .ok (.aload_n 0, 1) := by decide +kernel
theorem dX6_order_49 : decode cX6_order 49 = .ok (.iload_n 2, 1) := by decide +kernel
theorem dX6_order_50 : decode cX6_order 50 = .ok (.bipush 8, 2) := by decide +kernel
theorem dX6_order_52 : decode cX6_order 52 = .ok (.imul, 1) := by decide +kernel
theorem dX6_order_53 : decode cX6_order 53 = .ok (.iload 6, 2) := by decide +kernel
theorem dX6_order_55 : decode cX6_order 55 = .ok (.iadd, 1) := by decide +kernel
theorem dX6_order_56 : decode cX6_order 56 = .ok (.invokevirtual 158, 3) := by decide +kernel
theorem dX6_order_59 : decode cX6_order 59 = .ok (.aload_n 1, 1) := by decide +kernel
theorem dX6_order_60 : decode cX6_order 60 = .ok (.aload_n 0, 1) := by decide +kernel
theorem dX6_order_61 : decode cX6_order 61 = .ok (.getfield 76, 3) := by decide +kernel
theorem dX6_order_64 : decode cX6_order 64 = .ok (.bipush 7, 2) := by decide +kernel
theorem dX6_order_66 : decode cX6_order 66 = .ok (.invokevirtual 106, 3) := by decide +kernel
theorem dX6_order_69 : decode cX6_order 69 = .ok (.istore 7, 2) := by decide +kernel
theorem dX6_order_71 : decode cX6_order 71 = .ok (.iconst 0, 1) := by decide +kernel
theorem dX6_order_72 : decode cX6_order 72 = .ok (.istore 8, 2) := by decide +kernel
theorem dX6_order_74 : decode cX6_order 74 = .ok (.iload 8, 2) := by decide +kernel
theorem dX6_order_76 : decode cX6_order 76 = .ok (.iload 5, 2) := by decide +kernel
theorem dX6_order_78 : decode cX6_order 78 = .ok (.if_icmp .ge 19, 3) := by decide +kernel
theorem dX6_order_81 : decode cX6_order 81 = .ok (.aload_n 1, 1) := by decide +kernel
theorem dX6_order_82 : decode cX6_order 82 = .ok (.iload 7, 2) := by decide +kernel
theorem dX6_order_84 : decode cX6_order 84 = .ok (.bipush 8, 2) := by decide +kernel
theorem dX6_order_86 : decode cX6_order 86 = .ok (.invokevirtual 106, 3) := by decide +kernel
theorem dX6_order_89 : decode cX6_order 89 = .ok (.istore 7, 2) := by decide +kernel
theorem dX6_order_91 : decode cX6_order 91 = .ok (.iinc 8 1, 3) := by decide +kernel
theorem dX6_order_94 : decode cX6_order 94 = .ok (.goto (-20), 3) := by decide +kernel
theorem dX6_order_97 : decode cX6_order 97 = .ok (.aload_n 0, 1) := by decide +kernel
theorem dX6_order_98 : decode cX6_order 98 = .ok (.iload_n 2, 1) := by decide +kernel
theorem dX6_order_99 : decode cX6_order 99 = .ok (.iconst 1, 1) := by decide +kernel
theorem dX6_order_100 : decode cX6_order 100 = .ok (.iload 5, 2) := by decide +kernel
theorem dX6_order_102 : decode cX6_order 102 = .ok (.ishl, 1) := by decide +kernel
theorem dX6_order_103 : decode cX6_order 103 = .ok (.ior, 1) := by decide +kernel
theorem dX6_order_104 : decode cX6_order 104 = .ok (.invokevirtual 154, 3) := by decide +kernel
theorem dX6_order_107 : decode cX6_order 107 = .ok (.aload_n 0, 1) := by decide +kernel
theorem dX6_order_108 : decode cX6_order 108 = .ok (.iload 7, 2) := by decide +kernel
theorem dX6_order_110 : decode cX6_order 110 = .ok (.putfield 76, 3) := by decide +kernel
theorem dX6_order_113 : decode cX6_order 113 = .ok (.iconst 0, 1) := by decide +kernel
theorem dX6_order_114 : decode cX6_order 114 = .ok (.ireturn, 1) := by decide +kernel
theorem dX6_notDone_0 : decode cX6_notDone 0 = .ok (.iload_n 1, 1) := by decide +kernel
theorem dX6_notDone_1 : decode cX6_notDone 1 = .ok (.istore_n 3, 1) := by decide +kernel
theorem dX6_notDone_2 : decode cX6_notDone 2 = .ok (.iload_n 3, 1) := by decide +kernel
theorem dX6_notDone_3 : decode cX6_notDone 3 = .ok (.iload_n 2, 1) := by decide +kernel
theorem dX6_notDone_4 : decode cX6_notDone 4 = .ok (.if_icmp .ge 18, 3) := by decide +kernel
theorem dX6_notDone_7 : decode cX6_notDone 7 = .ok (.iload_n 0, 1) := by decide +kernel
theorem dX6_notDone_8 : decode cX6_notDone 8 = .ok (.iload_n 3, 1) := by decide +kernel
theorem dX6_notDone_9 : decode cX6_notDone 9 = .ok (.ishr, 1) := by decide +kernel
theorem dX6_notDone_10 : decode cX6_notDone 10 = .ok (.iconst 1, 1) := by decide +kernel
theorem dX6_notDone_11 : decode cX6_notDone 11 = .ok (.iand, 1) := by decide +kernel
theorem dX6_notDone_12 : decode cX6_notDone 12 = .ok (.iconst 1, 1) := by decide +kernel
theorem dX6_notDone_13 : decode cX6_notDone 13 = .ok (.if_icmp .ne 9, 3) := by decide +kernel
theorem dX6_notDone_16 : decode cX6_notDone 16 = .ok (.iinc 3 1, 3) := by decide +kernel
theorem dX6_notDone_19 : decode cX6_notDone 19 = .ok (.goto (-17), 3) := by decide +kernel
theorem dX6_notDone_22 : decode cX6_notDone 22 = .ok (.iload_n 3, 1) := by decide +kernel
theorem dX6_notDone_23 : decode cX6_notDone 23 = .ok (.ireturn, 1) := by decide +kernel
theorem dX6_pushFrame_0 : decode cX6_pushFrame 0 = .ok (.aload_n 0, 1) := by decide +kernel
theorem dX6_pushFrame_1 : decode cX6_pushFrame 1 = .ok (.getfield 79, 3) := by decide +kernel
theorem dX6_pushFrame_4 : decode cX6_pushFrame 4 = .ok (.iconst 4, 1) := by decide +kernel
theorem dX6_pushFrame_5 : decode cX6_pushFrame 5 = .ok (.imul, 1) := by decide +kernel
theorem dX6_pushFrame_6 : decode cX6_pushFrame 6 = .ok (.istore_n 2, 1) := by decide +kernel
theorem dX6_pushFrame_7 : decode cX6_pushFrame 7 = .ok (.iload_n 2, 1) := by decide +kernel
theorem dX6_pushFrame_8 : decode cX6_pushFrame 8 = .ok (.iconst 4, 1) := by decide +kernel
theorem dX6_pushFrame_9 : decode cX6_pushFrame 9 = .ok (.iadd, 1) := by decide +kernel
theorem dX6_pushFrame_10 : decode cX6_pushFrame 10 = .ok (.aload_n 0, 1) := by decide +kernel
theorem dX6_pushFrame_11 : decode cX6_pushFrame 11 = .ok (.getfield 15, 3) := by decide +kernel
theorem dX6_pushFrame_14 : decode cX6_pushFrame 14 = .ok (.arraylength, 1) := by decide +kernel
theorem dX6_pushFrame_15 : decode cX6_pushFrame 15 = .ok (.if_icmp .le 21, 3) := by decide +kernel
theorem dX6_pushFrame_18 : decode cX6_pushFrame 18 = .ok (.aload_n 0, 1) := by decide +kernel
theorem dX6_pushFrame_19 : decode cX6_pushFrame 19 = .ok (.aload_n 0, 1) := by decide +kernel
theorem dX6_pushFrame_20 : decode cX6_pushFrame 20 = .ok (.getfield 15, 3) := by decide +kernel
theorem dX6_pushFrame_23 : decode cX6_pushFrame 23 = .ok (.iconst 2, 1) := by decide +kernel
theorem dX6_pushFrame_24 : decode cX6_pushFrame 24 = .ok (.aload_n 0, 1) := by decide +kernel
theorem dX6_pushFrame_25 : decode cX6_pushFrame 25 = .ok (.getfield 15, 3) := by decide +kernel
theorem dX6_pushFrame_28 : decode cX6_pushFrame 28 = .ok (.arraylength, 1) := by decide +kernel
theorem dX6_pushFrame_29 : decode cX6_pushFrame 29 = .ok (.imul, 1) := by decide +kernel
theorem dX6_pushFrame_30 : decode cX6_pushFrame 30 = .ok (.invokestatic 165, 3) := by decide +kernel
theorem dX6_pushFrame_33 : decode cX6_pushFrame 33 = .ok (.putfield 15, 3) := by decide +kernel
theorem dX6_pushFrame_36 : decode cX6_pushFrame 36 = .ok (.iload_n 2, 1) := by decide +kernel
theorem dX6_pushFrame_37 : decode cX6_pushFrame 37 = .ok (.ifCond .lt 77, 3) := by decide +kernel
theorem dX6_pushFrame_40 : decode cX6_pushFrame 40 = .ok (.iload_n 2, 1) := by decide +kernel
theorem dX6_pushFrame_41 : decode cX6_pushFrame 41 = .ok (.iconst 4, 1) := by decide +kernel
theorem dX6_pushFrame_42 : decode cX6_pushFrame 42 = .ok (.iadd, 1) := by decide +kernel
theorem dX6_pushFrame_43 : decode cX6_pushFrame 43 = .ok (.aload_n 0, 1) := by decide +kernel
theorem dX6_pushFrame_44 : decode cX6_pushFrame 44 = .ok (.getfield 15, 3) := by decide +kernel
theorem dX6_pushFrame_47 : decode cX6_pushFrame 47 = .ok (.arraylength, 1) := by decide +kernel
theorem dX6_pushFrame_48 : decode cX6_pushFrame 48 = .ok (.if_icmp .gt 66, 3) := by decide +kernel
theorem dX6_pushFrame_51 : decode cX6_pushFrame 51 = .ok (.aload_n 0, 1) := by decide +kernel
theorem dX6_pushFrame_52 : decode cX6_pushFrame 52 = .ok (.getfield 15, 3) := by decide +kernel
theorem dX6_pushFrame_55 : decode cX6_pushFrame 55 = .ok (.iload_n 2, 1) := by decide +kernel
theorem dX6_pushFrame_56 : decode cX6_pushFrame 56 = .ok (.iconst 0, 1) := by decide +kernel
theorem dX6_pushFrame_57 : decode cX6_pushFrame 57 = .ok (.iadd, 1) := by decide +kernel
theorem dX6_pushFrame_58 : decode cX6_pushFrame 58 = .ok (.aload_n 0, 1) := by decide +kernel
theorem dX6_pushFrame_59 : decode cX6_pushFrame 59 = .ok (.getfield 76, 3) := by decide +kernel
theorem dX6_pushFrame_62 : decode cX6_pushFrame 62 = .ok (.iastore, 1) := by decide +kernel
theorem dX6_pushFrame_63 : decode cX6_pushFrame 63 = .ok (.aload_n 0, 1) := by decide +kernel
theorem dX6_pushFrame_64 : decode cX6_pushFrame 64 = .ok (.getfield 15, 3) := by decide +kernel
theorem dX6_pushFrame_67 : decode cX6_pushFrame 67 = .ok (.iload_n 2, 1) := by decide +kernel
theorem dX6_pushFrame_68 : decode cX6_pushFrame 68 = .ok (.iconst 1, 1) := by decide +kernel
theorem dX6_pushFrame_69 : decode cX6_pushFrame 69 = .ok (.iadd, 1) := by decide +kernel
theorem dX6_pushFrame_70 : decode cX6_pushFrame 70 = .ok (.aload_n 0, 1) := by decide +kernel
theorem dX6_pushFrame_71 : decode cX6_pushFrame 71 = .ok (.getfield 55, 3) := by decide +kernel
theorem dX6_pushFrame_74 : decode cX6_pushFrame 74 = .ok (.iastore, 1) := by decide +kernel
theorem dX6_pushFrame_75 : decode cX6_pushFrame 75 = .ok (.aload_n 0, 1) := by decide +kernel
theorem dX6_pushFrame_76 : decode cX6_pushFrame 76 = .ok (.getfield 15, 3) := by decide +kernel
theorem dX6_pushFrame_79 : decode cX6_pushFrame 79 = .ok (.iload_n 2, 1) := by decide +kernel
theorem dX6_pushFrame_80 : decode cX6_pushFrame 80 = .ok (.iconst 2, 1) := by decide +kernel
theorem dX6_pushFrame_81 : decode cX6_pushFrame 81 = .ok (.iadd, 1) := by decide +kernel
theorem dX6_pushFrame_82 : decode cX6_pushFrame 82 = .ok (.iload_n 1, 1) := by decide +kernel
theorem dX6_pushFrame_83 : decode cX6_pushFrame 83 = .ok (.iastore, 1) := by decide +kernel
theorem dX6_pushFrame_84 : decode cX6_pushFrame 84 = .ok (.aload_n 0, 1) := by decide +kernel
theorem dX6_pushFrame_85 : decode cX6_pushFrame 85 = .ok (.getfield 15, 3) := by decide +kernel
theorem dX6_pushFrame_88 : decode cX6_pushFrame 88 = .ok (.iload_n 2, 1) := by decide +kernel
theorem dX6_pushFrame_89 : decode cX6_pushFrame 89 = .ok (.iconst 3, 1) := by decide +kernel
theorem dX6_pushFrame_90 : decode cX6_pushFrame 90 = .ok (.iadd, 1) := by decide +kernel
theorem dX6_pushFrame_91 : decode cX6_pushFrame 91 = .ok (.aload_n 0, 1) := by decide +kernel
theorem dX6_pushFrame_92 : decode cX6_pushFrame 92 = .ok (.getfield 64, 3) := by decide +kernel
theorem dX6_pushFrame_95 : decode cX6_pushFrame 95 = .ok (.iastore, 1) := by decide +kernel
theorem dX6_pushFrame_96 : decode cX6_pushFrame 96 = .ok (.aload_n 0, 1) := by decide +kernel
theorem dX6_pushFrame_97 : decode cX6_pushFrame 97 = .ok (.aload_n 0, 1) := by decide +kernel
theorem dX6_pushFrame_98 : decode cX6_pushFrame 98 = .ok (.getfield 79, 3) := by decide +kernel
theorem dX6_pushFrame_101 : decode cX6_pushFrame 101 = .ok (.putfield 55, 3) := by decide +kernel
theorem dX6_pushFrame_104 : decode cX6_pushFrame 104 = .ok (.aload_n 0, 1) := by decide +kernel
theorem dX6_pushFrame_105 : decode cX6_pushFrame 105 = .ok (.dup, 1) := by decide +kernel
theorem dX6_pushFrame_106 : decode cX6_pushFrame 106 = .ok (.getfield 79, 3) := by decide +kernel
theorem dX6_pushFrame_109 : decode cX6_pushFrame 109 = .ok (.iconst 1, 1) := by decide +kernel
theorem dX6_pushFrame_110 : decode cX6_pushFrame 110 = .ok (.iadd, 1) := by decide +kernel
theorem dX6_pushFrame_111 : decode cX6_pushFrame 111 = .ok (.putfield 79, 3) := by decide +kernel
theorem dX6_pushFrame_114 : decode cX6_pushFrame 114 = .ok (.return_, 1) := by decide +kernel
theorem dX6_frameFact_0 : decode cX6_frameFact 0 = .ok (.iload_n 1, 1) := by decide +kernel
theorem dX6_frameFact_1 : decode cX6_frameFact 1 = .ok (.iconst 4, 1) := by decide +kernel
theorem dX6_frameFact_2 : decode cX6_frameFact 2 = .ok (.imul, 1) := by decide +kernel
theorem dX6_frameFact_3 : decode cX6_frameFact 3 = .ok (.iload_n 2, 1) := by decide +kernel
theorem dX6_frameFact_4 : decode cX6_frameFact 4 = .ok (.iadd, 1) := by decide +kernel
theorem dX6_frameFact_5 : decode cX6_frameFact 5 = .ok (.istore_n 3, 1) := by decide +kernel
theorem dX6_frameFact_6 : decode cX6_frameFact 6 = .ok (.iload_n 1, 1) := by decide +kernel
theorem dX6_frameFact_7 : decode cX6_frameFact 7 = .ok (.ifCond .lt 16, 3) := by decide +kernel
theorem dX6_frameFact_10 : decode cX6_frameFact 10 = .ok (.iload_n 3, 1) := by decide +kernel
theorem dX6_frameFact_11 : decode cX6_frameFact 11 = .ok (.ifCond .lt 12, 3) := by decide +kernel
theorem dX6_frameFact_14 : decode cX6_frameFact 14 = .ok (.iload_n 3, 1) := by decide +kernel
theorem dX6_frameFact_15 : decode cX6_frameFact 15 = .ok (.aload_n 0, 1) := by decide +kernel
theorem dX6_frameFact_16 : decode cX6_frameFact 16 = .ok (.getfield 15, 3) := by decide +kernel
theorem dX6_frameFact_19 : decode cX6_frameFact 19 = .ok (.arraylength, 1) := by decide +kernel
theorem dX6_frameFact_20 : decode cX6_frameFact 20 = .ok (.if_icmp .lt 7, 3) := by decide +kernel
theorem dX6_frameFact_23 : decode cX6_frameFact 23 = .ok (.iconst (-1), 1) := by decide +kernel
theorem dX6_frameFact_24 : decode cX6_frameFact 24 = .ok (.goto 9, 3) := by decide +kernel
theorem dX6_frameFact_27 : decode cX6_frameFact 27 = .ok (.aload_n 0, 1) := by decide +kernel
theorem dX6_frameFact_28 : decode cX6_frameFact 28 = .ok (.getfield 15, 3) := by decide +kernel
theorem dX6_frameFact_31 : decode cX6_frameFact 31 = .ok (.iload_n 3, 1) := by decide +kernel
theorem dX6_frameFact_32 : decode cX6_frameFact 32 = .ok (.iaload, 1) := by decide +kernel
theorem dX6_frameFact_33 : decode cX6_frameFact 33 = .ok (.ireturn, 1) := by decide +kernel
theorem dX6_pushOption_0 : decode cX6_pushOption 0 = .ok (.aload_n 0, 1) := by decide +kernel
theorem dX6_pushOption_1 : decode cX6_pushOption 1 = .ok (.getfield 67, 3) := by decide +kernel
theorem dX6_pushOption_4 : decode cX6_pushOption 4 = .ok (.iconst 5, 1) := by decide +kernel
theorem dX6_pushOption_5 : decode cX6_pushOption 5 = .ok (.imul, 1) := by decide +kernel
theorem dX6_pushOption_6 : decode cX6_pushOption 6 = .ok (.istore_n 2, 1) := by decide +kernel
theorem dX6_pushOption_7 : decode cX6_pushOption 7 = .ok (.iload_n 2, 1) := by decide +kernel
theorem dX6_pushOption_8 : decode cX6_pushOption 8 = .ok (.iconst 5, 1) := by decide +kernel
theorem dX6_pushOption_9 : decode cX6_pushOption 9 = .ok (.iadd, 1) := by decide +kernel
theorem dX6_pushOption_10 : decode cX6_pushOption 10 = .ok (.aload_n 0, 1) := by decide +kernel
theorem dX6_pushOption_11 : decode cX6_pushOption 11 = .ok (.getfield 18, 3) := by decide +kernel
theorem dX6_pushOption_14 : decode cX6_pushOption 14 = .ok (.arraylength, 1) := by decide +kernel
theorem dX6_pushOption_15 : decode cX6_pushOption 15 = .ok (.if_icmp .le 21, 3) := by decide +kernel
theorem dX6_pushOption_18 : decode cX6_pushOption 18 = .ok (.aload_n 0, 1) := by decide +kernel
theorem dX6_pushOption_19 : decode cX6_pushOption 19 = .ok (.aload_n 0, 1) := by decide +kernel
theorem dX6_pushOption_20 : decode cX6_pushOption 20 = .ok (.getfield 18, 3) := by decide +kernel
theorem dX6_pushOption_23 : decode cX6_pushOption 23 = .ok (.iconst 2, 1) := by decide +kernel
theorem dX6_pushOption_24 : decode cX6_pushOption 24 = .ok (.aload_n 0, 1) := by decide +kernel
theorem dX6_pushOption_25 : decode cX6_pushOption 25 = .ok (.getfield 18, 3) := by decide +kernel
theorem dX6_pushOption_28 : decode cX6_pushOption 28 = .ok (.arraylength, 1) := by decide +kernel
theorem dX6_pushOption_29 : decode cX6_pushOption 29 = .ok (.imul, 1) := by decide +kernel
theorem dX6_pushOption_30 : decode cX6_pushOption 30 = .ok (.invokestatic 165, 3) := by decide +kernel
theorem dX6_pushOption_33 : decode cX6_pushOption 33 = .ok (.putfield 18, 3) := by decide +kernel
theorem dX6_pushOption_36 : decode cX6_pushOption 36 = .ok (.iload_n 2, 1) := by decide +kernel
theorem dX6_pushOption_37 : decode cX6_pushOption 37 = .ok (.ifCond .lt 81, 3) := by decide +kernel
theorem dX6_pushOption_40 : decode cX6_pushOption 40 = .ok (.iload_n 2, 1) := by decide +kernel
theorem dX6_pushOption_41 : decode cX6_pushOption 41 = .ok (.iconst 5, 1) := by decide +kernel
theorem dX6_pushOption_42 : decode cX6_pushOption 42 = .ok (.iadd, 1) := by decide +kernel
theorem dX6_pushOption_43 : decode cX6_pushOption 43 = .ok (.aload_n 0, 1) := by decide +kernel
theorem dX6_pushOption_44 : decode cX6_pushOption 44 = .ok (.getfield 18, 3) := by decide +kernel
theorem dX6_pushOption_47 : decode cX6_pushOption 47 = .ok (.arraylength, 1) := by decide +kernel
theorem dX6_pushOption_48 : decode cX6_pushOption 48 = .ok (.if_icmp .gt 70, 3) := by decide +kernel
theorem dX6_pushOption_51 : decode cX6_pushOption 51 = .ok (.aload_n 0, 1) := by decide +kernel
theorem dX6_pushOption_52 : decode cX6_pushOption 52 = .ok (.getfield 18, 3) := by decide +kernel
theorem dX6_pushOption_55 : decode cX6_pushOption 55 = .ok (.iload_n 2, 1) := by decide +kernel
theorem dX6_pushOption_56 : decode cX6_pushOption 56 = .ok (.iconst 0, 1) := by decide +kernel
theorem dX6_pushOption_57 : decode cX6_pushOption 57 = .ok (.iadd, 1) := by decide +kernel
theorem dX6_pushOption_58 : decode cX6_pushOption 58 = .ok (.aload_n 0, 1) := by decide +kernel
theorem dX6_pushOption_59 : decode cX6_pushOption 59 = .ok (.getfield 76, 3) := by decide +kernel
theorem dX6_pushOption_62 : decode cX6_pushOption 62 = .ok (.iastore, 1) := by decide +kernel
theorem dX6_pushOption_63 : decode cX6_pushOption 63 = .ok (.aload_n 0, 1) := by decide +kernel
theorem dX6_pushOption_64 : decode cX6_pushOption 64 = .ok (.getfield 18, 3) := by decide +kernel
theorem dX6_pushOption_67 : decode cX6_pushOption 67 = .ok (.iload_n 2, 1) := by decide +kernel
theorem dX6_pushOption_68 : decode cX6_pushOption 68 = .ok (.iconst 1, 1) := by decide +kernel
theorem dX6_pushOption_69 : decode cX6_pushOption 69 = .ok (.iadd, 1) := by decide +kernel
theorem dX6_pushOption_70 : decode cX6_pushOption 70 = .ok (.aload_n 0, 1) := by decide +kernel
theorem dX6_pushOption_71 : decode cX6_pushOption 71 = .ok (.getfield 55, 3) := by decide +kernel
theorem dX6_pushOption_74 : decode cX6_pushOption 74 = .ok (.iastore, 1) := by decide +kernel
theorem dX6_pushOption_75 : decode cX6_pushOption 75 = .ok (.aload_n 0, 1) := by decide +kernel
theorem dX6_pushOption_76 : decode cX6_pushOption 76 = .ok (.getfield 18, 3) := by decide +kernel
theorem dX6_pushOption_79 : decode cX6_pushOption 79 = .ok (.iload_n 2, 1) := by decide +kernel
theorem dX6_pushOption_80 : decode cX6_pushOption 80 = .ok (.iconst 2, 1) := by decide +kernel
theorem dX6_pushOption_81 : decode cX6_pushOption 81 = .ok (.iadd, 1) := by decide +kernel
theorem dX6_pushOption_82 : decode cX6_pushOption 82 = .ok (.iload_n 1, 1) := by decide +kernel
theorem dX6_pushOption_83 : decode cX6_pushOption 83 = .ok (.iastore, 1) := by decide +kernel
theorem dX6_pushOption_84 : decode cX6_pushOption 84 = .ok (.aload_n 0, 1) := by decide +kernel
theorem dX6_pushOption_85 : decode cX6_pushOption 85 = .ok (.getfield 18, 3) := by decide +kernel
theorem dX6_pushOption_88 : decode cX6_pushOption 88 = .ok (.iload_n 2, 1) := by decide +kernel
theorem dX6_pushOption_89 : decode cX6_pushOption 89 = .ok (.iconst 3, 1) := by decide +kernel
theorem dX6_pushOption_90 : decode cX6_pushOption 90 = .ok (.iadd, 1) := by decide +kernel
theorem dX6_pushOption_91 : decode cX6_pushOption 91 = .ok (.aload_n 0, 1) := by decide +kernel
theorem dX6_pushOption_92 : decode cX6_pushOption 92 = .ok (.getfield 64, 3) := by decide +kernel
theorem dX6_pushOption_95 : decode cX6_pushOption 95 = .ok (.iastore, 1) := by decide +kernel
theorem dX6_pushOption_96 : decode cX6_pushOption 96 = .ok (.aload_n 0, 1) := by decide +kernel
theorem dX6_pushOption_97 : decode cX6_pushOption 97 = .ok (.getfield 18, 3) := by decide +kernel
theorem dX6_pushOption_100 : decode cX6_pushOption 100 = .ok (.iload_n 2, 1) := by decide +kernel
theorem dX6_pushOption_101 : decode cX6_pushOption 101 = .ok (.iconst 4, 1) := by decide +kernel
theorem dX6_pushOption_102 : decode cX6_pushOption 102 = .ok (.iadd, 1) := by decide +kernel
theorem dX6_pushOption_103 : decode cX6_pushOption 103 = .ok (.aload_n 0, 1) := by decide +kernel
theorem dX6_pushOption_104 : decode cX6_pushOption 104 = .ok (.getfield 79, 3) := by decide +kernel
theorem dX6_pushOption_107 : decode cX6_pushOption 107 = .ok (.iastore, 1) := by decide +kernel
theorem dX6_pushOption_108 : decode cX6_pushOption 108 = .ok (.aload_n 0, 1) := by decide +kernel
theorem dX6_pushOption_109 : decode cX6_pushOption 109 = .ok (.dup, 1) := by decide +kernel
theorem dX6_pushOption_110 : decode cX6_pushOption 110 = .ok (.getfield 67, 3) := by decide +kernel
theorem dX6_pushOption_113 : decode cX6_pushOption 113 = .ok (.iconst 1, 1) := by decide +kernel
theorem dX6_pushOption_114 : decode cX6_pushOption 114 = .ok (.iadd, 1) := by decide +kernel
theorem dX6_pushOption_115 : decode cX6_pushOption 115 = .ok (.putfield 67, 3) := by decide +kernel
theorem dX6_pushOption_118 : decode cX6_pushOption 118 = .ok (.return_, 1) := by decide +kernel
theorem dX6_optionFact_0 : decode cX6_optionFact 0 = .ok (.aload_n 0, 1) := by decide +kernel
theorem dX6_optionFact_1 : decode cX6_optionFact 1 = .ok (.getfield 67, 3) := by decide +kernel
theorem dX6_optionFact_4 : decode cX6_optionFact 4 = .ok (.iconst 5, 1) := by decide +kernel
theorem dX6_optionFact_5 : decode cX6_optionFact 5 = .ok (.imul, 1) := by decide +kernel
theorem dX6_optionFact_6 : decode cX6_optionFact 6 = .ok (.iload_n 1, 1) := by decide +kernel
theorem dX6_optionFact_7 : decode cX6_optionFact 7 = .ok (.iadd, 1) := by decide +kernel
theorem dX6_optionFact_8 : decode cX6_optionFact 8 = .ok (.istore_n 2, 1) := by decide +kernel
theorem dX6_optionFact_9 : decode cX6_optionFact 9 = .ok (.iload_n 2, 1) := by decide +kernel
theorem dX6_optionFact_10 : decode cX6_optionFact 10 = .ok (.ifCond .lt 12, 3) := by decide +kernel
theorem dX6_optionFact_13 : decode cX6_optionFact 13 = .ok (.iload_n 2, 1) := by decide +kernel
theorem dX6_optionFact_14 : decode cX6_optionFact 14 = .ok (.aload_n 0, 1) := by decide +kernel
theorem dX6_optionFact_15 : decode cX6_optionFact 15 = .ok (.getfield 18, 3) := by decide +kernel
theorem dX6_optionFact_18 : decode cX6_optionFact 18 = .ok (.arraylength, 1) := by decide +kernel
theorem dX6_optionFact_19 : decode cX6_optionFact 19 = .ok (.if_icmp .lt 7, 3) := by decide +kernel
theorem dX6_optionFact_22 : decode cX6_optionFact 22 = .ok (.iconst (-1), 1) := by decide +kernel
theorem dX6_optionFact_23 : decode cX6_optionFact 23 = .ok (.goto 9, 3) := by decide +kernel
theorem dX6_optionFact_26 : decode cX6_optionFact 26 = .ok (.aload_n 0, 1) := by decide +kernel
theorem dX6_optionFact_27 : decode cX6_optionFact 27 = .ok (.getfield 18, 3) := by decide +kernel
theorem dX6_optionFact_30 : decode cX6_optionFact 30 = .ok (.iload_n 2, 1) := by decide +kernel
theorem dX6_optionFact_31 : decode cX6_optionFact 31 = .ok (.iaload, 1) := by decide +kernel
theorem dX6_optionFact_32 : decode cX6_optionFact 32 = .ok (.ireturn, 1) := by decide +kernel
theorem dX6_allows_0 : decode cX6_allows 0 = .ok (.iload_n 1, 1) := by decide +kernel
theorem dX6_allows_1 : decode cX6_allows 1 = .ok (.invokestatic 140, 3) := by decide +kernel
theorem dX6_allows_4 : decode cX6_allows 4 = .ok (.ifCond .eq 13, 3) := by decide +kernel
theorem dX6_allows_7 : decode cX6_allows 7 = .ok (.iload_n 2, 1) := by decide +kernel
theorem dX6_allows_8 : decode cX6_allows 8 = .ok (.ifCond .lt 9, 3) := by decide +kernel
