/-! decode rows, 2 -/
theorem dX6_goOn_25 : decode cX6_goOn 25 = .ok (.iconst 1, 1) := by decide +kernel
theorem dX6_goOn_26 : decode cX6_goOn 26 = .ok (.invokevirtual 131, 3) := by decide +kernel
theorem dX6_goOn_29 : decode cX6_goOn 29 = .ok (.putfield 55, 3) := by decide +kernel
theorem dX6_goOn_32 : decode cX6_goOn 32 = .ok (.aload_n 1, 1) := by decide +kernel
theorem dX6_goOn_33 : decode cX6_goOn 33 = .ok (.aload_n 0, 1) := by decide +kernel
theorem dX6_goOn_34 : decode cX6_goOn 34 = .ok (.getfield 76, 3) := by decide +kernel
theorem dX6_goOn_37 : decode cX6_goOn 37 = .ok (.iconst 0, 1) := by decide +kernel
theorem dX6_goOn_38 : decode cX6_goOn 38 = .ok (.invokevirtual 106, 3) := by decide +kernel
theorem dX6_goOn_41 : decode cX6_goOn 41 = .ok (.istore 4, 2) := by decide +kernel
theorem dX6_goOn_43 : decode cX6_goOn 43 = .ok (.iload 4, 2) := by decide +kernel
theorem dX6_goOn_45 : decode cX6_goOn 45 = .ok (.iconst 3, 1) := by decide +kernel
theorem dX6_goOn_46 : decode cX6_goOn 46 = .ok (.if_icmp .ne 16, 3) := by decide +kernel
theorem dX6_goOn_49 : decode cX6_goOn 49 = .ok (.aload_n 0, 1) := by decide +kernel
theorem dX6_goOn_50 : decode cX6_goOn 50 = .ok (.aload_n 1, 1) := by decide +kernel
theorem dX6_goOn_51 : decode cX6_goOn 51 = .ok (.aload_n 1, 1) := by decide +kernel
theorem dX6_goOn_52 : decode cX6_goOn 52 = .ok (.iload_n 3, 1) := by decide +kernel
theorem dX6_goOn_53 : decode cX6_goOn 53 = .ok (.bipush 8, 2) := by decide +kernel
theorem dX6_goOn_55 : decode cX6_goOn 55 = .ok (.invokevirtual 106, 3) := by decide +kernel
theorem dX6_goOn_58 : decode cX6_goOn 58 = .ok (.invokevirtual 109, 3) := by decide +kernel
theorem dX6_goOn_61 : decode cX6_goOn 61 = .ok (.ireturn, 1) := by decide +kernel
theorem dX6_goOn_62 : decode cX6_goOn 62 = .ok (.aload_n 0, 1) := by decide +kernel
theorem dX6_goOn_63 : decode cX6_goOn 63 = .ok (.invokevirtual 113, 3) := by decide +kernel
theorem dX6_goOn_66 : decode cX6_goOn 66 = .ok (.ifCond .ne 5, 3) := by decide +kernel
theorem dX6_goOn_69 : decode cX6_goOn 69 = .ok (.iconst 3, 1) := by decide +kernel
theorem dX6_goOn_70 : decode cX6_goOn 70 = .ok (.ireturn, 1) := by decide +kernel
theorem dX6_goOn_71 : decode cX6_goOn 71 = .ok (.iload 4, 2) := by decide +kernel
theorem dX6_goOn_73 : decode cX6_goOn 73 = .ok (.iconst 5, 1) := by decide +kernel
theorem dX6_goOn_74 : decode cX6_goOn 74 = .ok (.if_icmp .ne 18, 3) := by decide +kernel
theorem dX6_goOn_77 : decode cX6_goOn 77 = .ok (.aload_n 0, 1) := by decide +kernel
theorem dX6_goOn_78 : decode cX6_goOn 78 = .ok (.aload_n 1, 1) := by decide +kernel
theorem dX6_goOn_79 : decode cX6_goOn 79 = .ok (.iload_n 3, 1) := by decide +kernel
theorem dX6_goOn_80 : decode cX6_goOn 80 = .ok (.aload_n 0, 1) := by decide +kernel
theorem dX6_goOn_81 : decode cX6_goOn 81 = .ok (.iload_n 2, 1) := by decide +kernel
theorem dX6_goOn_82 : decode cX6_goOn 82 = .ok (.iconst 3, 1) := by decide +kernel
theorem dX6_goOn_83 : decode cX6_goOn 83 = .ok (.invokevirtual 131, 3) := by decide +kernel
theorem dX6_goOn_86 : decode cX6_goOn 86 = .ok (.invokevirtual 124, 3) := by decide +kernel
theorem dX6_goOn_89 : decode cX6_goOn 89 = .ok (.goto 10, 3) := by decide +kernel
theorem dX6_goOn_92 : decode cX6_goOn 92 = .ok (.aload_n 0, 1) := by decide +kernel
theorem dX6_goOn_93 : decode cX6_goOn 93 = .ok (.aload_n 1, 1) := by decide +kernel
theorem dX6_goOn_94 : decode cX6_goOn 94 = .ok (.iload_n 3, 1) := by decide +kernel
theorem dX6_goOn_95 : decode cX6_goOn 95 = .ok (.iconst 0, 1) := by decide +kernel
theorem dX6_goOn_96 : decode cX6_goOn 96 = .ok (.invokevirtual 128, 3) := by decide +kernel
theorem dX6_goOn_99 : decode cX6_goOn 99 = .ok (.ireturn, 1) := by decide +kernel
theorem dX6_goBack_0 : decode cX6_goBack 0 = .ok (.aload_n 0, 1) := by decide +kernel
theorem dX6_goBack_1 : decode cX6_goBack 1 = .ok (.dup, 1) := by decide +kernel
theorem dX6_goBack_2 : decode cX6_goBack 2 = .ok (.getfield 67, 3) := by decide +kernel
theorem dX6_goBack_5 : decode cX6_goBack 5 = .ok (.iconst 1, 1) := by decide +kernel
theorem dX6_goBack_6 : decode cX6_goBack 6 = .ok (.isub, 1) := by decide +kernel
theorem dX6_goBack_7 : decode cX6_goBack 7 = .ok (.putfield 67, 3) := by decide +kernel
theorem dX6_goBack_10 : decode cX6_goBack 10 = .ok (.aload_n 0, 1) := by decide +kernel
theorem dX6_goBack_11 : decode cX6_goBack 11 = .ok (.aload_n 0, 1) := by decide +kernel
theorem dX6_goBack_12 : decode cX6_goBack 12 = .ok (.iconst 0, 1) := by decide +kernel
theorem dX6_goBack_13 : decode cX6_goBack 13 = .ok (.invokevirtual 134, 3) := by decide +kernel
theorem dX6_goBack_16 : decode cX6_goBack 16 = .ok (.putfield 76, 3) := by decide +kernel
theorem dX6_goBack_19 : decode cX6_goBack 19 = .ok (.aload_n 0, 1) := by decide +kernel
theorem dX6_goBack_20 : decode cX6_goBack 20 = .ok (.aload_n 0, 1) := by decide +kernel
theorem dX6_goBack_21 : decode cX6_goBack 21 = .ok (.iconst 1, 1) := by decide +kernel
theorem dX6_goBack_22 : decode cX6_goBack 22 = .ok (.invokevirtual 134, 3) := by decide +kernel
theorem dX6_goBack_25 : decode cX6_goBack 25 = .ok (.putfield 55, 3) := by decide +kernel
theorem dX6_goBack_28 : decode cX6_goBack 28 = .ok (.aload_n 0, 1) := by decide +kernel
theorem dX6_goBack_29 : decode cX6_goBack 29 = .ok (.aload_n 0, 1) := by decide +kernel
theorem dX6_goBack_30 : decode cX6_goBack 30 = .ok (.iconst 3, 1) := by decide +kernel
theorem dX6_goBack_31 : decode cX6_goBack 31 = .ok (.invokevirtual 134, 3) := by decide +kernel
theorem dX6_goBack_34 : decode cX6_goBack 34 = .ok (.putfield 64, 3) := by decide +kernel
theorem dX6_goBack_37 : decode cX6_goBack 37 = .ok (.aload_n 0, 1) := by decide +kernel
theorem dX6_goBack_38 : decode cX6_goBack 38 = .ok (.aload_n 0, 1) := by decide +kernel
theorem dX6_goBack_39 : decode cX6_goBack 39 = .ok (.iconst 4, 1) := by decide +kernel
theorem dX6_goBack_40 : decode cX6_goBack 40 = .ok (.invokevirtual 134, 3) := by decide +kernel
theorem dX6_goBack_43 : decode cX6_goBack 43 = .ok (.putfield 79, 3) := by decide +kernel
theorem dX6_goBack_46 : decode cX6_goBack 46 = .ok (.aload_n 0, 1) := by decide +kernel
theorem dX6_goBack_47 : decode cX6_goBack 47 = .ok (.iconst 2, 1) := by decide +kernel
theorem dX6_goBack_48 : decode cX6_goBack 48 = .ok (.invokevirtual 134, 3) := by decide +kernel
theorem dX6_goBack_51 : decode cX6_goBack 51 = .ok (.istore_n 2, 1) := by decide +kernel
theorem dX6_goBack_52 : decode cX6_goBack 52 = .ok (.aload_n 1, 1) := by decide +kernel
theorem dX6_goBack_53 : decode cX6_goBack 53 = .ok (.aload_n 0, 1) := by decide +kernel
theorem dX6_goBack_54 : decode cX6_goBack 54 = .ok (.getfield 76, 3) := by decide +kernel
theorem dX6_goBack_57 : decode cX6_goBack 57 = .ok (.iconst 0, 1) := by decide +kernel
theorem dX6_goBack_58 : decode cX6_goBack 58 = .ok (.invokevirtual 106, 3) := by decide +kernel
theorem dX6_goBack_61 : decode cX6_goBack 61 = .ok (.lookupswitch 58 #[(4, 27), (5, 34)], 27) := by decide +kernel
theorem dX6_goBack_88 : decode cX6_goBack 88 = .ok (.aload_n 0, 1) := by decide +kernel
theorem dX6_goBack_89 : decode cX6_goBack 89 = .ok (.aload_n 1, 1) := by decide +kernel
theorem dX6_goBack_90 : decode cX6_goBack 90 = .ok (.iload_n 2, 1) := by decide +kernel
theorem dX6_goBack_91 : decode cX6_goBack 91 = .ok (.invokevirtual 121, 3) := by decide +kernel
theorem dX6_goBack_94 : decode cX6_goBack 94 = .ok (.ireturn, 1) := by decide +kernel
theorem dX6_goBack_95 : decode cX6_goBack 95 = .ok (.aload_n 1, 1) := by decide +kernel
theorem dX6_goBack_96 : decode cX6_goBack 96 = .ok (.aload_n 0, 1) := by decide +kernel
theorem dX6_goBack_97 : decode cX6_goBack 97 = .ok (.getfield 76, 3) := by decide +kernel
theorem dX6_goBack_100 : decode cX6_goBack 100 = .ok (.iconst 5, 1) := by decide +kernel
theorem dX6_goBack_101 : decode cX6_goBack 101 = .ok (.invokevirtual 106, 3) := by decide +kernel
theorem dX6_goBack_104 : decode cX6_goBack 104 = .ok (.iconst 1, 1) := by decide +kernel
theorem dX6_goBack_105 : decode cX6_goBack 105 = .ok (.if_icmp .ne 7, 3) := by decide +kernel
theorem dX6_goBack_108 : decode cX6_goBack 108 = .ok (.iconst 1, 1) := by decide +kernel
theorem dX6_goBack_109 : decode cX6_goBack 109 = .ok (.goto 9, 3) := by decide +kernel
theorem dX6_goBack_112 : decode cX6_goBack 112 = .ok (.aload_n 0, 1) := by decide +kernel
theorem dX6_goBack_113 : decode cX6_goBack 113 = .ok (.aload_n 1, 1) := by decide +kernel
theorem dX6_goBack_114 : decode cX6_goBack 114 = .ok (.iload_n 2, 1) := by decide +kernel
theorem dX6_goBack_115 : decode cX6_goBack 115 = .ok (.invokevirtual 137, 3) := by decide +kernel
theorem dX6_goBack_118 : decode cX6_goBack 118 = .ok (.ireturn, 1) := by decide +kernel
theorem dX6_goBack_119 : decode cX6_goBack 119 = .ok (.aload_n 0, 1) := by decide +kernel
theorem dX6_goBack_120 : decode cX6_goBack 120 = .ok (.aload_n 1, 1) := by decide +kernel
theorem dX6_goBack_121 : decode cX6_goBack 121 = .ok (.iload_n 2, 1) := by decide +kernel
theorem dX6_goBack_122 : decode cX6_goBack 122 = .ok (.bipush 8, 2) := by decide +kernel
theorem dX6_goBack_124 : decode cX6_goBack 124 = .ok (.idiv, 1) := by decide +kernel
theorem dX6_goBack_125 : decode cX6_goBack 125 = .ok (.iload_n 2, 1) := by decide +kernel
theorem dX6_goBack_126 : decode cX6_goBack 126 = .ok (.bipush 8, 2) := by decide +kernel
theorem dX6_goBack_128 : decode cX6_goBack 128 = .ok (.irem, 1) := by decide +kernel
theorem dX6_goBack_129 : decode cX6_goBack 129 = .ok (.invokevirtual 128, 3) := by decide +kernel
theorem dX6_goBack_132 : decode cX6_goBack 132 = .ok (.ireturn, 1) := by decide +kernel
theorem dX6_takeLetter_0 : decode cX6_takeLetter 0 = .ok (.aload_n 0, 1) := by decide +kernel
theorem dX6_takeLetter_1 : decode cX6_takeLetter 1 = .ok (.getfield 64, 3) := by decide +kernel
theorem dX6_takeLetter_4 : decode cX6_takeLetter 4 = .ok (.aload_n 0, 1) := by decide +kernel
theorem dX6_takeLetter_5 : decode cX6_takeLetter 5 = .ok (.getfield 21, 3) := by decide +kernel
theorem dX6_takeLetter_8 : decode cX6_takeLetter 8 = .ok (.getfield 31, 3) := by decide +kernel
theorem dX6_takeLetter_11 : decode cX6_takeLetter 11 = .ok (.getfield 35, 3) := by decide +kernel
theorem dX6_takeLetter_14 : decode cX6_takeLetter 14 = .ok (.if_icmp .ge 19, 3) := by decide +kernel
theorem dX6_takeLetter_17 : decode cX6_takeLetter 17 = .ok (.aload_n 0, 1) := by decide +kernel
theorem dX6_takeLetter_18 : decode cX6_takeLetter 18 = .ok (.getfield 64, 3) := by decide +kernel
theorem dX6_takeLetter_21 : decode cX6_takeLetter 21 = .ok (.ifCond .lt 12, 3) := by decide +kernel
theorem dX6_takeLetter_24 : decode cX6_takeLetter 24 = .ok (.aload_n 0, 1) := by decide +kernel
theorem dX6_takeLetter_25 : decode cX6_takeLetter 25 = .ok (.getfield 64, 3) := by decide +kernel
theorem dX6_takeLetter_28 : decode cX6_takeLetter 28 = .ok (.bipush 32, 2) := by decide +kernel
theorem dX6_takeLetter_30 : decode cX6_takeLetter 30 = .ok (.if_icmp .lt 5, 3) := by decide +kernel
theorem dX6_takeLetter_33 : decode cX6_takeLetter 33 = .ok (.iconst 2, 1) := by decide +kernel
theorem dX6_takeLetter_34 : decode cX6_takeLetter 34 = .ok (.ireturn, 1) := by decide +kernel
theorem dX6_takeLetter_35 : decode cX6_takeLetter 35 = .ok (.aload_n 0, 1) := by decide +kernel
theorem dX6_takeLetter_36 : decode cX6_takeLetter 36 = .ok (.getfield 9, 3) := by decide +kernel
theorem dX6_takeLetter_39 : decode cX6_takeLetter 39 = .ok (.aload_n 0, 1) := by decide +kernel
theorem dX6_takeLetter_40 : decode cX6_takeLetter 40 = .ok (.getfield 64, 3) := by decide +kernel
theorem dX6_takeLetter_43 : decode cX6_takeLetter 43 = .ok (.iload_n 1, 1) := by decide +kernel
theorem dX6_takeLetter_44 : decode cX6_takeLetter 44 = .ok (.iastore, 1) := by decide +kernel
theorem dX6_takeLetter_45 : decode cX6_takeLetter 45 = .ok (.iload_n 1, 1) := by decide +kernel
theorem dX6_takeLetter_46 : decode cX6_takeLetter 46 = .ok (.invokestatic 140, 3) := by decide +kernel
theorem dX6_takeLetter_49 : decode cX6_takeLetter 49 = .ok (.ifCond .eq 15, 3) := by decide +kernel
theorem dX6_takeLetter_52 : decode cX6_takeLetter 52 = .ok (.aload_n 0, 1) := by decide +kernel
theorem dX6_takeLetter_53 : decode cX6_takeLetter 53 = .ok (.getfield 21, 3) := by decide +kernel
theorem dX6_takeLetter_56 : decode cX6_takeLetter 56 = .ok (.getfield 144, 3) := by decide +kernel
theorem dX6_takeLetter_59 : decode cX6_takeLetter 59 = .ok (.iload_n 1, 1) := by decide +kernel
theorem dX6_takeLetter_60 : decode cX6_takeLetter 60 = .ok (.aaload, 1) := by decide +kernel
theorem dX6_takeLetter_61 : decode cX6_takeLetter 61 = .ok (.goto 4, 3) := by decide +kernel
theorem dX6_takeLetter_64 : decode cX6_takeLetter 64 = .ok (.aconst_null, 1) := by decide +kernel
theorem dX6_takeLetter_65 : decode cX6_takeLetter 65 = .ok (.astore_n 2, 1) := by decide +kernel
theorem dX6_takeLetter_66 : decode cX6_takeLetter 66 = .ok (.aload_n 2, 1) := by decide +kernel
theorem dX6_takeLetter_67 : decode cX6_takeLetter 67 = .ok (.ifnull 17, 3) := by decide +kernel
theorem dX6_takeLetter_70 : decode cX6_takeLetter 70 = .ok (.aload_n 2, 1) := by decide +kernel
theorem dX6_takeLetter_71 : decode cX6_takeLetter 71 = .ok (.aload_n 0, 1) := by decide +kernel
theorem dX6_takeLetter_72 : decode cX6_takeLetter 72 = .ok (.aload_n 0, 1) := by decide +kernel
theorem dX6_takeLetter_73 : decode cX6_takeLetter 73 = .ok (.getfield 64, 3) := by decide +kernel
theorem dX6_takeLetter_76 : decode cX6_takeLetter 76 = .ok (.invokevirtual 148, 3) := by decide +kernel
theorem dX6_takeLetter_79 : decode cX6_takeLetter 79 = .ok (.ifCond .ne 5, 3) := by decide +kernel
theorem dX6_takeLetter_82 : decode cX6_takeLetter 82 = .ok (.iconst 2, 1) := by decide +kernel
theorem dX6_takeLetter_83 : decode cX6_takeLetter 83 = .ok (.ireturn, 1) := by decide +kernel
theorem dX6_takeLetter_84 : decode cX6_takeLetter 84 = .ok (.aload_n 0, 1) := by decide +kernel
theorem dX6_takeLetter_85 : decode cX6_takeLetter 85 = .ok (.dup, 1) := by decide +kernel
theorem dX6_takeLetter_86 : decode cX6_takeLetter 86 = .ok (.getfield 64, 3) := by decide +kernel
theorem dX6_takeLetter_89 : decode cX6_takeLetter 89 = .ok (.iconst 1, 1) := by decide +kernel
theorem dX6_takeLetter_90 : decode cX6_takeLetter 90 = .ok (.iadd, 1) := by decide +kernel
theorem dX6_takeLetter_91 : decode cX6_takeLetter 91 = .ok (.putfield 64, 3) := by decide +kernel
theorem dX6_takeLetter_94 : decode cX6_takeLetter 94 = .ok (.iconst 1, 1) := by decide +kernel
theorem dX6_takeLetter_95 : decode cX6_takeLetter 95 = .ok (.ireturn, 1) := by decide +kernel
theorem dX6_comeWithin_0 : decode cX6_comeWithin 0 = .ok (.aload_n 1, 1) := by decide +kernel
theorem dX6_comeWithin_1 : decode cX6_comeWithin 1 = .ok (.iload_n 2, 1) := by decide +kernel
theorem dX6_comeWithin_2 : decode cX6_comeWithin 2 = .ok (.bipush 8, 2) := by decide +kernel
theorem dX6_comeWithin_4 : decode cX6_comeWithin 4 = .ok (.invokevirtual 106, 3) := by decide +kernel
theorem dX6_comeWithin_7 : decode cX6_comeWithin 7 = .ok (.ifCond .lt 8, 3) := by decide +kernel
theorem dX6_comeWithin_10 : decode cX6_comeWithin 10 = .ok (.aload_n 0, 1) := by decide +kernel
theorem dX6_comeWithin_11 : decode cX6_comeWithin 11 = .ok (.iload_n 2, 1) := by decide +kernel
theorem dX6_comeWithin_12 : decode cX6_comeWithin 12 = .ok (.invokevirtual 154, 3) := by decide +kernel
theorem dX6_comeWithin_15 : decode cX6_comeWithin 15 = .ok (.aload_n 0, 1) := by decide +kernel
theorem dX6_comeWithin_16 : decode cX6_comeWithin 16 = .ok (.iload_n 2, 1) := by decide +kernel
theorem dX6_comeWithin_17 : decode cX6_comeWithin 17 = .ok (.putfield 76, 3) := by decide +kernel
theorem dX6_comeWithin_20 : decode cX6_comeWithin 20 = .ok (.iconst 0, 1) := by decide +kernel
theorem dX6_comeWithin_21 : decode cX6_comeWithin 21 = .ok (.ireturn, 1) := by decide +kernel
theorem dX6_choose_0 : decode cX6_choose 0 = .ok (.aload_n 1, 1) := by decide +kernel
theorem dX6_choose_1 : decode cX6_choose 1 = .ok (.iload_n 2, 1) := by decide +kernel
theorem dX6_choose_2 : decode cX6_choose 2 = .ok (.bipush 8, 2) := by decide +kernel
theorem dX6_choose_4 : decode cX6_choose 4 = .ok (.invokevirtual 106, 3) := by decide +kernel
theorem dX6_choose_7 : decode cX6_choose 7 = .ok (.istore_n 3, 1) := by decide +kernel
theorem dX6_choose_8 : decode cX6_choose 8 = .ok (.iload_n 3, 1) := by decide +kernel
theorem dX6_choose_9 : decode cX6_choose 9 = .ok (.ifCond .lt 8, 3) := by decide +kernel
theorem dX6_choose_12 : decode cX6_choose 12 = .ok (.aload_n 0, 1) := by decide +kernel
theorem dX6_choose_13 : decode cX6_choose 13 = .ok (.iload_n 3, 1) := by decide +kernel
theorem dX6_choose_14 : decode cX6_choose 14 = .ok (.invokevirtual 158, 3) := by decide +kernel
theorem dX6_choose_17 : decode cX6_choose 17 = .ok (.aload_n 0, 1) := by decide +kernel
theorem dX6_choose_18 : decode cX6_choose 18 = .ok (.iload_n 2, 1) := by decide +kernel
theorem dX6_choose_19 : decode cX6_choose 19 = .ok (.putfield 76, 3) := by decide +kernel
theorem dX6_choose_22 : decode cX6_choose 22 = .ok (.iconst 0, 1) := by decide +kernel
theorem dX6_choose_23 : decode cX6_choose 23 = .ok (.ireturn, 1) := by decide +kernel
theorem dX6_repeat_0 : decode cX6_repeat 0 = .ok (.aload_n 1, 1) := by decide +kernel
theorem dX6_repeat_1 : decode cX6_repeat 1 = .ok (.aload_n 0, 1) := by decide +kernel
theorem dX6_repeat_2 : decode cX6_repeat 2 = .ok (.getfield 76, 3) := by decide +kernel
theorem dX6_repeat_5 : decode cX6_repeat 5 = .ok (.iconst 3, 1) := by decide +kernel
theorem dX6_repeat_6 : decode cX6_repeat 6 = .ok (.invokevirtual 106, 3) := by decide +kernel
theorem dX6_repeat_9 : decode cX6_repeat 9 = .ok (.istore 4, 2) := by decide +kernel
theorem dX6_repeat_11 : decode cX6_repeat 11 = .ok (.aload_n 1, 1) := by decide +kernel
theorem dX6_repeat_12 : decode cX6_repeat 12 = .ok (.aload_n 0, 1) := by decide +kernel
theorem dX6_repeat_13 : decode cX6_repeat 13 = .ok (.getfield 76, 3) := by decide +kernel
theorem dX6_repeat_16 : decode cX6_repeat 16 = .ok (.iconst 4, 1) := by decide +kernel
theorem dX6_repeat_17 : decode cX6_repeat 17 = .ok (.invokevirtual 106, 3) := by decide +kernel
theorem dX6_repeat_20 : decode cX6_repeat 20 = .ok (.istore 5, 2) := by decide +kernel
theorem dX6_repeat_22 : decode cX6_repeat 22 = .ok (.iload_n 2, 1) := by decide +kernel
theorem dX6_repeat_23 : decode cX6_repeat 23 = .ok (.iload 4, 2) := by decide +kernel
theorem dX6_repeat_25 : decode cX6_repeat 25 = .ok (.if_icmp .le 13, 3) := by decide +kernel
theorem dX6_repeat_28 : decode cX6_repeat 28 = .ok (.aload_n 0, 1) := by decide +kernel
theorem dX6_repeat_29 : decode cX6_repeat 29 = .ok (.getfield 64, 3) := by decide +kernel
theorem dX6_repeat_32 : decode cX6_repeat 32 = .ok (.iload_n 3, 1) := by decide +kernel
theorem dX6_repeat_33 : decode cX6_repeat 33 = .ok (.if_icmp .ne 5, 3) := by decide +kernel
theorem dX6_repeat_36 : decode cX6_repeat 36 = .ok (.iconst 2, 1) := by decide +kernel
theorem dX6_repeat_37 : decode cX6_repeat 37 = .ok (.ireturn, 1) := by decide +kernel
theorem dX6_repeat_38 : decode cX6_repeat 38 = .ok (.iload_n 2, 1) := by decide +kernel
theorem dX6_repeat_39 : decode cX6_repeat 39 = .ok (.iload 4, 2) := by decide +kernel
theorem dX6_repeat_41 : decode cX6_repeat 41 = .ok (.if_icmp .ge 10, 3) := by decide +kernel
theorem dX6_repeat_44 : decode cX6_repeat 44 = .ok (.aload_n 0, 1) := by decide +kernel
theorem dX6_repeat_45 : decode cX6_repeat 45 = .ok (.aload_n 1, 1) := by decide +kernel
theorem dX6_repeat_46 : decode cX6_repeat 46 = .ok (.iload_n 2, 1) := by decide +kernel
theorem dX6_repeat_47 : decode cX6_repeat 47 = .ok (.invokevirtual 137, 3) := by decide +kernel
theorem dX6_repeat_50 : decode cX6_repeat 50 = .ok (.ireturn, 1) := by decide +kernel
theorem dX6_repeat_51 : decode cX6_repeat 51 = .ok (.iload_n 2, 1) := by decide +kernel
theorem dX6_repeat_52 : decode cX6_repeat 52 = .ok (.iload 5, 2) := by decide +kernel
theorem dX6_repeat_54 : decode cX6_repeat 54 = .ok (.if_icmp .ne 12, 3) := by decide +kernel
theorem dX6_repeat_57 : decode cX6_repeat 57 = .ok (.iload 5, 2) := by decide +kernel
theorem dX6_repeat_59 : decode cX6_repeat 59 = .ok (.bipush 100, 2) := by decide +kernel
theorem dX6_repeat_61 : decode cX6_repeat 61 = .ok (.if_icmp .eq 5, 3) := by decide +kernel
theorem dX6_repeat_64 : decode cX6_repeat 64 = .ok (.iconst 1, 1) := by decide +kernel
theorem dX6_repeat_65 : decode cX6_repeat 65 = .ok (.ireturn, 1) := by decide +kernel
theorem dX6_repeat_66 : decode cX6_repeat 66 = .ok (.aload_n 0, 1) := by decide +kernel
theorem dX6_repeat_67 : decode cX6_repeat 67 = .ok (.iload_n 2, 1) := by decide +kernel
theorem dX6_repeat_68 : decode cX6_repeat 68 = .ok (.invokevirtual 158, 3) := by decide +kernel
theorem dX6_repeat_71 : decode cX6_repeat 71 = .ok (.aload_n 1, 1) := by decide +kernel
theorem dX6_repeat_72 : decode cX6_repeat 72 = .ok (.aload_n 0, 1) := by decide +kernel
theorem dX6_repeat_73 : decode cX6_repeat 73 = .ok (.getfield 76, 3) := by decide +kernel
theorem dX6_repeat_76 : decode cX6_repeat 76 = .ok (.iconst 5, 1) := by decide +kernel
theorem dX6_repeat_77 : decode cX6_repeat 77 = .ok (.invokevirtual 106, 3) := by decide +kernel
theorem dX6_repeat_80 : decode cX6_repeat 80 = .ok (.iconst 1, 1) := by decide +kernel
theorem dX6_repeat_81 : decode cX6_repeat 81 = .ok (.if_icmp .ne 12, 3) := by decide +kernel
theorem dX6_repeat_84 : decode cX6_repeat 84 = .ok (.aload_n 0, 1) := by decide +kernel
theorem dX6_repeat_85 : decode cX6_repeat 85 = .ok (.aload_n 1, 1) := by decide +kernel
theorem dX6_repeat_86 : decode cX6_repeat 86 = .ok (.iload_n 2, 1) := by decide +kernel
theorem dX6_repeat_87 : decode cX6_repeat 87 = .ok (.invokevirtual 137, 3) := by decide +kernel
theorem dX6_repeat_90 : decode cX6_repeat 90 = .ok (.goto 4, 3) := by decide +kernel
theorem dX6_repeat_93 : decode cX6_repeat 93 = .ok (.iconst 1, 1) := by decide +kernel
theorem dX6_repeat_94 : decode cX6_repeat 94 = .ok (.ireturn, 1) := by decide +kernel
theorem dX6_onceMore_0 : decode cX6_onceMore 0 = .ok (.aload_n 0, 1) := by decide +kernel
theorem dX6_onceMore_1 : decode cX6_onceMore 1 = .ok (.iload_n 2, 1) := by decide +kernel
theorem dX6_onceMore_2 : decode cX6_onceMore 2 = .ok (.iconst 1, 1) := by decide +kernel
theorem dX6_onceMore_3 : decode cX6_onceMore 3 = .ok (.iadd, 1) := by decide +kernel
theorem dX6_onceMore_4 : decode cX6_onceMore 4 = .ok (.invokevirtual 154, 3) := by decide +kernel
theorem dX6_onceMore_7 : decode cX6_onceMore 7 = .ok (.aload_n 0, 1) := by decide +kernel
theorem dX6_onceMore_8 : decode cX6_onceMore 8 = .ok (.aload_n 1, 1) := by decide +kernel
theorem dX6_onceMore_9 : decode cX6_onceMore 9 = .ok (.aload_n 0, 1) := by decide +kernel
theorem dX6_onceMore_10 : decode cX6_onceMore 10 = .ok (.getfield 76, 3) := by decide +kernel
theorem dX6_onceMore_13 : decode cX6_onceMore 13 = .ok (.bipush 7, 2) := by decide +kernel
theorem dX6_onceMore_15 : decode cX6_onceMore 15 = .ok (.invokevirtual 106, 3) := by decide +kernel
theorem dX6_onceMore_18 : decode cX6_onceMore 18 = .ok (.putfield 76, 3) := by decide +kernel
theorem dX6_onceMore_21 : decode cX6_onceMore 21 = .ok (.iconst 0, 1) := by decide +kernel
theorem dX6_onceMore_22 : decode cX6_onceMore 22 = .ok (.ireturn, 1) := by decide +kernel
theorem dX6_order_0 : decode cX6_order 0 = .ok (.aload_n 1, 1) := by decide +kernel
theorem dX6_order_1 : decode cX6_order 1 = .ok (.aload_n 0, 1) := by decide +kernel
theorem dX6_order_2 : decode cX6_order 2 = .ok (.getfield 76, 3) := by decide +kernel
theorem dX6_order_5 : decode cX6_order 5 = .ok (.iconst 2, 1) := by decide +kernel
theorem dX6_order_6 : decode cX6_order 6 = .ok (.invokevirtual 106, 3) := by decide +kernel
theorem dX6_order_9 : decode cX6_order 9 = .ok (.istore 4, 2) := by decide +kernel
theorem dX6_order_11 : decode cX6_order 11 = .ok (.iload_n 2, 1) := by decide +kernel
theorem dX6_order_12 : decode cX6_order 12 = .ok (.iload_n 3, 1) := by decide +kernel
theorem dX6_order_13 : decode cX6_order 13 = .ok (.iload 4, 2) := by decide +kernel
theorem dX6_order_15 : decode cX6_order 15 = .ok (.invokestatic 161, 3) := by decide +kernel
theorem dX6_order_18 : decode cX6_order 18 = .ok (.istore 5, 2) := by decide +kernel
theorem dX6_order_20 : decode cX6_order 20 = .ok (.iload 5, 2) := by decide +kernel
theorem dX6_order_22 : decode cX6_order 22 = .ok (.iload 4, 2) := by decide +kernel
theorem dX6_order_24 : decode cX6_order 24 = .ok (.if_icmp .lt 5, 3) := by decide +kernel
theorem dX6_order_27 : decode cX6_order 27 = .ok (.iconst 1, 1) := by decide +kernel
theorem dX6_order_28 : decode cX6_order 28 = .ok (.ireturn, 1) := by decide +kernel
theorem dX6_order_29 : decode cX6_order 29 = .ok (.iload_n 2, 1) := by decide +kernel
theorem dX6_order_30 : decode cX6_order 30 = .ok (.iload 5, 2) := by decide +kernel
theorem dX6_order_32 : decode cX6_order 32 = .ok (.iconst 1, 1) := by decide +kernel
theorem dX6_order_33 : decode cX6_order 33 = .ok (.iadd, 1) := by decide +kernel
theorem dX6_order_34 : decode cX6_order 34 = .ok (.iload 4, 2) := by decide +kernel
theorem dX6_order_36 : decode cX6_order 36 = .ok (.invokestatic 161, 3) := by decide +kernel
theorem dX6_order_39 : decode cX6_order 39 = .ok (.istore 6, 2) := by decide +kernel
theorem dX6_order_41 : decode cX6_order 41 = .ok (.iload 6, 2) := by decide +kernel
theorem dX6_order_43 : decode cX6_order 43 = .ok (.iload 4, 2) := by decide +kernel
theorem dX6_order_45 : decode cX6_order 45 = .ok (.if_icmp .ge 14, 3) := by decide +kernel
theorem dX6_order_48 : decode cX6_order 48 = .ok (.aload_n 0, 1) := by decide +kernel
theorem dX6_order_49 : decode cX6_order 49 = .ok (.iload_n 2, 1) := by decide +kernel
theorem dX6_order_50 : decode cX6_order 50 = .ok (.bipush 8, 2) := by decide +kernel
theorem dX6_order_52 : decode cX6_order 52 = .ok (.imul, 1) := by decide +kernel
theorem dX6_order_53 : decode cX6_order 53 = .ok (.iload 6, 2) := by decide +kernel
theorem dX6_order_55 : decode cX6_order 55 = .ok (.iadd, 1) := by decide +kernel
theorem dX6_order_56 : decode cX6_order 56 = .ok (.invokevirtual 158, 3) := by decide +kernel
theorem dX6_order_59 : decode cX6_order 59 = .ok (.aload_n 1, 1) := by decide +kernel
theorem dX6_order_60 : decode cX6_order 60 = .ok (.aload_n 0, 1) := by decide +kernel
theorem dX6_order_61 : decode cX6_order 61 = .ok (.getfield 76, 3) := by decide +kernel
theorem dX6_order_64 : decode cX6_order 64 = .ok (.bipush 7, 2) := by decide +kernel
theorem dX6_order_66 : decode cX6_order 66 = .ok (.invokevirtual 106, 3) := by decide +kernel
theorem dX6_order_69 : decode cX6_order 69 = .ok (.istore 7, 2) := by decide +kernel
theorem dX6_order_71 : decode cX6_order 71 = .ok (.iconst 0, 1) := by decide +kernel
theorem dX6_order_72 : decode cX6_order 72 = .ok (.istore 8, 2) := by decide +kernel
theorem dX6_order_74 : decode cX6_order 74 = .ok (.iload 8, 2) := by decide +kernel
theorem dX6_order_76 : decode cX6_order 76 = .ok (.iload 5, 2) := by decide +kernel
theorem dX6_order_78 : decode cX6_order 78 = .ok (.if_icmp .ge 19, 3) := by decide +kernel
theorem dX6_order_81 : decode cX6_order 81 = .ok (.aload_n 1, 1) := by decide +kernel
theorem dX6_order_82 : decode cX6_order 82 = .ok (.iload 7, 2) := by decide +kernel
theorem dX6_order_84 : decode cX6_order 84 = .ok (.bipush 8, 2) := by decide +kernel
theorem dX6_order_86 : decode cX6_order 86 = .ok (.invokevirtual 106, 3) := by decide +kernel
theorem dX6_order_89 : decode cX6_order 89 = .ok (.istore 7, 2) := by decide +kernel
theorem dX6_order_91 : decode cX6_order 91 = .ok (.iinc 8 1, 3) := by decide +kernel
theorem dX6_order_94 : decode cX6_order 94 = .ok (.goto (-20), 3) := by decide +kernel
theorem dX6_order_97 : decode cX6_order 97 = .ok (.aload_n 0, 1) := by decide +kernel
theorem dX6_order_98 : decode cX6_order 98 = .ok (.iload_n 2, 1) := by decide +kernel
theorem dX6_order_99 : decode cX6_order 99 = .ok (.iconst 1, 1) := by decide +kernel
theorem dX6_order_100 : decode cX6_order 100 = .ok (.iload 5, 2) := by decide +kernel
theorem dX6_order_102 : decode cX6_order 102 = .ok (.ishl, 1) := by decide +kernel
theorem dX6_order_103 : decode cX6_order 103 = .ok (.ior, 1) := by decide +kernel
theorem dX6_order_104 : decode cX6_order 104 = .ok (.invokevirtual 154, 3) := by decide +kernel
theorem dX6_order_107 : decode cX6_order 107 = .ok (.aload_n 0, 1) := by decide +kernel
theorem dX6_order_108 : decode cX6_order 108 = .ok (.iload 7, 2) := by decide +kernel
theorem dX6_order_110 : decode cX6_order 110 = .ok (.putfield 76, 3) := by decide +kernel
theorem dX6_order_113 : decode cX6_order 113 = .ok (.iconst 0, 1) := by decide +kernel
theorem dX6_order_114 : decode cX6_order 114 = .ok (.ireturn, 1) := by decide +kernel
theorem dX6_notDone_0 : decode cX6_notDone 0 = .ok (.iload_n 1, 1) := by decide +kernel
theorem dX6_notDone_1 : decode cX6_notDone 1 = .ok (.istore_n 3, 1) := by decide +kernel
theorem dX6_notDone_2 : decode cX6_notDone 2 = .ok (.iload_n 3, 1) := by decide +kernel
theorem dX6_notDone_3 : decode cX6_notDone 3 = .ok (.iload_n 2, 1) := by decide +kernel
theorem dX6_notDone_4 : decode cX6_notDone 4 = .ok (.if_icmp .ge 18, 3) := by decide +kernel
theorem dX6_notDone_7 : decode cX6_notDone 7 = .ok (.iload_n 0, 1) := by decide +kernel
theorem dX6_notDone_8 : decode cX6_notDone 8 = .ok (.iload_n 3, 1) := by decide +kernel
theorem dX6_notDone_9 : decode cX6_notDone 9 = .ok (.ishr, 1) := by decide +kernel
theorem dX6_notDone_10 : decode cX6_notDone 10 = .ok (.iconst 1, 1) := by decide +kernel
theorem dX6_notDone_11 : decode cX6_notDone 11 = .ok (.iand, 1) := by decide +kernel
theorem dX6_notDone_12 : decode cX6_notDone 12 = .ok (.iconst 1, 1) := by decide +kernel
theorem dX6_notDone_13 : decode cX6_notDone 13 = .ok (.if_icmp .ne 9, 3) := by decide +kernel
theorem dX6_notDone_16 : decode cX6_notDone 16 = .ok (.iinc 3 1, 3) := by decide +kernel
theorem dX6_notDone_19 : decode cX6_notDone 19 = .ok (.goto (-17), 3) := by decide +kernel
theorem dX6_notDone_22 : decode cX6_notDone 22 = .ok (.iload_n 3, 1) := by decide +kernel
theorem dX6_notDone_23 : decode cX6_notDone 23 = .ok (.ireturn, 1) := by decide +kernel
theorem dX6_pushFrame_0 : decode cX6_pushFrame 0 = .ok (.aload_n 0, 1) := by decide +kernel
theorem dX6_pushFrame_1 : decode cX6_pushFrame 1 = .ok (.getfield 79, 3) := by decide +kernel
theorem dX6_pushFrame_4 : decode cX6_pushFrame 4 = .ok (.iconst 4, 1) := by decide +kernel
theorem dX6_pushFrame_5 : decode cX6_pushFrame 5 = .ok (.imul, 1) := by decide +kernel
theorem dX6_pushFrame_6 : decode cX6_pushFrame 6 = .ok (.istore_n 2, 1) := by decide +kernel
theorem dX6_pushFrame_7 : decode cX6_pushFrame 7 = .ok (.iload_n 2, 1) := by decide +kernel
theorem dX6_pushFrame_8 : decode cX6_pushFrame 8 = .ok (.iconst 4, 1) := by decide +kernel
theorem dX6_pushFrame_9 : decode cX6_pushFrame 9 = .ok (.iadd, 1) := by decide +kernel
theorem dX6_pushFrame_10 : decode cX6_pushFrame 10 = .ok (.aload_n 0, 1) := by decide +kernel
theorem dX6_pushFrame_11 : decode cX6_pushFrame 11 = .ok (.getfield 15, 3) := by decide +kernel
theorem dX6_pushFrame_14 : decode cX6_pushFrame 14 = .ok (.arraylength, 1) := by decide +kernel
theorem dX6_pushFrame_15 : decode cX6_pushFrame 15 = .ok (.if_icmp .le 21, 3) := by decide +kernel
theorem dX6_pushFrame_18 : decode cX6_pushFrame 18 = .ok (.aload_n 0, 1) := by decide +kernel
theorem dX6_pushFrame_19 : decode cX6_pushFrame 19 = .ok (.aload_n 0, 1) := by decide +kernel
theorem dX6_pushFrame_20 : decode cX6_pushFrame 20 = .ok (.getfield 15, 3) := by decide +kernel
theorem dX6_pushFrame_23 : decode cX6_pushFrame 23 = .ok (.iconst 2, 1) := by decide +kernel
theorem dX6_pushFrame_24 : decode cX6_pushFrame 24 = .ok (.aload_n 0, 1) := by decide +kernel
theorem dX6_pushFrame_25 : decode cX6_pushFrame 25 = .ok (.getfield 15, 3) := by decide +kernel
theorem dX6_pushFrame_28 : decode cX6_pushFrame 28 = .ok (.arraylength, 1) := by decide +kernel
theorem dX6_pushFrame_29 : decode cX6_pushFrame 29 = .ok (.imul, 1) := by decide +kernel
theorem dX6_pushFrame_30 : decode cX6_pushFrame 30 = .ok (.invokestatic 165, 3) := by decide +kernel
theorem dX6_pushFrame_33 : decode cX6_pushFrame 33 = .ok (.putfield 15, 3) := by decide +kernel
theorem dX6_pushFrame_36 : decode cX6_pushFrame 36 = .ok (.iload_n 2, 1) := by decide +kernel
theorem dX6_pushFrame_37 : decode cX6_pushFrame 37 = .ok (.ifCond .lt 77, 3) := by decide +kernel
theorem dX6_pushFrame_40 : decode cX6_pushFrame 40 = .ok (.iload_n 2, 1) := by decide +kernel
theorem dX6_pushFrame_41 : decode cX6_pushFrame 41 = .ok (.iconst 4, 1) := by decide +kernel
theorem dX6_pushFrame_42 : decode cX6_pushFrame 42 = .ok (.iadd, 1) := by decide +kernel
theorem dX6_pushFrame_43 : decode cX6_pushFrame 43 = .ok (.aload_n 0, 1) := by decide +kernel
theorem dX6_pushFrame_44 : decode cX6_pushFrame 44 = .ok (.getfield 15, 3) := by decide +kernel
theorem dX6_pushFrame_47 : decode cX6_pushFrame 47 = .ok (.arraylength, 1) := by decide +kernel
theorem dX6_pushFrame_48 : decode cX6_pushFrame 48 = .ok (.if_icmp .gt 66, 3) := by decide +kernel
theorem dX6_pushFrame_51 : decode cX6_pushFrame 51 = .ok (.aload_n 0, 1) := by decide +kernel
theorem dX6_pushFrame_52 : decode cX6_pushFrame 52 = .ok (.getfield 15, 3) := by decide +kernel
theorem dX6_pushFrame_55 : decode cX6_pushFrame 55 = .ok (.iload_n 2, 1) := by decide +kernel
theorem dX6_pushFrame_56 : decode cX6_pushFrame 56 = .ok (.iconst 0, 1) := by decide +kernel
theorem dX6_pushFrame_57 : decode cX6_pushFrame 57 = .ok (.iadd, 1) := by decide +kernel
theorem dX6_pushFrame_58 : decode cX6_pushFrame 58 = .ok (.aload_n 0, 1) := by decide +kernel
theorem dX6_pushFrame_59 : decode cX6_pushFrame 59 = .ok (.getfield 76, 3) := by decide +kernel
theorem dX6_pushFrame_62 : decode cX6_pushFrame 62 = .ok (.iastore, 1) := by decide +kernel
theorem dX6_pushFrame_63 : decode cX6_pushFrame 63 = .ok (.aload_n 0, 1) := by decide +kernel
theorem dX6_pushFrame_64 : decode cX6_pushFrame 64 = .ok (.getfield 15, 3) := by decide +kernel
theorem dX6_pushFrame_67 : decode cX6_pushFrame 67 = .ok (.iload_n 2, 1) := by decide +kernel
theorem dX6_pushFrame_68 : decode cX6_pushFrame 68 = .ok (.iconst 1, 1) := by decide +kernel
theorem dX6_pushFrame_69 : decode cX6_pushFrame 69 = .ok (.iadd, 1) := by decide +kernel
theorem dX6_pushFrame_70 : decode cX6_pushFrame 70 = .ok (.aload_n 0, 1) := by decide +kernel
theorem dX6_pushFrame_71 : decode cX6_pushFrame 71 = .ok (.getfield 55, 3) := by decide +kernel
theorem dX6_pushFrame_74 : decode cX6_pushFrame 74 = .ok (.iastore, 1) := by decide +kernel
theorem dX6_pushFrame_75 : decode cX6_pushFrame 75 = .ok (.aload_n 0, 1) := by decide +kernel
theorem dX6_pushFrame_76 : decode cX6_pushFrame 76 = .ok (.getfield 15, 3) := by decide +kernel
theorem dX6_pushFrame_79 : decode cX6_pushFrame 79 = .ok (.iload_n 2, 1) := by decide +kernel
theorem dX6_pushFrame_80 : decode cX6_pushFrame 80 = .ok (.iconst 2, 1) := by decide +kernel
theorem dX6_pushFrame_81 : decode cX6_pushFrame 81 = .ok (.iadd, 1) := by decide +kernel
theorem dX6_pushFrame_82 : decode cX6_pushFrame 82 = .ok (.iload_n 1, 1) := by decide +kernel
theorem dX6_pushFrame_83 : decode cX6_pushFrame 83 = .ok (.iastore, 1) := by decide +kernel
theorem dX6_pushFrame_84 : decode cX6_pushFrame 84 = .ok (.aload_n 0, 1) := by decide +kernel
theorem dX6_pushFrame_85 : decode cX6_pushFrame 85 = .ok (.getfield 15, 3) := by decide +kernel
theorem dX6_pushFrame_88 : decode cX6_pushFrame 88 = .ok (.iload_n 2, 1) := by decide +kernel
theorem dX6_pushFrame_89 : decode cX6_pushFrame 89 = .ok (.iconst 3, 1) := by decide +kernel
theorem dX6_pushFrame_90 : decode cX6_pushFrame 90 = .ok (.iadd, 1) := by decide +kernel
theorem dX6_pushFrame_91 : decode cX6_pushFrame 91 = .ok (.aload_n 0, 1) := by decide +kernel
theorem dX6_pushFrame_92 : decode cX6_pushFrame 92 = .ok (.getfield 64, 3) := by decide +kernel
theorem dX6_pushFrame_95 : decode cX6_pushFrame 95 = .ok (.iastore, 1) := by decide +kernel
theorem dX6_pushFrame_96 : decode cX6_pushFrame 96 = .ok (.aload_n 0, 1) := by decide +kernel
theorem dX6_pushFrame_97 : decode cX6_pushFrame 97 = .ok (.aload_n 0, 1) := by decide +kernel
theorem dX6_pushFrame_98 : decode cX6_pushFrame 98 = .ok (.getfield 79, 3) := by decide +kernel
theorem dX6_pushFrame_101 : decode cX6_pushFrame 101 = .ok (.putfield 55, 3) := by decide +kernel
theorem dX6_pushFrame_104 : decode cX6_pushFrame 104 = .ok (.aload_n 0, 1) := by decide +kernel
theorem dX6_pushFrame_105 : decode cX6_pushFrame 105 = .ok (.dup, 1) := by decide +kernel
theorem dX6_pushFrame_106 : decode cX6_pushFrame 106 = .ok (.getfield 79, 3) := by decide +kernel
theorem dX6_pushFrame_109 : decode cX6_pushFrame 109 = .ok (.iconst 1, 1) := by decide +kernel
theorem dX6_pushFrame_110 : decode cX6_pushFrame 110 = .ok (.iadd, 1) := by decide +kernel
theorem dX6_pushFrame_111 : decode cX6_pushFrame 111 = .ok (.putfield 79, 3) := by decide +kernel
theorem dX6_pushFrame_114 : decode cX6_pushFrame 114 = .ok (.return_, 1) := by decide +kernel
theorem dX6_frameFact_0 : decode cX6_frameFact 0 = .ok (.iload_n 1, 1) := by decide +kernel
theorem dX6_frameFact_1 : decode cX6_frameFact 1 = .ok (.iconst 4, 1) := by decide +kernel
theorem dX6_frameFact_2 : decode cX6_frameFact 2 = .ok (.imul, 1) := by decide +kernel
theorem dX6_frameFact_3 : decode cX6_frameFact 3 = .ok (.iload_n 2, 1) := by decide +kernel
theorem dX6_frameFact_4 : decode cX6_frameFact 4 = .ok (.iadd, 1) := by decide +kernel
theorem dX6_frameFact_5 : decode cX6_frameFact 5 = .ok (.istore_n 3, 1) := by decide +kernel
theorem dX6_frameFact_6 : decode cX6_frameFact 6 = .ok (.iload_n 1, 1) := by decide +kernel
theorem dX6_frameFact_7 : decode cX6_frameFact 7 = .ok (.ifCond .lt 16, 3) := by decide +kernel
theorem dX6_frameFact_10 : decode cX6_frameFact 10 = .ok (.iload_n 3, 1) := by decide +kernel
theorem dX6_frameFact_11 : decode cX6_frameFact 11 = .ok (.ifCond .lt 12, 3) := by decide +kernel
theorem dX6_frameFact_14 : decode cX6_frameFact 14 = .ok (.iload_n 3, 1) := by decide +kernel
theorem dX6_frameFact_15 : decode cX6_frameFact 15 = .ok (.aload_n 0, 1) := by decide +kernel
theorem dX6_frameFact_16 : decode cX6_frameFact 16 = .ok (.getfield 15, 3) := by decide +kernel
theorem dX6_frameFact_19 : decode cX6_frameFact 19 = .ok (.arraylength, 1) := by decide +kernel
theorem dX6_frameFact_20 : decode cX6_frameFact 20 = .ok (.if_icmp .lt 7, 3) := by decide +kernel
theorem dX6_frameFact_23 : decode cX6_frameFact 23 = .ok (.iconst (-1), 1) := by decide +kernel
theorem dX6_frameFact_24 : decode cX6_frameFact 24 = .ok (.goto 9, 3) := by decide +kernel
theorem dX6_frameFact_27 : decode cX6_frameFact 27 = .ok (.aload_n 0, 1) := by decide +kernel
theorem dX6_frameFact_28 : decode cX6_frameFact 28 = .ok (.getfield 15, 3) := by decide +kernel
theorem dX6_frameFact_31 : decode cX6_frameFact 31 = .ok (.iload_n 3, 1) := by decide +kernel
theorem dX6_frameFact_32 : decode cX6_frameFact 32 = .ok (.iaload, 1) := by decide +kernel
theorem dX6_frameFact_33 : decode cX6_frameFact 33 = .ok (.ireturn, 1) := by decide +kernel
theorem dX6_pushOption_0 : decode cX6_pushOption 0 = .ok (.aload_n 0, 1) := by decide +kernel
theorem dX6_pushOption_1 : decode cX6_pushOption 1 = .ok (.getfield 67, 3) := by decide +kernel
theorem dX6_pushOption_4 : decode cX6_pushOption 4 = .ok (.iconst 5, 1) := by decide +kernel
theorem dX6_pushOption_5 : decode cX6_pushOption 5 = .ok (.imul, 1) := by decide +kernel
theorem dX6_pushOption_6 : decode cX6_pushOption 6 = .ok (.istore_n 2, 1) := by decide +kernel
theorem dX6_pushOption_7 : decode cX6_pushOption 7 = .ok (.iload_n 2, 1) := by decide +kernel
theorem dX6_pushOption_8 : decode cX6_pushOption 8 = .ok (.iconst 5, 1) := by decide +kernel
theorem dX6_pushOption_9 : decode cX6_pushOption 9 = .ok (.iadd, 1) := by decide +kernel
theorem dX6_pushOption_10 : decode cX6_pushOption 10 = .ok (.aload_n 0, 1) := by decide +kernel
theorem dX6_pushOption_11 : decode cX6_pushOption 11 = .ok (.getfield 18, 3) := by decide +kernel
theorem dX6_pushOption_14 : decode cX6_pushOption 14 = .ok (.arraylength, 1) := by decide +kernel
theorem dX6_pushOption_15 : decode cX6_pushOption 15 = .ok (.if_icmp .le 21, 3) := by decide +kernel
theorem dX6_pushOption_18 : decode cX6_pushOption 18 = .ok (.aload_n 0, 1) := by decide +kernel
theorem dX6_pushOption_19 : decode cX6_pushOption 19 = .ok (.aload_n 0, 1) := by decide +kernel
theorem dX6_pushOption_20 : decode cX6_pushOption 20 = .ok (.getfield 18, 3) := by decide +kernel
theorem dX6_pushOption_23 : decode cX6_pushOption 23 = .ok (.iconst 2, 1) := by decide +kernel
theorem dX6_pushOption_24 : decode cX6_pushOption 24 = .ok (.aload_n 0, 1) := by decide +kernel
theorem dX6_pushOption_25 : decode cX6_pushOption 25 = .ok (.getfield 18, 3) := by decide +kernel
theorem dX6_pushOption_28 : decode cX6_pushOption 28 = .ok (.arraylength, 1) := by decide +kernel
theorem dX6_pushOption_29 : decode cX6_pushOption 29 = .ok (.imul, 1) := by decide +kernel
theorem dX6_pushOption_30 : decode cX6_pushOption 30 = .ok (.invokestatic 165, 3) := by decide +kernel
theorem dX6_pushOption_33 : decode cX6_pushOption 33 = .ok (.putfield 18, 3) := by decide +kernel
theorem dX6_pushOption_36 : decode cX6_pushOption 36 = .ok (.iload_n 2, 1) := by decide +kernel
theorem dX6_pushOption_37 : decode cX6_pushOption 37 = .ok (.ifCond .lt 81, 3) := by decide +kernel
theorem dX6_pushOption_40 : decode cX6_pushOption 40 = .ok (.iload_n 2, 1) := by decide +kernel
theorem dX6_pushOption_41 : decode cX6_pushOption 41 = .ok (.iconst 5, 1) := by decide +kernel
theorem dX6_pushOption_42 : decode cX6_pushOption 42 = .ok (.iadd, 1) := by decide +kernel
theorem dX6_pushOption_43 : decode cX6_pushOption 43 = .ok (.aload_n 0, 1) := by decide +kernel
theorem dX6_pushOption_44 : decode cX6_pushOption 44 = .ok (.getfield 18, 3) := by decide +kernel
theorem dX6_pushOption_47 : decode cX6_pushOption 47 = .ok (.arraylength, 1) := by decide +kernel
theorem dX6_pushOption_48 : decode cX6_pushOption 48 = .ok (.if_icmp .gt 70, 3) := by decide +kernel
theorem dX6_pushOption_51 : decode cX6_pushOption 51 = .ok (.aload_n 0, 1) := by decide +kernel
theorem dX6_pushOption_52 : decode cX6_pushOption 52 = .ok (.getfield 18, 3) := by decide +kernel
theorem dX6_pushOption_55 : decode cX6_pushOption 55 = .ok (.iload_n 2, 1) := by decide +kernel
theorem dX6_pushOption_56 : decode cX6_pushOption 56 = .ok (.iconst 0, 1) := by decide +kernel
theorem dX6_pushOption_57 : decode cX6_pushOption 57 = .ok (.iadd, 1) := by decide +kernel
theorem dX6_pushOption_58 : decode cX6_pushOption 58 = .ok (.aload_n 0, 1) := by decide +kernel
theorem dX6_pushOption_59 : decode cX6_pushOption 59 = .ok (.getfield 76, 3) := by decide +kernel
theorem dX6_pushOption_62 : decode cX6_pushOption 62 = .ok (.iastore, 1) := by decide +kernel
theorem dX6_pushOption_63 : decode cX6_pushOption 63 = .ok (.aload_n 0, 1) := by decide +kernel
theorem dX6_pushOption_64 : decode cX6_pushOption 64 = .ok (.getfield 18, 3) := by decide +kernel
theorem dX6_pushOption_67 : decode cX6_pushOption 67 = .ok (.iload_n 2, 1) := by decide +kernel
theorem dX6_pushOption_68 : decode cX6_pushOption 68 = .ok (.iconst 1, 1) := by decide +kernel
theorem dX6_pushOption_69 : decode cX6_pushOption 69 = .ok (.iadd, 1) := by decide +kernel
theorem dX6_pushOption_70 : decode cX6_pushOption 70 = .ok (.aload_n 0, 1) := by decide +kernel
theorem dX6_pushOption_71 : decode cX6_pushOption 71 = .ok (.getfield 55, 3) := by decide +kernel
theorem dX6_pushOption_74 : decode cX6_pushOption 74 = .ok (.iastore, 1) := by decide +kernel
theorem dX6_pushOption_75 : decode cX6_pushOption 75 = .ok (.aload_n 0, 1) := by decide +kernel
theorem dX6_pushOption_76 : decode cX6_pushOption 76 = .ok (.getfield 18, 3) := by decide +kernel
theorem dX6_pushOption_79 : decode cX6_pushOption 79 = .ok (.iload_n 2, 1) := by decide +kernel
theorem dX6_pushOption_80 : decode cX6_pushOption 80 = .ok (.iconst 2, 1) := by decide +kernel
theorem dX6_pushOption_81 : decode cX6_pushOption 81 = .ok (.iadd, 1) := by decide +kernel
theorem dX6_pushOption_82 : decode cX6_pushOption 82 = .ok (.iload_n 1, 1) := by decide +kernel
theorem dX6_pushOption_83 : decode cX6_pushOption 83 = .ok (.iastore, 1) := by decide +kernel
theorem dX6_pushOption_84 : decode cX6_pushOption 84 = .ok (.aload_n 0, 1) := by decide +kernel
theorem dX6_pushOption_85 : decode cX6_pushOption 85 = .ok (.getfield 18, 3) := by decide +kernel
theorem dX6_pushOption_88 : decode cX6_pushOption 88 = .ok (.iload_n 2, 1) := by decide +kernel
theorem dX6_pushOption_89 : decode cX6_pushOption 89 = .ok (.iconst 3, 1) := by decide +kernel
theorem dX6_pushOption_90 : decode cX6_pushOption 90 = .ok (.iadd, 1) := by decide +kernel
theorem dX6_pushOption_91 : decode cX6_pushOption 91 = .ok (.aload_n 0, 1) := by decide +kernel
theorem dX6_pushOption_92 : decode cX6_pushOption 92 = .ok (.getfield 64, 3) := by decide +kernel
theorem dX6_pushOption_95 : decode cX6_pushOption 95 = .ok (.iastore, 1) := by decide +kernel
theorem dX6_pushOption_96 : decode cX6_pushOption 96 = .ok (.aload_n 0, 1) := by decide +kernel
theorem dX6_pushOption_97 : decode cX6_pushOption 97 = .ok (.getfield 18, 3) := by decide +kernel
theorem dX6_pushOption_100 : decode cX6_pushOption 100 = .ok (.iload_n 2, 1) := by decide +kernel
theorem dX6_pushOption_101 : decode cX6_pushOption 101 = .ok (.iconst 4, 1) := by decide +kernel
theorem dX6_pushOption_102 : decode cX6_pushOption 102 = .ok (.iadd, 1) := by decide +kernel
theorem dX6_pushOption_103 : decode cX6_pushOption 103 = .ok (.aload_n 0, 1) := by decide +kernel
theorem dX6_pushOption_104 : decode cX6_pushOption 104 = .ok (.getfield 79, 3) := by decide +kernel
theorem dX6_pushOption_107 : decode cX6_pushOption 107 = .ok (.iastore, 1) := by decide +kernel
theorem dX6_pushOption_108 : decode cX6_pushOption 108 = .ok (.aload_n 0, 1) := by decide +kernel
theorem dX6_pushOption_109 : decode cX6_pushOption 109 = .ok (.dup, 1) := by decide +kernel
theorem dX6_pushOption_110 : decode cX6_pushOption 110 = .ok (.getfield 67, 3) := by decide +kernel
theorem dX6_pushOption_113 : decode cX6_pushOption 113 = .ok (.iconst 1, 1) := by decide +kernel
theorem dX6_pushOption_114 : decode cX6_pushOption 114 = .ok (.iadd, 1) := by decide +kernel
theorem dX6_pushOption_115 : decode cX6_pushOption 115 = .ok (.putfield 67, 3) := by decide +kernel
theorem dX6_pushOption_118 : decode cX6_pushOption 118 = .ok (.return_, 1) := by decide +kernel
theorem dX6_optionFact_0 : decode cX6_optionFact 0 = .ok (.aload_n 0, 1) := by decide +kernel
theorem dX6_optionFact_1 : decode cX6_optionFact 1 = .ok (.getfield 67, 3) := by decide +kernel
theorem dX6_optionFact_4 : decode cX6_optionFact 4 = .ok (.iconst 5, 1) := by decide +kernel
theorem dX6_optionFact_5 : decode cX6_optionFact 5 = .ok (.imul, 1) := by decide +kernel
theorem dX6_optionFact_6 : decode cX6_optionFact 6 = .ok (.iload_n 1, 1) := by decide +kernel
theorem dX6_optionFact_7 : decode cX6_optionFact 7 = .ok (.iadd, 1) := by decide +kernel
theorem dX6_optionFact_8 : decode cX6_optionFact 8 = .ok (.istore_n 2, 1) := by decide +kernel
theorem dX6_optionFact_9 : decode cX6_optionFact 9 = .ok (.iload_n 2, 1) := by decide +kernel
theorem dX6_optionFact_10 : decode cX6_optionFact 10 = .ok (.ifCond .lt 12, 3) := by decide +kernel
theorem dX6_optionFact_13 : decode cX6_optionFact 13 = .ok (.iload_n 2, 1) := by decide +kernel
theorem dX6_optionFact_14 : decode cX6_optionFact 14 = .ok (.aload_n 0, 1) := by decide +kernel
theorem dX6_optionFact_15 : decode cX6_optionFact 15 = .ok (.getfield 18, 3) := by decide +kernel
theorem dX6_optionFact_18 : decode cX6_optionFact 18 = .ok (.arraylength, 1) := by decide +kernel
theorem dX6_optionFact_19 : decode cX6_optionFact 19 = .ok (.if_icmp .lt 7, 3) := by decide +kernel
theorem dX6_optionFact_22 : decode cX6_optionFact 22 = .ok (.iconst (-1), 1) := by decide +kernel
theorem dX6_optionFact_23 : decode cX6_optionFact 23 = .ok (.goto 9, 3) := by decide +kernel
theorem dX6_optionFact_26 : decode cX6_optionFact 26 = .ok (.aload_n 0, 1) := by decide +kernel
theorem dX6_optionFact_27 : decode cX6_optionFact 27 = .ok (.getfield 18, 3) := by decide +kernel
theorem dX6_optionFact_30 : decode cX6_optionFact 30 = .ok (.iload_n 2, 1) := by decide +kernel
theorem dX6_optionFact_31 : decode cX6_optionFact 31 = .ok (.iaload, 1) := by decide +kernel
theorem dX6_optionFact_32 : decode cX6_optionFact 32 = .ok (.ireturn, 1) := by decide +kernel
theorem dX6_earliest_0 : decode cX6_earliest 0 = .ok (.aload_n 0, 1) := by decide +kernel
theorem dX6_earliest_1 : decode cX6_earliest 1 = .ok (.getfield 73, 3) := by decide +kernel
theorem dX6_earliest_4 : decode cX6_earliest 4 = .ok (.istore_n 3, 1) := by decide +kernel
theorem dX6_earliest_5 : decode cX6_earliest 5 = .ok (.iload_n 3, 1) := by decide +kernel
theorem dX6_earliest_6 : decode cX6_earliest 6 = .ok (.iload_n 2, 1) := by decide +kernel
theorem dX6_earliest_7 : decode cX6_earliest 7 = .ok (.if_icmp .gt 20, 3) := by decide +kernel
theorem dX6_earliest_10 : decode cX6_earliest 10 = .ok (.aload_n 0, 1) := by decide +kernel
theorem dX6_earliest_11 : decode cX6_earliest 11 = .ok (.iload_n 3, 1) := by decide +kernel
theorem dX6_earliest_12 : decode cX6_earliest 12 = .ok (.invokevirtual 171, 3) := by decide +kernel
theorem dX6_earliest_15 : decode cX6_earliest 15 = .ok (.iload_n 1, 1) := by decide +kernel
theorem dX6_earliest_16 : decode cX6_earliest 16 = .ok (.if_icmp .ne 5, 3) := by decide +kernel
theorem dX6_earliest_19 : decode cX6_earliest 19 = .ok (.iload_n 3, 1) := by decide +kernel
theorem dX6_earliest_20 : decode cX6_earliest 20 = .ok (.ireturn, 1) := by decide +kernel
theorem dX6_earliest_21 : decode cX6_earliest 21 = .ok (.iinc 3 1, 3) := by decide +kernel
theorem dX6_earliest_24 : decode cX6_earliest 24 = .ok (.goto (-19), 3) := by decide +kernel
theorem dX6_earliest_27 : decode cX6_earliest 27 = .ok (.iconst (-1), 1) := by decide +kernel
theorem dX6_earliest_28 : decode cX6_earliest 28 = .ok (.ireturn, 1) := by decide +kernel
theorem dX6_latest_0 : decode cX6_latest 0 = .ok (.iload_n 2, 1) := by decide +kernel
theorem dX6_latest_1 : decode cX6_latest 1 = .ok (.istore_n 3, 1) := by decide +kernel
theorem dX6_latest_2 : decode cX6_latest 2 = .ok (.iload_n 3, 1) := by decide +kernel
theorem dX6_latest_3 : decode cX6_latest 3 = .ok (.aload_n 0, 1) := by decide +kernel
theorem dX6_latest_4 : decode cX6_latest 4 = .ok (.getfield 73, 3) := by decide +kernel
theorem dX6_latest_7 : decode cX6_latest 7 = .ok (.if_icmp .lt 20, 3) := by decide +kernel
theorem dX6_latest_10 : decode cX6_latest 10 = .ok (.aload_n 0, 1) := by decide +kernel
theorem dX6_latest_11 : decode cX6_latest 11 = .ok (.iload_n 3, 1) := by decide +kernel
theorem dX6_latest_12 : decode cX6_latest 12 = .ok (.invokevirtual 171, 3) := by decide +kernel
theorem dX6_latest_15 : decode cX6_latest 15 = .ok (.iload_n 1, 1) := by decide +kernel
theorem dX6_latest_16 : decode cX6_latest 16 = .ok (.if_icmp .ne 5, 3) := by decide +kernel
theorem dX6_latest_19 : decode cX6_latest 19 = .ok (.iload_n 3, 1) := by decide +kernel
theorem dX6_latest_20 : decode cX6_latest 20 = .ok (.ireturn, 1) := by decide +kernel
theorem dX6_latest_21 : decode cX6_latest 21 = .ok (.iinc 3 (-1), 3) := by decide +kernel
theorem dX6_latest_24 : decode cX6_latest 24 = .ok (.goto (-22), 3) := by decide +kernel
theorem dX6_latest_27 : decode cX6_latest 27 = .ok (.iconst (-1), 1) := by decide +kernel
theorem dX6_latest_28 : decode cX6_latest 28 = .ok (.ireturn, 1) := by decide +kernel
theorem dX6_count_0 : decode cX6_count 0 = .ok (.iconst 0, 1) := by decide +kernel
theorem dX6_count_1 : decode cX6_count 1 = .ok (.istore_n 3, 1) := by decide +kernel
theorem dX6_count_2 : decode cX6_count 2 = .ok (.aload_n 0, 1) := by decide +kernel
theorem dX6_count_3 : decode cX6_count 3 = .ok (.getfield 73, 3) := by decide +kernel
theorem dX6_count_6 : decode cX6_count 6 = .ok (.istore 4, 2) := by decide +kernel
theorem dX6_count_8 : decode cX6_count 8 = .ok (.iload 4, 2) := by decide +kernel
theorem dX6_count_10 : decode cX6_count 10 = .ok (.iload_n 2, 1) := by decide +kernel
theorem dX6_count_11 : decode cX6_count 11 = .ok (.if_icmp .gt 22, 3) := by decide +kernel
theorem dX6_count_14 : decode cX6_count 14 = .ok (.aload_n 0, 1) := by decide +kernel
theorem dX6_count_15 : decode cX6_count 15 = .ok (.iload 4, 2) := by decide +kernel
theorem dX6_count_17 : decode cX6_count 17 = .ok (.invokevirtual 171, 3) := by decide +kernel
theorem dX6_count_20 : decode cX6_count 20 = .ok (.iload_n 1, 1) := by decide +kernel
theorem dX6_count_21 : decode cX6_count 21 = .ok (.if_icmp .ne 6, 3) := by decide +kernel
theorem dX6_count_24 : decode cX6_count 24 = .ok (.iinc 3 1, 3) := by decide +kernel
theorem dX6_count_27 : decode cX6_count 27 = .ok (.iinc 4 1, 3) := by decide +kernel
theorem dX6_count_30 : decode cX6_count 30 = .ok (.goto (-22), 3) := by decide +kernel
theorem dX6_count_33 : decode cX6_count 33 = .ok (.iload_n 3, 1) := by decide +kernel
theorem dX6_count_34 : decode cX6_count 34 = .ok (.ireturn, 1) := by decide +kernel
theorem dX6_sum_0 : decode cX6_sum 0 = .ok (.iconst 0, 1) := by decide +kernel
theorem dX6_sum_1 : decode cX6_sum 1 = .ok (.istore 4, 2) := by decide +kernel
theorem dX6_sum_3 : decode cX6_sum 3 = .ok (.aload_n 0, 1) := by decide +kernel
theorem dX6_sum_4 : decode cX6_sum 4 = .ok (.getfield 73, 3) := by decide +kernel
theorem dX6_sum_7 : decode cX6_sum 7 = .ok (.istore 5, 2) := by decide +kernel
theorem dX6_sum_9 : decode cX6_sum 9 = .ok (.iload 5, 2) := by decide +kernel
theorem dX6_sum_11 : decode cX6_sum 11 = .ok (.iload_n 3, 1) := by decide +kernel
theorem dX6_sum_12 : decode cX6_sum 12 = .ok (.if_icmp .gt 49, 3) := by decide +kernel
theorem dX6_sum_15 : decode cX6_sum 15 = .ok (.aload_n 0, 1) := by decide +kernel
theorem dX6_sum_16 : decode cX6_sum 16 = .ok (.getfield 21, 3) := by decide +kernel
theorem dX6_sum_19 : decode cX6_sum 19 = .ok (.getfield 31, 3) := by decide +kernel
theorem dX6_sum_22 : decode cX6_sum 22 = .ok (.iload 5, 2) := by decide +kernel
theorem dX6_sum_24 : decode cX6_sum 24 = .ok (.iload_n 2, 1) := by decide +kernel
theorem dX6_sum_25 : decode cX6_sum 25 = .ok (.invokevirtual 174, 3) := by decide +kernel
theorem dX6_sum_28 : decode cX6_sum 28 = .ok (.istore 6, 2) := by decide +kernel
theorem dX6_sum_30 : decode cX6_sum 30 = .ok (.aload_n 0, 1) := by decide +kernel
theorem dX6_sum_31 : decode cX6_sum 31 = .ok (.iload 5, 2) := by decide +kernel
theorem dX6_sum_33 : decode cX6_sum 33 = .ok (.invokevirtual 171, 3) := by decide +kernel
theorem dX6_sum_36 : decode cX6_sum 36 = .ok (.iload_n 1, 1) := by decide +kernel
theorem dX6_sum_37 : decode cX6_sum 37 = .ok (.if_icmp .ne 18, 3) := by decide +kernel
theorem dX6_sum_40 : decode cX6_sum 40 = .ok (.iload 6, 2) := by decide +kernel
theorem dX6_sum_42 : decode cX6_sum 42 = .ok (.sipush 1000, 3) := by decide +kernel
theorem dX6_sum_45 : decode cX6_sum 45 = .ok (.if_icmp .eq 10, 3) := by decide +kernel
theorem dX6_sum_48 : decode cX6_sum 48 = .ok (.iload 4, 2) := by decide +kernel
theorem dX6_sum_50 : decode cX6_sum 50 = .ok (.iload 6, 2) := by decide +kernel
theorem dX6_sum_52 : decode cX6_sum 52 = .ok (.iadd, 1) := by decide +kernel
theorem dX6_sum_53 : decode cX6_sum 53 = .ok (.istore 4, 2) := by decide +kernel
theorem dX6_sum_55 : decode cX6_sum 55 = .ok (.iinc 5 1, 3) := by decide +kernel
theorem dX6_sum_58 : decode cX6_sum 58 = .ok (.goto (-49), 3) := by decide +kernel
theorem dX6_sum_61 : decode cX6_sum 61 = .ok (.iload 4, 2) := by decide +kernel
theorem dX6_sum_63 : decode cX6_sum 63 = .ok (.ireturn, 1) := by decide +kernel
theorem dX7_init_0 : decode cX7_init 0 = .ok (.aload_n 0, 1) := by decide +kernel
theorem dX7_init_1 : decode cX7_init 1 = .ok (.invokespecial 3, 3) := by decide +kernel
theorem dX7_init_4 : decode cX7_init 4 = .ok (.aload_n 0, 1) := by decide +kernel
theorem dX7_init_5 : decode cX7_init 5 = .ok (.new 9, 3) := by decide +kernel
theorem dX7_init_8 : decode cX7_init 8 = .ok (.dup, 1) := by decide +kernel
theorem dX7_init_9 : decode cX7_init 9 = .ok (.invokespecial 11, 3) := by decide +kernel
theorem dX7_init_12 : decode cX7_init 12 = .ok (.putfield 12, 3) := by decide +kernel
theorem dX7_init_15 : decode cX7_init 15 = .ok (.aload_n 0, 1) := by decide +kernel
theorem dX7_init_16 : decode cX7_init 16 = .ok (.bipush 26, 2) := by decide +kernel
theorem dX7_init_18 : decode cX7_init 18 = .ok (.anewarray 18, 3) := by decide +kernel
theorem dX7_init_21 : decode cX7_init 21 = .ok (.putfield 20, 3) := by decide +kernel
theorem dX7_init_24 : decode cX7_init 24 = .ok (.aload_n 0, 1) := by decide +kernel
theorem dX7_init_25 : decode cX7_init 25 = .ok (.new 24, 3) := by decide +kernel
theorem dX7_init_28 : decode cX7_init 28 = .ok (.dup, 1) := by decide +kernel
theorem dX7_init_29 : decode cX7_init 29 = .ok (.invokespecial 26, 3) := by decide +kernel
theorem dX7_init_32 : decode cX7_init 32 = .ok (.putfield 27, 3) := by decide +kernel
theorem dX7_init_35 : decode cX7_init 35 = .ok (.aload_n 0, 1) := by decide +kernel
theorem dX7_init_36 : decode cX7_init 36 = .ok (.iconst 0, 1) := by decide +kernel
theorem dX7_init_37 : decode cX7_init 37 = .ok (.putfield 31, 3) := by decide +kernel
theorem dX7_init_40 : decode cX7_init 40 = .ok (.aload_n 0, 1) := by decide +kernel
theorem dX7_init_41 : decode cX7_init 41 = .ok (.iconst 1, 1) := by decide +kernel
theorem dX7_init_42 : decode cX7_init 42 = .ok (.putfield 35, 3) := by decide +kernel
theorem dX7_init_45 : decode cX7_init 45 = .ok (.aload_n 0, 1) := by decide +kernel
theorem dX7_init_46 : decode cX7_init 46 = .ok (.sipush 5000, 3) := by decide +kernel
theorem dX7_init_49 : decode cX7_init 49 = .ok (.putfield 38, 3) := by decide +kernel
theorem dX7_init_52 : decode cX7_init 52 = .ok (.return_, 1) := by decide +kernel
theorem dX7_lettersWithCondition_0 : decode cX7_lettersWithCondition 0 = .ok (.iconst 0, 1) := by decide +kernel
theorem dX7_lettersWithCondition_1 : decode cX7_lettersWithCondition 1 = .ok (.istore_n 1, 1) := by decide +kernel
theorem dX7_lettersWithCondition_2 : decode cX7_lettersWithCondition 2 = .ok (.iconst 0, 1) := by decide +kernel
theorem dX7_lettersWithCondition_3 : decode cX7_lettersWithCondition 3 = .ok (.istore_n 2, 1) := by decide +kernel
theorem dX7_lettersWithCondition_4 : decode cX7_lettersWithCondition 4 = .ok (.iload_n 2, 1) := by decide +kernel
theorem dX7_lettersWithCondition_5 : decode cX7_lettersWithCondition 5 = .ok (.bipush 26, 2) := by decide +kernel
theorem dX7_lettersWithCondition_7 : decode cX7_lettersWithCondition 7 = .ok (.if_icmp .ge 24, 3) := by decide +kernel
theorem dX7_lettersWithCondition_10 : decode cX7_lettersWithCondition 10 = .ok (.aload_n 0, 1) := by decide +kernel
theorem dX7_lettersWithCondition_11 : decode cX7_lettersWithCondition 11 = .ok (.getfield 20, 3) := by decide +kernel
theorem dX7_lettersWithCondition_14 : decode cX7_lettersWithCondition 14 = .ok (.iload_n 2, 1) := by decide +kernel
theorem dX7_lettersWithCondition_15 : decode cX7_lettersWithCondition 15 = .ok (.aaload, 1) := by decide +kernel
theorem dX7_lettersWithCondition_16 : decode cX7_lettersWithCondition 16 = .ok (.ifnull 9, 3) := by decide +kernel
theorem dX7_lettersWithCondition_19 : decode cX7_lettersWithCondition 19 = .ok (.iload_n 1, 1) := by decide +kernel
theorem dX7_lettersWithCondition_20 : decode cX7_lettersWithCondition 20 = .ok (.iconst 1, 1) := by decide +kernel
theorem dX7_lettersWithCondition_21 : decode cX7_lettersWithCondition 21 = .ok (.iload_n 2, 1) := by decide +kernel
theorem dX7_lettersWithCondition_22 : decode cX7_lettersWithCondition 22 = .ok (.ishl, 1) := by decide +kernel
theorem dX7_lettersWithCondition_23 : decode cX7_lettersWithCondition 23 = .ok (.ior, 1) := by decide +kernel
theorem dX7_lettersWithCondition_24 : decode cX7_lettersWithCondition 24 = .ok (.istore_n 1, 1) := by decide +kernel
theorem dX7_lettersWithCondition_25 : decode cX7_lettersWithCondition 25 = .ok (.iinc 2 1, 3) := by decide +kernel
theorem dX7_lettersWithCondition_28 : decode cX7_lettersWithCondition 28 = .ok (.goto (-24), 3) := by decide +kernel
theorem dX7_lettersWithCondition_31 : decode cX7_lettersWithCondition 31 = .ok (.iload_n 1, 1) := by decide +kernel
theorem dX7_lettersWithCondition_32 : decode cX7_lettersWithCondition 32 = .ok (.ireturn, 1) := by decide +kernel
theorem dX8_init_0 : decode cX8_init 0 = .ok (.aload_n 0, 1) := by decide +kernel
theorem dX8_init_1 : decode cX8_init 1 = .ok (.invokespecial 3, 3) := by decide +kernel
theorem dX8_init_4 : decode cX8_init 4 = .ok (.aload_n 0, 1) := by decide +kernel
theorem dX8_init_5 : decode cX8_init 5 = .ok (.bipush 64, 2) := by decide +kernel
theorem dX8_init_7 : decode cX8_init 7 = .ok (.newarray .int, 2) := by decide +kernel
theorem dX8_init_9 : decode cX8_init 9 = .ok (.putfield 9, 3) := by decide +kernel
theorem dX8_init_12 : decode cX8_init 12 = .ok (.return_, 1) := by decide +kernel
theorem dX8_hasRow_0 : decode cX8_hasRow 0 = .ok (.iload_n 1, 1) := by decide +kernel
theorem dX8_hasRow_1 : decode cX8_hasRow 1 = .ok (.ifCond .lt 21, 3) := by decide +kernel
theorem dX8_hasRow_4 : decode cX8_hasRow 4 = .ok (.iload_n 1, 1) := by decide +kernel
theorem dX8_hasRow_5 : decode cX8_hasRow 5 = .ok (.aload_n 0, 1) := by decide +kernel
theorem dX8_hasRow_6 : decode cX8_hasRow 6 = .ok (.getfield 15, 3) := by decide +kernel
theorem dX8_hasRow_9 : decode cX8_hasRow 9 = .ok (.if_icmp .ge 13, 3) := by decide +kernel
theorem dX8_hasRow_12 : decode cX8_hasRow 12 = .ok (.iload_n 1, 1) := by decide +kernel
theorem dX8_hasRow_13 : decode cX8_hasRow 13 = .ok (.bipush 32, 2) := by decide +kernel
theorem dX8_hasRow_15 : decode cX8_hasRow 15 = .ok (.if_icmp .ge 7, 3) := by decide +kernel
theorem dX8_hasRow_18 : decode cX8_hasRow 18 = .ok (.iconst 1, 1) := by decide +kernel
theorem dX8_hasRow_19 : decode cX8_hasRow 19 = .ok (.goto 4, 3) := by decide +kernel
theorem dX8_hasRow_22 : decode cX8_hasRow 22 = .ok (.iconst 0, 1) := by decide +kernel
theorem dX8_hasRow_23 : decode cX8_hasRow 23 = .ok (.ireturn, 1) := by decide +kernel
theorem dX8_number_0 : decode cX8_number 0 = .ok (.iload_n 1, 1) := by decide +kernel
theorem dX8_number_1 : decode cX8_number 1 = .ok (.ifCond .lt 30, 3) := by decide +kernel
theorem dX8_number_4 : decode cX8_number 4 = .ok (.iload_n 1, 1) := by decide +kernel
theorem dX8_number_5 : decode cX8_number 5 = .ok (.aload_n 0, 1) := by decide +kernel
theorem dX8_number_6 : decode cX8_number 6 = .ok (.getfield 15, 3) := by decide +kernel
theorem dX8_number_9 : decode cX8_number 9 = .ok (.if_icmp .ge 22, 3) := by decide +kernel
theorem dX8_number_12 : decode cX8_number 12 = .ok (.iload_n 1, 1) := by decide +kernel
theorem dX8_number_13 : decode cX8_number 13 = .ok (.bipush 32, 2) := by decide +kernel
theorem dX8_number_15 : decode cX8_number 15 = .ok (.if_icmp .ge 16, 3) := by decide +kernel
theorem dX8_number_18 : decode cX8_number 18 = .ok (.iload_n 2, 1) := by decide +kernel
theorem dX8_number_19 : decode cX8_number 19 = .ok (.ifCond .lt 12, 3) := by decide +kernel
theorem dX8_number_22 : decode cX8_number 22 = .ok (.iload_n 2, 1) := by decide +kernel
theorem dX8_number_23 : decode cX8_number 23 = .ok (.iconst 2, 1) := by decide +kernel
theorem dX8_number_24 : decode cX8_number 24 = .ok (.if_icmp .ge 7, 3) := by decide +kernel
theorem dX8_number_27 : decode cX8_number 27 = .ok (.iconst 1, 1) := by decide +kernel
theorem dX8_number_28 : decode cX8_number 28 = .ok (.goto 4, 3) := by decide +kernel
theorem dX8_number_31 : decode cX8_number 31 = .ok (.iconst 0, 1) := by decide +kernel
theorem dX8_number_32 : decode cX8_number 32 = .ok (.istore_n 3, 1) := by decide +kernel
theorem dX8_number_33 : decode cX8_number 33 = .ok (.iload_n 3, 1) := by decide +kernel
theorem dX8_number_34 : decode cX8_number 34 = .ok (.ifCond .eq 16, 3) := by decide +kernel
theorem dX8_number_37 : decode cX8_number 37 = .ok (.aload_n 0, 1) := by decide +kernel
theorem dX8_number_38 : decode cX8_number 38 = .ok (.getfield 9, 3) := by decide +kernel
theorem dX8_number_41 : decode cX8_number 41 = .ok (.iload_n 1, 1) := by decide +kernel
theorem dX8_number_42 : decode cX8_number 42 = .ok (.iconst 2, 1) := by decide +kernel
theorem dX8_number_43 : decode cX8_number 43 = .ok (.imul, 1) := by decide +kernel
theorem dX8_number_44 : decode cX8_number 44 = .ok (.iload_n 2, 1) := by decide +kernel
theorem dX8_number_45 : decode cX8_number 45 = .ok (.iadd, 1) := by decide +kernel
theorem dX8_number_46 : decode cX8_number 46 = .ok (.iaload, 1) := by decide +kernel
theorem dX8_number_47 : decode cX8_number 47 = .ok (.goto 6, 3) := by decide +kernel
theorem dX8_number_50 : decode cX8_number 50 = .ok (.sipush 1000, 3) := by decide +kernel
theorem dX8_number_53 : decode cX8_number 53 = .ok (.ireturn, 1) := by decide +kernel
theorem dX8_write_0 : decode cX8_write 0 = .ok (.aload_n 0, 1) := by decide +kernel
theorem dX8_write_1 : decode cX8_write 1 = .ok (.iload_n 1, 1) := by decide +kernel
theorem dX8_write_2 : decode cX8_write 2 = .ok (.invokevirtual 19, 3) := by decide +kernel
theorem dX8_write_5 : decode cX8_write 5 = .ok (.ifCond .eq 23, 3) := by decide +kernel
theorem dX8_write_8 : decode cX8_write 8 = .ok (.aload_n 0, 1) := by decide +kernel
theorem dX8_write_9 : decode cX8_write 9 = .ok (.getfield 9, 3) := by decide +kernel
theorem dX8_write_12 : decode cX8_write 12 = .ok (.iload_n 1, 1) := by decide +kernel
theorem dX8_write_13 : decode cX8_write 13 = .ok (.iconst 2, 1) := by decide +kernel
theorem dX8_write_14 : decode cX8_write 14 = .ok (.imul, 1) := by decide +kernel
theorem dX8_write_15 : decode cX8_write 15 = .ok (.iload_n 2, 1) := by decide +kernel
theorem dX8_write_16 : decode cX8_write 16 = .ok (.iastore, 1) := by decide +kernel
theorem dX8_write_17 : decode cX8_write 17 = .ok (.aload_n 0, 1) := by decide +kernel
theorem dX8_write_18 : decode cX8_write 18 = .ok (.getfield 9, 3) := by decide +kernel
theorem dX8_write_21 : decode cX8_write 21 = .ok (.iload_n 1, 1) := by decide +kernel
theorem dX8_write_22 : decode cX8_write 22 = .ok (.iconst 2, 1) := by decide +kernel
theorem dX8_write_23 : decode cX8_write 23 = .ok (.imul, 1) := by decide +kernel
theorem dX8_write_24 : decode cX8_write 24 = .ok (.iconst 1, 1) := by decide +kernel
theorem dX8_write_25 : decode cX8_write 25 = .ok (.iadd, 1) := by decide +kernel
theorem dX8_write_26 : decode cX8_write 26 = .ok (.iload_n 3, 1) := by decide +kernel
theorem dX8_write_27 : decode cX8_write 27 = .ok (.iastore, 1) := by decide +kernel
theorem dX8_write_28 : decode cX8_write 28 = .ok (.return_, 1) := by decide +kernel
theorem dX9_init_0 : decode cX9_init 0 = .ok (.aload_n 0, 1) := by decide +kernel
theorem dX9_init_1 : decode cX9_init 1 = .ok (.invokespecial 3, 3) := by decide +kernel
theorem dX9_init_4 : decode cX9_init 4 = .ok (.aload_n 0, 1) := by decide +kernel
theorem dX9_init_5 : decode cX9_init 5 = .ok (.bipush 120, 2) := by decide +kernel
theorem dX9_init_7 : decode cX9_init 7 = .ok (.newarray .int, 2) := by decide +kernel
theorem dX9_init_9 : decode cX9_init 9 = .ok (.putfield 9, 3) := by decide +kernel
theorem dX9_init_12 : decode cX9_init 12 = .ok (.return_, 1) := by decide +kernel
theorem dX9_add_0 : decode cX9_add 0 = .ok (.aload_n 0, 1) := by decide +kernel
theorem dX9_add_1 : decode cX9_add 1 = .ok (.getfield 15, 3) := by decide +kernel
theorem dX9_add_4 : decode cX9_add 4 = .ok (.ifCond .lt 12, 3) := by decide +kernel
theorem dX9_add_7 : decode cX9_add 7 = .ok (.aload_n 0, 1) := by decide +kernel
theorem dX9_add_8 : decode cX9_add 8 = .ok (.getfield 15, 3) := by decide +kernel
theorem dX9_add_11 : decode cX9_add 11 = .ok (.bipush 120, 2) := by decide +kernel
theorem dX9_add_13 : decode cX9_add 13 = .ok (.if_icmp .lt 5, 3) := by decide +kernel
theorem dX9_add_16 : decode cX9_add 16 = .ok (.iconst 0, 1) := by decide +kernel
theorem dX9_add_17 : decode cX9_add 17 = .ok (.ireturn, 1) := by decide +kernel
theorem dX9_add_18 : decode cX9_add 18 = .ok (.aload_n 0, 1) := by decide +kernel
theorem dX9_add_19 : decode cX9_add 19 = .ok (.getfield 9, 3) := by decide +kernel
theorem dX9_add_22 : decode cX9_add 22 = .ok (.aload_n 0, 1) := by decide +kernel
theorem dX9_add_23 : decode cX9_add 23 = .ok (.getfield 15, 3) := by decide +kernel
theorem dX9_add_26 : decode cX9_add 26 = .ok (.iload_n 1, 1) := by decide +kernel
theorem dX9_add_27 : decode cX9_add 27 = .ok (.iastore, 1) := by decide +kernel
theorem dX9_add_28 : decode cX9_add 28 = .ok (.aload_n 0, 1) := by decide +kernel
theorem dX9_add_29 : decode cX9_add 29 = .ok (.dup, 1) := by decide +kernel
theorem dX9_add_30 : decode cX9_add 30 = .ok (.getfield 15, 3) := by decide +kernel
theorem dX9_add_33 : decode cX9_add 33 = .ok (.iconst 1, 1) := by decide +kernel
theorem dX9_add_34 : decode cX9_add 34 = .ok (.iadd, 1) := by decide +kernel
theorem dX9_add_35 : decode cX9_add 35 = .ok (.putfield 15, 3) := by decide +kernel
theorem dX9_add_38 : decode cX9_add 38 = .ok (.iconst 1, 1) := by decide +kernel
theorem dX9_add_39 : decode cX9_add 39 = .ok (.ireturn, 1) := by decide +kernel
theorem dX9_at_0 : decode cX9_at 0 = .ok (.iload_n 1, 1) := by decide +kernel
theorem dX9_at_1 : decode cX9_at 1 = .ok (.ifCond .lt 17, 3) := by decide +kernel
theorem dX9_at_4 : decode cX9_at 4 = .ok (.iload_n 1, 1) := by decide +kernel
theorem dX9_at_5 : decode cX9_at 5 = .ok (.aload_n 0, 1) := by decide +kernel
theorem dX9_at_6 : decode cX9_at 6 = .ok (.getfield 15, 3) := by decide +kernel
theorem dX9_at_9 : decode cX9_at 9 = .ok (.if_icmp .ge 9, 3) := by decide +kernel
theorem dX9_at_12 : decode cX9_at 12 = .ok (.iload_n 1, 1) := by decide +kernel
theorem dX9_at_13 : decode cX9_at 13 = .ok (.bipush 120, 2) := by decide +kernel
theorem dX9_at_15 : decode cX9_at 15 = .ok (.if_icmp .lt 7, 3) := by decide +kernel
theorem dX9_at_18 : decode cX9_at 18 = .ok (.iconst (-1), 1) := by decide +kernel
theorem dX9_at_19 : decode cX9_at 19 = .ok (.goto 9, 3) := by decide +kernel
theorem dX9_at_22 : decode cX9_at 22 = .ok (.aload_n 0, 1) := by decide +kernel
theorem dX9_at_23 : decode cX9_at 23 = .ok (.getfield 9, 3) := by decide +kernel
theorem dX9_at_26 : decode cX9_at 26 = .ok (.iload_n 1, 1) := by decide +kernel
theorem dX9_at_27 : decode cX9_at 27 = .ok (.iaload, 1) := by decide +kernel
theorem dX9_at_28 : decode cX9_at 28 = .ok (.ireturn, 1) := by decide +kernel
theorem dX9_empty_0 : decode cX9_empty 0 = .ok (.aload_n 0, 1) := by decide +kernel
theorem dX9_empty_1 : decode cX9_empty 1 = .ok (.getfield 15, 3) := by decide +kernel
theorem dX9_empty_4 : decode cX9_empty 4 = .ok (.istore_n 1, 1) := by decide +kernel
theorem dX9_empty_5 : decode cX9_empty 5 = .ok (.aload_n 0, 1) := by decide +kernel
theorem dX9_empty_6 : decode cX9_empty 6 = .ok (.iconst 0, 1) := by decide +kernel
theorem dX9_empty_7 : decode cX9_empty 7 = .ok (.putfield 15, 3) := by decide +kernel
theorem dX9_empty_10 : decode cX9_empty 10 = .ok (.iload_n 1, 1) := by decide +kernel
theorem dX9_empty_11 : decode cX9_empty 11 = .ok (.ireturn, 1) := by decide +kernel
theorem dX10_init_0 : decode cX10_init 0 = .ok (.aload_n 0, 1) := by decide +kernel
theorem dX10_init_1 : decode cX10_init 1 = .ok (.invokespecial 3, 3) := by decide +kernel
theorem dX10_init_4 : decode cX10_init 4 = .ok (.aload_n 0, 1) := by decide +kernel
theorem dX10_init_5 : decode cX10_init 5 = .ok (.new 9, 3) := by decide +kernel
theorem dX10_init_8 : decode cX10_init 8 = .ok (.dup, 1) := by decide +kernel
theorem dX10_init_9 : decode cX10_init 9 = .ok (.invokespecial 11, 3) := by decide +kernel
theorem dX10_init_12 : decode cX10_init 12 = .ok (.putfield 12, 3) := by decide +kernel
theorem dX10_init_15 : decode cX10_init 15 = .ok (.aload_n 0, 1) := by decide +kernel
theorem dX10_init_16 : decode cX10_init 16 = .ok (.new 18, 3) := by decide +kernel
theorem dX10_init_19 : decode cX10_init 19 = .ok (.dup, 1) := by decide +kernel
theorem dX10_init_20 : decode cX10_init 20 = .ok (.aload_n 0, 1) := by decide +kernel
theorem dX10_init_21 : decode cX10_init 21 = .ok (.getfield 12, 3) := by decide +kernel
theorem dX10_init_24 : decode cX10_init 24 = .ok (.invokespecial 20, 3) := by decide +kernel
theorem dX10_init_27 : decode cX10_init 27 = .ok (.putfield 23, 3) := by decide +kernel
theorem dX10_init_30 : decode cX10_init 30 = .ok (.aload_n 0, 1) := by decide +kernel
theorem dX10_init_31 : decode cX10_init 31 = .ok (.new 27, 3) := by decide +kernel
theorem dX10_init_34 : decode cX10_init 34 = .ok (.dup, 1) := by decide +kernel
theorem dX10_init_35 : decode cX10_init 35 = .ok (.invokespecial 29, 3) := by decide +kernel
theorem dX10_init_38 : decode cX10_init 38 = .ok (.putfield 30, 3) := by decide +kernel
theorem dX10_init_41 : decode cX10_init 41 = .ok (.aload_n 0, 1) := by decide +kernel
theorem dX10_init_42 : decode cX10_init 42 = .ok (.new 27, 3) := by decide +kernel
theorem dX10_init_45 : decode cX10_init 45 = .ok (.dup, 1) := by decide +kernel
theorem dX10_init_46 : decode cX10_init 46 = .ok (.invokespecial 29, 3) := by decide +kernel
theorem dX10_init_49 : decode cX10_init 49 = .ok (.putfield 34, 3) := by decide +kernel
theorem dX10_init_52 : decode cX10_init 52 = .ok (.aload_n 0, 1) := by decide +kernel
theorem dX10_init_53 : decode cX10_init 53 = .ok (.iconst 4, 1) := by decide +kernel
theorem dX10_init_54 : decode cX10_init 54 = .ok (.anewarray 37, 3) := by decide +kernel
theorem dX10_init_57 : decode cX10_init 57 = .ok (.putfield 39, 3) := by decide +kernel
theorem dX10_init_60 : decode cX10_init 60 = .ok (.aload_n 0, 1) := by decide +kernel
theorem dX10_init_61 : decode cX10_init 61 = .ok (.new 43, 3) := by decide +kernel
theorem dX10_init_64 : decode cX10_init 64 = .ok (.dup, 1) := by decide +kernel
theorem dX10_init_65 : decode cX10_init 65 = .ok (.invokespecial 45, 3) := by decide +kernel
theorem dX10_init_68 : decode cX10_init 68 = .ok (.putfield 46, 3) := by decide +kernel
theorem dX10_init_71 : decode cX10_init 71 = .ok (.iconst 0, 1) := by decide +kernel
theorem dX10_init_72 : decode cX10_init 72 = .ok (.istore_n 1, 1) := by decide +kernel
theorem dX10_init_73 : decode cX10_init 73 = .ok (.iload_n 1, 1) := by decide +kernel
theorem dX10_init_74 : decode cX10_init 74 = .ok (.aload_n 0, 1) := by decide +kernel
theorem dX10_init_75 : decode cX10_init 75 = .ok (.getfield 39, 3) := by decide +kernel
theorem dX10_init_78 : decode cX10_init 78 = .ok (.arraylength, 1) := by decide +kernel
theorem dX10_init_79 : decode cX10_init 79 = .ok (.if_icmp .ge 22, 3) := by decide +kernel
theorem dX10_init_82 : decode cX10_init 82 = .ok (.aload_n 0, 1) := by decide +kernel
theorem dX10_init_83 : decode cX10_init 83 = .ok (.getfield 39, 3) := by decide +kernel
theorem dX10_init_86 : decode cX10_init 86 = .ok (.iload_n 1, 1) := by decide +kernel
theorem dX10_init_87 : decode cX10_init 87 = .ok (.new 37, 3) := by decide +kernel
theorem dX10_init_90 : decode cX10_init 90 = .ok (.dup, 1) := by decide +kernel
theorem dX10_init_91 : decode cX10_init 91 = .ok (.invokespecial 50, 3) := by decide +kernel
theorem dX10_init_94 : decode cX10_init 94 = .ok (.aastore, 1) := by decide +kernel
theorem dX10_init_95 : decode cX10_init 95 = .ok (.iinc 1 1, 3) := by decide +kernel
theorem dX10_init_98 : decode cX10_init 98 = .ok (.goto (-25), 3) := by decide +kernel
theorem dX10_init_101 : decode cX10_init 101 = .ok (.return_, 1) := by decide +kernel
theorem dX10_row_0 : decode cX10_row 0 = .ok (.iload_n 1, 1) := by decide +kernel
theorem dX10_row_1 : decode cX10_row 1 = .ok (.invokestatic 51, 3) := by decide +kernel
theorem dX10_row_4 : decode cX10_row 4 = .ok (.ifCond .eq 10, 3) := by decide +kernel
theorem dX10_row_7 : decode cX10_row 7 = .ok (.iload_n 2, 1) := by decide +kernel
theorem dX10_row_8 : decode cX10_row 8 = .ok (.invokestatic 51, 3) := by decide +kernel
theorem dX10_row_11 : decode cX10_row 11 = .ok (.ifCond .ne 6, 3) := by decide +kernel
theorem dX10_row_14 : decode cX10_row 14 = .ok (.bipush (-2), 2) := by decide +kernel
theorem dX10_row_16 : decode cX10_row 16 = .ok (.ireturn, 1) := by decide +kernel
theorem dX10_row_17 : decode cX10_row 17 = .ok (.aload_n 0, 1) := by decide +kernel
theorem dX10_row_18 : decode cX10_row 18 = .ok (.getfield 12, 3) := by decide +kernel
theorem dX10_row_21 : decode cX10_row 21 = .ok (.getfield 55, 3) := by decide +kernel
theorem dX10_row_24 : decode cX10_row 24 = .ok (.getfield 59, 3) := by decide +kernel
theorem dX10_row_27 : decode cX10_row 27 = .ok (.bipush 32, 2) := by decide +kernel
theorem dX10_row_29 : decode cX10_row 29 = .ok (.if_icmp .lt 6, 3) := by decide +kernel
theorem dX10_row_32 : decode cX10_row 32 = .ok (.bipush (-4), 2) := by decide +kernel
theorem dX10_row_34 : decode cX10_row 34 = .ok (.ireturn, 1) := by decide +kernel
theorem dX10_row_35 : decode cX10_row 35 = .ok (.aload_n 0, 1) := by decide +kernel
theorem dX10_row_36 : decode cX10_row 36 = .ok (.getfield 12, 3) := by decide +kernel
theorem dX10_row_39 : decode cX10_row 39 = .ok (.getfield 55, 3) := by decide +kernel
theorem dX10_row_42 : decode cX10_row 42 = .ok (.getfield 59, 3) := by decide +kernel
theorem dX10_row_45 : decode cX10_row 45 = .ok (.istore_n 3, 1) := by decide +kernel
theorem dX10_row_46 : decode cX10_row 46 = .ok (.aload_n 0, 1) := by decide +kernel
theorem dX10_row_47 : decode cX10_row 47 = .ok (.getfield 12, 3) := by decide +kernel
theorem dX10_row_50 : decode cX10_row 50 = .ok (.getfield 55, 3) := by decide +kernel
theorem dX10_row_53 : decode cX10_row 53 = .ok (.dup, 1) := by decide +kernel
theorem dX10_row_54 : decode cX10_row 54 = .ok (.getfield 59, 3) := by decide +kernel
theorem dX10_row_57 : decode cX10_row 57 = .ok (.iconst 1, 1) := by decide +kernel
theorem dX10_row_58 : decode cX10_row 58 = .ok (.iadd, 1) := by decide +kernel
theorem dX10_row_59 : decode cX10_row 59 = .ok (.putfield 59, 3) := by decide +kernel
theorem dX10_row_62 : decode cX10_row 62 = .ok (.aload_n 0, 1) := by decide +kernel
theorem dX10_row_63 : decode cX10_row 63 = .ok (.getfield 12, 3) := by decide +kernel
theorem dX10_row_66 : decode cX10_row 66 = .ok (.getfield 55, 3) := by decide +kernel
theorem dX10_row_69 : decode cX10_row 69 = .ok (.iload_n 3, 1) := by decide +kernel
theorem dX10_row_70 : decode cX10_row 70 = .ok (.iload_n 1, 1) := by decide +kernel
theorem dX10_row_71 : decode cX10_row 71 = .ok (.iload_n 2, 1) := by decide +kernel
theorem dX10_row_72 : decode cX10_row 72 = .ok (.invokevirtual 65, 3) := by decide +kernel
theorem dX10_row_75 : decode cX10_row 75 = .ok (.aload_n 0, 1) := by decide +kernel
theorem dX10_row_76 : decode cX10_row 76 = .ok (.getfield 12, 3) := by decide +kernel
theorem dX10_row_79 : decode cX10_row 79 = .ok (.getfield 69, 3) := by decide +kernel
theorem dX10_row_82 : decode cX10_row 82 = .ok (.iconst 0, 1) := by decide +kernel
theorem dX10_row_83 : decode cX10_row 83 = .ok (.putfield 72, 3) := by decide +kernel
theorem dX10_row_86 : decode cX10_row 86 = .ok (.iload_n 3, 1) := by decide +kernel
theorem dX10_row_87 : decode cX10_row 87 = .ok (.ireturn, 1) := by decide +kernel
theorem dX10_feed_0 : decode cX10_feed 0 = .ok (.iload_n 1, 1) := by decide +kernel
theorem dX10_feed_1 : decode cX10_feed 1 = .ok (.iconst 1, 1) := by decide +kernel
theorem dX10_feed_2 : decode cX10_feed 2 = .ok (.if_icmp .lt 9, 3) := by decide +kernel
theorem dX10_feed_5 : decode cX10_feed 5 = .ok (.iload_n 1, 1) := by decide +kernel
theorem dX10_feed_6 : decode cX10_feed 6 = .ok (.bipush 127, 2) := by decide +kernel
theorem dX10_feed_8 : decode cX10_feed 8 = .ok (.if_icmp .le 6, 3) := by decide +kernel
theorem dX10_feed_11 : decode cX10_feed 11 = .ok (.bipush (-2), 2) := by decide +kernel
theorem dX10_feed_13 : decode cX10_feed 13 = .ok (.ireturn, 1) := by decide +kernel
theorem dX10_feed_14 : decode cX10_feed 14 = .ok (.aload_n 0, 1) := by decide +kernel
theorem dX10_feed_15 : decode cX10_feed 15 = .ok (.getfield 30, 3) := by decide +kernel
theorem dX10_feed_18 : decode cX10_feed 18 = .ok (.iload_n 1, 1) := by decide +kernel
theorem dX10_feed_19 : decode cX10_feed 19 = .ok (.invokevirtual 83, 3) := by decide +kernel
theorem dX10_feed_22 : decode cX10_feed 22 = .ok (.ifCond .eq 13, 3) := by decide +kernel
theorem dX10_feed_25 : decode cX10_feed 25 = .ok (.aload_n 0, 1) := by decide +kernel
theorem dX10_feed_26 : decode cX10_feed 26 = .ok (.getfield 30, 3) := by decide +kernel
theorem dX10_feed_29 : decode cX10_feed 29 = .ok (.getfield 86, 3) := by decide +kernel
theorem dX10_feed_32 : decode cX10_feed 32 = .ok (.goto 5, 3) := by decide +kernel
theorem dX10_feed_35 : decode cX10_feed 35 = .ok (.bipush (-4), 2) := by decide +kernel
theorem dX10_feed_37 : decode cX10_feed 37 = .ok (.ireturn, 1) := by decide +kernel
theorem dX10_pattern_0 : decode cX10_pattern 0 = .ok (.new 91, 3) := by decide +kernel
theorem dX10_pattern_3 : decode cX10_pattern 3 = .ok (.dup, 1) := by decide +kernel
theorem dX10_pattern_4 : decode cX10_pattern 4 = .ok (.aload_n 0, 1) := by decide +kernel
theorem dX10_pattern_5 : decode cX10_pattern 5 = .ok (.getfield 30, 3) := by decide +kernel
theorem dX10_pattern_8 : decode cX10_pattern 8 = .ok (.invokespecial 93, 3) := by decide +kernel
theorem dX10_pattern_11 : decode cX10_pattern 11 = .ok (.astore_n 1, 1) := by decide +kernel
theorem dX10_pattern_12 : decode cX10_pattern 12 = .ok (.aload_n 1, 1) := by decide +kernel
theorem dX10_pattern_13 : decode cX10_pattern 13 = .ok (.invokevirtual 96, 3) := by decide +kernel
theorem dX10_pattern_16 : decode cX10_pattern 16 = .ok (.astore_n 2, 1) := by decide +kernel
theorem dX10_pattern_17 : decode cX10_pattern 17 = .ok (.aload_n 0, 1) := by decide +kernel
theorem dX10_pattern_18 : decode cX10_pattern 18 = .ok (.getfield 30, 3) := by decide +kernel
theorem dX10_pattern_21 : decode cX10_pattern 21 = .ok (.invokevirtual 87, 3) := by decide +kernel
theorem dX10_pattern_24 : decode cX10_pattern 24 = .ok (.pop, 1) := by decide +kernel
theorem dX10_pattern_25 : decode cX10_pattern 25 = .ok (.aload_n 2, 1) := by decide +kernel
theorem dX10_pattern_26 : decode cX10_pattern 26 = .ok (.ifnonnull 11, 3) := by decide +kernel
theorem dX10_pattern_29 : decode cX10_pattern 29 = .ok (.bipush (-100), 2) := by decide +kernel
theorem dX10_pattern_31 : decode cX10_pattern 31 = .ok (.aload_n 1, 1) := by decide +kernel
theorem dX10_pattern_32 : decode cX10_pattern 32 = .ok (.getfield 100, 3) := by decide +kernel
theorem dX10_pattern_35 : decode cX10_pattern 35 = .ok (.isub, 1) := by decide +kernel
theorem dX10_pattern_36 : decode cX10_pattern 36 = .ok (.ireturn, 1) := by decide +kernel
theorem dX10_pattern_37 : decode cX10_pattern 37 = .ok (.aload_n 0, 1) := by decide +kernel
theorem dX10_pattern_38 : decode cX10_pattern 38 = .ok (.getfield 12, 3) := by decide +kernel
theorem dX10_pattern_41 : decode cX10_pattern 41 = .ok (.aload_n 2, 1) := by decide +kernel
theorem dX10_pattern_42 : decode cX10_pattern 42 = .ok (.putfield 103, 3) := by decide +kernel
theorem dX10_pattern_45 : decode cX10_pattern 45 = .ok (.aload_n 0, 1) := by decide +kernel
theorem dX10_pattern_46 : decode cX10_pattern 46 = .ok (.getfield 12, 3) := by decide +kernel
theorem dX10_pattern_49 : decode cX10_pattern 49 = .ok (.getfield 69, 3) := by decide +kernel
theorem dX10_pattern_52 : decode cX10_pattern 52 = .ok (.iconst 0, 1) := by decide +kernel
theorem dX10_pattern_53 : decode cX10_pattern 53 = .ok (.putfield 72, 3) := by decide +kernel
theorem dX10_pattern_56 : decode cX10_pattern 56 = .ok (.aload_n 2, 1) := by decide +kernel
theorem dX10_pattern_57 : decode cX10_pattern 57 = .ok (.getfield 107, 3) := by decide +kernel
theorem dX10_pattern_60 : decode cX10_pattern 60 = .ok (.ireturn, 1) := by decide +kernel
theorem dX10_define_0 : decode cX10_define 0 = .ok (.new 112, 3) := by decide +kernel
theorem dX10_define_3 : decode cX10_define 3 = .ok (.dup, 1) := by decide +kernel
theorem dX10_define_4 : decode cX10_define 4 = .ok (.aload_n 0, 1) := by decide +kernel
theorem dX10_define_5 : decode cX10_define 5 = .ok (.getfield 30, 3) := by decide +kernel
theorem dX10_define_8 : decode cX10_define 8 = .ok (.invokespecial 114, 3) := by decide +kernel
theorem dX10_define_11 : decode cX10_define 11 = .ok (.astore_n 1, 1) := by decide +kernel
theorem dX10_define_12 : decode cX10_define 12 = .ok (.aload_n 1, 1) := by decide +kernel
theorem dX10_define_13 : decode cX10_define 13 = .ok (.invokevirtual 115, 3) := by decide +kernel
theorem dX10_define_16 : decode cX10_define 16 = .ok (.istore_n 2, 1) := by decide +kernel
theorem dX10_define_17 : decode cX10_define 17 = .ok (.aload_n 0, 1) := by decide +kernel
theorem dX10_define_18 : decode cX10_define 18 = .ok (.getfield 30, 3) := by decide +kernel
theorem dX10_define_21 : decode cX10_define 21 = .ok (.invokevirtual 87, 3) := by decide +kernel
theorem dX10_define_24 : decode cX10_define 24 = .ok (.pop, 1) := by decide +kernel
theorem dX10_define_25 : decode cX10_define 25 = .ok (.iload_n 2, 1) := by decide +kernel
theorem dX10_define_26 : decode cX10_define 26 = .ok (.ifCond .ge 11, 3) := by decide +kernel
theorem dX10_define_29 : decode cX10_define 29 = .ok (.bipush (-100), 2) := by decide +kernel
theorem dX10_define_31 : decode cX10_define 31 = .ok (.aload_n 1, 1) := by decide +kernel
theorem dX10_define_32 : decode cX10_define 32 = .ok (.getfield 117, 3) := by decide +kernel
theorem dX10_define_35 : decode cX10_define 35 = .ok (.isub, 1) := by decide +kernel
theorem dX10_define_36 : decode cX10_define 36 = .ok (.ireturn, 1) := by decide +kernel
theorem dX10_define_37 : decode cX10_define 37 = .ok (.iconst 0, 1) := by decide +kernel
theorem dX10_define_38 : decode cX10_define 38 = .ok (.istore_n 3, 1) := by decide +kernel
theorem dX10_define_39 : decode cX10_define 39 = .ok (.iload_n 3, 1) := by decide +kernel
theorem dX10_define_40 : decode cX10_define 40 = .ok (.bipush 26, 2) := by decide +kernel
theorem dX10_define_42 : decode cX10_define 42 = .ok (.if_icmp .ge 36, 3) := by decide +kernel
theorem dX10_define_45 : decode cX10_define 45 = .ok (.aload_n 1, 1) := by decide +kernel
theorem dX10_define_46 : decode cX10_define 46 = .ok (.getfield 118, 3) := by decide +kernel
theorem dX10_define_49 : decode cX10_define 49 = .ok (.iload_n 3, 1) := by decide +kernel
theorem dX10_define_50 : decode cX10_define 50 = .ok (.ishr, 1) := by decide +kernel
theorem dX10_define_51 : decode cX10_define 51 = .ok (.iconst 1, 1) := by decide +kernel
theorem dX10_define_52 : decode cX10_define 52 = .ok (.iand, 1) := by decide +kernel
theorem dX10_define_53 : decode cX10_define 53 = .ok (.iconst 1, 1) := by decide +kernel
theorem dX10_define_54 : decode cX10_define 54 = .ok (.if_icmp .ne 18, 3) := by decide +kernel
theorem dX10_define_57 : decode cX10_define 57 = .ok (.aload_n 0, 1) := by decide +kernel
theorem dX10_define_58 : decode cX10_define 58 = .ok (.getfield 12, 3) := by decide +kernel
theorem dX10_define_61 : decode cX10_define 61 = .ok (.getfield 121, 3) := by decide +kernel
theorem dX10_define_64 : decode cX10_define 64 = .ok (.iload_n 3, 1) := by decide +kernel
theorem dX10_define_65 : decode cX10_define 65 = .ok (.aload_n 1, 1) := by decide +kernel
theorem dX10_define_66 : decode cX10_define 66 = .ok (.getfield 125, 3) := by decide +kernel
theorem dX10_define_69 : decode cX10_define 69 = .ok (.iload_n 3, 1) := by decide +kernel
theorem dX10_define_70 : decode cX10_define 70 = .ok (.aaload, 1) := by decide +kernel
theorem dX10_define_71 : decode cX10_define 71 = .ok (.aastore, 1) := by decide +kernel
theorem dX10_define_72 : decode cX10_define 72 = .ok (.iinc 3 1, 3) := by decide +kernel
theorem dX10_define_75 : decode cX10_define 75 = .ok (.goto (-36), 3) := by decide +kernel
theorem dX10_define_78 : decode cX10_define 78 = .ok (.aload_n 0, 1) := by decide +kernel
theorem dX10_define_79 : decode cX10_define 79 = .ok (.getfield 12, 3) := by decide +kernel
theorem dX10_define_82 : decode cX10_define 82 = .ok (.getfield 69, 3) := by decide +kernel
theorem dX10_define_85 : decode cX10_define 85 = .ok (.iconst 0, 1) := by decide +kernel
theorem dX10_define_86 : decode cX10_define 86 = .ok (.putfield 72, 3) := by decide +kernel
theorem dX10_define_89 : decode cX10_define 89 = .ok (.iload_n 2, 1) := by decide +kernel
theorem dX10_define_90 : decode cX10_define 90 = .ok (.ireturn, 1) := by decide +kernel
theorem dX10_mode_0 : decode cX10_mode 0 = .ok (.iload_n 1, 1) := by decide +kernel
theorem dX10_mode_1 : decode cX10_mode 1 = .ok (.ifCond .lt 15, 3) := by decide +kernel
theorem dX10_mode_4 : decode cX10_mode 4 = .ok (.iload_n 1, 1) := by decide +kernel
theorem dX10_mode_5 : decode cX10_mode 5 = .ok (.iconst 4, 1) := by decide +kernel
theorem dX10_mode_6 : decode cX10_mode 6 = .ok (.if_icmp .ge 10, 3) := by decide +kernel
theorem dX10_mode_9 : decode cX10_mode 9 = .ok (.iload_n 2, 1) := by decide +kernel
theorem dX10_mode_10 : decode cX10_mode 10 = .ok (.invokestatic 135, 3) := by decide +kernel
theorem dX10_mode_13 : decode cX10_mode 13 = .ok (.ifCond .ne 5, 3) := by decide +kernel
theorem dX10_mode_16 : decode cX10_mode 16 = .ok (.iconst (-1), 1) := by decide +kernel
theorem dX10_mode_17 : decode cX10_mode 17 = .ok (.ireturn, 1) := by decide +kernel
theorem dX10_mode_18 : decode cX10_mode 18 = .ok (.bipush 10, 2) := by decide +kernel
theorem dX10_mode_20 : decode cX10_mode 20 = .ok (.aload_n 0, 1) := by decide +kernel
theorem dX10_mode_21 : decode cX10_mode 21 = .ok (.getfield 12, 3) := by decide +kernel
theorem dX10_mode_24 : decode cX10_mode 24 = .ok (.getfield 138, 3) := by decide +kernel
theorem dX10_mode_27 : decode cX10_mode 27 = .ok (.imul, 1) := by decide +kernel
theorem dX10_mode_28 : decode cX10_mode 28 = .ok (.aload_n 0, 1) := by decide +kernel
theorem dX10_mode_29 : decode cX10_mode 29 = .ok (.getfield 12, 3) := by decide +kernel
theorem dX10_mode_32 : decode cX10_mode 32 = .ok (.getfield 141, 3) := by decide +kernel
theorem dX10_mode_35 : decode cX10_mode 35 = .ok (.iadd, 1) := by decide +kernel
theorem dX10_mode_36 : decode cX10_mode 36 = .ok (.istore_n 3, 1) := by decide +kernel
theorem dX10_mode_37 : decode cX10_mode 37 = .ok (.aload_n 0, 1) := by decide +kernel
