/-! decode rows, 1 -/
theorem dX4_fact_0 : decode cX4_fact 0 = .ok (.iload_n 1, 1) := by decide +kernel
theorem dX4_fact_1 : decode cX4_fact 1 = .ok (.ifCond .lt 21, 3) := by decide +kernel
theorem dX4_fact_4 : decode cX4_fact 4 = .ok (.iload_n 1, 1) := by decide +kernel
theorem dX4_fact_5 : decode cX4_fact 5 = .ok (.aload_n 0, 1) := by decide +kernel
theorem dX4_fact_6 : decode cX4_fact 6 = .ok (.getfield 15, 3) := by decide +kernel
theorem dX4_fact_9 : decode cX4_fact 9 = .ok (.if_icmp .ge 13, 3) := by decide +kernel
theorem dX4_fact_12 : decode cX4_fact 12 = .ok (.iload_n 2, 1) := by decide +kernel
theorem dX4_fact_13 : decode cX4_fact 13 = .ok (.ifCond .lt 9, 3) := by decide +kernel
theorem dX4_fact_16 : decode cX4_fact 16 = .ok (.iload_n 2, 1) := by decide +kernel
theorem dX4_fact_17 : decode cX4_fact 17 = .ok (.bipush 9, 2) := by decide +kernel
theorem dX4_fact_19 : decode cX4_fact 19 = .ok (.if_icmp .lt 6, 3) := by decide +kernel
theorem dX4_fact_22 : decode cX4_fact 22 = .ok (.bipush (-5), 2) := by decide +kernel
theorem dX4_fact_24 : decode cX4_fact 24 = .ok (.ireturn, 1) := by decide +kernel
theorem dX4_fact_25 : decode cX4_fact 25 = .ok (.iload_n 1, 1) := by decide +kernel
theorem dX4_fact_26 : decode cX4_fact 26 = .ok (.bipush 9, 2) := by decide +kernel
theorem dX4_fact_28 : decode cX4_fact 28 = .ok (.imul, 1) := by decide +kernel
theorem dX4_fact_29 : decode cX4_fact 29 = .ok (.iload_n 2, 1) := by decide +kernel
theorem dX4_fact_30 : decode cX4_fact 30 = .ok (.iadd, 1) := by decide +kernel
theorem dX4_fact_31 : decode cX4_fact 31 = .ok (.istore_n 3, 1) := by decide +kernel
theorem dX4_fact_32 : decode cX4_fact 32 = .ok (.iload_n 3, 1) := by decide +kernel
theorem dX4_fact_33 : decode cX4_fact 33 = .ok (.aload_n 0, 1) := by decide +kernel
theorem dX4_fact_34 : decode cX4_fact 34 = .ok (.getfield 11, 3) := by decide +kernel
theorem dX4_fact_37 : decode cX4_fact 37 = .ok (.arraylength, 1) := by decide +kernel
theorem dX4_fact_38 : decode cX4_fact 38 = .ok (.if_icmp .ge 12, 3) := by decide +kernel
theorem dX4_fact_41 : decode cX4_fact 41 = .ok (.aload_n 0, 1) := by decide +kernel
theorem dX4_fact_42 : decode cX4_fact 42 = .ok (.getfield 11, 3) := by decide +kernel
theorem dX4_fact_45 : decode cX4_fact 45 = .ok (.iload_n 3, 1) := by decide +kernel
theorem dX4_fact_46 : decode cX4_fact 46 = .ok (.iaload, 1) := by decide +kernel
theorem dX4_fact_47 : decode cX4_fact 47 = .ok (.goto 5, 3) := by decide +kernel
theorem dX4_fact_50 : decode cX4_fact 50 = .ok (.bipush (-5), 2) := by decide +kernel
theorem dX4_fact_52 : decode cX4_fact 52 = .ok (.ireturn, 1) := by decide +kernel
theorem dX4_note_0 : decode cX4_note 0 = .ok (.iload_n 1, 1) := by decide +kernel
theorem dX4_note_1 : decode cX4_note 1 = .ok (.bipush 9, 2) := by decide +kernel
theorem dX4_note_3 : decode cX4_note 3 = .ok (.imul, 1) := by decide +kernel
theorem dX4_note_4 : decode cX4_note 4 = .ok (.iload_n 2, 1) := by decide +kernel
theorem dX4_note_5 : decode cX4_note 5 = .ok (.iadd, 1) := by decide +kernel
theorem dX4_note_6 : decode cX4_note 6 = .ok (.istore 4, 2) := by decide +kernel
theorem dX4_note_8 : decode cX4_note 8 = .ok (.iload_n 1, 1) := by decide +kernel
theorem dX4_note_9 : decode cX4_note 9 = .ok (.ifCond .lt 26, 3) := by decide +kernel
theorem dX4_note_12 : decode cX4_note 12 = .ok (.iload 4, 2) := by decide +kernel
theorem dX4_note_14 : decode cX4_note 14 = .ok (.ifCond .lt 21, 3) := by decide +kernel
theorem dX4_note_17 : decode cX4_note 17 = .ok (.iload 4, 2) := by decide +kernel
theorem dX4_note_19 : decode cX4_note 19 = .ok (.aload_n 0, 1) := by decide +kernel
theorem dX4_note_20 : decode cX4_note 20 = .ok (.getfield 11, 3) := by decide +kernel
theorem dX4_note_23 : decode cX4_note 23 = .ok (.arraylength, 1) := by decide +kernel
theorem dX4_note_24 : decode cX4_note 24 = .ok (.if_icmp .ge 11, 3) := by decide +kernel
theorem dX4_note_27 : decode cX4_note 27 = .ok (.aload_n 0, 1) := by decide +kernel
theorem dX4_note_28 : decode cX4_note 28 = .ok (.getfield 11, 3) := by decide +kernel
theorem dX4_note_31 : decode cX4_note 31 = .ok (.iload 4, 2) := by decide +kernel
theorem dX4_note_33 : decode cX4_note 33 = .ok (.iload_n 3, 1) := by decide +kernel
theorem dX4_note_34 : decode cX4_note 34 = .ok (.iastore, 1) := by decide +kernel
theorem dX4_note_35 : decode cX4_note 35 = .ok (.return_, 1) := by decide +kernel
theorem dX4_add_0 : decode cX4_add 0 = .ok (.aload_n 0, 1) := by decide +kernel
theorem dX4_add_1 : decode cX4_add 1 = .ok (.getfield 15, 3) := by decide +kernel
theorem dX4_add_4 : decode cX4_add 4 = .ok (.istore 4, 2) := by decide +kernel
theorem dX4_add_6 : decode cX4_add 6 = .ok (.aload_n 0, 1) := by decide +kernel
theorem dX4_add_7 : decode cX4_add 7 = .ok (.getfield 11, 3) := by decide +kernel
theorem dX4_add_10 : decode cX4_add 10 = .ok (.arraylength, 1) := by decide +kernel
theorem dX4_add_11 : decode cX4_add 11 = .ok (.bipush 9, 2) := by decide +kernel
theorem dX4_add_13 : decode cX4_add 13 = .ok (.idiv, 1) := by decide +kernel
theorem dX4_add_14 : decode cX4_add 14 = .ok (.iload 4, 2) := by decide +kernel
theorem dX4_add_16 : decode cX4_add 16 = .ok (.if_icmp .gt 5, 3) := by decide +kernel
theorem dX4_add_19 : decode cX4_add 19 = .ok (.iconst (-1), 1) := by decide +kernel
theorem dX4_add_20 : decode cX4_add 20 = .ok (.ireturn, 1) := by decide +kernel
theorem dX4_add_21 : decode cX4_add 21 = .ok (.aload_n 0, 1) := by decide +kernel
theorem dX4_add_22 : decode cX4_add 22 = .ok (.dup, 1) := by decide +kernel
theorem dX4_add_23 : decode cX4_add 23 = .ok (.getfield 15, 3) := by decide +kernel
theorem dX4_add_26 : decode cX4_add 26 = .ok (.iconst 1, 1) := by decide +kernel
theorem dX4_add_27 : decode cX4_add 27 = .ok (.iadd, 1) := by decide +kernel
theorem dX4_add_28 : decode cX4_add 28 = .ok (.putfield 15, 3) := by decide +kernel
theorem dX4_add_31 : decode cX4_add 31 = .ok (.iconst 0, 1) := by decide +kernel
theorem dX4_add_32 : decode cX4_add 32 = .ok (.istore 5, 2) := by decide +kernel
theorem dX4_add_34 : decode cX4_add 34 = .ok (.iload 5, 2) := by decide +kernel
theorem dX4_add_36 : decode cX4_add 36 = .ok (.bipush 9, 2) := by decide +kernel
theorem dX4_add_38 : decode cX4_add 38 = .ok (.if_icmp .ge 19, 3) := by decide +kernel
theorem dX4_add_41 : decode cX4_add 41 = .ok (.aload_n 0, 1) := by decide +kernel
theorem dX4_add_42 : decode cX4_add 42 = .ok (.iload 4, 2) := by decide +kernel
theorem dX4_add_44 : decode cX4_add 44 = .ok (.iload 5, 2) := by decide +kernel
theorem dX4_add_46 : decode cX4_add 46 = .ok (.bipush (-5), 2) := by decide +kernel
theorem dX4_add_48 : decode cX4_add 48 = .ok (.invokevirtual 19, 3) := by decide +kernel
theorem dX4_add_51 : decode cX4_add 51 = .ok (.iinc 5 1, 3) := by decide +kernel
theorem dX4_add_54 : decode cX4_add 54 = .ok (.goto (-20), 3) := by decide +kernel
theorem dX4_add_57 : decode cX4_add 57 = .ok (.aload_n 0, 1) := by decide +kernel
theorem dX4_add_58 : decode cX4_add 58 = .ok (.iload 4, 2) := by decide +kernel
theorem dX4_add_60 : decode cX4_add 60 = .ok (.iconst 0, 1) := by decide +kernel
theorem dX4_add_61 : decode cX4_add 61 = .ok (.iload_n 1, 1) := by decide +kernel
theorem dX4_add_62 : decode cX4_add 62 = .ok (.invokevirtual 19, 3) := by decide +kernel
theorem dX4_add_65 : decode cX4_add 65 = .ok (.aload_n 0, 1) := by decide +kernel
theorem dX4_add_66 : decode cX4_add 66 = .ok (.iload 4, 2) := by decide +kernel
theorem dX4_add_68 : decode cX4_add 68 = .ok (.iconst 2, 1) := by decide +kernel
theorem dX4_add_69 : decode cX4_add 69 = .ok (.iload_n 3, 1) := by decide +kernel
theorem dX4_add_70 : decode cX4_add 70 = .ok (.invokevirtual 19, 3) := by decide +kernel
theorem dX4_add_73 : decode cX4_add 73 = .ok (.aload_n 0, 1) := by decide +kernel
theorem dX4_add_74 : decode cX4_add 74 = .ok (.iload 4, 2) := by decide +kernel
theorem dX4_add_76 : decode cX4_add 76 = .ok (.bipush 7, 2) := by decide +kernel
theorem dX4_add_78 : decode cX4_add 78 = .ok (.iload_n 2, 1) := by decide +kernel
theorem dX4_add_79 : decode cX4_add 79 = .ok (.invokevirtual 19, 3) := by decide +kernel
theorem dX4_add_82 : decode cX4_add 82 = .ok (.iload_n 2, 1) := by decide +kernel
theorem dX4_add_83 : decode cX4_add 83 = .ok (.istore 5, 2) := by decide +kernel
theorem dX4_add_85 : decode cX4_add 85 = .ok (.iconst 0, 1) := by decide +kernel
theorem dX4_add_86 : decode cX4_add 86 = .ok (.istore 6, 2) := by decide +kernel
theorem dX4_add_88 : decode cX4_add 88 = .ok (.iload 6, 2) := by decide +kernel
theorem dX4_add_90 : decode cX4_add 90 = .ok (.iload_n 3, 1) := by decide +kernel
theorem dX4_add_91 : decode cX4_add 91 = .ok (.if_icmp .ge 29, 3) := by decide +kernel
theorem dX4_add_94 : decode cX4_add 94 = .ok (.aload_n 0, 1) := by decide +kernel
theorem dX4_add_95 : decode cX4_add 95 = .ok (.iload 5, 2) := by decide +kernel
theorem dX4_add_97 : decode cX4_add 97 = .ok (.bipush 6, 2) := by decide +kernel
theorem dX4_add_99 : decode cX4_add 99 = .ok (.iload 4, 2) := by decide +kernel
theorem dX4_add_101 : decode cX4_add 101 = .ok (.invokevirtual 19, 3) := by decide +kernel
theorem dX4_add_104 : decode cX4_add 104 = .ok (.aload_n 0, 1) := by decide +kernel
theorem dX4_add_105 : decode cX4_add 105 = .ok (.iload 5, 2) := by decide +kernel
theorem dX4_add_107 : decode cX4_add 107 = .ok (.bipush 8, 2) := by decide +kernel
theorem dX4_add_109 : decode cX4_add 109 = .ok (.invokevirtual 23, 3) := by decide +kernel
theorem dX4_add_112 : decode cX4_add 112 = .ok (.istore 5, 2) := by decide +kernel
theorem dX4_add_114 : decode cX4_add 114 = .ok (.iinc 6 1, 3) := by decide +kernel
theorem dX4_add_117 : decode cX4_add 117 = .ok (.goto (-29), 3) := by decide +kernel
theorem dX4_add_120 : decode cX4_add 120 = .ok (.iload 4, 2) := by decide +kernel
theorem dX4_add_122 : decode cX4_add 122 = .ok (.ireturn, 1) := by decide +kernel
theorem dX4_addLeaf_0 : decode cX4_addLeaf 0 = .ok (.aload_n 0, 1) := by decide +kernel
theorem dX4_addLeaf_1 : decode cX4_addLeaf 1 = .ok (.iload_n 1, 1) := by decide +kernel
theorem dX4_addLeaf_2 : decode cX4_addLeaf 2 = .ok (.bipush (-5), 2) := by decide +kernel
theorem dX4_addLeaf_4 : decode cX4_addLeaf 4 = .ok (.iconst 0, 1) := by decide +kernel
theorem dX4_addLeaf_5 : decode cX4_addLeaf 5 = .ok (.invokevirtual 27, 3) := by decide +kernel
theorem dX4_addLeaf_8 : decode cX4_addLeaf 8 = .ok (.istore_n 3, 1) := by decide +kernel
theorem dX4_addLeaf_9 : decode cX4_addLeaf 9 = .ok (.aload_n 0, 1) := by decide +kernel
theorem dX4_addLeaf_10 : decode cX4_addLeaf 10 = .ok (.iload_n 3, 1) := by decide +kernel
theorem dX4_addLeaf_11 : decode cX4_addLeaf 11 = .ok (.iconst 1, 1) := by decide +kernel
theorem dX4_addLeaf_12 : decode cX4_addLeaf 12 = .ok (.iload_n 2, 1) := by decide +kernel
theorem dX4_addLeaf_13 : decode cX4_addLeaf 13 = .ok (.invokevirtual 19, 3) := by decide +kernel
theorem dX4_addLeaf_16 : decode cX4_addLeaf 16 = .ok (.iload_n 3, 1) := by decide +kernel
theorem dX4_addLeaf_17 : decode cX4_addLeaf 17 = .ok (.ireturn, 1) := by decide +kernel
theorem dX4_addRepetition_0 : decode cX4_addRepetition 0 = .ok (.aload_n 0, 1) := by decide +kernel
theorem dX4_addRepetition_1 : decode cX4_addRepetition 1 = .ok (.iconst 5, 1) := by decide +kernel
theorem dX4_addRepetition_2 : decode cX4_addRepetition 2 = .ok (.iload_n 1, 1) := by decide +kernel
theorem dX4_addRepetition_3 : decode cX4_addRepetition 3 = .ok (.iconst 1, 1) := by decide +kernel
theorem dX4_addRepetition_4 : decode cX4_addRepetition 4 = .ok (.invokevirtual 27, 3) := by decide +kernel
theorem dX4_addRepetition_7 : decode cX4_addRepetition 7 = .ok (.istore 5, 2) := by decide +kernel
theorem dX4_addRepetition_9 : decode cX4_addRepetition 9 = .ok (.aload_n 0, 1) := by decide +kernel
theorem dX4_addRepetition_10 : decode cX4_addRepetition 10 = .ok (.iload 5, 2) := by decide +kernel
theorem dX4_addRepetition_12 : decode cX4_addRepetition 12 = .ok (.iconst 3, 1) := by decide +kernel
theorem dX4_addRepetition_13 : decode cX4_addRepetition 13 = .ok (.iload_n 2, 1) := by decide +kernel
theorem dX4_addRepetition_14 : decode cX4_addRepetition 14 = .ok (.invokevirtual 19, 3) := by decide +kernel
theorem dX4_addRepetition_17 : decode cX4_addRepetition 17 = .ok (.aload_n 0, 1) := by decide +kernel
theorem dX4_addRepetition_18 : decode cX4_addRepetition 18 = .ok (.iload 5, 2) := by decide +kernel
theorem dX4_addRepetition_20 : decode cX4_addRepetition 20 = .ok (.iconst 4, 1) := by decide +kernel
theorem dX4_addRepetition_21 : decode cX4_addRepetition 21 = .ok (.iload_n 3, 1) := by decide +kernel
theorem dX4_addRepetition_22 : decode cX4_addRepetition 22 = .ok (.invokevirtual 19, 3) := by decide +kernel
theorem dX4_addRepetition_25 : decode cX4_addRepetition 25 = .ok (.aload_n 0, 1) := by decide +kernel
theorem dX4_addRepetition_26 : decode cX4_addRepetition 26 = .ok (.iload 5, 2) := by decide +kernel
theorem dX4_addRepetition_28 : decode cX4_addRepetition 28 = .ok (.iconst 5, 1) := by decide +kernel
theorem dX4_addRepetition_29 : decode cX4_addRepetition 29 = .ok (.iload 4, 2) := by decide +kernel
theorem dX4_addRepetition_31 : decode cX4_addRepetition 31 = .ok (.invokevirtual 19, 3) := by decide +kernel
theorem dX4_addRepetition_34 : decode cX4_addRepetition 34 = .ok (.iload 5, 2) := by decide +kernel
theorem dX4_addRepetition_36 : decode cX4_addRepetition 36 = .ok (.ireturn, 1) := by decide +kernel
theorem dX4_link_0 : decode cX4_link 0 = .ok (.aload_n 0, 1) := by decide +kernel
theorem dX4_link_1 : decode cX4_link 1 = .ok (.iload_n 1, 1) := by decide +kernel
theorem dX4_link_2 : decode cX4_link 2 = .ok (.bipush 8, 2) := by decide +kernel
theorem dX4_link_4 : decode cX4_link 4 = .ok (.iload_n 2, 1) := by decide +kernel
theorem dX4_link_5 : decode cX4_link 5 = .ok (.invokevirtual 19, 3) := by decide +kernel
theorem dX4_link_8 : decode cX4_link 8 = .ok (.return_, 1) := by decide +kernel
theorem dX5_init_0 : decode cX5_init 0 = .ok (.aload_n 0, 1) := by decide +kernel
theorem dX5_init_1 : decode cX5_init 1 = .ok (.invokespecial 3, 3) := by decide +kernel
theorem dX5_init_4 : decode cX5_init 4 = .ok (.aload_n 0, 1) := by decide +kernel
theorem dX5_init_5 : decode cX5_init 5 = .ok (.iconst (-1), 1) := by decide +kernel
theorem dX5_init_6 : decode cX5_init 6 = .ok (.putfield 9, 3) := by decide +kernel
theorem dX5_init_9 : decode cX5_init 9 = .ok (.aload_n 0, 1) := by decide +kernel
theorem dX5_init_10 : decode cX5_init 10 = .ok (.aload_n 1, 1) := by decide +kernel
theorem dX5_init_11 : decode cX5_init 11 = .ok (.putfield 15, 3) := by decide +kernel
theorem dX5_init_14 : decode cX5_init 14 = .ok (.aload_n 0, 1) := by decide +kernel
theorem dX5_init_15 : decode cX5_init 15 = .ok (.new 19, 3) := by decide +kernel
theorem dX5_init_18 : decode cX5_init 18 = .ok (.dup, 1) := by decide +kernel
theorem dX5_init_19 : decode cX5_init 19 = .ok (.iconst 2, 1) := by decide +kernel
theorem dX5_init_20 : decode cX5_init 20 = .ok (.aload_n 1, 1) := by decide +kernel
theorem dX5_init_21 : decode cX5_init 21 = .ok (.getfield 21, 3) := by decide +kernel
theorem dX5_init_24 : decode cX5_init 24 = .ok (.imul, 1) := by decide +kernel
theorem dX5_init_25 : decode cX5_init 25 = .ok (.invokespecial 26, 3) := by decide +kernel
theorem dX5_init_28 : decode cX5_init 28 = .ok (.putfield 29, 3) := by decide +kernel
theorem dX5_init_31 : decode cX5_init 31 = .ok (.return_, 1) := by decide +kernel
theorem dX5_read_0 : decode cX5_read 0 = .ok (.aload_n 0, 1) := by decide +kernel
theorem dX5_read_1 : decode cX5_read 1 = .ok (.iconst 0, 1) := by decide +kernel
theorem dX5_read_2 : decode cX5_read 2 = .ok (.invokevirtual 33, 3) := by decide +kernel
theorem dX5_read_5 : decode cX5_read 5 = .ok (.istore_n 1, 1) := by decide +kernel
theorem dX5_read_6 : decode cX5_read 6 = .ok (.iload_n 1, 1) := by decide +kernel
theorem dX5_read_7 : decode cX5_read 7 = .ok (.ifCond .lt 26, 3) := by decide +kernel
theorem dX5_read_10 : decode cX5_read 10 = .ok (.aload_n 0, 1) := by decide +kernel
theorem dX5_read_11 : decode cX5_read 11 = .ok (.getfield 37, 3) := by decide +kernel
theorem dX5_read_14 : decode cX5_read 14 = .ok (.aload_n 0, 1) := by decide +kernel
theorem dX5_read_15 : decode cX5_read 15 = .ok (.getfield 15, 3) := by decide +kernel
theorem dX5_read_18 : decode cX5_read 18 = .ok (.getfield 21, 3) := by decide +kernel
theorem dX5_read_21 : decode cX5_read 21 = .ok (.if_icmp .ge 12, 3) := by decide +kernel
theorem dX5_read_24 : decode cX5_read 24 = .ok (.aload_n 0, 1) := by decide +kernel
theorem dX5_read_25 : decode cX5_read 25 = .ok (.aload_n 0, 1) := by decide +kernel
theorem dX5_read_26 : decode cX5_read 26 = .ok (.getfield 37, 3) := by decide +kernel
theorem dX5_read_29 : decode cX5_read 29 = .ok (.invokevirtual 40, 3) := by decide +kernel
theorem dX5_read_32 : decode cX5_read 32 = .ok (.pop, 1) := by decide +kernel
theorem dX5_read_33 : decode cX5_read 33 = .ok (.aload_n 0, 1) := by decide +kernel
theorem dX5_read_34 : decode cX5_read 34 = .ok (.getfield 9, 3) := by decide +kernel
theorem dX5_read_37 : decode cX5_read 37 = .ok (.iconst (-1), 1) := by decide +kernel
theorem dX5_read_38 : decode cX5_read 38 = .ok (.if_icmp .ne 14, 3) := by decide +kernel
theorem dX5_read_41 : decode cX5_read 41 = .ok (.iload_n 1, 1) := by decide +kernel
theorem dX5_read_42 : decode cX5_read 42 = .ok (.ifCond .lt 10, 3) := by decide +kernel
theorem dX5_read_45 : decode cX5_read 45 = .ok (.aload_n 0, 1) := by decide +kernel
theorem dX5_read_46 : decode cX5_read 46 = .ok (.getfield 29, 3) := by decide +kernel
theorem dX5_read_49 : decode cX5_read 49 = .ok (.goto 4, 3) := by decide +kernel
theorem dX5_read_52 : decode cX5_read 52 = .ok (.aconst_null, 1) := by decide +kernel
theorem dX5_read_53 : decode cX5_read 53 = .ok (.areturn, 1) := by decide +kernel
theorem dX5_failed_0 : decode cX5_failed 0 = .ok (.aload_n 0, 1) := by decide +kernel
theorem dX5_failed_1 : decode cX5_failed 1 = .ok (.getfield 9, 3) := by decide +kernel
theorem dX5_failed_4 : decode cX5_failed 4 = .ok (.iconst (-1), 1) := by decide +kernel
theorem dX5_failed_5 : decode cX5_failed 5 = .ok (.if_icmp .ne 8, 3) := by decide +kernel
theorem dX5_failed_8 : decode cX5_failed 8 = .ok (.aload_n 0, 1) := by decide +kernel
theorem dX5_failed_9 : decode cX5_failed 9 = .ok (.iload_n 1, 1) := by decide +kernel
theorem dX5_failed_10 : decode cX5_failed 10 = .ok (.putfield 9, 3) := by decide +kernel
theorem dX5_failed_13 : decode cX5_failed 13 = .ok (.iconst (-1), 1) := by decide +kernel
theorem dX5_failed_14 : decode cX5_failed 14 = .ok (.ireturn, 1) := by decide +kernel
theorem dX5_comes_0 : decode cX5_comes 0 = .ok (.aload_n 0, 1) := by decide +kernel
theorem dX5_comes_1 : decode cX5_comes 1 = .ok (.getfield 15, 3) := by decide +kernel
theorem dX5_comes_4 : decode cX5_comes 4 = .ok (.aload_n 0, 1) := by decide +kernel
theorem dX5_comes_5 : decode cX5_comes 5 = .ok (.getfield 37, 3) := by decide +kernel
theorem dX5_comes_8 : decode cX5_comes 8 = .ok (.invokevirtual 43, 3) := by decide +kernel
theorem dX5_comes_11 : decode cX5_comes 11 = .ok (.iload_n 1, 1) := by decide +kernel
theorem dX5_comes_12 : decode cX5_comes 12 = .ok (.if_icmp .ne 7, 3) := by decide +kernel
theorem dX5_comes_15 : decode cX5_comes 15 = .ok (.iconst 1, 1) := by decide +kernel
theorem dX5_comes_16 : decode cX5_comes 16 = .ok (.goto 4, 3) := by decide +kernel
theorem dX5_comes_19 : decode cX5_comes 19 = .ok (.iconst 0, 1) := by decide +kernel
theorem dX5_comes_20 : decode cX5_comes 20 = .ok (.ireturn, 1) := by decide +kernel
theorem dX5_choice_0 : decode cX5_choice 0 = .ok (.aload_n 0, 1) := by decide +kernel
theorem dX5_choice_1 : decode cX5_choice 1 = .ok (.iload_n 1, 1) := by decide +kernel
theorem dX5_choice_2 : decode cX5_choice 2 = .ok (.invokevirtual 46, 3) := by decide +kernel
theorem dX5_choice_5 : decode cX5_choice 5 = .ok (.istore_n 2, 1) := by decide +kernel
theorem dX5_choice_6 : decode cX5_choice 6 = .ok (.iload_n 2, 1) := by decide +kernel
theorem dX5_choice_7 : decode cX5_choice 7 = .ok (.istore_n 3, 1) := by decide +kernel
theorem dX5_choice_8 : decode cX5_choice 8 = .ok (.iconst 1, 1) := by decide +kernel
theorem dX5_choice_9 : decode cX5_choice 9 = .ok (.istore 4, 2) := by decide +kernel
theorem dX5_choice_11 : decode cX5_choice 11 = .ok (.iload 4, 2) := by decide +kernel
theorem dX5_choice_13 : decode cX5_choice 13 = .ok (.bipush 120, 2) := by decide +kernel
theorem dX5_choice_15 : decode cX5_choice 15 = .ok (.if_icmp .gt 52, 3) := by decide +kernel
theorem dX5_choice_18 : decode cX5_choice 18 = .ok (.iload_n 3, 1) := by decide +kernel
theorem dX5_choice_19 : decode cX5_choice 19 = .ok (.ifCond .lt 48, 3) := by decide +kernel
theorem dX5_choice_22 : decode cX5_choice 22 = .ok (.aload_n 0, 1) := by decide +kernel
theorem dX5_choice_23 : decode cX5_choice 23 = .ok (.bipush 124, 2) := by decide +kernel
theorem dX5_choice_25 : decode cX5_choice 25 = .ok (.invokevirtual 49, 3) := by decide +kernel
theorem dX5_choice_28 : decode cX5_choice 28 = .ok (.ifCond .eq 39, 3) := by decide +kernel
theorem dX5_choice_31 : decode cX5_choice 31 = .ok (.aload_n 0, 1) := by decide +kernel
theorem dX5_choice_32 : decode cX5_choice 32 = .ok (.dup, 1) := by decide +kernel
theorem dX5_choice_33 : decode cX5_choice 33 = .ok (.getfield 37, 3) := by decide +kernel
theorem dX5_choice_36 : decode cX5_choice 36 = .ok (.iconst 1, 1) := by decide +kernel
theorem dX5_choice_37 : decode cX5_choice 37 = .ok (.iadd, 1) := by decide +kernel
theorem dX5_choice_38 : decode cX5_choice 38 = .ok (.putfield 37, 3) := by decide +kernel
theorem dX5_choice_41 : decode cX5_choice 41 = .ok (.aload_n 0, 1) := by decide +kernel
theorem dX5_choice_42 : decode cX5_choice 42 = .ok (.iload_n 1, 1) := by decide +kernel
theorem dX5_choice_43 : decode cX5_choice 43 = .ok (.invokevirtual 46, 3) := by decide +kernel
theorem dX5_choice_46 : decode cX5_choice 46 = .ok (.istore 5, 2) := by decide +kernel
theorem dX5_choice_48 : decode cX5_choice 48 = .ok (.aload_n 0, 1) := by decide +kernel
theorem dX5_choice_49 : decode cX5_choice 49 = .ok (.getfield 29, 3) := by decide +kernel
theorem dX5_choice_52 : decode cX5_choice 52 = .ok (.iload_n 3, 1) := by decide +kernel
theorem dX5_choice_53 : decode cX5_choice 53 = .ok (.iload 5, 2) := by decide +kernel
theorem dX5_choice_55 : decode cX5_choice 55 = .ok (.invokevirtual 53, 3) := by decide +kernel
theorem dX5_choice_58 : decode cX5_choice 58 = .ok (.iload 5, 2) := by decide +kernel
theorem dX5_choice_60 : decode cX5_choice 60 = .ok (.istore_n 3, 1) := by decide +kernel
theorem dX5_choice_61 : decode cX5_choice 61 = .ok (.iinc 4 1, 3) := by decide +kernel
theorem dX5_choice_64 : decode cX5_choice 64 = .ok (.goto (-53), 3) := by decide +kernel
theorem dX5_choice_67 : decode cX5_choice 67 = .ok (.iload_n 3, 1) := by decide +kernel
theorem dX5_choice_68 : decode cX5_choice 68 = .ok (.ifCond .lt 9, 3) := by decide +kernel
theorem dX5_choice_71 : decode cX5_choice 71 = .ok (.iload 4, 2) := by decide +kernel
theorem dX5_choice_73 : decode cX5_choice 73 = .ok (.iconst 1, 1) := by decide +kernel
theorem dX5_choice_74 : decode cX5_choice 74 = .ok (.if_icmp .ne 7, 3) := by decide +kernel
theorem dX5_choice_77 : decode cX5_choice 77 = .ok (.iload_n 3, 1) := by decide +kernel
theorem dX5_choice_78 : decode cX5_choice 78 = .ok (.goto 14, 3) := by decide +kernel
theorem dX5_choice_81 : decode cX5_choice 81 = .ok (.aload_n 0, 1) := by decide +kernel
theorem dX5_choice_82 : decode cX5_choice 82 = .ok (.getfield 29, 3) := by decide +kernel
theorem dX5_choice_85 : decode cX5_choice 85 = .ok (.iconst 4, 1) := by decide +kernel
theorem dX5_choice_86 : decode cX5_choice 86 = .ok (.iload_n 2, 1) := by decide +kernel
theorem dX5_choice_87 : decode cX5_choice 87 = .ok (.iload 4, 2) := by decide +kernel
theorem dX5_choice_89 : decode cX5_choice 89 = .ok (.invokevirtual 57, 3) := by decide +kernel
theorem dX5_choice_92 : decode cX5_choice 92 = .ok (.ireturn, 1) := by decide +kernel
theorem dX5_sequence_0 : decode cX5_sequence 0 = .ok (.aload_n 0, 1) := by decide +kernel
theorem dX5_sequence_1 : decode cX5_sequence 1 = .ok (.iload_n 1, 1) := by decide +kernel
theorem dX5_sequence_2 : decode cX5_sequence 2 = .ok (.invokevirtual 61, 3) := by decide +kernel
theorem dX5_sequence_5 : decode cX5_sequence 5 = .ok (.istore_n 2, 1) := by decide +kernel
theorem dX5_sequence_6 : decode cX5_sequence 6 = .ok (.iload_n 2, 1) := by decide +kernel
theorem dX5_sequence_7 : decode cX5_sequence 7 = .ok (.istore_n 3, 1) := by decide +kernel
theorem dX5_sequence_8 : decode cX5_sequence 8 = .ok (.iconst 1, 1) := by decide +kernel
theorem dX5_sequence_9 : decode cX5_sequence 9 = .ok (.istore 4, 2) := by decide +kernel
theorem dX5_sequence_11 : decode cX5_sequence 11 = .ok (.iload 4, 2) := by decide +kernel
theorem dX5_sequence_13 : decode cX5_sequence 13 = .ok (.bipush 120, 2) := by decide +kernel
theorem dX5_sequence_15 : decode cX5_sequence 15 = .ok (.if_icmp .gt 41, 3) := by decide +kernel
theorem dX5_sequence_18 : decode cX5_sequence 18 = .ok (.iload_n 3, 1) := by decide +kernel
theorem dX5_sequence_19 : decode cX5_sequence 19 = .ok (.ifCond .lt 37, 3) := by decide +kernel
theorem dX5_sequence_22 : decode cX5_sequence 22 = .ok (.aload_n 0, 1) := by decide +kernel
theorem dX5_sequence_23 : decode cX5_sequence 23 = .ok (.iload_n 1, 1) := by decide +kernel
theorem dX5_sequence_24 : decode cX5_sequence 24 = .ok (.invokevirtual 64, 3) := by decide +kernel
theorem dX5_sequence_27 : decode cX5_sequence 27 = .ok (.ifCond .eq 29, 3) := by decide +kernel
theorem dX5_sequence_30 : decode cX5_sequence 30 = .ok (.aload_n 0, 1) := by decide +kernel
theorem dX5_sequence_31 : decode cX5_sequence 31 = .ok (.iload_n 1, 1) := by decide +kernel
theorem dX5_sequence_32 : decode cX5_sequence 32 = .ok (.invokevirtual 61, 3) := by decide +kernel
theorem dX5_sequence_35 : decode cX5_sequence 35 = .ok (.istore 5, 2) := by decide +kernel
theorem dX5_sequence_37 : decode cX5_sequence 37 = .ok (.aload_n 0, 1) := by decide +kernel
theorem dX5_sequence_38 : decode cX5_sequence 38 = .ok (.getfield 29, 3) := by decide +kernel
theorem dX5_sequence_41 : decode cX5_sequence 41 = .ok (.iload_n 3, 1) := by decide +kernel
theorem dX5_sequence_42 : decode cX5_sequence 42 = .ok (.iload 5, 2) := by decide +kernel
theorem dX5_sequence_44 : decode cX5_sequence 44 = .ok (.invokevirtual 53, 3) := by decide +kernel
theorem dX5_sequence_47 : decode cX5_sequence 47 = .ok (.iload 5, 2) := by decide +kernel
theorem dX5_sequence_49 : decode cX5_sequence 49 = .ok (.istore_n 3, 1) := by decide +kernel
theorem dX5_sequence_50 : decode cX5_sequence 50 = .ok (.iinc 4 1, 3) := by decide +kernel
theorem dX5_sequence_53 : decode cX5_sequence 53 = .ok (.goto (-42), 3) := by decide +kernel
theorem dX5_sequence_56 : decode cX5_sequence 56 = .ok (.iload_n 3, 1) := by decide +kernel
theorem dX5_sequence_57 : decode cX5_sequence 57 = .ok (.ifCond .lt 9, 3) := by decide +kernel
theorem dX5_sequence_60 : decode cX5_sequence 60 = .ok (.iload 4, 2) := by decide +kernel
theorem dX5_sequence_62 : decode cX5_sequence 62 = .ok (.iconst 1, 1) := by decide +kernel
theorem dX5_sequence_63 : decode cX5_sequence 63 = .ok (.if_icmp .ne 7, 3) := by decide +kernel
theorem dX5_sequence_66 : decode cX5_sequence 66 = .ok (.iload_n 3, 1) := by decide +kernel
theorem dX5_sequence_67 : decode cX5_sequence 67 = .ok (.goto 14, 3) := by decide +kernel
theorem dX5_sequence_70 : decode cX5_sequence 70 = .ok (.aload_n 0, 1) := by decide +kernel
theorem dX5_sequence_71 : decode cX5_sequence 71 = .ok (.getfield 29, 3) := by decide +kernel
theorem dX5_sequence_74 : decode cX5_sequence 74 = .ok (.iconst 3, 1) := by decide +kernel
theorem dX5_sequence_75 : decode cX5_sequence 75 = .ok (.iload_n 2, 1) := by decide +kernel
theorem dX5_sequence_76 : decode cX5_sequence 76 = .ok (.iload 4, 2) := by decide +kernel
theorem dX5_sequence_78 : decode cX5_sequence 78 = .ok (.invokevirtual 57, 3) := by decide +kernel
theorem dX5_sequence_81 : decode cX5_sequence 81 = .ok (.ireturn, 1) := by decide +kernel
theorem dX5_atomComes_0 : decode cX5_atomComes 0 = .ok (.aload_n 0, 1) := by decide +kernel
theorem dX5_atomComes_1 : decode cX5_atomComes 1 = .ok (.getfield 15, 3) := by decide +kernel
theorem dX5_atomComes_4 : decode cX5_atomComes 4 = .ok (.aload_n 0, 1) := by decide +kernel
theorem dX5_atomComes_5 : decode cX5_atomComes 5 = .ok (.getfield 37, 3) := by decide +kernel
theorem dX5_atomComes_8 : decode cX5_atomComes 8 = .ok (.invokevirtual 43, 3) := by decide +kernel
theorem dX5_atomComes_11 : decode cX5_atomComes 11 = .ok (.istore_n 2, 1) := by decide +kernel
theorem dX5_atomComes_12 : decode cX5_atomComes 12 = .ok (.iload_n 2, 1) := by decide +kernel
theorem dX5_atomComes_13 : decode cX5_atomComes 13 = .ok (.bipush 65, 2) := by decide +kernel
theorem dX5_atomComes_15 : decode cX5_atomComes 15 = .ok (.isub, 1) := by decide +kernel
theorem dX5_atomComes_16 : decode cX5_atomComes 16 = .ok (.invokestatic 67, 3) := by decide +kernel
theorem dX5_atomComes_19 : decode cX5_atomComes 19 = .ok (.ifCond .ne 32, 3) := by decide +kernel
theorem dX5_atomComes_22 : decode cX5_atomComes 22 = .ok (.iload_n 2, 1) := by decide +kernel
theorem dX5_atomComes_23 : decode cX5_atomComes 23 = .ok (.bipush 94, 2) := by decide +kernel
theorem dX5_atomComes_25 : decode cX5_atomComes 25 = .ok (.if_icmp .eq 26, 3) := by decide +kernel
theorem dX5_atomComes_28 : decode cX5_atomComes 28 = .ok (.iload_n 2, 1) := by decide +kernel
theorem dX5_atomComes_29 : decode cX5_atomComes 29 = .ok (.bipush 36, 2) := by decide +kernel
theorem dX5_atomComes_31 : decode cX5_atomComes 31 = .ok (.if_icmp .eq 20, 3) := by decide +kernel
theorem dX5_atomComes_34 : decode cX5_atomComes 34 = .ok (.iload_n 1, 1) := by decide +kernel
theorem dX5_atomComes_35 : decode cX5_atomComes 35 = .ok (.iconst 5, 1) := by decide +kernel
theorem dX5_atomComes_36 : decode cX5_atomComes 36 = .ok (.if_icmp .ge 19, 3) := by decide +kernel
theorem dX5_atomComes_39 : decode cX5_atomComes 39 = .ok (.iload_n 2, 1) := by decide +kernel
theorem dX5_atomComes_40 : decode cX5_atomComes 40 = .ok (.bipush 40, 2) := by decide +kernel
theorem dX5_atomComes_42 : decode cX5_atomComes 42 = .ok (.if_icmp .eq 9, 3) := by decide +kernel
theorem dX5_atomComes_45 : decode cX5_atomComes 45 = .ok (.iload_n 2, 1) := by decide +kernel
theorem dX5_atomComes_46 : decode cX5_atomComes 46 = .ok (.bipush 37, 2) := by decide +kernel
theorem dX5_atomComes_48 : decode cX5_atomComes 48 = .ok (.if_icmp .ne 7, 3) := by decide +kernel
theorem dX5_atomComes_51 : decode cX5_atomComes 51 = .ok (.iconst 1, 1) := by decide +kernel
theorem dX5_atomComes_52 : decode cX5_atomComes 52 = .ok (.goto 4, 3) := by decide +kernel
theorem dX5_atomComes_55 : decode cX5_atomComes 55 = .ok (.iconst 0, 1) := by decide +kernel
theorem dX5_atomComes_56 : decode cX5_atomComes 56 = .ok (.ireturn, 1) := by decide +kernel
theorem dX5_piece_0 : decode cX5_piece 0 = .ok (.aload_n 0, 1) := by decide +kernel
theorem dX5_piece_1 : decode cX5_piece 1 = .ok (.iload_n 1, 1) := by decide +kernel
theorem dX5_piece_2 : decode cX5_piece 2 = .ok (.invokevirtual 70, 3) := by decide +kernel
theorem dX5_piece_5 : decode cX5_piece 5 = .ok (.istore_n 2, 1) := by decide +kernel
theorem dX5_piece_6 : decode cX5_piece 6 = .ok (.iload_n 2, 1) := by decide +kernel
theorem dX5_piece_7 : decode cX5_piece 7 = .ok (.ifCond .ge 5, 3) := by decide +kernel
theorem dX5_piece_10 : decode cX5_piece 10 = .ok (.iconst (-1), 1) := by decide +kernel
theorem dX5_piece_11 : decode cX5_piece 11 = .ok (.ireturn, 1) := by decide +kernel
theorem dX5_piece_12 : decode cX5_piece 12 = .ok (.aload_n 0, 1) := by decide +kernel
theorem dX5_piece_13 : decode cX5_piece 13 = .ok (.getfield 15, 3) := by decide +kernel
theorem dX5_piece_16 : decode cX5_piece 16 = .ok (.aload_n 0, 1) := by decide +kernel
theorem dX5_piece_17 : decode cX5_piece 17 = .ok (.getfield 37, 3) := by decide +kernel
theorem dX5_piece_20 : decode cX5_piece 20 = .ok (.invokevirtual 43, 3) := by decide +kernel
theorem dX5_piece_23 : decode cX5_piece 23 = .ok (.lookupswitch 113 #[(42, 41), (43, 60), (63, 79), (123, 97)], 41) := by decide +kernel
theorem dX5_piece_64 : decode cX5_piece 64 = .ok (.aload_n 0, 1) := by decide +kernel
theorem dX5_piece_65 : decode cX5_piece 65 = .ok (.dup, 1) := by decide +kernel
theorem dX5_piece_66 : decode cX5_piece 66 = .ok (.getfield 37, 3) := by decide +kernel
theorem dX5_piece_69 : decode cX5_piece 69 = .ok (.iconst 1, 1) := by decide +kernel
theorem dX5_piece_70 : decode cX5_piece 70 = .ok (.iadd, 1) := by decide +kernel
theorem dX5_piece_71 : decode cX5_piece 71 = .ok (.putfield 37, 3) := by decide +kernel
theorem dX5_piece_74 : decode cX5_piece 74 = .ok (.aload_n 0, 1) := by decide +kernel
theorem dX5_piece_75 : decode cX5_piece 75 = .ok (.iload_n 2, 1) := by decide +kernel
theorem dX5_piece_76 : decode cX5_piece 76 = .ok (.iconst 0, 1) := by decide +kernel
theorem dX5_piece_77 : decode cX5_piece 77 = .ok (.bipush 100, 2) := by decide +kernel
theorem dX5_piece_79 : decode cX5_piece 79 = .ok (.invokevirtual 73, 3) := by decide +kernel
theorem dX5_piece_82 : decode cX5_piece 82 = .ok (.ireturn, 1) := by decide +kernel
theorem dX5_piece_83 : decode cX5_piece 83 = .ok (.aload_n 0, 1) := by decide +kernel
theorem dX5_piece_84 : decode cX5_piece 84 = .ok (.dup, 1) := by decide +kernel
theorem dX5_piece_85 : decode cX5_piece 85 = .ok (.getfield 37, 3) := by decide +kernel
theorem dX5_piece_88 : decode cX5_piece 88 = .ok (.iconst 1, 1) := by decide +kernel
theorem dX5_piece_89 : decode cX5_piece 89 = .ok (.iadd, 1) := by decide +kernel
theorem dX5_piece_90 : decode cX5_piece 90 = .ok (.putfield 37, 3) := by decide +kernel
theorem dX5_piece_93 : decode cX5_piece 93 = .ok (.aload_n 0, 1) := by decide +kernel
theorem dX5_piece_94 : decode cX5_piece 94 = .ok (.iload_n 2, 1) := by decide +kernel
theorem dX5_piece_95 : decode cX5_piece 95 = .ok (.iconst 1, 1) := by decide +kernel
theorem dX5_piece_96 : decode cX5_piece 96 = .ok (.bipush 100, 2) := by decide +kernel
theorem dX5_piece_98 : decode cX5_piece 98 = .ok (.invokevirtual 73, 3) := by decide +kernel
theorem dX5_piece_101 : decode cX5_piece 101 = .ok (.ireturn, 1) := by decide +kernel
theorem dX5_piece_102 : decode cX5_piece 102 = .ok (.aload_n 0, 1) := by decide +kernel
theorem dX5_piece_103 : decode cX5_piece 103 = .ok (.dup, 1) := by decide +kernel
theorem dX5_piece_104 : decode cX5_piece 104 = .ok (.getfield 37, 3) := by decide +kernel
theorem dX5_piece_107 : decode cX5_piece 107 = .ok (.iconst 1, 1) := by decide +kernel
theorem dX5_piece_108 : decode cX5_piece 108 = .ok (.iadd, 1) := by decide +kernel
theorem dX5_piece_109 : decode cX5_piece 109 = .ok (.putfield 37, 3) := by decide +kernel
theorem dX5_piece_112 : decode cX5_piece 112 = .ok (.aload_n 0, 1) := by decide +kernel
theorem dX5_piece_113 : decode cX5_piece 113 = .ok (.iload_n 2, 1) := by decide +kernel
theorem dX5_piece_114 : decode cX5_piece 114 = .ok (.iconst 0, 1) := by decide +kernel
theorem dX5_piece_115 : decode cX5_piece 115 = .ok (.iconst 1, 1) := by decide +kernel
theorem dX5_piece_116 : decode cX5_piece 116 = .ok (.invokevirtual 73, 3) := by decide +kernel
theorem dX5_piece_119 : decode cX5_piece 119 = .ok (.ireturn, 1) := by decide +kernel
theorem dX5_piece_120 : decode cX5_piece 120 = .ok (.aload_n 0, 1) := by decide +kernel
theorem dX5_piece_121 : decode cX5_piece 121 = .ok (.dup, 1) := by decide +kernel
theorem dX5_piece_122 : decode cX5_piece 122 = .ok (.getfield 37, 3) := by decide +kernel
theorem dX5_piece_125 : decode cX5_piece 125 = .ok (.iconst 1, 1) := by decide +kernel
theorem dX5_piece_126 : decode cX5_piece 126 = .ok (.iadd, 1) := by decide +kernel
theorem dX5_piece_127 : decode cX5_piece 127 = .ok (.putfield 37, 3) := by decide +kernel
theorem dX5_piece_130 : decode cX5_piece 130 = .ok (.aload_n 0, 1) := by decide +kernel
theorem dX5_piece_131 : decode cX5_piece 131 = .ok (.iload_n 2, 1) := by decide +kernel
theorem dX5_piece_132 : decode cX5_piece 132 = .ok (.invokevirtual 76, 3) := by decide +kernel
theorem dX5_piece_135 : decode cX5_piece 135 = .ok (.ireturn, 1) := by decide +kernel
theorem dX5_piece_136 : decode cX5_piece 136 = .ok (.iload_n 2, 1) := by decide +kernel
theorem dX5_piece_137 : decode cX5_piece 137 = .ok (.ireturn, 1) := by decide +kernel
theorem dX5_atom_0 : decode cX5_atom 0 = .ok (.aload_n 0, 1) := by decide +kernel
theorem dX5_atom_1 : decode cX5_atom 1 = .ok (.iload_n 1, 1) := by decide +kernel
theorem dX5_atom_2 : decode cX5_atom 2 = .ok (.invokevirtual 64, 3) := by decide +kernel
theorem dX5_atom_5 : decode cX5_atom 5 = .ok (.ifCond .ne 12, 3) := by decide +kernel
theorem dX5_atom_8 : decode cX5_atom 8 = .ok (.aload_n 0, 1) := by decide +kernel
theorem dX5_atom_9 : decode cX5_atom 9 = .ok (.aload_n 0, 1) := by decide +kernel
theorem dX5_atom_10 : decode cX5_atom 10 = .ok (.getfield 37, 3) := by decide +kernel
theorem dX5_atom_13 : decode cX5_atom 13 = .ok (.invokevirtual 40, 3) := by decide +kernel
theorem dX5_atom_16 : decode cX5_atom 16 = .ok (.ireturn, 1) := by decide +kernel
theorem dX5_atom_17 : decode cX5_atom 17 = .ok (.aload_n 0, 1) := by decide +kernel
theorem dX5_atom_18 : decode cX5_atom 18 = .ok (.getfield 15, 3) := by decide +kernel
theorem dX5_atom_21 : decode cX5_atom 21 = .ok (.aload_n 0, 1) := by decide +kernel
theorem dX5_atom_22 : decode cX5_atom 22 = .ok (.getfield 37, 3) := by decide +kernel
theorem dX5_atom_25 : decode cX5_atom 25 = .ok (.invokevirtual 43, 3) := by decide +kernel
theorem dX5_atom_28 : decode cX5_atom 28 = .ok (.istore_n 2, 1) := by decide +kernel
theorem dX5_atom_29 : decode cX5_atom 29 = .ok (.aload_n 0, 1) := by decide +kernel
theorem dX5_atom_30 : decode cX5_atom 30 = .ok (.dup, 1) := by decide +kernel
theorem dX5_atom_31 : decode cX5_atom 31 = .ok (.getfield 37, 3) := by decide +kernel
theorem dX5_atom_34 : decode cX5_atom 34 = .ok (.iconst 1, 1) := by decide +kernel
theorem dX5_atom_35 : decode cX5_atom 35 = .ok (.iadd, 1) := by decide +kernel
theorem dX5_atom_36 : decode cX5_atom 36 = .ok (.putfield 37, 3) := by decide +kernel
theorem dX5_atom_39 : decode cX5_atom 39 = .ok (.iload_n 2, 1) := by decide +kernel
theorem dX5_atom_40 : decode cX5_atom 40 = .ok (.lookupswitch 82 #[(36, 55), (37, 74), (40, 66), (94, 44)], 44) := by decide +kernel
theorem dX5_atom_84 : decode cX5_atom 84 = .ok (.aload_n 0, 1) := by decide +kernel
theorem dX5_atom_85 : decode cX5_atom 85 = .ok (.getfield 29, 3) := by decide +kernel
theorem dX5_atom_88 : decode cX5_atom 88 = .ok (.iconst 1, 1) := by decide +kernel
theorem dX5_atom_89 : decode cX5_atom 89 = .ok (.bipush (-5), 2) := by decide +kernel
theorem dX5_atom_91 : decode cX5_atom 91 = .ok (.invokevirtual 79, 3) := by decide +kernel
theorem dX5_atom_94 : decode cX5_atom 94 = .ok (.ireturn, 1) := by decide +kernel
theorem dX5_atom_95 : decode cX5_atom 95 = .ok (.aload_n 0, 1) := by decide +kernel
theorem dX5_atom_96 : decode cX5_atom 96 = .ok (.getfield 29, 3) := by decide +kernel
theorem dX5_atom_99 : decode cX5_atom 99 = .ok (.iconst 2, 1) := by decide +kernel
theorem dX5_atom_100 : decode cX5_atom 100 = .ok (.bipush (-5), 2) := by decide +kernel
theorem dX5_atom_102 : decode cX5_atom 102 = .ok (.invokevirtual 79, 3) := by decide +kernel
theorem dX5_atom_105 : decode cX5_atom 105 = .ok (.ireturn, 1) := by decide +kernel
theorem dX5_atom_106 : decode cX5_atom 106 = .ok (.aload_n 0, 1) := by decide +kernel
theorem dX5_atom_107 : decode cX5_atom 107 = .ok (.iload_n 1, 1) := by decide +kernel
theorem dX5_atom_108 : decode cX5_atom 108 = .ok (.iconst 1, 1) := by decide +kernel
theorem dX5_atom_109 : decode cX5_atom 109 = .ok (.iadd, 1) := by decide +kernel
theorem dX5_atom_110 : decode cX5_atom 110 = .ok (.invokevirtual 83, 3) := by decide +kernel
theorem dX5_atom_113 : decode cX5_atom 113 = .ok (.ireturn, 1) := by decide +kernel
theorem dX5_atom_114 : decode cX5_atom 114 = .ok (.aload_n 0, 1) := by decide +kernel
theorem dX5_atom_115 : decode cX5_atom 115 = .ok (.iload_n 1, 1) := by decide +kernel
theorem dX5_atom_116 : decode cX5_atom 116 = .ok (.iconst 1, 1) := by decide +kernel
theorem dX5_atom_117 : decode cX5_atom 117 = .ok (.iadd, 1) := by decide +kernel
theorem dX5_atom_118 : decode cX5_atom 118 = .ok (.invokevirtual 86, 3) := by decide +kernel
theorem dX5_atom_121 : decode cX5_atom 121 = .ok (.ireturn, 1) := by decide +kernel
theorem dX5_atom_122 : decode cX5_atom 122 = .ok (.aload_n 0, 1) := by decide +kernel
theorem dX5_atom_123 : decode cX5_atom 123 = .ok (.getfield 29, 3) := by decide +kernel
theorem dX5_atom_126 : decode cX5_atom 126 = .ok (.iconst 0, 1) := by decide +kernel
theorem dX5_atom_127 : decode cX5_atom 127 = .ok (.iload_n 2, 1) := by decide +kernel
theorem dX5_atom_128 : decode cX5_atom 128 = .ok (.bipush 65, 2) := by decide +kernel
theorem dX5_atom_130 : decode cX5_atom 130 = .ok (.isub, 1) := by decide +kernel
theorem dX5_atom_131 : decode cX5_atom 131 = .ok (.invokevirtual 79, 3) := by decide +kernel
theorem dX5_atom_134 : decode cX5_atom 134 = .ok (.ireturn, 1) := by decide +kernel
theorem dX5_bracketed_0 : decode cX5_bracketed 0 = .ok (.aload_n 0, 1) := by decide +kernel
theorem dX5_bracketed_1 : decode cX5_bracketed 1 = .ok (.iload_n 1, 1) := by decide +kernel
theorem dX5_bracketed_2 : decode cX5_bracketed 2 = .ok (.invokevirtual 33, 3) := by decide +kernel
theorem dX5_bracketed_5 : decode cX5_bracketed 5 = .ok (.istore_n 2, 1) := by decide +kernel
theorem dX5_bracketed_6 : decode cX5_bracketed 6 = .ok (.iload_n 2, 1) := by decide +kernel
theorem dX5_bracketed_7 : decode cX5_bracketed 7 = .ok (.ifCond .lt 12, 3) := by decide +kernel
theorem dX5_bracketed_10 : decode cX5_bracketed 10 = .ok (.aload_n 0, 1) := by decide +kernel
theorem dX5_bracketed_11 : decode cX5_bracketed 11 = .ok (.bipush 41, 2) := by decide +kernel
theorem dX5_bracketed_13 : decode cX5_bracketed 13 = .ok (.invokevirtual 49, 3) := by decide +kernel
theorem dX5_bracketed_16 : decode cX5_bracketed 16 = .ok (.ifCond .ne 12, 3) := by decide +kernel
theorem dX5_bracketed_19 : decode cX5_bracketed 19 = .ok (.aload_n 0, 1) := by decide +kernel
theorem dX5_bracketed_20 : decode cX5_bracketed 20 = .ok (.aload_n 0, 1) := by decide +kernel
theorem dX5_bracketed_21 : decode cX5_bracketed 21 = .ok (.getfield 37, 3) := by decide +kernel
theorem dX5_bracketed_24 : decode cX5_bracketed 24 = .ok (.invokevirtual 40, 3) := by decide +kernel
theorem dX5_bracketed_27 : decode cX5_bracketed 27 = .ok (.ireturn, 1) := by decide +kernel
theorem dX5_bracketed_28 : decode cX5_bracketed 28 = .ok (.aload_n 0, 1) := by decide +kernel
theorem dX5_bracketed_29 : decode cX5_bracketed 29 = .ok (.dup, 1) := by decide +kernel
theorem dX5_bracketed_30 : decode cX5_bracketed 30 = .ok (.getfield 37, 3) := by decide +kernel
theorem dX5_bracketed_33 : decode cX5_bracketed 33 = .ok (.iconst 1, 1) := by decide +kernel
theorem dX5_bracketed_34 : decode cX5_bracketed 34 = .ok (.iadd, 1) := by decide +kernel
theorem dX5_bracketed_35 : decode cX5_bracketed 35 = .ok (.putfield 37, 3) := by decide +kernel
theorem dX5_bracketed_38 : decode cX5_bracketed 38 = .ok (.iload_n 2, 1) := by decide +kernel
theorem dX5_bracketed_39 : decode cX5_bracketed 39 = .ok (.ireturn, 1) := by decide +kernel
theorem dX5_anyOrder_0 : decode cX5_anyOrder 0 = .ok (.aload_n 0, 1) := by decide +kernel
theorem dX5_anyOrder_1 : decode cX5_anyOrder 1 = .ok (.bipush 40, 2) := by decide +kernel
theorem dX5_anyOrder_3 : decode cX5_anyOrder 3 = .ok (.invokevirtual 49, 3) := by decide +kernel
theorem dX5_anyOrder_6 : decode cX5_anyOrder 6 = .ok (.ifCond .ne 12, 3) := by decide +kernel
theorem dX5_anyOrder_9 : decode cX5_anyOrder 9 = .ok (.aload_n 0, 1) := by decide +kernel
theorem dX5_anyOrder_10 : decode cX5_anyOrder 10 = .ok (.aload_n 0, 1) := by decide +kernel
theorem dX5_anyOrder_11 : decode cX5_anyOrder 11 = .ok (.getfield 37, 3) := by decide +kernel
theorem dX5_anyOrder_14 : decode cX5_anyOrder 14 = .ok (.invokevirtual 40, 3) := by decide +kernel
theorem dX5_anyOrder_17 : decode cX5_anyOrder 17 = .ok (.ireturn, 1) := by decide +kernel
theorem dX5_anyOrder_18 : decode cX5_anyOrder 18 = .ok (.aload_n 0, 1) := by decide +kernel
theorem dX5_anyOrder_19 : decode cX5_anyOrder 19 = .ok (.dup, 1) := by decide +kernel
theorem dX5_anyOrder_20 : decode cX5_anyOrder 20 = .ok (.getfield 37, 3) := by decide +kernel
theorem dX5_anyOrder_23 : decode cX5_anyOrder 23 = .ok (.iconst 1, 1) := by decide +kernel
theorem dX5_anyOrder_24 : decode cX5_anyOrder 24 = .ok (.iadd, 1) := by decide +kernel
theorem dX5_anyOrder_25 : decode cX5_anyOrder 25 = .ok (.putfield 37, 3) := by decide +kernel
theorem dX5_anyOrder_28 : decode cX5_anyOrder 28 = .ok (.aload_n 0, 1) := by decide +kernel
theorem dX5_anyOrder_29 : decode cX5_anyOrder 29 = .ok (.iload_n 1, 1) := by decide +kernel
theorem dX5_anyOrder_30 : decode cX5_anyOrder 30 = .ok (.invokevirtual 33, 3) := by decide +kernel
theorem dX5_anyOrder_33 : decode cX5_anyOrder 33 = .ok (.istore_n 2, 1) := by decide +kernel
theorem dX5_anyOrder_34 : decode cX5_anyOrder 34 = .ok (.iload_n 2, 1) := by decide +kernel
theorem dX5_anyOrder_35 : decode cX5_anyOrder 35 = .ok (.istore_n 3, 1) := by decide +kernel
theorem dX5_anyOrder_36 : decode cX5_anyOrder 36 = .ok (.iconst 1, 1) := by decide +kernel
theorem dX5_anyOrder_37 : decode cX5_anyOrder 37 = .ok (.istore 4, 2) := by decide +kernel
theorem dX5_anyOrder_39 : decode cX5_anyOrder 39 = .ok (.iload 4, 2) := by decide +kernel
theorem dX5_anyOrder_41 : decode cX5_anyOrder 41 = .ok (.iconst 4, 1) := by decide +kernel
theorem dX5_anyOrder_42 : decode cX5_anyOrder 42 = .ok (.if_icmp .ge 52, 3) := by decide +kernel
theorem dX5_anyOrder_45 : decode cX5_anyOrder 45 = .ok (.iload_n 3, 1) := by decide +kernel
theorem dX5_anyOrder_46 : decode cX5_anyOrder 46 = .ok (.ifCond .lt 48, 3) := by decide +kernel
theorem dX5_anyOrder_49 : decode cX5_anyOrder 49 = .ok (.aload_n 0, 1) := by decide +kernel
theorem dX5_anyOrder_50 : decode cX5_anyOrder 50 = .ok (.bipush 44, 2) := by decide +kernel
theorem dX5_anyOrder_52 : decode cX5_anyOrder 52 = .ok (.invokevirtual 49, 3) := by decide +kernel
theorem dX5_anyOrder_55 : decode cX5_anyOrder 55 = .ok (.ifCond .eq 39, 3) := by decide +kernel
theorem dX5_anyOrder_58 : decode cX5_anyOrder 58 = .ok (.aload_n 0, 1) := by decide +kernel
theorem dX5_anyOrder_59 : decode cX5_anyOrder 59 = .ok (.dup, 1) := by decide +kernel
theorem dX5_anyOrder_60 : decode cX5_anyOrder 60 = .ok (.getfield 37, 3) := by decide +kernel
theorem dX5_anyOrder_63 : decode cX5_anyOrder 63 = .ok (.iconst 1, 1) := by decide +kernel
theorem dX5_anyOrder_64 : decode cX5_anyOrder 64 = .ok (.iadd, 1) := by decide +kernel
theorem dX5_anyOrder_65 : decode cX5_anyOrder 65 = .ok (.putfield 37, 3) := by decide +kernel
theorem dX5_anyOrder_68 : decode cX5_anyOrder 68 = .ok (.aload_n 0, 1) := by decide +kernel
theorem dX5_anyOrder_69 : decode cX5_anyOrder 69 = .ok (.iload_n 1, 1) := by decide +kernel
theorem dX5_anyOrder_70 : decode cX5_anyOrder 70 = .ok (.invokevirtual 33, 3) := by decide +kernel
theorem dX5_anyOrder_73 : decode cX5_anyOrder 73 = .ok (.istore 5, 2) := by decide +kernel
theorem dX5_anyOrder_75 : decode cX5_anyOrder 75 = .ok (.aload_n 0, 1) := by decide +kernel
theorem dX5_anyOrder_76 : decode cX5_anyOrder 76 = .ok (.getfield 29, 3) := by decide +kernel
theorem dX5_anyOrder_79 : decode cX5_anyOrder 79 = .ok (.iload_n 3, 1) := by decide +kernel
theorem dX5_anyOrder_80 : decode cX5_anyOrder 80 = .ok (.iload 5, 2) := by decide +kernel
theorem dX5_anyOrder_82 : decode cX5_anyOrder 82 = .ok (.invokevirtual 53, 3) := by decide +kernel
theorem dX5_anyOrder_85 : decode cX5_anyOrder 85 = .ok (.iload 5, 2) := by decide +kernel
theorem dX5_anyOrder_87 : decode cX5_anyOrder 87 = .ok (.istore_n 3, 1) := by decide +kernel
theorem dX5_anyOrder_88 : decode cX5_anyOrder 88 = .ok (.iinc 4 1, 3) := by decide +kernel
theorem dX5_anyOrder_91 : decode cX5_anyOrder 91 = .ok (.goto (-52), 3) := by decide +kernel
theorem dX5_anyOrder_94 : decode cX5_anyOrder 94 = .ok (.iload_n 3, 1) := by decide +kernel
theorem dX5_anyOrder_95 : decode cX5_anyOrder 95 = .ok (.ifCond .lt 18, 3) := by decide +kernel
theorem dX5_anyOrder_98 : decode cX5_anyOrder 98 = .ok (.iload 4, 2) := by decide +kernel
theorem dX5_anyOrder_100 : decode cX5_anyOrder 100 = .ok (.iconst 2, 1) := by decide +kernel
theorem dX5_anyOrder_101 : decode cX5_anyOrder 101 = .ok (.if_icmp .lt 12, 3) := by decide +kernel
theorem dX5_anyOrder_104 : decode cX5_anyOrder 104 = .ok (.aload_n 0, 1) := by decide +kernel
theorem dX5_anyOrder_105 : decode cX5_anyOrder 105 = .ok (.bipush 41, 2) := by decide +kernel
theorem dX5_anyOrder_107 : decode cX5_anyOrder 107 = .ok (.invokevirtual 49, 3) := by decide +kernel
theorem dX5_anyOrder_110 : decode cX5_anyOrder 110 = .ok (.ifCond .ne 12, 3) := by decide +kernel
theorem dX5_anyOrder_113 : decode cX5_anyOrder 113 = .ok (.aload_n 0, 1) := by decide +kernel
theorem dX5_anyOrder_114 : decode cX5_anyOrder 114 = .ok (.aload_n 0, 1) := by decide +kernel
theorem dX5_anyOrder_115 : decode cX5_anyOrder 115 = .ok (.getfield 37, 3) := by decide +kernel
theorem dX5_anyOrder_118 : decode cX5_anyOrder 118 = .ok (.invokevirtual 40, 3) := by decide +kernel
theorem dX5_anyOrder_121 : decode cX5_anyOrder 121 = .ok (.ireturn, 1) := by decide +kernel
theorem dX5_anyOrder_122 : decode cX5_anyOrder 122 = .ok (.aload_n 0, 1) := by decide +kernel
theorem dX5_anyOrder_123 : decode cX5_anyOrder 123 = .ok (.dup, 1) := by decide +kernel
theorem dX5_anyOrder_124 : decode cX5_anyOrder 124 = .ok (.getfield 37, 3) := by decide +kernel
theorem dX5_anyOrder_127 : decode cX5_anyOrder 127 = .ok (.iconst 1, 1) := by decide +kernel
theorem dX5_anyOrder_128 : decode cX5_anyOrder 128 = .ok (.iadd, 1) := by decide +kernel
theorem dX5_anyOrder_129 : decode cX5_anyOrder 129 = .ok (.putfield 37, 3) := by decide +kernel
theorem dX5_anyOrder_132 : decode cX5_anyOrder 132 = .ok (.aload_n 0, 1) := by decide +kernel
theorem dX5_anyOrder_133 : decode cX5_anyOrder 133 = .ok (.getfield 29, 3) := by decide +kernel
theorem dX5_anyOrder_136 : decode cX5_anyOrder 136 = .ok (.bipush 6, 2) := by decide +kernel
theorem dX5_anyOrder_138 : decode cX5_anyOrder 138 = .ok (.iload_n 2, 1) := by decide +kernel
theorem dX5_anyOrder_139 : decode cX5_anyOrder 139 = .ok (.iload 4, 2) := by decide +kernel
theorem dX5_anyOrder_141 : decode cX5_anyOrder 141 = .ok (.invokevirtual 57, 3) := by decide +kernel
theorem dX5_anyOrder_144 : decode cX5_anyOrder 144 = .ok (.ireturn, 1) := by decide +kernel
theorem dX5_bounded_0 : decode cX5_bounded 0 = .ok (.aload_n 0, 1) := by decide +kernel
theorem dX5_bounded_1 : decode cX5_bounded 1 = .ok (.invokevirtual 89, 3) := by decide +kernel
theorem dX5_bounded_4 : decode cX5_bounded 4 = .ok (.istore_n 2, 1) := by decide +kernel
theorem dX5_bounded_5 : decode cX5_bounded 5 = .ok (.iload_n 2, 1) := by decide +kernel
theorem dX5_bounded_6 : decode cX5_bounded 6 = .ok (.ifCond .ge 5, 3) := by decide +kernel
theorem dX5_bounded_9 : decode cX5_bounded 9 = .ok (.iconst (-1), 1) := by decide +kernel
theorem dX5_bounded_10 : decode cX5_bounded 10 = .ok (.ireturn, 1) := by decide +kernel
theorem dX5_bounded_11 : decode cX5_bounded 11 = .ok (.iload_n 2, 1) := by decide +kernel
theorem dX5_bounded_12 : decode cX5_bounded 12 = .ok (.istore_n 3, 1) := by decide +kernel
theorem dX5_bounded_13 : decode cX5_bounded 13 = .ok (.aload_n 0, 1) := by decide +kernel
theorem dX5_bounded_14 : decode cX5_bounded 14 = .ok (.bipush 44, 2) := by decide +kernel
theorem dX5_bounded_16 : decode cX5_bounded 16 = .ok (.invokevirtual 49, 3) := by decide +kernel
theorem dX5_bounded_19 : decode cX5_bounded 19 = .ok (.ifCond .eq 22, 3) := by decide +kernel
theorem dX5_bounded_22 : decode cX5_bounded 22 = .ok (.aload_n 0, 1) := by decide +kernel
theorem dX5_bounded_23 : decode cX5_bounded 23 = .ok (.dup, 1) := by decide +kernel
theorem dX5_bounded_24 : decode cX5_bounded 24 = .ok (.getfield 37, 3) := by decide +kernel
theorem dX5_bounded_27 : decode cX5_bounded 27 = .ok (.iconst 1, 1) := by decide +kernel
theorem dX5_bounded_28 : decode cX5_bounded 28 = .ok (.iadd, 1) := by decide +kernel
theorem dX5_bounded_29 : decode cX5_bounded 29 = .ok (.putfield 37, 3) := by decide +kernel
theorem dX5_bounded_32 : decode cX5_bounded 32 = .ok (.aload_n 0, 1) := by decide +kernel
theorem dX5_bounded_33 : decode cX5_bounded 33 = .ok (.iload_n 2, 1) := by decide +kernel
theorem dX5_bounded_34 : decode cX5_bounded 34 = .ok (.invokevirtual 93, 3) := by decide +kernel
theorem dX5_bounded_37 : decode cX5_bounded 37 = .ok (.istore_n 3, 1) := by decide +kernel
theorem dX5_bounded_38 : decode cX5_bounded 38 = .ok (.goto 16, 3) := by decide +kernel
theorem dX5_bounded_41 : decode cX5_bounded 41 = .ok (.iload_n 2, 1) := by decide +kernel
theorem dX5_bounded_42 : decode cX5_bounded 42 = .ok (.ifCond .ne 12, 3) := by decide +kernel
theorem dX5_bounded_45 : decode cX5_bounded 45 = .ok (.aload_n 0, 1) := by decide +kernel
theorem dX5_bounded_46 : decode cX5_bounded 46 = .ok (.aload_n 0, 1) := by decide +kernel
theorem dX5_bounded_47 : decode cX5_bounded 47 = .ok (.getfield 37, 3) := by decide +kernel
theorem dX5_bounded_50 : decode cX5_bounded 50 = .ok (.invokevirtual 40, 3) := by decide +kernel
theorem dX5_bounded_53 : decode cX5_bounded 53 = .ok (.ireturn, 1) := by decide +kernel
theorem dX5_bounded_54 : decode cX5_bounded 54 = .ok (.iload_n 3, 1) := by decide +kernel
theorem dX5_bounded_55 : decode cX5_bounded 55 = .ok (.ifCond .lt 12, 3) := by decide +kernel
theorem dX5_bounded_58 : decode cX5_bounded 58 = .ok (.aload_n 0, 1) := by decide +kernel
theorem dX5_bounded_59 : decode cX5_bounded 59 = .ok (.bipush 125, 2) := by decide +kernel
theorem dX5_bounded_61 : decode cX5_bounded 61 = .ok (.invokevirtual 49, 3) := by decide +kernel
theorem dX5_bounded_64 : decode cX5_bounded 64 = .ok (.ifCond .ne 12, 3) := by decide +kernel
theorem dX5_bounded_67 : decode cX5_bounded 67 = .ok (.aload_n 0, 1) := by decide +kernel
theorem dX5_bounded_68 : decode cX5_bounded 68 = .ok (.aload_n 0, 1) := by decide +kernel
theorem dX5_bounded_69 : decode cX5_bounded 69 = .ok (.getfield 37, 3) := by decide +kernel
theorem dX5_bounded_72 : decode cX5_bounded 72 = .ok (.invokevirtual 40, 3) := by decide +kernel
theorem dX5_bounded_75 : decode cX5_bounded 75 = .ok (.ireturn, 1) := by decide +kernel
theorem dX5_bounded_76 : decode cX5_bounded 76 = .ok (.aload_n 0, 1) := by decide +kernel
theorem dX5_bounded_77 : decode cX5_bounded 77 = .ok (.dup, 1) := by decide +kernel
theorem dX5_bounded_78 : decode cX5_bounded 78 = .ok (.getfield 37, 3) := by decide +kernel
theorem dX5_bounded_81 : decode cX5_bounded 81 = .ok (.iconst 1, 1) := by decide +kernel
theorem dX5_bounded_82 : decode cX5_bounded 82 = .ok (.iadd, 1) := by decide +kernel
theorem dX5_bounded_83 : decode cX5_bounded 83 = .ok (.putfield 37, 3) := by decide +kernel
theorem dX5_bounded_86 : decode cX5_bounded 86 = .ok (.aload_n 0, 1) := by decide +kernel
theorem dX5_bounded_87 : decode cX5_bounded 87 = .ok (.iload_n 1, 1) := by decide +kernel
theorem dX5_bounded_88 : decode cX5_bounded 88 = .ok (.iload_n 2, 1) := by decide +kernel
theorem dX5_bounded_89 : decode cX5_bounded 89 = .ok (.iload_n 3, 1) := by decide +kernel
theorem dX5_bounded_90 : decode cX5_bounded 90 = .ok (.invokevirtual 73, 3) := by decide +kernel
theorem dX5_bounded_93 : decode cX5_bounded 93 = .ok (.ireturn, 1) := by decide +kernel
theorem dX5_mostBehind_0 : decode cX5_mostBehind 0 = .ok (.aload_n 0, 1) := by decide +kernel
theorem dX5_mostBehind_1 : decode cX5_mostBehind 1 = .ok (.bipush 125, 2) := by decide +kernel
theorem dX5_mostBehind_3 : decode cX5_mostBehind 3 = .ok (.invokevirtual 49, 3) := by decide +kernel
theorem dX5_mostBehind_6 : decode cX5_mostBehind 6 = .ok (.ifCond .eq 6, 3) := by decide +kernel
theorem dX5_mostBehind_9 : decode cX5_mostBehind 9 = .ok (.bipush 100, 2) := by decide +kernel
theorem dX5_mostBehind_11 : decode cX5_mostBehind 11 = .ok (.ireturn, 1) := by decide +kernel
theorem dX5_mostBehind_12 : decode cX5_mostBehind 12 = .ok (.aload_n 0, 1) := by decide +kernel
theorem dX5_mostBehind_13 : decode cX5_mostBehind 13 = .ok (.getfield 37, 3) := by decide +kernel
theorem dX5_mostBehind_16 : decode cX5_mostBehind 16 = .ok (.istore_n 2, 1) := by decide +kernel
theorem dX5_mostBehind_17 : decode cX5_mostBehind 17 = .ok (.aload_n 0, 1) := by decide +kernel
theorem dX5_mostBehind_18 : decode cX5_mostBehind 18 = .ok (.invokevirtual 89, 3) := by decide +kernel
theorem dX5_mostBehind_21 : decode cX5_mostBehind 21 = .ok (.istore_n 3, 1) := by decide +kernel
theorem dX5_mostBehind_22 : decode cX5_mostBehind 22 = .ok (.iload_n 3, 1) := by decide +kernel
theorem dX5_mostBehind_23 : decode cX5_mostBehind 23 = .ok (.ifCond .lt 20, 3) := by decide +kernel
theorem dX5_mostBehind_26 : decode cX5_mostBehind 26 = .ok (.iload_n 3, 1) := by decide +kernel
theorem dX5_mostBehind_27 : decode cX5_mostBehind 27 = .ok (.ifCond .eq 8, 3) := by decide +kernel
theorem dX5_mostBehind_30 : decode cX5_mostBehind 30 = .ok (.iload_n 3, 1) := by decide +kernel
theorem dX5_mostBehind_31 : decode cX5_mostBehind 31 = .ok (.iload_n 1, 1) := by decide +kernel
theorem dX5_mostBehind_32 : decode cX5_mostBehind 32 = .ok (.if_icmp .ge 11, 3) := by decide +kernel
theorem dX5_mostBehind_35 : decode cX5_mostBehind 35 = .ok (.aload_n 0, 1) := by decide +kernel
theorem dX5_mostBehind_36 : decode cX5_mostBehind 36 = .ok (.iload_n 2, 1) := by decide +kernel
theorem dX5_mostBehind_37 : decode cX5_mostBehind 37 = .ok (.invokevirtual 40, 3) := by decide +kernel
theorem dX5_mostBehind_40 : decode cX5_mostBehind 40 = .ok (.goto 4, 3) := by decide +kernel
theorem dX5_mostBehind_43 : decode cX5_mostBehind 43 = .ok (.iload_n 3, 1) := by decide +kernel
theorem dX5_mostBehind_44 : decode cX5_mostBehind 44 = .ok (.ireturn, 1) := by decide +kernel
theorem dX5_number_0 : decode cX5_number 0 = .ok (.aload_n 0, 1) := by decide +kernel
theorem dX5_number_1 : decode cX5_number 1 = .ok (.getfield 37, 3) := by decide +kernel
theorem dX5_number_4 : decode cX5_number 4 = .ok (.istore_n 1, 1) := by decide +kernel
theorem dX5_number_5 : decode cX5_number 5 = .ok (.iconst 0, 1) := by decide +kernel
theorem dX5_number_6 : decode cX5_number 6 = .ok (.istore_n 2, 1) := by decide +kernel
theorem dX5_number_7 : decode cX5_number 7 = .ok (.iconst 0, 1) := by decide +kernel
theorem dX5_number_8 : decode cX5_number 8 = .ok (.istore_n 3, 1) := by decide +kernel
theorem dX5_number_9 : decode cX5_number 9 = .ok (.iload_n 3, 1) := by decide +kernel
theorem dX5_number_10 : decode cX5_number 10 = .ok (.iconst 2, 1) := by decide +kernel
theorem dX5_number_11 : decode cX5_number 11 = .ok (.if_icmp .ge 58, 3) := by decide +kernel
theorem dX5_number_14 : decode cX5_number 14 = .ok (.aload_n 0, 1) := by decide +kernel
theorem dX5_number_15 : decode cX5_number 15 = .ok (.getfield 15, 3) := by decide +kernel
theorem dX5_number_18 : decode cX5_number 18 = .ok (.aload_n 0, 1) := by decide +kernel
theorem dX5_number_19 : decode cX5_number 19 = .ok (.getfield 37, 3) := by decide +kernel
theorem dX5_number_22 : decode cX5_number 22 = .ok (.invokevirtual 43, 3) := by decide +kernel
theorem dX5_number_25 : decode cX5_number 25 = .ok (.bipush 48, 2) := by decide +kernel
theorem dX5_number_27 : decode cX5_number 27 = .ok (.isub, 1) := by decide +kernel
theorem dX5_number_28 : decode cX5_number 28 = .ok (.istore 4, 2) := by decide +kernel
theorem dX5_number_30 : decode cX5_number 30 = .ok (.iload 4, 2) := by decide +kernel
theorem dX5_number_32 : decode cX5_number 32 = .ok (.ifCond .lt 37, 3) := by decide +kernel
theorem dX5_number_35 : decode cX5_number 35 = .ok (.iload 4, 2) := by decide +kernel
theorem dX5_number_37 : decode cX5_number 37 = .ok (.bipush 9, 2) := by decide +kernel
theorem dX5_number_39 : decode cX5_number 39 = .ok (.if_icmp .le 6, 3) := by decide +kernel
theorem dX5_number_42 : decode cX5_number 42 = .ok (.goto 27, 3) := by decide +kernel
theorem dX5_number_45 : decode cX5_number 45 = .ok (.iload_n 2, 1) := by decide +kernel
theorem dX5_number_46 : decode cX5_number 46 = .ok (.bipush 10, 2) := by decide +kernel
theorem dX5_number_48 : decode cX5_number 48 = .ok (.imul, 1) := by decide +kernel
theorem dX5_number_49 : decode cX5_number 49 = .ok (.iload 4, 2) := by decide +kernel
theorem dX5_number_51 : decode cX5_number 51 = .ok (.iadd, 1) := by decide +kernel
theorem dX5_number_52 : decode cX5_number 52 = .ok (.istore_n 2, 1) := by decide +kernel
theorem dX5_number_53 : decode cX5_number 53 = .ok (.aload_n 0, 1) := by decide +kernel
theorem dX5_number_54 : decode cX5_number 54 = .ok (.dup, 1) := by decide +kernel
theorem dX5_number_55 : decode cX5_number 55 = .ok (.getfield 37, 3) := by decide +kernel
theorem dX5_number_58 : decode cX5_number 58 = .ok (.iconst 1, 1) := by decide +kernel
theorem dX5_number_59 : decode cX5_number 59 = .ok (.iadd, 1) := by decide +kernel
theorem dX5_number_60 : decode cX5_number 60 = .ok (.putfield 37, 3) := by decide +kernel
theorem dX5_number_63 : decode cX5_number 63 = .ok (.iinc 3 1, 3) := by decide +kernel
theorem dX5_number_66 : decode cX5_number 66 = .ok (.goto (-57), 3) := by decide +kernel
theorem dX5_number_69 : decode cX5_number 69 = .ok (.aload_n 0, 1) := by decide +kernel
theorem dX5_number_70 : decode cX5_number 70 = .ok (.getfield 37, 3) := by decide +kernel
theorem dX5_number_73 : decode cX5_number 73 = .ok (.iload_n 1, 1) := by decide +kernel
theorem dX5_number_74 : decode cX5_number 74 = .ok (.if_icmp .ne 14, 3) := by decide +kernel
theorem dX5_number_77 : decode cX5_number 77 = .ok (.aload_n 0, 1) := by decide +kernel
theorem dX5_number_78 : decode cX5_number 78 = .ok (.aload_n 0, 1) := by decide +kernel
theorem dX5_number_79 : decode cX5_number 79 = .ok (.getfield 37, 3) := by decide +kernel
theorem dX5_number_82 : decode cX5_number 82 = .ok (.invokevirtual 40, 3) := by decide +kernel
theorem dX5_number_85 : decode cX5_number 85 = .ok (.goto 4, 3) := by decide +kernel
theorem dX5_number_88 : decode cX5_number 88 = .ok (.iload_n 2, 1) := by decide +kernel
theorem dX5_number_89 : decode cX5_number 89 = .ok (.ireturn, 1) := by decide +kernel
theorem dX5_repeated_0 : decode cX5_repeated 0 = .ok (.iconst 1, 1) := by decide +kernel
theorem dX5_repeated_1 : decode cX5_repeated 1 = .ok (.istore 4, 2) := by decide +kernel
theorem dX5_repeated_3 : decode cX5_repeated 3 = .ok (.aload_n 0, 1) := by decide +kernel
theorem dX5_repeated_4 : decode cX5_repeated 4 = .ok (.bipush 63, 2) := by decide +kernel
theorem dX5_repeated_6 : decode cX5_repeated 6 = .ok (.invokevirtual 49, 3) := by decide +kernel
theorem dX5_repeated_9 : decode cX5_repeated 9 = .ok (.ifCond .eq 16, 3) := by decide +kernel
theorem dX5_repeated_12 : decode cX5_repeated 12 = .ok (.aload_n 0, 1) := by decide +kernel
theorem dX5_repeated_13 : decode cX5_repeated 13 = .ok (.dup, 1) := by decide +kernel
theorem dX5_repeated_14 : decode cX5_repeated 14 = .ok (.getfield 37, 3) := by decide +kernel
theorem dX5_repeated_17 : decode cX5_repeated 17 = .ok (.iconst 1, 1) := by decide +kernel
theorem dX5_repeated_18 : decode cX5_repeated 18 = .ok (.iadd, 1) := by decide +kernel
theorem dX5_repeated_19 : decode cX5_repeated 19 = .ok (.putfield 37, 3) := by decide +kernel
theorem dX5_repeated_22 : decode cX5_repeated 22 = .ok (.iconst 0, 1) := by decide +kernel
theorem dX5_repeated_23 : decode cX5_repeated 23 = .ok (.istore 4, 2) := by decide +kernel
theorem dX5_repeated_25 : decode cX5_repeated 25 = .ok (.aload_n 0, 1) := by decide +kernel
theorem dX5_repeated_26 : decode cX5_repeated 26 = .ok (.getfield 29, 3) := by decide +kernel
theorem dX5_repeated_29 : decode cX5_repeated 29 = .ok (.iload_n 1, 1) := by decide +kernel
theorem dX5_repeated_30 : decode cX5_repeated 30 = .ok (.iload_n 2, 1) := by decide +kernel
theorem dX5_repeated_31 : decode cX5_repeated 31 = .ok (.iload_n 3, 1) := by decide +kernel
theorem dX5_repeated_32 : decode cX5_repeated 32 = .ok (.iload 4, 2) := by decide +kernel
theorem dX5_repeated_34 : decode cX5_repeated 34 = .ok (.invokevirtual 96, 3) := by decide +kernel
theorem dX5_repeated_37 : decode cX5_repeated 37 = .ok (.ireturn, 1) := by decide +kernel
theorem dX6_init_0 : decode cX6_init 0 = .ok (.aload_n 0, 1) := by decide +kernel
theorem dX6_init_1 : decode cX6_init 1 = .ok (.invokespecial 3, 3) := by decide +kernel
theorem dX6_init_4 : decode cX6_init 4 = .ok (.aload_n 0, 1) := by decide +kernel
theorem dX6_init_5 : decode cX6_init 5 = .ok (.bipush 32, 2) := by decide +kernel
theorem dX6_init_7 : decode cX6_init 7 = .ok (.newarray .int, 2) := by decide +kernel
theorem dX6_init_9 : decode cX6_init 9 = .ok (.putfield 9, 3) := by decide +kernel
theorem dX6_init_12 : decode cX6_init 12 = .ok (.aload_n 0, 1) := by decide +kernel
theorem dX6_init_13 : decode cX6_init 13 = .ok (.sipush 256, 3) := by decide +kernel
theorem dX6_init_16 : decode cX6_init 16 = .ok (.newarray .int, 2) := by decide +kernel
theorem dX6_init_18 : decode cX6_init 18 = .ok (.putfield 15, 3) := by decide +kernel
theorem dX6_init_21 : decode cX6_init 21 = .ok (.aload_n 0, 1) := by decide +kernel
theorem dX6_init_22 : decode cX6_init 22 = .ok (.sipush 320, 3) := by decide +kernel
theorem dX6_init_25 : decode cX6_init 25 = .ok (.newarray .int, 2) := by decide +kernel
theorem dX6_init_27 : decode cX6_init 27 = .ok (.putfield 18, 3) := by decide +kernel
theorem dX6_init_30 : decode cX6_init 30 = .ok (.aload_n 0, 1) := by decide +kernel
theorem dX6_init_31 : decode cX6_init 31 = .ok (.aload_n 1, 1) := by decide +kernel
theorem dX6_init_32 : decode cX6_init 32 = .ok (.putfield 21, 3) := by decide +kernel
theorem dX6_init_35 : decode cX6_init 35 = .ok (.return_, 1) := by decide +kernel
theorem dX6_letterAt_0 : decode cX6_letterAt 0 = .ok (.iload_n 1, 1) := by decide +kernel
theorem dX6_letterAt_1 : decode cX6_letterAt 1 = .ok (.ifCond .lt 9, 3) := by decide +kernel
theorem dX6_letterAt_4 : decode cX6_letterAt 4 = .ok (.iload_n 1, 1) := by decide +kernel
theorem dX6_letterAt_5 : decode cX6_letterAt 5 = .ok (.bipush 32, 2) := by decide +kernel
theorem dX6_letterAt_7 : decode cX6_letterAt 7 = .ok (.if_icmp .lt 8, 3) := by decide +kernel
theorem dX6_letterAt_10 : decode cX6_letterAt 10 = .ok (.bipush (-5), 2) := by decide +kernel
theorem dX6_letterAt_12 : decode cX6_letterAt 12 = .ok (.goto 9, 3) := by decide +kernel
theorem dX6_letterAt_15 : decode cX6_letterAt 15 = .ok (.aload_n 0, 1) := by decide +kernel
theorem dX6_letterAt_16 : decode cX6_letterAt 16 = .ok (.getfield 9, 3) := by decide +kernel
theorem dX6_letterAt_19 : decode cX6_letterAt 19 = .ok (.iload_n 1, 1) := by decide +kernel
theorem dX6_letterAt_20 : decode cX6_letterAt 20 = .ok (.iaload, 1) := by decide +kernel
theorem dX6_letterAt_21 : decode cX6_letterAt 21 = .ok (.ireturn, 1) := by decide +kernel
theorem dX6_seek_0 : decode cX6_seek 0 = .ok (.aload_n 0, 1) := by decide +kernel
theorem dX6_seek_1 : decode cX6_seek 1 = .ok (.getfield 21, 3) := by decide +kernel
theorem dX6_seek_4 : decode cX6_seek 4 = .ok (.getfield 25, 3) := by decide +kernel
theorem dX6_seek_7 : decode cX6_seek 7 = .ok (.astore_n 3, 1) := by decide +kernel
theorem dX6_seek_8 : decode cX6_seek 8 = .ok (.iload_n 1, 1) := by decide +kernel
theorem dX6_seek_9 : decode cX6_seek 9 = .ok (.ifCond .lt 17, 3) := by decide +kernel
theorem dX6_seek_12 : decode cX6_seek 12 = .ok (.iload_n 1, 1) := by decide +kernel
theorem dX6_seek_13 : decode cX6_seek 13 = .ok (.aload_n 0, 1) := by decide +kernel
theorem dX6_seek_14 : decode cX6_seek 14 = .ok (.getfield 21, 3) := by decide +kernel
theorem dX6_seek_17 : decode cX6_seek 17 = .ok (.getfield 31, 3) := by decide +kernel
theorem dX6_seek_20 : decode cX6_seek 20 = .ok (.getfield 35, 3) := by decide +kernel
theorem dX6_seek_23 : decode cX6_seek 23 = .ok (.if_icmp .le 5, 3) := by decide +kernel
theorem dX6_seek_26 : decode cX6_seek 26 = .ok (.iconst (-1), 1) := by decide +kernel
theorem dX6_seek_27 : decode cX6_seek 27 = .ok (.ireturn, 1) := by decide +kernel
theorem dX6_seek_28 : decode cX6_seek 28 = .ok (.aload_n 3, 1) := by decide +kernel
theorem dX6_seek_29 : decode cX6_seek 29 = .ok (.ifnonnull 6, 3) := by decide +kernel
theorem dX6_seek_32 : decode cX6_seek 32 = .ok (.bipush (-3), 2) := by decide +kernel
theorem dX6_seek_34 : decode cX6_seek 34 = .ok (.ireturn, 1) := by decide +kernel
theorem dX6_seek_35 : decode cX6_seek 35 = .ok (.aload_n 0, 1) := by decide +kernel
theorem dX6_seek_36 : decode cX6_seek 36 = .ok (.iload_n 1, 1) := by decide +kernel
theorem dX6_seek_37 : decode cX6_seek 37 = .ok (.aload_n 3, 1) := by decide +kernel
theorem dX6_seek_38 : decode cX6_seek 38 = .ok (.getfield 41, 3) := by decide +kernel
theorem dX6_seek_41 : decode cX6_seek 41 = .ok (.iconst 1, 1) := by decide +kernel
theorem dX6_seek_42 : decode cX6_seek 42 = .ok (.isub, 1) := by decide +kernel
theorem dX6_seek_43 : decode cX6_seek 43 = .ok (.invokevirtual 46, 3) := by decide +kernel
theorem dX6_seek_46 : decode cX6_seek 46 = .ok (.iconst 0, 1) := by decide +kernel
theorem dX6_seek_47 : decode cX6_seek 47 = .ok (.istore 4, 2) := by decide +kernel
theorem dX6_seek_49 : decode cX6_seek 49 = .ok (.iconst 0, 1) := by decide +kernel
theorem dX6_seek_50 : decode cX6_seek 50 = .ok (.istore 5, 2) := by decide +kernel
theorem dX6_seek_52 : decode cX6_seek 52 = .ok (.iload 5, 2) := by decide +kernel
theorem dX6_seek_54 : decode cX6_seek 54 = .ok (.ldc 50, 2) := by decide +kernel
theorem dX6_seek_56 : decode cX6_seek 56 = .ok (.if_icmp .ge 106, 3) := by decide +kernel
theorem dX6_seek_59 : decode cX6_seek 59 = .ok (.iload 4, 2) := by decide +kernel
theorem dX6_seek_61 : decode cX6_seek 61 = .ok (.ifCond .ne 13, 3) := by decide +kernel
theorem dX6_seek_64 : decode cX6_seek 64 = .ok (.aload_n 0, 1) := by decide +kernel
theorem dX6_seek_65 : decode cX6_seek 65 = .ok (.aload_n 3, 1) := by decide +kernel
theorem dX6_seek_66 : decode cX6_seek 66 = .ok (.invokevirtual 51, 3) := by decide +kernel
theorem dX6_seek_69 : decode cX6_seek 69 = .ok (.istore 4, 2) := by decide +kernel
theorem dX6_seek_71 : decode cX6_seek 71 = .ok (.goto 85, 3) := by decide +kernel
theorem dX6_seek_74 : decode cX6_seek 74 = .ok (.iload 4, 2) := by decide +kernel
theorem dX6_seek_76 : decode cX6_seek 76 = .ok (.iconst 1, 1) := by decide +kernel
theorem dX6_seek_77 : decode cX6_seek 77 = .ok (.if_icmp .ne 20, 3) := by decide +kernel
theorem dX6_seek_80 : decode cX6_seek 80 = .ok (.aload_n 0, 1) := by decide +kernel
theorem dX6_seek_81 : decode cX6_seek 81 = .ok (.getfield 55, 3) := by decide +kernel
theorem dX6_seek_84 : decode cX6_seek 84 = .ok (.ifCond .lt 13, 3) := by decide +kernel
theorem dX6_seek_87 : decode cX6_seek 87 = .ok (.aload_n 0, 1) := by decide +kernel
theorem dX6_seek_88 : decode cX6_seek 88 = .ok (.aload_n 3, 1) := by decide +kernel
theorem dX6_seek_89 : decode cX6_seek 89 = .ok (.invokevirtual 58, 3) := by decide +kernel
theorem dX6_seek_92 : decode cX6_seek 92 = .ok (.istore 4, 2) := by decide +kernel
theorem dX6_seek_94 : decode cX6_seek 94 = .ok (.goto 62, 3) := by decide +kernel
theorem dX6_seek_97 : decode cX6_seek 97 = .ok (.iload 4, 2) := by decide +kernel
theorem dX6_seek_99 : decode cX6_seek 99 = .ok (.iconst 1, 1) := by decide +kernel
theorem dX6_seek_100 : decode cX6_seek 100 = .ok (.if_icmp .ne 28, 3) := by decide +kernel
theorem dX6_seek_103 : decode cX6_seek 103 = .ok (.aload_n 0, 1) := by decide +kernel
theorem dX6_seek_104 : decode cX6_seek 104 = .ok (.invokevirtual 61, 3) := by decide +kernel
theorem dX6_seek_107 : decode cX6_seek 107 = .ok (.iload_n 2, 1) := by decide +kernel
theorem dX6_seek_108 : decode cX6_seek 108 = .ok (.iconst (-1), 1) := by decide +kernel
theorem dX6_seek_109 : decode cX6_seek 109 = .ok (.if_icmp .eq 11, 3) := by decide +kernel
theorem dX6_seek_112 : decode cX6_seek 112 = .ok (.iload_n 2, 1) := by decide +kernel
theorem dX6_seek_113 : decode cX6_seek 113 = .ok (.aload_n 0, 1) := by decide +kernel
theorem dX6_seek_114 : decode cX6_seek 114 = .ok (.getfield 64, 3) := by decide +kernel
theorem dX6_seek_117 : decode cX6_seek 117 = .ok (.if_icmp .ne 5, 3) := by decide +kernel
theorem dX6_seek_120 : decode cX6_seek 120 = .ok (.iconst 1, 1) := by decide +kernel
theorem dX6_seek_121 : decode cX6_seek 121 = .ok (.ireturn, 1) := by decide +kernel
theorem dX6_seek_122 : decode cX6_seek 122 = .ok (.iconst 2, 1) := by decide +kernel
theorem dX6_seek_123 : decode cX6_seek 123 = .ok (.istore 4, 2) := by decide +kernel
theorem dX6_seek_125 : decode cX6_seek 125 = .ok (.goto 31, 3) := by decide +kernel
theorem dX6_seek_128 : decode cX6_seek 128 = .ok (.iload 4, 2) := by decide +kernel
theorem dX6_seek_130 : decode cX6_seek 130 = .ok (.iconst 3, 1) := by decide +kernel
theorem dX6_seek_131 : decode cX6_seek 131 = .ok (.if_icmp .ne 6, 3) := by decide +kernel
theorem dX6_seek_134 : decode cX6_seek 134 = .ok (.bipush (-7), 2) := by decide +kernel
theorem dX6_seek_136 : decode cX6_seek 136 = .ok (.ireturn, 1) := by decide +kernel
theorem dX6_seek_137 : decode cX6_seek 137 = .ok (.aload_n 0, 1) := by decide +kernel
theorem dX6_seek_138 : decode cX6_seek 138 = .ok (.getfield 67, 3) := by decide +kernel
theorem dX6_seek_141 : decode cX6_seek 141 = .ok (.ifCond .le 13, 3) := by decide +kernel
theorem dX6_seek_144 : decode cX6_seek 144 = .ok (.aload_n 0, 1) := by decide +kernel
theorem dX6_seek_145 : decode cX6_seek 145 = .ok (.aload_n 3, 1) := by decide +kernel
theorem dX6_seek_146 : decode cX6_seek 146 = .ok (.invokevirtual 70, 3) := by decide +kernel
theorem dX6_seek_149 : decode cX6_seek 149 = .ok (.istore 4, 2) := by decide +kernel
theorem dX6_seek_151 : decode cX6_seek 151 = .ok (.goto 5, 3) := by decide +kernel
theorem dX6_seek_154 : decode cX6_seek 154 = .ok (.iconst 0, 1) := by decide +kernel
theorem dX6_seek_155 : decode cX6_seek 155 = .ok (.ireturn, 1) := by decide +kernel
theorem dX6_seek_156 : decode cX6_seek 156 = .ok (.iinc 5 1, 3) := by decide +kernel
theorem dX6_seek_159 : decode cX6_seek 159 = .ok (.goto (-107), 3) := by decide +kernel
theorem dX6_seek_162 : decode cX6_seek 162 = .ok (.bipush (-7), 2) := by decide +kernel
theorem dX6_seek_164 : decode cX6_seek 164 = .ok (.ireturn, 1) := by decide +kernel
theorem dX6_begin_0 : decode cX6_begin 0 = .ok (.aload_n 0, 1) := by decide +kernel
theorem dX6_begin_1 : decode cX6_begin 1 = .ok (.iload_n 1, 1) := by decide +kernel
theorem dX6_begin_2 : decode cX6_begin 2 = .ok (.putfield 73, 3) := by decide +kernel
theorem dX6_begin_5 : decode cX6_begin 5 = .ok (.aload_n 0, 1) := by decide +kernel
theorem dX6_begin_6 : decode cX6_begin 6 = .ok (.iload_n 1, 1) := by decide +kernel
theorem dX6_begin_7 : decode cX6_begin 7 = .ok (.putfield 64, 3) := by decide +kernel
theorem dX6_begin_10 : decode cX6_begin 10 = .ok (.aload_n 0, 1) := by decide +kernel
theorem dX6_begin_11 : decode cX6_begin 11 = .ok (.iload_n 2, 1) := by decide +kernel
theorem dX6_begin_12 : decode cX6_begin 12 = .ok (.putfield 76, 3) := by decide +kernel
theorem dX6_begin_15 : decode cX6_begin 15 = .ok (.aload_n 0, 1) := by decide +kernel
theorem dX6_begin_16 : decode cX6_begin 16 = .ok (.iconst (-1), 1) := by decide +kernel
theorem dX6_begin_17 : decode cX6_begin 17 = .ok (.putfield 55, 3) := by decide +kernel
theorem dX6_begin_20 : decode cX6_begin 20 = .ok (.aload_n 0, 1) := by decide +kernel
theorem dX6_begin_21 : decode cX6_begin 21 = .ok (.iconst 0, 1) := by decide +kernel
theorem dX6_begin_22 : decode cX6_begin 22 = .ok (.putfield 79, 3) := by decide +kernel
theorem dX6_begin_25 : decode cX6_begin 25 = .ok (.aload_n 0, 1) := by decide +kernel
theorem dX6_begin_26 : decode cX6_begin 26 = .ok (.iconst 0, 1) := by decide +kernel
theorem dX6_begin_27 : decode cX6_begin 27 = .ok (.putfield 67, 3) := by decide +kernel
theorem dX6_begin_30 : decode cX6_begin 30 = .ok (.aload_n 0, 1) := by decide +kernel
theorem dX6_begin_31 : decode cX6_begin 31 = .ok (.iconst 0, 1) := by decide +kernel
theorem dX6_begin_32 : decode cX6_begin 32 = .ok (.putfield 82, 3) := by decide +kernel
theorem dX6_begin_35 : decode cX6_begin 35 = .ok (.aload_n 0, 1) := by decide +kernel
theorem dX6_begin_36 : decode cX6_begin 36 = .ok (.iconst 0, 1) := by decide +kernel
theorem dX6_begin_37 : decode cX6_begin 37 = .ok (.putfield 85, 3) := by decide +kernel
theorem dX6_begin_40 : decode cX6_begin 40 = .ok (.aload_n 0, 1) := by decide +kernel
theorem dX6_begin_41 : decode cX6_begin 41 = .ok (.iconst 0, 1) := by decide +kernel
theorem dX6_begin_42 : decode cX6_begin 42 = .ok (.putfield 88, 3) := by decide +kernel
theorem dX6_begin_45 : decode cX6_begin 45 = .ok (.aload_n 0, 1) := by decide +kernel
theorem dX6_begin_46 : decode cX6_begin 46 = .ok (.iconst 0, 1) := by decide +kernel
theorem dX6_begin_47 : decode cX6_begin 47 = .ok (.putfield 91, 3) := by decide +kernel
theorem dX6_begin_50 : decode cX6_begin 50 = .ok (.return_, 1) := by decide +kernel
theorem dX6_noteWay_0 : decode cX6_noteWay 0 = .ok (.aload_n 0, 1) := by decide +kernel
theorem dX6_noteWay_1 : decode cX6_noteWay 1 = .ok (.getfield 64, 3) := by decide +kernel
theorem dX6_noteWay_4 : decode cX6_noteWay 4 = .ok (.aload_n 0, 1) := by decide +kernel
theorem dX6_noteWay_5 : decode cX6_noteWay 5 = .ok (.getfield 73, 3) := by decide +kernel
theorem dX6_noteWay_8 : decode cX6_noteWay 8 = .ok (.isub, 1) := by decide +kernel
theorem dX6_noteWay_9 : decode cX6_noteWay 9 = .ok (.istore_n 1, 1) := by decide +kernel
theorem dX6_noteWay_10 : decode cX6_noteWay 10 = .ok (.aload_n 0, 1) := by decide +kernel
theorem dX6_noteWay_11 : decode cX6_noteWay 11 = .ok (.aload_n 0, 1) := by decide +kernel
theorem dX6_noteWay_12 : decode cX6_noteWay 12 = .ok (.getfield 85, 3) := by decide +kernel
theorem dX6_noteWay_15 : decode cX6_noteWay 15 = .ok (.ifCond .ne 7, 3) := by decide +kernel
theorem dX6_noteWay_18 : decode cX6_noteWay 18 = .ok (.iload_n 1, 1) := by decide +kernel
theorem dX6_noteWay_19 : decode cX6_noteWay 19 = .ok (.goto 11, 3) := by decide +kernel
theorem dX6_noteWay_22 : decode cX6_noteWay 22 = .ok (.aload_n 0, 1) := by decide +kernel
theorem dX6_noteWay_23 : decode cX6_noteWay 23 = .ok (.getfield 88, 3) := by decide +kernel
theorem dX6_noteWay_26 : decode cX6_noteWay 26 = .ok (.iload_n 1, 1) := by decide +kernel
theorem dX6_noteWay_27 : decode cX6_noteWay 27 = .ok (.invokestatic 94, 3) := by decide +kernel
theorem dX6_noteWay_30 : decode cX6_noteWay 30 = .ok (.putfield 88, 3) := by decide +kernel
theorem dX6_noteWay_33 : decode cX6_noteWay 33 = .ok (.aload_n 0, 1) := by decide +kernel
theorem dX6_noteWay_34 : decode cX6_noteWay 34 = .ok (.aload_n 0, 1) := by decide +kernel
theorem dX6_noteWay_35 : decode cX6_noteWay 35 = .ok (.getfield 91, 3) := by decide +kernel
theorem dX6_noteWay_38 : decode cX6_noteWay 38 = .ok (.iload_n 1, 1) := by decide +kernel
theorem dX6_noteWay_39 : decode cX6_noteWay 39 = .ok (.invokestatic 100, 3) := by decide +kernel
theorem dX6_noteWay_42 : decode cX6_noteWay 42 = .ok (.putfield 91, 3) := by decide +kernel
theorem dX6_noteWay_45 : decode cX6_noteWay 45 = .ok (.aload_n 0, 1) := by decide +kernel
theorem dX6_noteWay_46 : decode cX6_noteWay 46 = .ok (.dup, 1) := by decide +kernel
theorem dX6_noteWay_47 : decode cX6_noteWay 47 = .ok (.getfield 85, 3) := by decide +kernel
theorem dX6_noteWay_50 : decode cX6_noteWay 50 = .ok (.iconst 1, 1) := by decide +kernel
theorem dX6_noteWay_51 : decode cX6_noteWay 51 = .ok (.iadd, 1) := by decide +kernel
theorem dX6_noteWay_52 : decode cX6_noteWay 52 = .ok (.putfield 85, 3) := by decide +kernel
theorem dX6_noteWay_55 : decode cX6_noteWay 55 = .ok (.return_, 1) := by decide +kernel
theorem dX6_mayTry_0 : decode cX6_mayTry 0 = .ok (.aload_n 0, 1) := by decide +kernel
theorem dX6_mayTry_1 : decode cX6_mayTry 1 = .ok (.dup, 1) := by decide +kernel
theorem dX6_mayTry_2 : decode cX6_mayTry 2 = .ok (.getfield 82, 3) := by decide +kernel
theorem dX6_mayTry_5 : decode cX6_mayTry 5 = .ok (.iconst 1, 1) := by decide +kernel
theorem dX6_mayTry_6 : decode cX6_mayTry 6 = .ok (.iadd, 1) := by decide +kernel
theorem dX6_mayTry_7 : decode cX6_mayTry 7 = .ok (.putfield 82, 3) := by decide +kernel
theorem dX6_mayTry_10 : decode cX6_mayTry 10 = .ok (.aload_n 0, 1) := by decide +kernel
theorem dX6_mayTry_11 : decode cX6_mayTry 11 = .ok (.getfield 82, 3) := by decide +kernel
theorem dX6_mayTry_14 : decode cX6_mayTry 14 = .ok (.aload_n 0, 1) := by decide +kernel
theorem dX6_mayTry_15 : decode cX6_mayTry 15 = .ok (.getfield 21, 3) := by decide +kernel
theorem dX6_mayTry_18 : decode cX6_mayTry 18 = .ok (.getfield 103, 3) := by decide +kernel
theorem dX6_mayTry_21 : decode cX6_mayTry 21 = .ok (.if_icmp .gt 7, 3) := by decide +kernel
theorem dX6_mayTry_24 : decode cX6_mayTry 24 = .ok (.iconst 1, 1) := by decide +kernel
theorem dX6_mayTry_25 : decode cX6_mayTry 25 = .ok (.goto 4, 3) := by decide +kernel
theorem dX6_mayTry_28 : decode cX6_mayTry 28 = .ok (.iconst 0, 1) := by decide +kernel
theorem dX6_mayTry_29 : decode cX6_mayTry 29 = .ok (.ireturn, 1) := by decide +kernel
theorem dX6_come_0 : decode cX6_come 0 = .ok (.aload_n 1, 1) := by decide +kernel
theorem dX6_come_1 : decode cX6_come 1 = .ok (.aload_n 0, 1) := by decide +kernel
theorem dX6_come_2 : decode cX6_come 2 = .ok (.getfield 76, 3) := by decide +kernel
theorem dX6_come_5 : decode cX6_come 5 = .ok (.iconst 0, 1) := by decide +kernel
theorem dX6_come_6 : decode cX6_come 6 = .ok (.invokevirtual 106, 3) := by decide +kernel
theorem dX6_come_9 : decode cX6_come 9 = .ok (.istore_n 2, 1) := by decide +kernel
theorem dX6_come_10 : decode cX6_come 10 = .ok (.iload_n 2, 1) := by decide +kernel
theorem dX6_come_11 : decode cX6_come 11 = .ok (.iconst 3, 1) := by decide +kernel
theorem dX6_come_12 : decode cX6_come 12 = .ok (.if_icmp .ne 19, 3) := by decide +kernel
theorem dX6_come_15 : decode cX6_come 15 = .ok (.aload_n 0, 1) := by decide +kernel
theorem dX6_come_16 : decode cX6_come 16 = .ok (.aload_n 1, 1) := by decide +kernel
theorem dX6_come_17 : decode cX6_come 17 = .ok (.aload_n 1, 1) := by decide +kernel
theorem dX6_come_18 : decode cX6_come 18 = .ok (.aload_n 0, 1) := by decide +kernel
theorem dX6_come_19 : decode cX6_come 19 = .ok (.getfield 76, 3) := by decide +kernel
theorem dX6_come_22 : decode cX6_come 22 = .ok (.bipush 7, 2) := by decide +kernel
theorem dX6_come_24 : decode cX6_come 24 = .ok (.invokevirtual 106, 3) := by decide +kernel
theorem dX6_come_27 : decode cX6_come 27 = .ok (.invokevirtual 109, 3) := by decide +kernel
theorem dX6_come_30 : decode cX6_come 30 = .ok (.ireturn, 1) := by decide +kernel
theorem dX6_come_31 : decode cX6_come 31 = .ok (.aload_n 0, 1) := by decide +kernel
theorem dX6_come_32 : decode cX6_come 32 = .ok (.invokevirtual 113, 3) := by decide +kernel
theorem dX6_come_35 : decode cX6_come 35 = .ok (.ifCond .ne 5, 3) := by decide +kernel
theorem dX6_come_38 : decode cX6_come 38 = .ok (.iconst 3, 1) := by decide +kernel
theorem dX6_come_39 : decode cX6_come 39 = .ok (.ireturn, 1) := by decide +kernel
theorem dX6_come_40 : decode cX6_come 40 = .ok (.iload_n 2, 1) := by decide +kernel
theorem dX6_come_41 : decode cX6_come 41 = .ok (.tableswitch 113 0 5 #[39, 53, 66, 113, 89, 105], 39) := by decide +kernel
theorem dX6_come_80 : decode cX6_come 80 = .ok (.aload_n 0, 1) := by decide +kernel
theorem dX6_come_81 : decode cX6_come 81 = .ok (.aload_n 1, 1) := by decide +kernel
theorem dX6_come_82 : decode cX6_come 82 = .ok (.aload_n 0, 1) := by decide +kernel
theorem dX6_come_83 : decode cX6_come 83 = .ok (.getfield 76, 3) := by decide +kernel
theorem dX6_come_86 : decode cX6_come 86 = .ok (.iconst 1, 1) := by decide +kernel
theorem dX6_come_87 : decode cX6_come 87 = .ok (.invokevirtual 106, 3) := by decide +kernel
theorem dX6_come_90 : decode cX6_come 90 = .ok (.invokevirtual 117, 3) := by decide +kernel
theorem dX6_come_93 : decode cX6_come 93 = .ok (.ireturn, 1) := by decide +kernel
theorem dX6_come_94 : decode cX6_come 94 = .ok (.aload_n 0, 1) := by decide +kernel
theorem dX6_come_95 : decode cX6_come 95 = .ok (.getfield 64, 3) := by decide +kernel
theorem dX6_come_98 : decode cX6_come 98 = .ok (.ifCond .ne 7, 3) := by decide +kernel
theorem dX6_come_101 : decode cX6_come 101 = .ok (.iconst 1, 1) := by decide +kernel
theorem dX6_come_102 : decode cX6_come 102 = .ok (.goto 4, 3) := by decide +kernel
theorem dX6_come_105 : decode cX6_come 105 = .ok (.iconst 2, 1) := by decide +kernel
theorem dX6_come_106 : decode cX6_come 106 = .ok (.ireturn, 1) := by decide +kernel
theorem dX6_come_107 : decode cX6_come 107 = .ok (.aload_n 0, 1) := by decide +kernel
theorem dX6_come_108 : decode cX6_come 108 = .ok (.getfield 64, 3) := by decide +kernel
theorem dX6_come_111 : decode cX6_come 111 = .ok (.aload_n 0, 1) := by decide +kernel
theorem dX6_come_112 : decode cX6_come 112 = .ok (.getfield 21, 3) := by decide +kernel
theorem dX6_come_115 : decode cX6_come 115 = .ok (.getfield 31, 3) := by decide +kernel
theorem dX6_come_118 : decode cX6_come 118 = .ok (.getfield 35, 3) := by decide +kernel
theorem dX6_come_121 : decode cX6_come 121 = .ok (.if_icmp .ne 7, 3) := by decide +kernel
theorem dX6_come_124 : decode cX6_come 124 = .ok (.iconst 1, 1) := by decide +kernel
theorem dX6_come_125 : decode cX6_come 125 = .ok (.goto 4, 3) := by decide +kernel
theorem dX6_come_128 : decode cX6_come 128 = .ok (.iconst 2, 1) := by decide +kernel
theorem dX6_come_129 : decode cX6_come 129 = .ok (.ireturn, 1) := by decide +kernel
theorem dX6_come_130 : decode cX6_come 130 = .ok (.aload_n 0, 1) := by decide +kernel
theorem dX6_come_131 : decode cX6_come 131 = .ok (.aload_n 1, 1) := by decide +kernel
theorem dX6_come_132 : decode cX6_come 132 = .ok (.aload_n 1, 1) := by decide +kernel
theorem dX6_come_133 : decode cX6_come 133 = .ok (.aload_n 0, 1) := by decide +kernel
theorem dX6_come_134 : decode cX6_come 134 = .ok (.getfield 76, 3) := by decide +kernel
theorem dX6_come_137 : decode cX6_come 137 = .ok (.bipush 7, 2) := by decide +kernel
theorem dX6_come_139 : decode cX6_come 139 = .ok (.invokevirtual 106, 3) := by decide +kernel
theorem dX6_come_142 : decode cX6_come 142 = .ok (.invokevirtual 121, 3) := by decide +kernel
theorem dX6_come_145 : decode cX6_come 145 = .ok (.ireturn, 1) := by decide +kernel
theorem dX6_come_146 : decode cX6_come 146 = .ok (.aload_n 0, 1) := by decide +kernel
theorem dX6_come_147 : decode cX6_come 147 = .ok (.aload_n 1, 1) := by decide +kernel
theorem dX6_come_148 : decode cX6_come 148 = .ok (.iconst 0, 1) := by decide +kernel
theorem dX6_come_149 : decode cX6_come 149 = .ok (.iconst (-1), 1) := by decide +kernel
theorem dX6_come_150 : decode cX6_come 150 = .ok (.invokevirtual 124, 3) := by decide +kernel
theorem dX6_come_153 : decode cX6_come 153 = .ok (.ireturn, 1) := by decide +kernel
theorem dX6_come_154 : decode cX6_come 154 = .ok (.aload_n 0, 1) := by decide +kernel
theorem dX6_come_155 : decode cX6_come 155 = .ok (.aload_n 1, 1) := by decide +kernel
theorem dX6_come_156 : decode cX6_come 156 = .ok (.iconst 0, 1) := by decide +kernel
theorem dX6_come_157 : decode cX6_come 157 = .ok (.iconst 0, 1) := by decide +kernel
theorem dX6_come_158 : decode cX6_come 158 = .ok (.invokevirtual 128, 3) := by decide +kernel
theorem dX6_come_161 : decode cX6_come 161 = .ok (.ireturn, 1) := by decide +kernel
theorem dX6_goOn_0 : decode cX6_goOn 0 = .ok (.aload_n 0, 1) := by decide +kernel
theorem dX6_goOn_1 : decode cX6_goOn 1 = .ok (.getfield 55, 3) := by decide +kernel
theorem dX6_goOn_4 : decode cX6_goOn 4 = .ok (.istore_n 2, 1) := by decide +kernel
theorem dX6_goOn_5 : decode cX6_goOn 5 = .ok (.aload_n 0, 1) := by decide +kernel
theorem dX6_goOn_6 : decode cX6_goOn 6 = .ok (.iload_n 2, 1) := by decide +kernel
theorem dX6_goOn_7 : decode cX6_goOn 7 = .ok (.iconst 2, 1) := by decide +kernel
theorem dX6_goOn_8 : decode cX6_goOn 8 = .ok (.invokevirtual 131, 3) := by decide +kernel
theorem dX6_goOn_11 : decode cX6_goOn 11 = .ok (.istore_n 3, 1) := by decide +kernel
theorem dX6_goOn_12 : decode cX6_goOn 12 = .ok (.aload_n 0, 1) := by decide +kernel
theorem dX6_goOn_13 : decode cX6_goOn 13 = .ok (.aload_n 0, 1) := by decide +kernel
theorem dX6_goOn_14 : decode cX6_goOn 14 = .ok (.iload_n 2, 1) := by decide +kernel
theorem dX6_goOn_15 : decode cX6_goOn 15 = .ok (.iconst 0, 1) := by decide +kernel
theorem dX6_goOn_16 : decode cX6_goOn 16 = .ok (.invokevirtual 131, 3) := by decide +kernel
theorem dX6_goOn_19 : decode cX6_goOn 19 = .ok (.putfield 76, 3) := by decide +kernel
theorem dX6_goOn_22 : decode cX6_goOn 22 = .ok (.aload_n 0, 1) := by decide +kernel
theorem dX6_goOn_23 : decode cX6_goOn 23 = .ok (.aload_n 0, 1) := by decide +kernel
theorem dX6_goOn_24 : decode cX6_goOn 24 = .ok (.iload_n 2, 1) := by decide +kernel
