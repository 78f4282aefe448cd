/-! decode rows, 5 -/
theorem dX11_makes_0 : decode cX11_makes 0 = .ok (.aload_n 0, 1) := by decide +kernel
theorem dX11_makes_1 : decode cX11_makes 1 = .ok (.getfield 139, 3) := by decide +kernel
theorem dX11_makes_4 : decode cX11_makes 4 = .ok (.istore_n 2, 1) := by decide +kernel
theorem dX11_makes_5 : decode cX11_makes 5 = .ok (.aload_n 0, 1) := by decide +kernel
theorem dX11_makes_6 : decode cX11_makes 6 = .ok (.getfield 24, 3) := by decide +kernel
theorem dX11_makes_9 : decode cX11_makes 9 = .ok (.iload_n 2, 1) := by decide +kernel
theorem dX11_makes_10 : decode cX11_makes 10 = .ok (.iload_n 1, 1) := by decide +kernel
theorem dX11_makes_11 : decode cX11_makes 11 = .ok (.iastore, 1) := by decide +kernel
theorem dX11_makes_12 : decode cX11_makes 12 = .ok (.aload_n 0, 1) := by decide +kernel
theorem dX11_makes_13 : decode cX11_makes 13 = .ok (.getfield 27, 3) := by decide +kernel
theorem dX11_makes_16 : decode cX11_makes 16 = .ok (.iload_n 2, 1) := by decide +kernel
theorem dX11_makes_17 : decode cX11_makes 17 = .ok (.bipush (-5), 2) := by decide +kernel
theorem dX11_makes_19 : decode cX11_makes 19 = .ok (.iastore, 1) := by decide +kernel
theorem dX11_makes_20 : decode cX11_makes 20 = .ok (.aload_n 0, 1) := by decide +kernel
theorem dX11_makes_21 : decode cX11_makes 21 = .ok (.getfield 30, 3) := by decide +kernel
theorem dX11_makes_24 : decode cX11_makes 24 = .ok (.iload_n 2, 1) := by decide +kernel
theorem dX11_makes_25 : decode cX11_makes 25 = .ok (.bipush (-5), 2) := by decide +kernel
theorem dX11_makes_27 : decode cX11_makes 27 = .ok (.iastore, 1) := by decide +kernel
theorem dX11_makes_28 : decode cX11_makes 28 = .ok (.aload_n 0, 1) := by decide +kernel
theorem dX11_makes_29 : decode cX11_makes 29 = .ok (.getfield 33, 3) := by decide +kernel
theorem dX11_makes_32 : decode cX11_makes 32 = .ok (.iload_n 2, 1) := by decide +kernel
theorem dX11_makes_33 : decode cX11_makes 33 = .ok (.bipush (-5), 2) := by decide +kernel
theorem dX11_makes_35 : decode cX11_makes 35 = .ok (.iastore, 1) := by decide +kernel
theorem dX11_makes_36 : decode cX11_makes 36 = .ok (.aload_n 0, 1) := by decide +kernel
theorem dX11_makes_37 : decode cX11_makes 37 = .ok (.getfield 36, 3) := by decide +kernel
theorem dX11_makes_40 : decode cX11_makes 40 = .ok (.iload_n 2, 1) := by decide +kernel
theorem dX11_makes_41 : decode cX11_makes 41 = .ok (.bipush (-5), 2) := by decide +kernel
theorem dX11_makes_43 : decode cX11_makes 43 = .ok (.iastore, 1) := by decide +kernel
theorem dX11_makes_44 : decode cX11_makes 44 = .ok (.aload_n 0, 1) := by decide +kernel
theorem dX11_makes_45 : decode cX11_makes 45 = .ok (.getfield 39, 3) := by decide +kernel
theorem dX11_makes_48 : decode cX11_makes 48 = .ok (.iload_n 2, 1) := by decide +kernel
theorem dX11_makes_49 : decode cX11_makes 49 = .ok (.iconst 0, 1) := by decide +kernel
theorem dX11_makes_50 : decode cX11_makes 50 = .ok (.iastore, 1) := by decide +kernel
theorem dX11_makes_51 : decode cX11_makes 51 = .ok (.aload_n 0, 1) := by decide +kernel
theorem dX11_makes_52 : decode cX11_makes 52 = .ok (.getfield 42, 3) := by decide +kernel
theorem dX11_makes_55 : decode cX11_makes 55 = .ok (.iload_n 2, 1) := by decide +kernel
theorem dX11_makes_56 : decode cX11_makes 56 = .ok (.bipush (-5), 2) := by decide +kernel
theorem dX11_makes_58 : decode cX11_makes 58 = .ok (.iastore, 1) := by decide +kernel
theorem dX11_makes_59 : decode cX11_makes 59 = .ok (.aload_n 0, 1) := by decide +kernel
theorem dX11_makes_60 : decode cX11_makes 60 = .ok (.getfield 45, 3) := by decide +kernel
theorem dX11_makes_63 : decode cX11_makes 63 = .ok (.iload_n 2, 1) := by decide +kernel
theorem dX11_makes_64 : decode cX11_makes 64 = .ok (.bipush (-5), 2) := by decide +kernel
theorem dX11_makes_66 : decode cX11_makes 66 = .ok (.iastore, 1) := by decide +kernel
theorem dX11_makes_67 : decode cX11_makes 67 = .ok (.aload_n 0, 1) := by decide +kernel
theorem dX11_makes_68 : decode cX11_makes 68 = .ok (.getfield 48, 3) := by decide +kernel
theorem dX11_makes_71 : decode cX11_makes 71 = .ok (.iload_n 2, 1) := by decide +kernel
theorem dX11_makes_72 : decode cX11_makes 72 = .ok (.bipush (-5), 2) := by decide +kernel
theorem dX11_makes_74 : decode cX11_makes 74 = .ok (.iastore, 1) := by decide +kernel
theorem dX11_makes_75 : decode cX11_makes 75 = .ok (.aload_n 0, 1) := by decide +kernel
theorem dX11_makes_76 : decode cX11_makes 76 = .ok (.dup, 1) := by decide +kernel
theorem dX11_makes_77 : decode cX11_makes 77 = .ok (.getfield 139, 3) := by decide +kernel
theorem dX11_makes_80 : decode cX11_makes 80 = .ok (.iconst 1, 1) := by decide +kernel
theorem dX11_makes_81 : decode cX11_makes 81 = .ok (.iadd, 1) := by decide +kernel
theorem dX11_makes_82 : decode cX11_makes 82 = .ok (.putfield 139, 3) := by decide +kernel
theorem dX11_makes_85 : decode cX11_makes 85 = .ok (.iload_n 2, 1) := by decide +kernel
theorem dX11_makes_86 : decode cX11_makes 86 = .ok (.ireturn, 1) := by decide +kernel
theorem dX11_round_0 : decode cX11_round 0 = .ok (.aload_n 0, 1) := by decide +kernel
theorem dX11_round_1 : decode cX11_round 1 = .ok (.iload_n 1, 1) := by decide +kernel
theorem dX11_round_2 : decode cX11_round 2 = .ok (.invokevirtual 142, 3) := by decide +kernel
theorem dX11_round_5 : decode cX11_round 5 = .ok (.istore 4, 2) := by decide +kernel
theorem dX11_round_7 : decode cX11_round 7 = .ok (.aload_n 0, 1) := by decide +kernel
theorem dX11_round_8 : decode cX11_round 8 = .ok (.getfield 39, 3) := by decide +kernel
theorem dX11_round_11 : decode cX11_round 11 = .ok (.iload 4, 2) := by decide +kernel
theorem dX11_round_13 : decode cX11_round 13 = .ok (.iload_n 3, 1) := by decide +kernel
theorem dX11_round_14 : decode cX11_round 14 = .ok (.iastore, 1) := by decide +kernel
theorem dX11_round_15 : decode cX11_round 15 = .ok (.aload_n 0, 1) := by decide +kernel
theorem dX11_round_16 : decode cX11_round 16 = .ok (.getfield 42, 3) := by decide +kernel
theorem dX11_round_19 : decode cX11_round 19 = .ok (.iload 4, 2) := by decide +kernel
theorem dX11_round_21 : decode cX11_round 21 = .ok (.iload_n 2, 1) := by decide +kernel
theorem dX11_round_22 : decode cX11_round 22 = .ok (.iastore, 1) := by decide +kernel
theorem dX11_round_23 : decode cX11_round 23 = .ok (.iload_n 2, 1) := by decide +kernel
theorem dX11_round_24 : decode cX11_round 24 = .ok (.istore 5, 2) := by decide +kernel
theorem dX11_round_26 : decode cX11_round 26 = .ok (.iload 5, 2) := by decide +kernel
theorem dX11_round_28 : decode cX11_round 28 = .ok (.ifCond .lt 24, 3) := by decide +kernel
theorem dX11_round_31 : decode cX11_round 31 = .ok (.aload_n 0, 1) := by decide +kernel
theorem dX11_round_32 : decode cX11_round 32 = .ok (.getfield 48, 3) := by decide +kernel
theorem dX11_round_35 : decode cX11_round 35 = .ok (.iload 5, 2) := by decide +kernel
theorem dX11_round_37 : decode cX11_round 37 = .ok (.iload 4, 2) := by decide +kernel
theorem dX11_round_39 : decode cX11_round 39 = .ok (.iastore, 1) := by decide +kernel
theorem dX11_round_40 : decode cX11_round 40 = .ok (.aload_n 0, 1) := by decide +kernel
theorem dX11_round_41 : decode cX11_round 41 = .ok (.getfield 45, 3) := by decide +kernel
theorem dX11_round_44 : decode cX11_round 44 = .ok (.iload 5, 2) := by decide +kernel
theorem dX11_round_46 : decode cX11_round 46 = .ok (.iaload, 1) := by decide +kernel
theorem dX11_round_47 : decode cX11_round 47 = .ok (.istore 5, 2) := by decide +kernel
theorem dX11_round_49 : decode cX11_round 49 = .ok (.goto (-23), 3) := by decide +kernel
theorem dX11_round_52 : decode cX11_round 52 = .ok (.iload 4, 2) := by decide +kernel
theorem dX11_round_54 : decode cX11_round 54 = .ok (.ireturn, 1) := by decide +kernel
theorem dX11_anyParts_0 : decode cX11_anyParts 0 = .ok (.aload_n 0, 1) := by decide +kernel
theorem dX11_anyParts_1 : decode cX11_anyParts 1 = .ok (.dup, 1) := by decide +kernel
theorem dX11_anyParts_2 : decode cX11_anyParts 2 = .ok (.getfield 125, 3) := by decide +kernel
theorem dX11_anyParts_5 : decode cX11_anyParts 5 = .ok (.iconst 1, 1) := by decide +kernel
theorem dX11_anyParts_6 : decode cX11_anyParts 6 = .ok (.iadd, 1) := by decide +kernel
theorem dX11_anyParts_7 : decode cX11_anyParts 7 = .ok (.putfield 125, 3) := by decide +kernel
theorem dX11_anyParts_10 : decode cX11_anyParts 10 = .ok (.aload_n 0, 1) := by decide +kernel
theorem dX11_anyParts_11 : decode cX11_anyParts 11 = .ok (.bipush 40, 2) := by decide +kernel
theorem dX11_anyParts_13 : decode cX11_anyParts 13 = .ok (.invokevirtual 146, 3) := by decide +kernel
theorem dX11_anyParts_16 : decode cX11_anyParts 16 = .ok (.aload_n 0, 1) := by decide +kernel
theorem dX11_anyParts_17 : decode cX11_anyParts 17 = .ok (.iload_n 1, 1) := by decide +kernel
theorem dX11_anyParts_18 : decode cX11_anyParts 18 = .ok (.iconst 1, 1) := by decide +kernel
theorem dX11_anyParts_19 : decode cX11_anyParts 19 = .ok (.iadd, 1) := by decide +kernel
theorem dX11_anyParts_20 : decode cX11_anyParts 20 = .ok (.invokevirtual 150, 3) := by decide +kernel
theorem dX11_anyParts_23 : decode cX11_anyParts 23 = .ok (.istore_n 2, 1) := by decide +kernel
theorem dX11_anyParts_24 : decode cX11_anyParts 24 = .ok (.iload_n 2, 1) := by decide +kernel
theorem dX11_anyParts_25 : decode cX11_anyParts 25 = .ok (.istore_n 3, 1) := by decide +kernel
theorem dX11_anyParts_26 : decode cX11_anyParts 26 = .ok (.iconst 1, 1) := by decide +kernel
theorem dX11_anyParts_27 : decode cX11_anyParts 27 = .ok (.istore 4, 2) := by decide +kernel
theorem dX11_anyParts_29 : decode cX11_anyParts 29 = .ok (.iload 4, 2) := by decide +kernel
theorem dX11_anyParts_31 : decode cX11_anyParts 31 = .ok (.iconst 4, 1) := by decide +kernel
theorem dX11_anyParts_32 : decode cX11_anyParts 32 = .ok (.if_icmp .ge 55, 3) := by decide +kernel
theorem dX11_anyParts_35 : decode cX11_anyParts 35 = .ok (.aload_n 0, 1) := by decide +kernel
theorem dX11_anyParts_36 : decode cX11_anyParts 36 = .ok (.bipush 44, 2) := by decide +kernel
theorem dX11_anyParts_38 : decode cX11_anyParts 38 = .ok (.invokevirtual 132, 3) := by decide +kernel
theorem dX11_anyParts_41 : decode cX11_anyParts 41 = .ok (.ifCond .eq 46, 3) := by decide +kernel
theorem dX11_anyParts_44 : decode cX11_anyParts 44 = .ok (.aload_n 0, 1) := by decide +kernel
theorem dX11_anyParts_45 : decode cX11_anyParts 45 = .ok (.dup, 1) := by decide +kernel
theorem dX11_anyParts_46 : decode cX11_anyParts 46 = .ok (.getfield 125, 3) := by decide +kernel
theorem dX11_anyParts_49 : decode cX11_anyParts 49 = .ok (.iconst 1, 1) := by decide +kernel
theorem dX11_anyParts_50 : decode cX11_anyParts 50 = .ok (.iadd, 1) := by decide +kernel
theorem dX11_anyParts_51 : decode cX11_anyParts 51 = .ok (.putfield 125, 3) := by decide +kernel
theorem dX11_anyParts_54 : decode cX11_anyParts 54 = .ok (.aload_n 0, 1) := by decide +kernel
theorem dX11_anyParts_55 : decode cX11_anyParts 55 = .ok (.iload_n 1, 1) := by decide +kernel
theorem dX11_anyParts_56 : decode cX11_anyParts 56 = .ok (.iconst 1, 1) := by decide +kernel
theorem dX11_anyParts_57 : decode cX11_anyParts 57 = .ok (.iadd, 1) := by decide +kernel
theorem dX11_anyParts_58 : decode cX11_anyParts 58 = .ok (.invokevirtual 150, 3) := by decide +kernel
theorem dX11_anyParts_61 : decode cX11_anyParts 61 = .ok (.istore 5, 2) := by decide +kernel
theorem dX11_anyParts_63 : decode cX11_anyParts 63 = .ok (.aload_n 0, 1) := by decide +kernel
theorem dX11_anyParts_64 : decode cX11_anyParts 64 = .ok (.getfield 128, 3) := by decide +kernel
theorem dX11_anyParts_67 : decode cX11_anyParts 67 = .ok (.ifCond .eq 17, 3) := by decide +kernel
theorem dX11_anyParts_70 : decode cX11_anyParts 70 = .ok (.aload_n 0, 1) := by decide +kernel
theorem dX11_anyParts_71 : decode cX11_anyParts 71 = .ok (.getfield 45, 3) := by decide +kernel
theorem dX11_anyParts_74 : decode cX11_anyParts 74 = .ok (.iload_n 3, 1) := by decide +kernel
theorem dX11_anyParts_75 : decode cX11_anyParts 75 = .ok (.iload 5, 2) := by decide +kernel
theorem dX11_anyParts_77 : decode cX11_anyParts 77 = .ok (.iastore, 1) := by decide +kernel
theorem dX11_anyParts_78 : decode cX11_anyParts 78 = .ok (.iload 5, 2) := by decide +kernel
theorem dX11_anyParts_80 : decode cX11_anyParts 80 = .ok (.istore_n 3, 1) := by decide +kernel
theorem dX11_anyParts_81 : decode cX11_anyParts 81 = .ok (.iinc 4 1, 3) := by decide +kernel
theorem dX11_anyParts_84 : decode cX11_anyParts 84 = .ok (.goto (-55), 3) := by decide +kernel
theorem dX11_anyParts_87 : decode cX11_anyParts 87 = .ok (.iload 4, 2) := by decide +kernel
theorem dX11_anyParts_89 : decode cX11_anyParts 89 = .ok (.iconst 2, 1) := by decide +kernel
theorem dX11_anyParts_90 : decode cX11_anyParts 90 = .ok (.if_icmp .ge 8, 3) := by decide +kernel
theorem dX11_anyParts_93 : decode cX11_anyParts 93 = .ok (.aload_n 0, 1) := by decide +kernel
theorem dX11_anyParts_94 : decode cX11_anyParts 94 = .ok (.iconst 0, 1) := by decide +kernel
theorem dX11_anyParts_95 : decode cX11_anyParts 95 = .ok (.putfield 128, 3) := by decide +kernel
theorem dX11_anyParts_98 : decode cX11_anyParts 98 = .ok (.aload_n 0, 1) := by decide +kernel
theorem dX11_anyParts_99 : decode cX11_anyParts 99 = .ok (.bipush 41, 2) := by decide +kernel
theorem dX11_anyParts_101 : decode cX11_anyParts 101 = .ok (.invokevirtual 146, 3) := by decide +kernel
theorem dX11_anyParts_104 : decode cX11_anyParts 104 = .ok (.aload_n 0, 1) := by decide +kernel
theorem dX11_anyParts_105 : decode cX11_anyParts 105 = .ok (.getfield 128, 3) := by decide +kernel
theorem dX11_anyParts_108 : decode cX11_anyParts 108 = .ok (.ifCond .eq 15, 3) := by decide +kernel
theorem dX11_anyParts_111 : decode cX11_anyParts 111 = .ok (.aload_n 0, 1) := by decide +kernel
theorem dX11_anyParts_112 : decode cX11_anyParts 112 = .ok (.bipush 6, 2) := by decide +kernel
theorem dX11_anyParts_114 : decode cX11_anyParts 114 = .ok (.iload_n 2, 1) := by decide +kernel
theorem dX11_anyParts_115 : decode cX11_anyParts 115 = .ok (.iload 4, 2) := by decide +kernel
theorem dX11_anyParts_117 : decode cX11_anyParts 117 = .ok (.invokevirtual 153, 3) := by decide +kernel
theorem dX11_anyParts_120 : decode cX11_anyParts 120 = .ok (.goto 5, 3) := by decide +kernel
theorem dX11_anyParts_123 : decode cX11_anyParts 123 = .ok (.bipush (-5), 2) := by decide +kernel
theorem dX11_anyParts_125 : decode cX11_anyParts 125 = .ok (.ireturn, 1) := by decide +kernel
theorem dX11_atom_0 : decode cX11_atom 0 = .ok (.aload_n 0, 1) := by decide +kernel
theorem dX11_atom_1 : decode cX11_atom 1 = .ok (.bipush 65, 2) := by decide +kernel
theorem dX11_atom_3 : decode cX11_atom 3 = .ok (.bipush 90, 2) := by decide +kernel
theorem dX11_atom_5 : decode cX11_atom 5 = .ok (.invokevirtual 135, 3) := by decide +kernel
theorem dX11_atom_8 : decode cX11_atom 8 = .ok (.ifCond .eq 39, 3) := by decide +kernel
theorem dX11_atom_11 : decode cX11_atom 11 = .ok (.aload_n 0, 1) := by decide +kernel
theorem dX11_atom_12 : decode cX11_atom 12 = .ok (.iconst 0, 1) := by decide +kernel
theorem dX11_atom_13 : decode cX11_atom 13 = .ok (.invokevirtual 142, 3) := by decide +kernel
theorem dX11_atom_16 : decode cX11_atom 16 = .ok (.istore_n 2, 1) := by decide +kernel
theorem dX11_atom_17 : decode cX11_atom 17 = .ok (.aload_n 0, 1) := by decide +kernel
theorem dX11_atom_18 : decode cX11_atom 18 = .ok (.getfield 27, 3) := by decide +kernel
theorem dX11_atom_21 : decode cX11_atom 21 = .ok (.iload_n 2, 1) := by decide +kernel
theorem dX11_atom_22 : decode cX11_atom 22 = .ok (.aload_n 0, 1) := by decide +kernel
theorem dX11_atom_23 : decode cX11_atom 23 = .ok (.getfield 21, 3) := by decide +kernel
theorem dX11_atom_26 : decode cX11_atom 26 = .ok (.aload_n 0, 1) := by decide +kernel
theorem dX11_atom_27 : decode cX11_atom 27 = .ok (.getfield 125, 3) := by decide +kernel
theorem dX11_atom_30 : decode cX11_atom 30 = .ok (.iaload, 1) := by decide +kernel
theorem dX11_atom_31 : decode cX11_atom 31 = .ok (.bipush 65, 2) := by decide +kernel
theorem dX11_atom_33 : decode cX11_atom 33 = .ok (.isub, 1) := by decide +kernel
theorem dX11_atom_34 : decode cX11_atom 34 = .ok (.iastore, 1) := by decide +kernel
theorem dX11_atom_35 : decode cX11_atom 35 = .ok (.aload_n 0, 1) := by decide +kernel
theorem dX11_atom_36 : decode cX11_atom 36 = .ok (.dup, 1) := by decide +kernel
theorem dX11_atom_37 : decode cX11_atom 37 = .ok (.getfield 125, 3) := by decide +kernel
theorem dX11_atom_40 : decode cX11_atom 40 = .ok (.iconst 1, 1) := by decide +kernel
theorem dX11_atom_41 : decode cX11_atom 41 = .ok (.iadd, 1) := by decide +kernel
theorem dX11_atom_42 : decode cX11_atom 42 = .ok (.putfield 125, 3) := by decide +kernel
theorem dX11_atom_45 : decode cX11_atom 45 = .ok (.iload_n 2, 1) := by decide +kernel
theorem dX11_atom_46 : decode cX11_atom 46 = .ok (.ireturn, 1) := by decide +kernel
theorem dX11_atom_47 : decode cX11_atom 47 = .ok (.aload_n 0, 1) := by decide +kernel
theorem dX11_atom_48 : decode cX11_atom 48 = .ok (.bipush 94, 2) := by decide +kernel
theorem dX11_atom_50 : decode cX11_atom 50 = .ok (.invokevirtual 132, 3) := by decide +kernel
theorem dX11_atom_53 : decode cX11_atom 53 = .ok (.ifCond .ne 12, 3) := by decide +kernel
theorem dX11_atom_56 : decode cX11_atom 56 = .ok (.aload_n 0, 1) := by decide +kernel
theorem dX11_atom_57 : decode cX11_atom 57 = .ok (.bipush 36, 2) := by decide +kernel
theorem dX11_atom_59 : decode cX11_atom 59 = .ok (.invokevirtual 132, 3) := by decide +kernel
theorem dX11_atom_62 : decode cX11_atom 62 = .ok (.ifCond .eq 39, 3) := by decide +kernel
theorem dX11_atom_65 : decode cX11_atom 65 = .ok (.aload_n 0, 1) := by decide +kernel
theorem dX11_atom_66 : decode cX11_atom 66 = .ok (.aload_n 0, 1) := by decide +kernel
theorem dX11_atom_67 : decode cX11_atom 67 = .ok (.getfield 21, 3) := by decide +kernel
theorem dX11_atom_70 : decode cX11_atom 70 = .ok (.aload_n 0, 1) := by decide +kernel
theorem dX11_atom_71 : decode cX11_atom 71 = .ok (.getfield 125, 3) := by decide +kernel
theorem dX11_atom_74 : decode cX11_atom 74 = .ok (.iaload, 1) := by decide +kernel
theorem dX11_atom_75 : decode cX11_atom 75 = .ok (.bipush 94, 2) := by decide +kernel
theorem dX11_atom_77 : decode cX11_atom 77 = .ok (.if_icmp .ne 7, 3) := by decide +kernel
theorem dX11_atom_80 : decode cX11_atom 80 = .ok (.iconst 1, 1) := by decide +kernel
theorem dX11_atom_81 : decode cX11_atom 81 = .ok (.goto 4, 3) := by decide +kernel
theorem dX11_atom_84 : decode cX11_atom 84 = .ok (.iconst 2, 1) := by decide +kernel
theorem dX11_atom_85 : decode cX11_atom 85 = .ok (.invokevirtual 142, 3) := by decide +kernel
theorem dX11_atom_88 : decode cX11_atom 88 = .ok (.istore_n 2, 1) := by decide +kernel
theorem dX11_atom_89 : decode cX11_atom 89 = .ok (.aload_n 0, 1) := by decide +kernel
theorem dX11_atom_90 : decode cX11_atom 90 = .ok (.dup, 1) := by decide +kernel
theorem dX11_atom_91 : decode cX11_atom 91 = .ok (.getfield 125, 3) := by decide +kernel
theorem dX11_atom_94 : decode cX11_atom 94 = .ok (.iconst 1, 1) := by decide +kernel
theorem dX11_atom_95 : decode cX11_atom 95 = .ok (.iadd, 1) := by decide +kernel
theorem dX11_atom_96 : decode cX11_atom 96 = .ok (.putfield 125, 3) := by decide +kernel
theorem dX11_atom_99 : decode cX11_atom 99 = .ok (.iload_n 2, 1) := by decide +kernel
theorem dX11_atom_100 : decode cX11_atom 100 = .ok (.ireturn, 1) := by decide +kernel
theorem dX11_atom_101 : decode cX11_atom 101 = .ok (.aload_n 0, 1) := by decide +kernel
theorem dX11_atom_102 : decode cX11_atom 102 = .ok (.bipush 40, 2) := by decide +kernel
theorem dX11_atom_104 : decode cX11_atom 104 = .ok (.invokevirtual 132, 3) := by decide +kernel
theorem dX11_atom_107 : decode cX11_atom 107 = .ok (.ifCond .eq 34, 3) := by decide +kernel
theorem dX11_atom_110 : decode cX11_atom 110 = .ok (.iload_n 1, 1) := by decide +kernel
theorem dX11_atom_111 : decode cX11_atom 111 = .ok (.iconst 5, 1) := by decide +kernel
theorem dX11_atom_112 : decode cX11_atom 112 = .ok (.if_icmp .ge 29, 3) := by decide +kernel
theorem dX11_atom_115 : decode cX11_atom 115 = .ok (.aload_n 0, 1) := by decide +kernel
theorem dX11_atom_116 : decode cX11_atom 116 = .ok (.dup, 1) := by decide +kernel
theorem dX11_atom_117 : decode cX11_atom 117 = .ok (.getfield 125, 3) := by decide +kernel
theorem dX11_atom_120 : decode cX11_atom 120 = .ok (.iconst 1, 1) := by decide +kernel
theorem dX11_atom_121 : decode cX11_atom 121 = .ok (.iadd, 1) := by decide +kernel
theorem dX11_atom_122 : decode cX11_atom 122 = .ok (.putfield 125, 3) := by decide +kernel
theorem dX11_atom_125 : decode cX11_atom 125 = .ok (.aload_n 0, 1) := by decide +kernel
theorem dX11_atom_126 : decode cX11_atom 126 = .ok (.iload_n 1, 1) := by decide +kernel
theorem dX11_atom_127 : decode cX11_atom 127 = .ok (.iconst 1, 1) := by decide +kernel
theorem dX11_atom_128 : decode cX11_atom 128 = .ok (.iadd, 1) := by decide +kernel
theorem dX11_atom_129 : decode cX11_atom 129 = .ok (.invokevirtual 150, 3) := by decide +kernel
theorem dX11_atom_132 : decode cX11_atom 132 = .ok (.istore_n 2, 1) := by decide +kernel
theorem dX11_atom_133 : decode cX11_atom 133 = .ok (.aload_n 0, 1) := by decide +kernel
theorem dX11_atom_134 : decode cX11_atom 134 = .ok (.bipush 41, 2) := by decide +kernel
theorem dX11_atom_136 : decode cX11_atom 136 = .ok (.invokevirtual 146, 3) := by decide +kernel
theorem dX11_atom_139 : decode cX11_atom 139 = .ok (.iload_n 2, 1) := by decide +kernel
theorem dX11_atom_140 : decode cX11_atom 140 = .ok (.ireturn, 1) := by decide +kernel
theorem dX11_atom_141 : decode cX11_atom 141 = .ok (.aload_n 0, 1) := by decide +kernel
theorem dX11_atom_142 : decode cX11_atom 142 = .ok (.bipush 37, 2) := by decide +kernel
theorem dX11_atom_144 : decode cX11_atom 144 = .ok (.invokevirtual 132, 3) := by decide +kernel
theorem dX11_atom_147 : decode cX11_atom 147 = .ok (.ifCond .eq 14, 3) := by decide +kernel
theorem dX11_atom_150 : decode cX11_atom 150 = .ok (.iload_n 1, 1) := by decide +kernel
theorem dX11_atom_151 : decode cX11_atom 151 = .ok (.iconst 5, 1) := by decide +kernel
theorem dX11_atom_152 : decode cX11_atom 152 = .ok (.if_icmp .ge 9, 3) := by decide +kernel
theorem dX11_atom_155 : decode cX11_atom 155 = .ok (.aload_n 0, 1) := by decide +kernel
theorem dX11_atom_156 : decode cX11_atom 156 = .ok (.iload_n 1, 1) := by decide +kernel
theorem dX11_atom_157 : decode cX11_atom 157 = .ok (.invokevirtual 157, 3) := by decide +kernel
theorem dX11_atom_160 : decode cX11_atom 160 = .ok (.ireturn, 1) := by decide +kernel
theorem dX11_atom_161 : decode cX11_atom 161 = .ok (.aload_n 0, 1) := by decide +kernel
theorem dX11_atom_162 : decode cX11_atom 162 = .ok (.iconst 0, 1) := by decide +kernel
theorem dX11_atom_163 : decode cX11_atom 163 = .ok (.putfield 128, 3) := by decide +kernel
theorem dX11_atom_166 : decode cX11_atom 166 = .ok (.bipush (-5), 2) := by decide +kernel
theorem dX11_atom_168 : decode cX11_atom 168 = .ok (.ireturn, 1) := by decide +kernel
theorem dX11_curly_0 : decode cX11_curly 0 = .ok (.aload_n 0, 1) := by decide +kernel
theorem dX11_curly_1 : decode cX11_curly 1 = .ok (.dup, 1) := by decide +kernel
theorem dX11_curly_2 : decode cX11_curly 2 = .ok (.getfield 125, 3) := by decide +kernel
theorem dX11_curly_5 : decode cX11_curly 5 = .ok (.iconst 1, 1) := by decide +kernel
theorem dX11_curly_6 : decode cX11_curly 6 = .ok (.iadd, 1) := by decide +kernel
theorem dX11_curly_7 : decode cX11_curly 7 = .ok (.putfield 125, 3) := by decide +kernel
theorem dX11_curly_10 : decode cX11_curly 10 = .ok (.aload_n 0, 1) := by decide +kernel
theorem dX11_curly_11 : decode cX11_curly 11 = .ok (.aload_n 0, 1) := by decide +kernel
theorem dX11_curly_12 : decode cX11_curly 12 = .ok (.iconst 2, 1) := by decide +kernel
theorem dX11_curly_13 : decode cX11_curly 13 = .ok (.invokevirtual 160, 3) := by decide +kernel
theorem dX11_curly_16 : decode cX11_curly 16 = .ok (.putfield 163, 3) := by decide +kernel
theorem dX11_curly_19 : decode cX11_curly 19 = .ok (.aload_n 0, 1) := by decide +kernel
theorem dX11_curly_20 : decode cX11_curly 20 = .ok (.aload_n 0, 1) := by decide +kernel
theorem dX11_curly_21 : decode cX11_curly 21 = .ok (.getfield 163, 3) := by decide +kernel
theorem dX11_curly_24 : decode cX11_curly 24 = .ok (.putfield 166, 3) := by decide +kernel
theorem dX11_curly_27 : decode cX11_curly 27 = .ok (.aload_n 0, 1) := by decide +kernel
theorem dX11_curly_28 : decode cX11_curly 28 = .ok (.bipush 44, 2) := by decide +kernel
theorem dX11_curly_30 : decode cX11_curly 30 = .ok (.invokevirtual 132, 3) := by decide +kernel
theorem dX11_curly_33 : decode cX11_curly 33 = .ok (.ifCond .eq 70, 3) := by decide +kernel
theorem dX11_curly_36 : decode cX11_curly 36 = .ok (.aload_n 0, 1) := by decide +kernel
theorem dX11_curly_37 : decode cX11_curly 37 = .ok (.dup, 1) := by decide +kernel
theorem dX11_curly_38 : decode cX11_curly 38 = .ok (.getfield 125, 3) := by decide +kernel
theorem dX11_curly_41 : decode cX11_curly 41 = .ok (.iconst 1, 1) := by decide +kernel
theorem dX11_curly_42 : decode cX11_curly 42 = .ok (.iadd, 1) := by decide +kernel
theorem dX11_curly_43 : decode cX11_curly 43 = .ok (.putfield 125, 3) := by decide +kernel
theorem dX11_curly_46 : decode cX11_curly 46 = .ok (.aload_n 0, 1) := by decide +kernel
theorem dX11_curly_47 : decode cX11_curly 47 = .ok (.bipush 100, 2) := by decide +kernel
theorem dX11_curly_49 : decode cX11_curly 49 = .ok (.putfield 166, 3) := by decide +kernel
theorem dX11_curly_52 : decode cX11_curly 52 = .ok (.aload_n 0, 1) := by decide +kernel
theorem dX11_curly_53 : decode cX11_curly 53 = .ok (.bipush 48, 2) := by decide +kernel
theorem dX11_curly_55 : decode cX11_curly 55 = .ok (.bipush 57, 2) := by decide +kernel
theorem dX11_curly_57 : decode cX11_curly 57 = .ok (.invokevirtual 135, 3) := by decide +kernel
theorem dX11_curly_60 : decode cX11_curly 60 = .ok (.ifCond .eq 55, 3) := by decide +kernel
theorem dX11_curly_63 : decode cX11_curly 63 = .ok (.aload_n 0, 1) := by decide +kernel
theorem dX11_curly_64 : decode cX11_curly 64 = .ok (.getfield 125, 3) := by decide +kernel
theorem dX11_curly_67 : decode cX11_curly 67 = .ok (.istore_n 1, 1) := by decide +kernel
theorem dX11_curly_68 : decode cX11_curly 68 = .ok (.aload_n 0, 1) := by decide +kernel
theorem dX11_curly_69 : decode cX11_curly 69 = .ok (.aload_n 0, 1) := by decide +kernel
theorem dX11_curly_70 : decode cX11_curly 70 = .ok (.iconst 2, 1) := by decide +kernel
theorem dX11_curly_71 : decode cX11_curly 71 = .ok (.invokevirtual 160, 3) := by decide +kernel
theorem dX11_curly_74 : decode cX11_curly 74 = .ok (.putfield 166, 3) := by decide +kernel
theorem dX11_curly_77 : decode cX11_curly 77 = .ok (.aload_n 0, 1) := by decide +kernel
theorem dX11_curly_78 : decode cX11_curly 78 = .ok (.getfield 166, 3) := by decide +kernel
theorem dX11_curly_81 : decode cX11_curly 81 = .ok (.ifCond .eq 14, 3) := by decide +kernel
theorem dX11_curly_84 : decode cX11_curly 84 = .ok (.aload_n 0, 1) := by decide +kernel
theorem dX11_curly_85 : decode cX11_curly 85 = .ok (.getfield 166, 3) := by decide +kernel
theorem dX11_curly_88 : decode cX11_curly 88 = .ok (.aload_n 0, 1) := by decide +kernel
theorem dX11_curly_89 : decode cX11_curly 89 = .ok (.getfield 163, 3) := by decide +kernel
theorem dX11_curly_92 : decode cX11_curly 92 = .ok (.if_icmp .ge 8, 3) := by decide +kernel
theorem dX11_curly_95 : decode cX11_curly 95 = .ok (.aload_n 0, 1) := by decide +kernel
theorem dX11_curly_96 : decode cX11_curly 96 = .ok (.iload_n 1, 1) := by decide +kernel
theorem dX11_curly_97 : decode cX11_curly 97 = .ok (.invokevirtual 169, 3) := by decide +kernel
theorem dX11_curly_100 : decode cX11_curly 100 = .ok (.goto 15, 3) := by decide +kernel
theorem dX11_curly_103 : decode cX11_curly 103 = .ok (.aload_n 0, 1) := by decide +kernel
theorem dX11_curly_104 : decode cX11_curly 104 = .ok (.getfield 163, 3) := by decide +kernel
theorem dX11_curly_107 : decode cX11_curly 107 = .ok (.ifCond .ne 8, 3) := by decide +kernel
theorem dX11_curly_110 : decode cX11_curly 110 = .ok (.aload_n 0, 1) := by decide +kernel
theorem dX11_curly_111 : decode cX11_curly 111 = .ok (.iconst 0, 1) := by decide +kernel
theorem dX11_curly_112 : decode cX11_curly 112 = .ok (.putfield 128, 3) := by decide +kernel
theorem dX11_curly_115 : decode cX11_curly 115 = .ok (.aload_n 0, 1) := by decide +kernel
theorem dX11_curly_116 : decode cX11_curly 116 = .ok (.bipush 125, 2) := by decide +kernel
theorem dX11_curly_118 : decode cX11_curly 118 = .ok (.invokevirtual 146, 3) := by decide +kernel
theorem dX11_curly_121 : decode cX11_curly 121 = .ok (.return_, 1) := by decide +kernel
theorem dX11_repeated_0 : decode cX11_repeated 0 = .ok (.aload_n 0, 1) := by decide +kernel
theorem dX11_repeated_1 : decode cX11_repeated 1 = .ok (.iload_n 1, 1) := by decide +kernel
theorem dX11_repeated_2 : decode cX11_repeated 2 = .ok (.invokevirtual 172, 3) := by decide +kernel
theorem dX11_repeated_5 : decode cX11_repeated 5 = .ok (.istore_n 2, 1) := by decide +kernel
theorem dX11_repeated_6 : decode cX11_repeated 6 = .ok (.aload_n 0, 1) := by decide +kernel
theorem dX11_repeated_7 : decode cX11_repeated 7 = .ok (.bipush 42, 2) := by decide +kernel
theorem dX11_repeated_9 : decode cX11_repeated 9 = .ok (.invokevirtual 132, 3) := by decide +kernel
theorem dX11_repeated_12 : decode cX11_repeated 12 = .ok (.ifCond .ne 32, 3) := by decide +kernel
theorem dX11_repeated_15 : decode cX11_repeated 15 = .ok (.aload_n 0, 1) := by decide +kernel
theorem dX11_repeated_16 : decode cX11_repeated 16 = .ok (.bipush 43, 2) := by decide +kernel
theorem dX11_repeated_18 : decode cX11_repeated 18 = .ok (.invokevirtual 132, 3) := by decide +kernel
theorem dX11_repeated_21 : decode cX11_repeated 21 = .ok (.ifCond .ne 23, 3) := by decide +kernel
theorem dX11_repeated_24 : decode cX11_repeated 24 = .ok (.aload_n 0, 1) := by decide +kernel
theorem dX11_repeated_25 : decode cX11_repeated 25 = .ok (.bipush 63, 2) := by decide +kernel
theorem dX11_repeated_27 : decode cX11_repeated 27 = .ok (.invokevirtual 132, 3) := by decide +kernel
theorem dX11_repeated_30 : decode cX11_repeated 30 = .ok (.ifCond .ne 14, 3) := by decide +kernel
theorem dX11_repeated_33 : decode cX11_repeated 33 = .ok (.aload_n 0, 1) := by decide +kernel
theorem dX11_repeated_34 : decode cX11_repeated 34 = .ok (.bipush 123, 2) := by decide +kernel
theorem dX11_repeated_36 : decode cX11_repeated 36 = .ok (.invokevirtual 132, 3) := by decide +kernel
theorem dX11_repeated_39 : decode cX11_repeated 39 = .ok (.ifCond .ne 5, 3) := by decide +kernel
theorem dX11_repeated_42 : decode cX11_repeated 42 = .ok (.iload_n 2, 1) := by decide +kernel
theorem dX11_repeated_43 : decode cX11_repeated 43 = .ok (.ireturn, 1) := by decide +kernel
theorem dX11_repeated_44 : decode cX11_repeated 44 = .ok (.aload_n 0, 1) := by decide +kernel
theorem dX11_repeated_45 : decode cX11_repeated 45 = .ok (.getfield 21, 3) := by decide +kernel
theorem dX11_repeated_48 : decode cX11_repeated 48 = .ok (.aload_n 0, 1) := by decide +kernel
theorem dX11_repeated_49 : decode cX11_repeated 49 = .ok (.getfield 125, 3) := by decide +kernel
theorem dX11_repeated_52 : decode cX11_repeated 52 = .ok (.iaload, 1) := by decide +kernel
theorem dX11_repeated_53 : decode cX11_repeated 53 = .ok (.istore_n 3, 1) := by decide +kernel
theorem dX11_repeated_54 : decode cX11_repeated 54 = .ok (.aload_n 0, 1) := by decide +kernel
theorem dX11_repeated_55 : decode cX11_repeated 55 = .ok (.iload_n 3, 1) := by decide +kernel
theorem dX11_repeated_56 : decode cX11_repeated 56 = .ok (.bipush 43, 2) := by decide +kernel
theorem dX11_repeated_58 : decode cX11_repeated 58 = .ok (.if_icmp .ne 7, 3) := by decide +kernel
theorem dX11_repeated_61 : decode cX11_repeated 61 = .ok (.iconst 1, 1) := by decide +kernel
theorem dX11_repeated_62 : decode cX11_repeated 62 = .ok (.goto 4, 3) := by decide +kernel
theorem dX11_repeated_65 : decode cX11_repeated 65 = .ok (.iconst 0, 1) := by decide +kernel
theorem dX11_repeated_66 : decode cX11_repeated 66 = .ok (.putfield 163, 3) := by decide +kernel
theorem dX11_repeated_69 : decode cX11_repeated 69 = .ok (.aload_n 0, 1) := by decide +kernel
theorem dX11_repeated_70 : decode cX11_repeated 70 = .ok (.iload_n 3, 1) := by decide +kernel
theorem dX11_repeated_71 : decode cX11_repeated 71 = .ok (.bipush 63, 2) := by decide +kernel
theorem dX11_repeated_73 : decode cX11_repeated 73 = .ok (.if_icmp .ne 7, 3) := by decide +kernel
theorem dX11_repeated_76 : decode cX11_repeated 76 = .ok (.iconst 1, 1) := by decide +kernel
theorem dX11_repeated_77 : decode cX11_repeated 77 = .ok (.goto 5, 3) := by decide +kernel
theorem dX11_repeated_80 : decode cX11_repeated 80 = .ok (.bipush 100, 2) := by decide +kernel
theorem dX11_repeated_82 : decode cX11_repeated 82 = .ok (.putfield 166, 3) := by decide +kernel
theorem dX11_repeated_85 : decode cX11_repeated 85 = .ok (.iload_n 3, 1) := by decide +kernel
theorem dX11_repeated_86 : decode cX11_repeated 86 = .ok (.bipush 123, 2) := by decide +kernel
theorem dX11_repeated_88 : decode cX11_repeated 88 = .ok (.if_icmp .ne 10, 3) := by decide +kernel
theorem dX11_repeated_91 : decode cX11_repeated 91 = .ok (.aload_n 0, 1) := by decide +kernel
theorem dX11_repeated_92 : decode cX11_repeated 92 = .ok (.invokevirtual 175, 3) := by decide +kernel
theorem dX11_repeated_95 : decode cX11_repeated 95 = .ok (.goto 13, 3) := by decide +kernel
theorem dX11_repeated_98 : decode cX11_repeated 98 = .ok (.aload_n 0, 1) := by decide +kernel
theorem dX11_repeated_99 : decode cX11_repeated 99 = .ok (.dup, 1) := by decide +kernel
theorem dX11_repeated_100 : decode cX11_repeated 100 = .ok (.getfield 125, 3) := by decide +kernel
theorem dX11_repeated_103 : decode cX11_repeated 103 = .ok (.iconst 1, 1) := by decide +kernel
theorem dX11_repeated_104 : decode cX11_repeated 104 = .ok (.iadd, 1) := by decide +kernel
theorem dX11_repeated_105 : decode cX11_repeated 105 = .ok (.putfield 125, 3) := by decide +kernel
theorem dX11_repeated_108 : decode cX11_repeated 108 = .ok (.aload_n 0, 1) := by decide +kernel
theorem dX11_repeated_109 : decode cX11_repeated 109 = .ok (.bipush 63, 2) := by decide +kernel
theorem dX11_repeated_111 : decode cX11_repeated 111 = .ok (.invokevirtual 132, 3) := by decide +kernel
theorem dX11_repeated_114 : decode cX11_repeated 114 = .ok (.istore 4, 2) := by decide +kernel
theorem dX11_repeated_116 : decode cX11_repeated 116 = .ok (.aload_n 0, 1) := by decide +kernel
theorem dX11_repeated_117 : decode cX11_repeated 117 = .ok (.dup, 1) := by decide +kernel
theorem dX11_repeated_118 : decode cX11_repeated 118 = .ok (.getfield 125, 3) := by decide +kernel
theorem dX11_repeated_121 : decode cX11_repeated 121 = .ok (.iload 4, 2) := by decide +kernel
theorem dX11_repeated_123 : decode cX11_repeated 123 = .ok (.ifCond .eq 7, 3) := by decide +kernel
theorem dX11_repeated_126 : decode cX11_repeated 126 = .ok (.iconst 1, 1) := by decide +kernel
theorem dX11_repeated_127 : decode cX11_repeated 127 = .ok (.goto 4, 3) := by decide +kernel
theorem dX11_repeated_130 : decode cX11_repeated 130 = .ok (.iconst 0, 1) := by decide +kernel
theorem dX11_repeated_131 : decode cX11_repeated 131 = .ok (.iadd, 1) := by decide +kernel
theorem dX11_repeated_132 : decode cX11_repeated 132 = .ok (.putfield 125, 3) := by decide +kernel
theorem dX11_repeated_135 : decode cX11_repeated 135 = .ok (.aload_n 0, 1) := by decide +kernel
theorem dX11_repeated_136 : decode cX11_repeated 136 = .ok (.getfield 128, 3) := by decide +kernel
theorem dX11_repeated_139 : decode cX11_repeated 139 = .ok (.ifCond .ne 6, 3) := by decide +kernel
theorem dX11_repeated_142 : decode cX11_repeated 142 = .ok (.bipush (-5), 2) := by decide +kernel
theorem dX11_repeated_144 : decode cX11_repeated 144 = .ok (.ireturn, 1) := by decide +kernel
theorem dX11_repeated_145 : decode cX11_repeated 145 = .ok (.aload_n 0, 1) := by decide +kernel
theorem dX11_repeated_146 : decode cX11_repeated 146 = .ok (.iconst 5, 1) := by decide +kernel
theorem dX11_repeated_147 : decode cX11_repeated 147 = .ok (.iload_n 2, 1) := by decide +kernel
theorem dX11_repeated_148 : decode cX11_repeated 148 = .ok (.iconst 1, 1) := by decide +kernel
theorem dX11_repeated_149 : decode cX11_repeated 149 = .ok (.invokevirtual 153, 3) := by decide +kernel
theorem dX11_repeated_152 : decode cX11_repeated 152 = .ok (.istore 5, 2) := by decide +kernel
theorem dX11_repeated_154 : decode cX11_repeated 154 = .ok (.aload_n 0, 1) := by decide +kernel
theorem dX11_repeated_155 : decode cX11_repeated 155 = .ok (.getfield 30, 3) := by decide +kernel
theorem dX11_repeated_158 : decode cX11_repeated 158 = .ok (.iload 5, 2) := by decide +kernel
theorem dX11_repeated_160 : decode cX11_repeated 160 = .ok (.aload_n 0, 1) := by decide +kernel
theorem dX11_repeated_161 : decode cX11_repeated 161 = .ok (.getfield 163, 3) := by decide +kernel
theorem dX11_repeated_164 : decode cX11_repeated 164 = .ok (.iastore, 1) := by decide +kernel
theorem dX11_repeated_165 : decode cX11_repeated 165 = .ok (.aload_n 0, 1) := by decide +kernel
theorem dX11_repeated_166 : decode cX11_repeated 166 = .ok (.getfield 33, 3) := by decide +kernel
theorem dX11_repeated_169 : decode cX11_repeated 169 = .ok (.iload 5, 2) := by decide +kernel
theorem dX11_repeated_171 : decode cX11_repeated 171 = .ok (.aload_n 0, 1) := by decide +kernel
theorem dX11_repeated_172 : decode cX11_repeated 172 = .ok (.getfield 166, 3) := by decide +kernel
theorem dX11_repeated_175 : decode cX11_repeated 175 = .ok (.iastore, 1) := by decide +kernel
theorem dX11_repeated_176 : decode cX11_repeated 176 = .ok (.aload_n 0, 1) := by decide +kernel
theorem dX11_repeated_177 : decode cX11_repeated 177 = .ok (.getfield 36, 3) := by decide +kernel
theorem dX11_repeated_180 : decode cX11_repeated 180 = .ok (.iload 5, 2) := by decide +kernel
theorem dX11_repeated_182 : decode cX11_repeated 182 = .ok (.iload 4, 2) := by decide +kernel
theorem dX11_repeated_184 : decode cX11_repeated 184 = .ok (.ifCond .eq 7, 3) := by decide +kernel
theorem dX11_repeated_187 : decode cX11_repeated 187 = .ok (.iconst 0, 1) := by decide +kernel
theorem dX11_repeated_188 : decode cX11_repeated 188 = .ok (.goto 4, 3) := by decide +kernel
theorem dX11_repeated_191 : decode cX11_repeated 191 = .ok (.iconst 1, 1) := by decide +kernel
theorem dX11_repeated_192 : decode cX11_repeated 192 = .ok (.iastore, 1) := by decide +kernel
theorem dX11_repeated_193 : decode cX11_repeated 193 = .ok (.iload 5, 2) := by decide +kernel
theorem dX11_repeated_195 : decode cX11_repeated 195 = .ok (.ireturn, 1) := by decide +kernel
theorem dX11_isAtom_0 : decode cX11_isAtom 0 = .ok (.aload_n 0, 1) := by decide +kernel
theorem dX11_isAtom_1 : decode cX11_isAtom 1 = .ok (.getfield 128, 3) := by decide +kernel
theorem dX11_isAtom_4 : decode cX11_isAtom 4 = .ok (.ifCond .eq 96, 3) := by decide +kernel
theorem dX11_isAtom_7 : decode cX11_isAtom 7 = .ok (.aload_n 0, 1) := by decide +kernel
theorem dX11_isAtom_8 : decode cX11_isAtom 8 = .ok (.getfield 125, 3) := by decide +kernel
theorem dX11_isAtom_11 : decode cX11_isAtom 11 = .ok (.aload_n 0, 1) := by decide +kernel
theorem dX11_isAtom_12 : decode cX11_isAtom 12 = .ok (.getfield 122, 3) := by decide +kernel
theorem dX11_isAtom_15 : decode cX11_isAtom 15 = .ok (.if_icmp .ge 85, 3) := by decide +kernel
theorem dX11_isAtom_18 : decode cX11_isAtom 18 = .ok (.aload_n 0, 1) := by decide +kernel
theorem dX11_isAtom_19 : decode cX11_isAtom 19 = .ok (.getfield 21, 3) := by decide +kernel
theorem dX11_isAtom_22 : decode cX11_isAtom 22 = .ok (.aload_n 0, 1) := by decide +kernel
theorem dX11_isAtom_23 : decode cX11_isAtom 23 = .ok (.getfield 125, 3) := by decide +kernel
theorem dX11_isAtom_26 : decode cX11_isAtom 26 = .ok (.iaload, 1) := by decide +kernel
theorem dX11_isAtom_27 : decode cX11_isAtom 27 = .ok (.i2l, 1) := by decide +kernel
theorem dX11_isAtom_28 : decode cX11_isAtom 28 = .ok (.ldc2_w 178, 3) := by decide +kernel
theorem dX11_isAtom_31 : decode cX11_isAtom 31 = .ok (.ldc2_w 180, 3) := by decide +kernel
theorem dX11_isAtom_34 : decode cX11_isAtom 34 = .ok (.invokestatic 101, 3) := by decide +kernel
theorem dX11_isAtom_37 : decode cX11_isAtom 37 = .ok (.ifCond .ne 59, 3) := by decide +kernel
theorem dX11_isAtom_40 : decode cX11_isAtom 40 = .ok (.aload_n 0, 1) := by decide +kernel
theorem dX11_isAtom_41 : decode cX11_isAtom 41 = .ok (.getfield 21, 3) := by decide +kernel
theorem dX11_isAtom_44 : decode cX11_isAtom 44 = .ok (.aload_n 0, 1) := by decide +kernel
theorem dX11_isAtom_45 : decode cX11_isAtom 45 = .ok (.getfield 125, 3) := by decide +kernel
theorem dX11_isAtom_48 : decode cX11_isAtom 48 = .ok (.iaload, 1) := by decide +kernel
theorem dX11_isAtom_49 : decode cX11_isAtom 49 = .ok (.bipush 94, 2) := by decide +kernel
theorem dX11_isAtom_51 : decode cX11_isAtom 51 = .ok (.if_icmp .eq 45, 3) := by decide +kernel
theorem dX11_isAtom_54 : decode cX11_isAtom 54 = .ok (.aload_n 0, 1) := by decide +kernel
theorem dX11_isAtom_55 : decode cX11_isAtom 55 = .ok (.getfield 21, 3) := by decide +kernel
theorem dX11_isAtom_58 : decode cX11_isAtom 58 = .ok (.aload_n 0, 1) := by decide +kernel
theorem dX11_isAtom_59 : decode cX11_isAtom 59 = .ok (.getfield 125, 3) := by decide +kernel
theorem dX11_isAtom_62 : decode cX11_isAtom 62 = .ok (.iaload, 1) := by decide +kernel
theorem dX11_isAtom_63 : decode cX11_isAtom 63 = .ok (.bipush 36, 2) := by decide +kernel
theorem dX11_isAtom_65 : decode cX11_isAtom 65 = .ok (.if_icmp .eq 31, 3) := by decide +kernel
theorem dX11_isAtom_68 : decode cX11_isAtom 68 = .ok (.aload_n 0, 1) := by decide +kernel
theorem dX11_isAtom_69 : decode cX11_isAtom 69 = .ok (.getfield 21, 3) := by decide +kernel
theorem dX11_isAtom_72 : decode cX11_isAtom 72 = .ok (.aload_n 0, 1) := by decide +kernel
theorem dX11_isAtom_73 : decode cX11_isAtom 73 = .ok (.getfield 125, 3) := by decide +kernel
theorem dX11_isAtom_76 : decode cX11_isAtom 76 = .ok (.iaload, 1) := by decide +kernel
theorem dX11_isAtom_77 : decode cX11_isAtom 77 = .ok (.bipush 40, 2) := by decide +kernel
theorem dX11_isAtom_79 : decode cX11_isAtom 79 = .ok (.if_icmp .eq 17, 3) := by decide +kernel
theorem dX11_isAtom_82 : decode cX11_isAtom 82 = .ok (.aload_n 0, 1) := by decide +kernel
theorem dX11_isAtom_83 : decode cX11_isAtom 83 = .ok (.getfield 21, 3) := by decide +kernel
theorem dX11_isAtom_86 : decode cX11_isAtom 86 = .ok (.aload_n 0, 1) := by decide +kernel
theorem dX11_isAtom_87 : decode cX11_isAtom 87 = .ok (.getfield 125, 3) := by decide +kernel
theorem dX11_isAtom_90 : decode cX11_isAtom 90 = .ok (.iaload, 1) := by decide +kernel
theorem dX11_isAtom_91 : decode cX11_isAtom 91 = .ok (.bipush 37, 2) := by decide +kernel
theorem dX11_isAtom_93 : decode cX11_isAtom 93 = .ok (.if_icmp .ne 7, 3) := by decide +kernel
theorem dX11_isAtom_96 : decode cX11_isAtom 96 = .ok (.iconst 1, 1) := by decide +kernel
theorem dX11_isAtom_97 : decode cX11_isAtom 97 = .ok (.goto 4, 3) := by decide +kernel
theorem dX11_isAtom_100 : decode cX11_isAtom 100 = .ok (.iconst 0, 1) := by decide +kernel
theorem dX11_isAtom_101 : decode cX11_isAtom 101 = .ok (.ireturn, 1) := by decide +kernel
theorem dX11_series_0 : decode cX11_series 0 = .ok (.aload_n 0, 1) := by decide +kernel
theorem dX11_series_1 : decode cX11_series 1 = .ok (.iload_n 1, 1) := by decide +kernel
theorem dX11_series_2 : decode cX11_series 2 = .ok (.invokevirtual 182, 3) := by decide +kernel
theorem dX11_series_5 : decode cX11_series 5 = .ok (.istore_n 2, 1) := by decide +kernel
theorem dX11_series_6 : decode cX11_series 6 = .ok (.iload_n 2, 1) := by decide +kernel
theorem dX11_series_7 : decode cX11_series 7 = .ok (.istore_n 3, 1) := by decide +kernel
theorem dX11_series_8 : decode cX11_series 8 = .ok (.iconst 1, 1) := by decide +kernel
theorem dX11_series_9 : decode cX11_series 9 = .ok (.istore 4, 2) := by decide +kernel
theorem dX11_series_11 : decode cX11_series 11 = .ok (.aload_n 0, 1) := by decide +kernel
theorem dX11_series_12 : decode cX11_series 12 = .ok (.invokevirtual 185, 3) := by decide +kernel
theorem dX11_series_15 : decode cX11_series 15 = .ok (.ifCond .eq 34, 3) := by decide +kernel
theorem dX11_series_18 : decode cX11_series 18 = .ok (.aload_n 0, 1) := by decide +kernel
theorem dX11_series_19 : decode cX11_series 19 = .ok (.iload_n 1, 1) := by decide +kernel
theorem dX11_series_20 : decode cX11_series 20 = .ok (.invokevirtual 182, 3) := by decide +kernel
theorem dX11_series_23 : decode cX11_series 23 = .ok (.istore 5, 2) := by decide +kernel
theorem dX11_series_25 : decode cX11_series 25 = .ok (.aload_n 0, 1) := by decide +kernel
theorem dX11_series_26 : decode cX11_series 26 = .ok (.getfield 128, 3) := by decide +kernel
theorem dX11_series_29 : decode cX11_series 29 = .ok (.ifCond .eq 17, 3) := by decide +kernel
theorem dX11_series_32 : decode cX11_series 32 = .ok (.aload_n 0, 1) := by decide +kernel
theorem dX11_series_33 : decode cX11_series 33 = .ok (.getfield 45, 3) := by decide +kernel
theorem dX11_series_36 : decode cX11_series 36 = .ok (.iload_n 3, 1) := by decide +kernel
theorem dX11_series_37 : decode cX11_series 37 = .ok (.iload 5, 2) := by decide +kernel
theorem dX11_series_39 : decode cX11_series 39 = .ok (.iastore, 1) := by decide +kernel
theorem dX11_series_40 : decode cX11_series 40 = .ok (.iload 5, 2) := by decide +kernel
theorem dX11_series_42 : decode cX11_series 42 = .ok (.istore_n 3, 1) := by decide +kernel
theorem dX11_series_43 : decode cX11_series 43 = .ok (.iinc 4 1, 3) := by decide +kernel
theorem dX11_series_46 : decode cX11_series 46 = .ok (.goto (-35), 3) := by decide +kernel
theorem dX11_series_49 : decode cX11_series 49 = .ok (.aload_n 0, 1) := by decide +kernel
theorem dX11_series_50 : decode cX11_series 50 = .ok (.getfield 128, 3) := by decide +kernel
theorem dX11_series_53 : decode cX11_series 53 = .ok (.ifCond .eq 20, 3) := by decide +kernel
theorem dX11_series_56 : decode cX11_series 56 = .ok (.iload 4, 2) := by decide +kernel
theorem dX11_series_58 : decode cX11_series 58 = .ok (.iconst 1, 1) := by decide +kernel
theorem dX11_series_59 : decode cX11_series 59 = .ok (.if_icmp .le 14, 3) := by decide +kernel
theorem dX11_series_62 : decode cX11_series 62 = .ok (.aload_n 0, 1) := by decide +kernel
theorem dX11_series_63 : decode cX11_series 63 = .ok (.iconst 3, 1) := by decide +kernel
theorem dX11_series_64 : decode cX11_series 64 = .ok (.iload_n 2, 1) := by decide +kernel
theorem dX11_series_65 : decode cX11_series 65 = .ok (.iload 4, 2) := by decide +kernel
theorem dX11_series_67 : decode cX11_series 67 = .ok (.invokevirtual 153, 3) := by decide +kernel
theorem dX11_series_70 : decode cX11_series 70 = .ok (.goto 4, 3) := by decide +kernel
theorem dX11_series_73 : decode cX11_series 73 = .ok (.iload_n 2, 1) := by decide +kernel
theorem dX11_series_74 : decode cX11_series 74 = .ok (.ireturn, 1) := by decide +kernel
theorem dX11_alternatives_0 : decode cX11_alternatives 0 = .ok (.aload_n 0, 1) := by decide +kernel
theorem dX11_alternatives_1 : decode cX11_alternatives 1 = .ok (.iload_n 1, 1) := by decide +kernel
theorem dX11_alternatives_2 : decode cX11_alternatives 2 = .ok (.invokevirtual 189, 3) := by decide +kernel
theorem dX11_alternatives_5 : decode cX11_alternatives 5 = .ok (.istore_n 2, 1) := by decide +kernel
theorem dX11_alternatives_6 : decode cX11_alternatives 6 = .ok (.iload_n 2, 1) := by decide +kernel
theorem dX11_alternatives_7 : decode cX11_alternatives 7 = .ok (.istore_n 3, 1) := by decide +kernel
theorem dX11_alternatives_8 : decode cX11_alternatives 8 = .ok (.iconst 1, 1) := by decide +kernel
theorem dX11_alternatives_9 : decode cX11_alternatives 9 = .ok (.istore 4, 2) := by decide +kernel
theorem dX11_alternatives_11 : decode cX11_alternatives 11 = .ok (.aload_n 0, 1) := by decide +kernel
theorem dX11_alternatives_12 : decode cX11_alternatives 12 = .ok (.bipush 124, 2) := by decide +kernel
theorem dX11_alternatives_14 : decode cX11_alternatives 14 = .ok (.invokevirtual 132, 3) := by decide +kernel
theorem dX11_alternatives_17 : decode cX11_alternatives 17 = .ok (.ifCond .eq 44, 3) := by decide +kernel
theorem dX11_alternatives_20 : decode cX11_alternatives 20 = .ok (.aload_n 0, 1) := by decide +kernel
theorem dX11_alternatives_21 : decode cX11_alternatives 21 = .ok (.dup, 1) := by decide +kernel
theorem dX11_alternatives_22 : decode cX11_alternatives 22 = .ok (.getfield 125, 3) := by decide +kernel
theorem dX11_alternatives_25 : decode cX11_alternatives 25 = .ok (.iconst 1, 1) := by decide +kernel
theorem dX11_alternatives_26 : decode cX11_alternatives 26 = .ok (.iadd, 1) := by decide +kernel
theorem dX11_alternatives_27 : decode cX11_alternatives 27 = .ok (.putfield 125, 3) := by decide +kernel
theorem dX11_alternatives_30 : decode cX11_alternatives 30 = .ok (.aload_n 0, 1) := by decide +kernel
theorem dX11_alternatives_31 : decode cX11_alternatives 31 = .ok (.iload_n 1, 1) := by decide +kernel
theorem dX11_alternatives_32 : decode cX11_alternatives 32 = .ok (.invokevirtual 189, 3) := by decide +kernel
theorem dX11_alternatives_35 : decode cX11_alternatives 35 = .ok (.istore 5, 2) := by decide +kernel
theorem dX11_alternatives_37 : decode cX11_alternatives 37 = .ok (.aload_n 0, 1) := by decide +kernel
theorem dX11_alternatives_38 : decode cX11_alternatives 38 = .ok (.getfield 128, 3) := by decide +kernel
theorem dX11_alternatives_41 : decode cX11_alternatives 41 = .ok (.ifCond .eq 17, 3) := by decide +kernel
theorem dX11_alternatives_44 : decode cX11_alternatives 44 = .ok (.aload_n 0, 1) := by decide +kernel
theorem dX11_alternatives_45 : decode cX11_alternatives 45 = .ok (.getfield 45, 3) := by decide +kernel
theorem dX11_alternatives_48 : decode cX11_alternatives 48 = .ok (.iload_n 3, 1) := by decide +kernel
theorem dX11_alternatives_49 : decode cX11_alternatives 49 = .ok (.iload 5, 2) := by decide +kernel
theorem dX11_alternatives_51 : decode cX11_alternatives 51 = .ok (.iastore, 1) := by decide +kernel
theorem dX11_alternatives_52 : decode cX11_alternatives 52 = .ok (.iload 5, 2) := by decide +kernel
theorem dX11_alternatives_54 : decode cX11_alternatives 54 = .ok (.istore_n 3, 1) := by decide +kernel
theorem dX11_alternatives_55 : decode cX11_alternatives 55 = .ok (.iinc 4 1, 3) := by decide +kernel
theorem dX11_alternatives_58 : decode cX11_alternatives 58 = .ok (.goto (-47), 3) := by decide +kernel
theorem dX11_alternatives_61 : decode cX11_alternatives 61 = .ok (.aload_n 0, 1) := by decide +kernel
theorem dX11_alternatives_62 : decode cX11_alternatives 62 = .ok (.getfield 128, 3) := by decide +kernel
theorem dX11_alternatives_65 : decode cX11_alternatives 65 = .ok (.ifCond .eq 20, 3) := by decide +kernel
theorem dX11_alternatives_68 : decode cX11_alternatives 68 = .ok (.iload 4, 2) := by decide +kernel
theorem dX11_alternatives_70 : decode cX11_alternatives 70 = .ok (.iconst 1, 1) := by decide +kernel
theorem dX11_alternatives_71 : decode cX11_alternatives 71 = .ok (.if_icmp .le 14, 3) := by decide +kernel
theorem dX11_alternatives_74 : decode cX11_alternatives 74 = .ok (.aload_n 0, 1) := by decide +kernel
theorem dX11_alternatives_75 : decode cX11_alternatives 75 = .ok (.iconst 4, 1) := by decide +kernel
theorem dX11_alternatives_76 : decode cX11_alternatives 76 = .ok (.iload_n 2, 1) := by decide +kernel
theorem dX11_alternatives_77 : decode cX11_alternatives 77 = .ok (.iload 4, 2) := by decide +kernel
theorem dX11_alternatives_79 : decode cX11_alternatives 79 = .ok (.invokevirtual 153, 3) := by decide +kernel
theorem dX11_alternatives_82 : decode cX11_alternatives 82 = .ok (.goto 4, 3) := by decide +kernel
theorem dX11_alternatives_85 : decode cX11_alternatives 85 = .ok (.iload_n 2, 1) := by decide +kernel
theorem dX11_alternatives_86 : decode cX11_alternatives 86 = .ok (.ireturn, 1) := by decide +kernel
theorem dX11_isRead_0 : decode cX11_isRead 0 = .ok (.aload_n 0, 1) := by decide +kernel
theorem dX11_isRead_1 : decode cX11_isRead 1 = .ok (.aload_n 0, 1) := by decide +kernel
theorem dX11_isRead_2 : decode cX11_isRead 2 = .ok (.getfield 9, 3) := by decide +kernel
theorem dX11_isRead_5 : decode cX11_isRead 5 = .ok (.bipush 65, 2) := by decide +kernel
theorem dX11_isRead_7 : decode cX11_isRead 7 = .ok (.iaload, 1) := by decide +kernel
theorem dX11_isRead_8 : decode cX11_isRead 8 = .ok (.putfield 122, 3) := by decide +kernel
theorem dX11_isRead_11 : decode cX11_isRead 11 = .ok (.iconst 0, 1) := by decide +kernel
theorem dX11_isRead_12 : decode cX11_isRead 12 = .ok (.istore_n 1, 1) := by decide +kernel
theorem dX11_isRead_13 : decode cX11_isRead 13 = .ok (.iload_n 1, 1) := by decide +kernel
theorem dX11_isRead_14 : decode cX11_isRead 14 = .ok (.aload_n 0, 1) := by decide +kernel
theorem dX11_isRead_15 : decode cX11_isRead 15 = .ok (.getfield 122, 3) := by decide +kernel
theorem dX11_isRead_18 : decode cX11_isRead 18 = .ok (.if_icmp .ge 24, 3) := by decide +kernel
theorem dX11_isRead_21 : decode cX11_isRead 21 = .ok (.aload_n 0, 1) := by decide +kernel
theorem dX11_isRead_22 : decode cX11_isRead 22 = .ok (.getfield 21, 3) := by decide +kernel
theorem dX11_isRead_25 : decode cX11_isRead 25 = .ok (.iload_n 1, 1) := by decide +kernel
theorem dX11_isRead_26 : decode cX11_isRead 26 = .ok (.aload_n 0, 1) := by decide +kernel
theorem dX11_isRead_27 : decode cX11_isRead 27 = .ok (.getfield 9, 3) := by decide +kernel
theorem dX11_isRead_30 : decode cX11_isRead 30 = .ok (.bipush 66, 2) := by decide +kernel
theorem dX11_isRead_32 : decode cX11_isRead 32 = .ok (.iload_n 1, 1) := by decide +kernel
theorem dX11_isRead_33 : decode cX11_isRead 33 = .ok (.iadd, 1) := by decide +kernel
theorem dX11_isRead_34 : decode cX11_isRead 34 = .ok (.iaload, 1) := by decide +kernel
theorem dX11_isRead_35 : decode cX11_isRead 35 = .ok (.iastore, 1) := by decide +kernel
theorem dX11_isRead_36 : decode cX11_isRead 36 = .ok (.iinc 1 1, 3) := by decide +kernel
theorem dX11_isRead_39 : decode cX11_isRead 39 = .ok (.goto (-26), 3) := by decide +kernel
theorem dX11_isRead_42 : decode cX11_isRead 42 = .ok (.aload_n 0, 1) := by decide +kernel
theorem dX11_isRead_43 : decode cX11_isRead 43 = .ok (.iconst 0, 1) := by decide +kernel
theorem dX11_isRead_44 : decode cX11_isRead 44 = .ok (.putfield 125, 3) := by decide +kernel
theorem dX11_isRead_47 : decode cX11_isRead 47 = .ok (.aload_n 0, 1) := by decide +kernel
theorem dX11_isRead_48 : decode cX11_isRead 48 = .ok (.iconst 1, 1) := by decide +kernel
theorem dX11_isRead_49 : decode cX11_isRead 49 = .ok (.putfield 128, 3) := by decide +kernel
theorem dX11_isRead_52 : decode cX11_isRead 52 = .ok (.aload_n 0, 1) := by decide +kernel
theorem dX11_isRead_53 : decode cX11_isRead 53 = .ok (.iconst 0, 1) := by decide +kernel
theorem dX11_isRead_54 : decode cX11_isRead 54 = .ok (.putfield 139, 3) := by decide +kernel
theorem dX11_isRead_57 : decode cX11_isRead 57 = .ok (.aload_n 0, 1) := by decide +kernel
theorem dX11_isRead_58 : decode cX11_isRead 58 = .ok (.getfield 122, 3) := by decide +kernel
theorem dX11_isRead_61 : decode cX11_isRead 61 = .ok (.ifCond .le 9, 3) := by decide +kernel
theorem dX11_isRead_64 : decode cX11_isRead 64 = .ok (.aload_n 0, 1) := by decide +kernel
theorem dX11_isRead_65 : decode cX11_isRead 65 = .ok (.iconst 0, 1) := by decide +kernel
theorem dX11_isRead_66 : decode cX11_isRead 66 = .ok (.invokevirtual 150, 3) := by decide +kernel
theorem dX11_isRead_69 : decode cX11_isRead 69 = .ok (.pop, 1) := by decide +kernel
theorem dX11_isRead_70 : decode cX11_isRead 70 = .ok (.aload_n 0, 1) := by decide +kernel
theorem dX11_isRead_71 : decode cX11_isRead 71 = .ok (.getfield 122, 3) := by decide +kernel
theorem dX11_isRead_74 : decode cX11_isRead 74 = .ok (.ifCond .le 7, 3) := by decide +kernel
theorem dX11_isRead_77 : decode cX11_isRead 77 = .ok (.iconst 1, 1) := by decide +kernel
theorem dX11_isRead_78 : decode cX11_isRead 78 = .ok (.goto 4, 3) := by decide +kernel
theorem dX11_isRead_81 : decode cX11_isRead 81 = .ok (.iconst 0, 1) := by decide +kernel
theorem dX11_isRead_82 : decode cX11_isRead 82 = .ok (.ireturn, 1) := by decide +kernel
theorem dX11_pattern_0 : decode cX11_pattern 0 = .ok (.aload_n 0, 1) := by decide +kernel
theorem dX11_pattern_1 : decode cX11_pattern 1 = .ok (.invokevirtual 192, 3) := by decide +kernel
theorem dX11_pattern_4 : decode cX11_pattern 4 = .ok (.aload_n 0, 1) := by decide +kernel
theorem dX11_pattern_5 : decode cX11_pattern 5 = .ok (.iconst 0, 1) := by decide +kernel
theorem dX11_pattern_6 : decode cX11_pattern 6 = .ok (.putfield 139, 3) := by decide +kernel
theorem dX11_pattern_9 : decode cX11_pattern 9 = .ok (.aload_n 0, 1) := by decide +kernel
theorem dX11_pattern_10 : decode cX11_pattern 10 = .ok (.iconst 0, 1) := by decide +kernel
theorem dX11_pattern_11 : decode cX11_pattern 11 = .ok (.invokevirtual 150, 3) := by decide +kernel
theorem dX11_pattern_14 : decode cX11_pattern 14 = .ok (.pop, 1) := by decide +kernel
theorem dX11_pattern_15 : decode cX11_pattern 15 = .ok (.aload_n 0, 1) := by decide +kernel
theorem dX11_pattern_16 : decode cX11_pattern 16 = .ok (.getfield 128, 3) := by decide +kernel
theorem dX11_pattern_19 : decode cX11_pattern 19 = .ok (.ifCond .eq 14, 3) := by decide +kernel
theorem dX11_pattern_22 : decode cX11_pattern 22 = .ok (.aload_n 0, 1) := by decide +kernel
theorem dX11_pattern_23 : decode cX11_pattern 23 = .ok (.getfield 125, 3) := by decide +kernel
theorem dX11_pattern_26 : decode cX11_pattern 26 = .ok (.aload_n 0, 1) := by decide +kernel
theorem dX11_pattern_27 : decode cX11_pattern 27 = .ok (.getfield 122, 3) := by decide +kernel
theorem dX11_pattern_30 : decode cX11_pattern 30 = .ok (.if_icmp .ge 11, 3) := by decide +kernel
theorem dX11_pattern_33 : decode cX11_pattern 33 = .ok (.bipush (-100), 2) := by decide +kernel
theorem dX11_pattern_35 : decode cX11_pattern 35 = .ok (.aload_n 0, 1) := by decide +kernel
theorem dX11_pattern_36 : decode cX11_pattern 36 = .ok (.getfield 125, 3) := by decide +kernel
theorem dX11_pattern_39 : decode cX11_pattern 39 = .ok (.isub, 1) := by decide +kernel
theorem dX11_pattern_40 : decode cX11_pattern 40 = .ok (.ireturn, 1) := by decide +kernel
theorem dX11_pattern_41 : decode cX11_pattern 41 = .ok (.aload_n 0, 1) := by decide +kernel
theorem dX11_pattern_42 : decode cX11_pattern 42 = .ok (.getfield 9, 3) := by decide +kernel
theorem dX11_pattern_45 : decode cX11_pattern 45 = .ok (.sipush 3336, 3) := by decide +kernel
theorem dX11_pattern_48 : decode cX11_pattern 48 = .ok (.iconst 0, 1) := by decide +kernel
theorem dX11_pattern_49 : decode cX11_pattern 49 = .ok (.iastore, 1) := by decide +kernel
theorem dX11_pattern_50 : decode cX11_pattern 50 = .ok (.aload_n 0, 1) := by decide +kernel
theorem dX11_pattern_51 : decode cX11_pattern 51 = .ok (.getfield 9, 3) := by decide +kernel
theorem dX11_pattern_54 : decode cX11_pattern 54 = .ok (.bipush 65, 2) := by decide +kernel
theorem dX11_pattern_56 : decode cX11_pattern 56 = .ok (.aload_n 0, 1) := by decide +kernel
theorem dX11_pattern_57 : decode cX11_pattern 57 = .ok (.getfield 122, 3) := by decide +kernel
theorem dX11_pattern_60 : decode cX11_pattern 60 = .ok (.iastore, 1) := by decide +kernel
theorem dX11_pattern_61 : decode cX11_pattern 61 = .ok (.iconst 0, 1) := by decide +kernel
theorem dX11_pattern_62 : decode cX11_pattern 62 = .ok (.istore_n 1, 1) := by decide +kernel
theorem dX11_pattern_63 : decode cX11_pattern 63 = .ok (.iload_n 1, 1) := by decide +kernel
theorem dX11_pattern_64 : decode cX11_pattern 64 = .ok (.aload_n 0, 1) := by decide +kernel
theorem dX11_pattern_65 : decode cX11_pattern 65 = .ok (.getfield 122, 3) := by decide +kernel
theorem dX11_pattern_68 : decode cX11_pattern 68 = .ok (.if_icmp .ge 24, 3) := by decide +kernel
theorem dX11_pattern_71 : decode cX11_pattern 71 = .ok (.aload_n 0, 1) := by decide +kernel
theorem dX11_pattern_72 : decode cX11_pattern 72 = .ok (.getfield 9, 3) := by decide +kernel
theorem dX11_pattern_75 : decode cX11_pattern 75 = .ok (.bipush 66, 2) := by decide +kernel
theorem dX11_pattern_77 : decode cX11_pattern 77 = .ok (.iload_n 1, 1) := by decide +kernel
theorem dX11_pattern_78 : decode cX11_pattern 78 = .ok (.iadd, 1) := by decide +kernel
theorem dX11_pattern_79 : decode cX11_pattern 79 = .ok (.aload_n 0, 1) := by decide +kernel
theorem dX11_pattern_80 : decode cX11_pattern 80 = .ok (.getfield 21, 3) := by decide +kernel
theorem dX11_pattern_83 : decode cX11_pattern 83 = .ok (.iload_n 1, 1) := by decide +kernel
theorem dX11_pattern_84 : decode cX11_pattern 84 = .ok (.iaload, 1) := by decide +kernel
theorem dX11_pattern_85 : decode cX11_pattern 85 = .ok (.iastore, 1) := by decide +kernel
theorem dX11_pattern_86 : decode cX11_pattern 86 = .ok (.iinc 1 1, 3) := by decide +kernel
theorem dX11_pattern_89 : decode cX11_pattern 89 = .ok (.goto (-26), 3) := by decide +kernel
theorem dX11_pattern_92 : decode cX11_pattern 92 = .ok (.aload_n 0, 1) := by decide +kernel
theorem dX11_pattern_93 : decode cX11_pattern 93 = .ok (.getfield 139, 3) := by decide +kernel
theorem dX11_pattern_96 : decode cX11_pattern 96 = .ok (.ireturn, 1) := by decide +kernel
theorem dX11_part_0 : decode cX11_part 0 = .ok (.aload_n 0, 1) := by decide +kernel
theorem dX11_part_1 : decode cX11_part 1 = .ok (.invokevirtual 195, 3) := by decide +kernel
theorem dX11_part_4 : decode cX11_part 4 = .ok (.ifCond .eq 31, 3) := by decide +kernel
theorem dX11_part_7 : decode cX11_part 7 = .ok (.iload_n 1, 1) := by decide +kernel
theorem dX11_part_8 : decode cX11_part 8 = .ok (.i2l, 1) := by decide +kernel
theorem dX11_part_9 : decode cX11_part 9 = .ok (.lconst 0, 1) := by decide +kernel
theorem dX11_part_10 : decode cX11_part 10 = .ok (.aload_n 0, 1) := by decide +kernel
theorem dX11_part_11 : decode cX11_part 11 = .ok (.getfield 139, 3) := by decide +kernel
theorem dX11_part_14 : decode cX11_part 14 = .ok (.iconst 1, 1) := by decide +kernel
theorem dX11_part_15 : decode cX11_part 15 = .ok (.isub, 1) := by decide +kernel
theorem dX11_part_16 : decode cX11_part 16 = .ok (.i2l, 1) := by decide +kernel
theorem dX11_part_17 : decode cX11_part 17 = .ok (.invokestatic 101, 3) := by decide +kernel
theorem dX11_part_20 : decode cX11_part 20 = .ok (.ifCond .eq 15, 3) := by decide +kernel
theorem dX11_part_23 : decode cX11_part 23 = .ok (.iload_n 2, 1) := by decide +kernel
theorem dX11_part_24 : decode cX11_part 24 = .ok (.i2l, 1) := by decide +kernel
theorem dX11_part_25 : decode cX11_part 25 = .ok (.lconst 0, 1) := by decide +kernel
theorem dX11_part_26 : decode cX11_part 26 = .ok (.ldc2_w 198, 3) := by decide +kernel
theorem dX11_part_29 : decode cX11_part 29 = .ok (.invokestatic 101, 3) := by decide +kernel
theorem dX11_part_32 : decode cX11_part 32 = .ok (.ifCond .ne 5, 3) := by decide +kernel
theorem dX11_part_35 : decode cX11_part 35 = .ok (.iconst (-1), 1) := by decide +kernel
theorem dX11_part_36 : decode cX11_part 36 = .ok (.ireturn, 1) := by decide +kernel
theorem dX11_part_37 : decode cX11_part 37 = .ok (.iload_n 2, 1) := by decide +kernel
theorem dX11_part_38 : decode cX11_part 38 = .ok (.ifCond .ne 12, 3) := by decide +kernel
theorem dX11_part_41 : decode cX11_part 41 = .ok (.aload_n 0, 1) := by decide +kernel
theorem dX11_part_42 : decode cX11_part 42 = .ok (.getfield 24, 3) := by decide +kernel
theorem dX11_part_45 : decode cX11_part 45 = .ok (.iload_n 1, 1) := by decide +kernel
theorem dX11_part_46 : decode cX11_part 46 = .ok (.iaload, 1) := by decide +kernel
theorem dX11_part_47 : decode cX11_part 47 = .ok (.goto 79, 3) := by decide +kernel
theorem dX11_part_50 : decode cX11_part 50 = .ok (.iload_n 2, 1) := by decide +kernel
theorem dX11_part_51 : decode cX11_part 51 = .ok (.iconst 1, 1) := by decide +kernel
theorem dX11_part_52 : decode cX11_part 52 = .ok (.if_icmp .ne 12, 3) := by decide +kernel
theorem dX11_part_55 : decode cX11_part 55 = .ok (.aload_n 0, 1) := by decide +kernel
theorem dX11_part_56 : decode cX11_part 56 = .ok (.getfield 27, 3) := by decide +kernel
theorem dX11_part_59 : decode cX11_part 59 = .ok (.iload_n 1, 1) := by decide +kernel
theorem dX11_part_60 : decode cX11_part 60 = .ok (.iaload, 1) := by decide +kernel
theorem dX11_part_61 : decode cX11_part 61 = .ok (.goto 65, 3) := by decide +kernel
theorem dX11_part_64 : decode cX11_part 64 = .ok (.iload_n 2, 1) := by decide +kernel
theorem dX11_part_65 : decode cX11_part 65 = .ok (.iconst 2, 1) := by decide +kernel
theorem dX11_part_66 : decode cX11_part 66 = .ok (.if_icmp .ne 12, 3) := by decide +kernel
theorem dX11_part_69 : decode cX11_part 69 = .ok (.aload_n 0, 1) := by decide +kernel
theorem dX11_part_70 : decode cX11_part 70 = .ok (.getfield 39, 3) := by decide +kernel
theorem dX11_part_73 : decode cX11_part 73 = .ok (.iload_n 1, 1) := by decide +kernel
theorem dX11_part_74 : decode cX11_part 74 = .ok (.iaload, 1) := by decide +kernel
theorem dX11_part_75 : decode cX11_part 75 = .ok (.goto 51, 3) := by decide +kernel
theorem dX11_part_78 : decode cX11_part 78 = .ok (.iload_n 2, 1) := by decide +kernel
theorem dX11_part_79 : decode cX11_part 79 = .ok (.iconst 3, 1) := by decide +kernel
theorem dX11_part_80 : decode cX11_part 80 = .ok (.if_icmp .ne 12, 3) := by decide +kernel
theorem dX11_part_83 : decode cX11_part 83 = .ok (.aload_n 0, 1) := by decide +kernel
theorem dX11_part_84 : decode cX11_part 84 = .ok (.getfield 30, 3) := by decide +kernel
theorem dX11_part_87 : decode cX11_part 87 = .ok (.iload_n 1, 1) := by decide +kernel
theorem dX11_part_88 : decode cX11_part 88 = .ok (.iaload, 1) := by decide +kernel
theorem dX11_part_89 : decode cX11_part 89 = .ok (.goto 37, 3) := by decide +kernel
theorem dX11_part_92 : decode cX11_part 92 = .ok (.iload_n 2, 1) := by decide +kernel
theorem dX11_part_93 : decode cX11_part 93 = .ok (.iconst 4, 1) := by decide +kernel
theorem dX11_part_94 : decode cX11_part 94 = .ok (.if_icmp .ne 12, 3) := by decide +kernel
theorem dX11_part_97 : decode cX11_part 97 = .ok (.aload_n 0, 1) := by decide +kernel
theorem dX11_part_98 : decode cX11_part 98 = .ok (.getfield 33, 3) := by decide +kernel
theorem dX11_part_101 : decode cX11_part 101 = .ok (.iload_n 1, 1) := by decide +kernel
theorem dX11_part_102 : decode cX11_part 102 = .ok (.iaload, 1) := by decide +kernel
theorem dX11_part_103 : decode cX11_part 103 = .ok (.goto 23, 3) := by decide +kernel
theorem dX11_part_106 : decode cX11_part 106 = .ok (.iload_n 2, 1) := by decide +kernel
theorem dX11_part_107 : decode cX11_part 107 = .ok (.iconst 5, 1) := by decide +kernel
theorem dX11_part_108 : decode cX11_part 108 = .ok (.if_icmp .ne 12, 3) := by decide +kernel
theorem dX11_part_111 : decode cX11_part 111 = .ok (.aload_n 0, 1) := by decide +kernel
theorem dX11_part_112 : decode cX11_part 112 = .ok (.getfield 36, 3) := by decide +kernel
theorem dX11_part_115 : decode cX11_part 115 = .ok (.iload_n 1, 1) := by decide +kernel
theorem dX11_part_116 : decode cX11_part 116 = .ok (.iaload, 1) := by decide +kernel
theorem dX11_part_117 : decode cX11_part 117 = .ok (.goto 9, 3) := by decide +kernel
theorem dX11_part_120 : decode cX11_part 120 = .ok (.aload_n 0, 1) := by decide +kernel
theorem dX11_part_121 : decode cX11_part 121 = .ok (.getfield 48, 3) := by decide +kernel
theorem dX11_part_124 : decode cX11_part 124 = .ok (.iload_n 1, 1) := by decide +kernel
theorem dX11_part_125 : decode cX11_part 125 = .ok (.iaload, 1) := by decide +kernel
theorem dX11_part_126 : decode cX11_part 126 = .ok (.ireturn, 1) := by decide +kernel
theorem dX11_writes_0 : decode cX11_writes 0 = .ok (.aload_n 0, 1) := by decide +kernel
theorem dX11_writes_1 : decode cX11_writes 1 = .ok (.getfield 51, 3) := by decide +kernel
theorem dX11_writes_4 : decode cX11_writes 4 = .ok (.aload_n 0, 1) := by decide +kernel
theorem dX11_writes_5 : decode cX11_writes 5 = .ok (.getfield 200, 3) := by decide +kernel
theorem dX11_writes_8 : decode cX11_writes 8 = .ok (.iload_n 1, 1) := by decide +kernel
theorem dX11_writes_9 : decode cX11_writes 9 = .ok (.iastore, 1) := by decide +kernel
theorem dX11_writes_10 : decode cX11_writes 10 = .ok (.aload_n 0, 1) := by decide +kernel
theorem dX11_writes_11 : decode cX11_writes 11 = .ok (.dup, 1) := by decide +kernel
theorem dX11_writes_12 : decode cX11_writes 12 = .ok (.getfield 200, 3) := by decide +kernel
theorem dX11_writes_15 : decode cX11_writes 15 = .ok (.iconst 1, 1) := by decide +kernel
theorem dX11_writes_16 : decode cX11_writes 16 = .ok (.iadd, 1) := by decide +kernel
theorem dX11_writes_17 : decode cX11_writes 17 = .ok (.putfield 200, 3) := by decide +kernel
theorem dX11_writes_20 : decode cX11_writes 20 = .ok (.return_, 1) := by decide +kernel
theorem dX11_writesNumber_0 : decode cX11_writesNumber 0 = .ok (.iload_n 1, 1) := by decide +kernel
theorem dX11_writesNumber_1 : decode cX11_writesNumber 1 = .ok (.bipush 9, 2) := by decide +kernel
theorem dX11_writesNumber_3 : decode cX11_writesNumber 3 = .ok (.if_icmp .le 14, 3) := by decide +kernel
theorem dX11_writesNumber_6 : decode cX11_writesNumber 6 = .ok (.aload_n 0, 1) := by decide +kernel
theorem dX11_writesNumber_7 : decode cX11_writesNumber 7 = .ok (.bipush 48, 2) := by decide +kernel
theorem dX11_writesNumber_9 : decode cX11_writesNumber 9 = .ok (.iload_n 1, 1) := by decide +kernel
theorem dX11_writesNumber_10 : decode cX11_writesNumber 10 = .ok (.bipush 10, 2) := by decide +kernel
theorem dX11_writesNumber_12 : decode cX11_writesNumber 12 = .ok (.idiv, 1) := by decide +kernel
theorem dX11_writesNumber_13 : decode cX11_writesNumber 13 = .ok (.iadd, 1) := by decide +kernel
theorem dX11_writesNumber_14 : decode cX11_writesNumber 14 = .ok (.invokevirtual 203, 3) := by decide +kernel
theorem dX11_writesNumber_17 : decode cX11_writesNumber 17 = .ok (.aload_n 0, 1) := by decide +kernel
theorem dX11_writesNumber_18 : decode cX11_writesNumber 18 = .ok (.bipush 48, 2) := by decide +kernel
theorem dX11_writesNumber_20 : decode cX11_writesNumber 20 = .ok (.iload_n 1, 1) := by decide +kernel
theorem dX11_writesNumber_21 : decode cX11_writesNumber 21 = .ok (.bipush 10, 2) := by decide +kernel
theorem dX11_writesNumber_23 : decode cX11_writesNumber 23 = .ok (.irem, 1) := by decide +kernel
theorem dX11_writesNumber_24 : decode cX11_writesNumber 24 = .ok (.iadd, 1) := by decide +kernel
theorem dX11_writesNumber_25 : decode cX11_writesNumber 25 = .ok (.invokevirtual 203, 3) := by decide +kernel
theorem dX11_writesNumber_28 : decode cX11_writesNumber 28 = .ok (.return_, 1) := by decide +kernel
theorem dX11_spells_0 : decode cX11_spells 0 = .ok (.iload_n 2, 1) := by decide +kernel
theorem dX11_spells_1 : decode cX11_spells 1 = .ok (.ifCond .eq 9, 3) := by decide +kernel
theorem dX11_spells_4 : decode cX11_spells 4 = .ok (.aload_n 0, 1) := by decide +kernel
theorem dX11_spells_5 : decode cX11_spells 5 = .ok (.bipush 40, 2) := by decide +kernel
theorem dX11_spells_7 : decode cX11_spells 7 = .ok (.invokevirtual 203, 3) := by decide +kernel
theorem dX11_spells_10 : decode cX11_spells 10 = .ok (.iconst 0, 1) := by decide +kernel
theorem dX11_spells_11 : decode cX11_spells 11 = .ok (.istore_n 3, 1) := by decide +kernel
theorem dX11_spells_12 : decode cX11_spells 12 = .ok (.aload_n 0, 1) := by decide +kernel
theorem dX11_spells_13 : decode cX11_spells 13 = .ok (.getfield 24, 3) := by decide +kernel
theorem dX11_spells_16 : decode cX11_spells 16 = .ok (.iload_n 1, 1) := by decide +kernel
theorem dX11_spells_17 : decode cX11_spells 17 = .ok (.iaload, 1) := by decide +kernel
theorem dX11_spells_18 : decode cX11_spells 18 = .ok (.ifCond .ne 19, 3) := by decide +kernel
theorem dX11_spells_21 : decode cX11_spells 21 = .ok (.aload_n 0, 1) := by decide +kernel
theorem dX11_spells_22 : decode cX11_spells 22 = .ok (.bipush 65, 2) := by decide +kernel
theorem dX11_spells_24 : decode cX11_spells 24 = .ok (.aload_n 0, 1) := by decide +kernel
theorem dX11_spells_25 : decode cX11_spells 25 = .ok (.getfield 27, 3) := by decide +kernel
theorem dX11_spells_28 : decode cX11_spells 28 = .ok (.iload_n 1, 1) := by decide +kernel
theorem dX11_spells_29 : decode cX11_spells 29 = .ok (.iaload, 1) := by decide +kernel
theorem dX11_spells_30 : decode cX11_spells 30 = .ok (.iadd, 1) := by decide +kernel
theorem dX11_spells_31 : decode cX11_spells 31 = .ok (.invokevirtual 203, 3) := by decide +kernel
theorem dX11_spells_34 : decode cX11_spells 34 = .ok (.goto 70, 3) := by decide +kernel
theorem dX11_spells_37 : decode cX11_spells 37 = .ok (.aload_n 0, 1) := by decide +kernel
theorem dX11_spells_38 : decode cX11_spells 38 = .ok (.getfield 24, 3) := by decide +kernel
theorem dX11_spells_41 : decode cX11_spells 41 = .ok (.iload_n 1, 1) := by decide +kernel
theorem dX11_spells_42 : decode cX11_spells 42 = .ok (.iaload, 1) := by decide +kernel
theorem dX11_spells_43 : decode cX11_spells 43 = .ok (.iconst 1, 1) := by decide +kernel
theorem dX11_spells_44 : decode cX11_spells 44 = .ok (.if_icmp .eq 13, 3) := by decide +kernel
theorem dX11_spells_47 : decode cX11_spells 47 = .ok (.aload_n 0, 1) := by decide +kernel
theorem dX11_spells_48 : decode cX11_spells 48 = .ok (.getfield 24, 3) := by decide +kernel
theorem dX11_spells_51 : decode cX11_spells 51 = .ok (.iload_n 1, 1) := by decide +kernel
theorem dX11_spells_52 : decode cX11_spells 52 = .ok (.iaload, 1) := by decide +kernel
theorem dX11_spells_53 : decode cX11_spells 53 = .ok (.iconst 2, 1) := by decide +kernel
theorem dX11_spells_54 : decode cX11_spells 54 = .ok (.if_icmp .ne 27, 3) := by decide +kernel
theorem dX11_spells_57 : decode cX11_spells 57 = .ok (.aload_n 0, 1) := by decide +kernel
theorem dX11_spells_58 : decode cX11_spells 58 = .ok (.aload_n 0, 1) := by decide +kernel
theorem dX11_spells_59 : decode cX11_spells 59 = .ok (.getfield 24, 3) := by decide +kernel
theorem dX11_spells_62 : decode cX11_spells 62 = .ok (.iload_n 1, 1) := by decide +kernel
theorem dX11_spells_63 : decode cX11_spells 63 = .ok (.iaload, 1) := by decide +kernel
theorem dX11_spells_64 : decode cX11_spells 64 = .ok (.iconst 1, 1) := by decide +kernel
theorem dX11_spells_65 : decode cX11_spells 65 = .ok (.if_icmp .ne 8, 3) := by decide +kernel
theorem dX11_spells_68 : decode cX11_spells 68 = .ok (.bipush 94, 2) := by decide +kernel
theorem dX11_spells_70 : decode cX11_spells 70 = .ok (.goto 5, 3) := by decide +kernel
theorem dX11_spells_73 : decode cX11_spells 73 = .ok (.bipush 36, 2) := by decide +kernel
theorem dX11_spells_75 : decode cX11_spells 75 = .ok (.invokevirtual 203, 3) := by decide +kernel
theorem dX11_spells_78 : decode cX11_spells 78 = .ok (.goto 26, 3) := by decide +kernel
theorem dX11_spells_81 : decode cX11_spells 81 = .ok (.aload_n 0, 1) := by decide +kernel
theorem dX11_spells_82 : decode cX11_spells 82 = .ok (.getfield 24, 3) := by decide +kernel
theorem dX11_spells_85 : decode cX11_spells 85 = .ok (.iload_n 1, 1) := by decide +kernel
theorem dX11_spells_86 : decode cX11_spells 86 = .ok (.iaload, 1) := by decide +kernel
theorem dX11_spells_87 : decode cX11_spells 87 = .ok (.bipush 6, 2) := by decide +kernel
theorem dX11_spells_89 : decode cX11_spells 89 = .ok (.if_icmp .ne 15, 3) := by decide +kernel
theorem dX11_spells_92 : decode cX11_spells 92 = .ok (.aload_n 0, 1) := by decide +kernel
theorem dX11_spells_93 : decode cX11_spells 93 = .ok (.bipush 37, 2) := by decide +kernel
theorem dX11_spells_95 : decode cX11_spells 95 = .ok (.invokevirtual 203, 3) := by decide +kernel
theorem dX11_spells_98 : decode cX11_spells 98 = .ok (.aload_n 0, 1) := by decide +kernel
theorem dX11_spells_99 : decode cX11_spells 99 = .ok (.bipush 40, 2) := by decide +kernel
theorem dX11_spells_101 : decode cX11_spells 101 = .ok (.invokevirtual 203, 3) := by decide +kernel
theorem dX11_spells_104 : decode cX11_spells 104 = .ok (.aload_n 0, 1) := by decide +kernel
theorem dX11_spells_105 : decode cX11_spells 105 = .ok (.getfield 42, 3) := by decide +kernel
theorem dX11_spells_108 : decode cX11_spells 108 = .ok (.iload_n 1, 1) := by decide +kernel
theorem dX11_spells_109 : decode cX11_spells 109 = .ok (.iaload, 1) := by decide +kernel
theorem dX11_spells_110 : decode cX11_spells 110 = .ok (.istore 4, 2) := by decide +kernel
theorem dX11_spells_112 : decode cX11_spells 112 = .ok (.iload 4, 2) := by decide +kernel
theorem dX11_spells_114 : decode cX11_spells 114 = .ok (.ifCond .lt 167, 3) := by decide +kernel
theorem dX11_spells_117 : decode cX11_spells 117 = .ok (.iload_n 3, 1) := by decide +kernel
theorem dX11_spells_118 : decode cX11_spells 118 = .ok (.ifCond .eq 8, 3) := by decide +kernel
theorem dX11_spells_121 : decode cX11_spells 121 = .ok (.aload_n 0, 1) := by decide +kernel
theorem dX11_spells_122 : decode cX11_spells 122 = .ok (.iload_n 3, 1) := by decide +kernel
theorem dX11_spells_123 : decode cX11_spells 123 = .ok (.invokevirtual 203, 3) := by decide +kernel
theorem dX11_spells_126 : decode cX11_spells 126 = .ok (.aload_n 0, 1) := by decide +kernel
theorem dX11_spells_127 : decode cX11_spells 127 = .ok (.getfield 24, 3) := by decide +kernel
theorem dX11_spells_130 : decode cX11_spells 130 = .ok (.iload_n 1, 1) := by decide +kernel
theorem dX11_spells_131 : decode cX11_spells 131 = .ok (.iaload, 1) := by decide +kernel
theorem dX11_spells_132 : decode cX11_spells 132 = .ok (.iconst 4, 1) := by decide +kernel
theorem dX11_spells_133 : decode cX11_spells 133 = .ok (.if_icmp .ne 8, 3) := by decide +kernel
theorem dX11_spells_136 : decode cX11_spells 136 = .ok (.bipush 124, 2) := by decide +kernel
theorem dX11_spells_138 : decode cX11_spells 138 = .ok (.goto 20, 3) := by decide +kernel
theorem dX11_spells_141 : decode cX11_spells 141 = .ok (.aload_n 0, 1) := by decide +kernel
theorem dX11_spells_142 : decode cX11_spells 142 = .ok (.getfield 24, 3) := by decide +kernel
theorem dX11_spells_145 : decode cX11_spells 145 = .ok (.iload_n 1, 1) := by decide +kernel
theorem dX11_spells_146 : decode cX11_spells 146 = .ok (.iaload, 1) := by decide +kernel
theorem dX11_spells_147 : decode cX11_spells 147 = .ok (.bipush 6, 2) := by decide +kernel
theorem dX11_spells_149 : decode cX11_spells 149 = .ok (.if_icmp .ne 8, 3) := by decide +kernel
theorem dX11_spells_152 : decode cX11_spells 152 = .ok (.bipush 44, 2) := by decide +kernel
theorem dX11_spells_154 : decode cX11_spells 154 = .ok (.goto 4, 3) := by decide +kernel
theorem dX11_spells_157 : decode cX11_spells 157 = .ok (.iconst 0, 1) := by decide +kernel
theorem dX11_spells_158 : decode cX11_spells 158 = .ok (.istore_n 3, 1) := by decide +kernel
theorem dX11_spells_159 : decode cX11_spells 159 = .ok (.aload_n 0, 1) := by decide +kernel
theorem dX11_spells_160 : decode cX11_spells 160 = .ok (.getfield 24, 3) := by decide +kernel
theorem dX11_spells_163 : decode cX11_spells 163 = .ok (.iload 4, 2) := by decide +kernel
theorem dX11_spells_165 : decode cX11_spells 165 = .ok (.iaload, 1) := by decide +kernel
theorem dX11_spells_166 : decode cX11_spells 166 = .ok (.iconst 4, 1) := by decide +kernel
theorem dX11_spells_167 : decode cX11_spells 167 = .ok (.if_icmp .eq 14, 3) := by decide +kernel
theorem dX11_spells_170 : decode cX11_spells 170 = .ok (.aload_n 0, 1) := by decide +kernel
theorem dX11_spells_171 : decode cX11_spells 171 = .ok (.getfield 24, 3) := by decide +kernel
theorem dX11_spells_174 : decode cX11_spells 174 = .ok (.iload 4, 2) := by decide +kernel
theorem dX11_spells_176 : decode cX11_spells 176 = .ok (.iaload, 1) := by decide +kernel
theorem dX11_spells_177 : decode cX11_spells 177 = .ok (.iconst 3, 1) := by decide +kernel
theorem dX11_spells_178 : decode cX11_spells 178 = .ok (.if_icmp .ne 7, 3) := by decide +kernel
theorem dX11_spells_181 : decode cX11_spells 181 = .ok (.iconst 1, 1) := by decide +kernel
theorem dX11_spells_182 : decode cX11_spells 182 = .ok (.goto 4, 3) := by decide +kernel
theorem dX11_spells_185 : decode cX11_spells 185 = .ok (.iconst 0, 1) := by decide +kernel
theorem dX11_spells_186 : decode cX11_spells 186 = .ok (.istore 5, 2) := by decide +kernel
theorem dX11_spells_188 : decode cX11_spells 188 = .ok (.aload_n 0, 1) := by decide +kernel
theorem dX11_spells_189 : decode cX11_spells 189 = .ok (.iload 4, 2) := by decide +kernel
theorem dX11_spells_191 : decode cX11_spells 191 = .ok (.aload_n 0, 1) := by decide +kernel
theorem dX11_spells_192 : decode cX11_spells 192 = .ok (.getfield 24, 3) := by decide +kernel
theorem dX11_spells_195 : decode cX11_spells 195 = .ok (.iload_n 1, 1) := by decide +kernel
theorem dX11_spells_196 : decode cX11_spells 196 = .ok (.iaload, 1) := by decide +kernel
theorem dX11_spells_197 : decode cX11_spells 197 = .ok (.iconst 5, 1) := by decide +kernel
theorem dX11_spells_198 : decode cX11_spells 198 = .ok (.if_icmp .ne 27, 3) := by decide +kernel
theorem dX11_spells_201 : decode cX11_spells 201 = .ok (.iload 5, 2) := by decide +kernel
theorem dX11_spells_203 : decode cX11_spells 203 = .ok (.ifCond .ne 14, 3) := by decide +kernel
theorem dX11_spells_206 : decode cX11_spells 206 = .ok (.aload_n 0, 1) := by decide +kernel
theorem dX11_spells_207 : decode cX11_spells 207 = .ok (.getfield 24, 3) := by decide +kernel
theorem dX11_spells_210 : decode cX11_spells 210 = .ok (.iload 4, 2) := by decide +kernel
theorem dX11_spells_212 : decode cX11_spells 212 = .ok (.iaload, 1) := by decide +kernel
theorem dX11_spells_213 : decode cX11_spells 213 = .ok (.iconst 5, 1) := by decide +kernel
theorem dX11_spells_214 : decode cX11_spells 214 = .ok (.if_icmp .ne 7, 3) := by decide +kernel
theorem dX11_spells_217 : decode cX11_spells 217 = .ok (.iconst 1, 1) := by decide +kernel
theorem dX11_spells_218 : decode cX11_spells 218 = .ok (.goto 48, 3) := by decide +kernel
theorem dX11_spells_221 : decode cX11_spells 221 = .ok (.iconst 0, 1) := by decide +kernel
theorem dX11_spells_222 : decode cX11_spells 222 = .ok (.goto 44, 3) := by decide +kernel
theorem dX11_spells_225 : decode cX11_spells 225 = .ok (.aload_n 0, 1) := by decide +kernel
theorem dX11_spells_226 : decode cX11_spells 226 = .ok (.getfield 24, 3) := by decide +kernel
theorem dX11_spells_229 : decode cX11_spells 229 = .ok (.iload_n 1, 1) := by decide +kernel
theorem dX11_spells_230 : decode cX11_spells 230 = .ok (.iaload, 1) := by decide +kernel
theorem dX11_spells_231 : decode cX11_spells 231 = .ok (.iconst 3, 1) := by decide +kernel
theorem dX11_spells_232 : decode cX11_spells 232 = .ok (.if_icmp .ne 8, 3) := by decide +kernel
theorem dX11_spells_235 : decode cX11_spells 235 = .ok (.iload 5, 2) := by decide +kernel
theorem dX11_spells_237 : decode cX11_spells 237 = .ok (.goto 29, 3) := by decide +kernel
theorem dX11_spells_240 : decode cX11_spells 240 = .ok (.aload_n 0, 1) := by decide +kernel
theorem dX11_spells_241 : decode cX11_spells 241 = .ok (.getfield 24, 3) := by decide +kernel
theorem dX11_spells_244 : decode cX11_spells 244 = .ok (.iload_n 1, 1) := by decide +kernel
theorem dX11_spells_245 : decode cX11_spells 245 = .ok (.iaload, 1) := by decide +kernel
theorem dX11_spells_246 : decode cX11_spells 246 = .ok (.iconst 4, 1) := by decide +kernel
theorem dX11_spells_247 : decode cX11_spells 247 = .ok (.if_icmp .ne 18, 3) := by decide +kernel
theorem dX11_spells_250 : decode cX11_spells 250 = .ok (.aload_n 0, 1) := by decide +kernel
theorem dX11_spells_251 : decode cX11_spells 251 = .ok (.getfield 24, 3) := by decide +kernel
theorem dX11_spells_254 : decode cX11_spells 254 = .ok (.iload 4, 2) := by decide +kernel
theorem dX11_spells_256 : decode cX11_spells 256 = .ok (.iaload, 1) := by decide +kernel
theorem dX11_spells_257 : decode cX11_spells 257 = .ok (.iconst 4, 1) := by decide +kernel
theorem dX11_spells_258 : decode cX11_spells 258 = .ok (.if_icmp .ne 7, 3) := by decide +kernel
theorem dX11_spells_261 : decode cX11_spells 261 = .ok (.iconst 1, 1) := by decide +kernel
theorem dX11_spells_262 : decode cX11_spells 262 = .ok (.goto 4, 3) := by decide +kernel
theorem dX11_spells_265 : decode cX11_spells 265 = .ok (.iconst 0, 1) := by decide +kernel
theorem dX11_spells_266 : decode cX11_spells 266 = .ok (.invokevirtual 206, 3) := by decide +kernel
theorem dX11_spells_269 : decode cX11_spells 269 = .ok (.aload_n 0, 1) := by decide +kernel
theorem dX11_spells_270 : decode cX11_spells 270 = .ok (.getfield 45, 3) := by decide +kernel
theorem dX11_spells_273 : decode cX11_spells 273 = .ok (.iload 4, 2) := by decide +kernel
theorem dX11_spells_275 : decode cX11_spells 275 = .ok (.iaload, 1) := by decide +kernel
theorem dX11_spells_276 : decode cX11_spells 276 = .ok (.istore 4, 2) := by decide +kernel
theorem dX11_spells_278 : decode cX11_spells 278 = .ok (.goto (-166), 3) := by decide +kernel
theorem dX11_spells_281 : decode cX11_spells 281 = .ok (.aload_n 0, 1) := by decide +kernel
theorem dX11_spells_282 : decode cX11_spells 282 = .ok (.getfield 24, 3) := by decide +kernel
theorem dX11_spells_285 : decode cX11_spells 285 = .ok (.iload_n 1, 1) := by decide +kernel
theorem dX11_spells_286 : decode cX11_spells 286 = .ok (.iaload, 1) := by decide +kernel
theorem dX11_spells_287 : decode cX11_spells 287 = .ok (.bipush 6, 2) := by decide +kernel
theorem dX11_spells_289 : decode cX11_spells 289 = .ok (.if_icmp .ne 9, 3) := by decide +kernel
theorem dX11_spells_292 : decode cX11_spells 292 = .ok (.aload_n 0, 1) := by decide +kernel
theorem dX11_spells_293 : decode cX11_spells 293 = .ok (.bipush 41, 2) := by decide +kernel
theorem dX11_spells_295 : decode cX11_spells 295 = .ok (.invokevirtual 203, 3) := by decide +kernel
theorem dX11_spells_298 : decode cX11_spells 298 = .ok (.aload_n 0, 1) := by decide +kernel
theorem dX11_spells_299 : decode cX11_spells 299 = .ok (.getfield 24, 3) := by decide +kernel
theorem dX11_spells_302 : decode cX11_spells 302 = .ok (.iload_n 1, 1) := by decide +kernel
theorem dX11_spells_303 : decode cX11_spells 303 = .ok (.iaload, 1) := by decide +kernel
theorem dX11_spells_304 : decode cX11_spells 304 = .ok (.iconst 5, 1) := by decide +kernel
theorem dX11_spells_305 : decode cX11_spells 305 = .ok (.if_icmp .ne 8, 3) := by decide +kernel
theorem dX11_spells_308 : decode cX11_spells 308 = .ok (.aload_n 0, 1) := by decide +kernel
theorem dX11_spells_309 : decode cX11_spells 309 = .ok (.iload_n 1, 1) := by decide +kernel
theorem dX11_spells_310 : decode cX11_spells 310 = .ok (.invokevirtual 210, 3) := by decide +kernel
theorem dX11_spells_313 : decode cX11_spells 313 = .ok (.iload_n 2, 1) := by decide +kernel
theorem dX11_spells_314 : decode cX11_spells 314 = .ok (.ifCond .eq 9, 3) := by decide +kernel
theorem dX11_spells_317 : decode cX11_spells 317 = .ok (.aload_n 0, 1) := by decide +kernel
theorem dX11_spells_318 : decode cX11_spells 318 = .ok (.bipush 41, 2) := by decide +kernel
theorem dX11_spells_320 : decode cX11_spells 320 = .ok (.invokevirtual 203, 3) := by decide +kernel
theorem dX11_spells_323 : decode cX11_spells 323 = .ok (.return_, 1) := by decide +kernel
theorem dX11_times_0 : decode cX11_times 0 = .ok (.aload_n 0, 1) := by decide +kernel
theorem dX11_times_1 : decode cX11_times 1 = .ok (.getfield 33, 3) := by decide +kernel
theorem dX11_times_4 : decode cX11_times 4 = .ok (.iload_n 1, 1) := by decide +kernel
theorem dX11_times_5 : decode cX11_times 5 = .ok (.iaload, 1) := by decide +kernel
theorem dX11_times_6 : decode cX11_times 6 = .ok (.bipush 100, 2) := by decide +kernel
theorem dX11_times_8 : decode cX11_times 8 = .ok (.if_icmp .ne 36, 3) := by decide +kernel
theorem dX11_times_11 : decode cX11_times 11 = .ok (.aload_n 0, 1) := by decide +kernel
theorem dX11_times_12 : decode cX11_times 12 = .ok (.getfield 30, 3) := by decide +kernel
theorem dX11_times_15 : decode cX11_times 15 = .ok (.iload_n 1, 1) := by decide +kernel
theorem dX11_times_16 : decode cX11_times 16 = .ok (.iaload, 1) := by decide +kernel
theorem dX11_times_17 : decode cX11_times 17 = .ok (.iconst 2, 1) := by decide +kernel
theorem dX11_times_18 : decode cX11_times 18 = .ok (.if_icmp .ge 26, 3) := by decide +kernel
theorem dX11_times_21 : decode cX11_times 21 = .ok (.aload_n 0, 1) := by decide +kernel
theorem dX11_times_22 : decode cX11_times 22 = .ok (.aload_n 0, 1) := by decide +kernel
theorem dX11_times_23 : decode cX11_times 23 = .ok (.getfield 30, 3) := by decide +kernel
theorem dX11_times_26 : decode cX11_times 26 = .ok (.iload_n 1, 1) := by decide +kernel
theorem dX11_times_27 : decode cX11_times 27 = .ok (.iaload, 1) := by decide +kernel
theorem dX11_times_28 : decode cX11_times 28 = .ok (.ifCond .ne 8, 3) := by decide +kernel
theorem dX11_times_31 : decode cX11_times 31 = .ok (.bipush 42, 2) := by decide +kernel
theorem dX11_times_33 : decode cX11_times 33 = .ok (.goto 5, 3) := by decide +kernel
theorem dX11_times_36 : decode cX11_times 36 = .ok (.bipush 43, 2) := by decide +kernel
theorem dX11_times_38 : decode cX11_times 38 = .ok (.invokevirtual 203, 3) := by decide +kernel
theorem dX11_times_41 : decode cX11_times 41 = .ok (.goto 95, 3) := by decide +kernel
theorem dX11_times_44 : decode cX11_times 44 = .ok (.aload_n 0, 1) := by decide +kernel
theorem dX11_times_45 : decode cX11_times 45 = .ok (.getfield 30, 3) := by decide +kernel
theorem dX11_times_48 : decode cX11_times 48 = .ok (.iload_n 1, 1) := by decide +kernel
theorem dX11_times_49 : decode cX11_times 49 = .ok (.iaload, 1) := by decide +kernel
theorem dX11_times_50 : decode cX11_times 50 = .ok (.ifCond .ne 22, 3) := by decide +kernel
theorem dX11_times_53 : decode cX11_times 53 = .ok (.aload_n 0, 1) := by decide +kernel
theorem dX11_times_54 : decode cX11_times 54 = .ok (.getfield 33, 3) := by decide +kernel
theorem dX11_times_57 : decode cX11_times 57 = .ok (.iload_n 1, 1) := by decide +kernel
theorem dX11_times_58 : decode cX11_times 58 = .ok (.iaload, 1) := by decide +kernel
theorem dX11_times_59 : decode cX11_times 59 = .ok (.iconst 1, 1) := by decide +kernel
theorem dX11_times_60 : decode cX11_times 60 = .ok (.if_icmp .ne 12, 3) := by decide +kernel
theorem dX11_times_63 : decode cX11_times 63 = .ok (.aload_n 0, 1) := by decide +kernel
theorem dX11_times_64 : decode cX11_times 64 = .ok (.bipush 63, 2) := by decide +kernel
theorem dX11_times_66 : decode cX11_times 66 = .ok (.invokevirtual 203, 3) := by decide +kernel
theorem dX11_times_69 : decode cX11_times 69 = .ok (.goto 67, 3) := by decide +kernel
theorem dX11_times_72 : decode cX11_times 72 = .ok (.aload_n 0, 1) := by decide +kernel
theorem dX11_times_73 : decode cX11_times 73 = .ok (.bipush 123, 2) := by decide +kernel
theorem dX11_times_75 : decode cX11_times 75 = .ok (.invokevirtual 203, 3) := by decide +kernel
theorem dX11_times_78 : decode cX11_times 78 = .ok (.aload_n 0, 1) := by decide +kernel
theorem dX11_times_79 : decode cX11_times 79 = .ok (.aload_n 0, 1) := by decide +kernel
theorem dX11_times_80 : decode cX11_times 80 = .ok (.getfield 30, 3) := by decide +kernel
theorem dX11_times_83 : decode cX11_times 83 = .ok (.iload_n 1, 1) := by decide +kernel
theorem dX11_times_84 : decode cX11_times 84 = .ok (.iaload, 1) := by decide +kernel
theorem dX11_times_85 : decode cX11_times 85 = .ok (.invokevirtual 213, 3) := by decide +kernel
theorem dX11_times_88 : decode cX11_times 88 = .ok (.aload_n 0, 1) := by decide +kernel
theorem dX11_times_89 : decode cX11_times 89 = .ok (.getfield 33, 3) := by decide +kernel
theorem dX11_times_92 : decode cX11_times 92 = .ok (.iload_n 1, 1) := by decide +kernel
theorem dX11_times_93 : decode cX11_times 93 = .ok (.iaload, 1) := by decide +kernel
theorem dX11_times_94 : decode cX11_times 94 = .ok (.aload_n 0, 1) := by decide +kernel
theorem dX11_times_95 : decode cX11_times 95 = .ok (.getfield 30, 3) := by decide +kernel
theorem dX11_times_98 : decode cX11_times 98 = .ok (.iload_n 1, 1) := by decide +kernel
theorem dX11_times_99 : decode cX11_times 99 = .ok (.iaload, 1) := by decide +kernel
theorem dX11_times_100 : decode cX11_times 100 = .ok (.if_icmp .eq 30, 3) := by decide +kernel
theorem dX11_times_103 : decode cX11_times 103 = .ok (.aload_n 0, 1) := by decide +kernel
theorem dX11_times_104 : decode cX11_times 104 = .ok (.bipush 44, 2) := by decide +kernel
