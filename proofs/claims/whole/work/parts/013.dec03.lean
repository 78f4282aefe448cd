/-! decode rows, 3 -/
theorem dX6_allows_11 : decode cX6_allows 11 = .ok (.iload_n 2, 1) := by decide +kernel
theorem dX6_allows_12 : decode cX6_allows 12 = .ok (.bipush 32, 2) := by decide +kernel
theorem dX6_allows_14 : decode cX6_allows 14 = .ok (.if_icmp .lt 5, 3) := by decide +kernel
theorem dX6_allows_17 : decode cX6_allows 17 = .ok (.iconst 0, 1) := by decide +kernel
theorem dX6_allows_18 : decode cX6_allows 18 = .ok (.ireturn, 1) := by decide +kernel
theorem dX6_allows_19 : decode cX6_allows 19 = .ok (.aload_n 0, 1) := by decide +kernel
theorem dX6_allows_20 : decode cX6_allows 20 = .ok (.getfield 21, 3) := by decide +kernel
theorem dX6_allows_23 : decode cX6_allows 23 = .ok (.getfield 144, 3) := by decide +kernel
theorem dX6_allows_26 : decode cX6_allows 26 = .ok (.iload_n 1, 1) := by decide +kernel
theorem dX6_allows_27 : decode cX6_allows 27 = .ok (.aaload, 1) := by decide +kernel
theorem dX6_allows_28 : decode cX6_allows 28 = .ok (.astore_n 3, 1) := by decide +kernel
theorem dX6_allows_29 : decode cX6_allows 29 = .ok (.aload_n 0, 1) := by decide +kernel
theorem dX6_allows_30 : decode cX6_allows 30 = .ok (.iload_n 2, 1) := by decide +kernel
theorem dX6_allows_31 : decode cX6_allows 31 = .ok (.putfield 73, 3) := by decide +kernel
theorem dX6_allows_34 : decode cX6_allows 34 = .ok (.aload_n 0, 1) := by decide +kernel
theorem dX6_allows_35 : decode cX6_allows 35 = .ok (.getfield 9, 3) := by decide +kernel
theorem dX6_allows_38 : decode cX6_allows 38 = .ok (.iload_n 2, 1) := by decide +kernel
theorem dX6_allows_39 : decode cX6_allows 39 = .ok (.iload_n 1, 1) := by decide +kernel
theorem dX6_allows_40 : decode cX6_allows 40 = .ok (.iastore, 1) := by decide +kernel
theorem dX6_allows_41 : decode cX6_allows 41 = .ok (.aload_n 3, 1) := by decide +kernel
theorem dX6_allows_42 : decode cX6_allows 42 = .ok (.ifnull 12, 3) := by decide +kernel
theorem dX6_allows_45 : decode cX6_allows 45 = .ok (.aload_n 3, 1) := by decide +kernel
theorem dX6_allows_46 : decode cX6_allows 46 = .ok (.aload_n 0, 1) := by decide +kernel
theorem dX6_allows_47 : decode cX6_allows 47 = .ok (.iload_n 2, 1) := by decide +kernel
theorem dX6_allows_48 : decode cX6_allows 48 = .ok (.invokevirtual 148, 3) := by decide +kernel
theorem dX6_allows_51 : decode cX6_allows 51 = .ok (.ifCond .eq 7, 3) := by decide +kernel
theorem dX6_allows_54 : decode cX6_allows 54 = .ok (.iconst 1, 1) := by decide +kernel
theorem dX6_allows_55 : decode cX6_allows 55 = .ok (.goto 4, 3) := by decide +kernel
theorem dX6_allows_58 : decode cX6_allows 58 = .ok (.iconst 0, 1) := by decide +kernel
theorem dX6_allows_59 : decode cX6_allows 59 = .ok (.ireturn, 1) := by decide +kernel
theorem dX6_earliest_0 : decode cX6_earliest 0 = .ok (.aload_n 0, 1) := by decide +kernel
theorem dX6_earliest_1 : decode cX6_earliest 1 = .ok (.getfield 73, 3) := by decide +kernel
theorem dX6_earliest_4 : decode cX6_earliest 4 = .ok (.istore_n 3, 1) := by decide +kernel
theorem dX6_earliest_5 : decode cX6_earliest 5 = .ok (.iload_n 3, 1) := by decide +kernel
theorem dX6_earliest_6 : decode cX6_earliest 6 = .ok (.iload_n 2, 1) := by decide +kernel
theorem dX6_earliest_7 : decode cX6_earliest 7 = .ok (.if_icmp .gt 20, 3) := by decide +kernel
theorem dX6_earliest_10 : decode cX6_earliest 10 = .ok (.aload_n 0, 1) := by decide +kernel
theorem dX6_earliest_11 : decode cX6_earliest 11 = .ok (.iload_n 3, 1) := by decide +kernel
theorem dX6_earliest_12 : decode cX6_earliest 12 = .ok (.invokevirtual 171, 3) := by decide +kernel
theorem dX6_earliest_15 : decode cX6_earliest 15 = .ok (.iload_n 1, 1) := by decide +kernel
theorem dX6_earliest_16 : decode cX6_earliest 16 = .ok (.if_icmp .ne 5, 3) := by decide +kernel
theorem dX6_earliest_19 : decode cX6_earliest 19 = .ok (.iload_n 3, 1) := by decide +kernel
theorem dX6_earliest_20 : decode cX6_earliest 20 = .ok (.ireturn, 1) := by decide +kernel
theorem dX6_earliest_21 : decode cX6_earliest 21 = .ok (.iinc 3 1, 3) := by decide +kernel
theorem dX6_earliest_24 : decode cX6_earliest 24 = .ok (.goto (-19), 3) := by decide +kernel
theorem dX6_earliest_27 : decode cX6_earliest 27 = .ok (.iconst (-1), 1) := by decide +kernel
theorem dX6_earliest_28 : decode cX6_earliest 28 = .ok (.ireturn, 1) := by decide +kernel
theorem dX6_latest_0 : decode cX6_latest 0 = .ok (.iload_n 2, 1) := by decide +kernel
theorem dX6_latest_1 : decode cX6_latest 1 = .ok (.istore_n 3, 1) := by decide +kernel
theorem dX6_latest_2 : decode cX6_latest 2 = .ok (.iload_n 3, 1) := by decide +kernel
theorem dX6_latest_3 : decode cX6_latest 3 = .ok (.aload_n 0, 1) := by decide +kernel
theorem dX6_latest_4 : decode cX6_latest 4 = .ok (.getfield 73, 3) := by decide +kernel
theorem dX6_latest_7 : decode cX6_latest 7 = .ok (.if_icmp .lt 20, 3) := by decide +kernel
theorem dX6_latest_10 : decode cX6_latest 10 = .ok (.aload_n 0, 1) := by decide +kernel
theorem dX6_latest_11 : decode cX6_latest 11 = .ok (.iload_n 3, 1) := by decide +kernel
theorem dX6_latest_12 : decode cX6_latest 12 = .ok (.invokevirtual 171, 3) := by decide +kernel
theorem dX6_latest_15 : decode cX6_latest 15 = .ok (.iload_n 1, 1) := by decide +kernel
theorem dX6_latest_16 : decode cX6_latest 16 = .ok (.if_icmp .ne 5, 3) := by decide +kernel
theorem dX6_latest_19 : decode cX6_latest 19 = .ok (.iload_n 3, 1) := by decide +kernel
theorem dX6_latest_20 : decode cX6_latest 20 = .ok (.ireturn, 1) := by decide +kernel
theorem dX6_latest_21 : decode cX6_latest 21 = .ok (.iinc 3 (-1), 3) := by decide +kernel
theorem dX6_latest_24 : decode cX6_latest 24 = .ok (.goto (-22), 3) := by decide +kernel
theorem dX6_latest_27 : decode cX6_latest 27 = .ok (.iconst (-1), 1) := by decide +kernel
theorem dX6_latest_28 : decode cX6_latest 28 = .ok (.ireturn, 1) := by decide +kernel
theorem dX6_count_0 : decode cX6_count 0 = .ok (.iconst 0, 1) := by decide +kernel
theorem dX6_count_1 : decode cX6_count 1 = .ok (.istore_n 3, 1) := by decide +kernel
theorem dX6_count_2 : decode cX6_count 2 = .ok (.aload_n 0, 1) := by decide +kernel
theorem dX6_count_3 : decode cX6_count 3 = .ok (.getfield 73, 3) := by decide +kernel
theorem dX6_count_6 : decode cX6_count 6 = .ok (.istore 4, 2) := by decide +kernel
theorem dX6_count_8 : decode cX6_count 8 = .ok (.iload 4, 2) := by decide +kernel
theorem dX6_count_10 : decode cX6_count 10 = .ok (.iload_n 2, 1) := by decide +kernel
theorem dX6_count_11 : decode cX6_count 11 = .ok (.if_icmp .gt 22, 3) := by decide +kernel
theorem dX6_count_14 : decode cX6_count 14 = .ok (.aload_n 0, 1) := by decide +kernel
theorem dX6_count_15 : decode cX6_count 15 = .ok (.iload 4, 2) := by decide +kernel
theorem dX6_count_17 : decode cX6_count 17 = .ok (.invokevirtual 171, 3) := by decide +kernel
theorem dX6_count_20 : decode cX6_count 20 = .ok (.iload_n 1, 1) := by decide +kernel
theorem dX6_count_21 : decode cX6_count 21 = .ok (.if_icmp .ne 6, 3) := by decide +kernel
theorem dX6_count_24 : decode cX6_count 24 = .ok (.iinc 3 1, 3) := by decide +kernel
theorem dX6_count_27 : decode cX6_count 27 = .ok (.iinc 4 1, 3) := by decide +kernel
theorem dX6_count_30 : decode cX6_count 30 = .ok (.goto (-22), 3) := by decide +kernel
theorem dX6_count_33 : decode cX6_count 33 = .ok (.iload_n 3, 1) := by decide +kernel
theorem dX6_count_34 : decode cX6_count 34 = .ok (.ireturn, 1) := by decide +kernel
theorem dX6_sum_0 : decode cX6_sum 0 = .ok (.iconst 0, 1) := by decide +kernel
theorem dX6_sum_1 : decode cX6_sum 1 = .ok (.istore 4, 2) := by decide +kernel
theorem dX6_sum_3 : decode cX6_sum 3 = .ok (.aload_n 0, 1) := by decide +kernel
theorem dX6_sum_4 : decode cX6_sum 4 = .ok (.getfield 73, 3) := by decide +kernel
theorem dX6_sum_7 : decode cX6_sum 7 = .ok (.istore 5, 2) := by decide +kernel
theorem dX6_sum_9 : decode cX6_sum 9 = .ok (.iload 5, 2) := by decide +kernel
theorem dX6_sum_11 : decode cX6_sum 11 = .ok (.iload_n 3, 1) := by decide +kernel
theorem dX6_sum_12 : decode cX6_sum 12 = .ok (.if_icmp .gt 49, 3) := by decide +kernel
theorem dX6_sum_15 : decode cX6_sum 15 = .ok (.aload_n 0, 1) := by decide +kernel
theorem dX6_sum_16 : decode cX6_sum 16 = .ok (.getfield 21, 3) := by decide +kernel
theorem dX6_sum_19 : decode cX6_sum 19 = .ok (.getfield 31, 3) := by decide +kernel
theorem dX6_sum_22 : decode cX6_sum 22 = .ok (.iload 5, 2) := by decide +kernel
theorem dX6_sum_24 : decode cX6_sum 24 = .ok (.iload_n 2, 1) := by decide +kernel
theorem dX6_sum_25 : decode cX6_sum 25 = .ok (.invokevirtual 174, 3) := by decide +kernel
theorem dX6_sum_28 : decode cX6_sum 28 = .ok (.istore 6, 2) := by decide +kernel
theorem dX6_sum_30 : decode cX6_sum 30 = .ok (.aload_n 0, 1) := by decide +kernel
theorem dX6_sum_31 : decode cX6_sum 31 = .ok (.iload 5, 2) := by decide +kernel
theorem dX6_sum_33 : decode cX6_sum 33 = .ok (.invokevirtual 171, 3) := by decide +kernel
theorem dX6_sum_36 : decode cX6_sum 36 = .ok (.iload_n 1, 1) := by decide +kernel
theorem dX6_sum_37 : decode cX6_sum 37 = .ok (.if_icmp .ne 18, 3) := by decide +kernel
theorem dX6_sum_40 : decode cX6_sum 40 = .ok (.iload 6, 2) := by decide +kernel
theorem dX6_sum_42 : decode cX6_sum 42 = .ok (.sipush 1000, 3) := by decide +kernel
theorem dX6_sum_45 : decode cX6_sum 45 = .ok (.if_icmp .eq 10, 3) := by decide +kernel
theorem dX6_sum_48 : decode cX6_sum 48 = .ok (.iload 4, 2) := by decide +kernel
theorem dX6_sum_50 : decode cX6_sum 50 = .ok (.iload 6, 2) := by decide +kernel
theorem dX6_sum_52 : decode cX6_sum 52 = .ok (.iadd, 1) := by decide +kernel
theorem dX6_sum_53 : decode cX6_sum 53 = .ok (.istore 4, 2) := by decide +kernel
theorem dX6_sum_55 : decode cX6_sum 55 = .ok (.iinc 5 1, 3) := by decide +kernel
theorem dX6_sum_58 : decode cX6_sum 58 = .ok (.goto (-49), 3) := by decide +kernel
theorem dX6_sum_61 : decode cX6_sum 61 = .ok (.iload 4, 2) := by decide +kernel
theorem dX6_sum_63 : decode cX6_sum 63 = .ok (.ireturn, 1) := by decide +kernel
theorem dX7_init_0 : decode cX7_init 0 = .ok (.aload_n 0, 1) := by decide +kernel
theorem dX7_init_1 : decode cX7_init 1 = .ok (.invokespecial 3, 3) := by decide +kernel
theorem dX7_init_4 : decode cX7_init 4 = .ok (.aload_n 0, 1) := by decide +kernel
theorem dX7_init_5 : decode cX7_init 5 = .ok (.new 9, 3) := by decide +kernel
theorem dX7_init_8 : decode cX7_init 8 = .ok (.dup, 1) := by decide +kernel
theorem dX7_init_9 : decode cX7_init 9 = .ok (.invokespecial 11, 3) := by decide +kernel
theorem dX7_init_12 : decode cX7_init 12 = .ok (.putfield 12, 3) := by decide +kernel
theorem dX7_init_15 : decode cX7_init 15 = .ok (.aload_n 0, 1) := by decide +kernel
theorem dX7_init_16 : decode cX7_init 16 = .ok (.bipush 26, 2) := by decide +kernel
theorem dX7_init_18 : decode cX7_init 18 = .ok (.anewarray 18, 3) := by decide +kernel
theorem dX7_init_21 : decode cX7_init 21 = .ok (.putfield 20, 3) := by decide +kernel
theorem dX7_init_24 : decode cX7_init 24 = .ok (.aload_n 0, 1) := by decide +kernel
theorem dX7_init_25 : decode cX7_init 25 = .ok (.new 24, 3) := by decide +kernel
theorem dX7_init_28 : decode cX7_init 28 = .ok (.dup, 1) := by decide +kernel
theorem dX7_init_29 : decode cX7_init 29 = .ok (.invokespecial 26, 3) := by decide +kernel
theorem dX7_init_32 : decode cX7_init 32 = .ok (.putfield 27, 3) := by decide +kernel
theorem dX7_init_35 : decode cX7_init 35 = .ok (.aload_n 0, 1) := by decide +kernel
theorem dX7_init_36 : decode cX7_init 36 = .ok (.iconst 0, 1) := by decide +kernel
theorem dX7_init_37 : decode cX7_init 37 = .ok (.putfield 31, 3) := by decide +kernel
theorem dX7_init_40 : decode cX7_init 40 = .ok (.aload_n 0, 1) := by decide +kernel
theorem dX7_init_41 : decode cX7_init 41 = .ok (.iconst 1, 1) := by decide +kernel
theorem dX7_init_42 : decode cX7_init 42 = .ok (.putfield 35, 3) := by decide +kernel
theorem dX7_init_45 : decode cX7_init 45 = .ok (.aload_n 0, 1) := by decide +kernel
theorem dX7_init_46 : decode cX7_init 46 = .ok (.sipush 5000, 3) := by decide +kernel
theorem dX7_init_49 : decode cX7_init 49 = .ok (.putfield 38, 3) := by decide +kernel
theorem dX7_init_52 : decode cX7_init 52 = .ok (.return_, 1) := by decide +kernel
theorem dX7_become_0 : decode cX7_become 0 = .ok (.aload_n 0, 1) := by decide +kernel
theorem dX7_become_1 : decode cX7_become 1 = .ok (.getfield 12, 3) := by decide +kernel
theorem dX7_become_4 : decode cX7_become 4 = .ok (.aload_n 1, 1) := by decide +kernel
theorem dX7_become_5 : decode cX7_become 5 = .ok (.getfield 12, 3) := by decide +kernel
theorem dX7_become_8 : decode cX7_become 8 = .ok (.invokevirtual 41, 3) := by decide +kernel
theorem dX7_become_11 : decode cX7_become 11 = .ok (.iconst 0, 1) := by decide +kernel
theorem dX7_become_12 : decode cX7_become 12 = .ok (.istore_n 2, 1) := by decide +kernel
theorem dX7_become_13 : decode cX7_become 13 = .ok (.iload_n 2, 1) := by decide +kernel
theorem dX7_become_14 : decode cX7_become 14 = .ok (.bipush 26, 2) := by decide +kernel
theorem dX7_become_16 : decode cX7_become 16 = .ok (.if_icmp .ge 21, 3) := by decide +kernel
theorem dX7_become_19 : decode cX7_become 19 = .ok (.aload_n 0, 1) := by decide +kernel
theorem dX7_become_20 : decode cX7_become 20 = .ok (.getfield 20, 3) := by decide +kernel
theorem dX7_become_23 : decode cX7_become 23 = .ok (.iload_n 2, 1) := by decide +kernel
theorem dX7_become_24 : decode cX7_become 24 = .ok (.aload_n 1, 1) := by decide +kernel
theorem dX7_become_25 : decode cX7_become 25 = .ok (.getfield 20, 3) := by decide +kernel
theorem dX7_become_28 : decode cX7_become 28 = .ok (.iload_n 2, 1) := by decide +kernel
theorem dX7_become_29 : decode cX7_become 29 = .ok (.aaload, 1) := by decide +kernel
theorem dX7_become_30 : decode cX7_become 30 = .ok (.aastore, 1) := by decide +kernel
theorem dX7_become_31 : decode cX7_become 31 = .ok (.iinc 2 1, 3) := by decide +kernel
theorem dX7_become_34 : decode cX7_become 34 = .ok (.goto (-21), 3) := by decide +kernel
theorem dX7_become_37 : decode cX7_become 37 = .ok (.aload_n 0, 1) := by decide +kernel
theorem dX7_become_38 : decode cX7_become 38 = .ok (.aload_n 1, 1) := by decide +kernel
theorem dX7_become_39 : decode cX7_become 39 = .ok (.getfield 45, 3) := by decide +kernel
theorem dX7_become_42 : decode cX7_become 42 = .ok (.putfield 45, 3) := by decide +kernel
theorem dX7_become_45 : decode cX7_become 45 = .ok (.aload_n 0, 1) := by decide +kernel
theorem dX7_become_46 : decode cX7_become 46 = .ok (.getfield 27, 3) := by decide +kernel
theorem dX7_become_49 : decode cX7_become 49 = .ok (.aload_n 1, 1) := by decide +kernel
theorem dX7_become_50 : decode cX7_become 50 = .ok (.getfield 27, 3) := by decide +kernel
theorem dX7_become_53 : decode cX7_become 53 = .ok (.invokevirtual 49, 3) := by decide +kernel
theorem dX7_become_56 : decode cX7_become 56 = .ok (.aload_n 0, 1) := by decide +kernel
theorem dX7_become_57 : decode cX7_become 57 = .ok (.aload_n 1, 1) := by decide +kernel
theorem dX7_become_58 : decode cX7_become 58 = .ok (.getfield 31, 3) := by decide +kernel
theorem dX7_become_61 : decode cX7_become 61 = .ok (.putfield 31, 3) := by decide +kernel
theorem dX7_become_64 : decode cX7_become 64 = .ok (.aload_n 0, 1) := by decide +kernel
theorem dX7_become_65 : decode cX7_become 65 = .ok (.aload_n 1, 1) := by decide +kernel
theorem dX7_become_66 : decode cX7_become 66 = .ok (.getfield 52, 3) := by decide +kernel
theorem dX7_become_69 : decode cX7_become 69 = .ok (.putfield 52, 3) := by decide +kernel
theorem dX7_become_72 : decode cX7_become 72 = .ok (.aload_n 0, 1) := by decide +kernel
theorem dX7_become_73 : decode cX7_become 73 = .ok (.aload_n 1, 1) := by decide +kernel
theorem dX7_become_74 : decode cX7_become 74 = .ok (.getfield 35, 3) := by decide +kernel
theorem dX7_become_77 : decode cX7_become 77 = .ok (.putfield 35, 3) := by decide +kernel
theorem dX7_become_80 : decode cX7_become 80 = .ok (.aload_n 0, 1) := by decide +kernel
theorem dX7_become_81 : decode cX7_become 81 = .ok (.aload_n 1, 1) := by decide +kernel
theorem dX7_become_82 : decode cX7_become 82 = .ok (.getfield 38, 3) := by decide +kernel
theorem dX7_become_85 : decode cX7_become 85 = .ok (.putfield 38, 3) := by decide +kernel
theorem dX7_become_88 : decode cX7_become 88 = .ok (.return_, 1) := by decide +kernel
theorem dX7_lettersWithCondition_0 : decode cX7_lettersWithCondition 0 = .ok (.iconst 0, 1) := by decide +kernel
theorem dX7_lettersWithCondition_1 : decode cX7_lettersWithCondition 1 = .ok (.istore_n 1, 1) := by decide +kernel
theorem dX7_lettersWithCondition_2 : decode cX7_lettersWithCondition 2 = .ok (.iconst 0, 1) := by decide +kernel
theorem dX7_lettersWithCondition_3 : decode cX7_lettersWithCondition 3 = .ok (.istore_n 2, 1) := by decide +kernel
theorem dX7_lettersWithCondition_4 : decode cX7_lettersWithCondition 4 = .ok (.iload_n 2, 1) := by decide +kernel
theorem dX7_lettersWithCondition_5 : decode cX7_lettersWithCondition 5 = .ok (.bipush 26, 2) := by decide +kernel
theorem dX7_lettersWithCondition_7 : decode cX7_lettersWithCondition 7 = .ok (.if_icmp .ge 24, 3) := by decide +kernel
theorem dX7_lettersWithCondition_10 : decode cX7_lettersWithCondition 10 = .ok (.aload_n 0, 1) := by decide +kernel
theorem dX7_lettersWithCondition_11 : decode cX7_lettersWithCondition 11 = .ok (.getfield 20, 3) := by decide +kernel
theorem dX7_lettersWithCondition_14 : decode cX7_lettersWithCondition 14 = .ok (.iload_n 2, 1) := by decide +kernel
theorem dX7_lettersWithCondition_15 : decode cX7_lettersWithCondition 15 = .ok (.aaload, 1) := by decide +kernel
theorem dX7_lettersWithCondition_16 : decode cX7_lettersWithCondition 16 = .ok (.ifnull 9, 3) := by decide +kernel
theorem dX7_lettersWithCondition_19 : decode cX7_lettersWithCondition 19 = .ok (.iload_n 1, 1) := by decide +kernel
theorem dX7_lettersWithCondition_20 : decode cX7_lettersWithCondition 20 = .ok (.iconst 1, 1) := by decide +kernel
theorem dX7_lettersWithCondition_21 : decode cX7_lettersWithCondition 21 = .ok (.iload_n 2, 1) := by decide +kernel
theorem dX7_lettersWithCondition_22 : decode cX7_lettersWithCondition 22 = .ok (.ishl, 1) := by decide +kernel
theorem dX7_lettersWithCondition_23 : decode cX7_lettersWithCondition 23 = .ok (.ior, 1) := by decide +kernel
theorem dX7_lettersWithCondition_24 : decode cX7_lettersWithCondition 24 = .ok (.istore_n 1, 1) := by decide +kernel
theorem dX7_lettersWithCondition_25 : decode cX7_lettersWithCondition 25 = .ok (.iinc 2 1, 3) := by decide +kernel
theorem dX7_lettersWithCondition_28 : decode cX7_lettersWithCondition 28 = .ok (.goto (-24), 3) := by decide +kernel
theorem dX7_lettersWithCondition_31 : decode cX7_lettersWithCondition 31 = .ok (.iload_n 1, 1) := by decide +kernel
theorem dX7_lettersWithCondition_32 : decode cX7_lettersWithCondition 32 = .ok (.ireturn, 1) := by decide +kernel
theorem dX8_init_0 : decode cX8_init 0 = .ok (.aload_n 0, 1) := by decide +kernel
theorem dX8_init_1 : decode cX8_init 1 = .ok (.invokespecial 3, 3) := by decide +kernel
theorem dX8_init_4 : decode cX8_init 4 = .ok (.aload_n 0, 1) := by decide +kernel
theorem dX8_init_5 : decode cX8_init 5 = .ok (.bipush 64, 2) := by decide +kernel
theorem dX8_init_7 : decode cX8_init 7 = .ok (.newarray .int, 2) := by decide +kernel
theorem dX8_init_9 : decode cX8_init 9 = .ok (.putfield 9, 3) := by decide +kernel
theorem dX8_init_12 : decode cX8_init 12 = .ok (.return_, 1) := by decide +kernel
theorem dX8_hasRow_0 : decode cX8_hasRow 0 = .ok (.iload_n 1, 1) := by decide +kernel
theorem dX8_hasRow_1 : decode cX8_hasRow 1 = .ok (.ifCond .lt 21, 3) := by decide +kernel
theorem dX8_hasRow_4 : decode cX8_hasRow 4 = .ok (.iload_n 1, 1) := by decide +kernel
theorem dX8_hasRow_5 : decode cX8_hasRow 5 = .ok (.aload_n 0, 1) := by decide +kernel
theorem dX8_hasRow_6 : decode cX8_hasRow 6 = .ok (.getfield 15, 3) := by decide +kernel
theorem dX8_hasRow_9 : decode cX8_hasRow 9 = .ok (.if_icmp .ge 13, 3) := by decide +kernel
theorem dX8_hasRow_12 : decode cX8_hasRow 12 = .ok (.iload_n 1, 1) := by decide +kernel
theorem dX8_hasRow_13 : decode cX8_hasRow 13 = .ok (.bipush 32, 2) := by decide +kernel
theorem dX8_hasRow_15 : decode cX8_hasRow 15 = .ok (.if_icmp .ge 7, 3) := by decide +kernel
theorem dX8_hasRow_18 : decode cX8_hasRow 18 = .ok (.iconst 1, 1) := by decide +kernel
theorem dX8_hasRow_19 : decode cX8_hasRow 19 = .ok (.goto 4, 3) := by decide +kernel
theorem dX8_hasRow_22 : decode cX8_hasRow 22 = .ok (.iconst 0, 1) := by decide +kernel
theorem dX8_hasRow_23 : decode cX8_hasRow 23 = .ok (.ireturn, 1) := by decide +kernel
theorem dX8_number_0 : decode cX8_number 0 = .ok (.iload_n 1, 1) := by decide +kernel
theorem dX8_number_1 : decode cX8_number 1 = .ok (.ifCond .lt 30, 3) := by decide +kernel
theorem dX8_number_4 : decode cX8_number 4 = .ok (.iload_n 1, 1) := by decide +kernel
theorem dX8_number_5 : decode cX8_number 5 = .ok (.aload_n 0, 1) := by decide +kernel
theorem dX8_number_6 : decode cX8_number 6 = .ok (.getfield 15, 3) := by decide +kernel
theorem dX8_number_9 : decode cX8_number 9 = .ok (.if_icmp .ge 22, 3) := by decide +kernel
theorem dX8_number_12 : decode cX8_number 12 = .ok (.iload_n 1, 1) := by decide +kernel
theorem dX8_number_13 : decode cX8_number 13 = .ok (.bipush 32, 2) := by decide +kernel
theorem dX8_number_15 : decode cX8_number 15 = .ok (.if_icmp .ge 16, 3) := by decide +kernel
theorem dX8_number_18 : decode cX8_number 18 = .ok (.iload_n 2, 1) := by decide +kernel
theorem dX8_number_19 : decode cX8_number 19 = .ok (.ifCond .lt 12, 3) := by decide +kernel
theorem dX8_number_22 : decode cX8_number 22 = .ok (.iload_n 2, 1) := by decide +kernel
theorem dX8_number_23 : decode cX8_number 23 = .ok (.iconst 2, 1) := by decide +kernel
theorem dX8_number_24 : decode cX8_number 24 = .ok (.if_icmp .ge 7, 3) := by decide +kernel
theorem dX8_number_27 : decode cX8_number 27 = .ok (.iconst 1, 1) := by decide +kernel
theorem dX8_number_28 : decode cX8_number 28 = .ok (.goto 4, 3) := by decide +kernel
theorem dX8_number_31 : decode cX8_number 31 = .ok (.iconst 0, 1) := by decide +kernel
theorem dX8_number_32 : decode cX8_number 32 = .ok (.istore_n 3, 1) := by decide +kernel
theorem dX8_number_33 : decode cX8_number 33 = .ok (.iload_n 3, 1) := by decide +kernel
theorem dX8_number_34 : decode cX8_number 34 = .ok (.ifCond .eq 16, 3) := by decide +kernel
theorem dX8_number_37 : decode cX8_number 37 = .ok (.aload_n 0, 1) := by decide +kernel
theorem dX8_number_38 : decode cX8_number 38 = .ok (.getfield 9, 3) := by decide +kernel
theorem dX8_number_41 : decode cX8_number 41 = .ok (.iload_n 1, 1) := by decide +kernel
theorem dX8_number_42 : decode cX8_number 42 = .ok (.iconst 2, 1) := by decide +kernel
theorem dX8_number_43 : decode cX8_number 43 = .ok (.imul, 1) := by decide +kernel
theorem dX8_number_44 : decode cX8_number 44 = .ok (.iload_n 2, 1) := by decide +kernel
theorem dX8_number_45 : decode cX8_number 45 = .ok (.iadd, 1) := by decide +kernel
theorem dX8_number_46 : decode cX8_number 46 = .ok (.iaload, 1) := by decide +kernel
theorem dX8_number_47 : decode cX8_number 47 = .ok (.goto 6, 3) := by decide +kernel
theorem dX8_number_50 : decode cX8_number 50 = .ok (.sipush 1000, 3) := by decide +kernel
theorem dX8_number_53 : decode cX8_number 53 = .ok (.ireturn, 1) := by decide +kernel
theorem dX8_write_0 : decode cX8_write 0 = .ok (.aload_n 0, 1) := by decide +kernel
theorem dX8_write_1 : decode cX8_write 1 = .ok (.iload_n 1, 1) := by decide +kernel
theorem dX8_write_2 : decode cX8_write 2 = .ok (.invokevirtual 19, 3) := by decide +kernel
theorem dX8_write_5 : decode cX8_write 5 = .ok (.ifCond .eq 23, 3) := by decide +kernel
theorem dX8_write_8 : decode cX8_write 8 = .ok (.aload_n 0, 1) := by decide +kernel
theorem dX8_write_9 : decode cX8_write 9 = .ok (.getfield 9, 3) := by decide +kernel
theorem dX8_write_12 : decode cX8_write 12 = .ok (.iload_n 1, 1) := by decide +kernel
theorem dX8_write_13 : decode cX8_write 13 = .ok (.iconst 2, 1) := by decide +kernel
theorem dX8_write_14 : decode cX8_write 14 = .ok (.imul, 1) := by decide +kernel
theorem dX8_write_15 : decode cX8_write 15 = .ok (.iload_n 2, 1) := by decide +kernel
theorem dX8_write_16 : decode cX8_write 16 = .ok (.iastore, 1) := by decide +kernel
theorem dX8_write_17 : decode cX8_write 17 = .ok (.aload_n 0, 1) := by decide +kernel
theorem dX8_write_18 : decode cX8_write 18 = .ok (.getfield 9, 3) := by decide +kernel
theorem dX8_write_21 : decode cX8_write 21 = .ok (.iload_n 1, 1) := by decide +kernel
theorem dX8_write_22 : decode cX8_write 22 = .ok (.iconst 2, 1) := by decide +kernel
theorem dX8_write_23 : decode cX8_write 23 = .ok (.imul, 1) := by decide +kernel
theorem dX8_write_24 : decode cX8_write 24 = .ok (.iconst 1, 1) := by decide +kernel
theorem dX8_write_25 : decode cX8_write 25 = .ok (.iadd, 1) := by decide +kernel
theorem dX8_write_26 : decode cX8_write 26 = .ok (.iload_n 3, 1) := by decide +kernel
theorem dX8_write_27 : decode cX8_write 27 = .ok (.iastore, 1) := by decide +kernel
theorem dX8_write_28 : decode cX8_write 28 = .ok (.return_, 1) := by decide +kernel
theorem dX8_become_0 : decode cX8_become 0 = .ok (.aload_n 1, 1) := by decide +kernel
theorem dX8_become_1 : decode cX8_become 1 = .ok (.getfield 9, 3) := by decide +kernel
theorem dX8_become_4 : decode cX8_become 4 = .ok (.iconst 0, 1) := by decide +kernel
theorem dX8_become_5 : decode cX8_become 5 = .ok (.aload_n 0, 1) := by decide +kernel
theorem dX8_become_6 : decode cX8_become 6 = .ok (.getfield 9, 3) := by decide +kernel
theorem dX8_become_9 : decode cX8_become 9 = .ok (.iconst 0, 1) := by decide +kernel
theorem dX8_become_10 : decode cX8_become 10 = .ok (.bipush 64, 2) := by decide +kernel
theorem dX8_become_12 : decode cX8_become 12 = .ok (.invokestatic 23, 3) := by decide +kernel
theorem dX8_become_15 : decode cX8_become 15 = .ok (.aload_n 0, 1) := by decide +kernel
theorem dX8_become_16 : decode cX8_become 16 = .ok (.aload_n 1, 1) := by decide +kernel
theorem dX8_become_17 : decode cX8_become 17 = .ok (.getfield 15, 3) := by decide +kernel
theorem dX8_become_20 : decode cX8_become 20 = .ok (.putfield 15, 3) := by decide +kernel
theorem dX8_become_23 : decode cX8_become 23 = .ok (.return_, 1) := by decide +kernel
theorem dX9_init_0 : decode cX9_init 0 = .ok (.aload_n 0, 1) := by decide +kernel
theorem dX9_init_1 : decode cX9_init 1 = .ok (.invokespecial 3, 3) := by decide +kernel
theorem dX9_init_4 : decode cX9_init 4 = .ok (.aload_n 0, 1) := by decide +kernel
theorem dX9_init_5 : decode cX9_init 5 = .ok (.bipush 120, 2) := by decide +kernel
theorem dX9_init_7 : decode cX9_init 7 = .ok (.newarray .int, 2) := by decide +kernel
theorem dX9_init_9 : decode cX9_init 9 = .ok (.putfield 9, 3) := by decide +kernel
theorem dX9_init_12 : decode cX9_init 12 = .ok (.return_, 1) := by decide +kernel
theorem dX9_add_0 : decode cX9_add 0 = .ok (.aload_n 0, 1) := by decide +kernel
theorem dX9_add_1 : decode cX9_add 1 = .ok (.getfield 15, 3) := by decide +kernel
theorem dX9_add_4 : decode cX9_add 4 = .ok (.ifCond .lt 12, 3) := by decide +kernel
theorem dX9_add_7 : decode cX9_add 7 = .ok (.aload_n 0, 1) := by decide +kernel
theorem dX9_add_8 : decode cX9_add 8 = .ok (.getfield 15, 3) := by decide +kernel
theorem dX9_add_11 : decode cX9_add 11 = .ok (.bipush 120, 2) := by decide +kernel
theorem dX9_add_13 : decode cX9_add 13 = .ok (.if_icmp .lt 5, 3) := by decide +kernel
theorem dX9_add_16 : decode cX9_add 16 = .ok (.iconst 0, 1) := by decide +kernel
theorem dX9_add_17 : decode cX9_add 17 = .ok (.ireturn, 1) := by decide +kernel
theorem dX9_add_18 : decode cX9_add 18 = .ok (.aload_n 0, 1) := by decide +kernel
theorem dX9_add_19 : decode cX9_add 19 = .ok (.getfield 9, 3) := by decide +kernel
theorem dX9_add_22 : decode cX9_add 22 = .ok (.aload_n 0, 1) := by decide +kernel
theorem dX9_add_23 : decode cX9_add 23 = .ok (.getfield 15, 3) := by decide +kernel
theorem dX9_add_26 : decode cX9_add 26 = .ok (.iload_n 1, 1) := by decide +kernel
theorem dX9_add_27 : decode cX9_add 27 = .ok (.iastore, 1) := by decide +kernel
theorem dX9_add_28 : decode cX9_add 28 = .ok (.aload_n 0, 1) := by decide +kernel
theorem dX9_add_29 : decode cX9_add 29 = .ok (.dup, 1) := by decide +kernel
theorem dX9_add_30 : decode cX9_add 30 = .ok (.getfield 15, 3) := by decide +kernel
theorem dX9_add_33 : decode cX9_add 33 = .ok (.iconst 1, 1) := by decide +kernel
theorem dX9_add_34 : decode cX9_add 34 = .ok (.iadd, 1) := by decide +kernel
theorem dX9_add_35 : decode cX9_add 35 = .ok (.putfield 15, 3) := by decide +kernel
theorem dX9_add_38 : decode cX9_add 38 = .ok (.iconst 1, 1) := by decide +kernel
theorem dX9_add_39 : decode cX9_add 39 = .ok (.ireturn, 1) := by decide +kernel
theorem dX9_at_0 : decode cX9_at 0 = .ok (.iload_n 1, 1) := by decide +kernel
theorem dX9_at_1 : decode cX9_at 1 = .ok (.ifCond .lt 17, 3) := by decide +kernel
theorem dX9_at_4 : decode cX9_at 4 = .ok (.iload_n 1, 1) := by decide +kernel
theorem dX9_at_5 : decode cX9_at 5 = .ok (.aload_n 0, 1) := by decide +kernel
theorem dX9_at_6 : decode cX9_at 6 = .ok (.getfield 15, 3) := by decide +kernel
theorem dX9_at_9 : decode cX9_at 9 = .ok (.if_icmp .ge 9, 3) := by decide +kernel
theorem dX9_at_12 : decode cX9_at 12 = .ok (.iload_n 1, 1) := by decide +kernel
theorem dX9_at_13 : decode cX9_at 13 = .ok (.bipush 120, 2) := by decide +kernel
theorem dX9_at_15 : decode cX9_at 15 = .ok (.if_icmp .lt 7, 3) := by decide +kernel
theorem dX9_at_18 : decode cX9_at 18 = .ok (.iconst (-1), 1) := by decide +kernel
theorem dX9_at_19 : decode cX9_at 19 = .ok (.goto 9, 3) := by decide +kernel
theorem dX9_at_22 : decode cX9_at 22 = .ok (.aload_n 0, 1) := by decide +kernel
theorem dX9_at_23 : decode cX9_at 23 = .ok (.getfield 9, 3) := by decide +kernel
theorem dX9_at_26 : decode cX9_at 26 = .ok (.iload_n 1, 1) := by decide +kernel
theorem dX9_at_27 : decode cX9_at 27 = .ok (.iaload, 1) := by decide +kernel
theorem dX9_at_28 : decode cX9_at 28 = .ok (.ireturn, 1) := by decide +kernel
theorem dX9_empty_0 : decode cX9_empty 0 = .ok (.aload_n 0, 1) := by decide +kernel
theorem dX9_empty_1 : decode cX9_empty 1 = .ok (.getfield 15, 3) := by decide +kernel
theorem dX9_empty_4 : decode cX9_empty 4 = .ok (.istore_n 1, 1) := by decide +kernel
theorem dX9_empty_5 : decode cX9_empty 5 = .ok (.aload_n 0, 1) := by decide +kernel
theorem dX9_empty_6 : decode cX9_empty 6 = .ok (.iconst 0, 1) := by decide +kernel
theorem dX9_empty_7 : decode cX9_empty 7 = .ok (.putfield 15, 3) := by decide +kernel
theorem dX9_empty_10 : decode cX9_empty 10 = .ok (.iload_n 1, 1) := by decide +kernel
theorem dX9_empty_11 : decode cX9_empty 11 = .ok (.ireturn, 1) := by decide +kernel
theorem dX10_init_0 : decode cX10_init 0 = .ok (.aload_n 0, 1) := by decide +kernel
theorem dX10_init_1 : decode cX10_init 1 = .ok (.invokespecial 3, 3) := by decide +kernel
theorem dX10_init_4 : decode cX10_init 4 = .ok (.aload_n 0, 1) := by decide +kernel
theorem dX10_init_5 : decode cX10_init 5 = .ok (.new 9, 3) := by decide +kernel
theorem dX10_init_8 : decode cX10_init 8 = .ok (.dup, 1) := by decide +kernel
theorem dX10_init_9 : decode cX10_init 9 = .ok (.invokespecial 11, 3) := by decide +kernel
theorem dX10_init_12 : decode cX10_init 12 = .ok (.putfield 12, 3) := by decide +kernel
theorem dX10_init_15 : decode cX10_init 15 = .ok (.aload_n 0, 1) := by decide +kernel
theorem dX10_init_16 : decode cX10_init 16 = .ok (.new 18, 3) := by decide +kernel
theorem dX10_init_19 : decode cX10_init 19 = .ok (.dup, 1) := by decide +kernel
theorem dX10_init_20 : decode cX10_init 20 = .ok (.aload_n 0, 1) := by decide +kernel
theorem dX10_init_21 : decode cX10_init 21 = .ok (.getfield 12, 3) := by decide +kernel
theorem dX10_init_24 : decode cX10_init 24 = .ok (.invokespecial 20, 3) := by decide +kernel
theorem dX10_init_27 : decode cX10_init 27 = .ok (.putfield 23, 3) := by decide +kernel
theorem dX10_init_30 : decode cX10_init 30 = .ok (.aload_n 0, 1) := by decide +kernel
theorem dX10_init_31 : decode cX10_init 31 = .ok (.new 27, 3) := by decide +kernel
theorem dX10_init_34 : decode cX10_init 34 = .ok (.dup, 1) := by decide +kernel
theorem dX10_init_35 : decode cX10_init 35 = .ok (.invokespecial 29, 3) := by decide +kernel
theorem dX10_init_38 : decode cX10_init 38 = .ok (.putfield 30, 3) := by decide +kernel
theorem dX10_init_41 : decode cX10_init 41 = .ok (.aload_n 0, 1) := by decide +kernel
theorem dX10_init_42 : decode cX10_init 42 = .ok (.new 27, 3) := by decide +kernel
theorem dX10_init_45 : decode cX10_init 45 = .ok (.dup, 1) := by decide +kernel
theorem dX10_init_46 : decode cX10_init 46 = .ok (.invokespecial 29, 3) := by decide +kernel
theorem dX10_init_49 : decode cX10_init 49 = .ok (.putfield 34, 3) := by decide +kernel
theorem dX10_init_52 : decode cX10_init 52 = .ok (.aload_n 0, 1) := by decide +kernel
theorem dX10_init_53 : decode cX10_init 53 = .ok (.iconst 4, 1) := by decide +kernel
theorem dX10_init_54 : decode cX10_init 54 = .ok (.anewarray 37, 3) := by decide +kernel
theorem dX10_init_57 : decode cX10_init 57 = .ok (.putfield 39, 3) := by decide +kernel
theorem dX10_init_60 : decode cX10_init 60 = .ok (.aload_n 0, 1) := by decide +kernel
theorem dX10_init_61 : decode cX10_init 61 = .ok (.new 43, 3) := by decide +kernel
theorem dX10_init_64 : decode cX10_init 64 = .ok (.dup, 1) := by decide +kernel
theorem dX10_init_65 : decode cX10_init 65 = .ok (.invokespecial 45, 3) := by decide +kernel
theorem dX10_init_68 : decode cX10_init 68 = .ok (.putfield 46, 3) := by decide +kernel
theorem dX10_init_71 : decode cX10_init 71 = .ok (.iconst 0, 1) := by decide +kernel
theorem dX10_init_72 : decode cX10_init 72 = .ok (.istore_n 1, 1) := by decide +kernel
theorem dX10_init_73 : decode cX10_init 73 = .ok (.iload_n 1, 1) := by decide +kernel
theorem dX10_init_74 : decode cX10_init 74 = .ok (.aload_n 0, 1) := by decide +kernel
theorem dX10_init_75 : decode cX10_init 75 = .ok (.getfield 39, 3) := by decide +kernel
theorem dX10_init_78 : decode cX10_init 78 = .ok (.arraylength, 1) := by decide +kernel
theorem dX10_init_79 : decode cX10_init 79 = .ok (.if_icmp .ge 22, 3) := by decide +kernel
theorem dX10_init_82 : decode cX10_init 82 = .ok (.aload_n 0, 1) := by decide +kernel
theorem dX10_init_83 : decode cX10_init 83 = .ok (.getfield 39, 3) := by decide +kernel
theorem dX10_init_86 : decode cX10_init 86 = .ok (.iload_n 1, 1) := by decide +kernel
theorem dX10_init_87 : decode cX10_init 87 = .ok (.new 37, 3) := by decide +kernel
theorem dX10_init_90 : decode cX10_init 90 = .ok (.dup, 1) := by decide +kernel
theorem dX10_init_91 : decode cX10_init 91 = .ok (.invokespecial 50, 3) := by decide +kernel
theorem dX10_init_94 : decode cX10_init 94 = .ok (.aastore, 1) := by decide +kernel
theorem dX10_init_95 : decode cX10_init 95 = .ok (.iinc 1 1, 3) := by decide +kernel
theorem dX10_init_98 : decode cX10_init 98 = .ok (.goto (-25), 3) := by decide +kernel
theorem dX10_init_101 : decode cX10_init 101 = .ok (.return_, 1) := by decide +kernel
theorem dX10_row_0 : decode cX10_row 0 = .ok (.iload_n 1, 1) := by decide +kernel
theorem dX10_row_1 : decode cX10_row 1 = .ok (.invokestatic 51, 3) := by decide +kernel
theorem dX10_row_4 : decode cX10_row 4 = .ok (.ifCond .eq 10, 3) := by decide +kernel
theorem dX10_row_7 : decode cX10_row 7 = .ok (.iload_n 2, 1) := by decide +kernel
theorem dX10_row_8 : decode cX10_row 8 = .ok (.invokestatic 51, 3) := by decide +kernel
theorem dX10_row_11 : decode cX10_row 11 = .ok (.ifCond .ne 6, 3) := by decide +kernel
theorem dX10_row_14 : decode cX10_row 14 = .ok (.bipush (-2), 2) := by decide +kernel
theorem dX10_row_16 : decode cX10_row 16 = .ok (.ireturn, 1) := by decide +kernel
theorem dX10_row_17 : decode cX10_row 17 = .ok (.aload_n 0, 1) := by decide +kernel
theorem dX10_row_18 : decode cX10_row 18 = .ok (.getfield 12, 3) := by decide +kernel
theorem dX10_row_21 : decode cX10_row 21 = .ok (.getfield 55, 3) := by decide +kernel
theorem dX10_row_24 : decode cX10_row 24 = .ok (.getfield 59, 3) := by decide +kernel
theorem dX10_row_27 : decode cX10_row 27 = .ok (.bipush 32, 2) := by decide +kernel
theorem dX10_row_29 : decode cX10_row 29 = .ok (.if_icmp .lt 6, 3) := by decide +kernel
theorem dX10_row_32 : decode cX10_row 32 = .ok (.bipush (-4), 2) := by decide +kernel
theorem dX10_row_34 : decode cX10_row 34 = .ok (.ireturn, 1) := by decide +kernel
theorem dX10_row_35 : decode cX10_row 35 = .ok (.aload_n 0, 1) := by decide +kernel
theorem dX10_row_36 : decode cX10_row 36 = .ok (.getfield 12, 3) := by decide +kernel
theorem dX10_row_39 : decode cX10_row 39 = .ok (.getfield 55, 3) := by decide +kernel
theorem dX10_row_42 : decode cX10_row 42 = .ok (.getfield 59, 3) := by decide +kernel
theorem dX10_row_45 : decode cX10_row 45 = .ok (.istore_n 3, 1) := by decide +kernel
theorem dX10_row_46 : decode cX10_row 46 = .ok (.aload_n 0, 1) := by decide +kernel
theorem dX10_row_47 : decode cX10_row 47 = .ok (.getfield 12, 3) := by decide +kernel
theorem dX10_row_50 : decode cX10_row 50 = .ok (.getfield 55, 3) := by decide +kernel
theorem dX10_row_53 : decode cX10_row 53 = .ok (.dup, 1) := by decide +kernel
theorem dX10_row_54 : decode cX10_row 54 = .ok (.getfield 59, 3) := by decide +kernel
theorem dX10_row_57 : decode cX10_row 57 = .ok (.iconst 1, 1) := by decide +kernel
theorem dX10_row_58 : decode cX10_row 58 = .ok (.iadd, 1) := by decide +kernel
theorem dX10_row_59 : decode cX10_row 59 = .ok (.putfield 59, 3) := by decide +kernel
theorem dX10_row_62 : decode cX10_row 62 = .ok (.aload_n 0, 1) := by decide +kernel
theorem dX10_row_63 : decode cX10_row 63 = .ok (.getfield 12, 3) := by decide +kernel
theorem dX10_row_66 : decode cX10_row 66 = .ok (.getfield 55, 3) := by decide +kernel
theorem dX10_row_69 : decode cX10_row 69 = .ok (.iload_n 3, 1) := by decide +kernel
theorem dX10_row_70 : decode cX10_row 70 = .ok (.iload_n 1, 1) := by decide +kernel
theorem dX10_row_71 : decode cX10_row 71 = .ok (.iload_n 2, 1) := by decide +kernel
theorem dX10_row_72 : decode cX10_row 72 = .ok (.invokevirtual 65, 3) := by decide +kernel
theorem dX10_row_75 : decode cX10_row 75 = .ok (.aload_n 0, 1) := by decide +kernel
theorem dX10_row_76 : decode cX10_row 76 = .ok (.getfield 12, 3) := by decide +kernel
theorem dX10_row_79 : decode cX10_row 79 = .ok (.getfield 69, 3) := by decide +kernel
theorem dX10_row_82 : decode cX10_row 82 = .ok (.iconst 0, 1) := by decide +kernel
theorem dX10_row_83 : decode cX10_row 83 = .ok (.putfield 72, 3) := by decide +kernel
theorem dX10_row_86 : decode cX10_row 86 = .ok (.iload_n 3, 1) := by decide +kernel
theorem dX10_row_87 : decode cX10_row 87 = .ok (.ireturn, 1) := by decide +kernel
theorem dX10_set_0 : decode cX10_set 0 = .ok (.aload_n 0, 1) := by decide +kernel
theorem dX10_set_1 : decode cX10_set 1 = .ok (.getfield 12, 3) := by decide +kernel
theorem dX10_set_4 : decode cX10_set 4 = .ok (.getfield 55, 3) := by decide +kernel
theorem dX10_set_7 : decode cX10_set 7 = .ok (.iload_n 1, 1) := by decide +kernel
theorem dX10_set_8 : decode cX10_set 8 = .ok (.invokevirtual 73, 3) := by decide +kernel
theorem dX10_set_11 : decode cX10_set 11 = .ok (.ifCond .ne 5, 3) := by decide +kernel
theorem dX10_set_14 : decode cX10_set 14 = .ok (.iconst (-1), 1) := by decide +kernel
theorem dX10_set_15 : decode cX10_set 15 = .ok (.ireturn, 1) := by decide +kernel
theorem dX10_set_16 : decode cX10_set 16 = .ok (.iload_n 2, 1) := by decide +kernel
theorem dX10_set_17 : decode cX10_set 17 = .ok (.invokestatic 51, 3) := by decide +kernel
theorem dX10_set_20 : decode cX10_set 20 = .ok (.ifCond .eq 10, 3) := by decide +kernel
theorem dX10_set_23 : decode cX10_set 23 = .ok (.iload_n 3, 1) := by decide +kernel
theorem dX10_set_24 : decode cX10_set 24 = .ok (.invokestatic 51, 3) := by decide +kernel
theorem dX10_set_27 : decode cX10_set 27 = .ok (.ifCond .ne 6, 3) := by decide +kernel
theorem dX10_set_30 : decode cX10_set 30 = .ok (.bipush (-2), 2) := by decide +kernel
theorem dX10_set_32 : decode cX10_set 32 = .ok (.ireturn, 1) := by decide +kernel
theorem dX10_set_33 : decode cX10_set 33 = .ok (.aload_n 0, 1) := by decide +kernel
theorem dX10_set_34 : decode cX10_set 34 = .ok (.getfield 12, 3) := by decide +kernel
theorem dX10_set_37 : decode cX10_set 37 = .ok (.getfield 55, 3) := by decide +kernel
theorem dX10_set_40 : decode cX10_set 40 = .ok (.iload_n 1, 1) := by decide +kernel
theorem dX10_set_41 : decode cX10_set 41 = .ok (.iload_n 2, 1) := by decide +kernel
theorem dX10_set_42 : decode cX10_set 42 = .ok (.iload_n 3, 1) := by decide +kernel
theorem dX10_set_43 : decode cX10_set 43 = .ok (.invokevirtual 65, 3) := by decide +kernel
theorem dX10_set_46 : decode cX10_set 46 = .ok (.aload_n 0, 1) := by decide +kernel
theorem dX10_set_47 : decode cX10_set 47 = .ok (.getfield 12, 3) := by decide +kernel
theorem dX10_set_50 : decode cX10_set 50 = .ok (.getfield 69, 3) := by decide +kernel
theorem dX10_set_53 : decode cX10_set 53 = .ok (.iconst 0, 1) := by decide +kernel
theorem dX10_set_54 : decode cX10_set 54 = .ok (.putfield 72, 3) := by decide +kernel
theorem dX10_set_57 : decode cX10_set 57 = .ok (.aload_n 0, 1) := by decide +kernel
theorem dX10_set_58 : decode cX10_set 58 = .ok (.getfield 12, 3) := by decide +kernel
theorem dX10_set_61 : decode cX10_set 61 = .ok (.getfield 55, 3) := by decide +kernel
theorem dX10_set_64 : decode cX10_set 64 = .ok (.getfield 59, 3) := by decide +kernel
theorem dX10_set_67 : decode cX10_set 67 = .ok (.ireturn, 1) := by decide +kernel
theorem dX10_drop_0 : decode cX10_drop 0 = .ok (.aload_n 0, 1) := by decide +kernel
theorem dX10_drop_1 : decode cX10_drop 1 = .ok (.getfield 12, 3) := by decide +kernel
theorem dX10_drop_4 : decode cX10_drop 4 = .ok (.getfield 55, 3) := by decide +kernel
theorem dX10_drop_7 : decode cX10_drop 7 = .ok (.getfield 59, 3) := by decide +kernel
theorem dX10_drop_10 : decode cX10_drop 10 = .ok (.ifCond .gt 6, 3) := by decide +kernel
theorem dX10_drop_13 : decode cX10_drop 13 = .ok (.bipush (-3), 2) := by decide +kernel
theorem dX10_drop_15 : decode cX10_drop 15 = .ok (.ireturn, 1) := by decide +kernel
theorem dX10_drop_16 : decode cX10_drop 16 = .ok (.aload_n 0, 1) := by decide +kernel
theorem dX10_drop_17 : decode cX10_drop 17 = .ok (.getfield 12, 3) := by decide +kernel
theorem dX10_drop_20 : decode cX10_drop 20 = .ok (.getfield 55, 3) := by decide +kernel
theorem dX10_drop_23 : decode cX10_drop 23 = .ok (.dup, 1) := by decide +kernel
theorem dX10_drop_24 : decode cX10_drop 24 = .ok (.getfield 59, 3) := by decide +kernel
theorem dX10_drop_27 : decode cX10_drop 27 = .ok (.iconst 1, 1) := by decide +kernel
theorem dX10_drop_28 : decode cX10_drop 28 = .ok (.isub, 1) := by decide +kernel
theorem dX10_drop_29 : decode cX10_drop 29 = .ok (.putfield 59, 3) := by decide +kernel
theorem dX10_drop_32 : decode cX10_drop 32 = .ok (.aload_n 0, 1) := by decide +kernel
theorem dX10_drop_33 : decode cX10_drop 33 = .ok (.getfield 12, 3) := by decide +kernel
theorem dX10_drop_36 : decode cX10_drop 36 = .ok (.getfield 69, 3) := by decide +kernel
theorem dX10_drop_39 : decode cX10_drop 39 = .ok (.iconst 0, 1) := by decide +kernel
theorem dX10_drop_40 : decode cX10_drop 40 = .ok (.putfield 72, 3) := by decide +kernel
theorem dX10_drop_43 : decode cX10_drop 43 = .ok (.aload_n 0, 1) := by decide +kernel
theorem dX10_drop_44 : decode cX10_drop 44 = .ok (.getfield 12, 3) := by decide +kernel
theorem dX10_drop_47 : decode cX10_drop 47 = .ok (.getfield 55, 3) := by decide +kernel
theorem dX10_drop_50 : decode cX10_drop 50 = .ok (.getfield 59, 3) := by decide +kernel
theorem dX10_drop_53 : decode cX10_drop 53 = .ok (.ireturn, 1) := by decide +kernel
theorem dX10_cell_0 : decode cX10_cell 0 = .ok (.aload_n 0, 1) := by decide +kernel
theorem dX10_cell_1 : decode cX10_cell 1 = .ok (.getfield 12, 3) := by decide +kernel
theorem dX10_cell_4 : decode cX10_cell 4 = .ok (.getfield 55, 3) := by decide +kernel
theorem dX10_cell_7 : decode cX10_cell 7 = .ok (.iload_n 1, 1) := by decide +kernel
theorem dX10_cell_8 : decode cX10_cell 8 = .ok (.invokevirtual 73, 3) := by decide +kernel
theorem dX10_cell_11 : decode cX10_cell 11 = .ok (.ifCond .eq 25, 3) := by decide +kernel
theorem dX10_cell_14 : decode cX10_cell 14 = .ok (.iload_n 2, 1) := by decide +kernel
theorem dX10_cell_15 : decode cX10_cell 15 = .ok (.invokestatic 76, 3) := by decide +kernel
theorem dX10_cell_18 : decode cX10_cell 18 = .ok (.ifCond .eq 18, 3) := by decide +kernel
theorem dX10_cell_21 : decode cX10_cell 21 = .ok (.aload_n 0, 1) := by decide +kernel
theorem dX10_cell_22 : decode cX10_cell 22 = .ok (.getfield 12, 3) := by decide +kernel
theorem dX10_cell_25 : decode cX10_cell 25 = .ok (.getfield 55, 3) := by decide +kernel
theorem dX10_cell_28 : decode cX10_cell 28 = .ok (.iload_n 1, 1) := by decide +kernel
theorem dX10_cell_29 : decode cX10_cell 29 = .ok (.iload_n 2, 1) := by decide +kernel
theorem dX10_cell_30 : decode cX10_cell 30 = .ok (.invokevirtual 79, 3) := by decide +kernel
theorem dX10_cell_33 : decode cX10_cell 33 = .ok (.goto 4, 3) := by decide +kernel
theorem dX10_cell_36 : decode cX10_cell 36 = .ok (.iconst (-1), 1) := by decide +kernel
theorem dX10_cell_37 : decode cX10_cell 37 = .ok (.ireturn, 1) := by decide +kernel
theorem dX10_feed_0 : decode cX10_feed 0 = .ok (.iload_n 1, 1) := by decide +kernel
theorem dX10_feed_1 : decode cX10_feed 1 = .ok (.iconst 1, 1) := by decide +kernel
theorem dX10_feed_2 : decode cX10_feed 2 = .ok (.if_icmp .lt 9, 3) := by decide +kernel
theorem dX10_feed_5 : decode cX10_feed 5 = .ok (.iload_n 1, 1) := by decide +kernel
theorem dX10_feed_6 : decode cX10_feed 6 = .ok (.bipush 127, 2) := by decide +kernel
theorem dX10_feed_8 : decode cX10_feed 8 = .ok (.if_icmp .le 6, 3) := by decide +kernel
theorem dX10_feed_11 : decode cX10_feed 11 = .ok (.bipush (-2), 2) := by decide +kernel
theorem dX10_feed_13 : decode cX10_feed 13 = .ok (.ireturn, 1) := by decide +kernel
theorem dX10_feed_14 : decode cX10_feed 14 = .ok (.aload_n 0, 1) := by decide +kernel
theorem dX10_feed_15 : decode cX10_feed 15 = .ok (.getfield 30, 3) := by decide +kernel
theorem dX10_feed_18 : decode cX10_feed 18 = .ok (.iload_n 1, 1) := by decide +kernel
theorem dX10_feed_19 : decode cX10_feed 19 = .ok (.invokevirtual 83, 3) := by decide +kernel
theorem dX10_feed_22 : decode cX10_feed 22 = .ok (.ifCond .eq 13, 3) := by decide +kernel
theorem dX10_feed_25 : decode cX10_feed 25 = .ok (.aload_n 0, 1) := by decide +kernel
theorem dX10_feed_26 : decode cX10_feed 26 = .ok (.getfield 30, 3) := by decide +kernel
theorem dX10_feed_29 : decode cX10_feed 29 = .ok (.getfield 86, 3) := by decide +kernel
theorem dX10_feed_32 : decode cX10_feed 32 = .ok (.goto 5, 3) := by decide +kernel
theorem dX10_feed_35 : decode cX10_feed 35 = .ok (.bipush (-4), 2) := by decide +kernel
theorem dX10_feed_37 : decode cX10_feed 37 = .ok (.ireturn, 1) := by decide +kernel
theorem dX10_clear_0 : decode cX10_clear 0 = .ok (.aload_n 0, 1) := by decide +kernel
theorem dX10_clear_1 : decode cX10_clear 1 = .ok (.getfield 30, 3) := by decide +kernel
theorem dX10_clear_4 : decode cX10_clear 4 = .ok (.invokevirtual 87, 3) := by decide +kernel
theorem dX10_clear_7 : decode cX10_clear 7 = .ok (.ireturn, 1) := by decide +kernel
theorem dX10_pattern_0 : decode cX10_pattern 0 = .ok (.new 91, 3) := by decide +kernel
theorem dX10_pattern_3 : decode cX10_pattern 3 = .ok (.dup, 1) := by decide +kernel
theorem dX10_pattern_4 : decode cX10_pattern 4 = .ok (.aload_n 0, 1) := by decide +kernel
theorem dX10_pattern_5 : decode cX10_pattern 5 = .ok (.getfield 30, 3) := by decide +kernel
theorem dX10_pattern_8 : decode cX10_pattern 8 = .ok (.invokespecial 93, 3) := by decide +kernel
theorem dX10_pattern_11 : decode cX10_pattern 11 = .ok (.astore_n 1, 1) := by decide +kernel
theorem dX10_pattern_12 : decode cX10_pattern 12 = .ok (.aload_n 1, 1) := by decide +kernel
theorem dX10_pattern_13 : decode cX10_pattern 13 = .ok (.invokevirtual 96, 3) := by decide +kernel
theorem dX10_pattern_16 : decode cX10_pattern 16 = .ok (.astore_n 2, 1) := by decide +kernel
theorem dX10_pattern_17 : decode cX10_pattern 17 = .ok (.aload_n 0, 1) := by decide +kernel
theorem dX10_pattern_18 : decode cX10_pattern 18 = .ok (.getfield 30, 3) := by decide +kernel
theorem dX10_pattern_21 : decode cX10_pattern 21 = .ok (.invokevirtual 87, 3) := by decide +kernel
theorem dX10_pattern_24 : decode cX10_pattern 24 = .ok (.pop, 1) := by decide +kernel
theorem dX10_pattern_25 : decode cX10_pattern 25 = .ok (.aload_n 2, 1) := by decide +kernel
theorem dX10_pattern_26 : decode cX10_pattern 26 = .ok (.ifnonnull 11, 3) := by decide +kernel
theorem dX10_pattern_29 : decode cX10_pattern 29 = .ok (.bipush (-100), 2) := by decide +kernel
theorem dX10_pattern_31 : decode cX10_pattern 31 = .ok (.aload_n 1, 1) := by decide +kernel
theorem dX10_pattern_32 : decode cX10_pattern 32 = .ok (.getfield 100, 3) := by decide +kernel
theorem dX10_pattern_35 : decode cX10_pattern 35 = .ok (.isub, 1) := by decide +kernel
theorem dX10_pattern_36 : decode cX10_pattern 36 = .ok (.ireturn, 1) := by decide +kernel
theorem dX10_pattern_37 : decode cX10_pattern 37 = .ok (.aload_n 0, 1) := by decide +kernel
theorem dX10_pattern_38 : decode cX10_pattern 38 = .ok (.getfield 12, 3) := by decide +kernel
theorem dX10_pattern_41 : decode cX10_pattern 41 = .ok (.aload_n 2, 1) := by decide +kernel
theorem dX10_pattern_42 : decode cX10_pattern 42 = .ok (.putfield 103, 3) := by decide +kernel
theorem dX10_pattern_45 : decode cX10_pattern 45 = .ok (.aload_n 0, 1) := by decide +kernel
theorem dX10_pattern_46 : decode cX10_pattern 46 = .ok (.getfield 12, 3) := by decide +kernel
theorem dX10_pattern_49 : decode cX10_pattern 49 = .ok (.getfield 69, 3) := by decide +kernel
theorem dX10_pattern_52 : decode cX10_pattern 52 = .ok (.iconst 0, 1) := by decide +kernel
theorem dX10_pattern_53 : decode cX10_pattern 53 = .ok (.putfield 72, 3) := by decide +kernel
theorem dX10_pattern_56 : decode cX10_pattern 56 = .ok (.aload_n 2, 1) := by decide +kernel
theorem dX10_pattern_57 : decode cX10_pattern 57 = .ok (.getfield 107, 3) := by decide +kernel
theorem dX10_pattern_60 : decode cX10_pattern 60 = .ok (.ireturn, 1) := by decide +kernel
theorem dX10_define_0 : decode cX10_define 0 = .ok (.new 112, 3) := by decide +kernel
theorem dX10_define_3 : decode cX10_define 3 = .ok (.dup, 1) := by decide +kernel
theorem dX10_define_4 : decode cX10_define 4 = .ok (.aload_n 0, 1) := by decide +kernel
theorem dX10_define_5 : decode cX10_define 5 = .ok (.getfield 30, 3) := by decide +kernel
theorem dX10_define_8 : decode cX10_define 8 = .ok (.invokespecial 114, 3) := by decide +kernel
theorem dX10_define_11 : decode cX10_define 11 = .ok (.astore_n 1, 1) := by decide +kernel
theorem dX10_define_12 : decode cX10_define 12 = .ok (.aload_n 1, 1) := by decide +kernel
theorem dX10_define_13 : decode cX10_define 13 = .ok (.invokevirtual 115, 3) := by decide +kernel
theorem dX10_define_16 : decode cX10_define 16 = .ok (.istore_n 2, 1) := by decide +kernel
theorem dX10_define_17 : decode cX10_define 17 = .ok (.aload_n 0, 1) := by decide +kernel
theorem dX10_define_18 : decode cX10_define 18 = .ok (.getfield 30, 3) := by decide +kernel
theorem dX10_define_21 : decode cX10_define 21 = .ok (.invokevirtual 87, 3) := by decide +kernel
theorem dX10_define_24 : decode cX10_define 24 = .ok (.pop, 1) := by decide +kernel
theorem dX10_define_25 : decode cX10_define 25 = .ok (.iload_n 2, 1) := by decide +kernel
theorem dX10_define_26 : decode cX10_define 26 = .ok (.ifCond .ge 11, 3) := by decide +kernel
theorem dX10_define_29 : decode cX10_define 29 = .ok (.bipush (-100), 2) := by decide +kernel
theorem dX10_define_31 : decode cX10_define 31 = .ok (.aload_n 1, 1) := by decide +kernel
theorem dX10_define_32 : decode cX10_define 32 = .ok (.getfield 117, 3) := by decide +kernel
theorem dX10_define_35 : decode cX10_define 35 = .ok (.isub, 1) := by decide +kernel
theorem dX10_define_36 : decode cX10_define 36 = .ok (.ireturn, 1) := by decide +kernel
theorem dX10_define_37 : decode cX10_define 37 = .ok (.iconst 0, 1) := by decide +kernel
theorem dX10_define_38 : decode cX10_define 38 = .ok (.istore_n 3, 1) := by decide +kernel
theorem dX10_define_39 : decode cX10_define 39 = .ok (.iload_n 3, 1) := by decide +kernel
theorem dX10_define_40 : decode cX10_define 40 = .ok (.bipush 26, 2) := by decide +kernel
theorem dX10_define_42 : decode cX10_define 42 = .ok (.if_icmp .ge 36, 3) := by decide +kernel
theorem dX10_define_45 : decode cX10_define 45 = .ok (.aload_n 1, 1) := by decide +kernel
theorem dX10_define_46 : decode cX10_define 46 = .ok (.getfield 118, 3) := by decide +kernel
theorem dX10_define_49 : decode cX10_define 49 = .ok (.iload_n 3, 1) := by decide +kernel
theorem dX10_define_50 : decode cX10_define 50 = .ok (.ishr, 1) := by decide +kernel
theorem dX10_define_51 : decode cX10_define 51 = .ok (.iconst 1, 1) := by decide +kernel
theorem dX10_define_52 : decode cX10_define 52 = .ok (.iand, 1) := by decide +kernel
theorem dX10_define_53 : decode cX10_define 53 = .ok (.iconst 1, 1) := by decide +kernel
theorem dX10_define_54 : decode cX10_define 54 = .ok (.if_icmp .ne 18, 3) := by decide +kernel
theorem dX10_define_57 : decode cX10_define 57 = .ok (.aload_n 0, 1) := by decide +kernel
theorem dX10_define_58 : decode cX10_define 58 = .ok (.getfield 12, 3) := by decide +kernel
theorem dX10_define_61 : decode cX10_define 61 = .ok (.getfield 121, 3) := by decide +kernel
theorem dX10_define_64 : decode cX10_define 64 = .ok (.iload_n 3, 1) := by decide +kernel
theorem dX10_define_65 : decode cX10_define 65 = .ok (.aload_n 1, 1) := by decide +kernel
theorem dX10_define_66 : decode cX10_define 66 = .ok (.getfield 125, 3) := by decide +kernel
theorem dX10_define_69 : decode cX10_define 69 = .ok (.iload_n 3, 1) := by decide +kernel
theorem dX10_define_70 : decode cX10_define 70 = .ok (.aaload, 1) := by decide +kernel
theorem dX10_define_71 : decode cX10_define 71 = .ok (.aastore, 1) := by decide +kernel
theorem dX10_define_72 : decode cX10_define 72 = .ok (.iinc 3 1, 3) := by decide +kernel
theorem dX10_define_75 : decode cX10_define 75 = .ok (.goto (-36), 3) := by decide +kernel
theorem dX10_define_78 : decode cX10_define 78 = .ok (.aload_n 0, 1) := by decide +kernel
theorem dX10_define_79 : decode cX10_define 79 = .ok (.getfield 12, 3) := by decide +kernel
theorem dX10_define_82 : decode cX10_define 82 = .ok (.getfield 69, 3) := by decide +kernel
theorem dX10_define_85 : decode cX10_define 85 = .ok (.iconst 0, 1) := by decide +kernel
theorem dX10_define_86 : decode cX10_define 86 = .ok (.putfield 72, 3) := by decide +kernel
theorem dX10_define_89 : decode cX10_define 89 = .ok (.iload_n 2, 1) := by decide +kernel
theorem dX10_define_90 : decode cX10_define 90 = .ok (.ireturn, 1) := by decide +kernel
theorem dX10_part_0 : decode cX10_part 0 = .ok (.aload_n 0, 1) := by decide +kernel
theorem dX10_part_1 : decode cX10_part 1 = .ok (.getfield 12, 3) := by decide +kernel
theorem dX10_part_4 : decode cX10_part 4 = .ok (.getfield 103, 3) := by decide +kernel
theorem dX10_part_7 : decode cX10_part 7 = .ok (.astore_n 3, 1) := by decide +kernel
theorem dX10_part_8 : decode cX10_part 8 = .ok (.aload_n 3, 1) := by decide +kernel
theorem dX10_part_9 : decode cX10_part 9 = .ok (.ifnull 25, 3) := by decide +kernel
theorem dX10_part_12 : decode cX10_part 12 = .ok (.iload_n 1, 1) := by decide +kernel
theorem dX10_part_13 : decode cX10_part 13 = .ok (.ifCond .lt 21, 3) := by decide +kernel
theorem dX10_part_16 : decode cX10_part 16 = .ok (.iload_n 1, 1) := by decide +kernel
theorem dX10_part_17 : decode cX10_part 17 = .ok (.aload_n 3, 1) := by decide +kernel
theorem dX10_part_18 : decode cX10_part 18 = .ok (.getfield 107, 3) := by decide +kernel
theorem dX10_part_21 : decode cX10_part 21 = .ok (.if_icmp .ge 13, 3) := by decide +kernel
theorem dX10_part_24 : decode cX10_part 24 = .ok (.iload_n 2, 1) := by decide +kernel
theorem dX10_part_25 : decode cX10_part 25 = .ok (.ifCond .lt 9, 3) := by decide +kernel
theorem dX10_part_28 : decode cX10_part 28 = .ok (.iload_n 2, 1) := by decide +kernel
theorem dX10_part_29 : decode cX10_part 29 = .ok (.bipush 6, 2) := by decide +kernel
theorem dX10_part_31 : decode cX10_part 31 = .ok (.if_icmp .le 5, 3) := by decide +kernel
theorem dX10_part_34 : decode cX10_part 34 = .ok (.iconst (-1), 1) := by decide +kernel
theorem dX10_part_35 : decode cX10_part 35 = .ok (.ireturn, 1) := by decide +kernel
theorem dX10_part_36 : decode cX10_part 36 = .ok (.aload_n 3, 1) := by decide +kernel
theorem dX10_part_37 : decode cX10_part 37 = .ok (.iload_n 1, 1) := by decide +kernel
theorem dX10_part_38 : decode cX10_part 38 = .ok (.iload_n 2, 1) := by decide +kernel
theorem dX10_part_39 : decode cX10_part 39 = .ok (.invokevirtual 126, 3) := by decide +kernel
theorem dX10_part_42 : decode cX10_part 42 = .ok (.ireturn, 1) := by decide +kernel
theorem dX10_spell_0 : decode cX10_spell 0 = .ok (.aload_n 0, 1) := by decide +kernel
theorem dX10_spell_1 : decode cX10_spell 1 = .ok (.getfield 12, 3) := by decide +kernel
theorem dX10_spell_4 : decode cX10_spell 4 = .ok (.getfield 103, 3) := by decide +kernel
theorem dX10_spell_7 : decode cX10_spell 7 = .ok (.ifnonnull 6, 3) := by decide +kernel
theorem dX10_spell_10 : decode cX10_spell 10 = .ok (.bipush (-3), 2) := by decide +kernel
theorem dX10_spell_12 : decode cX10_spell 12 = .ok (.ireturn, 1) := by decide +kernel
theorem dX10_spell_13 : decode cX10_spell 13 = .ok (.aload_n 0, 1) := by decide +kernel
theorem dX10_spell_14 : decode cX10_spell 14 = .ok (.getfield 34, 3) := by decide +kernel
theorem dX10_spell_17 : decode cX10_spell 17 = .ok (.invokevirtual 87, 3) := by decide +kernel
theorem dX10_spell_20 : decode cX10_spell 20 = .ok (.pop, 1) := by decide +kernel
theorem dX10_spell_21 : decode cX10_spell 21 = .ok (.aload_n 0, 1) := by decide +kernel
theorem dX10_spell_22 : decode cX10_spell 22 = .ok (.getfield 12, 3) := by decide +kernel
theorem dX10_spell_25 : decode cX10_spell 25 = .ok (.getfield 103, 3) := by decide +kernel
theorem dX10_spell_28 : decode cX10_spell 28 = .ok (.aload_n 0, 1) := by decide +kernel
theorem dX10_spell_29 : decode cX10_spell 29 = .ok (.getfield 34, 3) := by decide +kernel
theorem dX10_spell_32 : decode cX10_spell 32 = .ok (.invokevirtual 129, 3) := by decide +kernel
theorem dX10_spell_35 : decode cX10_spell 35 = .ok (.aload_n 0, 1) := by decide +kernel
theorem dX10_spell_36 : decode cX10_spell 36 = .ok (.getfield 34, 3) := by decide +kernel
theorem dX10_spell_39 : decode cX10_spell 39 = .ok (.getfield 86, 3) := by decide +kernel
theorem dX10_spell_42 : decode cX10_spell 42 = .ok (.ireturn, 1) := by decide +kernel
theorem dX10_paper_0 : decode cX10_paper 0 = .ok (.aload_n 0, 1) := by decide +kernel
theorem dX10_paper_1 : decode cX10_paper 1 = .ok (.getfield 34, 3) := by decide +kernel
theorem dX10_paper_4 : decode cX10_paper 4 = .ok (.iload_n 1, 1) := by decide +kernel
theorem dX10_paper_5 : decode cX10_paper 5 = .ok (.invokevirtual 131, 3) := by decide +kernel
theorem dX10_paper_8 : decode cX10_paper 8 = .ok (.ireturn, 1) := by decide +kernel
theorem dX10_mode_0 : decode cX10_mode 0 = .ok (.iload_n 1, 1) := by decide +kernel
theorem dX10_mode_1 : decode cX10_mode 1 = .ok (.ifCond .lt 15, 3) := by decide +kernel
theorem dX10_mode_4 : decode cX10_mode 4 = .ok (.iload_n 1, 1) := by decide +kernel
theorem dX10_mode_5 : decode cX10_mode 5 = .ok (.iconst 4, 1) := by decide +kernel
theorem dX10_mode_6 : decode cX10_mode 6 = .ok (.if_icmp .ge 10, 3) := by decide +kernel
theorem dX10_mode_9 : decode cX10_mode 9 = .ok (.iload_n 2, 1) := by decide +kernel
theorem dX10_mode_10 : decode cX10_mode 10 = .ok (.invokestatic 135, 3) := by decide +kernel
theorem dX10_mode_13 : decode cX10_mode 13 = .ok (.ifCond .ne 5, 3) := by decide +kernel
theorem dX10_mode_16 : decode cX10_mode 16 = .ok (.iconst (-1), 1) := by decide +kernel
theorem dX10_mode_17 : decode cX10_mode 17 = .ok (.ireturn, 1) := by decide +kernel
theorem dX10_mode_18 : decode cX10_mode 18 = .ok (.bipush 10, 2) := by decide +kernel
theorem dX10_mode_20 : decode cX10_mode 20 = .ok (.aload_n 0, 1) := by decide +kernel
theorem dX10_mode_21 : decode cX10_mode 21 = .ok (.getfield 12, 3) := by decide +kernel
theorem dX10_mode_24 : decode cX10_mode 24 = .ok (.getfield 138, 3) := by decide +kernel
theorem dX10_mode_27 : decode cX10_mode 27 = .ok (.imul, 1) := by decide +kernel
theorem dX10_mode_28 : decode cX10_mode 28 = .ok (.aload_n 0, 1) := by decide +kernel
theorem dX10_mode_29 : decode cX10_mode 29 = .ok (.getfield 12, 3) := by decide +kernel
theorem dX10_mode_32 : decode cX10_mode 32 = .ok (.getfield 141, 3) := by decide +kernel
theorem dX10_mode_35 : decode cX10_mode 35 = .ok (.iadd, 1) := by decide +kernel
theorem dX10_mode_36 : decode cX10_mode 36 = .ok (.istore_n 3, 1) := by decide +kernel
theorem dX10_mode_37 : decode cX10_mode 37 = .ok (.aload_n 0, 1) := by decide +kernel
theorem dX10_mode_38 : decode cX10_mode 38 = .ok (.getfield 12, 3) := by decide +kernel
theorem dX10_mode_41 : decode cX10_mode 41 = .ok (.iload_n 1, 1) := by decide +kernel
theorem dX10_mode_42 : decode cX10_mode 42 = .ok (.putfield 141, 3) := by decide +kernel
theorem dX10_mode_45 : decode cX10_mode 45 = .ok (.aload_n 0, 1) := by decide +kernel
theorem dX10_mode_46 : decode cX10_mode 46 = .ok (.getfield 12, 3) := by decide +kernel
theorem dX10_mode_49 : decode cX10_mode 49 = .ok (.iload_n 2, 1) := by decide +kernel
theorem dX10_mode_50 : decode cX10_mode 50 = .ok (.putfield 138, 3) := by decide +kernel
theorem dX10_mode_53 : decode cX10_mode 53 = .ok (.iload_n 3, 1) := by decide +kernel
theorem dX10_mode_54 : decode cX10_mode 54 = .ok (.ireturn, 1) := by decide +kernel
theorem dX10_empties_0 : decode cX10_empties 0 = .ok (.iload_n 1, 1) := by decide +kernel
theorem dX10_empties_1 : decode cX10_empties 1 = .ok (.ifCond .eq 10, 3) := by decide +kernel
theorem dX10_empties_4 : decode cX10_empties 4 = .ok (.iload_n 1, 1) := by decide +kernel
theorem dX10_empties_5 : decode cX10_empties 5 = .ok (.iconst 1, 1) := by decide +kernel
theorem dX10_empties_6 : decode cX10_empties 6 = .ok (.if_icmp .eq 5, 3) := by decide +kernel
theorem dX10_empties_9 : decode cX10_empties 9 = .ok (.iconst (-1), 1) := by decide +kernel
theorem dX10_empties_10 : decode cX10_empties 10 = .ok (.ireturn, 1) := by decide +kernel
theorem dX10_empties_11 : decode cX10_empties 11 = .ok (.aload_n 0, 1) := by decide +kernel
theorem dX10_empties_12 : decode cX10_empties 12 = .ok (.getfield 12, 3) := by decide +kernel
theorem dX10_empties_15 : decode cX10_empties 15 = .ok (.getfield 144, 3) := by decide +kernel
theorem dX10_empties_18 : decode cX10_empties 18 = .ok (.istore_n 2, 1) := by decide +kernel
theorem dX10_empties_19 : decode cX10_empties 19 = .ok (.aload_n 0, 1) := by decide +kernel
theorem dX10_empties_20 : decode cX10_empties 20 = .ok (.getfield 12, 3) := by decide +kernel
theorem dX10_empties_23 : decode cX10_empties 23 = .ok (.iload_n 1, 1) := by decide +kernel
theorem dX10_empties_24 : decode cX10_empties 24 = .ok (.putfield 144, 3) := by decide +kernel
theorem dX10_empties_27 : decode cX10_empties 27 = .ok (.iload_n 2, 1) := by decide +kernel
theorem dX10_empties_28 : decode cX10_empties 28 = .ok (.ireturn, 1) := by decide +kernel
theorem dX10_may_0 : decode cX10_may 0 = .ok (.iload_n 1, 1) := by decide +kernel
theorem dX10_may_1 : decode cX10_may 1 = .ok (.iconst 1, 1) := by decide +kernel
theorem dX10_may_2 : decode cX10_may 2 = .ok (.if_icmp .lt 10, 3) := by decide +kernel
theorem dX10_may_5 : decode cX10_may 5 = .ok (.iload_n 1, 1) := by decide +kernel
theorem dX10_may_6 : decode cX10_may 6 = .ok (.sipush 5000, 3) := by decide +kernel
theorem dX10_may_9 : decode cX10_may 9 = .ok (.if_icmp .le 6, 3) := by decide +kernel
theorem dX10_may_12 : decode cX10_may 12 = .ok (.bipush (-2), 2) := by decide +kernel
theorem dX10_may_14 : decode cX10_may 14 = .ok (.ireturn, 1) := by decide +kernel
theorem dX10_may_15 : decode cX10_may 15 = .ok (.aload_n 0, 1) := by decide +kernel
theorem dX10_may_16 : decode cX10_may 16 = .ok (.getfield 12, 3) := by decide +kernel
theorem dX10_may_19 : decode cX10_may 19 = .ok (.getfield 147, 3) := by decide +kernel
theorem dX10_may_22 : decode cX10_may 22 = .ok (.istore_n 2, 1) := by decide +kernel
theorem dX10_may_23 : decode cX10_may 23 = .ok (.aload_n 0, 1) := by decide +kernel
theorem dX10_may_24 : decode cX10_may 24 = .ok (.getfield 12, 3) := by decide +kernel
theorem dX10_may_27 : decode cX10_may 27 = .ok (.iload_n 1, 1) := by decide +kernel
theorem dX10_may_28 : decode cX10_may 28 = .ok (.putfield 147, 3) := by decide +kernel
theorem dX10_may_31 : decode cX10_may 31 = .ok (.iload_n 2, 1) := by decide +kernel
theorem dX10_may_32 : decode cX10_may 32 = .ok (.ireturn, 1) := by decide +kernel
theorem dX10_holds_0 : decode cX10_holds 0 = .ok (.iload_n 1, 1) := by decide +kernel
theorem dX10_holds_1 : decode cX10_holds 1 = .ok (.invokestatic 135, 3) := by decide +kernel
theorem dX10_holds_4 : decode cX10_holds 4 = .ok (.ifCond .eq 17, 3) := by decide +kernel
theorem dX10_holds_7 : decode cX10_holds 7 = .ok (.aload_n 0, 1) := by decide +kernel
theorem dX10_holds_8 : decode cX10_holds 8 = .ok (.getfield 12, 3) := by decide +kernel
theorem dX10_holds_11 : decode cX10_holds 11 = .ok (.getfield 55, 3) := by decide +kernel
theorem dX10_holds_14 : decode cX10_holds 14 = .ok (.iload_n 2, 1) := by decide +kernel
theorem dX10_holds_15 : decode cX10_holds 15 = .ok (.invokevirtual 73, 3) := by decide +kernel
theorem dX10_holds_18 : decode cX10_holds 18 = .ok (.ifCond .ne 5, 3) := by decide +kernel
theorem dX10_holds_21 : decode cX10_holds 21 = .ok (.iconst (-1), 1) := by decide +kernel
theorem dX10_holds_22 : decode cX10_holds 22 = .ok (.ireturn, 1) := by decide +kernel
theorem dX10_holds_23 : decode cX10_holds 23 = .ok (.aload_n 0, 1) := by decide +kernel
theorem dX10_holds_24 : decode cX10_holds 24 = .ok (.getfield 23, 3) := by decide +kernel
theorem dX10_holds_27 : decode cX10_holds 27 = .ok (.iload_n 1, 1) := by decide +kernel
theorem dX10_holds_28 : decode cX10_holds 28 = .ok (.iload_n 2, 1) := by decide +kernel
theorem dX10_holds_29 : decode cX10_holds 29 = .ok (.invokevirtual 150, 3) := by decide +kernel
theorem dX10_holds_32 : decode cX10_holds 32 = .ok (.ifCond .eq 7, 3) := by decide +kernel
theorem dX10_holds_35 : decode cX10_holds 35 = .ok (.iconst 1, 1) := by decide +kernel
theorem dX10_holds_36 : decode cX10_holds 36 = .ok (.goto 4, 3) := by decide +kernel
theorem dX10_holds_39 : decode cX10_holds 39 = .ok (.iconst 0, 1) := by decide +kernel
theorem dX10_holds_40 : decode cX10_holds 40 = .ok (.ireturn, 1) := by decide +kernel
theorem dX10_first_0 : decode cX10_first 0 = .ok (.aload_n 0, 1) := by decide +kernel
theorem dX10_first_1 : decode cX10_first 1 = .ok (.getfield 23, 3) := by decide +kernel
theorem dX10_first_4 : decode cX10_first 4 = .ok (.iload_n 1, 1) := by decide +kernel
theorem dX10_first_5 : decode cX10_first 5 = .ok (.iconst (-1), 1) := by decide +kernel
theorem dX10_first_6 : decode cX10_first 6 = .ok (.invokevirtual 154, 3) := by decide +kernel
theorem dX10_first_9 : decode cX10_first 9 = .ok (.istore_n 2, 1) := by decide +kernel
theorem dX10_first_10 : decode cX10_first 10 = .ok (.iload_n 2, 1) := by decide +kernel
theorem dX10_first_11 : decode cX10_first 11 = .ok (.iconst 1, 1) := by decide +kernel
theorem dX10_first_12 : decode cX10_first 12 = .ok (.if_icmp .ne 15, 3) := by decide +kernel
theorem dX10_first_15 : decode cX10_first 15 = .ok (.aload_n 0, 1) := by decide +kernel
theorem dX10_first_16 : decode cX10_first 16 = .ok (.getfield 23, 3) := by decide +kernel
theorem dX10_first_19 : decode cX10_first 19 = .ok (.getfield 157, 3) := by decide +kernel
theorem dX10_first_22 : decode cX10_first 22 = .ok (.iload_n 1, 1) := by decide +kernel
theorem dX10_first_23 : decode cX10_first 23 = .ok (.isub, 1) := by decide +kernel
theorem dX10_first_24 : decode cX10_first 24 = .ok (.goto 13, 3) := by decide +kernel
theorem dX10_first_27 : decode cX10_first 27 = .ok (.iload_n 2, 1) := by decide +kernel
theorem dX10_first_28 : decode cX10_first 28 = .ok (.ifCond .ne 8, 3) := by decide +kernel
theorem dX10_first_31 : decode cX10_first 31 = .ok (.bipush (-5), 2) := by decide +kernel
theorem dX10_first_33 : decode cX10_first 33 = .ok (.goto 4, 3) := by decide +kernel
theorem dX10_first_36 : decode cX10_first 36 = .ok (.iload_n 2, 1) := by decide +kernel
theorem dX10_first_37 : decode cX10_first 37 = .ok (.ireturn, 1) := by decide +kernel
theorem dX10_tries_0 : decode cX10_tries 0 = .ok (.aload_n 0, 1) := by decide +kernel
theorem dX10_tries_1 : decode cX10_tries 1 = .ok (.getfield 23, 3) := by decide +kernel
theorem dX10_tries_4 : decode cX10_tries 4 = .ok (.iload_n 1, 1) := by decide +kernel
theorem dX10_tries_5 : decode cX10_tries 5 = .ok (.iconst (-1), 1) := by decide +kernel
theorem dX10_tries_6 : decode cX10_tries 6 = .ok (.invokevirtual 154, 3) := by decide +kernel
theorem dX10_tries_9 : decode cX10_tries 9 = .ok (.istore_n 2, 1) := by decide +kernel
theorem dX10_tries_10 : decode cX10_tries 10 = .ok (.iload_n 2, 1) := by decide +kernel
theorem dX10_tries_11 : decode cX10_tries 11 = .ok (.ifCond .ge 7, 3) := by decide +kernel
theorem dX10_tries_14 : decode cX10_tries 14 = .ok (.iload_n 2, 1) := by decide +kernel
theorem dX10_tries_15 : decode cX10_tries 15 = .ok (.goto 10, 3) := by decide +kernel
theorem dX10_tries_18 : decode cX10_tries 18 = .ok (.aload_n 0, 1) := by decide +kernel
theorem dX10_tries_19 : decode cX10_tries 19 = .ok (.getfield 23, 3) := by decide +kernel
theorem dX10_tries_22 : decode cX10_tries 22 = .ok (.getfield 160, 3) := by decide +kernel
theorem dX10_tries_25 : decode cX10_tries 25 = .ok (.ireturn, 1) := by decide +kernel
theorem dX10_way_0 : decode cX10_way 0 = .ok (.aload_n 0, 1) := by decide +kernel
theorem dX10_way_1 : decode cX10_way 1 = .ok (.getfield 23, 3) := by decide +kernel
theorem dX10_way_4 : decode cX10_way 4 = .ok (.iload_n 1, 1) := by decide +kernel
theorem dX10_way_5 : decode cX10_way 5 = .ok (.iconst (-1), 1) := by decide +kernel
theorem dX10_way_6 : decode cX10_way 6 = .ok (.invokevirtual 154, 3) := by decide +kernel
theorem dX10_way_9 : decode cX10_way 9 = .ok (.istore_n 3, 1) := by decide +kernel
theorem dX10_way_10 : decode cX10_way 10 = .ok (.iload_n 3, 1) := by decide +kernel
theorem dX10_way_11 : decode cX10_way 11 = .ok (.ifCond .ge 5, 3) := by decide +kernel
theorem dX10_way_14 : decode cX10_way 14 = .ok (.iload_n 3, 1) := by decide +kernel
theorem dX10_way_15 : decode cX10_way 15 = .ok (.ireturn, 1) := by decide +kernel
theorem dX10_way_16 : decode cX10_way 16 = .ok (.iload_n 3, 1) := by decide +kernel
theorem dX10_way_17 : decode cX10_way 17 = .ok (.ifCond .eq 20, 3) := by decide +kernel
theorem dX10_way_20 : decode cX10_way 20 = .ok (.iload_n 2, 1) := by decide +kernel
theorem dX10_way_21 : decode cX10_way 21 = .ok (.ifCond .lt 16, 3) := by decide +kernel
theorem dX10_way_24 : decode cX10_way 24 = .ok (.iload_n 2, 1) := by decide +kernel
theorem dX10_way_25 : decode cX10_way 25 = .ok (.aload_n 0, 1) := by decide +kernel
theorem dX10_way_26 : decode cX10_way 26 = .ok (.getfield 23, 3) := by decide +kernel
theorem dX10_way_29 : decode cX10_way 29 = .ok (.getfield 157, 3) := by decide +kernel
theorem dX10_way_32 : decode cX10_way 32 = .ok (.iload_n 1, 1) := by decide +kernel
theorem dX10_way_33 : decode cX10_way 33 = .ok (.isub, 1) := by decide +kernel
theorem dX10_way_34 : decode cX10_way 34 = .ok (.if_icmp .lt 8, 3) := by decide +kernel
theorem dX10_way_37 : decode cX10_way 37 = .ok (.bipush (-5), 2) := by decide +kernel
theorem dX10_way_39 : decode cX10_way 39 = .ok (.goto 13, 3) := by decide +kernel
theorem dX10_way_42 : decode cX10_way 42 = .ok (.aload_n 0, 1) := by decide +kernel
theorem dX10_way_43 : decode cX10_way 43 = .ok (.getfield 23, 3) := by decide +kernel
theorem dX10_way_46 : decode cX10_way 46 = .ok (.iload_n 1, 1) := by decide +kernel
theorem dX10_way_47 : decode cX10_way 47 = .ok (.iload_n 2, 1) := by decide +kernel
theorem dX10_way_48 : decode cX10_way 48 = .ok (.iadd, 1) := by decide +kernel
theorem dX10_way_49 : decode cX10_way 49 = .ok (.invokevirtual 163, 3) := by decide +kernel
theorem dX10_way_52 : decode cX10_way 52 = .ok (.ireturn, 1) := by decide +kernel
theorem dX10_ways_0 : decode cX10_ways 0 = .ok (.aload_n 0, 1) := by decide +kernel
theorem dX10_ways_1 : decode cX10_ways 1 = .ok (.getfield 23, 3) := by decide +kernel
theorem dX10_ways_4 : decode cX10_ways 4 = .ok (.iload_n 1, 1) := by decide +kernel
theorem dX10_ways_5 : decode cX10_ways 5 = .ok (.bipush (-2), 2) := by decide +kernel
theorem dX10_ways_7 : decode cX10_ways 7 = .ok (.invokevirtual 154, 3) := by decide +kernel
theorem dX10_ways_10 : decode cX10_ways 10 = .ok (.istore_n 2, 1) := by decide +kernel
theorem dX10_ways_11 : decode cX10_ways 11 = .ok (.iload_n 2, 1) := by decide +kernel
theorem dX10_ways_12 : decode cX10_ways 12 = .ok (.ifCond .ge 7, 3) := by decide +kernel
theorem dX10_ways_15 : decode cX10_ways 15 = .ok (.iload_n 2, 1) := by decide +kernel
theorem dX10_ways_16 : decode cX10_ways 16 = .ok (.goto 10, 3) := by decide +kernel
theorem dX10_ways_19 : decode cX10_ways 19 = .ok (.aload_n 0, 1) := by decide +kernel
theorem dX10_ways_20 : decode cX10_ways 20 = .ok (.getfield 23, 3) := by decide +kernel
theorem dX10_ways_23 : decode cX10_ways 23 = .ok (.getfield 166, 3) := by decide +kernel
theorem dX10_ways_26 : decode cX10_ways 26 = .ok (.ireturn, 1) := by decide +kernel
theorem dX10_spans_0 : decode cX10_spans 0 = .ok (.iload_n 2, 1) := by decide +kernel
theorem dX10_spans_1 : decode cX10_spans 1 = .ok (.ifCond .eq 10, 3) := by decide +kernel
theorem dX10_spans_4 : decode cX10_spans 4 = .ok (.iload_n 2, 1) := by decide +kernel
theorem dX10_spans_5 : decode cX10_spans 5 = .ok (.iconst 1, 1) := by decide +kernel
theorem dX10_spans_6 : decode cX10_spans 6 = .ok (.if_icmp .eq 5, 3) := by decide +kernel
theorem dX10_spans_9 : decode cX10_spans 9 = .ok (.iconst (-1), 1) := by decide +kernel
theorem dX10_spans_10 : decode cX10_spans 10 = .ok (.ireturn, 1) := by decide +kernel
theorem dX10_spans_11 : decode cX10_spans 11 = .ok (.aload_n 0, 1) := by decide +kernel
theorem dX10_spans_12 : decode cX10_spans 12 = .ok (.getfield 23, 3) := by decide +kernel
theorem dX10_spans_15 : decode cX10_spans 15 = .ok (.iload_n 1, 1) := by decide +kernel
theorem dX10_spans_16 : decode cX10_spans 16 = .ok (.bipush (-2), 2) := by decide +kernel
theorem dX10_spans_18 : decode cX10_spans 18 = .ok (.invokevirtual 154, 3) := by decide +kernel
theorem dX10_spans_21 : decode cX10_spans 21 = .ok (.istore_n 3, 1) := by decide +kernel
theorem dX10_spans_22 : decode cX10_spans 22 = .ok (.iload_n 3, 1) := by decide +kernel
theorem dX10_spans_23 : decode cX10_spans 23 = .ok (.ifCond .ge 5, 3) := by decide +kernel
theorem dX10_spans_26 : decode cX10_spans 26 = .ok (.iload_n 3, 1) := by decide +kernel
theorem dX10_spans_27 : decode cX10_spans 27 = .ok (.ireturn, 1) := by decide +kernel
theorem dX10_spans_28 : decode cX10_spans 28 = .ok (.aload_n 0, 1) := by decide +kernel
theorem dX10_spans_29 : decode cX10_spans 29 = .ok (.getfield 23, 3) := by decide +kernel
theorem dX10_spans_32 : decode cX10_spans 32 = .ok (.getfield 166, 3) := by decide +kernel
theorem dX10_spans_35 : decode cX10_spans 35 = .ok (.ifCond .ne 6, 3) := by decide +kernel
theorem dX10_spans_38 : decode cX10_spans 38 = .ok (.bipush (-5), 2) := by decide +kernel
theorem dX10_spans_40 : decode cX10_spans 40 = .ok (.ireturn, 1) := by decide +kernel
theorem dX10_spans_41 : decode cX10_spans 41 = .ok (.iload_n 2, 1) := by decide +kernel
theorem dX10_spans_42 : decode cX10_spans 42 = .ok (.ifCond .ne 13, 3) := by decide +kernel
theorem dX10_spans_45 : decode cX10_spans 45 = .ok (.aload_n 0, 1) := by decide +kernel
theorem dX10_spans_46 : decode cX10_spans 46 = .ok (.getfield 23, 3) := by decide +kernel
theorem dX10_spans_49 : decode cX10_spans 49 = .ok (.getfield 169, 3) := by decide +kernel
theorem dX10_spans_52 : decode cX10_spans 52 = .ok (.goto 10, 3) := by decide +kernel
theorem dX10_spans_55 : decode cX10_spans 55 = .ok (.aload_n 0, 1) := by decide +kernel
theorem dX10_spans_56 : decode cX10_spans 56 = .ok (.getfield 23, 3) := by decide +kernel
theorem dX10_spans_59 : decode cX10_spans 59 = .ok (.getfield 172, 3) := by decide +kernel
theorem dX10_spans_62 : decode cX10_spans 62 = .ok (.ireturn, 1) := by decide +kernel
theorem dX10_fits_0 : decode cX10_fits 0 = .ok (.iload_n 2, 1) := by decide +kernel
theorem dX10_fits_1 : decode cX10_fits 1 = .ok (.iload_n 1, 1) := by decide +kernel
theorem dX10_fits_2 : decode cX10_fits 2 = .ok (.if_icmp .lt 17, 3) := by decide +kernel
theorem dX10_fits_5 : decode cX10_fits 5 = .ok (.iload_n 2, 1) := by decide +kernel
theorem dX10_fits_6 : decode cX10_fits 6 = .ok (.aload_n 0, 1) := by decide +kernel
theorem dX10_fits_7 : decode cX10_fits 7 = .ok (.getfield 12, 3) := by decide +kernel
theorem dX10_fits_10 : decode cX10_fits 10 = .ok (.getfield 55, 3) := by decide +kernel
theorem dX10_fits_13 : decode cX10_fits 13 = .ok (.getfield 59, 3) := by decide +kernel
theorem dX10_fits_16 : decode cX10_fits 16 = .ok (.if_icmp .le 7, 3) := by decide +kernel
theorem dX10_fits_19 : decode cX10_fits 19 = .ok (.iconst (-1), 1) := by decide +kernel
theorem dX10_fits_20 : decode cX10_fits 20 = .ok (.goto 12, 3) := by decide +kernel
theorem dX10_fits_23 : decode cX10_fits 23 = .ok (.aload_n 0, 1) := by decide +kernel
theorem dX10_fits_24 : decode cX10_fits 24 = .ok (.getfield 23, 3) := by decide +kernel
theorem dX10_fits_27 : decode cX10_fits 27 = .ok (.iload_n 1, 1) := by decide +kernel
theorem dX10_fits_28 : decode cX10_fits 28 = .ok (.iload_n 2, 1) := by decide +kernel
theorem dX10_fits_29 : decode cX10_fits 29 = .ok (.invokevirtual 154, 3) := by decide +kernel
theorem dX10_fits_32 : decode cX10_fits 32 = .ok (.ireturn, 1) := by decide +kernel
theorem dX10_run_0 : decode cX10_run 0 = .ok (.aload_n 0, 1) := by decide +kernel
theorem dX10_run_1 : decode cX10_run 1 = .ok (.getfield 46, 3) := by decide +kernel
theorem dX10_run_4 : decode cX10_run 4 = .ok (.astore_n 1, 1) := by decide +kernel
theorem dX10_run_5 : decode cX10_run 5 = .ok (.aload_n 1, 1) := by decide +kernel
theorem dX10_run_6 : decode cX10_run 6 = .ok (.iconst 0, 1) := by decide +kernel
theorem dX10_run_7 : decode cX10_run 7 = .ok (.putfield 72, 3) := by decide +kernel
theorem dX10_run_10 : decode cX10_run 10 = .ok (.iconst 0, 1) := by decide +kernel
theorem dX10_run_11 : decode cX10_run 11 = .ok (.istore_n 2, 1) := by decide +kernel
theorem dX10_run_12 : decode cX10_run 12 = .ok (.iconst 0, 1) := by decide +kernel
theorem dX10_run_13 : decode cX10_run 13 = .ok (.istore_n 3, 1) := by decide +kernel
theorem dX10_run_14 : decode cX10_run 14 = .ok (.iload_n 3, 1) := by decide +kernel
theorem dX10_run_15 : decode cX10_run 15 = .ok (.aload_n 0, 1) := by decide +kernel
theorem dX10_run_16 : decode cX10_run 16 = .ok (.getfield 12, 3) := by decide +kernel
theorem dX10_run_19 : decode cX10_run 19 = .ok (.getfield 55, 3) := by decide +kernel
theorem dX10_run_22 : decode cX10_run 22 = .ok (.getfield 59, 3) := by decide +kernel
theorem dX10_run_25 : decode cX10_run 25 = .ok (.if_icmp .gt 90, 3) := by decide +kernel
theorem dX10_run_28 : decode cX10_run 28 = .ok (.iload_n 3, 1) := by decide +kernel
theorem dX10_run_29 : decode cX10_run 29 = .ok (.iload_n 2, 1) := by decide +kernel
theorem dX10_run_30 : decode cX10_run 30 = .ok (.if_icmp .ge 6, 3) := by decide +kernel
theorem dX10_run_33 : decode cX10_run 33 = .ok (.goto 76, 3) := by decide +kernel
theorem dX10_run_36 : decode cX10_run 36 = .ok (.aload_n 0, 1) := by decide +kernel
theorem dX10_run_37 : decode cX10_run 37 = .ok (.getfield 23, 3) := by decide +kernel
theorem dX10_run_40 : decode cX10_run 40 = .ok (.iload_n 3, 1) := by decide +kernel
theorem dX10_run_41 : decode cX10_run 41 = .ok (.iconst (-1), 1) := by decide +kernel
theorem dX10_run_42 : decode cX10_run 42 = .ok (.invokevirtual 154, 3) := by decide +kernel
theorem dX10_run_45 : decode cX10_run 45 = .ok (.istore 4, 2) := by decide +kernel
theorem dX10_run_47 : decode cX10_run 47 = .ok (.iload 4, 2) := by decide +kernel
theorem dX10_run_49 : decode cX10_run 49 = .ok (.ifCond .ge 6, 3) := by decide +kernel
theorem dX10_run_52 : decode cX10_run 52 = .ok (.iload 4, 2) := by decide +kernel
theorem dX10_run_54 : decode cX10_run 54 = .ok (.ireturn, 1) := by decide +kernel
theorem dX10_run_55 : decode cX10_run 55 = .ok (.iload_n 3, 1) := by decide +kernel
theorem dX10_run_56 : decode cX10_run 56 = .ok (.iconst 1, 1) := by decide +kernel
theorem dX10_run_57 : decode cX10_run 57 = .ok (.iadd, 1) := by decide +kernel
theorem dX10_run_58 : decode cX10_run 58 = .ok (.istore_n 2, 1) := by decide +kernel
theorem dX10_run_59 : decode cX10_run 59 = .ok (.iload 4, 2) := by decide +kernel
theorem dX10_run_61 : decode cX10_run 61 = .ok (.iconst 1, 1) := by decide +kernel
theorem dX10_run_62 : decode cX10_run 62 = .ok (.if_icmp .ne 47, 3) := by decide +kernel
theorem dX10_run_65 : decode cX10_run 65 = .ok (.aload_n 0, 1) := by decide +kernel
theorem dX10_run_66 : decode cX10_run 66 = .ok (.getfield 23, 3) := by decide +kernel
theorem dX10_run_69 : decode cX10_run 69 = .ok (.getfield 157, 3) := by decide +kernel
theorem dX10_run_72 : decode cX10_run 72 = .ok (.iload_n 3, 1) := by decide +kernel
theorem dX10_run_73 : decode cX10_run 73 = .ok (.if_icmp .gt 14, 3) := by decide +kernel
theorem dX10_run_76 : decode cX10_run 76 = .ok (.aload_n 0, 1) := by decide +kernel
theorem dX10_run_77 : decode cX10_run 77 = .ok (.getfield 12, 3) := by decide +kernel
theorem dX10_run_80 : decode cX10_run 80 = .ok (.getfield 144, 3) := by decide +kernel
theorem dX10_run_83 : decode cX10_run 83 = .ok (.iconst 1, 1) := by decide +kernel
theorem dX10_run_84 : decode cX10_run 84 = .ok (.if_icmp .ne 25, 3) := by decide +kernel
theorem dX10_run_87 : decode cX10_run 87 = .ok (.aload_n 1, 1) := by decide +kernel
theorem dX10_run_88 : decode cX10_run 88 = .ok (.iload_n 3, 1) := by decide +kernel
theorem dX10_run_89 : decode cX10_run 89 = .ok (.aload_n 0, 1) := by decide +kernel
theorem dX10_run_90 : decode cX10_run 90 = .ok (.getfield 23, 3) := by decide +kernel
theorem dX10_run_93 : decode cX10_run 93 = .ok (.getfield 157, 3) := by decide +kernel
theorem dX10_run_96 : decode cX10_run 96 = .ok (.aload_n 0, 1) := by decide +kernel
theorem dX10_run_97 : decode cX10_run 97 = .ok (.getfield 23, 3) := by decide +kernel
theorem dX10_run_100 : decode cX10_run 100 = .ok (.invokevirtual 175, 3) := by decide +kernel
theorem dX10_run_103 : decode cX10_run 103 = .ok (.aload_n 0, 1) := by decide +kernel
theorem dX10_run_104 : decode cX10_run 104 = .ok (.iload_n 3, 1) := by decide +kernel
theorem dX10_run_105 : decode cX10_run 105 = .ok (.invokevirtual 178, 3) := by decide +kernel
theorem dX10_run_108 : decode cX10_run 108 = .ok (.istore_n 2, 1) := by decide +kernel
theorem dX10_run_109 : decode cX10_run 109 = .ok (.iinc 3 1, 3) := by decide +kernel
theorem dX10_run_112 : decode cX10_run 112 = .ok (.goto (-98), 3) := by decide +kernel
theorem dX10_run_115 : decode cX10_run 115 = .ok (.aload_n 0, 1) := by decide +kernel
theorem dX10_run_116 : decode cX10_run 116 = .ok (.aload_n 0, 1) := by decide +kernel
theorem dX10_run_117 : decode cX10_run 117 = .ok (.getfield 12, 3) := by decide +kernel
theorem dX10_run_120 : decode cX10_run 120 = .ok (.getfield 69, 3) := by decide +kernel
theorem dX10_run_123 : decode cX10_run 123 = .ok (.putfield 46, 3) := by decide +kernel
theorem dX10_run_126 : decode cX10_run 126 = .ok (.aload_n 0, 1) := by decide +kernel
theorem dX10_run_127 : decode cX10_run 127 = .ok (.getfield 12, 3) := by decide +kernel
theorem dX10_run_130 : decode cX10_run 130 = .ok (.aload_n 1, 1) := by decide +kernel
theorem dX10_run_131 : decode cX10_run 131 = .ok (.putfield 69, 3) := by decide +kernel
theorem dX10_run_134 : decode cX10_run 134 = .ok (.aload_n 1, 1) := by decide +kernel
theorem dX10_run_135 : decode cX10_run 135 = .ok (.getfield 72, 3) := by decide +kernel
theorem dX10_run_138 : decode cX10_run 138 = .ok (.ireturn, 1) := by decide +kernel
theorem dX10_match_0 : decode cX10_match 0 = .ok (.aload_n 0, 1) := by decide +kernel
theorem dX10_match_1 : decode cX10_match 1 = .ok (.getfield 12, 3) := by decide +kernel
theorem dX10_match_4 : decode cX10_match 4 = .ok (.getfield 69, 3) := by decide +kernel
theorem dX10_match_7 : decode cX10_match 7 = .ok (.iload_n 1, 1) := by decide +kernel
theorem dX10_match_8 : decode cX10_match 8 = .ok (.invokevirtual 181, 3) := by decide +kernel
theorem dX10_match_11 : decode cX10_match 11 = .ok (.ifCond .ne 5, 3) := by decide +kernel
theorem dX10_match_14 : decode cX10_match 14 = .ok (.iconst (-1), 1) := by decide +kernel
theorem dX10_match_15 : decode cX10_match 15 = .ok (.ireturn, 1) := by decide +kernel
theorem dX10_match_16 : decode cX10_match 16 = .ok (.iload_n 2, 1) := by decide +kernel
theorem dX10_match_17 : decode cX10_match 17 = .ok (.tableswitch 82 0 3 #[31, 43, 55, 70], 31) := by decide +kernel
theorem dX10_match_48 : decode cX10_match 48 = .ok (.aload_n 0, 1) := by decide +kernel
theorem dX10_match_49 : decode cX10_match 49 = .ok (.getfield 12, 3) := by decide +kernel
theorem dX10_match_52 : decode cX10_match 52 = .ok (.getfield 69, 3) := by decide +kernel
theorem dX10_match_55 : decode cX10_match 55 = .ok (.iload_n 1, 1) := by decide +kernel
theorem dX10_match_56 : decode cX10_match 56 = .ok (.invokevirtual 184, 3) := by decide +kernel
theorem dX10_match_59 : decode cX10_match 59 = .ok (.ireturn, 1) := by decide +kernel
theorem dX10_match_60 : decode cX10_match 60 = .ok (.aload_n 0, 1) := by decide +kernel
theorem dX10_match_61 : decode cX10_match 61 = .ok (.getfield 12, 3) := by decide +kernel
theorem dX10_match_64 : decode cX10_match 64 = .ok (.getfield 69, 3) := by decide +kernel
theorem dX10_match_67 : decode cX10_match 67 = .ok (.iload_n 1, 1) := by decide +kernel
theorem dX10_match_68 : decode cX10_match 68 = .ok (.invokevirtual 187, 3) := by decide +kernel
theorem dX10_match_71 : decode cX10_match 71 = .ok (.ireturn, 1) := by decide +kernel
theorem dX10_match_72 : decode cX10_match 72 = .ok (.aload_n 0, 1) := by decide +kernel
theorem dX10_match_73 : decode cX10_match 73 = .ok (.getfield 12, 3) := by decide +kernel
theorem dX10_match_76 : decode cX10_match 76 = .ok (.getfield 69, 3) := by decide +kernel
theorem dX10_match_79 : decode cX10_match 79 = .ok (.iload_n 1, 1) := by decide +kernel
theorem dX10_match_80 : decode cX10_match 80 = .ok (.invokevirtual 190, 3) := by decide +kernel
theorem dX10_match_83 : decode cX10_match 83 = .ok (.invokestatic 193, 3) := by decide +kernel
theorem dX10_match_86 : decode cX10_match 86 = .ok (.ireturn, 1) := by decide +kernel
theorem dX10_match_87 : decode cX10_match 87 = .ok (.aload_n 0, 1) := by decide +kernel
theorem dX10_match_88 : decode cX10_match 88 = .ok (.getfield 12, 3) := by decide +kernel
theorem dX10_match_91 : decode cX10_match 91 = .ok (.getfield 69, 3) := by decide +kernel
theorem dX10_match_94 : decode cX10_match 94 = .ok (.iload_n 1, 1) := by decide +kernel
theorem dX10_match_95 : decode cX10_match 95 = .ok (.invokevirtual 190, 3) := by decide +kernel
theorem dX10_match_98 : decode cX10_match 98 = .ok (.ireturn, 1) := by decide +kernel
theorem dX10_match_99 : decode cX10_match 99 = .ok (.iconst (-1), 1) := by decide +kernel
theorem dX10_match_100 : decode cX10_match 100 = .ok (.ireturn, 1) := by decide +kernel
theorem dX10_label_0 : decode cX10_label 0 = .ok (.aload_n 0, 1) := by decide +kernel
theorem dX10_label_1 : decode cX10_label 1 = .ok (.getfield 12, 3) := by decide +kernel
theorem dX10_label_4 : decode cX10_label 4 = .ok (.getfield 69, 3) := by decide +kernel
theorem dX10_label_7 : decode cX10_label 7 = .ok (.iload_n 1, 1) := by decide +kernel
theorem dX10_label_8 : decode cX10_label 8 = .ok (.invokevirtual 181, 3) := by decide +kernel
