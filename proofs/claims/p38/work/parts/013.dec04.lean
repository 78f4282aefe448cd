/-! decode rows, 4 -/
theorem dJ1_charAt_3b067_12 : decode cJ1_charAt_3b067 12 = .ok (.iand, 1) := by decide +kernel
theorem dJ1_charAt_3b067_13 : decode cJ1_charAt_3b067 13 = .ok (.i2c, 1) := by decide +kernel
theorem dJ1_charAt_3b067_14 : decode cJ1_charAt_3b067 14 = .ok (.ireturn, 1) := by decide +kernel
theorem dJ1_canEncode_fc78d_0 : decode cJ1_canEncode_fc78d 0 = .ok (.iload_n 0, 1) := by decide +kernel
theorem dJ1_canEncode_fc78d_1 : decode cJ1_canEncode_fc78d 1 = .ok (.sipush 255, 3) := by decide +kernel
theorem dJ1_canEncode_fc78d_4 : decode cJ1_canEncode_fc78d 4 = .ok (.if_icmp .gt 7, 3) := by decide +kernel
theorem dJ1_canEncode_fc78d_7 : decode cJ1_canEncode_fc78d 7 = .ok (.iconst 1, 1) := by decide +kernel
theorem dJ1_canEncode_fc78d_8 : decode cJ1_canEncode_fc78d 8 = .ok (.goto 4, 3) := by decide +kernel
theorem dJ1_canEncode_fc78d_11 : decode cJ1_canEncode_fc78d 11 = .ok (.iconst 0, 1) := by decide +kernel
theorem dJ1_canEncode_fc78d_12 : decode cJ1_canEncode_fc78d 12 = .ok (.ireturn, 1) := by decide +kernel
theorem dJ7_copyOf_9075b_0 : decode cJ7_copyOf_9075b 0 = .ok (.iload_n 1, 1) := by decide +kernel
theorem dJ7_copyOf_9075b_1 : decode cJ7_copyOf_9075b 1 = .ok (.aload_n 0, 1) := by decide +kernel
theorem dJ7_copyOf_9075b_2 : decode cJ7_copyOf_9075b 2 = .ok (.arraylength, 1) := by decide +kernel
theorem dJ7_copyOf_9075b_3 : decode cJ7_copyOf_9075b 3 = .ok (.if_icmp .ne 11, 3) := by decide +kernel
theorem dJ7_copyOf_9075b_6 : decode cJ7_copyOf_9075b 6 = .ok (.aload_n 0, 1) := by decide +kernel
theorem dJ7_copyOf_9075b_7 : decode cJ7_copyOf_9075b 7 = .ok (.invokevirtual 310, 3) := by decide +kernel
theorem dJ7_copyOf_9075b_10 : decode cJ7_copyOf_9075b 10 = .ok (.checkcast 311, 3) := by decide +kernel
theorem dJ7_copyOf_9075b_13 : decode cJ7_copyOf_9075b 13 = .ok (.areturn, 1) := by decide +kernel
theorem dJ7_copyOf_9075b_14 : decode cJ7_copyOf_9075b 14 = .ok (.iload_n 1, 1) := by decide +kernel
theorem dJ7_copyOf_9075b_15 : decode cJ7_copyOf_9075b 15 = .ok (.newarray .byte, 2) := by decide +kernel
theorem dJ7_copyOf_9075b_17 : decode cJ7_copyOf_9075b 17 = .ok (.astore_n 2, 1) := by decide +kernel
theorem dJ7_copyOf_9075b_18 : decode cJ7_copyOf_9075b 18 = .ok (.aload_n 0, 1) := by decide +kernel
theorem dJ7_copyOf_9075b_19 : decode cJ7_copyOf_9075b 19 = .ok (.iconst 0, 1) := by decide +kernel
theorem dJ7_copyOf_9075b_20 : decode cJ7_copyOf_9075b 20 = .ok (.aload_n 2, 1) := by decide +kernel
theorem dJ7_copyOf_9075b_21 : decode cJ7_copyOf_9075b 21 = .ok (.iconst 0, 1) := by decide +kernel
theorem dJ7_copyOf_9075b_22 : decode cJ7_copyOf_9075b 22 = .ok (.aload_n 0, 1) := by decide +kernel
theorem dJ7_copyOf_9075b_23 : decode cJ7_copyOf_9075b 23 = .ok (.arraylength, 1) := by decide +kernel
theorem dJ7_copyOf_9075b_24 : decode cJ7_copyOf_9075b 24 = .ok (.iload_n 1, 1) := by decide +kernel
theorem dJ7_copyOf_9075b_25 : decode cJ7_copyOf_9075b 25 = .ok (.invokestatic 304, 3) := by decide +kernel
theorem dJ7_copyOf_9075b_28 : decode cJ7_copyOf_9075b 28 = .ok (.invokestatic 150, 3) := by decide +kernel
theorem dJ7_copyOf_9075b_31 : decode cJ7_copyOf_9075b 31 = .ok (.aload_n 2, 1) := by decide +kernel
theorem dJ7_copyOf_9075b_32 : decode cJ7_copyOf_9075b 32 = .ok (.areturn, 1) := by decide +kernel
theorem dJ7_copyOf_59c91_0 : decode cJ7_copyOf_59c91 0 = .ok (.iload_n 1, 1) := by decide +kernel
theorem dJ7_copyOf_59c91_1 : decode cJ7_copyOf_59c91 1 = .ok (.aload_n 0, 1) := by decide +kernel
theorem dJ7_copyOf_59c91_2 : decode cJ7_copyOf_59c91 2 = .ok (.arraylength, 1) := by decide +kernel
theorem dJ7_copyOf_59c91_3 : decode cJ7_copyOf_59c91 3 = .ok (.if_icmp .ne 11, 3) := by decide +kernel
theorem dJ7_copyOf_59c91_6 : decode cJ7_copyOf_59c91 6 = .ok (.aload_n 0, 1) := by decide +kernel
theorem dJ7_copyOf_59c91_7 : decode cJ7_copyOf_59c91 7 = .ok (.invokevirtual 316, 3) := by decide +kernel
theorem dJ7_copyOf_59c91_10 : decode cJ7_copyOf_59c91 10 = .ok (.checkcast 317, 3) := by decide +kernel
theorem dJ7_copyOf_59c91_13 : decode cJ7_copyOf_59c91 13 = .ok (.areturn, 1) := by decide +kernel
theorem dJ7_copyOf_59c91_14 : decode cJ7_copyOf_59c91 14 = .ok (.iload_n 1, 1) := by decide +kernel
theorem dJ7_copyOf_59c91_15 : decode cJ7_copyOf_59c91 15 = .ok (.newarray .int, 2) := by decide +kernel
theorem dJ7_copyOf_59c91_17 : decode cJ7_copyOf_59c91 17 = .ok (.astore_n 2, 1) := by decide +kernel
theorem dJ7_copyOf_59c91_18 : decode cJ7_copyOf_59c91 18 = .ok (.aload_n 0, 1) := by decide +kernel
theorem dJ7_copyOf_59c91_19 : decode cJ7_copyOf_59c91 19 = .ok (.iconst 0, 1) := by decide +kernel
theorem dJ7_copyOf_59c91_20 : decode cJ7_copyOf_59c91 20 = .ok (.aload_n 2, 1) := by decide +kernel
theorem dJ7_copyOf_59c91_21 : decode cJ7_copyOf_59c91 21 = .ok (.iconst 0, 1) := by decide +kernel
theorem dJ7_copyOf_59c91_22 : decode cJ7_copyOf_59c91 22 = .ok (.aload_n 0, 1) := by decide +kernel
theorem dJ7_copyOf_59c91_23 : decode cJ7_copyOf_59c91 23 = .ok (.arraylength, 1) := by decide +kernel
theorem dJ7_copyOf_59c91_24 : decode cJ7_copyOf_59c91 24 = .ok (.iload_n 1, 1) := by decide +kernel
theorem dJ7_copyOf_59c91_25 : decode cJ7_copyOf_59c91 25 = .ok (.invokestatic 304, 3) := by decide +kernel
theorem dJ7_copyOf_59c91_28 : decode cJ7_copyOf_59c91 28 = .ok (.invokestatic 150, 3) := by decide +kernel
theorem dJ7_copyOf_59c91_31 : decode cJ7_copyOf_59c91 31 = .ok (.aload_n 2, 1) := by decide +kernel
theorem dJ7_copyOf_59c91_32 : decode cJ7_copyOf_59c91 32 = .ok (.areturn, 1) := by decide +kernel
theorem dJ7_checkLength_df160_0 : decode cJ7_checkLength_df160 0 = .ok (.iload_n 1, 1) := by decide +kernel
theorem dJ7_checkLength_df160_1 : decode cJ7_checkLength_df160 1 = .ok (.iload_n 0, 1) := by decide +kernel
theorem dJ7_checkLength_df160_2 : decode cJ7_checkLength_df160 2 = .ok (.if_icmp .ge 35, 3) := by decide +kernel
theorem dJ7_checkLength_df160_5 : decode cJ7_checkLength_df160 5 = .ok (.new 43, 3) := by decide +kernel
theorem dJ7_checkLength_df160_8 : decode cJ7_checkLength_df160 8 = .ok (.dup, 1) := by decide +kernel
theorem dJ7_checkLength_df160_9 : decode cJ7_checkLength_df160 9 = .ok (.new 45, 3) := by decide +kernel
theorem dJ7_checkLength_df160_12 : decode cJ7_checkLength_df160 12 = .ok (.dup, 1) := by decide +kernel
theorem dJ7_checkLength_df160_13 : decode cJ7_checkLength_df160 13 = .ok (.invokespecial 47, 3) := by decide +kernel
theorem dJ7_checkLength_df160_16 : decode cJ7_checkLength_df160 16 = .ok (.iload_n 0, 1) := by decide +kernel
theorem dJ7_checkLength_df160_17 : decode cJ7_checkLength_df160 17 = .ok (.invokevirtual 54, 3) := by decide +kernel
theorem dJ7_checkLength_df160_20 : decode cJ7_checkLength_df160 20 = .ok (.ldc_w 337, 3) := by decide +kernel
theorem dJ7_checkLength_df160_23 : decode cJ7_checkLength_df160 23 = .ok (.invokevirtual 50, 3) := by decide +kernel
theorem dJ7_checkLength_df160_26 : decode cJ7_checkLength_df160 26 = .ok (.iload_n 1, 1) := by decide +kernel
theorem dJ7_checkLength_df160_27 : decode cJ7_checkLength_df160 27 = .ok (.invokevirtual 54, 3) := by decide +kernel
theorem dJ7_checkLength_df160_30 : decode cJ7_checkLength_df160 30 = .ok (.invokevirtual 61, 3) := by decide +kernel
theorem dJ7_checkLength_df160_33 : decode cJ7_checkLength_df160 33 = .ok (.invokespecial 65, 3) := by decide +kernel
theorem dJ7_checkLength_df160_36 : decode cJ7_checkLength_df160 36 = .ok (.athrow, 1) := by decide +kernel
theorem dJ7_checkLength_df160_37 : decode cJ7_checkLength_df160 37 = .ok (.return_, 1) := by decide +kernel
theorem dJ7_copyOfRange_39247_0 : decode cJ7_copyOfRange_39247 0 = .ok (.iload_n 1, 1) := by decide +kernel
theorem dJ7_copyOfRange_39247_1 : decode cJ7_copyOfRange_39247 1 = .ok (.ifCond .ne 9, 3) := by decide +kernel
theorem dJ7_copyOfRange_39247_4 : decode cJ7_copyOfRange_39247 4 = .ok (.iload_n 2, 1) := by decide +kernel
theorem dJ7_copyOfRange_39247_5 : decode cJ7_copyOfRange_39247 5 = .ok (.aload_n 0, 1) := by decide +kernel
theorem dJ7_copyOfRange_39247_6 : decode cJ7_copyOfRange_39247 6 = .ok (.arraylength, 1) := by decide +kernel
theorem dJ7_copyOfRange_39247_7 : decode cJ7_copyOfRange_39247 7 = .ok (.if_icmp .eq 10, 3) := by decide +kernel
theorem dJ7_copyOfRange_39247_10 : decode cJ7_copyOfRange_39247 10 = .ok (.aload_n 0, 1) := by decide +kernel
theorem dJ7_copyOfRange_39247_11 : decode cJ7_copyOfRange_39247 11 = .ok (.iload_n 1, 1) := by decide +kernel
theorem dJ7_copyOfRange_39247_12 : decode cJ7_copyOfRange_39247 12 = .ok (.iload_n 2, 1) := by decide +kernel
theorem dJ7_copyOfRange_39247_13 : decode cJ7_copyOfRange_39247 13 = .ok (.invokestatic 339, 3) := by decide +kernel
theorem dJ7_copyOfRange_39247_16 : decode cJ7_copyOfRange_39247 16 = .ok (.areturn, 1) := by decide +kernel
theorem dJ7_copyOfRange_39247_17 : decode cJ7_copyOfRange_39247 17 = .ok (.aload_n 0, 1) := by decide +kernel
theorem dJ7_copyOfRange_39247_18 : decode cJ7_copyOfRange_39247 18 = .ok (.invokevirtual 310, 3) := by decide +kernel
theorem dJ7_copyOfRange_39247_21 : decode cJ7_copyOfRange_39247 21 = .ok (.checkcast 311, 3) := by decide +kernel
theorem dJ7_copyOfRange_39247_24 : decode cJ7_copyOfRange_39247 24 = .ok (.areturn, 1) := by decide +kernel
theorem dJ7_copyOfRangeByte_39247_0 : decode cJ7_copyOfRangeByte_39247 0 = .ok (.iload_n 1, 1) := by decide +kernel
theorem dJ7_copyOfRangeByte_39247_1 : decode cJ7_copyOfRangeByte_39247 1 = .ok (.iload_n 2, 1) := by decide +kernel
theorem dJ7_copyOfRangeByte_39247_2 : decode cJ7_copyOfRangeByte_39247 2 = .ok (.invokestatic 343, 3) := by decide +kernel
theorem dJ7_copyOfRangeByte_39247_5 : decode cJ7_copyOfRangeByte_39247 5 = .ok (.iload_n 2, 1) := by decide +kernel
theorem dJ7_copyOfRangeByte_39247_6 : decode cJ7_copyOfRangeByte_39247 6 = .ok (.iload_n 1, 1) := by decide +kernel
theorem dJ7_copyOfRangeByte_39247_7 : decode cJ7_copyOfRangeByte_39247 7 = .ok (.isub, 1) := by decide +kernel
theorem dJ7_copyOfRangeByte_39247_8 : decode cJ7_copyOfRangeByte_39247 8 = .ok (.istore_n 3, 1) := by decide +kernel
theorem dJ7_copyOfRangeByte_39247_9 : decode cJ7_copyOfRangeByte_39247 9 = .ok (.iload_n 3, 1) := by decide +kernel
theorem dJ7_copyOfRangeByte_39247_10 : decode cJ7_copyOfRangeByte_39247 10 = .ok (.newarray .byte, 2) := by decide +kernel
theorem dJ7_copyOfRangeByte_39247_12 : decode cJ7_copyOfRangeByte_39247 12 = .ok (.astore 4, 2) := by decide +kernel
theorem dJ7_copyOfRangeByte_39247_14 : decode cJ7_copyOfRangeByte_39247 14 = .ok (.aload_n 0, 1) := by decide +kernel
theorem dJ7_copyOfRangeByte_39247_15 : decode cJ7_copyOfRangeByte_39247 15 = .ok (.iload_n 1, 1) := by decide +kernel
theorem dJ7_copyOfRangeByte_39247_16 : decode cJ7_copyOfRangeByte_39247 16 = .ok (.aload 4, 2) := by decide +kernel
theorem dJ7_copyOfRangeByte_39247_18 : decode cJ7_copyOfRangeByte_39247 18 = .ok (.iconst 0, 1) := by decide +kernel
theorem dJ7_copyOfRangeByte_39247_19 : decode cJ7_copyOfRangeByte_39247 19 = .ok (.aload_n 0, 1) := by decide +kernel
theorem dJ7_copyOfRangeByte_39247_20 : decode cJ7_copyOfRangeByte_39247 20 = .ok (.arraylength, 1) := by decide +kernel
theorem dJ7_copyOfRangeByte_39247_21 : decode cJ7_copyOfRangeByte_39247 21 = .ok (.iload_n 1, 1) := by decide +kernel
theorem dJ7_copyOfRangeByte_39247_22 : decode cJ7_copyOfRangeByte_39247 22 = .ok (.isub, 1) := by decide +kernel
theorem dJ7_copyOfRangeByte_39247_23 : decode cJ7_copyOfRangeByte_39247 23 = .ok (.iload_n 3, 1) := by decide +kernel
theorem dJ7_copyOfRangeByte_39247_24 : decode cJ7_copyOfRangeByte_39247 24 = .ok (.invokestatic 304, 3) := by decide +kernel
theorem dJ7_copyOfRangeByte_39247_27 : decode cJ7_copyOfRangeByte_39247 27 = .ok (.invokestatic 150, 3) := by decide +kernel
theorem dJ7_copyOfRangeByte_39247_30 : decode cJ7_copyOfRangeByte_39247 30 = .ok (.aload 4, 2) := by decide +kernel
theorem dJ7_copyOfRangeByte_39247_32 : decode cJ7_copyOfRangeByte_39247 32 = .ok (.areturn, 1) := by decide +kernel
theorem dJ8_newLength_cabcc_0 : decode cJ8_newLength_cabcc 0 = .ok (.iload_n 0, 1) := by decide +kernel
theorem dJ8_newLength_cabcc_1 : decode cJ8_newLength_cabcc 1 = .ok (.iload_n 1, 1) := by decide +kernel
theorem dJ8_newLength_cabcc_2 : decode cJ8_newLength_cabcc 2 = .ok (.iload_n 2, 1) := by decide +kernel
theorem dJ8_newLength_cabcc_3 : decode cJ8_newLength_cabcc 3 = .ok (.invokestatic 194, 3) := by decide +kernel
theorem dJ8_newLength_cabcc_6 : decode cJ8_newLength_cabcc 6 = .ok (.iadd, 1) := by decide +kernel
theorem dJ8_newLength_cabcc_7 : decode cJ8_newLength_cabcc 7 = .ok (.istore_n 3, 1) := by decide +kernel
theorem dJ8_newLength_cabcc_8 : decode cJ8_newLength_cabcc 8 = .ok (.iconst 0, 1) := by decide +kernel
theorem dJ8_newLength_cabcc_9 : decode cJ8_newLength_cabcc 9 = .ok (.iload_n 3, 1) := by decide +kernel
theorem dJ8_newLength_cabcc_10 : decode cJ8_newLength_cabcc 10 = .ok (.if_icmp .ge 11, 3) := by decide +kernel
theorem dJ8_newLength_cabcc_13 : decode cJ8_newLength_cabcc 13 = .ok (.iload_n 3, 1) := by decide +kernel
theorem dJ8_newLength_cabcc_14 : decode cJ8_newLength_cabcc 14 = .ok (.ldc 200, 2) := by decide +kernel
theorem dJ8_newLength_cabcc_16 : decode cJ8_newLength_cabcc 16 = .ok (.if_icmp .gt 5, 3) := by decide +kernel
theorem dJ8_newLength_cabcc_19 : decode cJ8_newLength_cabcc 19 = .ok (.iload_n 3, 1) := by decide +kernel
theorem dJ8_newLength_cabcc_20 : decode cJ8_newLength_cabcc 20 = .ok (.ireturn, 1) := by decide +kernel
theorem dJ8_newLength_cabcc_21 : decode cJ8_newLength_cabcc 21 = .ok (.iload_n 0, 1) := by decide +kernel
theorem dJ8_newLength_cabcc_22 : decode cJ8_newLength_cabcc 22 = .ok (.iload_n 1, 1) := by decide +kernel
theorem dJ8_newLength_cabcc_23 : decode cJ8_newLength_cabcc 23 = .ok (.invokestatic 201, 3) := by decide +kernel
theorem dJ8_newLength_cabcc_26 : decode cJ8_newLength_cabcc 26 = .ok (.ireturn, 1) := by decide +kernel
theorem dJ3_checkIndex_8e157_0 : decode cJ3_checkIndex_8e157 0 = .ok (.iload_n 0, 1) := by decide +kernel
theorem dJ3_checkIndex_8e157_1 : decode cJ3_checkIndex_8e157 1 = .ok (.ifCond .lt 8, 3) := by decide +kernel
theorem dJ3_checkIndex_8e157_4 : decode cJ3_checkIndex_8e157 4 = .ok (.iload_n 0, 1) := by decide +kernel
theorem dJ3_checkIndex_8e157_5 : decode cJ3_checkIndex_8e157 5 = .ok (.iload_n 1, 1) := by decide +kernel
theorem dJ3_checkIndex_8e157_6 : decode cJ3_checkIndex_8e157 6 = .ok (.if_icmp .lt 10, 3) := by decide +kernel
theorem dJ3_checkIndex_8e157_9 : decode cJ3_checkIndex_8e157 9 = .ok (.aload_n 2, 1) := by decide +kernel
theorem dJ3_checkIndex_8e157_10 : decode cJ3_checkIndex_8e157 10 = .ok (.iload_n 0, 1) := by decide +kernel
theorem dJ3_checkIndex_8e157_11 : decode cJ3_checkIndex_8e157 11 = .ok (.iload_n 1, 1) := by decide +kernel
theorem dJ3_checkIndex_8e157_12 : decode cJ3_checkIndex_8e157 12 = .ok (.invokestatic 95, 3) := by decide +kernel
theorem dJ3_checkIndex_8e157_15 : decode cJ3_checkIndex_8e157 15 = .ok (.athrow, 1) := by decide +kernel
theorem dJ3_checkIndex_8e157_16 : decode cJ3_checkIndex_8e157 16 = .ok (.iload_n 0, 1) := by decide +kernel
theorem dJ3_checkIndex_8e157_17 : decode cJ3_checkIndex_8e157 17 = .ok (.ireturn, 1) := by decide +kernel
theorem dL_cell_0 : decode cL_cell 0 = .ok (.ldc 7, 2) := by decide +kernel
theorem dL_cell_2 : decode cL_cell 2 = .ok (.iload_n 1, 1) := by decide +kernel
theorem dL_cell_3 : decode cL_cell 3 = .ok (.aload_n 0, 1) := by decide +kernel
theorem dL_cell_4 : decode cL_cell 4 = .ok (.arraylength, 1) := by decide +kernel
theorem dL_cell_5 : decode cL_cell 5 = .ok (.if_icmp .ge 9, 3) := by decide +kernel
theorem dL_cell_8 : decode cL_cell 8 = .ok (.aload_n 0, 1) := by decide +kernel
theorem dL_cell_9 : decode cL_cell 9 = .ok (.iload_n 1, 1) := by decide +kernel
theorem dL_cell_10 : decode cL_cell 10 = .ok (.iaload, 1) := by decide +kernel
theorem dL_cell_11 : decode cL_cell 11 = .ok (.goto 4, 3) := by decide +kernel
theorem dL_cell_14 : decode cL_cell 14 = .ok (.iconst 0, 1) := by decide +kernel
theorem dL_cell_15 : decode cL_cell 15 = .ok (.sipush 1009, 3) := by decide +kernel
theorem dL_cell_18 : decode cL_cell 18 = .ok (.iload_n 1, 1) := by decide +kernel
theorem dL_cell_19 : decode cL_cell 19 = .ok (.imul, 1) := by decide +kernel
theorem dL_cell_20 : decode cL_cell 20 = .ok (.iadd, 1) := by decide +kernel
theorem dL_cell_21 : decode cL_cell 21 = .ok (.imul, 1) := by decide +kernel
theorem dL_cell_22 : decode cL_cell 22 = .ok (.sipush 12345, 3) := by decide +kernel
theorem dL_cell_25 : decode cL_cell 25 = .ok (.iadd, 1) := by decide +kernel
theorem dL_cell_26 : decode cL_cell 26 = .ok (.istore_n 2, 1) := by decide +kernel
theorem dL_cell_27 : decode cL_cell 27 = .ok (.iload_n 2, 1) := by decide +kernel
theorem dL_cell_28 : decode cL_cell 28 = .ok (.iload_n 2, 1) := by decide +kernel
theorem dL_cell_29 : decode cL_cell 29 = .ok (.bipush 13, 2) := by decide +kernel
theorem dL_cell_31 : decode cL_cell 31 = .ok (.iushr, 1) := by decide +kernel
theorem dL_cell_32 : decode cL_cell 32 = .ok (.ixor, 1) := by decide +kernel
theorem dL_cell_33 : decode cL_cell 33 = .ok (.ldc 8, 2) := by decide +kernel
theorem dL_cell_35 : decode cL_cell 35 = .ok (.imul, 1) := by decide +kernel
theorem dL_cell_36 : decode cL_cell 36 = .ok (.istore_n 2, 1) := by decide +kernel
theorem dL_cell_37 : decode cL_cell 37 = .ok (.iload_n 2, 1) := by decide +kernel
theorem dL_cell_38 : decode cL_cell 38 = .ok (.iload_n 2, 1) := by decide +kernel
theorem dL_cell_39 : decode cL_cell 39 = .ok (.bipush 16, 2) := by decide +kernel
theorem dL_cell_41 : decode cL_cell 41 = .ok (.iushr, 1) := by decide +kernel
theorem dL_cell_42 : decode cL_cell 42 = .ok (.ixor, 1) := by decide +kernel
theorem dL_cell_43 : decode cL_cell 43 = .ok (.ireturn, 1) := by decide +kernel
theorem dL_pick_0 : decode cL_pick 0 = .ok (.aload_n 0, 1) := by decide +kernel
theorem dL_pick_1 : decode cL_pick 1 = .ok (.iload_n 1, 1) := by decide +kernel
theorem dL_pick_2 : decode cL_pick 2 = .ok (.invokestatic 9, 3) := by decide +kernel
theorem dL_pick_5 : decode cL_pick 5 = .ok (.bipush 8, 2) := by decide +kernel
theorem dL_pick_7 : decode cL_pick 7 = .ok (.iushr, 1) := by decide +kernel
theorem dL_pick_8 : decode cL_pick 8 = .ok (.iload_n 2, 1) := by decide +kernel
theorem dL_pick_9 : decode cL_pick 9 = .ok (.irem, 1) := by decide +kernel
theorem dL_pick_10 : decode cL_pick 10 = .ok (.ireturn, 1) := by decide +kernel
theorem dL_rows_0 : decode cL_rows 0 = .ok (.iload_n 2, 1) := by decide +kernel
theorem dL_rows_1 : decode cL_rows 1 = .ok (.anewarray 15, 3) := by decide +kernel
theorem dL_rows_4 : decode cL_rows 4 = .ok (.astore_n 3, 1) := by decide +kernel
theorem dL_rows_5 : decode cL_rows 5 = .ok (.iconst 0, 1) := by decide +kernel
theorem dL_rows_6 : decode cL_rows 6 = .ok (.istore 4, 2) := by decide +kernel
theorem dL_rows_8 : decode cL_rows 8 = .ok (.iload 4, 2) := by decide +kernel
theorem dL_rows_10 : decode cL_rows 10 = .ok (.iload_n 2, 1) := by decide +kernel
theorem dL_rows_11 : decode cL_rows 11 = .ok (.if_icmp .ge 90, 3) := by decide +kernel
theorem dL_rows_14 : decode cL_rows 14 = .ok (.iload_n 1, 1) := by decide +kernel
theorem dL_rows_15 : decode cL_rows 15 = .ok (.iconst 4, 1) := by decide +kernel
theorem dL_rows_16 : decode cL_rows 16 = .ok (.iload 4, 2) := by decide +kernel
theorem dL_rows_18 : decode cL_rows 18 = .ok (.imul, 1) := by decide +kernel
theorem dL_rows_19 : decode cL_rows 19 = .ok (.iadd, 1) := by decide +kernel
theorem dL_rows_20 : decode cL_rows 20 = .ok (.istore 5, 2) := by decide +kernel
theorem dL_rows_22 : decode cL_rows 22 = .ok (.aload_n 3, 1) := by decide +kernel
theorem dL_rows_23 : decode cL_rows 23 = .ok (.iload 4, 2) := by decide +kernel
theorem dL_rows_25 : decode cL_rows 25 = .ok (.iconst 2, 1) := by decide +kernel
theorem dL_rows_26 : decode cL_rows 26 = .ok (.newarray .int, 2) := by decide +kernel
theorem dL_rows_28 : decode cL_rows 28 = .ok (.dup, 1) := by decide +kernel
theorem dL_rows_29 : decode cL_rows 29 = .ok (.iconst 0, 1) := by decide +kernel
theorem dL_rows_30 : decode cL_rows 30 = .ok (.aload_n 0, 1) := by decide +kernel
theorem dL_rows_31 : decode cL_rows 31 = .ok (.iload 5, 2) := by decide +kernel
theorem dL_rows_33 : decode cL_rows 33 = .ok (.bipush 8, 2) := by decide +kernel
theorem dL_rows_35 : decode cL_rows 35 = .ok (.invokestatic 17, 3) := by decide +kernel
theorem dL_rows_38 : decode cL_rows 38 = .ok (.ifCond .ne 9, 3) := by decide +kernel
theorem dL_rows_41 : decode cL_rows 41 = .ok (.sipush 1000, 3) := by decide +kernel
theorem dL_rows_44 : decode cL_rows 44 = .ok (.goto 15, 3) := by decide +kernel
theorem dL_rows_47 : decode cL_rows 47 = .ok (.aload_n 0, 1) := by decide +kernel
theorem dL_rows_48 : decode cL_rows 48 = .ok (.iload 5, 2) := by decide +kernel
theorem dL_rows_50 : decode cL_rows 50 = .ok (.iconst 1, 1) := by decide +kernel
theorem dL_rows_51 : decode cL_rows 51 = .ok (.iadd, 1) := by decide +kernel
theorem dL_rows_52 : decode cL_rows 52 = .ok (.bipush 13, 2) := by decide +kernel
theorem dL_rows_54 : decode cL_rows 54 = .ok (.invokestatic 17, 3) := by decide +kernel
theorem dL_rows_57 : decode cL_rows 57 = .ok (.iconst 3, 1) := by decide +kernel
theorem dL_rows_58 : decode cL_rows 58 = .ok (.isub, 1) := by decide +kernel
theorem dL_rows_59 : decode cL_rows 59 = .ok (.iastore, 1) := by decide +kernel
theorem dL_rows_60 : decode cL_rows 60 = .ok (.dup, 1) := by decide +kernel
theorem dL_rows_61 : decode cL_rows 61 = .ok (.iconst 1, 1) := by decide +kernel
theorem dL_rows_62 : decode cL_rows 62 = .ok (.aload_n 0, 1) := by decide +kernel
theorem dL_rows_63 : decode cL_rows 63 = .ok (.iload 5, 2) := by decide +kernel
theorem dL_rows_65 : decode cL_rows 65 = .ok (.iconst 2, 1) := by decide +kernel
theorem dL_rows_66 : decode cL_rows 66 = .ok (.iadd, 1) := by decide +kernel
theorem dL_rows_67 : decode cL_rows 67 = .ok (.bipush 8, 2) := by decide +kernel
theorem dL_rows_69 : decode cL_rows 69 = .ok (.invokestatic 17, 3) := by decide +kernel
theorem dL_rows_72 : decode cL_rows 72 = .ok (.ifCond .ne 9, 3) := by decide +kernel
theorem dL_rows_75 : decode cL_rows 75 = .ok (.sipush 1000, 3) := by decide +kernel
theorem dL_rows_78 : decode cL_rows 78 = .ok (.goto 15, 3) := by decide +kernel
theorem dL_rows_81 : decode cL_rows 81 = .ok (.aload_n 0, 1) := by decide +kernel
theorem dL_rows_82 : decode cL_rows 82 = .ok (.iload 5, 2) := by decide +kernel
theorem dL_rows_84 : decode cL_rows 84 = .ok (.iconst 3, 1) := by decide +kernel
theorem dL_rows_85 : decode cL_rows 85 = .ok (.iadd, 1) := by decide +kernel
theorem dL_rows_86 : decode cL_rows 86 = .ok (.bipush 13, 2) := by decide +kernel
theorem dL_rows_88 : decode cL_rows 88 = .ok (.invokestatic 17, 3) := by decide +kernel
theorem dL_rows_91 : decode cL_rows 91 = .ok (.iconst 5, 1) := by decide +kernel
theorem dL_rows_92 : decode cL_rows 92 = .ok (.isub, 1) := by decide +kernel
theorem dL_rows_93 : decode cL_rows 93 = .ok (.iastore, 1) := by decide +kernel
theorem dL_rows_94 : decode cL_rows 94 = .ok (.aastore, 1) := by decide +kernel
theorem dL_rows_95 : decode cL_rows 95 = .ok (.iinc 4 1, 3) := by decide +kernel
theorem dL_rows_98 : decode cL_rows 98 = .ok (.goto (-90), 3) := by decide +kernel
theorem dL_rows_101 : decode cL_rows 101 = .ok (.aload_n 3, 1) := by decide +kernel
theorem dL_rows_102 : decode cL_rows 102 = .ok (.areturn, 1) := by decide +kernel
theorem dL_tell_0 : decode cL_tell 0 = .ok (.iconst 1, 1) := by decide +kernel
theorem dL_tell_1 : decode cL_tell 1 = .ok (.istore_n 2, 1) := by decide +kernel
theorem dL_tell_2 : decode cL_tell 2 = .ok (.iconst 0, 1) := by decide +kernel
theorem dL_tell_3 : decode cL_tell 3 = .ok (.istore_n 3, 1) := by decide +kernel
theorem dL_tell_4 : decode cL_tell 4 = .ok (.iload_n 3, 1) := by decide +kernel
theorem dL_tell_5 : decode cL_tell 5 = .ok (.aload_n 1, 1) := by decide +kernel
theorem dL_tell_6 : decode cL_tell 6 = .ok (.arraylength, 1) := by decide +kernel
theorem dL_tell_7 : decode cL_tell 7 = .ok (.if_icmp .ge 37, 3) := by decide +kernel
theorem dL_tell_10 : decode cL_tell 10 = .ok (.iload_n 2, 1) := by decide +kernel
theorem dL_tell_11 : decode cL_tell 11 = .ok (.ifCond .eq 25, 3) := by decide +kernel
theorem dL_tell_14 : decode cL_tell 14 = .ok (.aload_n 0, 1) := by decide +kernel
theorem dL_tell_15 : decode cL_tell 15 = .ok (.aload_n 1, 1) := by decide +kernel
theorem dL_tell_16 : decode cL_tell 16 = .ok (.iload_n 3, 1) := by decide +kernel
theorem dL_tell_17 : decode cL_tell 17 = .ok (.aaload, 1) := by decide +kernel
theorem dL_tell_18 : decode cL_tell 18 = .ok (.iconst 0, 1) := by decide +kernel
theorem dL_tell_19 : decode cL_tell 19 = .ok (.iaload, 1) := by decide +kernel
theorem dL_tell_20 : decode cL_tell 20 = .ok (.aload_n 1, 1) := by decide +kernel
theorem dL_tell_21 : decode cL_tell 21 = .ok (.iload_n 3, 1) := by decide +kernel
theorem dL_tell_22 : decode cL_tell 22 = .ok (.aaload, 1) := by decide +kernel
theorem dL_tell_23 : decode cL_tell 23 = .ok (.iconst 1, 1) := by decide +kernel
theorem dL_tell_24 : decode cL_tell 24 = .ok (.iaload, 1) := by decide +kernel
theorem dL_tell_25 : decode cL_tell 25 = .ok (.invokevirtual 21, 3) := by decide +kernel
theorem dL_tell_28 : decode cL_tell 28 = .ok (.iload_n 3, 1) := by decide +kernel
theorem dL_tell_29 : decode cL_tell 29 = .ok (.if_icmp .ne 7, 3) := by decide +kernel
theorem dL_tell_32 : decode cL_tell 32 = .ok (.iconst 1, 1) := by decide +kernel
theorem dL_tell_33 : decode cL_tell 33 = .ok (.goto 4, 3) := by decide +kernel
theorem dL_tell_36 : decode cL_tell 36 = .ok (.iconst 0, 1) := by decide +kernel
theorem dL_tell_37 : decode cL_tell 37 = .ok (.istore_n 2, 1) := by decide +kernel
theorem dL_tell_38 : decode cL_tell 38 = .ok (.iinc 3 1, 3) := by decide +kernel
theorem dL_tell_41 : decode cL_tell 41 = .ok (.goto (-37), 3) := by decide +kernel
theorem dL_tell_44 : decode cL_tell 44 = .ok (.iload_n 2, 1) := by decide +kernel
theorem dL_tell_45 : decode cL_tell 45 = .ok (.ireturn, 1) := by decide +kernel
theorem dL_feed_0 : decode cL_feed 0 = .ok (.iconst 1, 1) := by decide +kernel
theorem dL_feed_1 : decode cL_feed 1 = .ok (.istore_n 2, 1) := by decide +kernel
theorem dL_feed_2 : decode cL_feed 2 = .ok (.iconst 0, 1) := by decide +kernel
theorem dL_feed_3 : decode cL_feed 3 = .ok (.istore_n 3, 1) := by decide +kernel
theorem dL_feed_4 : decode cL_feed 4 = .ok (.iload_n 3, 1) := by decide +kernel
theorem dL_feed_5 : decode cL_feed 5 = .ok (.aload_n 1, 1) := by decide +kernel
theorem dL_feed_6 : decode cL_feed 6 = .ok (.invokevirtual 27, 3) := by decide +kernel
theorem dL_feed_9 : decode cL_feed 9 = .ok (.if_icmp .ge 34, 3) := by decide +kernel
theorem dL_feed_12 : decode cL_feed 12 = .ok (.iload_n 2, 1) := by decide +kernel
theorem dL_feed_13 : decode cL_feed 13 = .ok (.ifCond .eq 22, 3) := by decide +kernel
theorem dL_feed_16 : decode cL_feed 16 = .ok (.aload_n 0, 1) := by decide +kernel
theorem dL_feed_17 : decode cL_feed 17 = .ok (.aload_n 1, 1) := by decide +kernel
theorem dL_feed_18 : decode cL_feed 18 = .ok (.iload_n 3, 1) := by decide +kernel
theorem dL_feed_19 : decode cL_feed 19 = .ok (.invokevirtual 33, 3) := by decide +kernel
theorem dL_feed_22 : decode cL_feed 22 = .ok (.invokevirtual 37, 3) := by decide +kernel
theorem dL_feed_25 : decode cL_feed 25 = .ok (.iload_n 3, 1) := by decide +kernel
theorem dL_feed_26 : decode cL_feed 26 = .ok (.iconst 1, 1) := by decide +kernel
theorem dL_feed_27 : decode cL_feed 27 = .ok (.iadd, 1) := by decide +kernel
theorem dL_feed_28 : decode cL_feed 28 = .ok (.if_icmp .ne 7, 3) := by decide +kernel
theorem dL_feed_31 : decode cL_feed 31 = .ok (.iconst 1, 1) := by decide +kernel
theorem dL_feed_32 : decode cL_feed 32 = .ok (.goto 4, 3) := by decide +kernel
theorem dL_feed_35 : decode cL_feed 35 = .ok (.iconst 0, 1) := by decide +kernel
theorem dL_feed_36 : decode cL_feed 36 = .ok (.istore_n 2, 1) := by decide +kernel
theorem dL_feed_37 : decode cL_feed 37 = .ok (.iinc 3 1, 3) := by decide +kernel
theorem dL_feed_40 : decode cL_feed 40 = .ok (.goto (-36), 3) := by decide +kernel
theorem dL_feed_43 : decode cL_feed 43 = .ok (.iload_n 2, 1) := by decide +kernel
theorem dL_feed_44 : decode cL_feed 44 = .ok (.ireturn, 1) := by decide +kernel
theorem dL_told_0 : decode cL_told 0 = .ok (.bipush 8, 2) := by decide +kernel
theorem dL_told_2 : decode cL_told 2 = .ok (.anewarray 28, 3) := by decide +kernel
theorem dL_told_5 : decode cL_told 5 = .ok (.dup, 1) := by decide +kernel
theorem dL_told_6 : decode cL_told 6 = .ok (.iconst 0, 1) := by decide +kernel
theorem dL_told_7 : decode cL_told 7 = .ok (.ldc 41, 2) := by decide +kernel
theorem dL_told_9 : decode cL_told 9 = .ok (.aastore, 1) := by decide +kernel
theorem dL_told_10 : decode cL_told 10 = .ok (.dup, 1) := by decide +kernel
theorem dL_told_11 : decode cL_told 11 = .ok (.iconst 1, 1) := by decide +kernel
theorem dL_told_12 : decode cL_told 12 = .ok (.ldc 43, 2) := by decide +kernel
theorem dL_told_14 : decode cL_told 14 = .ok (.aastore, 1) := by decide +kernel
theorem dL_told_15 : decode cL_told 15 = .ok (.dup, 1) := by decide +kernel
theorem dL_told_16 : decode cL_told 16 = .ok (.iconst 2, 1) := by decide +kernel
theorem dL_told_17 : decode cL_told 17 = .ok (.ldc 45, 2) := by decide +kernel
theorem dL_told_19 : decode cL_told 19 = .ok (.aastore, 1) := by decide +kernel
theorem dL_told_20 : decode cL_told 20 = .ok (.dup, 1) := by decide +kernel
theorem dL_told_21 : decode cL_told 21 = .ok (.iconst 3, 1) := by decide +kernel
theorem dL_told_22 : decode cL_told 22 = .ok (.ldc 47, 2) := by decide +kernel
theorem dL_told_24 : decode cL_told 24 = .ok (.aastore, 1) := by decide +kernel
theorem dL_told_25 : decode cL_told 25 = .ok (.dup, 1) := by decide +kernel
theorem dL_told_26 : decode cL_told 26 = .ok (.iconst 4, 1) := by decide +kernel
theorem dL_told_27 : decode cL_told 27 = .ok (.ldc 49, 2) := by decide +kernel
theorem dL_told_29 : decode cL_told 29 = .ok (.aastore, 1) := by decide +kernel
theorem dL_told_30 : decode cL_told 30 = .ok (.dup, 1) := by decide +kernel
theorem dL_told_31 : decode cL_told 31 = .ok (.iconst 5, 1) := by decide +kernel
theorem dL_told_32 : decode cL_told 32 = .ok (.ldc 51, 2) := by decide +kernel
theorem dL_told_34 : decode cL_told 34 = .ok (.aastore, 1) := by decide +kernel
theorem dL_told_35 : decode cL_told 35 = .ok (.dup, 1) := by decide +kernel
theorem dL_told_36 : decode cL_told 36 = .ok (.bipush 6, 2) := by decide +kernel
theorem dL_told_38 : decode cL_told 38 = .ok (.ldc 53, 2) := by decide +kernel
theorem dL_told_40 : decode cL_told 40 = .ok (.aastore, 1) := by decide +kernel
theorem dL_told_41 : decode cL_told 41 = .ok (.dup, 1) := by decide +kernel
theorem dL_told_42 : decode cL_told 42 = .ok (.bipush 7, 2) := by decide +kernel
theorem dL_told_44 : decode cL_told 44 = .ok (.ldc 55, 2) := by decide +kernel
theorem dL_told_46 : decode cL_told 46 = .ok (.aastore, 1) := by decide +kernel
theorem dL_told_47 : decode cL_told 47 = .ok (.astore_n 1, 1) := by decide +kernel
theorem dL_told_48 : decode cL_told 48 = .ok (.aload_n 1, 1) := by decide +kernel
theorem dL_told_49 : decode cL_told 49 = .ok (.iload_n 0, 1) := by decide +kernel
theorem dL_told_50 : decode cL_told 50 = .ok (.aaload, 1) := by decide +kernel
theorem dL_told_51 : decode cL_told 51 = .ok (.areturn, 1) := by decide +kernel
theorem dL_value_0 : decode cL_value 0 = .ok (.iload_n 1, 1) := by decide +kernel
theorem dL_value_1 : decode cL_value 1 = .ok (.ifCond .lt 9, 3) := by decide +kernel
theorem dL_value_4 : decode cL_value 4 = .ok (.iload_n 1, 1) := by decide +kernel
theorem dL_value_5 : decode cL_value 5 = .ok (.aload_n 0, 1) := by decide +kernel
theorem dL_value_6 : decode cL_value 6 = .ok (.arraylength, 1) := by decide +kernel
theorem dL_value_7 : decode cL_value 7 = .ok (.if_icmp .lt 9, 3) := by decide +kernel
theorem dL_value_10 : decode cL_value 10 = .ok (.sipush 1000, 3) := by decide +kernel
theorem dL_value_13 : decode cL_value 13 = .ok (.goto 8, 3) := by decide +kernel
theorem dL_value_16 : decode cL_value 16 = .ok (.aload_n 0, 1) := by decide +kernel
theorem dL_value_17 : decode cL_value 17 = .ok (.iload_n 1, 1) := by decide +kernel
theorem dL_value_18 : decode cL_value 18 = .ok (.aaload, 1) := by decide +kernel
theorem dL_value_19 : decode cL_value 19 = .ok (.iload_n 2, 1) := by decide +kernel
theorem dL_value_20 : decode cL_value 20 = .ok (.iaload, 1) := by decide +kernel
theorem dL_value_21 : decode cL_value 21 = .ok (.ireturn, 1) := by decide +kernel
theorem dL_isLess_0 : decode cL_isLess 0 = .ok (.iload_n 0, 1) := by decide +kernel
theorem dL_isLess_1 : decode cL_isLess 1 = .ok (.sipush 1000, 3) := by decide +kernel
theorem dL_isLess_4 : decode cL_isLess 4 = .ok (.if_icmp .ge 19, 3) := by decide +kernel
theorem dL_isLess_7 : decode cL_isLess 7 = .ok (.iload_n 1, 1) := by decide +kernel
theorem dL_isLess_8 : decode cL_isLess 8 = .ok (.sipush 1000, 3) := by decide +kernel
theorem dL_isLess_11 : decode cL_isLess 11 = .ok (.if_icmp .ge 12, 3) := by decide +kernel
theorem dL_isLess_14 : decode cL_isLess 14 = .ok (.iload_n 0, 1) := by decide +kernel
theorem dL_isLess_15 : decode cL_isLess 15 = .ok (.iload_n 1, 1) := by decide +kernel
theorem dL_isLess_16 : decode cL_isLess 16 = .ok (.if_icmp .ge 7, 3) := by decide +kernel
theorem dL_isLess_19 : decode cL_isLess 19 = .ok (.iconst 1, 1) := by decide +kernel
theorem dL_isLess_20 : decode cL_isLess 20 = .ok (.goto 4, 3) := by decide +kernel
theorem dL_isLess_23 : decode cL_isLess 23 = .ok (.iconst 0, 1) := by decide +kernel
theorem dL_isLess_24 : decode cL_isLess 24 = .ok (.ireturn, 1) := by decide +kernel
theorem dL_isLike_0 : decode cL_isLike 0 = .ok (.iload_n 0, 1) := by decide +kernel
theorem dL_isLike_1 : decode cL_isLike 1 = .ok (.sipush 1000, 3) := by decide +kernel
theorem dL_isLike_4 : decode cL_isLike 4 = .ok (.if_icmp .ge 12, 3) := by decide +kernel
theorem dL_isLike_7 : decode cL_isLike 7 = .ok (.iload_n 0, 1) := by decide +kernel
theorem dL_isLike_8 : decode cL_isLike 8 = .ok (.iload_n 1, 1) := by decide +kernel
theorem dL_isLike_9 : decode cL_isLike 9 = .ok (.if_icmp .ne 7, 3) := by decide +kernel
theorem dL_isLike_12 : decode cL_isLike 12 = .ok (.iconst 1, 1) := by decide +kernel
theorem dL_isLike_13 : decode cL_isLike 13 = .ok (.goto 4, 3) := by decide +kernel
theorem dL_isLike_16 : decode cL_isLike 16 = .ok (.iconst 0, 1) := by decide +kernel
theorem dL_isLike_17 : decode cL_isLike 17 = .ok (.ireturn, 1) := by decide +kernel
theorem dL_lettered_0 : decode cL_lettered 0 = .ok (.iconst (-1), 1) := by decide +kernel
theorem dL_lettered_1 : decode cL_lettered 1 = .ok (.istore 5, 2) := by decide +kernel
theorem dL_lettered_3 : decode cL_lettered 3 = .ok (.iload_n 2, 1) := by decide +kernel
theorem dL_lettered_4 : decode cL_lettered 4 = .ok (.istore 6, 2) := by decide +kernel
theorem dL_lettered_6 : decode cL_lettered 6 = .ok (.iload 6, 2) := by decide +kernel
theorem dL_lettered_8 : decode cL_lettered 8 = .ok (.iload_n 1, 1) := by decide +kernel
theorem dL_lettered_9 : decode cL_lettered 9 = .ok (.if_icmp .lt 36, 3) := by decide +kernel
theorem dL_lettered_12 : decode cL_lettered 12 = .ok (.aload_n 0, 1) := by decide +kernel
theorem dL_lettered_13 : decode cL_lettered 13 = .ok (.iload 6, 2) := by decide +kernel
theorem dL_lettered_15 : decode cL_lettered 15 = .ok (.iaload, 1) := by decide +kernel
theorem dL_lettered_16 : decode cL_lettered 16 = .ok (.iload_n 3, 1) := by decide +kernel
theorem dL_lettered_17 : decode cL_lettered 17 = .ok (.if_icmp .ne 18, 3) := by decide +kernel
theorem dL_lettered_20 : decode cL_lettered 20 = .ok (.iload 5, 2) := by decide +kernel
theorem dL_lettered_22 : decode cL_lettered 22 = .ok (.ifCond .lt 8, 3) := by decide +kernel
theorem dL_lettered_25 : decode cL_lettered 25 = .ok (.iload 4, 2) := by decide +kernel
theorem dL_lettered_27 : decode cL_lettered 27 = .ok (.ifCond .eq 8, 3) := by decide +kernel
theorem dL_lettered_30 : decode cL_lettered 30 = .ok (.iload 6, 2) := by decide +kernel
theorem dL_lettered_32 : decode cL_lettered 32 = .ok (.goto 5, 3) := by decide +kernel
theorem dL_lettered_35 : decode cL_lettered 35 = .ok (.iload 5, 2) := by decide +kernel
theorem dL_lettered_37 : decode cL_lettered 37 = .ok (.istore 5, 2) := by decide +kernel
theorem dL_lettered_39 : decode cL_lettered 39 = .ok (.iinc 6 (-1), 3) := by decide +kernel
theorem dL_lettered_42 : decode cL_lettered 42 = .ok (.goto (-36), 3) := by decide +kernel
theorem dL_lettered_45 : decode cL_lettered 45 = .ok (.iload 5, 2) := by decide +kernel
theorem dL_lettered_47 : decode cL_lettered 47 = .ok (.ireturn, 1) := by decide +kernel
theorem dL_summed_0 : decode cL_summed 0 = .ok (.iconst 0, 1) := by decide +kernel
theorem dL_summed_1 : decode cL_summed 1 = .ok (.istore 6, 2) := by decide +kernel
theorem dL_summed_3 : decode cL_summed 3 = .ok (.iload_n 2, 1) := by decide +kernel
theorem dL_summed_4 : decode cL_summed 4 = .ok (.istore 7, 2) := by decide +kernel
theorem dL_summed_6 : decode cL_summed 6 = .ok (.iload 7, 2) := by decide +kernel
theorem dL_summed_8 : decode cL_summed 8 = .ok (.iload_n 3, 1) := by decide +kernel
theorem dL_summed_9 : decode cL_summed 9 = .ok (.if_icmp .gt 55, 3) := by decide +kernel
theorem dL_summed_12 : decode cL_summed 12 = .ok (.iload 5, 2) := by decide +kernel
theorem dL_summed_14 : decode cL_summed 14 = .ok (.ifCond .ge 7, 3) := by decide +kernel
theorem dL_summed_17 : decode cL_summed 17 = .ok (.iconst 1, 1) := by decide +kernel
theorem dL_summed_18 : decode cL_summed 18 = .ok (.goto 10, 3) := by decide +kernel
theorem dL_summed_21 : decode cL_summed 21 = .ok (.aload_n 0, 1) := by decide +kernel
theorem dL_summed_22 : decode cL_summed 22 = .ok (.iload 7, 2) := by decide +kernel
theorem dL_summed_24 : decode cL_summed 24 = .ok (.aaload, 1) := by decide +kernel
theorem dL_summed_25 : decode cL_summed 25 = .ok (.iload 5, 2) := by decide +kernel
theorem dL_summed_27 : decode cL_summed 27 = .ok (.iaload, 1) := by decide +kernel
theorem dL_summed_28 : decode cL_summed 28 = .ok (.istore 8, 2) := by decide +kernel
theorem dL_summed_30 : decode cL_summed 30 = .ok (.iload 6, 2) := by decide +kernel
theorem dL_summed_32 : decode cL_summed 32 = .ok (.aload_n 1, 1) := by decide +kernel
theorem dL_summed_33 : decode cL_summed 33 = .ok (.iload 7, 2) := by decide +kernel
theorem dL_summed_35 : decode cL_summed 35 = .ok (.iaload, 1) := by decide +kernel
theorem dL_summed_36 : decode cL_summed 36 = .ok (.iload 4, 2) := by decide +kernel
theorem dL_summed_38 : decode cL_summed 38 = .ok (.if_icmp .ne 16, 3) := by decide +kernel
theorem dL_summed_41 : decode cL_summed 41 = .ok (.iload 8, 2) := by decide +kernel
theorem dL_summed_43 : decode cL_summed 43 = .ok (.sipush 1000, 3) := by decide +kernel
theorem dL_summed_46 : decode cL_summed 46 = .ok (.if_icmp .ge 8, 3) := by decide +kernel
theorem dL_summed_49 : decode cL_summed 49 = .ok (.iload 8, 2) := by decide +kernel
theorem dL_summed_51 : decode cL_summed 51 = .ok (.goto 4, 3) := by decide +kernel
theorem dL_summed_54 : decode cL_summed 54 = .ok (.iconst 0, 1) := by decide +kernel
theorem dL_summed_55 : decode cL_summed 55 = .ok (.iadd, 1) := by decide +kernel
theorem dL_summed_56 : decode cL_summed 56 = .ok (.istore 6, 2) := by decide +kernel
theorem dL_summed_58 : decode cL_summed 58 = .ok (.iinc 7 1, 3) := by decide +kernel
theorem dL_summed_61 : decode cL_summed 61 = .ok (.goto (-55), 3) := by decide +kernel
theorem dL_summed_64 : decode cL_summed 64 = .ok (.iload 6, 2) := by decide +kernel
theorem dL_summed_66 : decode cL_summed 66 = .ok (.ireturn, 1) := by decide +kernel
theorem dL_isHeld_0 : decode cL_isHeld 0 = .ok (.aload_n 1, 1) := by decide +kernel
theorem dL_isHeld_1 : decode cL_isHeld 1 = .ok (.iload 4, 2) := by decide +kernel
theorem dL_isHeld_3 : decode cL_isHeld 3 = .ok (.aaload, 1) := by decide +kernel
theorem dL_isHeld_4 : decode cL_isHeld 4 = .ok (.iconst 0, 1) := by decide +kernel
theorem dL_isHeld_5 : decode cL_isHeld 5 = .ok (.iaload, 1) := by decide +kernel
theorem dL_isHeld_6 : decode cL_isHeld 6 = .ok (.istore 5, 2) := by decide +kernel
theorem dL_isHeld_8 : decode cL_isHeld 8 = .ok (.aload_n 1, 1) := by decide +kernel
theorem dL_isHeld_9 : decode cL_isHeld 9 = .ok (.iload 4, 2) := by decide +kernel
theorem dL_isHeld_11 : decode cL_isHeld 11 = .ok (.aaload, 1) := by decide +kernel
theorem dL_isHeld_12 : decode cL_isHeld 12 = .ok (.iconst 1, 1) := by decide +kernel
theorem dL_isHeld_13 : decode cL_isHeld 13 = .ok (.iaload, 1) := by decide +kernel
theorem dL_isHeld_14 : decode cL_isHeld 14 = .ok (.istore 6, 2) := by decide +kernel
theorem dL_isHeld_16 : decode cL_isHeld 16 = .ok (.aload_n 1, 1) := by decide +kernel
theorem dL_isHeld_17 : decode cL_isHeld 17 = .ok (.aload_n 2, 1) := by decide +kernel
theorem dL_isHeld_18 : decode cL_isHeld 18 = .ok (.iload_n 3, 1) := by decide +kernel
theorem dL_isHeld_19 : decode cL_isHeld 19 = .ok (.iload 4, 2) := by decide +kernel
theorem dL_isHeld_21 : decode cL_isHeld 21 = .ok (.iconst 0, 1) := by decide +kernel
theorem dL_isHeld_22 : decode cL_isHeld 22 = .ok (.iconst (-1), 1) := by decide +kernel
theorem dL_isHeld_23 : decode cL_isHeld 23 = .ok (.invokestatic 57, 3) := by decide +kernel
theorem dL_isHeld_26 : decode cL_isHeld 26 = .ok (.istore 7, 2) := by decide +kernel
theorem dL_isHeld_28 : decode cL_isHeld 28 = .ok (.aload_n 1, 1) := by decide +kernel
theorem dL_isHeld_29 : decode cL_isHeld 29 = .ok (.aload_n 2, 1) := by decide +kernel
theorem dL_isHeld_30 : decode cL_isHeld 30 = .ok (.iload_n 3, 1) := by decide +kernel
theorem dL_isHeld_31 : decode cL_isHeld 31 = .ok (.iload 4, 2) := by decide +kernel
theorem dL_isHeld_33 : decode cL_isHeld 33 = .ok (.iconst 1, 1) := by decide +kernel
theorem dL_isHeld_34 : decode cL_isHeld 34 = .ok (.iconst (-1), 1) := by decide +kernel
theorem dL_isHeld_35 : decode cL_isHeld 35 = .ok (.invokestatic 57, 3) := by decide +kernel
theorem dL_isHeld_38 : decode cL_isHeld 38 = .ok (.istore 8, 2) := by decide +kernel
theorem dL_isHeld_40 : decode cL_isHeld 40 = .ok (.iload_n 0, 1) := by decide +kernel
theorem dL_isHeld_41 : decode cL_isHeld 41 = .ok (.ifCond .ne 10, 3) := by decide +kernel
theorem dL_isHeld_44 : decode cL_isHeld 44 = .ok (.iconst 0, 1) := by decide +kernel
theorem dL_isHeld_45 : decode cL_isHeld 45 = .ok (.iload 5, 2) := by decide +kernel
theorem dL_isHeld_47 : decode cL_isHeld 47 = .ok (.invokestatic 61, 3) := by decide +kernel
theorem dL_isHeld_50 : decode cL_isHeld 50 = .ok (.ireturn, 1) := by decide +kernel
theorem dL_isHeld_51 : decode cL_isHeld 51 = .ok (.iload_n 0, 1) := by decide +kernel
theorem dL_isHeld_52 : decode cL_isHeld 52 = .ok (.iconst 1, 1) := by decide +kernel
theorem dL_isHeld_53 : decode cL_isHeld 53 = .ok (.if_icmp .ne 28, 3) := by decide +kernel
theorem dL_isHeld_56 : decode cL_isHeld 56 = .ok (.iload 6, 2) := by decide +kernel
theorem dL_isHeld_58 : decode cL_isHeld 58 = .ok (.iload 5, 2) := by decide +kernel
theorem dL_isHeld_60 : decode cL_isHeld 60 = .ok (.invokestatic 61, 3) := by decide +kernel
theorem dL_isHeld_63 : decode cL_isHeld 63 = .ok (.ifCond .ne 12, 3) := by decide +kernel
theorem dL_isHeld_66 : decode cL_isHeld 66 = .ok (.iload 5, 2) := by decide +kernel
theorem dL_isHeld_68 : decode cL_isHeld 68 = .ok (.iconst 5, 1) := by decide +kernel
theorem dL_isHeld_69 : decode cL_isHeld 69 = .ok (.invokestatic 65, 3) := by decide +kernel
theorem dL_isHeld_72 : decode cL_isHeld 72 = .ok (.ifCond .eq 7, 3) := by decide +kernel
theorem dL_isHeld_75 : decode cL_isHeld 75 = .ok (.iconst 1, 1) := by decide +kernel
theorem dL_isHeld_76 : decode cL_isHeld 76 = .ok (.goto 4, 3) := by decide +kernel
theorem dL_isHeld_79 : decode cL_isHeld 79 = .ok (.iconst 0, 1) := by decide +kernel
theorem dL_isHeld_80 : decode cL_isHeld 80 = .ok (.ireturn, 1) := by decide +kernel
theorem dL_isHeld_81 : decode cL_isHeld 81 = .ok (.iload_n 0, 1) := by decide +kernel
theorem dL_isHeld_82 : decode cL_isHeld 82 = .ok (.iconst 2, 1) := by decide +kernel
theorem dL_isHeld_83 : decode cL_isHeld 83 = .ok (.if_icmp .ne 18, 3) := by decide +kernel
theorem dL_isHeld_86 : decode cL_isHeld 86 = .ok (.aload_n 1, 1) := by decide +kernel
theorem dL_isHeld_87 : decode cL_isHeld 87 = .ok (.iload 4, 2) := by decide +kernel
theorem dL_isHeld_89 : decode cL_isHeld 89 = .ok (.iconst 1, 1) := by decide +kernel
theorem dL_isHeld_90 : decode cL_isHeld 90 = .ok (.isub, 1) := by decide +kernel
theorem dL_isHeld_91 : decode cL_isHeld 91 = .ok (.iconst 0, 1) := by decide +kernel
theorem dL_isHeld_92 : decode cL_isHeld 92 = .ok (.invokestatic 68, 3) := by decide +kernel
theorem dL_isHeld_95 : decode cL_isHeld 95 = .ok (.iload 5, 2) := by decide +kernel
theorem dL_isHeld_97 : decode cL_isHeld 97 = .ok (.invokestatic 61, 3) := by decide +kernel
theorem dL_isHeld_100 : decode cL_isHeld 100 = .ok (.ireturn, 1) := by decide +kernel
theorem dL_isHeld_101 : decode cL_isHeld 101 = .ok (.iload_n 0, 1) := by decide +kernel
theorem dL_isHeld_102 : decode cL_isHeld 102 = .ok (.iconst 3, 1) := by decide +kernel
theorem dL_isHeld_103 : decode cL_isHeld 103 = .ok (.if_icmp .ne 24, 3) := by decide +kernel
theorem dL_isHeld_106 : decode cL_isHeld 106 = .ok (.iload 7, 2) := by decide +kernel
theorem dL_isHeld_108 : decode cL_isHeld 108 = .ok (.iconst 2, 1) := by decide +kernel
theorem dL_isHeld_109 : decode cL_isHeld 109 = .ok (.if_icmp .ge 16, 3) := by decide +kernel
theorem dL_isHeld_112 : decode cL_isHeld 112 = .ok (.iload 5, 2) := by decide +kernel
theorem dL_isHeld_114 : decode cL_isHeld 114 = .ok (.iconst 3, 1) := by decide +kernel
theorem dL_isHeld_115 : decode cL_isHeld 115 = .ok (.invokestatic 65, 3) := by decide +kernel
theorem dL_isHeld_118 : decode cL_isHeld 118 = .ok (.ifCond .ne 7, 3) := by decide +kernel
theorem dL_isHeld_121 : decode cL_isHeld 121 = .ok (.iconst 1, 1) := by decide +kernel
theorem dL_isHeld_122 : decode cL_isHeld 122 = .ok (.goto 4, 3) := by decide +kernel
theorem dL_isHeld_125 : decode cL_isHeld 125 = .ok (.iconst 0, 1) := by decide +kernel
theorem dL_isHeld_126 : decode cL_isHeld 126 = .ok (.ireturn, 1) := by decide +kernel
theorem dL_isHeld_127 : decode cL_isHeld 127 = .ok (.iload_n 0, 1) := by decide +kernel
theorem dL_isHeld_128 : decode cL_isHeld 128 = .ok (.iconst 4, 1) := by decide +kernel
theorem dL_isHeld_129 : decode cL_isHeld 129 = .ok (.if_icmp .ne 45, 3) := by decide +kernel
theorem dL_isHeld_132 : decode cL_isHeld 132 = .ok (.aload_n 1, 1) := by decide +kernel
theorem dL_isHeld_133 : decode cL_isHeld 133 = .ok (.aload_n 2, 1) := by decide +kernel
theorem dL_isHeld_134 : decode cL_isHeld 134 = .ok (.iload_n 3, 1) := by decide +kernel
theorem dL_isHeld_135 : decode cL_isHeld 135 = .ok (.iload 4, 2) := by decide +kernel
theorem dL_isHeld_137 : decode cL_isHeld 137 = .ok (.iconst 1, 1) := by decide +kernel
theorem dL_isHeld_138 : decode cL_isHeld 138 = .ok (.iconst 0, 1) := by decide +kernel
theorem dL_isHeld_139 : decode cL_isHeld 139 = .ok (.invokestatic 57, 3) := by decide +kernel
theorem dL_isHeld_142 : decode cL_isHeld 142 = .ok (.iconst 2, 1) := by decide +kernel
theorem dL_isHeld_143 : decode cL_isHeld 143 = .ok (.if_icmp .gt 25, 3) := by decide +kernel
theorem dL_isHeld_146 : decode cL_isHeld 146 = .ok (.aload_n 1, 1) := by decide +kernel
theorem dL_isHeld_147 : decode cL_isHeld 147 = .ok (.aload_n 2, 1) := by decide +kernel
theorem dL_isHeld_148 : decode cL_isHeld 148 = .ok (.iload_n 3, 1) := by decide +kernel
theorem dL_isHeld_149 : decode cL_isHeld 149 = .ok (.iload 4, 2) := by decide +kernel
theorem dL_isHeld_151 : decode cL_isHeld 151 = .ok (.iconst 0, 1) := by decide +kernel
theorem dL_isHeld_152 : decode cL_isHeld 152 = .ok (.iconst 0, 1) := by decide +kernel
theorem dL_isHeld_153 : decode cL_isHeld 153 = .ok (.invokestatic 72, 3) := by decide +kernel
theorem dL_isHeld_156 : decode cL_isHeld 156 = .ok (.iconst 1, 1) := by decide +kernel
theorem dL_isHeld_157 : decode cL_isHeld 157 = .ok (.invokestatic 68, 3) := by decide +kernel
theorem dL_isHeld_160 : decode cL_isHeld 160 = .ok (.iload 6, 2) := by decide +kernel
theorem dL_isHeld_162 : decode cL_isHeld 162 = .ok (.invokestatic 61, 3) := by decide +kernel
theorem dL_isHeld_165 : decode cL_isHeld 165 = .ok (.ifCond .eq 7, 3) := by decide +kernel
theorem dL_isHeld_168 : decode cL_isHeld 168 = .ok (.iconst 1, 1) := by decide +kernel
theorem dL_isHeld_169 : decode cL_isHeld 169 = .ok (.goto 4, 3) := by decide +kernel
theorem dL_isHeld_172 : decode cL_isHeld 172 = .ok (.iconst 0, 1) := by decide +kernel
theorem dL_isHeld_173 : decode cL_isHeld 173 = .ok (.ireturn, 1) := by decide +kernel
theorem dL_isHeld_174 : decode cL_isHeld 174 = .ok (.iload_n 0, 1) := by decide +kernel
theorem dL_isHeld_175 : decode cL_isHeld 175 = .ok (.iconst 5, 1) := by decide +kernel
theorem dL_isHeld_176 : decode cL_isHeld 176 = .ok (.if_icmp .ne 23, 3) := by decide +kernel
theorem dL_isHeld_179 : decode cL_isHeld 179 = .ok (.aload_n 1, 1) := by decide +kernel
theorem dL_isHeld_180 : decode cL_isHeld 180 = .ok (.aload_n 2, 1) := by decide +kernel
theorem dL_isHeld_181 : decode cL_isHeld 181 = .ok (.iload_n 3, 1) := by decide +kernel
theorem dL_isHeld_182 : decode cL_isHeld 182 = .ok (.iload 4, 2) := by decide +kernel
theorem dL_isHeld_184 : decode cL_isHeld 184 = .ok (.iconst 0, 1) := by decide +kernel
theorem dL_isHeld_185 : decode cL_isHeld 185 = .ok (.iconst 1, 1) := by decide +kernel
theorem dL_isHeld_186 : decode cL_isHeld 186 = .ok (.invokestatic 72, 3) := by decide +kernel
theorem dL_isHeld_189 : decode cL_isHeld 189 = .ok (.iconst 0, 1) := by decide +kernel
theorem dL_isHeld_190 : decode cL_isHeld 190 = .ok (.invokestatic 68, 3) := by decide +kernel
theorem dL_isHeld_193 : decode cL_isHeld 193 = .ok (.iload 5, 2) := by decide +kernel
theorem dL_isHeld_195 : decode cL_isHeld 195 = .ok (.invokestatic 65, 3) := by decide +kernel
theorem dL_isHeld_198 : decode cL_isHeld 198 = .ok (.ireturn, 1) := by decide +kernel
theorem dL_isHeld_199 : decode cL_isHeld 199 = .ok (.iload_n 0, 1) := by decide +kernel
theorem dL_isHeld_200 : decode cL_isHeld 200 = .ok (.bipush 6, 2) := by decide +kernel
theorem dL_isHeld_202 : decode cL_isHeld 202 = .ok (.if_icmp .ne 33, 3) := by decide +kernel
theorem dL_isHeld_205 : decode cL_isHeld 205 = .ok (.iload 5, 2) := by decide +kernel
theorem dL_isHeld_207 : decode cL_isHeld 207 = .ok (.aload_n 1, 1) := by decide +kernel
theorem dL_isHeld_208 : decode cL_isHeld 208 = .ok (.iload 4, 2) := by decide +kernel
theorem dL_isHeld_210 : decode cL_isHeld 210 = .ok (.iconst 1, 1) := by decide +kernel
theorem dL_isHeld_211 : decode cL_isHeld 211 = .ok (.iadd, 1) := by decide +kernel
theorem dL_isHeld_212 : decode cL_isHeld 212 = .ok (.iconst 0, 1) := by decide +kernel
theorem dL_isHeld_213 : decode cL_isHeld 213 = .ok (.invokestatic 68, 3) := by decide +kernel
theorem dL_isHeld_216 : decode cL_isHeld 216 = .ok (.invokestatic 61, 3) := by decide +kernel
theorem dL_isHeld_219 : decode cL_isHeld 219 = .ok (.ifCond .ne 10, 3) := by decide +kernel
theorem dL_isHeld_222 : decode cL_isHeld 222 = .ok (.iload 8, 2) := by decide +kernel
theorem dL_isHeld_224 : decode cL_isHeld 224 = .ok (.iload 7, 2) := by decide +kernel
theorem dL_isHeld_226 : decode cL_isHeld 226 = .ok (.if_icmp .le 7, 3) := by decide +kernel
theorem dL_isHeld_229 : decode cL_isHeld 229 = .ok (.iconst 1, 1) := by decide +kernel
theorem dL_isHeld_230 : decode cL_isHeld 230 = .ok (.goto 4, 3) := by decide +kernel
theorem dL_isHeld_233 : decode cL_isHeld 233 = .ok (.iconst 0, 1) := by decide +kernel
theorem dL_isHeld_234 : decode cL_isHeld 234 = .ok (.ireturn, 1) := by decide +kernel
theorem dL_isHeld_235 : decode cL_isHeld 235 = .ok (.iload_n 0, 1) := by decide +kernel
theorem dL_isHeld_236 : decode cL_isHeld 236 = .ok (.ifCond .lt 36, 3) := by decide +kernel
theorem dL_isHeld_239 : decode cL_isHeld 239 = .ok (.bipush (-2), 2) := by decide +kernel
theorem dL_isHeld_241 : decode cL_isHeld 241 = .ok (.iload 6, 2) := by decide +kernel
theorem dL_isHeld_243 : decode cL_isHeld 243 = .ok (.invokestatic 61, 3) := by decide +kernel
theorem dL_isHeld_246 : decode cL_isHeld 246 = .ok (.ifCond .ne 30, 3) := by decide +kernel
theorem dL_isHeld_249 : decode cL_isHeld 249 = .ok (.aload_n 1, 1) := by decide +kernel
theorem dL_isHeld_250 : decode cL_isHeld 250 = .ok (.aload_n 2, 1) := by decide +kernel
theorem dL_isHeld_251 : decode cL_isHeld 251 = .ok (.iload_n 3, 1) := by decide +kernel
theorem dL_isHeld_252 : decode cL_isHeld 252 = .ok (.iload 4, 2) := by decide +kernel
theorem dL_isHeld_254 : decode cL_isHeld 254 = .ok (.iconst 0, 1) := by decide +kernel
theorem dL_isHeld_255 : decode cL_isHeld 255 = .ok (.iconst 1, 1) := by decide +kernel
theorem dL_isHeld_256 : decode cL_isHeld 256 = .ok (.invokestatic 57, 3) := by decide +kernel
theorem dL_isHeld_259 : decode cL_isHeld 259 = .ok (.ifCond .lt 17, 3) := by decide +kernel
theorem dL_isHeld_262 : decode cL_isHeld 262 = .ok (.iload 5, 2) := by decide +kernel
theorem dL_isHeld_264 : decode cL_isHeld 264 = .ok (.bipush 9, 2) := by decide +kernel
theorem dL_isHeld_266 : decode cL_isHeld 266 = .ok (.invokestatic 61, 3) := by decide +kernel
theorem dL_isHeld_269 : decode cL_isHeld 269 = .ok (.ifCond .eq 7, 3) := by decide +kernel
theorem dL_isHeld_272 : decode cL_isHeld 272 = .ok (.iconst 1, 1) := by decide +kernel
theorem dL_isHeld_273 : decode cL_isHeld 273 = .ok (.goto 4, 3) := by decide +kernel
theorem dL_isHeld_276 : decode cL_isHeld 276 = .ok (.iconst 0, 1) := by decide +kernel
theorem dL_isHeld_277 : decode cL_isHeld 277 = .ok (.ireturn, 1) := by decide +kernel
theorem dL_conditions_0 : decode cL_conditions 0 = .ok (.bipush 26, 2) := by decide +kernel
theorem dL_conditions_2 : decode cL_conditions 2 = .ok (.newarray .int, 2) := by decide +kernel
theorem dL_conditions_4 : decode cL_conditions 4 = .ok (.astore_n 3, 1) := by decide +kernel
theorem dL_conditions_5 : decode cL_conditions 5 = .ok (.ldc 76, 2) := by decide +kernel
theorem dL_conditions_7 : decode cL_conditions 7 = .ok (.astore 4, 2) := by decide +kernel
theorem dL_conditions_9 : decode cL_conditions 9 = .ok (.iconst 0, 1) := by decide +kernel
theorem dL_conditions_10 : decode cL_conditions 10 = .ok (.istore 5, 2) := by decide +kernel
theorem dL_conditions_12 : decode cL_conditions 12 = .ok (.iload 5, 2) := by decide +kernel
theorem dL_conditions_14 : decode cL_conditions 14 = .ok (.bipush 26, 2) := by decide +kernel
theorem dL_conditions_16 : decode cL_conditions 16 = .ok (.if_icmp .ge 138, 3) := by decide +kernel
theorem dL_conditions_19 : decode cL_conditions 19 = .ok (.aload_n 3, 1) := by decide +kernel
theorem dL_conditions_20 : decode cL_conditions 20 = .ok (.iload 5, 2) := by decide +kernel
theorem dL_conditions_22 : decode cL_conditions 22 = .ok (.iload 5, 2) := by decide +kernel
theorem dL_conditions_24 : decode cL_conditions 24 = .ok (.iconst 3, 1) := by decide +kernel
theorem dL_conditions_25 : decode cL_conditions 25 = .ok (.if_icmp .ge 18, 3) := by decide +kernel
theorem dL_conditions_28 : decode cL_conditions 28 = .ok (.aload_n 1, 1) := by decide +kernel
theorem dL_conditions_29 : decode cL_conditions 29 = .ok (.iload_n 2, 1) := by decide +kernel
theorem dL_conditions_30 : decode cL_conditions 30 = .ok (.iload 5, 2) := by decide +kernel
theorem dL_conditions_32 : decode cL_conditions 32 = .ok (.iadd, 1) := by decide +kernel
theorem dL_conditions_33 : decode cL_conditions 33 = .ok (.bipush 10, 2) := by decide +kernel
theorem dL_conditions_35 : decode cL_conditions 35 = .ok (.invokestatic 17, 3) := by decide +kernel
theorem dL_conditions_38 : decode cL_conditions 38 = .ok (.iconst 2, 1) := by decide +kernel
theorem dL_conditions_39 : decode cL_conditions 39 = .ok (.isub, 1) := by decide +kernel
theorem dL_conditions_40 : decode cL_conditions 40 = .ok (.goto 4, 3) := by decide +kernel
theorem dL_conditions_43 : decode cL_conditions 43 = .ok (.iconst (-1), 1) := by decide +kernel
theorem dL_conditions_44 : decode cL_conditions 44 = .ok (.iastore, 1) := by decide +kernel
theorem dL_conditions_45 : decode cL_conditions 45 = .ok (.aload_n 3, 1) := by decide +kernel
theorem dL_conditions_46 : decode cL_conditions 46 = .ok (.iload 5, 2) := by decide +kernel
theorem dL_conditions_48 : decode cL_conditions 48 = .ok (.aload_n 3, 1) := by decide +kernel
theorem dL_conditions_49 : decode cL_conditions 49 = .ok (.iload 5, 2) := by decide +kernel
theorem dL_conditions_51 : decode cL_conditions 51 = .ok (.iaload, 1) := by decide +kernel
theorem dL_conditions_52 : decode cL_conditions 52 = .ok (.ifCond .ge 7, 3) := by decide +kernel
theorem dL_conditions_55 : decode cL_conditions 55 = .ok (.iconst (-1), 1) := by decide +kernel
theorem dL_conditions_56 : decode cL_conditions 56 = .ok (.goto 7, 3) := by decide +kernel
theorem dL_conditions_59 : decode cL_conditions 59 = .ok (.aload_n 3, 1) := by decide +kernel
theorem dL_conditions_60 : decode cL_conditions 60 = .ok (.iload 5, 2) := by decide +kernel
theorem dL_conditions_62 : decode cL_conditions 62 = .ok (.iaload, 1) := by decide +kernel
theorem dL_conditions_63 : decode cL_conditions 63 = .ok (.iastore, 1) := by decide +kernel
theorem dL_conditions_64 : decode cL_conditions 64 = .ok (.new 78, 3) := by decide +kernel
theorem dL_conditions_67 : decode cL_conditions 67 = .ok (.dup, 1) := by decide +kernel
theorem dL_conditions_68 : decode cL_conditions 68 = .ok (.invokespecial 80, 3) := by decide +kernel
theorem dL_conditions_71 : decode cL_conditions 71 = .ok (.aload 4, 2) := by decide +kernel
theorem dL_conditions_73 : decode cL_conditions 73 = .ok (.invokevirtual 81, 3) := by decide +kernel
theorem dL_conditions_76 : decode cL_conditions 76 = .ok (.aload_n 3, 1) := by decide +kernel
theorem dL_conditions_77 : decode cL_conditions 77 = .ok (.iload 5, 2) := by decide +kernel
theorem dL_conditions_79 : decode cL_conditions 79 = .ok (.iaload, 1) := by decide +kernel
theorem dL_conditions_80 : decode cL_conditions 80 = .ok (.ifCond .ge 8, 3) := by decide +kernel
theorem dL_conditions_83 : decode cL_conditions 83 = .ok (.ldc 76, 2) := by decide +kernel
theorem dL_conditions_85 : decode cL_conditions 85 = .ok (.goto 55, 3) := by decide +kernel
theorem dL_conditions_88 : decode cL_conditions 88 = .ok (.new 78, 3) := by decide +kernel
theorem dL_conditions_91 : decode cL_conditions 91 = .ok (.dup, 1) := by decide +kernel
theorem dL_conditions_92 : decode cL_conditions 92 = .ok (.invokespecial 80, 3) := by decide +kernel
theorem dL_conditions_95 : decode cL_conditions 95 = .ok (.aload 4, 2) := by decide +kernel
theorem dL_conditions_97 : decode cL_conditions 97 = .ok (.invokevirtual 27, 3) := by decide +kernel
theorem dL_conditions_100 : decode cL_conditions 100 = .ok (.ifCond .ne 8, 3) := by decide +kernel
theorem dL_conditions_103 : decode cL_conditions 103 = .ok (.ldc 76, 2) := by decide +kernel
theorem dL_conditions_105 : decode cL_conditions 105 = .ok (.goto 5, 3) := by decide +kernel
theorem dL_conditions_108 : decode cL_conditions 108 = .ok (.ldc 85, 2) := by decide +kernel
theorem dL_conditions_110 : decode cL_conditions 110 = .ok (.invokevirtual 81, 3) := by decide +kernel
theorem dL_conditions_113 : decode cL_conditions 113 = .ok (.bipush 65, 2) := by decide +kernel
theorem dL_conditions_115 : decode cL_conditions 115 = .ok (.iload 5, 2) := by decide +kernel
theorem dL_conditions_117 : decode cL_conditions 117 = .ok (.iadd, 1) := by decide +kernel
theorem dL_conditions_118 : decode cL_conditions 118 = .ok (.i2c, 1) := by decide +kernel
theorem dL_conditions_119 : decode cL_conditions 119 = .ok (.invokevirtual 87, 3) := by decide +kernel
theorem dL_conditions_122 : decode cL_conditions 122 = .ok (.ldc 90, 2) := by decide +kernel
theorem dL_conditions_124 : decode cL_conditions 124 = .ok (.invokevirtual 81, 3) := by decide +kernel
theorem dL_conditions_127 : decode cL_conditions 127 = .ok (.aload_n 3, 1) := by decide +kernel
theorem dL_conditions_128 : decode cL_conditions 128 = .ok (.iload 5, 2) := by decide +kernel
theorem dL_conditions_130 : decode cL_conditions 130 = .ok (.iaload, 1) := by decide +kernel
theorem dL_conditions_131 : decode cL_conditions 131 = .ok (.invokestatic 92, 3) := by decide +kernel
theorem dL_conditions_134 : decode cL_conditions 134 = .ok (.invokevirtual 81, 3) := by decide +kernel
theorem dL_conditions_137 : decode cL_conditions 137 = .ok (.invokevirtual 96, 3) := by decide +kernel
theorem dL_conditions_140 : decode cL_conditions 140 = .ok (.invokevirtual 81, 3) := by decide +kernel
theorem dL_conditions_143 : decode cL_conditions 143 = .ok (.invokevirtual 96, 3) := by decide +kernel
theorem dL_conditions_146 : decode cL_conditions 146 = .ok (.astore 4, 2) := by decide +kernel
theorem dL_conditions_148 : decode cL_conditions 148 = .ok (.iinc 5 1, 3) := by decide +kernel
theorem dL_conditions_151 : decode cL_conditions 151 = .ok (.goto (-139), 3) := by decide +kernel
theorem dL_conditions_154 : decode cL_conditions 154 = .ok (.aload 4, 2) := by decide +kernel
theorem dL_conditions_156 : decode cL_conditions 156 = .ok (.invokevirtual 27, 3) := by decide +kernel
theorem dL_conditions_159 : decode cL_conditions 159 = .ok (.ifCond .le 15, 3) := by decide +kernel
theorem dL_conditions_162 : decode cL_conditions 162 = .ok (.aload_n 0, 1) := by decide +kernel
theorem dL_conditions_163 : decode cL_conditions 163 = .ok (.aload 4, 2) := by decide +kernel
theorem dL_conditions_165 : decode cL_conditions 165 = .ok (.invokestatic 100, 3) := by decide +kernel
theorem dL_conditions_168 : decode cL_conditions 168 = .ok (.pop, 1) := by decide +kernel
theorem dL_conditions_169 : decode cL_conditions 169 = .ok (.aload_n 0, 1) := by decide +kernel
theorem dL_conditions_170 : decode cL_conditions 170 = .ok (.invokevirtual 103, 3) := by decide +kernel
theorem dL_conditions_173 : decode cL_conditions 173 = .ok (.pop, 1) := by decide +kernel
theorem dL_conditions_174 : decode cL_conditions 174 = .ok (.aload_n 3, 1) := by decide +kernel
theorem dL_conditions_175 : decode cL_conditions 175 = .ok (.areturn, 1) := by decide +kernel
theorem dL_make_0 : decode cL_make 0 = .ok (.aload_n 0, 1) := by decide +kernel
theorem dL_make_1 : decode cL_make 1 = .ok (.iload_n 1, 1) := by decide +kernel
theorem dL_make_2 : decode cL_make 2 = .ok (.iload_n 3, 1) := by decide +kernel
theorem dL_make_3 : decode cL_make 3 = .ok (.iconst 3, 1) := by decide +kernel
theorem dL_make_4 : decode cL_make 4 = .ok (.if_icmp .ge 8, 3) := by decide +kernel
theorem dL_make_7 : decode cL_make 7 = .ok (.bipush 12, 2) := by decide +kernel
theorem dL_make_9 : decode cL_make 9 = .ok (.goto 5, 3) := by decide +kernel
theorem dL_make_12 : decode cL_make 12 = .ok (.bipush 6, 2) := by decide +kernel
theorem dL_make_14 : decode cL_make 14 = .ok (.invokestatic 17, 3) := by decide +kernel
theorem dL_make_17 : decode cL_make 17 = .ok (.istore 4, 2) := by decide +kernel
theorem dL_make_19 : decode cL_make 19 = .ok (.aload_n 2, 1) := by decide +kernel
theorem dL_make_20 : decode cL_make 20 = .ok (.arraylength, 1) := by decide +kernel
theorem dL_make_21 : decode cL_make 21 = .ok (.iconst 1, 1) := by decide +kernel
theorem dL_make_22 : decode cL_make 22 = .ok (.isub, 1) := by decide +kernel
theorem dL_make_23 : decode cL_make 23 = .ok (.istore 5, 2) := by decide +kernel
theorem dL_make_25 : decode cL_make 25 = .ok (.bipush 10, 2) := by decide +kernel
theorem dL_make_27 : decode cL_make 27 = .ok (.newarray .int, 2) := by decide +kernel
theorem dL_make_29 : decode cL_make 29 = .ok (.dup, 1) := by decide +kernel
theorem dL_make_30 : decode cL_make 30 = .ok (.iconst 0, 1) := by decide +kernel
theorem dL_make_31 : decode cL_make 31 = .ok (.iconst 0, 1) := by decide +kernel
theorem dL_make_32 : decode cL_make 32 = .ok (.iastore, 1) := by decide +kernel
theorem dL_make_33 : decode cL_make 33 = .ok (.dup, 1) := by decide +kernel
theorem dL_make_34 : decode cL_make 34 = .ok (.iconst 1, 1) := by decide +kernel
theorem dL_make_35 : decode cL_make 35 = .ok (.bipush (-5), 2) := by decide +kernel
theorem dL_make_37 : decode cL_make 37 = .ok (.iastore, 1) := by decide +kernel
theorem dL_make_38 : decode cL_make 38 = .ok (.dup, 1) := by decide +kernel
theorem dL_make_39 : decode cL_make 39 = .ok (.iconst 2, 1) := by decide +kernel
theorem dL_make_40 : decode cL_make 40 = .ok (.bipush (-5), 2) := by decide +kernel
theorem dL_make_42 : decode cL_make 42 = .ok (.iastore, 1) := by decide +kernel
theorem dL_make_43 : decode cL_make 43 = .ok (.dup, 1) := by decide +kernel
theorem dL_make_44 : decode cL_make 44 = .ok (.iconst 3, 1) := by decide +kernel
theorem dL_make_45 : decode cL_make 45 = .ok (.bipush (-5), 2) := by decide +kernel
theorem dL_make_47 : decode cL_make 47 = .ok (.iastore, 1) := by decide +kernel
theorem dL_make_48 : decode cL_make 48 = .ok (.dup, 1) := by decide +kernel
theorem dL_make_49 : decode cL_make 49 = .ok (.iconst 4, 1) := by decide +kernel
theorem dL_make_50 : decode cL_make 50 = .ok (.bipush (-5), 2) := by decide +kernel
theorem dL_make_52 : decode cL_make 52 = .ok (.iastore, 1) := by decide +kernel
theorem dL_make_53 : decode cL_make 53 = .ok (.dup, 1) := by decide +kernel
theorem dL_make_54 : decode cL_make 54 = .ok (.iconst 5, 1) := by decide +kernel
theorem dL_make_55 : decode cL_make 55 = .ok (.iconst 0, 1) := by decide +kernel
theorem dL_make_56 : decode cL_make 56 = .ok (.iastore, 1) := by decide +kernel
theorem dL_make_57 : decode cL_make 57 = .ok (.dup, 1) := by decide +kernel
theorem dL_make_58 : decode cL_make 58 = .ok (.bipush 6, 2) := by decide +kernel
theorem dL_make_60 : decode cL_make 60 = .ok (.iconst (-1), 1) := by decide +kernel
theorem dL_make_61 : decode cL_make 61 = .ok (.iastore, 1) := by decide +kernel
theorem dL_make_62 : decode cL_make 62 = .ok (.dup, 1) := by decide +kernel
theorem dL_make_63 : decode cL_make 63 = .ok (.bipush 7, 2) := by decide +kernel
theorem dL_make_65 : decode cL_make 65 = .ok (.iconst (-1), 1) := by decide +kernel
theorem dL_make_66 : decode cL_make 66 = .ok (.iastore, 1) := by decide +kernel
theorem dL_make_67 : decode cL_make 67 = .ok (.dup, 1) := by decide +kernel
theorem dL_make_68 : decode cL_make 68 = .ok (.bipush 8, 2) := by decide +kernel
theorem dL_make_70 : decode cL_make 70 = .ok (.iconst (-1), 1) := by decide +kernel
theorem dL_make_71 : decode cL_make 71 = .ok (.iastore, 1) := by decide +kernel
theorem dL_make_72 : decode cL_make 72 = .ok (.dup, 1) := by decide +kernel
theorem dL_make_73 : decode cL_make 73 = .ok (.bipush 9, 2) := by decide +kernel
theorem dL_make_75 : decode cL_make 75 = .ok (.iconst (-1), 1) := by decide +kernel
theorem dL_make_76 : decode cL_make 76 = .ok (.iastore, 1) := by decide +kernel
theorem dL_make_77 : decode cL_make 77 = .ok (.astore 6, 2) := by decide +kernel
theorem dL_make_79 : decode cL_make 79 = .ok (.iload 4, 2) := by decide +kernel
theorem dL_make_81 : decode cL_make 81 = .ok (.bipush 6, 2) := by decide +kernel
theorem dL_make_83 : decode cL_make 83 = .ok (.if_icmp .ge 53, 3) := by decide +kernel
theorem dL_make_86 : decode cL_make 86 = .ok (.aload 6, 2) := by decide +kernel
theorem dL_make_88 : decode cL_make 88 = .ok (.iconst 0, 1) := by decide +kernel
theorem dL_make_89 : decode cL_make 89 = .ok (.iload 4, 2) := by decide +kernel
theorem dL_make_91 : decode cL_make 91 = .ok (.iconst 5, 1) := by decide +kernel
theorem dL_make_92 : decode cL_make 92 = .ok (.if_icmp .ne 16, 3) := by decide +kernel
theorem dL_make_95 : decode cL_make 95 = .ok (.iconst 1, 1) := by decide +kernel
theorem dL_make_96 : decode cL_make 96 = .ok (.aload_n 0, 1) := by decide +kernel
theorem dL_make_97 : decode cL_make 97 = .ok (.iload_n 1, 1) := by decide +kernel
theorem dL_make_98 : decode cL_make 98 = .ok (.iconst 1, 1) := by decide +kernel
theorem dL_make_99 : decode cL_make 99 = .ok (.iadd, 1) := by decide +kernel
theorem dL_make_100 : decode cL_make 100 = .ok (.iconst 2, 1) := by decide +kernel
theorem dL_make_101 : decode cL_make 101 = .ok (.invokestatic 17, 3) := by decide +kernel
theorem dL_make_104 : decode cL_make 104 = .ok (.iadd, 1) := by decide +kernel
theorem dL_make_105 : decode cL_make 105 = .ok (.goto 4, 3) := by decide +kernel
theorem dL_make_108 : decode cL_make 108 = .ok (.iconst 0, 1) := by decide +kernel
theorem dL_make_109 : decode cL_make 109 = .ok (.iastore, 1) := by decide +kernel
theorem dL_make_110 : decode cL_make 110 = .ok (.aload 6, 2) := by decide +kernel
theorem dL_make_112 : decode cL_make 112 = .ok (.iconst 1, 1) := by decide +kernel
theorem dL_make_113 : decode cL_make 113 = .ok (.iload 4, 2) := by decide +kernel
theorem dL_make_115 : decode cL_make 115 = .ok (.iconst 5, 1) := by decide +kernel
theorem dL_make_116 : decode cL_make 116 = .ok (.if_icmp .ne 8, 3) := by decide +kernel
theorem dL_make_119 : decode cL_make 119 = .ok (.bipush (-5), 2) := by decide +kernel
theorem dL_make_121 : decode cL_make 121 = .ok (.goto 11, 3) := by decide +kernel
theorem dL_make_124 : decode cL_make 124 = .ok (.aload_n 0, 1) := by decide +kernel
theorem dL_make_125 : decode cL_make 125 = .ok (.iload_n 1, 1) := by decide +kernel
theorem dL_make_126 : decode cL_make 126 = .ok (.iconst 1, 1) := by decide +kernel
theorem dL_make_127 : decode cL_make 127 = .ok (.iadd, 1) := by decide +kernel
theorem dL_make_128 : decode cL_make 128 = .ok (.iconst 3, 1) := by decide +kernel
theorem dL_make_129 : decode cL_make 129 = .ok (.invokestatic 17, 3) := by decide +kernel
theorem dL_make_132 : decode cL_make 132 = .ok (.iastore, 1) := by decide +kernel
theorem dL_make_133 : decode cL_make 133 = .ok (.goto 271, 3) := by decide +kernel
theorem dL_make_136 : decode cL_make 136 = .ok (.aload 6, 2) := by decide +kernel
theorem dL_make_138 : decode cL_make 138 = .ok (.iconst 0, 1) := by decide +kernel
theorem dL_make_139 : decode cL_make 139 = .ok (.iload 4, 2) := by decide +kernel
theorem dL_make_141 : decode cL_make 141 = .ok (.bipush 8, 2) := by decide +kernel
theorem dL_make_143 : decode cL_make 143 = .ok (.if_icmp .ge 7, 3) := by decide +kernel
theorem dL_make_146 : decode cL_make 146 = .ok (.iconst 3, 1) := by decide +kernel
theorem dL_make_147 : decode cL_make 147 = .ok (.goto 27, 3) := by decide +kernel
theorem dL_make_150 : decode cL_make 150 = .ok (.iload 4, 2) := by decide +kernel
theorem dL_make_152 : decode cL_make 152 = .ok (.bipush 9, 2) := by decide +kernel
theorem dL_make_154 : decode cL_make 154 = .ok (.if_icmp .ge 7, 3) := by decide +kernel
theorem dL_make_157 : decode cL_make 157 = .ok (.iconst 4, 1) := by decide +kernel
theorem dL_make_158 : decode cL_make 158 = .ok (.goto 16, 3) := by decide +kernel
theorem dL_make_161 : decode cL_make 161 = .ok (.iload 4, 2) := by decide +kernel
theorem dL_make_163 : decode cL_make 163 = .ok (.bipush 11, 2) := by decide +kernel
theorem dL_make_165 : decode cL_make 165 = .ok (.if_icmp .ge 7, 3) := by decide +kernel
theorem dL_make_168 : decode cL_make 168 = .ok (.iconst 5, 1) := by decide +kernel
theorem dL_make_169 : decode cL_make 169 = .ok (.goto 5, 3) := by decide +kernel
theorem dL_make_172 : decode cL_make 172 = .ok (.bipush 6, 2) := by decide +kernel
theorem dL_make_174 : decode cL_make 174 = .ok (.iastore, 1) := by decide +kernel
theorem dL_make_175 : decode cL_make 175 = .ok (.aload 6, 2) := by decide +kernel
theorem dL_make_177 : decode cL_make 177 = .ok (.iconst 0, 1) := by decide +kernel
theorem dL_make_178 : decode cL_make 178 = .ok (.iaload, 1) := by decide +kernel
theorem dL_make_179 : decode cL_make 179 = .ok (.iconst 5, 1) := by decide +kernel
theorem dL_make_180 : decode cL_make 180 = .ok (.if_icmp .ne 7, 3) := by decide +kernel
theorem dL_make_183 : decode cL_make 183 = .ok (.iconst 1, 1) := by decide +kernel
theorem dL_make_184 : decode cL_make 184 = .ok (.goto 13, 3) := by decide +kernel
theorem dL_make_187 : decode cL_make 187 = .ok (.iconst 2, 1) := by decide +kernel
theorem dL_make_188 : decode cL_make 188 = .ok (.aload_n 0, 1) := by decide +kernel
theorem dL_make_189 : decode cL_make 189 = .ok (.iload_n 1, 1) := by decide +kernel
theorem dL_make_190 : decode cL_make 190 = .ok (.iconst 1, 1) := by decide +kernel
theorem dL_make_191 : decode cL_make 191 = .ok (.iadd, 1) := by decide +kernel
theorem dL_make_192 : decode cL_make 192 = .ok (.iconst 2, 1) := by decide +kernel
theorem dL_make_193 : decode cL_make 193 = .ok (.invokestatic 17, 3) := by decide +kernel
theorem dL_make_196 : decode cL_make 196 = .ok (.iadd, 1) := by decide +kernel
theorem dL_make_197 : decode cL_make 197 = .ok (.istore 7, 2) := by decide +kernel
theorem dL_make_199 : decode cL_make 199 = .ok (.iconst 0, 1) := by decide +kernel
theorem dL_make_200 : decode cL_make 200 = .ok (.istore 8, 2) := by decide +kernel
theorem dL_make_202 : decode cL_make 202 = .ok (.iload 8, 2) := by decide +kernel
theorem dL_make_204 : decode cL_make 204 = .ok (.iload 7, 2) := by decide +kernel
theorem dL_make_206 : decode cL_make 206 = .ok (.if_icmp .ge 48, 3) := by decide +kernel
theorem dL_make_209 : decode cL_make 209 = .ok (.aload_n 0, 1) := by decide +kernel
theorem dL_make_210 : decode cL_make 210 = .ok (.iload_n 1, 1) := by decide +kernel
theorem dL_make_211 : decode cL_make 211 = .ok (.bipush 7, 2) := by decide +kernel
theorem dL_make_213 : decode cL_make 213 = .ok (.iadd, 1) := by decide +kernel
theorem dL_make_214 : decode cL_make 214 = .ok (.bipush 43, 2) := by decide +kernel
theorem dL_make_216 : decode cL_make 216 = .ok (.iload 8, 2) := by decide +kernel
theorem dL_make_218 : decode cL_make 218 = .ok (.imul, 1) := by decide +kernel
theorem dL_make_219 : decode cL_make 219 = .ok (.iload_n 3, 1) := by decide +kernel
theorem dL_make_220 : decode cL_make 220 = .ok (.iconst 1, 1) := by decide +kernel
theorem dL_make_221 : decode cL_make 221 = .ok (.iadd, 1) := by decide +kernel
theorem dL_make_222 : decode cL_make 222 = .ok (.imul, 1) := by decide +kernel
theorem dL_make_223 : decode cL_make 223 = .ok (.iadd, 1) := by decide +kernel
theorem dL_make_224 : decode cL_make 224 = .ok (.bipush 11, 2) := by decide +kernel
theorem dL_make_226 : decode cL_make 226 = .ok (.iload_n 3, 1) := by decide +kernel
theorem dL_make_227 : decode cL_make 227 = .ok (.imul, 1) := by decide +kernel
theorem dL_make_228 : decode cL_make 228 = .ok (.iadd, 1) := by decide +kernel
theorem dL_make_229 : decode cL_make 229 = .ok (.aload_n 2, 1) := by decide +kernel
theorem dL_make_230 : decode cL_make 230 = .ok (.iload_n 3, 1) := by decide +kernel
theorem dL_make_231 : decode cL_make 231 = .ok (.iconst 1, 1) := by decide +kernel
theorem dL_make_232 : decode cL_make 232 = .ok (.iadd, 1) := by decide +kernel
theorem dL_make_233 : decode cL_make 233 = .ok (.invokestatic 106, 3) := by decide +kernel
theorem dL_make_236 : decode cL_make 236 = .ok (.istore 9, 2) := by decide +kernel
theorem dL_make_238 : decode cL_make 238 = .ok (.aload 6, 2) := by decide +kernel
theorem dL_make_240 : decode cL_make 240 = .ok (.bipush 6, 2) := by decide +kernel
theorem dL_make_242 : decode cL_make 242 = .ok (.iload 8, 2) := by decide +kernel
theorem dL_make_244 : decode cL_make 244 = .ok (.iadd, 1) := by decide +kernel
theorem dL_make_245 : decode cL_make 245 = .ok (.iload 9, 2) := by decide +kernel
theorem dL_make_247 : decode cL_make 247 = .ok (.iastore, 1) := by decide +kernel
theorem dL_make_248 : decode cL_make 248 = .ok (.iinc 8 1, 3) := by decide +kernel
theorem dL_make_251 : decode cL_make 251 = .ok (.goto (-49), 3) := by decide +kernel
theorem dL_make_254 : decode cL_make 254 = .ok (.aload 6, 2) := by decide +kernel
theorem dL_make_256 : decode cL_make 256 = .ok (.iconst 5, 1) := by decide +kernel
theorem dL_make_257 : decode cL_make 257 = .ok (.iload 7, 2) := by decide +kernel
theorem dL_make_259 : decode cL_make 259 = .ok (.iastore, 1) := by decide +kernel
theorem dL_make_260 : decode cL_make 260 = .ok (.aload 6, 2) := by decide +kernel
theorem dL_make_262 : decode cL_make 262 = .ok (.iconst 0, 1) := by decide +kernel
theorem dL_make_263 : decode cL_make 263 = .ok (.iaload, 1) := by decide +kernel
theorem dL_make_264 : decode cL_make 264 = .ok (.iconst 5, 1) := by decide +kernel
theorem dL_make_265 : decode cL_make 265 = .ok (.if_icmp .ne 139, 3) := by decide +kernel
theorem dL_make_268 : decode cL_make 268 = .ok (.aload_n 0, 1) := by decide +kernel
theorem dL_make_269 : decode cL_make 269 = .ok (.iload_n 1, 1) := by decide +kernel
theorem dL_make_270 : decode cL_make 270 = .ok (.iconst 2, 1) := by decide +kernel
theorem dL_make_271 : decode cL_make 271 = .ok (.iadd, 1) := by decide +kernel
theorem dL_make_272 : decode cL_make 272 = .ok (.bipush 6, 2) := by decide +kernel
theorem dL_make_274 : decode cL_make 274 = .ok (.invokestatic 17, 3) := by decide +kernel
theorem dL_make_277 : decode cL_make 277 = .ok (.istore 8, 2) := by decide +kernel
theorem dL_make_279 : decode cL_make 279 = .ok (.aload 6, 2) := by decide +kernel
theorem dL_make_281 : decode cL_make 281 = .ok (.iconst 2, 1) := by decide +kernel
theorem dL_make_282 : decode cL_make 282 = .ok (.iload 8, 2) := by decide +kernel
theorem dL_make_284 : decode cL_make 284 = .ok (.ifCond .eq 9, 3) := by decide +kernel
theorem dL_make_287 : decode cL_make 287 = .ok (.iload 8, 2) := by decide +kernel
theorem dL_make_289 : decode cL_make 289 = .ok (.iconst 2, 1) := by decide +kernel
theorem dL_make_290 : decode cL_make 290 = .ok (.if_icmp .ne 7, 3) := by decide +kernel
theorem dL_make_293 : decode cL_make 293 = .ok (.iconst 0, 1) := by decide +kernel
theorem dL_make_294 : decode cL_make 294 = .ok (.goto 21, 3) := by decide +kernel
theorem dL_make_297 : decode cL_make 297 = .ok (.iload 8, 2) := by decide +kernel
theorem dL_make_299 : decode cL_make 299 = .ok (.iconst 1, 1) := by decide +kernel
theorem dL_make_300 : decode cL_make 300 = .ok (.if_icmp .ne 7, 3) := by decide +kernel
theorem dL_make_303 : decode cL_make 303 = .ok (.iconst 1, 1) := by decide +kernel
theorem dL_make_304 : decode cL_make 304 = .ok (.goto 11, 3) := by decide +kernel
theorem dL_make_307 : decode cL_make 307 = .ok (.aload_n 0, 1) := by decide +kernel
theorem dL_make_308 : decode cL_make 308 = .ok (.iload_n 1, 1) := by decide +kernel
theorem dL_make_309 : decode cL_make 309 = .ok (.iconst 3, 1) := by decide +kernel
theorem dL_make_310 : decode cL_make 310 = .ok (.iadd, 1) := by decide +kernel
theorem dL_make_311 : decode cL_make 311 = .ok (.iconst 3, 1) := by decide +kernel
theorem dL_make_312 : decode cL_make 312 = .ok (.invokestatic 17, 3) := by decide +kernel
theorem dL_make_315 : decode cL_make 315 = .ok (.iastore, 1) := by decide +kernel
theorem dL_make_316 : decode cL_make 316 = .ok (.aload 6, 2) := by decide +kernel
theorem dL_make_318 : decode cL_make 318 = .ok (.iconst 3, 1) := by decide +kernel
theorem dL_make_319 : decode cL_make 319 = .ok (.iload 8, 2) := by decide +kernel
theorem dL_make_321 : decode cL_make 321 = .ok (.iconst 2, 1) := by decide +kernel
theorem dL_make_322 : decode cL_make 322 = .ok (.if_icmp .ge 8, 3) := by decide +kernel
theorem dL_make_325 : decode cL_make 325 = .ok (.bipush 100, 2) := by decide +kernel
theorem dL_make_327 : decode cL_make 327 = .ok (.goto 37, 3) := by decide +kernel
theorem dL_make_330 : decode cL_make 330 = .ok (.iload 8, 2) := by decide +kernel
theorem dL_make_332 : decode cL_make 332 = .ok (.iconst 2, 1) := by decide +kernel
theorem dL_make_333 : decode cL_make 333 = .ok (.if_icmp .ne 7, 3) := by decide +kernel
theorem dL_make_336 : decode cL_make 336 = .ok (.iconst 1, 1) := by decide +kernel
theorem dL_make_337 : decode cL_make 337 = .ok (.goto 27, 3) := by decide +kernel
theorem dL_make_340 : decode cL_make 340 = .ok (.iload 8, 2) := by decide +kernel
theorem dL_make_342 : decode cL_make 342 = .ok (.iconst 3, 1) := by decide +kernel
theorem dL_make_343 : decode cL_make 343 = .ok (.if_icmp .ne 19, 3) := by decide +kernel
theorem dL_make_346 : decode cL_make 346 = .ok (.aload 6, 2) := by decide +kernel
theorem dL_make_348 : decode cL_make 348 = .ok (.iconst 2, 1) := by decide +kernel
theorem dL_make_349 : decode cL_make 349 = .ok (.iaload, 1) := by decide +kernel
theorem dL_make_350 : decode cL_make 350 = .ok (.aload_n 0, 1) := by decide +kernel
theorem dL_make_351 : decode cL_make 351 = .ok (.iload_n 1, 1) := by decide +kernel
theorem dL_make_352 : decode cL_make 352 = .ok (.iconst 4, 1) := by decide +kernel
theorem dL_make_353 : decode cL_make 353 = .ok (.iadd, 1) := by decide +kernel
theorem dL_make_354 : decode cL_make 354 = .ok (.iconst 3, 1) := by decide +kernel
theorem dL_make_355 : decode cL_make 355 = .ok (.invokestatic 17, 3) := by decide +kernel
theorem dL_make_358 : decode cL_make 358 = .ok (.iadd, 1) := by decide +kernel
theorem dL_make_359 : decode cL_make 359 = .ok (.goto 5, 3) := by decide +kernel
theorem dL_make_362 : decode cL_make 362 = .ok (.bipush 100, 2) := by decide +kernel
theorem dL_make_364 : decode cL_make 364 = .ok (.iastore, 1) := by decide +kernel
theorem dL_make_365 : decode cL_make 365 = .ok (.aload 6, 2) := by decide +kernel
theorem dL_make_367 : decode cL_make 367 = .ok (.iconst 3, 1) := by decide +kernel
theorem dL_make_368 : decode cL_make 368 = .ok (.aload 6, 2) := by decide +kernel
theorem dL_make_370 : decode cL_make 370 = .ok (.iconst 3, 1) := by decide +kernel
theorem dL_make_371 : decode cL_make 371 = .ok (.iaload, 1) := by decide +kernel
theorem dL_make_372 : decode cL_make 372 = .ok (.ifCond .ne 7, 3) := by decide +kernel
theorem dL_make_375 : decode cL_make 375 = .ok (.iconst 1, 1) := by decide +kernel
theorem dL_make_376 : decode cL_make 376 = .ok (.goto 7, 3) := by decide +kernel
theorem dL_make_379 : decode cL_make 379 = .ok (.aload 6, 2) := by decide +kernel
theorem dL_make_381 : decode cL_make 381 = .ok (.iconst 3, 1) := by decide +kernel
theorem dL_make_382 : decode cL_make 382 = .ok (.iaload, 1) := by decide +kernel
theorem dL_make_383 : decode cL_make 383 = .ok (.iastore, 1) := by decide +kernel
theorem dL_make_384 : decode cL_make 384 = .ok (.aload 6, 2) := by decide +kernel
theorem dL_make_386 : decode cL_make 386 = .ok (.iconst 4, 1) := by decide +kernel
theorem dL_make_387 : decode cL_make 387 = .ok (.aload_n 0, 1) := by decide +kernel
theorem dL_make_388 : decode cL_make 388 = .ok (.iload_n 1, 1) := by decide +kernel
theorem dL_make_389 : decode cL_make 389 = .ok (.iconst 5, 1) := by decide +kernel
theorem dL_make_390 : decode cL_make 390 = .ok (.iadd, 1) := by decide +kernel
theorem dL_make_391 : decode cL_make 391 = .ok (.iconst 3, 1) := by decide +kernel
theorem dL_make_392 : decode cL_make 392 = .ok (.invokestatic 17, 3) := by decide +kernel
theorem dL_make_395 : decode cL_make 395 = .ok (.ifCond .ne 7, 3) := by decide +kernel
theorem dL_make_398 : decode cL_make 398 = .ok (.iconst 0, 1) := by decide +kernel
theorem dL_make_399 : decode cL_make 399 = .ok (.goto 4, 3) := by decide +kernel
theorem dL_make_402 : decode cL_make 402 = .ok (.iconst 1, 1) := by decide +kernel
theorem dL_make_403 : decode cL_make 403 = .ok (.iastore, 1) := by decide +kernel
theorem dL_make_404 : decode cL_make 404 = .ok (.aload_n 2, 1) := by decide +kernel
theorem dL_make_405 : decode cL_make 405 = .ok (.aload_n 2, 1) := by decide +kernel
theorem dL_make_406 : decode cL_make 406 = .ok (.iload 5, 2) := by decide +kernel
theorem dL_make_408 : decode cL_make 408 = .ok (.aaload, 1) := by decide +kernel
theorem dL_make_409 : decode cL_make 409 = .ok (.iconst 0, 1) := by decide +kernel
theorem dL_make_410 : decode cL_make 410 = .ok (.iaload, 1) := by decide +kernel
theorem dL_make_411 : decode cL_make 411 = .ok (.aload 6, 2) := by decide +kernel
theorem dL_make_413 : decode cL_make 413 = .ok (.aastore, 1) := by decide +kernel
theorem dL_make_414 : decode cL_make 414 = .ok (.aload_n 2, 1) := by decide +kernel
theorem dL_make_415 : decode cL_make 415 = .ok (.iload 5, 2) := by decide +kernel
theorem dL_make_417 : decode cL_make 417 = .ok (.aaload, 1) := by decide +kernel
theorem dL_make_418 : decode cL_make 418 = .ok (.iconst 0, 1) := by decide +kernel
theorem dL_make_419 : decode cL_make 419 = .ok (.dup2, 1) := by decide +kernel
theorem dL_make_420 : decode cL_make 420 = .ok (.iaload, 1) := by decide +kernel
theorem dL_make_421 : decode cL_make 421 = .ok (.iconst 1, 1) := by decide +kernel
theorem dL_make_422 : decode cL_make 422 = .ok (.iadd, 1) := by decide +kernel
theorem dL_make_423 : decode cL_make 423 = .ok (.iastore, 1) := by decide +kernel
theorem dL_make_424 : decode cL_make 424 = .ok (.aload_n 2, 1) := by decide +kernel
theorem dL_make_425 : decode cL_make 425 = .ok (.iload 5, 2) := by decide +kernel
theorem dL_make_427 : decode cL_make 427 = .ok (.aaload, 1) := by decide +kernel
theorem dL_make_428 : decode cL_make 428 = .ok (.iconst 0, 1) := by decide +kernel
theorem dL_make_429 : decode cL_make 429 = .ok (.iaload, 1) := by decide +kernel
theorem dL_make_430 : decode cL_make 430 = .ok (.iconst 1, 1) := by decide +kernel
theorem dL_make_431 : decode cL_make 431 = .ok (.isub, 1) := by decide +kernel
theorem dL_make_432 : decode cL_make 432 = .ok (.ireturn, 1) := by decide +kernel
theorem dL_spelled_0 : decode cL_spelled 0 = .ok (.aload_n 0, 1) := by decide +kernel
theorem dL_spelled_1 : decode cL_spelled 1 = .ok (.iload_n 1, 1) := by decide +kernel
theorem dL_spelled_2 : decode cL_spelled 2 = .ok (.aaload, 1) := by decide +kernel
theorem dL_spelled_3 : decode cL_spelled 3 = .ok (.astore_n 2, 1) := by decide +kernel
theorem dL_spelled_4 : decode cL_spelled 4 = .ok (.aload_n 2, 1) := by decide +kernel
theorem dL_spelled_5 : decode cL_spelled 5 = .ok (.iconst 0, 1) := by decide +kernel
theorem dL_spelled_6 : decode cL_spelled 6 = .ok (.iaload, 1) := by decide +kernel
theorem dL_spelled_7 : decode cL_spelled 7 = .ok (.ifCond .ne 31, 3) := by decide +kernel
theorem dL_spelled_10 : decode cL_spelled 10 = .ok (.new 78, 3) := by decide +kernel
theorem dL_spelled_13 : decode cL_spelled 13 = .ok (.dup, 1) := by decide +kernel
theorem dL_spelled_14 : decode cL_spelled 14 = .ok (.invokespecial 80, 3) := by decide +kernel
theorem dL_spelled_17 : decode cL_spelled 17 = .ok (.ldc 76, 2) := by decide +kernel
theorem dL_spelled_19 : decode cL_spelled 19 = .ok (.invokevirtual 81, 3) := by decide +kernel
theorem dL_spelled_22 : decode cL_spelled 22 = .ok (.bipush 65, 2) := by decide +kernel
theorem dL_spelled_24 : decode cL_spelled 24 = .ok (.aload_n 2, 1) := by decide +kernel
theorem dL_spelled_25 : decode cL_spelled 25 = .ok (.iconst 1, 1) := by decide +kernel
theorem dL_spelled_26 : decode cL_spelled 26 = .ok (.iaload, 1) := by decide +kernel
theorem dL_spelled_27 : decode cL_spelled 27 = .ok (.iadd, 1) := by decide +kernel
theorem dL_spelled_28 : decode cL_spelled 28 = .ok (.i2c, 1) := by decide +kernel
theorem dL_spelled_29 : decode cL_spelled 29 = .ok (.invokevirtual 87, 3) := by decide +kernel
theorem dL_spelled_32 : decode cL_spelled 32 = .ok (.invokevirtual 96, 3) := by decide +kernel
theorem dL_spelled_35 : decode cL_spelled 35 = .ok (.goto 42, 3) := by decide +kernel
theorem dL_spelled_38 : decode cL_spelled 38 = .ok (.aload_n 2, 1) := by decide +kernel
theorem dL_spelled_39 : decode cL_spelled 39 = .ok (.iconst 0, 1) := by decide +kernel
theorem dL_spelled_40 : decode cL_spelled 40 = .ok (.iaload, 1) := by decide +kernel
theorem dL_spelled_41 : decode cL_spelled 41 = .ok (.iconst 1, 1) := by decide +kernel
theorem dL_spelled_42 : decode cL_spelled 42 = .ok (.if_icmp .ne 8, 3) := by decide +kernel
theorem dL_spelled_45 : decode cL_spelled 45 = .ok (.ldc 110, 2) := by decide +kernel
theorem dL_spelled_47 : decode cL_spelled 47 = .ok (.goto 30, 3) := by decide +kernel
theorem dL_spelled_50 : decode cL_spelled 50 = .ok (.aload_n 2, 1) := by decide +kernel
theorem dL_spelled_51 : decode cL_spelled 51 = .ok (.iconst 0, 1) := by decide +kernel
theorem dL_spelled_52 : decode cL_spelled 52 = .ok (.iaload, 1) := by decide +kernel
theorem dL_spelled_53 : decode cL_spelled 53 = .ok (.iconst 2, 1) := by decide +kernel
theorem dL_spelled_54 : decode cL_spelled 54 = .ok (.if_icmp .ne 8, 3) := by decide +kernel
theorem dL_spelled_57 : decode cL_spelled 57 = .ok (.ldc 112, 2) := by decide +kernel
theorem dL_spelled_59 : decode cL_spelled 59 = .ok (.goto 18, 3) := by decide +kernel
theorem dL_spelled_62 : decode cL_spelled 62 = .ok (.aload_n 2, 1) := by decide +kernel
theorem dL_spelled_63 : decode cL_spelled 63 = .ok (.iconst 0, 1) := by decide +kernel
theorem dL_spelled_64 : decode cL_spelled 64 = .ok (.iaload, 1) := by decide +kernel
theorem dL_spelled_65 : decode cL_spelled 65 = .ok (.bipush 6, 2) := by decide +kernel
