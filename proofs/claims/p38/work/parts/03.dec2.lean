theorem dX7_commonDivisor_8 : decode cX7_commonDivisor 8 = .ok (.iload_n 2, 1) := by decide +kernel
theorem dX7_commonDivisor_9 : decode cX7_commonDivisor 9 = .ok (.irem, 1) := by decide +kernel
theorem dX7_commonDivisor_10 : decode cX7_commonDivisor 10 = .ok (.ifCond .ne 11, 3) := by decide +kernel
theorem dX7_commonDivisor_13 : decode cX7_commonDivisor 13 = .ok (.iload_n 1, 1) := by decide +kernel
theorem dX7_commonDivisor_14 : decode cX7_commonDivisor 14 = .ok (.iload_n 2, 1) := by decide +kernel
theorem dX7_commonDivisor_15 : decode cX7_commonDivisor 15 = .ok (.irem, 1) := by decide +kernel
theorem dX7_commonDivisor_16 : decode cX7_commonDivisor 16 = .ok (.ifCond .ne 5, 3) := by decide +kernel
theorem dX7_commonDivisor_19 : decode cX7_commonDivisor 19 = .ok (.iload_n 2, 1) := by decide +kernel
theorem dX7_commonDivisor_20 : decode cX7_commonDivisor 20 = .ok (.ireturn, 1) := by decide +kernel
theorem dX7_commonDivisor_21 : decode cX7_commonDivisor 21 = .ok (.iinc 2 (-1), 3) := by decide +kernel
theorem dX7_commonDivisor_24 : decode cX7_commonDivisor 24 = .ok (.goto (-22), 3) := by decide +kernel
theorem dX7_commonDivisor_27 : decode cX7_commonDivisor 27 = .ok (.iconst 1, 1) := by decide +kernel
theorem dX7_commonDivisor_28 : decode cX7_commonDivisor 28 = .ok (.ireturn, 1) := by decide +kernel
theorem dX7_sheet_0 : decode cX7_sheet 0 = .ok (.aload_n 0, 1) := by decide +kernel
theorem dX7_sheet_1 : decode cX7_sheet 1 = .ok (.iconst 0, 1) := by decide +kernel
theorem dX7_sheet_2 : decode cX7_sheet 2 = .ok (.putfield 60, 3) := by decide +kernel
theorem dX7_sheet_5 : decode cX7_sheet 5 = .ok (.aload_n 0, 1) := by decide +kernel
theorem dX7_sheet_6 : decode cX7_sheet 6 = .ok (.getfield 35, 3) := by decide +kernel
theorem dX7_sheet_9 : decode cX7_sheet 9 = .ok (.iload_n 1, 1) := by decide +kernel
theorem dX7_sheet_10 : decode cX7_sheet 10 = .ok (.invokevirtual 63, 3) := by decide +kernel
theorem dX7_sheet_13 : decode cX7_sheet 13 = .ok (.ifCond .ne 5, 3) := by decide +kernel
theorem dX7_sheet_16 : decode cX7_sheet 16 = .ok (.iconst (-1), 1) := by decide +kernel
theorem dX7_sheet_17 : decode cX7_sheet 17 = .ok (.ireturn, 1) := by decide +kernel
theorem dX7_sheet_18 : decode cX7_sheet 18 = .ok (.iload_n 2, 1) := by decide +kernel
theorem dX7_sheet_19 : decode cX7_sheet 19 = .ok (.invokestatic 67, 3) := by decide +kernel
theorem dX7_sheet_22 : decode cX7_sheet 22 = .ok (.ifCond .eq 9, 3) := by decide +kernel
theorem dX7_sheet_25 : decode cX7_sheet 25 = .ok (.iload_n 3, 1) := by decide +kernel
theorem dX7_sheet_26 : decode cX7_sheet 26 = .ok (.bipush 40, 2) := by decide +kernel
theorem dX7_sheet_28 : decode cX7_sheet 28 = .ok (.if_icmp .le 6, 3) := by decide +kernel
theorem dX7_sheet_31 : decode cX7_sheet 31 = .ok (.bipush (-2), 2) := by decide +kernel
theorem dX7_sheet_33 : decode cX7_sheet 33 = .ok (.ireturn, 1) := by decide +kernel
theorem dX7_sheet_34 : decode cX7_sheet 34 = .ok (.iload_n 3, 1) := by decide +kernel
theorem dX7_sheet_35 : decode cX7_sheet 35 = .ok (.ifCond .ge 9, 3) := by decide +kernel
theorem dX7_sheet_38 : decode cX7_sheet 38 = .ok (.aload_n 0, 1) := by decide +kernel
theorem dX7_sheet_39 : decode cX7_sheet 39 = .ok (.iconst 4, 1) := by decide +kernel
theorem dX7_sheet_40 : decode cX7_sheet 40 = .ok (.invokevirtual 74, 3) := by decide +kernel
theorem dX7_sheet_43 : decode cX7_sheet 43 = .ok (.ireturn, 1) := by decide +kernel
theorem dX7_sheet_44 : decode cX7_sheet 44 = .ok (.aload_n 0, 1) := by decide +kernel
theorem dX7_sheet_45 : decode cX7_sheet 45 = .ok (.getfield 35, 3) := by decide +kernel
theorem dX7_sheet_48 : decode cX7_sheet 48 = .ok (.iload_n 1, 1) := by decide +kernel
theorem dX7_sheet_49 : decode cX7_sheet 49 = .ok (.iload_n 2, 1) := by decide +kernel
theorem dX7_sheet_50 : decode cX7_sheet 50 = .ok (.iload_n 3, 1) := by decide +kernel
theorem dX7_sheet_51 : decode cX7_sheet 51 = .ok (.invokevirtual 231, 3) := by decide +kernel
theorem dX7_sheet_54 : decode cX7_sheet 54 = .ok (.iconst 1, 1) := by decide +kernel
theorem dX7_sheet_55 : decode cX7_sheet 55 = .ok (.ireturn, 1) := by decide +kernel
theorem dX7_put_0 : decode cX7_put 0 = .ok (.aload_n 0, 1) := by decide +kernel
theorem dX7_put_1 : decode cX7_put 1 = .ok (.iconst 0, 1) := by decide +kernel
theorem dX7_put_2 : decode cX7_put 2 = .ok (.putfield 60, 3) := by decide +kernel
theorem dX7_put_5 : decode cX7_put 5 = .ok (.aload_n 0, 1) := by decide +kernel
theorem dX7_put_6 : decode cX7_put 6 = .ok (.getfield 35, 3) := by decide +kernel
theorem dX7_put_9 : decode cX7_put 9 = .ok (.iload_n 1, 1) := by decide +kernel
theorem dX7_put_10 : decode cX7_put 10 = .ok (.invokevirtual 63, 3) := by decide +kernel
theorem dX7_put_13 : decode cX7_put 13 = .ok (.ifCond .ne 5, 3) := by decide +kernel
theorem dX7_put_16 : decode cX7_put 16 = .ok (.iconst (-1), 1) := by decide +kernel
theorem dX7_put_17 : decode cX7_put 17 = .ok (.ireturn, 1) := by decide +kernel
theorem dX7_put_18 : decode cX7_put 18 = .ok (.aload_n 0, 1) := by decide +kernel
theorem dX7_put_19 : decode cX7_put 19 = .ok (.getfield 35, 3) := by decide +kernel
theorem dX7_put_22 : decode cX7_put 22 = .ok (.iload_n 1, 1) := by decide +kernel
theorem dX7_put_23 : decode cX7_put 23 = .ok (.invokevirtual 238, 3) := by decide +kernel
theorem dX7_put_26 : decode cX7_put 26 = .ok (.ifCond .ne 9, 3) := by decide +kernel
theorem dX7_put_29 : decode cX7_put 29 = .ok (.aload_n 0, 1) := by decide +kernel
theorem dX7_put_30 : decode cX7_put 30 = .ok (.iconst 1, 1) := by decide +kernel
theorem dX7_put_31 : decode cX7_put 31 = .ok (.invokevirtual 74, 3) := by decide +kernel
theorem dX7_put_34 : decode cX7_put 34 = .ok (.ireturn, 1) := by decide +kernel
theorem dX7_put_35 : decode cX7_put 35 = .ok (.aload_n 0, 1) := by decide +kernel
theorem dX7_put_36 : decode cX7_put 36 = .ok (.getfield 35, 3) := by decide +kernel
theorem dX7_put_39 : decode cX7_put 39 = .ok (.iload_n 1, 1) := by decide +kernel
theorem dX7_put_40 : decode cX7_put 40 = .ok (.iload_n 2, 1) := by decide +kernel
theorem dX7_put_41 : decode cX7_put 41 = .ok (.iconst 1, 1) := by decide +kernel
theorem dX7_put_42 : decode cX7_put 42 = .ok (.invokevirtual 241, 3) := by decide +kernel
theorem dX7_put_45 : decode cX7_put 45 = .ok (.ifCond .ne 9, 3) := by decide +kernel
theorem dX7_put_48 : decode cX7_put 48 = .ok (.aload_n 0, 1) := by decide +kernel
theorem dX7_put_49 : decode cX7_put 49 = .ok (.iconst 3, 1) := by decide +kernel
theorem dX7_put_50 : decode cX7_put 50 = .ok (.invokevirtual 74, 3) := by decide +kernel
theorem dX7_put_53 : decode cX7_put 53 = .ok (.ireturn, 1) := by decide +kernel
theorem dX7_put_54 : decode cX7_put 54 = .ok (.aload_n 0, 1) := by decide +kernel
theorem dX7_put_55 : decode cX7_put 55 = .ok (.getfield 35, 3) := by decide +kernel
theorem dX7_put_58 : decode cX7_put 58 = .ok (.iload_n 1, 1) := by decide +kernel
theorem dX7_put_59 : decode cX7_put 59 = .ok (.iload_n 2, 1) := by decide +kernel
theorem dX7_put_60 : decode cX7_put 60 = .ok (.iload_n 3, 1) := by decide +kernel
theorem dX7_put_61 : decode cX7_put 61 = .ok (.invokevirtual 244, 3) := by decide +kernel
theorem dX7_put_64 : decode cX7_put 64 = .ok (.iconst 1, 1) := by decide +kernel
theorem dX7_put_65 : decode cX7_put 65 = .ok (.ireturn, 1) := by decide +kernel
theorem dX7_faulty_0 : decode cX7_faulty 0 = .ok (.aload_n 0, 1) := by decide +kernel
theorem dX7_faulty_1 : decode cX7_faulty 1 = .ok (.iload_n 1, 1) := by decide +kernel
theorem dX7_faulty_2 : decode cX7_faulty 2 = .ok (.putfield 60, 3) := by decide +kernel
theorem dX7_faulty_5 : decode cX7_faulty 5 = .ok (.bipush (-10), 2) := by decide +kernel
theorem dX7_faulty_7 : decode cX7_faulty 7 = .ok (.iload_n 1, 1) := by decide +kernel
theorem dX7_faulty_8 : decode cX7_faulty 8 = .ok (.isub, 1) := by decide +kernel
theorem dX7_faulty_9 : decode cX7_faulty 9 = .ok (.ireturn, 1) := by decide +kernel
theorem dX7_isSort_0 : decode cX7_isSort 0 = .ok (.iload_n 0, 1) := by decide +kernel
theorem dX7_isSort_1 : decode cX7_isSort 1 = .ok (.ifCond .lt 12, 3) := by decide +kernel
theorem dX7_isSort_4 : decode cX7_isSort 4 = .ok (.iload_n 0, 1) := by decide +kernel
theorem dX7_isSort_5 : decode cX7_isSort 5 = .ok (.iconst 2, 1) := by decide +kernel
theorem dX7_isSort_6 : decode cX7_isSort 6 = .ok (.if_icmp .gt 7, 3) := by decide +kernel
theorem dX7_isSort_9 : decode cX7_isSort 9 = .ok (.iconst 1, 1) := by decide +kernel
theorem dX7_isSort_10 : decode cX7_isSort 10 = .ok (.goto 4, 3) := by decide +kernel
theorem dX7_isSort_13 : decode cX7_isSort 13 = .ok (.iconst 0, 1) := by decide +kernel
theorem dX7_isSort_14 : decode cX7_isSort 14 = .ok (.ireturn, 1) := by decide +kernel
theorem dX7_isKind_0 : decode cX7_isKind 0 = .ok (.iload_n 0, 1) := by decide +kernel
theorem dX7_isKind_1 : decode cX7_isKind 1 = .ok (.ifCond .lt 12, 3) := by decide +kernel
theorem dX7_isKind_4 : decode cX7_isKind 4 = .ok (.iload_n 0, 1) := by decide +kernel
theorem dX7_isKind_5 : decode cX7_isKind 5 = .ok (.iconst 2, 1) := by decide +kernel
theorem dX7_isKind_6 : decode cX7_isKind 6 = .ok (.if_icmp .gt 7, 3) := by decide +kernel
theorem dX7_isKind_9 : decode cX7_isKind 9 = .ok (.iconst 1, 1) := by decide +kernel
theorem dX7_isKind_10 : decode cX7_isKind 10 = .ok (.goto 4, 3) := by decide +kernel
theorem dX7_isKind_13 : decode cX7_isKind 13 = .ok (.iconst 0, 1) := by decide +kernel
theorem dX7_isKind_14 : decode cX7_isKind 14 = .ok (.ireturn, 1) := by decide +kernel
theorem dX7_isFirstOrSecond_0 : decode cX7_isFirstOrSecond 0 = .ok (.iload_n 0, 1) := by decide +kernel
theorem dX7_isFirstOrSecond_1 : decode cX7_isFirstOrSecond 1 = .ok (.ifCond .eq 8, 3) := by decide +kernel
theorem dX7_isFirstOrSecond_4 : decode cX7_isFirstOrSecond 4 = .ok (.iload_n 0, 1) := by decide +kernel
theorem dX7_isFirstOrSecond_5 : decode cX7_isFirstOrSecond 5 = .ok (.iconst 1, 1) := by decide +kernel
theorem dX7_isFirstOrSecond_6 : decode cX7_isFirstOrSecond 6 = .ok (.if_icmp .ne 7, 3) := by decide +kernel
theorem dX7_isFirstOrSecond_9 : decode cX7_isFirstOrSecond 9 = .ok (.iconst 1, 1) := by decide +kernel
theorem dX7_isFirstOrSecond_10 : decode cX7_isFirstOrSecond 10 = .ok (.goto 4, 3) := by decide +kernel
theorem dX7_isFirstOrSecond_13 : decode cX7_isFirstOrSecond 13 = .ok (.iconst 0, 1) := by decide +kernel
theorem dX7_isFirstOrSecond_14 : decode cX7_isFirstOrSecond 14 = .ok (.ireturn, 1) := by decide +kernel
theorem dX7_isIn_0 : decode cX7_isIn 0 = .ok (.iload_n 0, 1) := by decide +kernel
theorem dX7_isIn_1 : decode cX7_isIn 1 = .ok (.iload_n 1, 1) := by decide +kernel
theorem dX7_isIn_2 : decode cX7_isIn 2 = .ok (.ishr, 1) := by decide +kernel
theorem dX7_isIn_3 : decode cX7_isIn 3 = .ok (.iconst 1, 1) := by decide +kernel
theorem dX7_isIn_4 : decode cX7_isIn 4 = .ok (.iand, 1) := by decide +kernel
theorem dX7_isIn_5 : decode cX7_isIn 5 = .ok (.iconst 1, 1) := by decide +kernel
theorem dX7_isIn_6 : decode cX7_isIn 6 = .ok (.if_icmp .ne 7, 3) := by decide +kernel
theorem dX7_isIn_9 : decode cX7_isIn 9 = .ok (.iconst 1, 1) := by decide +kernel
theorem dX7_isIn_10 : decode cX7_isIn 10 = .ok (.goto 4, 3) := by decide +kernel
theorem dX7_isIn_13 : decode cX7_isIn 13 = .ok (.iconst 0, 1) := by decide +kernel
theorem dX7_isIn_14 : decode cX7_isIn 14 = .ok (.ireturn, 1) := by decide +kernel
theorem dJ6_bitCount_0f7a4_0 : decode cJ6_bitCount_0f7a4 0 = .ok (.iload_n 0, 1) := by decide +kernel
theorem dJ6_bitCount_0f7a4_1 : decode cJ6_bitCount_0f7a4 1 = .ok (.iload_n 0, 1) := by decide +kernel
theorem dJ6_bitCount_0f7a4_2 : decode cJ6_bitCount_0f7a4 2 = .ok (.iconst 1, 1) := by decide +kernel
theorem dJ6_bitCount_0f7a4_3 : decode cJ6_bitCount_0f7a4 3 = .ok (.iushr, 1) := by decide +kernel
theorem dJ6_bitCount_0f7a4_4 : decode cJ6_bitCount_0f7a4 4 = .ok (.ldc_w 265, 3) := by decide +kernel
theorem dJ6_bitCount_0f7a4_7 : decode cJ6_bitCount_0f7a4 7 = .ok (.iand, 1) := by decide +kernel
theorem dJ6_bitCount_0f7a4_8 : decode cJ6_bitCount_0f7a4 8 = .ok (.isub, 1) := by decide +kernel
theorem dJ6_bitCount_0f7a4_9 : decode cJ6_bitCount_0f7a4 9 = .ok (.istore_n 0, 1) := by decide +kernel
theorem dJ6_bitCount_0f7a4_10 : decode cJ6_bitCount_0f7a4 10 = .ok (.iload_n 0, 1) := by decide +kernel
theorem dJ6_bitCount_0f7a4_11 : decode cJ6_bitCount_0f7a4 11 = .ok (.ldc_w 266, 3) := by decide +kernel
theorem dJ6_bitCount_0f7a4_14 : decode cJ6_bitCount_0f7a4 14 = .ok (.iand, 1) := by decide +kernel
theorem dJ6_bitCount_0f7a4_15 : decode cJ6_bitCount_0f7a4 15 = .ok (.iload_n 0, 1) := by decide +kernel
theorem dJ6_bitCount_0f7a4_16 : decode cJ6_bitCount_0f7a4 16 = .ok (.iconst 2, 1) := by decide +kernel
theorem dJ6_bitCount_0f7a4_17 : decode cJ6_bitCount_0f7a4 17 = .ok (.iushr, 1) := by decide +kernel
theorem dJ6_bitCount_0f7a4_18 : decode cJ6_bitCount_0f7a4 18 = .ok (.ldc_w 266, 3) := by decide +kernel
theorem dJ6_bitCount_0f7a4_21 : decode cJ6_bitCount_0f7a4 21 = .ok (.iand, 1) := by decide +kernel
theorem dJ6_bitCount_0f7a4_22 : decode cJ6_bitCount_0f7a4 22 = .ok (.iadd, 1) := by decide +kernel
theorem dJ6_bitCount_0f7a4_23 : decode cJ6_bitCount_0f7a4 23 = .ok (.istore_n 0, 1) := by decide +kernel
theorem dJ6_bitCount_0f7a4_24 : decode cJ6_bitCount_0f7a4 24 = .ok (.iload_n 0, 1) := by decide +kernel
theorem dJ6_bitCount_0f7a4_25 : decode cJ6_bitCount_0f7a4 25 = .ok (.iload_n 0, 1) := by decide +kernel
theorem dJ6_bitCount_0f7a4_26 : decode cJ6_bitCount_0f7a4 26 = .ok (.iconst 4, 1) := by decide +kernel
theorem dJ6_bitCount_0f7a4_27 : decode cJ6_bitCount_0f7a4 27 = .ok (.iushr, 1) := by decide +kernel
theorem dJ6_bitCount_0f7a4_28 : decode cJ6_bitCount_0f7a4 28 = .ok (.iadd, 1) := by decide +kernel
theorem dJ6_bitCount_0f7a4_29 : decode cJ6_bitCount_0f7a4 29 = .ok (.ldc_w 267, 3) := by decide +kernel
theorem dJ6_bitCount_0f7a4_32 : decode cJ6_bitCount_0f7a4 32 = .ok (.iand, 1) := by decide +kernel
theorem dJ6_bitCount_0f7a4_33 : decode cJ6_bitCount_0f7a4 33 = .ok (.istore_n 0, 1) := by decide +kernel
theorem dJ6_bitCount_0f7a4_34 : decode cJ6_bitCount_0f7a4 34 = .ok (.iload_n 0, 1) := by decide +kernel
theorem dJ6_bitCount_0f7a4_35 : decode cJ6_bitCount_0f7a4 35 = .ok (.iload_n 0, 1) := by decide +kernel
theorem dJ6_bitCount_0f7a4_36 : decode cJ6_bitCount_0f7a4 36 = .ok (.bipush 8, 2) := by decide +kernel
theorem dJ6_bitCount_0f7a4_38 : decode cJ6_bitCount_0f7a4 38 = .ok (.iushr, 1) := by decide +kernel
theorem dJ6_bitCount_0f7a4_39 : decode cJ6_bitCount_0f7a4 39 = .ok (.iadd, 1) := by decide +kernel
theorem dJ6_bitCount_0f7a4_40 : decode cJ6_bitCount_0f7a4 40 = .ok (.istore_n 0, 1) := by decide +kernel
theorem dJ6_bitCount_0f7a4_41 : decode cJ6_bitCount_0f7a4 41 = .ok (.iload_n 0, 1) := by decide +kernel
theorem dJ6_bitCount_0f7a4_42 : decode cJ6_bitCount_0f7a4 42 = .ok (.iload_n 0, 1) := by decide +kernel
theorem dJ6_bitCount_0f7a4_43 : decode cJ6_bitCount_0f7a4 43 = .ok (.bipush 16, 2) := by decide +kernel
theorem dJ6_bitCount_0f7a4_45 : decode cJ6_bitCount_0f7a4 45 = .ok (.iushr, 1) := by decide +kernel
theorem dJ6_bitCount_0f7a4_46 : decode cJ6_bitCount_0f7a4 46 = .ok (.iadd, 1) := by decide +kernel
theorem dJ6_bitCount_0f7a4_47 : decode cJ6_bitCount_0f7a4 47 = .ok (.istore_n 0, 1) := by decide +kernel
theorem dJ6_bitCount_0f7a4_48 : decode cJ6_bitCount_0f7a4 48 = .ok (.iload_n 0, 1) := by decide +kernel
theorem dJ6_bitCount_0f7a4_49 : decode cJ6_bitCount_0f7a4 49 = .ok (.bipush 63, 2) := by decide +kernel
theorem dJ6_bitCount_0f7a4_51 : decode cJ6_bitCount_0f7a4 51 = .ok (.iand, 1) := by decide +kernel
theorem dJ6_bitCount_0f7a4_52 : decode cJ6_bitCount_0f7a4 52 = .ok (.ireturn, 1) := by decide +kernel
theorem dJ9_max_7cf53_0 : decode cJ9_max_7cf53 0 = .ok (.iload_n 0, 1) := by decide +kernel
theorem dJ9_max_7cf53_1 : decode cJ9_max_7cf53 1 = .ok (.iload_n 1, 1) := by decide +kernel
theorem dJ9_max_7cf53_2 : decode cJ9_max_7cf53 2 = .ok (.if_icmp .lt 7, 3) := by decide +kernel
theorem dJ9_max_7cf53_5 : decode cJ9_max_7cf53 5 = .ok (.iload_n 0, 1) := by decide +kernel
theorem dJ9_max_7cf53_6 : decode cJ9_max_7cf53 6 = .ok (.goto 4, 3) := by decide +kernel
theorem dJ9_max_7cf53_9 : decode cJ9_max_7cf53 9 = .ok (.iload_n 1, 1) := by decide +kernel
theorem dJ9_max_7cf53_10 : decode cJ9_max_7cf53 10 = .ok (.ireturn, 1) := by decide +kernel
theorem dJ9_min_7cf53_0 : decode cJ9_min_7cf53 0 = .ok (.iload_n 0, 1) := by decide +kernel
theorem dJ9_min_7cf53_1 : decode cJ9_min_7cf53 1 = .ok (.iload_n 1, 1) := by decide +kernel
theorem dJ9_min_7cf53_2 : decode cJ9_min_7cf53 2 = .ok (.if_icmp .gt 7, 3) := by decide +kernel
theorem dJ9_min_7cf53_5 : decode cJ9_min_7cf53 5 = .ok (.iload_n 0, 1) := by decide +kernel
theorem dJ9_min_7cf53_6 : decode cJ9_min_7cf53 6 = .ok (.goto 4, 3) := by decide +kernel
theorem dJ9_min_7cf53_9 : decode cJ9_min_7cf53 9 = .ok (.iload_n 1, 1) := by decide +kernel
theorem dJ9_min_7cf53_10 : decode cJ9_min_7cf53 10 = .ok (.ireturn, 1) := by decide +kernel
theorem dL_cell_0 : decode cL_cell 0 = .ok (.iload_n 1, 1) := by decide +kernel
theorem dL_cell_1 : decode cL_cell 1 = .ok (.aload_n 0, 1) := by decide +kernel
theorem dL_cell_2 : decode cL_cell 2 = .ok (.arraylength, 1) := by decide +kernel
theorem dL_cell_3 : decode cL_cell 3 = .ok (.if_icmp .ge 9, 3) := by decide +kernel
theorem dL_cell_6 : decode cL_cell 6 = .ok (.aload_n 0, 1) := by decide +kernel
theorem dL_cell_7 : decode cL_cell 7 = .ok (.iload_n 1, 1) := by decide +kernel
theorem dL_cell_8 : decode cL_cell 8 = .ok (.iaload, 1) := by decide +kernel
theorem dL_cell_9 : decode cL_cell 9 = .ok (.goto 9, 3) := by decide +kernel
theorem dL_cell_12 : decode cL_cell 12 = .ok (.ldc 7, 2) := by decide +kernel
theorem dL_cell_14 : decode cL_cell 14 = .ok (.iload_n 1, 1) := by decide +kernel
theorem dL_cell_15 : decode cL_cell 15 = .ok (.iconst 1, 1) := by decide +kernel
theorem dL_cell_16 : decode cL_cell 16 = .ok (.iadd, 1) := by decide +kernel
theorem dL_cell_17 : decode cL_cell 17 = .ok (.imul, 1) := by decide +kernel
theorem dL_cell_18 : decode cL_cell 18 = .ok (.ireturn, 1) := by decide +kernel
theorem dL_some_0 : decode cL_some 0 = .ok (.iload_n 0, 1) := by decide +kernel
theorem dL_some_1 : decode cL_some 1 = .ok (.ldc 8, 2) := by decide +kernel
theorem dL_some_3 : decode cL_some 3 = .ok (.iand, 1) := by decide +kernel
theorem dL_some_4 : decode cL_some 4 = .ok (.iload_n 1, 1) := by decide +kernel
theorem dL_some_5 : decode cL_some 5 = .ok (.irem, 1) := by decide +kernel
theorem dL_some_6 : decode cL_some 6 = .ok (.ireturn, 1) := by decide +kernel
theorem dL_put_0 : decode cL_put 0 = .ok (.aload_n 1, 1) := by decide +kernel
theorem dL_put_1 : decode cL_put 1 = .ok (.iload_n 2, 1) := by decide +kernel
theorem dL_put_2 : decode cL_put 2 = .ok (.invokestatic 9, 3) := by decide +kernel
theorem dL_put_5 : decode cL_put 5 = .ok (.istore 5, 2) := by decide +kernel
theorem dL_put_7 : decode cL_put 7 = .ok (.aload 4, 2) := by decide +kernel
theorem dL_put_9 : decode cL_put 9 = .ok (.iconst 0, 1) := by decide +kernel
theorem dL_put_10 : decode cL_put 10 = .ok (.iconst 2, 1) := by decide +kernel
theorem dL_put_11 : decode cL_put 11 = .ok (.iload 5, 2) := by decide +kernel
theorem dL_put_13 : decode cL_put 13 = .ok (.iload_n 3, 1) := by decide +kernel
theorem dL_put_14 : decode cL_put 14 = .ok (.iconst 1, 1) := by decide +kernel
theorem dL_put_15 : decode cL_put 15 = .ok (.isub, 1) := by decide +kernel
theorem dL_put_16 : decode cL_put 16 = .ok (.invokestatic 15, 3) := by decide +kernel
theorem dL_put_19 : decode cL_put 19 = .ok (.iadd, 1) := by decide +kernel
theorem dL_put_20 : decode cL_put 20 = .ok (.iastore, 1) := by decide +kernel
theorem dL_put_21 : decode cL_put 21 = .ok (.aload 4, 2) := by decide +kernel
theorem dL_put_23 : decode cL_put 23 = .ok (.bipush 9, 2) := by decide +kernel
theorem dL_put_25 : decode cL_put 25 = .ok (.iconst 0, 1) := by decide +kernel
theorem dL_put_26 : decode cL_put 26 = .ok (.iastore, 1) := by decide +kernel
theorem dL_put_27 : decode cL_put 27 = .ok (.aload_n 0, 1) := by decide +kernel
theorem dL_put_28 : decode cL_put 28 = .ok (.iconst 0, 1) := by decide +kernel
theorem dL_put_29 : decode cL_put 29 = .ok (.iconst 0, 1) := by decide +kernel
theorem dL_put_30 : decode cL_put 30 = .ok (.bipush 40, 2) := by decide +kernel
theorem dL_put_32 : decode cL_put 32 = .ok (.invokevirtual 19, 3) := by decide +kernel
theorem dL_put_35 : decode cL_put 35 = .ok (.iconst 1, 1) := by decide +kernel
theorem dL_put_36 : decode cL_put 36 = .ok (.if_icmp .eq 6, 3) := by decide +kernel
theorem dL_put_39 : decode cL_put 39 = .ok (.bipush (-99), 2) := by decide +kernel
theorem dL_put_41 : decode cL_put 41 = .ok (.ireturn, 1) := by decide +kernel
theorem dL_put_42 : decode cL_put 42 = .ok (.iconst 0, 1) := by decide +kernel
theorem dL_put_43 : decode cL_put 43 = .ok (.istore 6, 2) := by decide +kernel
theorem dL_put_45 : decode cL_put 45 = .ok (.iconst 1, 1) := by decide +kernel
theorem dL_put_46 : decode cL_put 46 = .ok (.iload 5, 2) := by decide +kernel
theorem dL_put_48 : decode cL_put 48 = .ok (.iconst 4, 1) := by decide +kernel
theorem dL_put_49 : decode cL_put 49 = .ok (.ishr, 1) := by decide +kernel
theorem dL_put_50 : decode cL_put 50 = .ok (.iload 5, 2) := by decide +kernel
theorem dL_put_52 : decode cL_put 52 = .ok (.iconst 3, 1) := by decide +kernel
theorem dL_put_53 : decode cL_put 53 = .ok (.ishr, 1) := by decide +kernel
theorem dL_put_54 : decode cL_put 54 = .ok (.iconst 2, 1) := by decide +kernel
theorem dL_put_55 : decode cL_put 55 = .ok (.invokestatic 15, 3) := by decide +kernel
theorem dL_put_58 : decode cL_put 58 = .ok (.ifCond .ne 9, 3) := by decide +kernel
theorem dL_put_61 : decode cL_put 61 = .ok (.sipush 900, 3) := by decide +kernel
theorem dL_put_64 : decode cL_put 64 = .ok (.goto 5, 3) := by decide +kernel
theorem dL_put_67 : decode cL_put 67 = .ok (.bipush 60, 2) := by decide +kernel
theorem dL_put_69 : decode cL_put 69 = .ok (.invokestatic 15, 3) := by decide +kernel
theorem dL_put_72 : decode cL_put 72 = .ok (.iadd, 1) := by decide +kernel
theorem dL_put_73 : decode cL_put 73 = .ok (.istore 7, 2) := by decide +kernel
theorem dL_put_75 : decode cL_put 75 = .ok (.iconst 0, 1) := by decide +kernel
theorem dL_put_76 : decode cL_put 76 = .ok (.istore 8, 2) := by decide +kernel
theorem dL_put_78 : decode cL_put 78 = .ok (.iload 8, 2) := by decide +kernel
theorem dL_put_80 : decode cL_put 80 = .ok (.aload 4, 2) := by decide +kernel
theorem dL_put_82 : decode cL_put 82 = .ok (.iconst 0, 1) := by decide +kernel
theorem dL_put_83 : decode cL_put 83 = .ok (.iaload, 1) := by decide +kernel
theorem dL_put_84 : decode cL_put 84 = .ok (.if_icmp .ge 188, 3) := by decide +kernel
theorem dL_put_87 : decode cL_put 87 = .ok (.aload_n 1, 1) := by decide +kernel
theorem dL_put_88 : decode cL_put 88 = .ok (.iload_n 2, 1) := by decide +kernel
theorem dL_put_89 : decode cL_put 89 = .ok (.iconst 1, 1) := by decide +kernel
theorem dL_put_90 : decode cL_put 90 = .ok (.iadd, 1) := by decide +kernel
theorem dL_put_91 : decode cL_put 91 = .ok (.iload 8, 2) := by decide +kernel
theorem dL_put_93 : decode cL_put 93 = .ok (.iconst 4, 1) := by decide +kernel
theorem dL_put_94 : decode cL_put 94 = .ok (.irem, 1) := by decide +kernel
theorem dL_put_95 : decode cL_put 95 = .ok (.iadd, 1) := by decide +kernel
theorem dL_put_96 : decode cL_put 96 = .ok (.invokestatic 9, 3) := by decide +kernel
theorem dL_put_99 : decode cL_put 99 = .ok (.iload 8, 2) := by decide +kernel
theorem dL_put_101 : decode cL_put 101 = .ok (.iconst 4, 1) := by decide +kernel
theorem dL_put_102 : decode cL_put 102 = .ok (.idiv, 1) := by decide +kernel
theorem dL_put_103 : decode cL_put 103 = .ok (.bipush 14, 2) := by decide +kernel
theorem dL_put_105 : decode cL_put 105 = .ok (.imul, 1) := by decide +kernel
theorem dL_put_106 : decode cL_put 106 = .ok (.ishr, 1) := by decide +kernel
theorem dL_put_107 : decode cL_put 107 = .ok (.istore 9, 2) := by decide +kernel
theorem dL_put_109 : decode cL_put 109 = .ok (.iload 9, 2) := by decide +kernel
theorem dL_put_111 : decode cL_put 111 = .ok (.iconst 5, 1) := by decide +kernel
theorem dL_put_112 : decode cL_put 112 = .ok (.invokestatic 15, 3) := by decide +kernel
theorem dL_put_115 : decode cL_put 115 = .ok (.ifCond .ne 18, 3) := by decide +kernel
theorem dL_put_118 : decode cL_put 118 = .ok (.iconst 1, 1) := by decide +kernel
theorem dL_put_119 : decode cL_put 119 = .ok (.iload 9, 2) := by decide +kernel
theorem dL_put_121 : decode cL_put 121 = .ok (.iconst 2, 1) := by decide +kernel
theorem dL_put_122 : decode cL_put 122 = .ok (.ishr, 1) := by decide +kernel
theorem dL_put_123 : decode cL_put 123 = .ok (.sipush 999, 3) := by decide +kernel
theorem dL_put_126 : decode cL_put 126 = .ok (.invokestatic 15, 3) := by decide +kernel
theorem dL_put_129 : decode cL_put 129 = .ok (.iadd, 1) := by decide +kernel
theorem dL_put_130 : decode cL_put 130 = .ok (.goto 32, 3) := by decide +kernel
theorem dL_put_133 : decode cL_put 133 = .ok (.iload 7, 2) := by decide +kernel
theorem dL_put_135 : decode cL_put 135 = .ok (.iload 9, 2) := by decide +kernel
theorem dL_put_137 : decode cL_put 137 = .ok (.iconst 2, 1) := by decide +kernel
theorem dL_put_138 : decode cL_put 138 = .ok (.ishr, 1) := by decide +kernel
theorem dL_put_139 : decode cL_put 139 = .ok (.iload 9, 2) := by decide +kernel
theorem dL_put_141 : decode cL_put 141 = .ok (.bipush 8, 2) := by decide +kernel
theorem dL_put_143 : decode cL_put 143 = .ok (.ishr, 1) := by decide +kernel
theorem dL_put_144 : decode cL_put 144 = .ok (.iconst 2, 1) := by decide +kernel
theorem dL_put_145 : decode cL_put 145 = .ok (.invokestatic 15, 3) := by decide +kernel
theorem dL_put_148 : decode cL_put 148 = .ok (.ifCond .ne 8, 3) := by decide +kernel
theorem dL_put_151 : decode cL_put 151 = .ok (.bipush 90, 2) := by decide +kernel
theorem dL_put_153 : decode cL_put 153 = .ok (.goto 5, 3) := by decide +kernel
theorem dL_put_156 : decode cL_put 156 = .ok (.bipush 20, 2) := by decide +kernel
theorem dL_put_158 : decode cL_put 158 = .ok (.invokestatic 15, 3) := by decide +kernel
theorem dL_put_161 : decode cL_put 161 = .ok (.iadd, 1) := by decide +kernel
theorem dL_put_162 : decode cL_put 162 = .ok (.istore 10, 2) := by decide +kernel
theorem dL_put_164 : decode cL_put 164 = .ok (.aload 4, 2) := by decide +kernel
theorem dL_put_166 : decode cL_put 166 = .ok (.iconst 1, 1) := by decide +kernel
theorem dL_put_167 : decode cL_put 167 = .ok (.iload 8, 2) := by decide +kernel
theorem dL_put_169 : decode cL_put 169 = .ok (.iadd, 1) := by decide +kernel
theorem dL_put_170 : decode cL_put 170 = .ok (.iload 10, 2) := by decide +kernel
theorem dL_put_172 : decode cL_put 172 = .ok (.iastore, 1) := by decide +kernel
theorem dL_put_173 : decode cL_put 173 = .ok (.iload 8, 2) := by decide +kernel
theorem dL_put_175 : decode cL_put 175 = .ok (.ifCond .le 19, 3) := by decide +kernel
theorem dL_put_178 : decode cL_put 178 = .ok (.aload_n 0, 1) := by decide +kernel
theorem dL_put_179 : decode cL_put 179 = .ok (.iconst 0, 1) := by decide +kernel
theorem dL_put_180 : decode cL_put 180 = .ok (.iload 6, 2) := by decide +kernel
theorem dL_put_182 : decode cL_put 182 = .ok (.iinc 6 1, 3) := by decide +kernel
theorem dL_put_185 : decode cL_put 185 = .ok (.bipush 59, 2) := by decide +kernel
theorem dL_put_187 : decode cL_put 187 = .ok (.invokevirtual 25, 3) := by decide +kernel
theorem dL_put_190 : decode cL_put 190 = .ok (.iconst 1, 1) := by decide +kernel
theorem dL_put_191 : decode cL_put 191 = .ok (.if_icmp .ne 72, 3) := by decide +kernel
theorem dL_put_194 : decode cL_put 194 = .ok (.aload_n 0, 1) := by decide +kernel
theorem dL_put_195 : decode cL_put 195 = .ok (.iconst 0, 1) := by decide +kernel
theorem dL_put_196 : decode cL_put 196 = .ok (.iload 6, 2) := by decide +kernel
theorem dL_put_198 : decode cL_put 198 = .ok (.iinc 6 1, 3) := by decide +kernel
theorem dL_put_201 : decode cL_put 201 = .ok (.bipush 48, 2) := by decide +kernel
theorem dL_put_203 : decode cL_put 203 = .ok (.iload 10, 2) := by decide +kernel
theorem dL_put_205 : decode cL_put 205 = .ok (.bipush 100, 2) := by decide +kernel
theorem dL_put_207 : decode cL_put 207 = .ok (.idiv, 1) := by decide +kernel
theorem dL_put_208 : decode cL_put 208 = .ok (.iadd, 1) := by decide +kernel
theorem dL_put_209 : decode cL_put 209 = .ok (.invokevirtual 25, 3) := by decide +kernel
theorem dL_put_212 : decode cL_put 212 = .ok (.iconst 1, 1) := by decide +kernel
theorem dL_put_213 : decode cL_put 213 = .ok (.if_icmp .ne 50, 3) := by decide +kernel
theorem dL_put_216 : decode cL_put 216 = .ok (.aload_n 0, 1) := by decide +kernel
theorem dL_put_217 : decode cL_put 217 = .ok (.iconst 0, 1) := by decide +kernel
theorem dL_put_218 : decode cL_put 218 = .ok (.iload 6, 2) := by decide +kernel
theorem dL_put_220 : decode cL_put 220 = .ok (.iinc 6 1, 3) := by decide +kernel
theorem dL_put_223 : decode cL_put 223 = .ok (.bipush 48, 2) := by decide +kernel
theorem dL_put_225 : decode cL_put 225 = .ok (.iload 10, 2) := by decide +kernel
theorem dL_put_227 : decode cL_put 227 = .ok (.bipush 10, 2) := by decide +kernel
theorem dL_put_229 : decode cL_put 229 = .ok (.idiv, 1) := by decide +kernel
theorem dL_put_230 : decode cL_put 230 = .ok (.bipush 10, 2) := by decide +kernel
theorem dL_put_232 : decode cL_put 232 = .ok (.irem, 1) := by decide +kernel
theorem dL_put_233 : decode cL_put 233 = .ok (.iadd, 1) := by decide +kernel
theorem dL_put_234 : decode cL_put 234 = .ok (.invokevirtual 25, 3) := by decide +kernel
theorem dL_put_237 : decode cL_put 237 = .ok (.iconst 1, 1) := by decide +kernel
theorem dL_put_238 : decode cL_put 238 = .ok (.if_icmp .ne 25, 3) := by decide +kernel
theorem dL_put_241 : decode cL_put 241 = .ok (.aload_n 0, 1) := by decide +kernel
theorem dL_put_242 : decode cL_put 242 = .ok (.iconst 0, 1) := by decide +kernel
theorem dL_put_243 : decode cL_put 243 = .ok (.iload 6, 2) := by decide +kernel
theorem dL_put_245 : decode cL_put 245 = .ok (.iinc 6 1, 3) := by decide +kernel
theorem dL_put_248 : decode cL_put 248 = .ok (.bipush 48, 2) := by decide +kernel
theorem dL_put_250 : decode cL_put 250 = .ok (.iload 10, 2) := by decide +kernel
theorem dL_put_252 : decode cL_put 252 = .ok (.bipush 10, 2) := by decide +kernel
theorem dL_put_254 : decode cL_put 254 = .ok (.irem, 1) := by decide +kernel
theorem dL_put_255 : decode cL_put 255 = .ok (.iadd, 1) := by decide +kernel
theorem dL_put_256 : decode cL_put 256 = .ok (.invokevirtual 25, 3) := by decide +kernel
theorem dL_put_259 : decode cL_put 259 = .ok (.iconst 1, 1) := by decide +kernel
theorem dL_put_260 : decode cL_put 260 = .ok (.if_icmp .eq 6, 3) := by decide +kernel
theorem dL_put_263 : decode cL_put 263 = .ok (.bipush (-99), 2) := by decide +kernel
theorem dL_put_265 : decode cL_put 265 = .ok (.ireturn, 1) := by decide +kernel
theorem dL_put_266 : decode cL_put 266 = .ok (.iinc 8 1, 3) := by decide +kernel
theorem dL_put_269 : decode cL_put 269 = .ok (.goto (-191), 3) := by decide +kernel
theorem dL_put_272 : decode cL_put 272 = .ok (.iload 6, 2) := by decide +kernel
theorem dL_put_274 : decode cL_put 274 = .ok (.ireturn, 1) := by decide +kernel
theorem dL_come_0 : decode cL_come 0 = .ok (.iconst 1, 1) := by decide +kernel
theorem dL_come_1 : decode cL_come 1 = .ok (.aload_n 1, 1) := by decide +kernel
theorem dL_come_2 : decode cL_come 2 = .ok (.iload_n 2, 1) := by decide +kernel
theorem dL_come_3 : decode cL_come 3 = .ok (.invokestatic 9, 3) := by decide +kernel
theorem dL_come_6 : decode cL_come 6 = .ok (.iload_n 3, 1) := by decide +kernel
theorem dL_come_7 : decode cL_come 7 = .ok (.invokestatic 15, 3) := by decide +kernel
theorem dL_come_10 : decode cL_come 10 = .ok (.iadd, 1) := by decide +kernel
theorem dL_come_11 : decode cL_come 11 = .ok (.istore 5, 2) := by decide +kernel
theorem dL_come_13 : decode cL_come 13 = .ok (.iconst 0, 1) := by decide +kernel
theorem dL_come_14 : decode cL_come 14 = .ok (.istore 6, 2) := by decide +kernel
theorem dL_come_16 : decode cL_come 16 = .ok (.iload 6, 2) := by decide +kernel
theorem dL_come_18 : decode cL_come 18 = .ok (.iload 5, 2) := by decide +kernel
theorem dL_come_20 : decode cL_come 20 = .ok (.if_icmp .ge 92, 3) := by decide +kernel
theorem dL_come_23 : decode cL_come 23 = .ok (.aload_n 1, 1) := by decide +kernel
theorem dL_come_24 : decode cL_come 24 = .ok (.iload_n 2, 1) := by decide +kernel
theorem dL_come_25 : decode cL_come 25 = .ok (.invokestatic 9, 3) := by decide +kernel
theorem dL_come_28 : decode cL_come 28 = .ok (.iconst 3, 1) := by decide +kernel
theorem dL_come_29 : decode cL_come 29 = .ok (.iconst 4, 1) := by decide +kernel
theorem dL_come_30 : decode cL_come 30 = .ok (.iload 6, 2) := by decide +kernel
theorem dL_come_32 : decode cL_come 32 = .ok (.imul, 1) := by decide +kernel
theorem dL_come_33 : decode cL_come 33 = .ok (.iadd, 1) := by decide +kernel
theorem dL_come_34 : decode cL_come 34 = .ok (.ishr, 1) := by decide +kernel
theorem dL_come_35 : decode cL_come 35 = .ok (.istore 7, 2) := by decide +kernel
theorem dL_come_37 : decode cL_come 37 = .ok (.aload 4, 2) := by decide +kernel
theorem dL_come_39 : decode cL_come 39 = .ok (.bipush 10, 2) := by decide +kernel
theorem dL_come_41 : decode cL_come 41 = .ok (.iload 6, 2) := by decide +kernel
theorem dL_come_43 : decode cL_come 43 = .ok (.iadd, 1) := by decide +kernel
theorem dL_come_44 : decode cL_come 44 = .ok (.iload 7, 2) := by decide +kernel
theorem dL_come_46 : decode cL_come 46 = .ok (.iconst 3, 1) := by decide +kernel
theorem dL_come_47 : decode cL_come 47 = .ok (.invokestatic 15, 3) := by decide +kernel
theorem dL_come_50 : decode cL_come 50 = .ok (.iastore, 1) := by decide +kernel
theorem dL_come_51 : decode cL_come 51 = .ok (.aload 4, 2) := by decide +kernel
theorem dL_come_53 : decode cL_come 53 = .ok (.bipush 16, 2) := by decide +kernel
theorem dL_come_55 : decode cL_come 55 = .ok (.iload 6, 2) := by decide +kernel
theorem dL_come_57 : decode cL_come 57 = .ok (.iadd, 1) := by decide +kernel
theorem dL_come_58 : decode cL_come 58 = .ok (.iconst 1, 1) := by decide +kernel
theorem dL_come_59 : decode cL_come 59 = .ok (.iload 7, 2) := by decide +kernel
theorem dL_come_61 : decode cL_come 61 = .ok (.iconst 1, 1) := by decide +kernel
theorem dL_come_62 : decode cL_come 62 = .ok (.ishr, 1) := by decide +kernel
theorem dL_come_63 : decode cL_come 63 = .ok (.bipush 20, 2) := by decide +kernel
theorem dL_come_65 : decode cL_come 65 = .ok (.invokestatic 15, 3) := by decide +kernel
theorem dL_come_68 : decode cL_come 68 = .ok (.iadd, 1) := by decide +kernel
theorem dL_come_69 : decode cL_come 69 = .ok (.iastore, 1) := by decide +kernel
theorem dL_come_70 : decode cL_come 70 = .ok (.aload_n 0, 1) := by decide +kernel
theorem dL_come_71 : decode cL_come 71 = .ok (.aload 4, 2) := by decide +kernel
theorem dL_come_73 : decode cL_come 73 = .ok (.bipush 10, 2) := by decide +kernel
theorem dL_come_75 : decode cL_come 75 = .ok (.iload 6, 2) := by decide +kernel
theorem dL_come_77 : decode cL_come 77 = .ok (.iadd, 1) := by decide +kernel
theorem dL_come_78 : decode cL_come 78 = .ok (.iaload, 1) := by decide +kernel
theorem dL_come_79 : decode cL_come 79 = .ok (.aload 4, 2) := by decide +kernel
theorem dL_come_81 : decode cL_come 81 = .ok (.bipush 16, 2) := by decide +kernel
theorem dL_come_83 : decode cL_come 83 = .ok (.iload 6, 2) := by decide +kernel
theorem dL_come_85 : decode cL_come 85 = .ok (.iadd, 1) := by decide +kernel
theorem dL_come_86 : decode cL_come 86 = .ok (.iaload, 1) := by decide +kernel
theorem dL_come_87 : decode cL_come 87 = .ok (.invokevirtual 28, 3) := by decide +kernel
theorem dL_come_90 : decode cL_come 90 = .ok (.iload 6, 2) := by decide +kernel
theorem dL_come_92 : decode cL_come 92 = .ok (.if_icmp .eq 5, 3) := by decide +kernel
theorem dL_come_95 : decode cL_come 95 = .ok (.iconst 0, 1) := by decide +kernel
theorem dL_come_96 : decode cL_come 96 = .ok (.ireturn, 1) := by decide +kernel
theorem dL_come_97 : decode cL_come 97 = .ok (.aload 4, 2) := by decide +kernel
theorem dL_come_99 : decode cL_come 99 = .ok (.bipush 9, 2) := by decide +kernel
theorem dL_come_101 : decode cL_come 101 = .ok (.dup2, 1) := by decide +kernel
theorem dL_come_102 : decode cL_come 102 = .ok (.iaload, 1) := by decide +kernel
theorem dL_come_103 : decode cL_come 103 = .ok (.iconst 1, 1) := by decide +kernel
theorem dL_come_104 : decode cL_come 104 = .ok (.iadd, 1) := by decide +kernel
theorem dL_come_105 : decode cL_come 105 = .ok (.iastore, 1) := by decide +kernel
theorem dL_come_106 : decode cL_come 106 = .ok (.iinc 6 1, 3) := by decide +kernel
theorem dL_come_109 : decode cL_come 109 = .ok (.goto (-93), 3) := by decide +kernel
theorem dL_come_112 : decode cL_come 112 = .ok (.iconst 1, 1) := by decide +kernel
theorem dL_come_113 : decode cL_come 113 = .ok (.ireturn, 1) := by decide +kernel
theorem dL_tells_0 : decode cL_tells 0 = .ok (.aload_n 0, 1) := by decide +kernel
theorem dL_tells_1 : decode cL_tells 1 = .ok (.bipush 10, 2) := by decide +kernel
theorem dL_tells_3 : decode cL_tells 3 = .ok (.iload_n 1, 1) := by decide +kernel
theorem dL_tells_4 : decode cL_tells 4 = .ok (.iadd, 1) := by decide +kernel
theorem dL_tells_5 : decode cL_tells 5 = .ok (.iaload, 1) := by decide +kernel
theorem dL_tells_6 : decode cL_tells 6 = .ok (.ifCond .ne 12, 3) := by decide +kernel
theorem dL_tells_9 : decode cL_tells 9 = .ok (.aload_n 0, 1) := by decide +kernel
theorem dL_tells_10 : decode cL_tells 10 = .ok (.bipush 16, 2) := by decide +kernel
theorem dL_tells_12 : decode cL_tells 12 = .ok (.iload_n 1, 1) := by decide +kernel
theorem dL_tells_13 : decode cL_tells 13 = .ok (.iadd, 1) := by decide +kernel
theorem dL_tells_14 : decode cL_tells 14 = .ok (.iaload, 1) := by decide +kernel
theorem dL_tells_15 : decode cL_tells 15 = .ok (.goto 11, 3) := by decide +kernel
theorem dL_tells_18 : decode cL_tells 18 = .ok (.iconst 2, 1) := by decide +kernel
theorem dL_tells_19 : decode cL_tells 19 = .ok (.aload_n 0, 1) := by decide +kernel
theorem dL_tells_20 : decode cL_tells 20 = .ok (.bipush 16, 2) := by decide +kernel
theorem dL_tells_22 : decode cL_tells 22 = .ok (.iload_n 1, 1) := by decide +kernel
theorem dL_tells_23 : decode cL_tells 23 = .ok (.iadd, 1) := by decide +kernel
theorem dL_tells_24 : decode cL_tells 24 = .ok (.iaload, 1) := by decide +kernel
theorem dL_tells_25 : decode cL_tells 25 = .ok (.imul, 1) := by decide +kernel
theorem dL_tells_26 : decode cL_tells 26 = .ok (.istore 4, 2) := by decide +kernel
theorem dL_tells_28 : decode cL_tells 28 = .ok (.iload_n 2, 1) := by decide +kernel
theorem dL_tells_29 : decode cL_tells 29 = .ok (.iload_n 3, 1) := by decide +kernel
theorem dL_tells_30 : decode cL_tells 30 = .ok (.if_icmp .le 46, 3) := by decide +kernel
theorem dL_tells_33 : decode cL_tells 33 = .ok (.aload_n 0, 1) := by decide +kernel
theorem dL_tells_34 : decode cL_tells 34 = .ok (.bipush 10, 2) := by decide +kernel
theorem dL_tells_36 : decode cL_tells 36 = .ok (.iload_n 1, 1) := by decide +kernel
theorem dL_tells_37 : decode cL_tells 37 = .ok (.iadd, 1) := by decide +kernel
theorem dL_tells_38 : decode cL_tells 38 = .ok (.iaload, 1) := by decide +kernel
theorem dL_tells_39 : decode cL_tells 39 = .ok (.iconst 2, 1) := by decide +kernel
theorem dL_tells_40 : decode cL_tells 40 = .ok (.if_icmp .ne 19, 3) := by decide +kernel
theorem dL_tells_43 : decode cL_tells 43 = .ok (.iload 4, 2) := by decide +kernel
theorem dL_tells_45 : decode cL_tells 45 = .ok (.iload_n 2, 1) := by decide +kernel
theorem dL_tells_46 : decode cL_tells 46 = .ok (.imul, 1) := by decide +kernel
theorem dL_tells_47 : decode cL_tells 47 = .ok (.iload_n 3, 1) := by decide +kernel
theorem dL_tells_48 : decode cL_tells 48 = .ok (.iload 4, 2) := by decide +kernel
theorem dL_tells_50 : decode cL_tells 50 = .ok (.iload_n 3, 1) := by decide +kernel
theorem dL_tells_51 : decode cL_tells 51 = .ok (.imul, 1) := by decide +kernel
theorem dL_tells_52 : decode cL_tells 52 = .ok (.iadd, 1) := by decide +kernel
theorem dL_tells_53 : decode cL_tells 53 = .ok (.if_icmp .lt 23, 3) := by decide +kernel
theorem dL_tells_56 : decode cL_tells 56 = .ok (.goto 16, 3) := by decide +kernel
theorem dL_tells_59 : decode cL_tells 59 = .ok (.iload 4, 2) := by decide +kernel
theorem dL_tells_61 : decode cL_tells 61 = .ok (.iload_n 2, 1) := by decide +kernel
theorem dL_tells_62 : decode cL_tells 62 = .ok (.imul, 1) := by decide +kernel
theorem dL_tells_63 : decode cL_tells 63 = .ok (.iload_n 3, 1) := by decide +kernel
theorem dL_tells_64 : decode cL_tells 64 = .ok (.iload 4, 2) := by decide +kernel
theorem dL_tells_66 : decode cL_tells 66 = .ok (.iload_n 3, 1) := by decide +kernel
theorem dL_tells_67 : decode cL_tells 67 = .ok (.imul, 1) := by decide +kernel
theorem dL_tells_68 : decode cL_tells 68 = .ok (.iadd, 1) := by decide +kernel
theorem dL_tells_69 : decode cL_tells 69 = .ok (.if_icmp .le 7, 3) := by decide +kernel
theorem dL_tells_72 : decode cL_tells 72 = .ok (.iconst 1, 1) := by decide +kernel
theorem dL_tells_73 : decode cL_tells 73 = .ok (.goto 4, 3) := by decide +kernel
theorem dL_tells_76 : decode cL_tells 76 = .ok (.iconst 0, 1) := by decide +kernel
theorem dL_tells_77 : decode cL_tells 77 = .ok (.ireturn, 1) := by decide +kernel
theorem dL_alike_0 : decode cL_alike 0 = .ok (.aload_n 0, 1) := by decide +kernel
theorem dL_alike_1 : decode cL_alike 1 = .ok (.iload_n 1, 1) := by decide +kernel
theorem dL_alike_2 : decode cL_alike 2 = .ok (.iload_n 2, 1) := by decide +kernel
theorem dL_alike_3 : decode cL_alike 3 = .ok (.iload_n 3, 1) := by decide +kernel
theorem dL_alike_4 : decode cL_alike 4 = .ok (.invokestatic 31, 3) := by decide +kernel
theorem dL_alike_7 : decode cL_alike 7 = .ok (.ifCond .ne 17, 3) := by decide +kernel
theorem dL_alike_10 : decode cL_alike 10 = .ok (.aload_n 0, 1) := by decide +kernel
theorem dL_alike_11 : decode cL_alike 11 = .ok (.iload_n 1, 1) := by decide +kernel
theorem dL_alike_12 : decode cL_alike 12 = .ok (.iload_n 3, 1) := by decide +kernel
theorem dL_alike_13 : decode cL_alike 13 = .ok (.iload_n 2, 1) := by decide +kernel
theorem dL_alike_14 : decode cL_alike 14 = .ok (.invokestatic 31, 3) := by decide +kernel
theorem dL_alike_17 : decode cL_alike 17 = .ok (.ifCond .ne 7, 3) := by decide +kernel
theorem dL_alike_20 : decode cL_alike 20 = .ok (.iconst 1, 1) := by decide +kernel
theorem dL_alike_21 : decode cL_alike 21 = .ok (.goto 4, 3) := by decide +kernel
theorem dL_alike_24 : decode cL_alike 24 = .ok (.iconst 0, 1) := by decide +kernel
theorem dL_alike_25 : decode cL_alike 25 = .ok (.ireturn, 1) := by decide +kernel
theorem dL_isAlike_0 : decode cL_isAlike 0 = .ok (.lload_n 0, 1) := by decide +kernel
theorem dL_isAlike_1 : decode cL_isAlike 1 = .ok (.lstore 8, 2) := by decide +kernel
theorem dL_isAlike_3 : decode cL_isAlike 3 = .ok (.lload_n 2, 1) := by decide +kernel
theorem dL_isAlike_4 : decode cL_isAlike 4 = .ok (.lstore 10, 2) := by decide +kernel
theorem dL_isAlike_6 : decode cL_isAlike 6 = .ok (.lload 10, 2) := by decide +kernel
theorem dL_isAlike_8 : decode cL_isAlike 8 = .ok (.lconst 0, 1) := by decide +kernel
theorem dL_isAlike_9 : decode cL_isAlike 9 = .ok (.lcmp, 1) := by decide +kernel
theorem dL_isAlike_10 : decode cL_isAlike 10 = .ok (.ifCond .eq 21, 3) := by decide +kernel
theorem dL_isAlike_13 : decode cL_isAlike 13 = .ok (.lload 8, 2) := by decide +kernel
theorem dL_isAlike_15 : decode cL_isAlike 15 = .ok (.lload 10, 2) := by decide +kernel
theorem dL_isAlike_17 : decode cL_isAlike 17 = .ok (.lrem, 1) := by decide +kernel
theorem dL_isAlike_18 : decode cL_isAlike 18 = .ok (.lstore 12, 2) := by decide +kernel
theorem dL_isAlike_20 : decode cL_isAlike 20 = .ok (.lload 10, 2) := by decide +kernel
theorem dL_isAlike_22 : decode cL_isAlike 22 = .ok (.lstore 8, 2) := by decide +kernel
theorem dL_isAlike_24 : decode cL_isAlike 24 = .ok (.lload 12, 2) := by decide +kernel
theorem dL_isAlike_26 : decode cL_isAlike 26 = .ok (.lstore 10, 2) := by decide +kernel
theorem dL_isAlike_28 : decode cL_isAlike 28 = .ok (.goto (-22), 3) := by decide +kernel
theorem dL_isAlike_31 : decode cL_isAlike 31 = .ok (.lload 8, 2) := by decide +kernel
theorem dL_isAlike_33 : decode cL_isAlike 33 = .ok (.lconst 0, 1) := by decide +kernel
theorem dL_isAlike_34 : decode cL_isAlike 34 = .ok (.lcmp, 1) := by decide +kernel
theorem dL_isAlike_35 : decode cL_isAlike 35 = .ok (.ifCond .le 27, 3) := by decide +kernel
theorem dL_isAlike_38 : decode cL_isAlike 38 = .ok (.lload 4, 2) := by decide +kernel
theorem dL_isAlike_40 : decode cL_isAlike 40 = .ok (.lload_n 0, 1) := by decide +kernel
theorem dL_isAlike_41 : decode cL_isAlike 41 = .ok (.lload 8, 2) := by decide +kernel
theorem dL_isAlike_43 : decode cL_isAlike 43 = .ok (.ldiv, 1) := by decide +kernel
theorem dL_isAlike_44 : decode cL_isAlike 44 = .ok (.lcmp, 1) := by decide +kernel
theorem dL_isAlike_45 : decode cL_isAlike 45 = .ok (.ifCond .ne 17, 3) := by decide +kernel
theorem dL_isAlike_48 : decode cL_isAlike 48 = .ok (.lload 6, 2) := by decide +kernel
theorem dL_isAlike_50 : decode cL_isAlike 50 = .ok (.lload_n 2, 1) := by decide +kernel
theorem dL_isAlike_51 : decode cL_isAlike 51 = .ok (.lload 8, 2) := by decide +kernel
theorem dL_isAlike_53 : decode cL_isAlike 53 = .ok (.ldiv, 1) := by decide +kernel
theorem dL_isAlike_54 : decode cL_isAlike 54 = .ok (.lcmp, 1) := by decide +kernel
theorem dL_isAlike_55 : decode cL_isAlike 55 = .ok (.ifCond .ne 7, 3) := by decide +kernel
theorem dL_isAlike_58 : decode cL_isAlike 58 = .ok (.iconst 1, 1) := by decide +kernel
theorem dL_isAlike_59 : decode cL_isAlike 59 = .ok (.goto 4, 3) := by decide +kernel
theorem dL_isAlike_62 : decode cL_isAlike 62 = .ok (.iconst 0, 1) := by decide +kernel
theorem dL_isAlike_63 : decode cL_isAlike 63 = .ok (.ireturn, 1) := by decide +kernel
theorem dL_law_0 : decode cL_law 0 = .ok (.new 20, 3) := by decide +kernel
theorem dL_law_3 : decode cL_law 3 = .ok (.dup, 1) := by decide +kernel
theorem dL_law_4 : decode cL_law 4 = .ok (.invokespecial 35, 3) := by decide +kernel
theorem dL_law_7 : decode cL_law 7 = .ok (.astore_n 1, 1) := by decide +kernel
theorem dL_law_8 : decode cL_law 8 = .ok (.bipush 22, 2) := by decide +kernel
theorem dL_law_10 : decode cL_law 10 = .ok (.newarray .int, 2) := by decide +kernel
theorem dL_law_12 : decode cL_law 12 = .ok (.astore_n 2, 1) := by decide +kernel
theorem dL_law_13 : decode cL_law 13 = .ok (.aload_n 1, 1) := by decide +kernel
theorem dL_law_14 : decode cL_law 14 = .ok (.aload_n 0, 1) := by decide +kernel
theorem dL_law_15 : decode cL_law 15 = .ok (.iconst 0, 1) := by decide +kernel
theorem dL_law_16 : decode cL_law 16 = .ok (.bipush 6, 2) := by decide +kernel
theorem dL_law_18 : decode cL_law 18 = .ok (.aload_n 2, 1) := by decide +kernel
theorem dL_law_19 : decode cL_law 19 = .ok (.invokestatic 36, 3) := by decide +kernel
theorem dL_law_22 : decode cL_law 22 = .ok (.istore_n 3, 1) := by decide +kernel
theorem dL_law_23 : decode cL_law 23 = .ok (.iload_n 3, 1) := by decide +kernel
theorem dL_law_24 : decode cL_law 24 = .ok (.bipush 7, 2) := by decide +kernel
theorem dL_law_26 : decode cL_law 26 = .ok (.if_icmp .lt 28, 3) := by decide +kernel
theorem dL_law_29 : decode cL_law 29 = .ok (.aload_n 1, 1) := by decide +kernel
theorem dL_law_30 : decode cL_law 30 = .ok (.iconst 0, 1) := by decide +kernel
theorem dL_law_31 : decode cL_law 31 = .ok (.iconst 0, 1) := by decide +kernel
theorem dL_law_32 : decode cL_law 32 = .ok (.iconst 0, 1) := by decide +kernel
theorem dL_law_33 : decode cL_law 33 = .ok (.iload_n 3, 1) := by decide +kernel
theorem dL_law_34 : decode cL_law 34 = .ok (.invokevirtual 39, 3) := by decide +kernel
theorem dL_law_37 : decode cL_law 37 = .ok (.aload_n 2, 1) := by decide +kernel
theorem dL_law_38 : decode cL_law 38 = .ok (.iconst 0, 1) := by decide +kernel
theorem dL_law_39 : decode cL_law 39 = .ok (.iaload, 1) := by decide +kernel
theorem dL_law_40 : decode cL_law 40 = .ok (.if_icmp .ne 14, 3) := by decide +kernel
theorem dL_law_43 : decode cL_law 43 = .ok (.aload_n 1, 1) := by decide +kernel
theorem dL_law_44 : decode cL_law 44 = .ok (.aload_n 0, 1) := by decide +kernel
theorem dL_law_45 : decode cL_law 45 = .ok (.iconst 5, 1) := by decide +kernel
theorem dL_law_46 : decode cL_law 46 = .ok (.iconst 4, 1) := by decide +kernel
theorem dL_law_47 : decode cL_law 47 = .ok (.aload_n 2, 1) := by decide +kernel
theorem dL_law_48 : decode cL_law 48 = .ok (.invokestatic 43, 3) := by decide +kernel
theorem dL_law_51 : decode cL_law 51 = .ok (.ifCond .ne 5, 3) := by decide +kernel
theorem dL_law_54 : decode cL_law 54 = .ok (.iconst 0, 1) := by decide +kernel
theorem dL_law_55 : decode cL_law 55 = .ok (.ireturn, 1) := by decide +kernel
theorem dL_law_56 : decode cL_law 56 = .ok (.aload_n 2, 1) := by decide +kernel
theorem dL_law_57 : decode cL_law 57 = .ok (.iconst 0, 1) := by decide +kernel
theorem dL_law_58 : decode cL_law 58 = .ok (.iaload, 1) := by decide +kernel
theorem dL_law_59 : decode cL_law 59 = .ok (.istore 4, 2) := by decide +kernel
theorem dL_law_61 : decode cL_law 61 = .ok (.iconst 0, 1) := by decide +kernel
theorem dL_law_62 : decode cL_law 62 = .ok (.istore 5, 2) := by decide +kernel
theorem dL_law_64 : decode cL_law 64 = .ok (.iload 5, 2) := by decide +kernel
theorem dL_law_66 : decode cL_law 66 = .ok (.iconst 2, 1) := by decide +kernel
theorem dL_law_67 : decode cL_law 67 = .ok (.if_icmp .ge 1209, 3) := by decide +kernel
theorem dL_law_70 : decode cL_law 70 = .ok (.iload 5, 2) := by decide +kernel
theorem dL_law_72 : decode cL_law 72 = .ok (.iconst 1, 1) := by decide +kernel
theorem dL_law_73 : decode cL_law 73 = .ok (.if_icmp .ne 61, 3) := by decide +kernel
theorem dL_law_76 : decode cL_law 76 = .ok (.aload_n 0, 1) := by decide +kernel
theorem dL_law_77 : decode cL_law 77 = .ok (.bipush 6, 2) := by decide +kernel
theorem dL_law_79 : decode cL_law 79 = .ok (.invokestatic 9, 3) := by decide +kernel
theorem dL_law_82 : decode cL_law 82 = .ok (.iload 4, 2) := by decide +kernel
theorem dL_law_84 : decode cL_law 84 = .ok (.invokestatic 15, 3) := by decide +kernel
theorem dL_law_87 : decode cL_law 87 = .ok (.istore 6, 2) := by decide +kernel
theorem dL_law_89 : decode cL_law 89 = .ok (.iconst 1, 1) := by decide +kernel
theorem dL_law_90 : decode cL_law 90 = .ok (.aload_n 0, 1) := by decide +kernel
theorem dL_law_91 : decode cL_law 91 = .ok (.bipush 6, 2) := by decide +kernel
theorem dL_law_93 : decode cL_law 93 = .ok (.invokestatic 9, 3) := by decide +kernel
theorem dL_law_96 : decode cL_law 96 = .ok (.iconst 3, 1) := by decide +kernel
theorem dL_law_97 : decode cL_law 97 = .ok (.ishr, 1) := by decide +kernel
theorem dL_law_98 : decode cL_law 98 = .ok (.sipush 999, 3) := by decide +kernel
theorem dL_law_101 : decode cL_law 101 = .ok (.invokestatic 15, 3) := by decide +kernel
theorem dL_law_104 : decode cL_law 104 = .ok (.iadd, 1) := by decide +kernel
theorem dL_law_105 : decode cL_law 105 = .ok (.istore 7, 2) := by decide +kernel
theorem dL_law_107 : decode cL_law 107 = .ok (.aload_n 1, 1) := by decide +kernel
theorem dL_law_108 : decode cL_law 108 = .ok (.iload 6, 2) := by decide +kernel
theorem dL_law_110 : decode cL_law 110 = .ok (.iload 7, 2) := by decide +kernel
theorem dL_law_112 : decode cL_law 112 = .ok (.invokevirtual 47, 3) := by decide +kernel
theorem dL_law_115 : decode cL_law 115 = .ok (.aload_n 2, 1) := by decide +kernel
theorem dL_law_116 : decode cL_law 116 = .ok (.iconst 1, 1) := by decide +kernel
theorem dL_law_117 : decode cL_law 117 = .ok (.iload 6, 2) := by decide +kernel
theorem dL_law_119 : decode cL_law 119 = .ok (.iadd, 1) := by decide +kernel
theorem dL_law_120 : decode cL_law 120 = .ok (.iaload, 1) := by decide +kernel
theorem dL_law_121 : decode cL_law 121 = .ok (.if_icmp .eq 5, 3) := by decide +kernel
theorem dL_law_124 : decode cL_law 124 = .ok (.iconst 0, 1) := by decide +kernel
theorem dL_law_125 : decode cL_law 125 = .ok (.ireturn, 1) := by decide +kernel
theorem dL_law_126 : decode cL_law 126 = .ok (.aload_n 2, 1) := by decide +kernel
theorem dL_law_127 : decode cL_law 127 = .ok (.iconst 1, 1) := by decide +kernel
theorem dL_law_128 : decode cL_law 128 = .ok (.iload 6, 2) := by decide +kernel
theorem dL_law_130 : decode cL_law 130 = .ok (.iadd, 1) := by decide +kernel
theorem dL_law_131 : decode cL_law 131 = .ok (.iload 7, 2) := by decide +kernel
theorem dL_law_133 : decode cL_law 133 = .ok (.iastore, 1) := by decide +kernel
theorem dL_law_134 : decode cL_law 134 = .ok (.iconst 0, 1) := by decide +kernel
theorem dL_law_135 : decode cL_law 135 = .ok (.istore 6, 2) := by decide +kernel
theorem dL_law_137 : decode cL_law 137 = .ok (.iload 6, 2) := by decide +kernel
theorem dL_law_139 : decode cL_law 139 = .ok (.aload_n 2, 1) := by decide +kernel
theorem dL_law_140 : decode cL_law 140 = .ok (.bipush 9, 2) := by decide +kernel
theorem dL_law_142 : decode cL_law 142 = .ok (.iaload, 1) := by decide +kernel
theorem dL_law_143 : decode cL_law 143 = .ok (.if_icmp .ge 816, 3) := by decide +kernel
theorem dL_law_146 : decode cL_law 146 = .ok (.iconst 0, 1) := by decide +kernel
theorem dL_law_147 : decode cL_law 147 = .ok (.istore 7, 2) := by decide +kernel
theorem dL_law_149 : decode cL_law 149 = .ok (.iconst 0, 1) := by decide +kernel
theorem dL_law_150 : decode cL_law 150 = .ok (.istore 8, 2) := by decide +kernel
theorem dL_law_152 : decode cL_law 152 = .ok (.iload 8, 2) := by decide +kernel
theorem dL_law_154 : decode cL_law 154 = .ok (.iload 4, 2) := by decide +kernel
theorem dL_law_156 : decode cL_law 156 = .ok (.if_icmp .ge 172, 3) := by decide +kernel
theorem dL_law_159 : decode cL_law 159 = .ok (.iconst 0, 1) := by decide +kernel
theorem dL_law_160 : decode cL_law 160 = .ok (.istore 9, 2) := by decide +kernel
theorem dL_law_162 : decode cL_law 162 = .ok (.iconst 0, 1) := by decide +kernel
theorem dL_law_163 : decode cL_law 163 = .ok (.istore 10, 2) := by decide +kernel
theorem dL_law_165 : decode cL_law 165 = .ok (.iload 10, 2) := by decide +kernel
theorem dL_law_167 : decode cL_law 167 = .ok (.iload 4, 2) := by decide +kernel
theorem dL_law_169 : decode cL_law 169 = .ok (.if_icmp .ge 123, 3) := by decide +kernel
theorem dL_law_172 : decode cL_law 172 = .ok (.aload_n 1, 1) := by decide +kernel
theorem dL_law_173 : decode cL_law 173 = .ok (.iload 6, 2) := by decide +kernel
theorem dL_law_175 : decode cL_law 175 = .ok (.aload_n 2, 1) := by decide +kernel
theorem dL_law_176 : decode cL_law 176 = .ok (.iconst 1, 1) := by decide +kernel
theorem dL_law_177 : decode cL_law 177 = .ok (.iload 8, 2) := by decide +kernel
theorem dL_law_179 : decode cL_law 179 = .ok (.iadd, 1) := by decide +kernel
theorem dL_law_180 : decode cL_law 180 = .ok (.iaload, 1) := by decide +kernel
theorem dL_law_181 : decode cL_law 181 = .ok (.aload_n 2, 1) := by decide +kernel
theorem dL_law_182 : decode cL_law 182 = .ok (.iconst 1, 1) := by decide +kernel
theorem dL_law_183 : decode cL_law 183 = .ok (.iload 10, 2) := by decide +kernel
theorem dL_law_185 : decode cL_law 185 = .ok (.iadd, 1) := by decide +kernel
theorem dL_law_186 : decode cL_law 186 = .ok (.iaload, 1) := by decide +kernel
theorem dL_law_187 : decode cL_law 187 = .ok (.invokevirtual 50, 3) := by decide +kernel
theorem dL_law_190 : decode cL_law 190 = .ok (.aload_n 2, 1) := by decide +kernel
theorem dL_law_191 : decode cL_law 191 = .ok (.iload 6, 2) := by decide +kernel
theorem dL_law_193 : decode cL_law 193 = .ok (.aload_n 2, 1) := by decide +kernel
theorem dL_law_194 : decode cL_law 194 = .ok (.iconst 1, 1) := by decide +kernel
theorem dL_law_195 : decode cL_law 195 = .ok (.iload 8, 2) := by decide +kernel
theorem dL_law_197 : decode cL_law 197 = .ok (.iadd, 1) := by decide +kernel
theorem dL_law_198 : decode cL_law 198 = .ok (.iaload, 1) := by decide +kernel
theorem dL_law_199 : decode cL_law 199 = .ok (.aload_n 2, 1) := by decide +kernel
theorem dL_law_200 : decode cL_law 200 = .ok (.iconst 1, 1) := by decide +kernel
theorem dL_law_201 : decode cL_law 201 = .ok (.iload 10, 2) := by decide +kernel
theorem dL_law_203 : decode cL_law 203 = .ok (.iadd, 1) := by decide +kernel
theorem dL_law_204 : decode cL_law 204 = .ok (.iaload, 1) := by decide +kernel
theorem dL_law_205 : decode cL_law 205 = .ok (.invokestatic 31, 3) := by decide +kernel
theorem dL_law_208 : decode cL_law 208 = .ok (.ifCond .eq 7, 3) := by decide +kernel
theorem dL_law_211 : decode cL_law 211 = .ok (.iconst 1, 1) := by decide +kernel
theorem dL_law_212 : decode cL_law 212 = .ok (.goto 4, 3) := by decide +kernel
theorem dL_law_215 : decode cL_law 215 = .ok (.iconst 0, 1) := by decide +kernel
theorem dL_law_216 : decode cL_law 216 = .ok (.if_icmp .eq 5, 3) := by decide +kernel
theorem dL_law_219 : decode cL_law 219 = .ok (.iconst 0, 1) := by decide +kernel
theorem dL_law_220 : decode cL_law 220 = .ok (.ireturn, 1) := by decide +kernel
theorem dL_law_221 : decode cL_law 221 = .ok (.iload 9, 2) := by decide +kernel
theorem dL_law_223 : decode cL_law 223 = .ok (.aload_n 2, 1) := by decide +kernel
theorem dL_law_224 : decode cL_law 224 = .ok (.iload 6, 2) := by decide +kernel
theorem dL_law_226 : decode cL_law 226 = .ok (.aload_n 2, 1) := by decide +kernel
theorem dL_law_227 : decode cL_law 227 = .ok (.iconst 1, 1) := by decide +kernel
theorem dL_law_228 : decode cL_law 228 = .ok (.iload 8, 2) := by decide +kernel
theorem dL_law_230 : decode cL_law 230 = .ok (.iadd, 1) := by decide +kernel
theorem dL_law_231 : decode cL_law 231 = .ok (.iaload, 1) := by decide +kernel
theorem dL_law_232 : decode cL_law 232 = .ok (.aload_n 2, 1) := by decide +kernel
theorem dL_law_233 : decode cL_law 233 = .ok (.iconst 1, 1) := by decide +kernel
theorem dL_law_234 : decode cL_law 234 = .ok (.iload 10, 2) := by decide +kernel
theorem dL_law_236 : decode cL_law 236 = .ok (.iadd, 1) := by decide +kernel
theorem dL_law_237 : decode cL_law 237 = .ok (.iaload, 1) := by decide +kernel
theorem dL_law_238 : decode cL_law 238 = .ok (.invokestatic 52, 3) := by decide +kernel
theorem dL_law_241 : decode cL_law 241 = .ok (.ifCond .eq 10, 3) := by decide +kernel
theorem dL_law_244 : decode cL_law 244 = .ok (.iconst 1, 1) := by decide +kernel
theorem dL_law_245 : decode cL_law 245 = .ok (.iload 10, 2) := by decide +kernel
theorem dL_law_247 : decode cL_law 247 = .ok (.ishl, 1) := by decide +kernel
theorem dL_law_248 : decode cL_law 248 = .ok (.goto 4, 3) := by decide +kernel
theorem dL_law_251 : decode cL_law 251 = .ok (.iconst 0, 1) := by decide +kernel
theorem dL_law_252 : decode cL_law 252 = .ok (.ior, 1) := by decide +kernel
theorem dL_law_253 : decode cL_law 253 = .ok (.istore 9, 2) := by decide +kernel
theorem dL_law_255 : decode cL_law 255 = .ok (.iload 7, 2) := by decide +kernel
theorem dL_law_257 : decode cL_law 257 = .ok (.aload_n 2, 1) := by decide +kernel
theorem dL_law_258 : decode cL_law 258 = .ok (.iload 6, 2) := by decide +kernel
theorem dL_law_260 : decode cL_law 260 = .ok (.aload_n 2, 1) := by decide +kernel
theorem dL_law_261 : decode cL_law 261 = .ok (.iconst 1, 1) := by decide +kernel
theorem dL_law_262 : decode cL_law 262 = .ok (.iload 8, 2) := by decide +kernel
theorem dL_law_264 : decode cL_law 264 = .ok (.iadd, 1) := by decide +kernel
theorem dL_law_265 : decode cL_law 265 = .ok (.iaload, 1) := by decide +kernel
theorem dL_law_266 : decode cL_law 266 = .ok (.aload_n 2, 1) := by decide +kernel
theorem dL_law_267 : decode cL_law 267 = .ok (.iconst 1, 1) := by decide +kernel
theorem dL_law_268 : decode cL_law 268 = .ok (.iload 10, 2) := by decide +kernel
theorem dL_law_270 : decode cL_law 270 = .ok (.iadd, 1) := by decide +kernel
theorem dL_law_271 : decode cL_law 271 = .ok (.iaload, 1) := by decide +kernel
theorem dL_law_272 : decode cL_law 272 = .ok (.invokestatic 31, 3) := by decide +kernel
theorem dL_law_275 : decode cL_law 275 = .ok (.ifCond .eq 7, 3) := by decide +kernel
theorem dL_law_278 : decode cL_law 278 = .ok (.iconst 1, 1) := by decide +kernel
theorem dL_law_279 : decode cL_law 279 = .ok (.goto 4, 3) := by decide +kernel
theorem dL_law_282 : decode cL_law 282 = .ok (.iconst 0, 1) := by decide +kernel
theorem dL_law_283 : decode cL_law 283 = .ok (.iadd, 1) := by decide +kernel
theorem dL_law_284 : decode cL_law 284 = .ok (.istore 7, 2) := by decide +kernel
theorem dL_law_286 : decode cL_law 286 = .ok (.iinc 10 1, 3) := by decide +kernel
theorem dL_law_289 : decode cL_law 289 = .ok (.goto (-124), 3) := by decide +kernel
theorem dL_law_292 : decode cL_law 292 = .ok (.aload_n 1, 1) := by decide +kernel
theorem dL_law_293 : decode cL_law 293 = .ok (.iload 6, 2) := by decide +kernel
theorem dL_law_295 : decode cL_law 295 = .ok (.iload 8, 2) := by decide +kernel
theorem dL_law_297 : decode cL_law 297 = .ok (.invokevirtual 55, 3) := by decide +kernel
theorem dL_law_300 : decode cL_law 300 = .ok (.iload 9, 2) := by decide +kernel
theorem dL_law_302 : decode cL_law 302 = .ok (.if_icmp .ne 18, 3) := by decide +kernel
theorem dL_law_305 : decode cL_law 305 = .ok (.aload_n 1, 1) := by decide +kernel
theorem dL_law_306 : decode cL_law 306 = .ok (.iload 8, 2) := by decide +kernel
theorem dL_law_308 : decode cL_law 308 = .ok (.invokevirtual 57, 3) := by decide +kernel
theorem dL_law_311 : decode cL_law 311 = .ok (.aload_n 2, 1) := by decide +kernel
theorem dL_law_312 : decode cL_law 312 = .ok (.iconst 1, 1) := by decide +kernel
theorem dL_law_313 : decode cL_law 313 = .ok (.iload 8, 2) := by decide +kernel
theorem dL_law_315 : decode cL_law 315 = .ok (.iadd, 1) := by decide +kernel
theorem dL_law_316 : decode cL_law 316 = .ok (.iaload, 1) := by decide +kernel
theorem dL_law_317 : decode cL_law 317 = .ok (.if_icmp .eq 5, 3) := by decide +kernel
theorem dL_law_320 : decode cL_law 320 = .ok (.iconst 0, 1) := by decide +kernel
theorem dL_law_321 : decode cL_law 321 = .ok (.ireturn, 1) := by decide +kernel
theorem dL_law_322 : decode cL_law 322 = .ok (.iinc 8 1, 3) := by decide +kernel
theorem dL_law_325 : decode cL_law 325 = .ok (.goto (-173), 3) := by decide +kernel
theorem dL_law_328 : decode cL_law 328 = .ok (.iload 7, 2) := by decide +kernel
theorem dL_law_330 : decode cL_law 330 = .ok (.i2l, 1) := by decide +kernel
theorem dL_law_331 : decode cL_law 331 = .ok (.iload 4, 2) := by decide +kernel
theorem dL_law_333 : decode cL_law 333 = .ok (.iload 4, 2) := by decide +kernel
theorem dL_law_335 : decode cL_law 335 = .ok (.iconst 1, 1) := by decide +kernel
theorem dL_law_336 : decode cL_law 336 = .ok (.isub, 1) := by decide +kernel
theorem dL_law_337 : decode cL_law 337 = .ok (.imul, 1) := by decide +kernel
theorem dL_law_338 : decode cL_law 338 = .ok (.iconst 2, 1) := by decide +kernel
theorem dL_law_339 : decode cL_law 339 = .ok (.idiv, 1) := by decide +kernel
theorem dL_law_340 : decode cL_law 340 = .ok (.i2l, 1) := by decide +kernel
theorem dL_law_341 : decode cL_law 341 = .ok (.aload_n 1, 1) := by decide +kernel
theorem dL_law_342 : decode cL_law 342 = .ok (.iload 6, 2) := by decide +kernel
theorem dL_law_344 : decode cL_law 344 = .ok (.iconst 0, 1) := by decide +kernel
theorem dL_law_345 : decode cL_law 345 = .ok (.invokevirtual 61, 3) := by decide +kernel
theorem dL_law_348 : decode cL_law 348 = .ok (.aload_n 1, 1) := by decide +kernel
theorem dL_law_349 : decode cL_law 349 = .ok (.iload 6, 2) := by decide +kernel
theorem dL_law_351 : decode cL_law 351 = .ok (.iconst 1, 1) := by decide +kernel
theorem dL_law_352 : decode cL_law 352 = .ok (.invokevirtual 61, 3) := by decide +kernel
theorem dL_law_355 : decode cL_law 355 = .ok (.invokestatic 65, 3) := by decide +kernel
theorem dL_law_358 : decode cL_law 358 = .ok (.ifCond .ne 5, 3) := by decide +kernel
theorem dL_law_361 : decode cL_law 361 = .ok (.iconst 0, 1) := by decide +kernel
theorem dL_law_362 : decode cL_law 362 = .ok (.ireturn, 1) := by decide +kernel
theorem dL_law_363 : decode cL_law 363 = .ok (.iconst 0, 1) := by decide +kernel
theorem dL_law_364 : decode cL_law 364 = .ok (.istore 8, 2) := by decide +kernel
theorem dL_law_366 : decode cL_law 366 = .ok (.iload 8, 2) := by decide +kernel
theorem dL_law_368 : decode cL_law 368 = .ok (.aload_n 2, 1) := by decide +kernel
theorem dL_law_369 : decode cL_law 369 = .ok (.bipush 9, 2) := by decide +kernel
theorem dL_law_371 : decode cL_law 371 = .ok (.iaload, 1) := by decide +kernel
theorem dL_law_372 : decode cL_law 372 = .ok (.if_icmp .ge 157, 3) := by decide +kernel
theorem dL_law_375 : decode cL_law 375 = .ok (.iconst 1, 1) := by decide +kernel
theorem dL_law_376 : decode cL_law 376 = .ok (.istore 9, 2) := by decide +kernel
theorem dL_law_378 : decode cL_law 378 = .ok (.iconst 0, 1) := by decide +kernel
theorem dL_law_379 : decode cL_law 379 = .ok (.istore 10, 2) := by decide +kernel
theorem dL_law_381 : decode cL_law 381 = .ok (.iconst 0, 1) := by decide +kernel
theorem dL_law_382 : decode cL_law 382 = .ok (.istore 11, 2) := by decide +kernel
theorem dL_law_384 : decode cL_law 384 = .ok (.iload 11, 2) := by decide +kernel
theorem dL_law_386 : decode cL_law 386 = .ok (.iload 4, 2) := by decide +kernel
theorem dL_law_388 : decode cL_law 388 = .ok (.if_icmp .ge 107, 3) := by decide +kernel
theorem dL_law_391 : decode cL_law 391 = .ok (.iconst 0, 1) := by decide +kernel
theorem dL_law_392 : decode cL_law 392 = .ok (.istore 12, 2) := by decide +kernel
theorem dL_law_394 : decode cL_law 394 = .ok (.iload 12, 2) := by decide +kernel
theorem dL_law_396 : decode cL_law 396 = .ok (.iload 4, 2) := by decide +kernel
theorem dL_law_398 : decode cL_law 398 = .ok (.if_icmp .ge 91, 3) := by decide +kernel
theorem dL_law_401 : decode cL_law 401 = .ok (.aload_n 2, 1) := by decide +kernel
theorem dL_law_402 : decode cL_law 402 = .ok (.iload 6, 2) := by decide +kernel
theorem dL_law_404 : decode cL_law 404 = .ok (.aload_n 2, 1) := by decide +kernel
theorem dL_law_405 : decode cL_law 405 = .ok (.iconst 1, 1) := by decide +kernel
theorem dL_law_406 : decode cL_law 406 = .ok (.iload 11, 2) := by decide +kernel
theorem dL_law_408 : decode cL_law 408 = .ok (.iadd, 1) := by decide +kernel
theorem dL_law_409 : decode cL_law 409 = .ok (.iaload, 1) := by decide +kernel
theorem dL_law_410 : decode cL_law 410 = .ok (.aload_n 2, 1) := by decide +kernel
theorem dL_law_411 : decode cL_law 411 = .ok (.iconst 1, 1) := by decide +kernel
theorem dL_law_412 : decode cL_law 412 = .ok (.iload 12, 2) := by decide +kernel
theorem dL_law_414 : decode cL_law 414 = .ok (.iadd, 1) := by decide +kernel
theorem dL_law_415 : decode cL_law 415 = .ok (.iaload, 1) := by decide +kernel
theorem dL_law_416 : decode cL_law 416 = .ok (.invokestatic 31, 3) := by decide +kernel
theorem dL_law_419 : decode cL_law 419 = .ok (.istore 13, 2) := by decide +kernel
theorem dL_law_421 : decode cL_law 421 = .ok (.aload_n 2, 1) := by decide +kernel
theorem dL_law_422 : decode cL_law 422 = .ok (.iload 8, 2) := by decide +kernel
theorem dL_law_424 : decode cL_law 424 = .ok (.aload_n 2, 1) := by decide +kernel
theorem dL_law_425 : decode cL_law 425 = .ok (.iconst 1, 1) := by decide +kernel
theorem dL_law_426 : decode cL_law 426 = .ok (.iload 11, 2) := by decide +kernel
theorem dL_law_428 : decode cL_law 428 = .ok (.iadd, 1) := by decide +kernel
theorem dL_law_429 : decode cL_law 429 = .ok (.iaload, 1) := by decide +kernel
theorem dL_law_430 : decode cL_law 430 = .ok (.aload_n 2, 1) := by decide +kernel
theorem dL_law_431 : decode cL_law 431 = .ok (.iconst 1, 1) := by decide +kernel
theorem dL_law_432 : decode cL_law 432 = .ok (.iload 12, 2) := by decide +kernel
theorem dL_law_434 : decode cL_law 434 = .ok (.iadd, 1) := by decide +kernel
theorem dL_law_435 : decode cL_law 435 = .ok (.iaload, 1) := by decide +kernel
theorem dL_law_436 : decode cL_law 436 = .ok (.invokestatic 31, 3) := by decide +kernel
theorem dL_law_439 : decode cL_law 439 = .ok (.istore 14, 2) := by decide +kernel
theorem dL_law_441 : decode cL_law 441 = .ok (.iload 9, 2) := by decide +kernel
theorem dL_law_443 : decode cL_law 443 = .ok (.ifCond .eq 17, 3) := by decide +kernel
theorem dL_law_446 : decode cL_law 446 = .ok (.iload 13, 2) := by decide +kernel
theorem dL_law_448 : decode cL_law 448 = .ok (.ifCond .ne 8, 3) := by decide +kernel
theorem dL_law_451 : decode cL_law 451 = .ok (.iload 14, 2) := by decide +kernel
theorem dL_law_453 : decode cL_law 453 = .ok (.ifCond .ne 7, 3) := by decide +kernel
theorem dL_law_456 : decode cL_law 456 = .ok (.iconst 1, 1) := by decide +kernel
theorem dL_law_457 : decode cL_law 457 = .ok (.goto 4, 3) := by decide +kernel
theorem dL_law_460 : decode cL_law 460 = .ok (.iconst 0, 1) := by decide +kernel
theorem dL_law_461 : decode cL_law 461 = .ok (.istore 9, 2) := by decide +kernel
theorem dL_law_463 : decode cL_law 463 = .ok (.iload 10, 2) := by decide +kernel
theorem dL_law_465 : decode cL_law 465 = .ok (.iload 13, 2) := by decide +kernel
theorem dL_law_467 : decode cL_law 467 = .ok (.ifCond .eq 12, 3) := by decide +kernel
theorem dL_law_470 : decode cL_law 470 = .ok (.iload 14, 2) := by decide +kernel
theorem dL_law_472 : decode cL_law 472 = .ok (.ifCond .ne 7, 3) := by decide +kernel
theorem dL_law_475 : decode cL_law 475 = .ok (.iconst 1, 1) := by decide +kernel
theorem dL_law_476 : decode cL_law 476 = .ok (.goto 4, 3) := by decide +kernel
theorem dL_law_479 : decode cL_law 479 = .ok (.iconst 0, 1) := by decide +kernel
theorem dL_law_480 : decode cL_law 480 = .ok (.iadd, 1) := by decide +kernel
theorem dL_law_481 : decode cL_law 481 = .ok (.istore 10, 2) := by decide +kernel
theorem dL_law_483 : decode cL_law 483 = .ok (.iinc 12 1, 3) := by decide +kernel
theorem dL_law_486 : decode cL_law 486 = .ok (.goto (-92), 3) := by decide +kernel
theorem dL_law_489 : decode cL_law 489 = .ok (.iinc 11 1, 3) := by decide +kernel
theorem dL_law_492 : decode cL_law 492 = .ok (.goto (-108), 3) := by decide +kernel
theorem dL_law_495 : decode cL_law 495 = .ok (.aload_n 1, 1) := by decide +kernel
theorem dL_law_496 : decode cL_law 496 = .ok (.iload 6, 2) := by decide +kernel
theorem dL_law_498 : decode cL_law 498 = .ok (.iload 8, 2) := by decide +kernel
theorem dL_law_500 : decode cL_law 500 = .ok (.invokevirtual 69, 3) := by decide +kernel
theorem dL_law_503 : decode cL_law 503 = .ok (.iload 9, 2) := by decide +kernel
theorem dL_law_505 : decode cL_law 505 = .ok (.ifCond .eq 12, 3) := by decide +kernel
theorem dL_law_508 : decode cL_law 508 = .ok (.iload 10, 2) := by decide +kernel
theorem dL_law_510 : decode cL_law 510 = .ok (.ifCond .le 7, 3) := by decide +kernel
theorem dL_law_513 : decode cL_law 513 = .ok (.iconst 1, 1) := by decide +kernel
theorem dL_law_514 : decode cL_law 514 = .ok (.goto 4, 3) := by decide +kernel
theorem dL_law_517 : decode cL_law 517 = .ok (.iconst 0, 1) := by decide +kernel
theorem dL_law_518 : decode cL_law 518 = .ok (.if_icmp .eq 5, 3) := by decide +kernel
theorem dL_law_521 : decode cL_law 521 = .ok (.iconst 0, 1) := by decide +kernel
theorem dL_law_522 : decode cL_law 522 = .ok (.ireturn, 1) := by decide +kernel
theorem dL_law_523 : decode cL_law 523 = .ok (.iinc 8 1, 3) := by decide +kernel
theorem dL_law_526 : decode cL_law 526 = .ok (.goto (-160), 3) := by decide +kernel
theorem dL_law_529 : decode cL_law 529 = .ok (.iconst 0, 1) := by decide +kernel
theorem dL_law_530 : decode cL_law 530 = .ok (.istore 8, 2) := by decide +kernel
theorem dL_law_532 : decode cL_law 532 = .ok (.iload 8, 2) := by decide +kernel
theorem dL_law_534 : decode cL_law 534 = .ok (.iload 4, 2) := by decide +kernel
theorem dL_law_536 : decode cL_law 536 = .ok (.if_icmp .ge 417, 3) := by decide +kernel
theorem dL_law_539 : decode cL_law 539 = .ok (.iconst 1, 1) := by decide +kernel
theorem dL_law_540 : decode cL_law 540 = .ok (.iload 8, 2) := by decide +kernel
theorem dL_law_542 : decode cL_law 542 = .ok (.ishl, 1) := by decide +kernel
theorem dL_law_543 : decode cL_law 543 = .ok (.istore 9, 2) := by decide +kernel
theorem dL_law_545 : decode cL_law 545 = .ok (.bipush 6, 2) := by decide +kernel
theorem dL_law_547 : decode cL_law 547 = .ok (.newarray .int, 2) := by decide +kernel
theorem dL_law_549 : decode cL_law 549 = .ok (.astore 10, 2) := by decide +kernel
theorem dL_law_551 : decode cL_law 551 = .ok (.iconst 0, 1) := by decide +kernel
theorem dL_law_552 : decode cL_law 552 = .ok (.istore 11, 2) := by decide +kernel
theorem dL_law_554 : decode cL_law 554 = .ok (.iload 11, 2) := by decide +kernel
theorem dL_law_556 : decode cL_law 556 = .ok (.iload 4, 2) := by decide +kernel
theorem dL_law_558 : decode cL_law 558 = .ok (.if_icmp .ge 27, 3) := by decide +kernel
theorem dL_law_561 : decode cL_law 561 = .ok (.aload 10, 2) := by decide +kernel
theorem dL_law_563 : decode cL_law 563 = .ok (.iload 11, 2) := by decide +kernel
theorem dL_law_565 : decode cL_law 565 = .ok (.iload 11, 2) := by decide +kernel
theorem dL_law_567 : decode cL_law 567 = .ok (.iload 8, 2) := by decide +kernel
theorem dL_law_569 : decode cL_law 569 = .ok (.if_icmp .ne 7, 3) := by decide +kernel
theorem dL_law_572 : decode cL_law 572 = .ok (.iconst 0, 1) := by decide +kernel
theorem dL_law_573 : decode cL_law 573 = .ok (.goto 5, 3) := by decide +kernel
theorem dL_law_576 : decode cL_law 576 = .ok (.bipush (-9), 2) := by decide +kernel
theorem dL_law_578 : decode cL_law 578 = .ok (.iastore, 1) := by decide +kernel
theorem dL_law_579 : decode cL_law 579 = .ok (.iinc 11 1, 3) := by decide +kernel
theorem dL_law_582 : decode cL_law 582 = .ok (.goto (-28), 3) := by decide +kernel
theorem dL_law_585 : decode cL_law 585 = .ok (.iconst 0, 1) := by decide +kernel
theorem dL_law_586 : decode cL_law 586 = .ok (.istore 11, 2) := by decide +kernel
theorem dL_law_588 : decode cL_law 588 = .ok (.iload 11, 2) := by decide +kernel
theorem dL_law_590 : decode cL_law 590 = .ok (.bipush 7, 2) := by decide +kernel
theorem dL_law_592 : decode cL_law 592 = .ok (.if_icmp .ge 163, 3) := by decide +kernel
theorem dL_law_595 : decode cL_law 595 = .ok (.aload_n 1, 1) := by decide +kernel
theorem dL_law_596 : decode cL_law 596 = .ok (.iload 6, 2) := by decide +kernel
theorem dL_law_598 : decode cL_law 598 = .ok (.iload 8, 2) := by decide +kernel
theorem dL_law_600 : decode cL_law 600 = .ok (.iload 11, 2) := by decide +kernel
theorem dL_law_602 : decode cL_law 602 = .ok (.invokevirtual 72, 3) := by decide +kernel
theorem dL_law_605 : decode cL_law 605 = .ok (.iload 9, 2) := by decide +kernel
theorem dL_law_607 : decode cL_law 607 = .ok (.if_icmp .eq 5, 3) := by decide +kernel
theorem dL_law_610 : decode cL_law 610 = .ok (.iconst 0, 1) := by decide +kernel
theorem dL_law_611 : decode cL_law 611 = .ok (.ireturn, 1) := by decide +kernel
theorem dL_law_612 : decode cL_law 612 = .ok (.iload 9, 2) := by decide +kernel
theorem dL_law_614 : decode cL_law 614 = .ok (.istore 12, 2) := by decide +kernel
theorem dL_law_616 : decode cL_law 616 = .ok (.iconst 0, 1) := by decide +kernel
theorem dL_law_617 : decode cL_law 617 = .ok (.istore 13, 2) := by decide +kernel
theorem dL_law_619 : decode cL_law 619 = .ok (.iload 13, 2) := by decide +kernel
theorem dL_law_621 : decode cL_law 621 = .ok (.iload 4, 2) := by decide +kernel
theorem dL_law_623 : decode cL_law 623 = .ok (.if_icmp .ge 70, 3) := by decide +kernel
theorem dL_law_626 : decode cL_law 626 = .ok (.iload 9, 2) := by decide +kernel
theorem dL_law_628 : decode cL_law 628 = .ok (.iload 13, 2) := by decide +kernel
theorem dL_law_630 : decode cL_law 630 = .ok (.ishr, 1) := by decide +kernel
theorem dL_law_631 : decode cL_law 631 = .ok (.iconst 1, 1) := by decide +kernel
theorem dL_law_632 : decode cL_law 632 = .ok (.iand, 1) := by decide +kernel
theorem dL_law_633 : decode cL_law 633 = .ok (.iconst 1, 1) := by decide +kernel
theorem dL_law_634 : decode cL_law 634 = .ok (.if_icmp .ne 53, 3) := by decide +kernel
theorem dL_law_637 : decode cL_law 637 = .ok (.iconst 0, 1) := by decide +kernel
theorem dL_law_638 : decode cL_law 638 = .ok (.istore 14, 2) := by decide +kernel
theorem dL_law_640 : decode cL_law 640 = .ok (.iload 14, 2) := by decide +kernel
theorem dL_law_642 : decode cL_law 642 = .ok (.iload 4, 2) := by decide +kernel
theorem dL_law_644 : decode cL_law 644 = .ok (.if_icmp .ge 43, 3) := by decide +kernel
theorem dL_law_647 : decode cL_law 647 = .ok (.iload 12, 2) := by decide +kernel
theorem dL_law_649 : decode cL_law 649 = .ok (.aload_n 2, 1) := by decide +kernel
theorem dL_law_650 : decode cL_law 650 = .ok (.iload 6, 2) := by decide +kernel
theorem dL_law_652 : decode cL_law 652 = .ok (.aload_n 2, 1) := by decide +kernel
theorem dL_law_653 : decode cL_law 653 = .ok (.iconst 1, 1) := by decide +kernel
theorem dL_law_654 : decode cL_law 654 = .ok (.iload 13, 2) := by decide +kernel
theorem dL_law_656 : decode cL_law 656 = .ok (.iadd, 1) := by decide +kernel
theorem dL_law_657 : decode cL_law 657 = .ok (.iaload, 1) := by decide +kernel
theorem dL_law_658 : decode cL_law 658 = .ok (.aload_n 2, 1) := by decide +kernel
theorem dL_law_659 : decode cL_law 659 = .ok (.iconst 1, 1) := by decide +kernel
theorem dL_law_660 : decode cL_law 660 = .ok (.iload 14, 2) := by decide +kernel
theorem dL_law_662 : decode cL_law 662 = .ok (.iadd, 1) := by decide +kernel
theorem dL_law_663 : decode cL_law 663 = .ok (.iaload, 1) := by decide +kernel
theorem dL_law_664 : decode cL_law 664 = .ok (.invokestatic 52, 3) := by decide +kernel
theorem dL_law_667 : decode cL_law 667 = .ok (.ifCond .eq 10, 3) := by decide +kernel
theorem dL_law_670 : decode cL_law 670 = .ok (.iconst 1, 1) := by decide +kernel
theorem dL_law_671 : decode cL_law 671 = .ok (.iload 14, 2) := by decide +kernel
theorem dL_law_673 : decode cL_law 673 = .ok (.ishl, 1) := by decide +kernel
theorem dL_law_674 : decode cL_law 674 = .ok (.goto 4, 3) := by decide +kernel
theorem dL_law_677 : decode cL_law 677 = .ok (.iconst 0, 1) := by decide +kernel
theorem dL_law_678 : decode cL_law 678 = .ok (.ior, 1) := by decide +kernel
theorem dL_law_679 : decode cL_law 679 = .ok (.istore 12, 2) := by decide +kernel
theorem dL_law_681 : decode cL_law 681 = .ok (.iinc 14 1, 3) := by decide +kernel
theorem dL_law_684 : decode cL_law 684 = .ok (.goto (-44), 3) := by decide +kernel
theorem dL_law_687 : decode cL_law 687 = .ok (.iinc 13 1, 3) := by decide +kernel
theorem dL_law_690 : decode cL_law 690 = .ok (.goto (-71), 3) := by decide +kernel
theorem dL_law_693 : decode cL_law 693 = .ok (.iconst 0, 1) := by decide +kernel
theorem dL_law_694 : decode cL_law 694 = .ok (.istore 13, 2) := by decide +kernel
theorem dL_law_696 : decode cL_law 696 = .ok (.iload 13, 2) := by decide +kernel
theorem dL_law_698 : decode cL_law 698 = .ok (.iload 4, 2) := by decide +kernel
theorem dL_law_700 : decode cL_law 700 = .ok (.if_icmp .ge 45, 3) := by decide +kernel
theorem dL_law_703 : decode cL_law 703 = .ok (.aload 10, 2) := by decide +kernel
theorem dL_law_705 : decode cL_law 705 = .ok (.iload 13, 2) := by decide +kernel
theorem dL_law_707 : decode cL_law 707 = .ok (.aload 10, 2) := by decide +kernel
theorem dL_law_709 : decode cL_law 709 = .ok (.iload 13, 2) := by decide +kernel
theorem dL_law_711 : decode cL_law 711 = .ok (.iaload, 1) := by decide +kernel
theorem dL_law_712 : decode cL_law 712 = .ok (.ifCond .ge 21, 3) := by decide +kernel
theorem dL_law_715 : decode cL_law 715 = .ok (.iload 12, 2) := by decide +kernel
theorem dL_law_717 : decode cL_law 717 = .ok (.iload 13, 2) := by decide +kernel
theorem dL_law_719 : decode cL_law 719 = .ok (.ishr, 1) := by decide +kernel
theorem dL_law_720 : decode cL_law 720 = .ok (.iconst 1, 1) := by decide +kernel
theorem dL_law_721 : decode cL_law 721 = .ok (.iand, 1) := by decide +kernel
theorem dL_law_722 : decode cL_law 722 = .ok (.iconst 1, 1) := by decide +kernel
theorem dL_law_723 : decode cL_law 723 = .ok (.if_icmp .ne 10, 3) := by decide +kernel
theorem dL_law_726 : decode cL_law 726 = .ok (.iload 11, 2) := by decide +kernel
theorem dL_law_728 : decode cL_law 728 = .ok (.iconst 1, 1) := by decide +kernel
theorem dL_law_729 : decode cL_law 729 = .ok (.iadd, 1) := by decide +kernel
theorem dL_law_730 : decode cL_law 730 = .ok (.goto 8, 3) := by decide +kernel
theorem dL_law_733 : decode cL_law 733 = .ok (.aload 10, 2) := by decide +kernel
theorem dL_law_735 : decode cL_law 735 = .ok (.iload 13, 2) := by decide +kernel
theorem dL_law_737 : decode cL_law 737 = .ok (.iaload, 1) := by decide +kernel
theorem dL_law_738 : decode cL_law 738 = .ok (.iastore, 1) := by decide +kernel
theorem dL_law_739 : decode cL_law 739 = .ok (.iinc 13 1, 3) := by decide +kernel
theorem dL_law_742 : decode cL_law 742 = .ok (.goto (-46), 3) := by decide +kernel
theorem dL_law_745 : decode cL_law 745 = .ok (.iload 12, 2) := by decide +kernel
theorem dL_law_747 : decode cL_law 747 = .ok (.istore 9, 2) := by decide +kernel
theorem dL_law_749 : decode cL_law 749 = .ok (.iinc 11 1, 3) := by decide +kernel
theorem dL_law_752 : decode cL_law 752 = .ok (.goto (-164), 3) := by decide +kernel
theorem dL_law_755 : decode cL_law 755 = .ok (.iconst 0, 1) := by decide +kernel
theorem dL_law_756 : decode cL_law 756 = .ok (.istore 11, 2) := by decide +kernel
theorem dL_law_758 : decode cL_law 758 = .ok (.iload 11, 2) := by decide +kernel
theorem dL_law_760 : decode cL_law 760 = .ok (.iload 4, 2) := by decide +kernel
theorem dL_law_762 : decode cL_law 762 = .ok (.if_icmp .ge 185, 3) := by decide +kernel
theorem dL_law_765 : decode cL_law 765 = .ok (.aload_n 1, 1) := by decide +kernel
theorem dL_law_766 : decode cL_law 766 = .ok (.iload 6, 2) := by decide +kernel
theorem dL_law_768 : decode cL_law 768 = .ok (.iload 8, 2) := by decide +kernel
theorem dL_law_770 : decode cL_law 770 = .ok (.iload 11, 2) := by decide +kernel
theorem dL_law_772 : decode cL_law 772 = .ok (.iconst (-1), 1) := by decide +kernel
theorem dL_law_773 : decode cL_law 773 = .ok (.invokevirtual 75, 3) := by decide +kernel
theorem dL_law_776 : decode cL_law 776 = .ok (.aload 10, 2) := by decide +kernel
theorem dL_law_778 : decode cL_law 778 = .ok (.iload 11, 2) := by decide +kernel
theorem dL_law_780 : decode cL_law 780 = .ok (.iaload, 1) := by decide +kernel
theorem dL_law_781 : decode cL_law 781 = .ok (.if_icmp .ne 37, 3) := by decide +kernel
theorem dL_law_784 : decode cL_law 784 = .ok (.aload_n 1, 1) := by decide +kernel
theorem dL_law_785 : decode cL_law 785 = .ok (.iload 6, 2) := by decide +kernel
theorem dL_law_787 : decode cL_law 787 = .ok (.iload 8, 2) := by decide +kernel
theorem dL_law_789 : decode cL_law 789 = .ok (.iload 11, 2) := by decide +kernel
theorem dL_law_791 : decode cL_law 791 = .ok (.aload 10, 2) := by decide +kernel
theorem dL_law_793 : decode cL_law 793 = .ok (.iload 11, 2) := by decide +kernel
theorem dL_law_795 : decode cL_law 795 = .ok (.iaload, 1) := by decide +kernel
theorem dL_law_796 : decode cL_law 796 = .ok (.ifCond .ge 7, 3) := by decide +kernel
theorem dL_law_799 : decode cL_law 799 = .ok (.iconst 0, 1) := by decide +kernel
theorem dL_law_800 : decode cL_law 800 = .ok (.goto 10, 3) := by decide +kernel
theorem dL_law_803 : decode cL_law 803 = .ok (.aload 10, 2) := by decide +kernel
theorem dL_law_805 : decode cL_law 805 = .ok (.iload 11, 2) := by decide +kernel
theorem dL_law_807 : decode cL_law 807 = .ok (.iaload, 1) := by decide +kernel
theorem dL_law_808 : decode cL_law 808 = .ok (.iconst 1, 1) := by decide +kernel
theorem dL_law_809 : decode cL_law 809 = .ok (.iadd, 1) := by decide +kernel
theorem dL_law_810 : decode cL_law 810 = .ok (.invokevirtual 75, 3) := by decide +kernel
theorem dL_law_813 : decode cL_law 813 = .ok (.bipush (-9), 2) := by decide +kernel
theorem dL_law_815 : decode cL_law 815 = .ok (.if_icmp .eq 5, 3) := by decide +kernel
theorem dL_law_818 : decode cL_law 818 = .ok (.iconst 0, 1) := by decide +kernel
theorem dL_law_819 : decode cL_law 819 = .ok (.ireturn, 1) := by decide +kernel
theorem dL_law_820 : decode cL_law 820 = .ok (.aload 10, 2) := by decide +kernel
theorem dL_law_822 : decode cL_law 822 = .ok (.iload 11, 2) := by decide +kernel
theorem dL_law_824 : decode cL_law 824 = .ok (.iaload, 1) := by decide +kernel
theorem dL_law_825 : decode cL_law 825 = .ok (.ifCond .ge 6, 3) := by decide +kernel
theorem dL_law_828 : decode cL_law 828 = .ok (.goto 113, 3) := by decide +kernel
theorem dL_law_831 : decode cL_law 831 = .ok (.iload 8, 2) := by decide +kernel
theorem dL_law_833 : decode cL_law 833 = .ok (.istore 12, 2) := by decide +kernel
theorem dL_law_835 : decode cL_law 835 = .ok (.iconst 0, 1) := by decide +kernel
theorem dL_law_836 : decode cL_law 836 = .ok (.istore 13, 2) := by decide +kernel
theorem dL_law_838 : decode cL_law 838 = .ok (.iload 13, 2) := by decide +kernel
theorem dL_law_840 : decode cL_law 840 = .ok (.aload 10, 2) := by decide +kernel
theorem dL_law_842 : decode cL_law 842 = .ok (.iload 11, 2) := by decide +kernel
theorem dL_law_844 : decode cL_law 844 = .ok (.iaload, 1) := by decide +kernel
theorem dL_law_845 : decode cL_law 845 = .ok (.if_icmp .gt 96, 3) := by decide +kernel
theorem dL_law_848 : decode cL_law 848 = .ok (.aload_n 1, 1) := by decide +kernel
theorem dL_law_849 : decode cL_law 849 = .ok (.iload 6, 2) := by decide +kernel
theorem dL_law_851 : decode cL_law 851 = .ok (.iload 8, 2) := by decide +kernel
theorem dL_law_853 : decode cL_law 853 = .ok (.iload 11, 2) := by decide +kernel
theorem dL_law_855 : decode cL_law 855 = .ok (.iload 13, 2) := by decide +kernel
theorem dL_law_857 : decode cL_law 857 = .ok (.invokevirtual 75, 3) := by decide +kernel
theorem dL_law_860 : decode cL_law 860 = .ok (.istore 14, 2) := by decide +kernel
theorem dL_law_862 : decode cL_law 862 = .ok (.iload 14, 2) := by decide +kernel
theorem dL_law_864 : decode cL_law 864 = .ok (.ifCond .lt 65, 3) := by decide +kernel
theorem dL_law_867 : decode cL_law 867 = .ok (.iload 14, 2) := by decide +kernel
theorem dL_law_869 : decode cL_law 869 = .ok (.iload 4, 2) := by decide +kernel
theorem dL_law_871 : decode cL_law 871 = .ok (.if_icmp .ge 58, 3) := by decide +kernel
theorem dL_law_874 : decode cL_law 874 = .ok (.iload 13, 2) := by decide +kernel
theorem dL_law_876 : decode cL_law 876 = .ok (.ifCond .ne 10, 3) := by decide +kernel
theorem dL_law_879 : decode cL_law 879 = .ok (.iload 14, 2) := by decide +kernel
theorem dL_law_881 : decode cL_law 881 = .ok (.iload 8, 2) := by decide +kernel
theorem dL_law_883 : decode cL_law 883 = .ok (.if_icmp .ne 46, 3) := by decide +kernel
theorem dL_law_886 : decode cL_law 886 = .ok (.iload 13, 2) := by decide +kernel
theorem dL_law_888 : decode cL_law 888 = .ok (.aload 10, 2) := by decide +kernel
theorem dL_law_890 : decode cL_law 890 = .ok (.iload 11, 2) := by decide +kernel
theorem dL_law_892 : decode cL_law 892 = .ok (.iaload, 1) := by decide +kernel
theorem dL_law_893 : decode cL_law 893 = .ok (.if_icmp .ne 10, 3) := by decide +kernel
theorem dL_law_896 : decode cL_law 896 = .ok (.iload 14, 2) := by decide +kernel
theorem dL_law_898 : decode cL_law 898 = .ok (.iload 11, 2) := by decide +kernel
theorem dL_law_900 : decode cL_law 900 = .ok (.if_icmp .ne 29, 3) := by decide +kernel
theorem dL_law_903 : decode cL_law 903 = .ok (.iload 13, 2) := by decide +kernel
theorem dL_law_905 : decode cL_law 905 = .ok (.ifCond .le 26, 3) := by decide +kernel
theorem dL_law_908 : decode cL_law 908 = .ok (.aload_n 2, 1) := by decide +kernel
theorem dL_law_909 : decode cL_law 909 = .ok (.iload 6, 2) := by decide +kernel
theorem dL_law_911 : decode cL_law 911 = .ok (.aload_n 2, 1) := by decide +kernel
theorem dL_law_912 : decode cL_law 912 = .ok (.iconst 1, 1) := by decide +kernel
theorem dL_law_913 : decode cL_law 913 = .ok (.iload 12, 2) := by decide +kernel
theorem dL_law_915 : decode cL_law 915 = .ok (.iadd, 1) := by decide +kernel
theorem dL_law_916 : decode cL_law 916 = .ok (.iaload, 1) := by decide +kernel
theorem dL_law_917 : decode cL_law 917 = .ok (.aload_n 2, 1) := by decide +kernel
theorem dL_law_918 : decode cL_law 918 = .ok (.iconst 1, 1) := by decide +kernel
theorem dL_law_919 : decode cL_law 919 = .ok (.iload 14, 2) := by decide +kernel
theorem dL_law_921 : decode cL_law 921 = .ok (.iadd, 1) := by decide +kernel
theorem dL_law_922 : decode cL_law 922 = .ok (.iaload, 1) := by decide +kernel
theorem dL_law_923 : decode cL_law 923 = .ok (.invokestatic 52, 3) := by decide +kernel
theorem dL_law_926 : decode cL_law 926 = .ok (.ifCond .ne 5, 3) := by decide +kernel
theorem dL_law_929 : decode cL_law 929 = .ok (.iconst 0, 1) := by decide +kernel
theorem dL_law_930 : decode cL_law 930 = .ok (.ireturn, 1) := by decide +kernel
theorem dL_law_931 : decode cL_law 931 = .ok (.iload 14, 2) := by decide +kernel
theorem dL_law_933 : decode cL_law 933 = .ok (.istore 12, 2) := by decide +kernel
theorem dL_law_935 : decode cL_law 935 = .ok (.iinc 13 1, 3) := by decide +kernel
theorem dL_law_938 : decode cL_law 938 = .ok (.goto (-100), 3) := by decide +kernel
theorem dL_law_941 : decode cL_law 941 = .ok (.iinc 11 1, 3) := by decide +kernel
theorem dL_law_944 : decode cL_law 944 = .ok (.goto (-186), 3) := by decide +kernel
theorem dL_law_947 : decode cL_law 947 = .ok (.iinc 8 1, 3) := by decide +kernel
theorem dL_law_950 : decode cL_law 950 = .ok (.goto (-418), 3) := by decide +kernel
theorem dL_law_953 : decode cL_law 953 = .ok (.iinc 6 1, 3) := by decide +kernel
theorem dL_law_956 : decode cL_law 956 = .ok (.goto (-819), 3) := by decide +kernel
theorem dL_law_959 : decode cL_law 959 = .ok (.aload_n 0, 1) := by decide +kernel
theorem dL_law_960 : decode cL_law 960 = .ok (.bipush 7, 2) := by decide +kernel
theorem dL_law_962 : decode cL_law 962 = .ok (.iload 5, 2) := by decide +kernel
theorem dL_law_964 : decode cL_law 964 = .ok (.iadd, 1) := by decide +kernel
theorem dL_law_965 : decode cL_law 965 = .ok (.invokestatic 9, 3) := by decide +kernel
theorem dL_law_968 : decode cL_law 968 = .ok (.aload_n 2, 1) := by decide +kernel
theorem dL_law_969 : decode cL_law 969 = .ok (.bipush 9, 2) := by decide +kernel
theorem dL_law_971 : decode cL_law 971 = .ok (.iaload, 1) := by decide +kernel
theorem dL_law_972 : decode cL_law 972 = .ok (.invokestatic 15, 3) := by decide +kernel
theorem dL_law_975 : decode cL_law 975 = .ok (.istore 6, 2) := by decide +kernel
theorem dL_law_977 : decode cL_law 977 = .ok (.aload_n 0, 1) := by decide +kernel
theorem dL_law_978 : decode cL_law 978 = .ok (.bipush 7, 2) := by decide +kernel
theorem dL_law_980 : decode cL_law 980 = .ok (.iload 5, 2) := by decide +kernel
theorem dL_law_982 : decode cL_law 982 = .ok (.iadd, 1) := by decide +kernel
theorem dL_law_983 : decode cL_law 983 = .ok (.invokestatic 9, 3) := by decide +kernel
theorem dL_law_986 : decode cL_law 986 = .ok (.iconst 3, 1) := by decide +kernel
theorem dL_law_987 : decode cL_law 987 = .ok (.ishr, 1) := by decide +kernel
theorem dL_law_988 : decode cL_law 988 = .ok (.aload_n 2, 1) := by decide +kernel
theorem dL_law_989 : decode cL_law 989 = .ok (.bipush 9, 2) := by decide +kernel
theorem dL_law_991 : decode cL_law 991 = .ok (.iaload, 1) := by decide +kernel
theorem dL_law_992 : decode cL_law 992 = .ok (.invokestatic 15, 3) := by decide +kernel
theorem dL_law_995 : decode cL_law 995 = .ok (.istore 7, 2) := by decide +kernel
theorem dL_law_997 : decode cL_law 997 = .ok (.aload_n 0, 1) := by decide +kernel
theorem dL_law_998 : decode cL_law 998 = .ok (.bipush 7, 2) := by decide +kernel
theorem dL_law_1000 : decode cL_law 1000 = .ok (.iload 5, 2) := by decide +kernel
theorem dL_law_1002 : decode cL_law 1002 = .ok (.iadd, 1) := by decide +kernel
theorem dL_law_1003 : decode cL_law 1003 = .ok (.invokestatic 9, 3) := by decide +kernel
theorem dL_law_1006 : decode cL_law 1006 = .ok (.bipush 6, 2) := by decide +kernel
theorem dL_law_1008 : decode cL_law 1008 = .ok (.ishr, 1) := by decide +kernel
theorem dL_law_1009 : decode cL_law 1009 = .ok (.iload 4, 2) := by decide +kernel
theorem dL_law_1011 : decode cL_law 1011 = .ok (.invokestatic 15, 3) := by decide +kernel
theorem dL_law_1014 : decode cL_law 1014 = .ok (.istore 8, 2) := by decide +kernel
theorem dL_law_1016 : decode cL_law 1016 = .ok (.iconst 0, 1) := by decide +kernel
theorem dL_law_1017 : decode cL_law 1017 = .ok (.istore 9, 2) := by decide +kernel
theorem dL_law_1019 : decode cL_law 1019 = .ok (.iload 9, 2) := by decide +kernel
theorem dL_law_1021 : decode cL_law 1021 = .ok (.iconst 5, 1) := by decide +kernel
theorem dL_law_1022 : decode cL_law 1022 = .ok (.if_icmp .ge 248, 3) := by decide +kernel
theorem dL_law_1025 : decode cL_law 1025 = .ok (.aload_n 2, 1) := by decide +kernel
theorem dL_law_1026 : decode cL_law 1026 = .ok (.iconst 1, 1) := by decide +kernel
theorem dL_law_1027 : decode cL_law 1027 = .ok (.iload 8, 2) := by decide +kernel
theorem dL_law_1029 : decode cL_law 1029 = .ok (.iadd, 1) := by decide +kernel
theorem dL_law_1030 : decode cL_law 1030 = .ok (.iaload, 1) := by decide +kernel
theorem dL_law_1031 : decode cL_law 1031 = .ok (.istore 10, 2) := by decide +kernel
theorem dL_law_1033 : decode cL_law 1033 = .ok (.iconst 0, 1) := by decide +kernel
theorem dL_law_1034 : decode cL_law 1034 = .ok (.istore 11, 2) := by decide +kernel
theorem dL_law_1036 : decode cL_law 1036 = .ok (.iconst 1, 1) := by decide +kernel
theorem dL_law_1037 : decode cL_law 1037 = .ok (.istore 12, 2) := by decide +kernel
theorem dL_law_1039 : decode cL_law 1039 = .ok (.iconst 0, 1) := by decide +kernel
theorem dL_law_1040 : decode cL_law 1040 = .ok (.istore 13, 2) := by decide +kernel
theorem dL_law_1042 : decode cL_law 1042 = .ok (.iload 13, 2) := by decide +kernel
theorem dL_law_1044 : decode cL_law 1044 = .ok (.iload 9, 2) := by decide +kernel
theorem dL_law_1046 : decode cL_law 1046 = .ok (.if_icmp .ge 16, 3) := by decide +kernel
theorem dL_law_1049 : decode cL_law 1049 = .ok (.iload 12, 2) := by decide +kernel
theorem dL_law_1051 : decode cL_law 1051 = .ok (.iload 4, 2) := by decide +kernel
theorem dL_law_1053 : decode cL_law 1053 = .ok (.imul, 1) := by decide +kernel
theorem dL_law_1054 : decode cL_law 1054 = .ok (.istore 12, 2) := by decide +kernel
theorem dL_law_1056 : decode cL_law 1056 = .ok (.iinc 13 1, 3) := by decide +kernel
theorem dL_law_1059 : decode cL_law 1059 = .ok (.goto (-17), 3) := by decide +kernel
theorem dL_law_1062 : decode cL_law 1062 = .ok (.iconst 0, 1) := by decide +kernel
theorem dL_law_1063 : decode cL_law 1063 = .ok (.istore 13, 2) := by decide +kernel
theorem dL_law_1065 : decode cL_law 1065 = .ok (.iload 13, 2) := by decide +kernel
theorem dL_law_1067 : decode cL_law 1067 = .ok (.iload 12, 2) := by decide +kernel
theorem dL_law_1069 : decode cL_law 1069 = .ok (.if_icmp .ge 157, 3) := by decide +kernel
theorem dL_law_1072 : decode cL_law 1072 = .ok (.iload 13, 2) := by decide +kernel
theorem dL_law_1074 : decode cL_law 1074 = .ok (.istore 14, 2) := by decide +kernel
theorem dL_law_1076 : decode cL_law 1076 = .ok (.iload 8, 2) := by decide +kernel
theorem dL_law_1078 : decode cL_law 1078 = .ok (.istore 15, 2) := by decide +kernel
theorem dL_law_1080 : decode cL_law 1080 = .ok (.iconst 1, 1) := by decide +kernel
theorem dL_law_1081 : decode cL_law 1081 = .ok (.istore 16, 2) := by decide +kernel
theorem dL_law_1083 : decode cL_law 1083 = .ok (.iconst 1, 1) := by decide +kernel
theorem dL_law_1084 : decode cL_law 1084 = .ok (.istore 17, 2) := by decide +kernel
theorem dL_law_1086 : decode cL_law 1086 = .ok (.iload 17, 2) := by decide +kernel
theorem dL_law_1088 : decode cL_law 1088 = .ok (.iload 9, 2) := by decide +kernel
theorem dL_law_1090 : decode cL_law 1090 = .ok (.if_icmp .gt 130, 3) := by decide +kernel
theorem dL_law_1093 : decode cL_law 1093 = .ok (.iload 16, 2) := by decide +kernel
theorem dL_law_1095 : decode cL_law 1095 = .ok (.ifCond .eq 125, 3) := by decide +kernel
theorem dL_law_1098 : decode cL_law 1098 = .ok (.iload 14, 2) := by decide +kernel
theorem dL_law_1100 : decode cL_law 1100 = .ok (.iload 4, 2) := by decide +kernel
theorem dL_law_1102 : decode cL_law 1102 = .ok (.irem, 1) := by decide +kernel
theorem dL_law_1103 : decode cL_law 1103 = .ok (.istore 18, 2) := by decide +kernel
theorem dL_law_1105 : decode cL_law 1105 = .ok (.iload 14, 2) := by decide +kernel
theorem dL_law_1107 : decode cL_law 1107 = .ok (.iload 4, 2) := by decide +kernel
theorem dL_law_1109 : decode cL_law 1109 = .ok (.idiv, 1) := by decide +kernel
theorem dL_law_1110 : decode cL_law 1110 = .ok (.istore 14, 2) := by decide +kernel
theorem dL_law_1112 : decode cL_law 1112 = .ok (.aload_n 2, 1) := by decide +kernel
theorem dL_law_1113 : decode cL_law 1113 = .ok (.iload 6, 2) := by decide +kernel
theorem dL_law_1115 : decode cL_law 1115 = .ok (.aload_n 2, 1) := by decide +kernel
theorem dL_law_1116 : decode cL_law 1116 = .ok (.iconst 1, 1) := by decide +kernel
theorem dL_law_1117 : decode cL_law 1117 = .ok (.iload 15, 2) := by decide +kernel
theorem dL_law_1119 : decode cL_law 1119 = .ok (.iadd, 1) := by decide +kernel
theorem dL_law_1120 : decode cL_law 1120 = .ok (.iaload, 1) := by decide +kernel
theorem dL_law_1121 : decode cL_law 1121 = .ok (.aload_n 2, 1) := by decide +kernel
theorem dL_law_1122 : decode cL_law 1122 = .ok (.iconst 1, 1) := by decide +kernel
theorem dL_law_1123 : decode cL_law 1123 = .ok (.iload 18, 2) := by decide +kernel
theorem dL_law_1125 : decode cL_law 1125 = .ok (.iadd, 1) := by decide +kernel
theorem dL_law_1126 : decode cL_law 1126 = .ok (.iaload, 1) := by decide +kernel
theorem dL_law_1127 : decode cL_law 1127 = .ok (.invokestatic 52, 3) := by decide +kernel
theorem dL_law_1130 : decode cL_law 1130 = .ok (.ifCond .eq 28, 3) := by decide +kernel
theorem dL_law_1133 : decode cL_law 1133 = .ok (.aload_n 2, 1) := by decide +kernel
theorem dL_law_1134 : decode cL_law 1134 = .ok (.iload 7, 2) := by decide +kernel
theorem dL_law_1136 : decode cL_law 1136 = .ok (.aload_n 2, 1) := by decide +kernel
theorem dL_law_1137 : decode cL_law 1137 = .ok (.iconst 1, 1) := by decide +kernel
theorem dL_law_1138 : decode cL_law 1138 = .ok (.iload 18, 2) := by decide +kernel
theorem dL_law_1140 : decode cL_law 1140 = .ok (.iadd, 1) := by decide +kernel
theorem dL_law_1141 : decode cL_law 1141 = .ok (.iaload, 1) := by decide +kernel
theorem dL_law_1142 : decode cL_law 1142 = .ok (.aload_n 2, 1) := by decide +kernel
theorem dL_law_1143 : decode cL_law 1143 = .ok (.iconst 1, 1) := by decide +kernel
theorem dL_law_1144 : decode cL_law 1144 = .ok (.iload 15, 2) := by decide +kernel
theorem dL_law_1146 : decode cL_law 1146 = .ok (.iadd, 1) := by decide +kernel
theorem dL_law_1147 : decode cL_law 1147 = .ok (.iaload, 1) := by decide +kernel
theorem dL_law_1148 : decode cL_law 1148 = .ok (.invokestatic 31, 3) := by decide +kernel
theorem dL_law_1151 : decode cL_law 1151 = .ok (.ifCond .eq 7, 3) := by decide +kernel
theorem dL_law_1154 : decode cL_law 1154 = .ok (.iconst 1, 1) := by decide +kernel
theorem dL_law_1155 : decode cL_law 1155 = .ok (.goto 4, 3) := by decide +kernel
theorem dL_law_1158 : decode cL_law 1158 = .ok (.iconst 0, 1) := by decide +kernel
theorem dL_law_1159 : decode cL_law 1159 = .ok (.istore 16, 2) := by decide +kernel
theorem dL_law_1161 : decode cL_law 1161 = .ok (.iload 18, 2) := by decide +kernel
theorem dL_law_1163 : decode cL_law 1163 = .ok (.istore 15, 2) := by decide +kernel
theorem dL_law_1165 : decode cL_law 1165 = .ok (.iload 16, 2) := by decide +kernel
theorem dL_law_1167 : decode cL_law 1167 = .ok (.ifCond .eq 47, 3) := by decide +kernel
theorem dL_law_1170 : decode cL_law 1170 = .ok (.aload_n 2, 1) := by decide +kernel
theorem dL_law_1171 : decode cL_law 1171 = .ok (.iconst 1, 1) := by decide +kernel
theorem dL_law_1172 : decode cL_law 1172 = .ok (.iload 15, 2) := by decide +kernel
theorem dL_law_1174 : decode cL_law 1174 = .ok (.iadd, 1) := by decide +kernel
theorem dL_law_1175 : decode cL_law 1175 = .ok (.iaload, 1) := by decide +kernel
theorem dL_law_1176 : decode cL_law 1176 = .ok (.iload 10, 2) := by decide +kernel
theorem dL_law_1178 : decode cL_law 1178 = .ok (.if_icmp .lt 36, 3) := by decide +kernel
theorem dL_law_1181 : decode cL_law 1181 = .ok (.aload_n 2, 1) := by decide +kernel
theorem dL_law_1182 : decode cL_law 1182 = .ok (.iconst 1, 1) := by decide +kernel
theorem dL_law_1183 : decode cL_law 1183 = .ok (.iload 15, 2) := by decide +kernel
theorem dL_law_1185 : decode cL_law 1185 = .ok (.iadd, 1) := by decide +kernel
theorem dL_law_1186 : decode cL_law 1186 = .ok (.iaload, 1) := by decide +kernel
theorem dL_law_1187 : decode cL_law 1187 = .ok (.iload 10, 2) := by decide +kernel
theorem dL_law_1189 : decode cL_law 1189 = .ok (.if_icmp .ne 13, 3) := by decide +kernel
theorem dL_law_1192 : decode cL_law 1192 = .ok (.iload 17, 2) := by decide +kernel
theorem dL_law_1194 : decode cL_law 1194 = .ok (.iload 11, 2) := by decide +kernel
theorem dL_law_1196 : decode cL_law 1196 = .ok (.if_icmp .lt 6, 3) := by decide +kernel
theorem dL_law_1199 : decode cL_law 1199 = .ok (.goto 15, 3) := by decide +kernel
theorem dL_law_1202 : decode cL_law 1202 = .ok (.aload_n 2, 1) := by decide +kernel
theorem dL_law_1203 : decode cL_law 1203 = .ok (.iconst 1, 1) := by decide +kernel
theorem dL_law_1204 : decode cL_law 1204 = .ok (.iload 15, 2) := by decide +kernel
theorem dL_law_1206 : decode cL_law 1206 = .ok (.iadd, 1) := by decide +kernel
theorem dL_law_1207 : decode cL_law 1207 = .ok (.iaload, 1) := by decide +kernel
theorem dL_law_1208 : decode cL_law 1208 = .ok (.istore 10, 2) := by decide +kernel
theorem dL_law_1210 : decode cL_law 1210 = .ok (.iload 17, 2) := by decide +kernel
theorem dL_law_1212 : decode cL_law 1212 = .ok (.istore 11, 2) := by decide +kernel
theorem dL_law_1214 : decode cL_law 1214 = .ok (.iinc 17 1, 3) := by decide +kernel
theorem dL_law_1217 : decode cL_law 1217 = .ok (.goto (-131), 3) := by decide +kernel
theorem dL_law_1220 : decode cL_law 1220 = .ok (.iinc 13 1, 3) := by decide +kernel
theorem dL_law_1223 : decode cL_law 1223 = .ok (.goto (-158), 3) := by decide +kernel
theorem dL_law_1226 : decode cL_law 1226 = .ok (.aload_n 1, 1) := by decide +kernel
theorem dL_law_1227 : decode cL_law 1227 = .ok (.iload 6, 2) := by decide +kernel
theorem dL_law_1229 : decode cL_law 1229 = .ok (.iload 7, 2) := by decide +kernel
theorem dL_law_1231 : decode cL_law 1231 = .ok (.iload 8, 2) := by decide +kernel
theorem dL_law_1233 : decode cL_law 1233 = .ok (.iload 9, 2) := by decide +kernel
theorem dL_law_1235 : decode cL_law 1235 = .ok (.iconst 0, 1) := by decide +kernel
theorem dL_law_1236 : decode cL_law 1236 = .ok (.invokevirtual 78, 3) := by decide +kernel
theorem dL_law_1239 : decode cL_law 1239 = .ok (.iload 10, 2) := by decide +kernel
theorem dL_law_1241 : decode cL_law 1241 = .ok (.if_icmp .ne 21, 3) := by decide +kernel
theorem dL_law_1244 : decode cL_law 1244 = .ok (.aload_n 1, 1) := by decide +kernel
theorem dL_law_1245 : decode cL_law 1245 = .ok (.iload 6, 2) := by decide +kernel
theorem dL_law_1247 : decode cL_law 1247 = .ok (.iload 7, 2) := by decide +kernel
theorem dL_law_1249 : decode cL_law 1249 = .ok (.iload 8, 2) := by decide +kernel
theorem dL_law_1251 : decode cL_law 1251 = .ok (.iload 9, 2) := by decide +kernel
theorem dL_law_1253 : decode cL_law 1253 = .ok (.iconst 1, 1) := by decide +kernel
theorem dL_law_1254 : decode cL_law 1254 = .ok (.invokevirtual 78, 3) := by decide +kernel
theorem dL_law_1257 : decode cL_law 1257 = .ok (.iload 11, 2) := by decide +kernel
theorem dL_law_1259 : decode cL_law 1259 = .ok (.if_icmp .eq 5, 3) := by decide +kernel
theorem dL_law_1262 : decode cL_law 1262 = .ok (.iconst 0, 1) := by decide +kernel
theorem dL_law_1263 : decode cL_law 1263 = .ok (.ireturn, 1) := by decide +kernel
theorem dL_law_1264 : decode cL_law 1264 = .ok (.iinc 9 1, 3) := by decide +kernel
theorem dL_law_1267 : decode cL_law 1267 = .ok (.goto (-248), 3) := by decide +kernel
theorem dL_law_1270 : decode cL_law 1270 = .ok (.iinc 5 1, 3) := by decide +kernel
theorem dL_law_1273 : decode cL_law 1273 = .ok (.goto (-1209), 3) := by decide +kernel
theorem dL_law_1276 : decode cL_law 1276 = .ok (.aload_n 1, 1) := by decide +kernel
theorem dL_law_1277 : decode cL_law 1277 = .ok (.iload 4, 2) := by decide +kernel
theorem dL_law_1279 : decode cL_law 1279 = .ok (.invokevirtual 57, 3) := by decide +kernel
theorem dL_law_1282 : decode cL_law 1282 = .ok (.iconst (-1), 1) := by decide +kernel
theorem dL_law_1283 : decode cL_law 1283 = .ok (.if_icmp .ne 285, 3) := by decide +kernel
theorem dL_law_1286 : decode cL_law 1286 = .ok (.aload_n 1, 1) := by decide +kernel
theorem dL_law_1287 : decode cL_law 1287 = .ok (.iload 4, 2) := by decide +kernel
theorem dL_law_1289 : decode cL_law 1289 = .ok (.iconst 1, 1) := by decide +kernel
theorem dL_law_1290 : decode cL_law 1290 = .ok (.invokevirtual 47, 3) := by decide +kernel
theorem dL_law_1293 : decode cL_law 1293 = .ok (.iconst (-1), 1) := by decide +kernel
theorem dL_law_1294 : decode cL_law 1294 = .ok (.if_icmp .ne 274, 3) := by decide +kernel
theorem dL_law_1297 : decode cL_law 1297 = .ok (.aload_n 1, 1) := by decide +kernel
theorem dL_law_1298 : decode cL_law 1298 = .ok (.iconst 0, 1) := by decide +kernel
theorem dL_law_1299 : decode cL_law 1299 = .ok (.iconst 0, 1) := by decide +kernel
theorem dL_law_1300 : decode cL_law 1300 = .ok (.invokevirtual 47, 3) := by decide +kernel
theorem dL_law_1303 : decode cL_law 1303 = .ok (.bipush (-2), 2) := by decide +kernel
theorem dL_law_1305 : decode cL_law 1305 = .ok (.if_icmp .ne 263, 3) := by decide +kernel
theorem dL_law_1308 : decode cL_law 1308 = .ok (.aload_n 1, 1) := by decide +kernel
theorem dL_law_1309 : decode cL_law 1309 = .ok (.iconst 0, 1) := by decide +kernel
theorem dL_law_1310 : decode cL_law 1310 = .ok (.sipush 1000, 3) := by decide +kernel
theorem dL_law_1313 : decode cL_law 1313 = .ok (.invokevirtual 47, 3) := by decide +kernel
theorem dL_law_1316 : decode cL_law 1316 = .ok (.bipush (-2), 2) := by decide +kernel
theorem dL_law_1318 : decode cL_law 1318 = .ok (.if_icmp .ne 250, 3) := by decide +kernel
theorem dL_law_1321 : decode cL_law 1321 = .ok (.aload_n 1, 1) := by decide +kernel
theorem dL_law_1322 : decode cL_law 1322 = .ok (.aload_n 2, 1) := by decide +kernel
theorem dL_law_1323 : decode cL_law 1323 = .ok (.bipush 9, 2) := by decide +kernel
theorem dL_law_1325 : decode cL_law 1325 = .ok (.iaload, 1) := by decide +kernel
theorem dL_law_1326 : decode cL_law 1326 = .ok (.iconst 1, 1) := by decide +kernel
theorem dL_law_1327 : decode cL_law 1327 = .ok (.iconst 1, 1) := by decide +kernel
theorem dL_law_1328 : decode cL_law 1328 = .ok (.invokevirtual 50, 3) := by decide +kernel
theorem dL_law_1331 : decode cL_law 1331 = .ok (.iconst (-1), 1) := by decide +kernel
theorem dL_law_1332 : decode cL_law 1332 = .ok (.if_icmp .ne 236, 3) := by decide +kernel
theorem dL_law_1335 : decode cL_law 1335 = .ok (.aload_n 1, 1) := by decide +kernel
theorem dL_law_1336 : decode cL_law 1336 = .ok (.iconst 0, 1) := by decide +kernel
theorem dL_law_1337 : decode cL_law 1337 = .ok (.iconst 0, 1) := by decide +kernel
theorem dL_law_1338 : decode cL_law 1338 = .ok (.iconst 1, 1) := by decide +kernel
theorem dL_law_1339 : decode cL_law 1339 = .ok (.invokevirtual 50, 3) := by decide +kernel
theorem dL_law_1342 : decode cL_law 1342 = .ok (.bipush (-2), 2) := by decide +kernel
theorem dL_law_1344 : decode cL_law 1344 = .ok (.if_icmp .ne 224, 3) := by decide +kernel
theorem dL_law_1347 : decode cL_law 1347 = .ok (.aload_n 1, 1) := by decide +kernel
theorem dL_law_1348 : decode cL_law 1348 = .ok (.iconst 0, 1) := by decide +kernel
theorem dL_law_1349 : decode cL_law 1349 = .ok (.iconst 1, 1) := by decide +kernel
theorem dL_law_1350 : decode cL_law 1350 = .ok (.sipush 10000, 3) := by decide +kernel
theorem dL_law_1353 : decode cL_law 1353 = .ok (.invokevirtual 50, 3) := by decide +kernel
theorem dL_law_1356 : decode cL_law 1356 = .ok (.bipush (-2), 2) := by decide +kernel
theorem dL_law_1358 : decode cL_law 1358 = .ok (.if_icmp .ne 210, 3) := by decide +kernel
theorem dL_law_1361 : decode cL_law 1361 = .ok (.aload_n 1, 1) := by decide +kernel
theorem dL_law_1362 : decode cL_law 1362 = .ok (.iconst 0, 1) := by decide +kernel
theorem dL_law_1363 : decode cL_law 1363 = .ok (.iload 4, 2) := by decide +kernel
theorem dL_law_1365 : decode cL_law 1365 = .ok (.invokevirtual 55, 3) := by decide +kernel
theorem dL_law_1368 : decode cL_law 1368 = .ok (.iconst (-1), 1) := by decide +kernel
theorem dL_law_1369 : decode cL_law 1369 = .ok (.if_icmp .ne 199, 3) := by decide +kernel
theorem dL_law_1372 : decode cL_law 1372 = .ok (.aload_n 1, 1) := by decide +kernel
theorem dL_law_1373 : decode cL_law 1373 = .ok (.aload_n 2, 1) := by decide +kernel
theorem dL_law_1374 : decode cL_law 1374 = .ok (.bipush 9, 2) := by decide +kernel
theorem dL_law_1376 : decode cL_law 1376 = .ok (.iaload, 1) := by decide +kernel
theorem dL_law_1377 : decode cL_law 1377 = .ok (.iconst 0, 1) := by decide +kernel
theorem dL_law_1378 : decode cL_law 1378 = .ok (.invokevirtual 55, 3) := by decide +kernel
theorem dL_law_1381 : decode cL_law 1381 = .ok (.iconst (-1), 1) := by decide +kernel
theorem dL_law_1382 : decode cL_law 1382 = .ok (.if_icmp .ne 186, 3) := by decide +kernel
theorem dL_law_1385 : decode cL_law 1385 = .ok (.aload_n 1, 1) := by decide +kernel
theorem dL_law_1386 : decode cL_law 1386 = .ok (.iconst 0, 1) := by decide +kernel
theorem dL_law_1387 : decode cL_law 1387 = .ok (.aload_n 2, 1) := by decide +kernel
theorem dL_law_1388 : decode cL_law 1388 = .ok (.bipush 9, 2) := by decide +kernel
theorem dL_law_1390 : decode cL_law 1390 = .ok (.iaload, 1) := by decide +kernel
theorem dL_law_1391 : decode cL_law 1391 = .ok (.invokevirtual 69, 3) := by decide +kernel
theorem dL_law_1394 : decode cL_law 1394 = .ok (.iconst (-1), 1) := by decide +kernel
theorem dL_law_1395 : decode cL_law 1395 = .ok (.if_icmp .ne 173, 3) := by decide +kernel
theorem dL_law_1398 : decode cL_law 1398 = .ok (.aload_n 1, 1) := by decide +kernel
theorem dL_law_1399 : decode cL_law 1399 = .ok (.iconst 0, 1) := by decide +kernel
theorem dL_law_1400 : decode cL_law 1400 = .ok (.iconst 0, 1) := by decide +kernel
theorem dL_law_1401 : decode cL_law 1401 = .ok (.iload 4, 2) := by decide +kernel
theorem dL_law_1403 : decode cL_law 1403 = .ok (.iconst 0, 1) := by decide +kernel
theorem dL_law_1404 : decode cL_law 1404 = .ok (.invokevirtual 75, 3) := by decide +kernel
theorem dL_law_1407 : decode cL_law 1407 = .ok (.iconst (-1), 1) := by decide +kernel
theorem dL_law_1408 : decode cL_law 1408 = .ok (.if_icmp .ne 160, 3) := by decide +kernel
theorem dL_law_1411 : decode cL_law 1411 = .ok (.aload_n 1, 1) := by decide +kernel
theorem dL_law_1412 : decode cL_law 1412 = .ok (.iconst 0, 1) := by decide +kernel
theorem dL_law_1413 : decode cL_law 1413 = .ok (.iconst 0, 1) := by decide +kernel
theorem dL_law_1414 : decode cL_law 1414 = .ok (.iconst 0, 1) := by decide +kernel
theorem dL_law_1415 : decode cL_law 1415 = .ok (.bipush (-2), 2) := by decide +kernel
theorem dL_law_1417 : decode cL_law 1417 = .ok (.invokevirtual 75, 3) := by decide +kernel
theorem dL_law_1420 : decode cL_law 1420 = .ok (.iconst (-1), 1) := by decide +kernel
theorem dL_law_1421 : decode cL_law 1421 = .ok (.if_icmp .ne 147, 3) := by decide +kernel
theorem dL_law_1424 : decode cL_law 1424 = .ok (.aload_n 1, 1) := by decide +kernel
theorem dL_law_1425 : decode cL_law 1425 = .ok (.aload_n 2, 1) := by decide +kernel
theorem dL_law_1426 : decode cL_law 1426 = .ok (.bipush 9, 2) := by decide +kernel
theorem dL_law_1428 : decode cL_law 1428 = .ok (.iaload, 1) := by decide +kernel
theorem dL_law_1429 : decode cL_law 1429 = .ok (.iconst 0, 1) := by decide +kernel
theorem dL_law_1430 : decode cL_law 1430 = .ok (.iconst 0, 1) := by decide +kernel
theorem dL_law_1431 : decode cL_law 1431 = .ok (.iconst 0, 1) := by decide +kernel
theorem dL_law_1432 : decode cL_law 1432 = .ok (.invokevirtual 75, 3) := by decide +kernel
theorem dL_law_1435 : decode cL_law 1435 = .ok (.iconst (-1), 1) := by decide +kernel
theorem dL_law_1436 : decode cL_law 1436 = .ok (.if_icmp .ne 132, 3) := by decide +kernel
theorem dL_law_1439 : decode cL_law 1439 = .ok (.aload_n 1, 1) := by decide +kernel
theorem dL_law_1440 : decode cL_law 1440 = .ok (.iconst 0, 1) := by decide +kernel
theorem dL_law_1441 : decode cL_law 1441 = .ok (.iload 4, 2) := by decide +kernel
theorem dL_law_1443 : decode cL_law 1443 = .ok (.iconst 0, 1) := by decide +kernel
theorem dL_law_1444 : decode cL_law 1444 = .ok (.invokevirtual 72, 3) := by decide +kernel
theorem dL_law_1447 : decode cL_law 1447 = .ok (.iconst (-1), 1) := by decide +kernel
theorem dL_law_1448 : decode cL_law 1448 = .ok (.if_icmp .ne 120, 3) := by decide +kernel
theorem dL_law_1451 : decode cL_law 1451 = .ok (.aload_n 1, 1) := by decide +kernel
theorem dL_law_1452 : decode cL_law 1452 = .ok (.iconst 0, 1) := by decide +kernel
theorem dL_law_1453 : decode cL_law 1453 = .ok (.iconst 0, 1) := by decide +kernel
theorem dL_law_1454 : decode cL_law 1454 = .ok (.bipush 100, 2) := by decide +kernel
theorem dL_law_1456 : decode cL_law 1456 = .ok (.invokevirtual 72, 3) := by decide +kernel
theorem dL_law_1459 : decode cL_law 1459 = .ok (.bipush (-2), 2) := by decide +kernel
theorem dL_law_1461 : decode cL_law 1461 = .ok (.if_icmp .ne 107, 3) := by decide +kernel
theorem dL_law_1464 : decode cL_law 1464 = .ok (.aload_n 1, 1) := by decide +kernel
theorem dL_law_1465 : decode cL_law 1465 = .ok (.iconst 0, 1) := by decide +kernel
theorem dL_law_1466 : decode cL_law 1466 = .ok (.iconst 0, 1) := by decide +kernel
theorem dL_law_1467 : decode cL_law 1467 = .ok (.iconst (-1), 1) := by decide +kernel
theorem dL_law_1468 : decode cL_law 1468 = .ok (.invokevirtual 72, 3) := by decide +kernel
theorem dL_law_1471 : decode cL_law 1471 = .ok (.bipush (-2), 2) := by decide +kernel
theorem dL_law_1473 : decode cL_law 1473 = .ok (.if_icmp .ne 95, 3) := by decide +kernel
theorem dL_law_1476 : decode cL_law 1476 = .ok (.aload_n 1, 1) := by decide +kernel
theorem dL_law_1477 : decode cL_law 1477 = .ok (.aload_n 2, 1) := by decide +kernel
theorem dL_law_1478 : decode cL_law 1478 = .ok (.bipush 9, 2) := by decide +kernel
theorem dL_law_1480 : decode cL_law 1480 = .ok (.iaload, 1) := by decide +kernel
theorem dL_law_1481 : decode cL_law 1481 = .ok (.iconst 0, 1) := by decide +kernel
theorem dL_law_1482 : decode cL_law 1482 = .ok (.iconst 0, 1) := by decide +kernel
theorem dL_law_1483 : decode cL_law 1483 = .ok (.iconst 0, 1) := by decide +kernel
theorem dL_law_1484 : decode cL_law 1484 = .ok (.iconst 0, 1) := by decide +kernel
theorem dL_law_1485 : decode cL_law 1485 = .ok (.invokevirtual 78, 3) := by decide +kernel
theorem dL_law_1488 : decode cL_law 1488 = .ok (.iconst (-1), 1) := by decide +kernel
theorem dL_law_1489 : decode cL_law 1489 = .ok (.if_icmp .ne 79, 3) := by decide +kernel
theorem dL_law_1492 : decode cL_law 1492 = .ok (.aload_n 1, 1) := by decide +kernel
theorem dL_law_1493 : decode cL_law 1493 = .ok (.iconst 0, 1) := by decide +kernel
theorem dL_law_1494 : decode cL_law 1494 = .ok (.iconst 0, 1) := by decide +kernel
theorem dL_law_1495 : decode cL_law 1495 = .ok (.iload 4, 2) := by decide +kernel
theorem dL_law_1497 : decode cL_law 1497 = .ok (.iconst 0, 1) := by decide +kernel
theorem dL_law_1498 : decode cL_law 1498 = .ok (.iconst 0, 1) := by decide +kernel
theorem dL_law_1499 : decode cL_law 1499 = .ok (.invokevirtual 78, 3) := by decide +kernel
theorem dL_law_1502 : decode cL_law 1502 = .ok (.iconst (-1), 1) := by decide +kernel
theorem dL_law_1503 : decode cL_law 1503 = .ok (.if_icmp .ne 65, 3) := by decide +kernel
theorem dL_law_1506 : decode cL_law 1506 = .ok (.aload_n 1, 1) := by decide +kernel
theorem dL_law_1507 : decode cL_law 1507 = .ok (.iconst 0, 1) := by decide +kernel
theorem dL_law_1508 : decode cL_law 1508 = .ok (.iconst 0, 1) := by decide +kernel
theorem dL_law_1509 : decode cL_law 1509 = .ok (.iconst 0, 1) := by decide +kernel
theorem dL_law_1510 : decode cL_law 1510 = .ok (.bipush 9, 2) := by decide +kernel
theorem dL_law_1512 : decode cL_law 1512 = .ok (.iconst 0, 1) := by decide +kernel
theorem dL_law_1513 : decode cL_law 1513 = .ok (.invokevirtual 78, 3) := by decide +kernel
theorem dL_law_1516 : decode cL_law 1516 = .ok (.bipush (-2), 2) := by decide +kernel
theorem dL_law_1518 : decode cL_law 1518 = .ok (.if_icmp .ne 50, 3) := by decide +kernel
theorem dL_law_1521 : decode cL_law 1521 = .ok (.aload_n 1, 1) := by decide +kernel
theorem dL_law_1522 : decode cL_law 1522 = .ok (.iconst 0, 1) := by decide +kernel
theorem dL_law_1523 : decode cL_law 1523 = .ok (.iconst 0, 1) := by decide +kernel
theorem dL_law_1524 : decode cL_law 1524 = .ok (.iconst 0, 1) := by decide +kernel
theorem dL_law_1525 : decode cL_law 1525 = .ok (.iconst 0, 1) := by decide +kernel
theorem dL_law_1526 : decode cL_law 1526 = .ok (.iconst 2, 1) := by decide +kernel
theorem dL_law_1527 : decode cL_law 1527 = .ok (.invokevirtual 78, 3) := by decide +kernel
theorem dL_law_1530 : decode cL_law 1530 = .ok (.bipush (-2), 2) := by decide +kernel
theorem dL_law_1532 : decode cL_law 1532 = .ok (.if_icmp .ne 36, 3) := by decide +kernel
theorem dL_law_1535 : decode cL_law 1535 = .ok (.aload_n 1, 1) := by decide +kernel
theorem dL_law_1536 : decode cL_law 1536 = .ok (.aload_n 2, 1) := by decide +kernel
theorem dL_law_1537 : decode cL_law 1537 = .ok (.bipush 9, 2) := by decide +kernel
theorem dL_law_1539 : decode cL_law 1539 = .ok (.iaload, 1) := by decide +kernel
theorem dL_law_1540 : decode cL_law 1540 = .ok (.iconst 0, 1) := by decide +kernel
theorem dL_law_1541 : decode cL_law 1541 = .ok (.invokevirtual 61, 3) := by decide +kernel
theorem dL_law_1544 : decode cL_law 1544 = .ok (.ldc2_w 82, 3) := by decide +kernel
theorem dL_law_1547 : decode cL_law 1547 = .ok (.lcmp, 1) := by decide +kernel
theorem dL_law_1548 : decode cL_law 1548 = .ok (.ifCond .ne 20, 3) := by decide +kernel
theorem dL_law_1551 : decode cL_law 1551 = .ok (.aload_n 1, 1) := by decide +kernel
theorem dL_law_1552 : decode cL_law 1552 = .ok (.iconst 0, 1) := by decide +kernel
theorem dL_law_1553 : decode cL_law 1553 = .ok (.iconst 2, 1) := by decide +kernel
theorem dL_law_1554 : decode cL_law 1554 = .ok (.invokevirtual 61, 3) := by decide +kernel
theorem dL_law_1557 : decode cL_law 1557 = .ok (.ldc2_w 82, 3) := by decide +kernel
theorem dL_law_1560 : decode cL_law 1560 = .ok (.lcmp, 1) := by decide +kernel
theorem dL_law_1561 : decode cL_law 1561 = .ok (.ifCond .ne 7, 3) := by decide +kernel
theorem dL_law_1564 : decode cL_law 1564 = .ok (.iconst 1, 1) := by decide +kernel
theorem dL_law_1565 : decode cL_law 1565 = .ok (.goto 4, 3) := by decide +kernel
theorem dL_law_1568 : decode cL_law 1568 = .ok (.iconst 0, 1) := by decide +kernel
theorem dL_law_1569 : decode cL_law 1569 = .ok (.ireturn, 1) := by decide +kernel
