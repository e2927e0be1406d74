theorem dX0_init_0 : decode cX0_init 0 = .ok (.aload_n 0, 1) := by decide +kernel
theorem dX0_init_1 : decode cX0_init 1 = .ok (.invokespecial 3, 3) := by decide +kernel
theorem dX0_init_4 : decode cX0_init 4 = .ok (.aload_n 0, 1) := by decide +kernel
theorem dX0_init_5 : decode cX0_init 5 = .ok (.iconst 0, 1) := by decide +kernel
theorem dX0_init_6 : decode cX0_init 6 = .ok (.putfield 9, 3) := by decide +kernel
theorem dX0_init_9 : decode cX0_init 9 = .ok (.aload_n 0, 1) := by decide +kernel
theorem dX0_init_10 : decode cX0_init 10 = .ok (.iconst 5, 1) := by decide +kernel
theorem dX0_init_11 : decode cX0_init 11 = .ok (.newarray .int, 2) := by decide +kernel
theorem dX0_init_13 : decode cX0_init 13 = .ok (.putfield 15, 3) := by decide +kernel
theorem dX0_init_16 : decode cX0_init 16 = .ok (.aload_n 0, 1) := by decide +kernel
theorem dX0_init_17 : decode cX0_init 17 = .ok (.iconst 5, 1) := by decide +kernel
theorem dX0_init_18 : decode cX0_init 18 = .ok (.newarray .int, 2) := by decide +kernel
theorem dX0_init_20 : decode cX0_init 20 = .ok (.putfield 19, 3) := by decide +kernel
theorem dX0_init_23 : decode cX0_init 23 = .ok (.return_, 1) := by decide +kernel
theorem dX0_clear_0 : decode cX0_clear 0 = .ok (.aload_n 0, 1) := by decide +kernel
theorem dX0_clear_1 : decode cX0_clear 1 = .ok (.iconst 0, 1) := by decide +kernel
theorem dX0_clear_2 : decode cX0_clear 2 = .ok (.putfield 9, 3) := by decide +kernel
theorem dX0_clear_5 : decode cX0_clear 5 = .ok (.return_, 1) := by decide +kernel
theorem dX0_add_0 : decode cX0_add 0 = .ok (.aload_n 0, 1) := by decide +kernel
theorem dX0_add_1 : decode cX0_add 1 = .ok (.getfield 9, 3) := by decide +kernel
theorem dX0_add_4 : decode cX0_add 4 = .ok (.iconst 5, 1) := by decide +kernel
theorem dX0_add_5 : decode cX0_add 5 = .ok (.if_icmp .ge 23, 3) := by decide +kernel
theorem dX0_add_8 : decode cX0_add 8 = .ok (.aload_n 0, 1) := by decide +kernel
theorem dX0_add_9 : decode cX0_add 9 = .ok (.getfield 15, 3) := by decide +kernel
theorem dX0_add_12 : decode cX0_add 12 = .ok (.aload_n 0, 1) := by decide +kernel
theorem dX0_add_13 : decode cX0_add 13 = .ok (.getfield 9, 3) := by decide +kernel
theorem dX0_add_16 : decode cX0_add 16 = .ok (.iload_n 1, 1) := by decide +kernel
theorem dX0_add_17 : decode cX0_add 17 = .ok (.iastore, 1) := by decide +kernel
theorem dX0_add_18 : decode cX0_add 18 = .ok (.aload_n 0, 1) := by decide +kernel
theorem dX0_add_19 : decode cX0_add 19 = .ok (.dup, 1) := by decide +kernel
theorem dX0_add_20 : decode cX0_add 20 = .ok (.getfield 9, 3) := by decide +kernel
theorem dX0_add_23 : decode cX0_add 23 = .ok (.iconst 1, 1) := by decide +kernel
theorem dX0_add_24 : decode cX0_add 24 = .ok (.iadd, 1) := by decide +kernel
theorem dX0_add_25 : decode cX0_add 25 = .ok (.putfield 9, 3) := by decide +kernel
theorem dX0_add_28 : decode cX0_add 28 = .ok (.return_, 1) := by decide +kernel
theorem dX0_has_0 : decode cX0_has 0 = .ok (.iload_n 1, 1) := by decide +kernel
theorem dX0_has_1 : decode cX0_has 1 = .ok (.ifCond .lt 20, 3) := by decide +kernel
theorem dX0_has_4 : decode cX0_has 4 = .ok (.iload_n 1, 1) := by decide +kernel
theorem dX0_has_5 : decode cX0_has 5 = .ok (.aload_n 0, 1) := by decide +kernel
theorem dX0_has_6 : decode cX0_has 6 = .ok (.getfield 9, 3) := by decide +kernel
theorem dX0_has_9 : decode cX0_has 9 = .ok (.if_icmp .ge 12, 3) := by decide +kernel
theorem dX0_has_12 : decode cX0_has 12 = .ok (.iload_n 1, 1) := by decide +kernel
theorem dX0_has_13 : decode cX0_has 13 = .ok (.iconst 5, 1) := by decide +kernel
theorem dX0_has_14 : decode cX0_has 14 = .ok (.if_icmp .ge 7, 3) := by decide +kernel
theorem dX0_has_17 : decode cX0_has 17 = .ok (.iconst 1, 1) := by decide +kernel
theorem dX0_has_18 : decode cX0_has 18 = .ok (.goto 4, 3) := by decide +kernel
theorem dX0_has_21 : decode cX0_has 21 = .ok (.iconst 0, 1) := by decide +kernel
theorem dX0_has_22 : decode cX0_has 22 = .ok (.ireturn, 1) := by decide +kernel
theorem dX0_inRow_0 : decode cX0_inRow 0 = .ok (.aload_n 0, 1) := by decide +kernel
theorem dX0_inRow_1 : decode cX0_inRow 1 = .ok (.iload_n 1, 1) := by decide +kernel
theorem dX0_inRow_2 : decode cX0_inRow 2 = .ok (.invokevirtual 22, 3) := by decide +kernel
theorem dX0_inRow_5 : decode cX0_inRow 5 = .ok (.ifCond .eq 12, 3) := by decide +kernel
theorem dX0_inRow_8 : decode cX0_inRow 8 = .ok (.aload_n 0, 1) := by decide +kernel
theorem dX0_inRow_9 : decode cX0_inRow 9 = .ok (.getfield 15, 3) := by decide +kernel
theorem dX0_inRow_12 : decode cX0_inRow 12 = .ok (.iload_n 1, 1) := by decide +kernel
theorem dX0_inRow_13 : decode cX0_inRow 13 = .ok (.iaload, 1) := by decide +kernel
theorem dX0_inRow_14 : decode cX0_inRow 14 = .ok (.goto 4, 3) := by decide +kernel
theorem dX0_inRow_17 : decode cX0_inRow 17 = .ok (.iconst (-1), 1) := by decide +kernel
theorem dX0_inRow_18 : decode cX0_inRow 18 = .ok (.ireturn, 1) := by decide +kernel
theorem dX0_inBest_0 : decode cX0_inBest 0 = .ok (.aload_n 0, 1) := by decide +kernel
theorem dX0_inBest_1 : decode cX0_inBest 1 = .ok (.iload_n 1, 1) := by decide +kernel
theorem dX0_inBest_2 : decode cX0_inBest 2 = .ok (.invokevirtual 22, 3) := by decide +kernel
theorem dX0_inBest_5 : decode cX0_inBest 5 = .ok (.ifCond .eq 12, 3) := by decide +kernel
theorem dX0_inBest_8 : decode cX0_inBest 8 = .ok (.aload_n 0, 1) := by decide +kernel
theorem dX0_inBest_9 : decode cX0_inBest 9 = .ok (.getfield 19, 3) := by decide +kernel
theorem dX0_inBest_12 : decode cX0_inBest 12 = .ok (.iload_n 1, 1) := by decide +kernel
theorem dX0_inBest_13 : decode cX0_inBest 13 = .ok (.iaload, 1) := by decide +kernel
theorem dX0_inBest_14 : decode cX0_inBest 14 = .ok (.goto 4, 3) := by decide +kernel
theorem dX0_inBest_17 : decode cX0_inBest 17 = .ok (.iconst (-1), 1) := by decide +kernel
theorem dX0_inBest_18 : decode cX0_inBest 18 = .ok (.ireturn, 1) := by decide +kernel
theorem dX0_greatestCopy_0 : decode cX0_greatestCopy 0 = .ok (.iload_n 2, 1) := by decide +kernel
theorem dX0_greatestCopy_1 : decode cX0_greatestCopy 1 = .ok (.istore_n 3, 1) := by decide +kernel
theorem dX0_greatestCopy_2 : decode cX0_greatestCopy 2 = .ok (.iconst 0, 1) := by decide +kernel
theorem dX0_greatestCopy_3 : decode cX0_greatestCopy 3 = .ok (.istore 4, 2) := by decide +kernel
theorem dX0_greatestCopy_5 : decode cX0_greatestCopy 5 = .ok (.iload 4, 2) := by decide +kernel
theorem dX0_greatestCopy_7 : decode cX0_greatestCopy 7 = .ok (.aload_n 0, 1) := by decide +kernel
theorem dX0_greatestCopy_8 : decode cX0_greatestCopy 8 = .ok (.getfield 9, 3) := by decide +kernel
theorem dX0_greatestCopy_11 : decode cX0_greatestCopy 11 = .ok (.if_icmp .ge 21, 3) := by decide +kernel
theorem dX0_greatestCopy_14 : decode cX0_greatestCopy 14 = .ok (.aload_n 1, 1) := by decide +kernel
theorem dX0_greatestCopy_15 : decode cX0_greatestCopy 15 = .ok (.aload_n 0, 1) := by decide +kernel
theorem dX0_greatestCopy_16 : decode cX0_greatestCopy 16 = .ok (.iload 4, 2) := by decide +kernel
theorem dX0_greatestCopy_18 : decode cX0_greatestCopy 18 = .ok (.invokevirtual 26, 3) := by decide +kernel
theorem dX0_greatestCopy_21 : decode cX0_greatestCopy 21 = .ok (.iload_n 3, 1) := by decide +kernel
theorem dX0_greatestCopy_22 : decode cX0_greatestCopy 22 = .ok (.invokevirtual 30, 3) := by decide +kernel
theorem dX0_greatestCopy_25 : decode cX0_greatestCopy 25 = .ok (.istore_n 3, 1) := by decide +kernel
theorem dX0_greatestCopy_26 : decode cX0_greatestCopy 26 = .ok (.iinc 4 1, 3) := by decide +kernel
theorem dX0_greatestCopy_29 : decode cX0_greatestCopy 29 = .ok (.goto (-24), 3) := by decide +kernel
theorem dX0_greatestCopy_32 : decode cX0_greatestCopy 32 = .ok (.iload_n 3, 1) := by decide +kernel
theorem dX0_greatestCopy_33 : decode cX0_greatestCopy 33 = .ok (.ireturn, 1) := by decide +kernel
theorem dX0_leastCopy_0 : decode cX0_leastCopy 0 = .ok (.iload_n 2, 1) := by decide +kernel
theorem dX0_leastCopy_1 : decode cX0_leastCopy 1 = .ok (.istore_n 3, 1) := by decide +kernel
theorem dX0_leastCopy_2 : decode cX0_leastCopy 2 = .ok (.iconst 0, 1) := by decide +kernel
theorem dX0_leastCopy_3 : decode cX0_leastCopy 3 = .ok (.istore 4, 2) := by decide +kernel
theorem dX0_leastCopy_5 : decode cX0_leastCopy 5 = .ok (.iload 4, 2) := by decide +kernel
theorem dX0_leastCopy_7 : decode cX0_leastCopy 7 = .ok (.aload_n 0, 1) := by decide +kernel
theorem dX0_leastCopy_8 : decode cX0_leastCopy 8 = .ok (.getfield 9, 3) := by decide +kernel
theorem dX0_leastCopy_11 : decode cX0_leastCopy 11 = .ok (.if_icmp .ge 21, 3) := by decide +kernel
theorem dX0_leastCopy_14 : decode cX0_leastCopy 14 = .ok (.aload_n 1, 1) := by decide +kernel
theorem dX0_leastCopy_15 : decode cX0_leastCopy 15 = .ok (.aload_n 0, 1) := by decide +kernel
theorem dX0_leastCopy_16 : decode cX0_leastCopy 16 = .ok (.iload 4, 2) := by decide +kernel
theorem dX0_leastCopy_18 : decode cX0_leastCopy 18 = .ok (.invokevirtual 26, 3) := by decide +kernel
theorem dX0_leastCopy_21 : decode cX0_leastCopy 21 = .ok (.iload_n 3, 1) := by decide +kernel
theorem dX0_leastCopy_22 : decode cX0_leastCopy 22 = .ok (.invokevirtual 36, 3) := by decide +kernel
theorem dX0_leastCopy_25 : decode cX0_leastCopy 25 = .ok (.istore_n 3, 1) := by decide +kernel
theorem dX0_leastCopy_26 : decode cX0_leastCopy 26 = .ok (.iinc 4 1, 3) := by decide +kernel
theorem dX0_leastCopy_29 : decode cX0_leastCopy 29 = .ok (.goto (-24), 3) := by decide +kernel
theorem dX0_leastCopy_32 : decode cX0_leastCopy 32 = .ok (.iload_n 3, 1) := by decide +kernel
theorem dX0_leastCopy_33 : decode cX0_leastCopy 33 = .ok (.ireturn, 1) := by decide +kernel
theorem dX0_spread_0 : decode cX0_spread 0 = .ok (.aload_n 0, 1) := by decide +kernel
theorem dX0_spread_1 : decode cX0_spread 1 = .ok (.aload_n 1, 1) := by decide +kernel
theorem dX0_spread_2 : decode cX0_spread 2 = .ok (.iload_n 2, 1) := by decide +kernel
theorem dX0_spread_3 : decode cX0_spread 3 = .ok (.invokevirtual 39, 3) := by decide +kernel
theorem dX0_spread_6 : decode cX0_spread 6 = .ok (.aload_n 0, 1) := by decide +kernel
theorem dX0_spread_7 : decode cX0_spread 7 = .ok (.aload_n 1, 1) := by decide +kernel
theorem dX0_spread_8 : decode cX0_spread 8 = .ok (.iload_n 2, 1) := by decide +kernel
theorem dX0_spread_9 : decode cX0_spread 9 = .ok (.invokevirtual 43, 3) := by decide +kernel
theorem dX0_spread_12 : decode cX0_spread 12 = .ok (.isub, 1) := by decide +kernel
theorem dX0_spread_13 : decode cX0_spread 13 = .ok (.ireturn, 1) := by decide +kernel
theorem dX0_findBest_0 : decode cX0_findBest 0 = .ok (.aload_n 0, 1) := by decide +kernel
theorem dX0_findBest_1 : decode cX0_findBest 1 = .ok (.invokevirtual 46, 3) := by decide +kernel
theorem dX0_findBest_4 : decode cX0_findBest 4 = .ok (.aload_n 0, 1) := by decide +kernel
theorem dX0_findBest_5 : decode cX0_findBest 5 = .ok (.aload_n 1, 1) := by decide +kernel
theorem dX0_findBest_6 : decode cX0_findBest 6 = .ok (.iload_n 2, 1) := by decide +kernel
theorem dX0_findBest_7 : decode cX0_findBest 7 = .ok (.invokevirtual 49, 3) := by decide +kernel
theorem dX0_findBest_10 : decode cX0_findBest 10 = .ok (.istore_n 3, 1) := by decide +kernel
theorem dX0_findBest_11 : decode cX0_findBest 11 = .ok (.aload_n 0, 1) := by decide +kernel
theorem dX0_findBest_12 : decode cX0_findBest 12 = .ok (.invokevirtual 52, 3) := by decide +kernel
theorem dX0_findBest_15 : decode cX0_findBest 15 = .ok (.iconst 1, 1) := by decide +kernel
theorem dX0_findBest_16 : decode cX0_findBest 16 = .ok (.istore 4, 2) := by decide +kernel
theorem dX0_findBest_18 : decode cX0_findBest 18 = .ok (.iload 4, 2) := by decide +kernel
theorem dX0_findBest_20 : decode cX0_findBest 20 = .ok (.bipush 120, 2) := by decide +kernel
theorem dX0_findBest_22 : decode cX0_findBest 22 = .ok (.if_icmp .ge 37, 3) := by decide +kernel
theorem dX0_findBest_25 : decode cX0_findBest 25 = .ok (.aload_n 0, 1) := by decide +kernel
theorem dX0_findBest_26 : decode cX0_findBest 26 = .ok (.invokevirtual 55, 3) := by decide +kernel
theorem dX0_findBest_29 : decode cX0_findBest 29 = .ok (.ifCond .eq 30, 3) := by decide +kernel
theorem dX0_findBest_32 : decode cX0_findBest 32 = .ok (.aload_n 0, 1) := by decide +kernel
theorem dX0_findBest_33 : decode cX0_findBest 33 = .ok (.aload_n 1, 1) := by decide +kernel
theorem dX0_findBest_34 : decode cX0_findBest 34 = .ok (.iload_n 2, 1) := by decide +kernel
theorem dX0_findBest_35 : decode cX0_findBest 35 = .ok (.invokevirtual 49, 3) := by decide +kernel
theorem dX0_findBest_38 : decode cX0_findBest 38 = .ok (.istore 5, 2) := by decide +kernel
theorem dX0_findBest_40 : decode cX0_findBest 40 = .ok (.iload 5, 2) := by decide +kernel
theorem dX0_findBest_42 : decode cX0_findBest 42 = .ok (.iload_n 3, 1) := by decide +kernel
theorem dX0_findBest_43 : decode cX0_findBest 43 = .ok (.if_icmp .ge 10, 3) := by decide +kernel
theorem dX0_findBest_46 : decode cX0_findBest 46 = .ok (.iload 5, 2) := by decide +kernel
theorem dX0_findBest_48 : decode cX0_findBest 48 = .ok (.istore_n 3, 1) := by decide +kernel
theorem dX0_findBest_49 : decode cX0_findBest 49 = .ok (.aload_n 0, 1) := by decide +kernel
theorem dX0_findBest_50 : decode cX0_findBest 50 = .ok (.invokevirtual 52, 3) := by decide +kernel
theorem dX0_findBest_53 : decode cX0_findBest 53 = .ok (.iinc 4 1, 3) := by decide +kernel
theorem dX0_findBest_56 : decode cX0_findBest 56 = .ok (.goto (-38), 3) := by decide +kernel
theorem dX0_findBest_59 : decode cX0_findBest 59 = .ok (.iload_n 3, 1) := by decide +kernel
theorem dX0_findBest_60 : decode cX0_findBest 60 = .ok (.ireturn, 1) := by decide +kernel
theorem dX0_keepAsBest_0 : decode cX0_keepAsBest 0 = .ok (.iconst 0, 1) := by decide +kernel
theorem dX0_keepAsBest_1 : decode cX0_keepAsBest 1 = .ok (.istore_n 1, 1) := by decide +kernel
theorem dX0_keepAsBest_2 : decode cX0_keepAsBest 2 = .ok (.iload_n 1, 1) := by decide +kernel
theorem dX0_keepAsBest_3 : decode cX0_keepAsBest 3 = .ok (.aload_n 0, 1) := by decide +kernel
theorem dX0_keepAsBest_4 : decode cX0_keepAsBest 4 = .ok (.getfield 9, 3) := by decide +kernel
theorem dX0_keepAsBest_7 : decode cX0_keepAsBest 7 = .ok (.if_icmp .ge 26, 3) := by decide +kernel
theorem dX0_keepAsBest_10 : decode cX0_keepAsBest 10 = .ok (.iload_n 1, 1) := by decide +kernel
theorem dX0_keepAsBest_11 : decode cX0_keepAsBest 11 = .ok (.iconst 5, 1) := by decide +kernel
theorem dX0_keepAsBest_12 : decode cX0_keepAsBest 12 = .ok (.if_icmp .ge 21, 3) := by decide +kernel
theorem dX0_keepAsBest_15 : decode cX0_keepAsBest 15 = .ok (.aload_n 0, 1) := by decide +kernel
theorem dX0_keepAsBest_16 : decode cX0_keepAsBest 16 = .ok (.getfield 19, 3) := by decide +kernel
theorem dX0_keepAsBest_19 : decode cX0_keepAsBest 19 = .ok (.iload_n 1, 1) := by decide +kernel
theorem dX0_keepAsBest_20 : decode cX0_keepAsBest 20 = .ok (.aload_n 0, 1) := by decide +kernel
theorem dX0_keepAsBest_21 : decode cX0_keepAsBest 21 = .ok (.getfield 15, 3) := by decide +kernel
theorem dX0_keepAsBest_24 : decode cX0_keepAsBest 24 = .ok (.iload_n 1, 1) := by decide +kernel
theorem dX0_keepAsBest_25 : decode cX0_keepAsBest 25 = .ok (.iaload, 1) := by decide +kernel
theorem dX0_keepAsBest_26 : decode cX0_keepAsBest 26 = .ok (.iastore, 1) := by decide +kernel
theorem dX0_keepAsBest_27 : decode cX0_keepAsBest 27 = .ok (.iinc 1 1, 3) := by decide +kernel
theorem dX0_keepAsBest_30 : decode cX0_keepAsBest 30 = .ok (.goto (-28), 3) := by decide +kernel
theorem dX0_keepAsBest_33 : decode cX0_keepAsBest 33 = .ok (.return_, 1) := by decide +kernel
theorem dX0_sortRow_0 : decode cX0_sortRow 0 = .ok (.iconst 1, 1) := by decide +kernel
theorem dX0_sortRow_1 : decode cX0_sortRow 1 = .ok (.istore_n 1, 1) := by decide +kernel
theorem dX0_sortRow_2 : decode cX0_sortRow 2 = .ok (.iload_n 1, 1) := by decide +kernel
theorem dX0_sortRow_3 : decode cX0_sortRow 3 = .ok (.aload_n 0, 1) := by decide +kernel
theorem dX0_sortRow_4 : decode cX0_sortRow 4 = .ok (.getfield 9, 3) := by decide +kernel
theorem dX0_sortRow_7 : decode cX0_sortRow 7 = .ok (.if_icmp .ge 44, 3) := by decide +kernel
theorem dX0_sortRow_10 : decode cX0_sortRow 10 = .ok (.iload_n 1, 1) := by decide +kernel
theorem dX0_sortRow_11 : decode cX0_sortRow 11 = .ok (.istore_n 2, 1) := by decide +kernel
theorem dX0_sortRow_12 : decode cX0_sortRow 12 = .ok (.iload_n 2, 1) := by decide +kernel
theorem dX0_sortRow_13 : decode cX0_sortRow 13 = .ok (.ifCond .le 32, 3) := by decide +kernel
theorem dX0_sortRow_16 : decode cX0_sortRow 16 = .ok (.aload_n 0, 1) := by decide +kernel
theorem dX0_sortRow_17 : decode cX0_sortRow 17 = .ok (.iload_n 2, 1) := by decide +kernel
theorem dX0_sortRow_18 : decode cX0_sortRow 18 = .ok (.iconst 1, 1) := by decide +kernel
theorem dX0_sortRow_19 : decode cX0_sortRow 19 = .ok (.isub, 1) := by decide +kernel
theorem dX0_sortRow_20 : decode cX0_sortRow 20 = .ok (.invokevirtual 26, 3) := by decide +kernel
theorem dX0_sortRow_23 : decode cX0_sortRow 23 = .ok (.aload_n 0, 1) := by decide +kernel
theorem dX0_sortRow_24 : decode cX0_sortRow 24 = .ok (.iload_n 2, 1) := by decide +kernel
theorem dX0_sortRow_25 : decode cX0_sortRow 25 = .ok (.invokevirtual 26, 3) := by decide +kernel
theorem dX0_sortRow_28 : decode cX0_sortRow 28 = .ok (.if_icmp .le 17, 3) := by decide +kernel
theorem dX0_sortRow_31 : decode cX0_sortRow 31 = .ok (.aload_n 0, 1) := by decide +kernel
theorem dX0_sortRow_32 : decode cX0_sortRow 32 = .ok (.iload_n 2, 1) := by decide +kernel
theorem dX0_sortRow_33 : decode cX0_sortRow 33 = .ok (.iconst 1, 1) := by decide +kernel
theorem dX0_sortRow_34 : decode cX0_sortRow 34 = .ok (.isub, 1) := by decide +kernel
theorem dX0_sortRow_35 : decode cX0_sortRow 35 = .ok (.iload_n 2, 1) := by decide +kernel
theorem dX0_sortRow_36 : decode cX0_sortRow 36 = .ok (.invokevirtual 59, 3) := by decide +kernel
theorem dX0_sortRow_39 : decode cX0_sortRow 39 = .ok (.iinc 2 (-1), 3) := by decide +kernel
theorem dX0_sortRow_42 : decode cX0_sortRow 42 = .ok (.goto (-30), 3) := by decide +kernel
theorem dX0_sortRow_45 : decode cX0_sortRow 45 = .ok (.iinc 1 1, 3) := by decide +kernel
theorem dX0_sortRow_48 : decode cX0_sortRow 48 = .ok (.goto (-46), 3) := by decide +kernel
theorem dX0_sortRow_51 : decode cX0_sortRow 51 = .ok (.return_, 1) := by decide +kernel
theorem dX0_toNextOrder_0 : decode cX0_toNextOrder 0 = .ok (.aload_n 0, 1) := by decide +kernel
theorem dX0_toNextOrder_1 : decode cX0_toNextOrder 1 = .ok (.getfield 9, 3) := by decide +kernel
theorem dX0_toNextOrder_4 : decode cX0_toNextOrder 4 = .ok (.iconst 2, 1) := by decide +kernel
theorem dX0_toNextOrder_5 : decode cX0_toNextOrder 5 = .ok (.isub, 1) := by decide +kernel
theorem dX0_toNextOrder_6 : decode cX0_toNextOrder 6 = .ok (.istore_n 1, 1) := by decide +kernel
theorem dX0_toNextOrder_7 : decode cX0_toNextOrder 7 = .ok (.iload_n 1, 1) := by decide +kernel
theorem dX0_toNextOrder_8 : decode cX0_toNextOrder 8 = .ok (.ifCond .lt 24, 3) := by decide +kernel
theorem dX0_toNextOrder_11 : decode cX0_toNextOrder 11 = .ok (.aload_n 0, 1) := by decide +kernel
theorem dX0_toNextOrder_12 : decode cX0_toNextOrder 12 = .ok (.iload_n 1, 1) := by decide +kernel
theorem dX0_toNextOrder_13 : decode cX0_toNextOrder 13 = .ok (.invokevirtual 26, 3) := by decide +kernel
theorem dX0_toNextOrder_16 : decode cX0_toNextOrder 16 = .ok (.aload_n 0, 1) := by decide +kernel
theorem dX0_toNextOrder_17 : decode cX0_toNextOrder 17 = .ok (.iload_n 1, 1) := by decide +kernel
theorem dX0_toNextOrder_18 : decode cX0_toNextOrder 18 = .ok (.iconst 1, 1) := by decide +kernel
theorem dX0_toNextOrder_19 : decode cX0_toNextOrder 19 = .ok (.iadd, 1) := by decide +kernel
theorem dX0_toNextOrder_20 : decode cX0_toNextOrder 20 = .ok (.invokevirtual 26, 3) := by decide +kernel
theorem dX0_toNextOrder_23 : decode cX0_toNextOrder 23 = .ok (.if_icmp .lt 9, 3) := by decide +kernel
theorem dX0_toNextOrder_26 : decode cX0_toNextOrder 26 = .ok (.iinc 1 (-1), 3) := by decide +kernel
theorem dX0_toNextOrder_29 : decode cX0_toNextOrder 29 = .ok (.goto (-22), 3) := by decide +kernel
theorem dX0_toNextOrder_32 : decode cX0_toNextOrder 32 = .ok (.iload_n 1, 1) := by decide +kernel
theorem dX0_toNextOrder_33 : decode cX0_toNextOrder 33 = .ok (.ifCond .ge 5, 3) := by decide +kernel
theorem dX0_toNextOrder_36 : decode cX0_toNextOrder 36 = .ok (.iconst 0, 1) := by decide +kernel
theorem dX0_toNextOrder_37 : decode cX0_toNextOrder 37 = .ok (.ireturn, 1) := by decide +kernel
theorem dX0_toNextOrder_38 : decode cX0_toNextOrder 38 = .ok (.aload_n 0, 1) := by decide +kernel
theorem dX0_toNextOrder_39 : decode cX0_toNextOrder 39 = .ok (.getfield 9, 3) := by decide +kernel
theorem dX0_toNextOrder_42 : decode cX0_toNextOrder 42 = .ok (.iconst 1, 1) := by decide +kernel
theorem dX0_toNextOrder_43 : decode cX0_toNextOrder 43 = .ok (.isub, 1) := by decide +kernel
theorem dX0_toNextOrder_44 : decode cX0_toNextOrder 44 = .ok (.istore_n 2, 1) := by decide +kernel
theorem dX0_toNextOrder_45 : decode cX0_toNextOrder 45 = .ok (.iload_n 2, 1) := by decide +kernel
theorem dX0_toNextOrder_46 : decode cX0_toNextOrder 46 = .ok (.iload_n 1, 1) := by decide +kernel
theorem dX0_toNextOrder_47 : decode cX0_toNextOrder 47 = .ok (.if_icmp .le 22, 3) := by decide +kernel
theorem dX0_toNextOrder_50 : decode cX0_toNextOrder 50 = .ok (.aload_n 0, 1) := by decide +kernel
theorem dX0_toNextOrder_51 : decode cX0_toNextOrder 51 = .ok (.iload_n 2, 1) := by decide +kernel
theorem dX0_toNextOrder_52 : decode cX0_toNextOrder 52 = .ok (.invokevirtual 26, 3) := by decide +kernel
theorem dX0_toNextOrder_55 : decode cX0_toNextOrder 55 = .ok (.aload_n 0, 1) := by decide +kernel
theorem dX0_toNextOrder_56 : decode cX0_toNextOrder 56 = .ok (.iload_n 1, 1) := by decide +kernel
theorem dX0_toNextOrder_57 : decode cX0_toNextOrder 57 = .ok (.invokevirtual 26, 3) := by decide +kernel
theorem dX0_toNextOrder_60 : decode cX0_toNextOrder 60 = .ok (.if_icmp .gt 9, 3) := by decide +kernel
theorem dX0_toNextOrder_63 : decode cX0_toNextOrder 63 = .ok (.iinc 2 (-1), 3) := by decide +kernel
theorem dX0_toNextOrder_66 : decode cX0_toNextOrder 66 = .ok (.goto (-21), 3) := by decide +kernel
theorem dX0_toNextOrder_69 : decode cX0_toNextOrder 69 = .ok (.aload_n 0, 1) := by decide +kernel
theorem dX0_toNextOrder_70 : decode cX0_toNextOrder 70 = .ok (.iload_n 1, 1) := by decide +kernel
theorem dX0_toNextOrder_71 : decode cX0_toNextOrder 71 = .ok (.iload_n 2, 1) := by decide +kernel
theorem dX0_toNextOrder_72 : decode cX0_toNextOrder 72 = .ok (.invokevirtual 59, 3) := by decide +kernel
theorem dX0_toNextOrder_75 : decode cX0_toNextOrder 75 = .ok (.iload_n 1, 1) := by decide +kernel
theorem dX0_toNextOrder_76 : decode cX0_toNextOrder 76 = .ok (.iconst 1, 1) := by decide +kernel
theorem dX0_toNextOrder_77 : decode cX0_toNextOrder 77 = .ok (.iadd, 1) := by decide +kernel
theorem dX0_toNextOrder_78 : decode cX0_toNextOrder 78 = .ok (.istore_n 3, 1) := by decide +kernel
theorem dX0_toNextOrder_79 : decode cX0_toNextOrder 79 = .ok (.aload_n 0, 1) := by decide +kernel
theorem dX0_toNextOrder_80 : decode cX0_toNextOrder 80 = .ok (.getfield 9, 3) := by decide +kernel
theorem dX0_toNextOrder_83 : decode cX0_toNextOrder 83 = .ok (.iconst 1, 1) := by decide +kernel
theorem dX0_toNextOrder_84 : decode cX0_toNextOrder 84 = .ok (.isub, 1) := by decide +kernel
theorem dX0_toNextOrder_85 : decode cX0_toNextOrder 85 = .ok (.istore 4, 2) := by decide +kernel
theorem dX0_toNextOrder_87 : decode cX0_toNextOrder 87 = .ok (.iload_n 3, 1) := by decide +kernel
theorem dX0_toNextOrder_88 : decode cX0_toNextOrder 88 = .ok (.iload 4, 2) := by decide +kernel
theorem dX0_toNextOrder_90 : decode cX0_toNextOrder 90 = .ok (.if_icmp .ge 19, 3) := by decide +kernel
theorem dX0_toNextOrder_93 : decode cX0_toNextOrder 93 = .ok (.aload_n 0, 1) := by decide +kernel
theorem dX0_toNextOrder_94 : decode cX0_toNextOrder 94 = .ok (.iload_n 3, 1) := by decide +kernel
theorem dX0_toNextOrder_95 : decode cX0_toNextOrder 95 = .ok (.iload 4, 2) := by decide +kernel
theorem dX0_toNextOrder_97 : decode cX0_toNextOrder 97 = .ok (.invokevirtual 59, 3) := by decide +kernel
theorem dX0_toNextOrder_100 : decode cX0_toNextOrder 100 = .ok (.iinc 3 1, 3) := by decide +kernel
theorem dX0_toNextOrder_103 : decode cX0_toNextOrder 103 = .ok (.iinc 4 (-1), 3) := by decide +kernel
theorem dX0_toNextOrder_106 : decode cX0_toNextOrder 106 = .ok (.goto (-19), 3) := by decide +kernel
theorem dX0_toNextOrder_109 : decode cX0_toNextOrder 109 = .ok (.iconst 1, 1) := by decide +kernel
theorem dX0_toNextOrder_110 : decode cX0_toNextOrder 110 = .ok (.ireturn, 1) := by decide +kernel
theorem dX0_exchange_0 : decode cX0_exchange 0 = .ok (.aload_n 0, 1) := by decide +kernel
theorem dX0_exchange_1 : decode cX0_exchange 1 = .ok (.iload_n 1, 1) := by decide +kernel
theorem dX0_exchange_2 : decode cX0_exchange 2 = .ok (.invokevirtual 22, 3) := by decide +kernel
theorem dX0_exchange_5 : decode cX0_exchange 5 = .ok (.ifCond .eq 37, 3) := by decide +kernel
theorem dX0_exchange_8 : decode cX0_exchange 8 = .ok (.aload_n 0, 1) := by decide +kernel
theorem dX0_exchange_9 : decode cX0_exchange 9 = .ok (.iload_n 2, 1) := by decide +kernel
theorem dX0_exchange_10 : decode cX0_exchange 10 = .ok (.invokevirtual 22, 3) := by decide +kernel
theorem dX0_exchange_13 : decode cX0_exchange 13 = .ok (.ifCond .eq 29, 3) := by decide +kernel
theorem dX0_exchange_16 : decode cX0_exchange 16 = .ok (.aload_n 0, 1) := by decide +kernel
theorem dX0_exchange_17 : decode cX0_exchange 17 = .ok (.getfield 15, 3) := by decide +kernel
theorem dX0_exchange_20 : decode cX0_exchange 20 = .ok (.iload_n 1, 1) := by decide +kernel
theorem dX0_exchange_21 : decode cX0_exchange 21 = .ok (.iaload, 1) := by decide +kernel
theorem dX0_exchange_22 : decode cX0_exchange 22 = .ok (.istore_n 3, 1) := by decide +kernel
theorem dX0_exchange_23 : decode cX0_exchange 23 = .ok (.aload_n 0, 1) := by decide +kernel
theorem dX0_exchange_24 : decode cX0_exchange 24 = .ok (.getfield 15, 3) := by decide +kernel
theorem dX0_exchange_27 : decode cX0_exchange 27 = .ok (.iload_n 1, 1) := by decide +kernel
theorem dX0_exchange_28 : decode cX0_exchange 28 = .ok (.aload_n 0, 1) := by decide +kernel
theorem dX0_exchange_29 : decode cX0_exchange 29 = .ok (.getfield 15, 3) := by decide +kernel
theorem dX0_exchange_32 : decode cX0_exchange 32 = .ok (.iload_n 2, 1) := by decide +kernel
theorem dX0_exchange_33 : decode cX0_exchange 33 = .ok (.iaload, 1) := by decide +kernel
theorem dX0_exchange_34 : decode cX0_exchange 34 = .ok (.iastore, 1) := by decide +kernel
theorem dX0_exchange_35 : decode cX0_exchange 35 = .ok (.aload_n 0, 1) := by decide +kernel
theorem dX0_exchange_36 : decode cX0_exchange 36 = .ok (.getfield 15, 3) := by decide +kernel
theorem dX0_exchange_39 : decode cX0_exchange 39 = .ok (.iload_n 2, 1) := by decide +kernel
theorem dX0_exchange_40 : decode cX0_exchange 40 = .ok (.iload_n 3, 1) := by decide +kernel
theorem dX0_exchange_41 : decode cX0_exchange 41 = .ok (.iastore, 1) := by decide +kernel
theorem dX0_exchange_42 : decode cX0_exchange 42 = .ok (.return_, 1) := by decide +kernel
theorem dX1_init_0 : decode cX1_init 0 = .ok (.aload_n 0, 1) := by decide +kernel
theorem dX1_init_1 : decode cX1_init 1 = .ok (.invokespecial 3, 3) := by decide +kernel
theorem dX1_init_4 : decode cX1_init 4 = .ok (.aload_n 0, 1) := by decide +kernel
theorem dX1_init_5 : decode cX1_init 5 = .ok (.iconst 0, 1) := by decide +kernel
theorem dX1_init_6 : decode cX1_init 6 = .ok (.putfield 9, 3) := by decide +kernel
theorem dX1_init_9 : decode cX1_init 9 = .ok (.aload_n 0, 1) := by decide +kernel
theorem dX1_init_10 : decode cX1_init 10 = .ok (.bipush 6, 2) := by decide +kernel
theorem dX1_init_12 : decode cX1_init 12 = .ok (.newarray .int, 2) := by decide +kernel
theorem dX1_init_14 : decode cX1_init 14 = .ok (.putfield 15, 3) := by decide +kernel
theorem dX1_init_17 : decode cX1_init 17 = .ok (.aload_n 0, 1) := by decide +kernel
theorem dX1_init_18 : decode cX1_init 18 = .ok (.bipush 6, 2) := by decide +kernel
theorem dX1_init_20 : decode cX1_init 20 = .ok (.newarray .int, 2) := by decide +kernel
theorem dX1_init_22 : decode cX1_init 22 = .ok (.putfield 19, 3) := by decide +kernel
theorem dX1_init_25 : decode cX1_init 25 = .ok (.return_, 1) := by decide +kernel
theorem dX1_count_0 : decode cX1_count 0 = .ok (.aload_n 0, 1) := by decide +kernel
theorem dX1_count_1 : decode cX1_count 1 = .ok (.getfield 9, 3) := by decide +kernel
theorem dX1_count_4 : decode cX1_count 4 = .ok (.ireturn, 1) := by decide +kernel
theorem dX1_has_0 : decode cX1_has 0 = .ok (.iload_n 1, 1) := by decide +kernel
theorem dX1_has_1 : decode cX1_has 1 = .ok (.ifCond .lt 21, 3) := by decide +kernel
theorem dX1_has_4 : decode cX1_has 4 = .ok (.iload_n 1, 1) := by decide +kernel
theorem dX1_has_5 : decode cX1_has 5 = .ok (.aload_n 0, 1) := by decide +kernel
theorem dX1_has_6 : decode cX1_has 6 = .ok (.getfield 9, 3) := by decide +kernel
theorem dX1_has_9 : decode cX1_has 9 = .ok (.if_icmp .ge 13, 3) := by decide +kernel
theorem dX1_has_12 : decode cX1_has 12 = .ok (.iload_n 1, 1) := by decide +kernel
theorem dX1_has_13 : decode cX1_has 13 = .ok (.bipush 6, 2) := by decide +kernel
theorem dX1_has_15 : decode cX1_has 15 = .ok (.if_icmp .ge 7, 3) := by decide +kernel
theorem dX1_has_18 : decode cX1_has 18 = .ok (.iconst 1, 1) := by decide +kernel
theorem dX1_has_19 : decode cX1_has 19 = .ok (.goto 4, 3) := by decide +kernel
theorem dX1_has_22 : decode cX1_has 22 = .ok (.iconst 0, 1) := by decide +kernel
theorem dX1_has_23 : decode cX1_has 23 = .ok (.ireturn, 1) := by decide +kernel
theorem dX1_kindOf_0 : decode cX1_kindOf 0 = .ok (.aload_n 0, 1) := by decide +kernel
theorem dX1_kindOf_1 : decode cX1_kindOf 1 = .ok (.iload_n 1, 1) := by decide +kernel
theorem dX1_kindOf_2 : decode cX1_kindOf 2 = .ok (.invokevirtual 22, 3) := by decide +kernel
theorem dX1_kindOf_5 : decode cX1_kindOf 5 = .ok (.ifCond .eq 12, 3) := by decide +kernel
theorem dX1_kindOf_8 : decode cX1_kindOf 8 = .ok (.aload_n 0, 1) := by decide +kernel
theorem dX1_kindOf_9 : decode cX1_kindOf 9 = .ok (.getfield 15, 3) := by decide +kernel
theorem dX1_kindOf_12 : decode cX1_kindOf 12 = .ok (.iload_n 1, 1) := by decide +kernel
theorem dX1_kindOf_13 : decode cX1_kindOf 13 = .ok (.iaload, 1) := by decide +kernel
theorem dX1_kindOf_14 : decode cX1_kindOf 14 = .ok (.goto 4, 3) := by decide +kernel
theorem dX1_kindOf_17 : decode cX1_kindOf 17 = .ok (.iconst 0, 1) := by decide +kernel
theorem dX1_kindOf_18 : decode cX1_kindOf 18 = .ok (.ireturn, 1) := by decide +kernel
theorem dX1_partOf_0 : decode cX1_partOf 0 = .ok (.aload_n 0, 1) := by decide +kernel
theorem dX1_partOf_1 : decode cX1_partOf 1 = .ok (.iload_n 1, 1) := by decide +kernel
theorem dX1_partOf_2 : decode cX1_partOf 2 = .ok (.invokevirtual 22, 3) := by decide +kernel
theorem dX1_partOf_5 : decode cX1_partOf 5 = .ok (.ifCond .eq 12, 3) := by decide +kernel
theorem dX1_partOf_8 : decode cX1_partOf 8 = .ok (.aload_n 0, 1) := by decide +kernel
theorem dX1_partOf_9 : decode cX1_partOf 9 = .ok (.getfield 19, 3) := by decide +kernel
theorem dX1_partOf_12 : decode cX1_partOf 12 = .ok (.iload_n 1, 1) := by decide +kernel
theorem dX1_partOf_13 : decode cX1_partOf 13 = .ok (.iaload, 1) := by decide +kernel
theorem dX1_partOf_14 : decode cX1_partOf 14 = .ok (.goto 4, 3) := by decide +kernel
theorem dX1_partOf_17 : decode cX1_partOf 17 = .ok (.iconst 1, 1) := by decide +kernel
theorem dX1_partOf_18 : decode cX1_partOf 18 = .ok (.ireturn, 1) := by decide +kernel
theorem dX1_clear_0 : decode cX1_clear 0 = .ok (.aload_n 0, 1) := by decide +kernel
theorem dX1_clear_1 : decode cX1_clear 1 = .ok (.iconst 0, 1) := by decide +kernel
theorem dX1_clear_2 : decode cX1_clear 2 = .ok (.putfield 9, 3) := by decide +kernel
theorem dX1_clear_5 : decode cX1_clear 5 = .ok (.return_, 1) := by decide +kernel
theorem dX1_add_0 : decode cX1_add 0 = .ok (.aload_n 0, 1) := by decide +kernel
theorem dX1_add_1 : decode cX1_add 1 = .ok (.getfield 9, 3) := by decide +kernel
theorem dX1_add_4 : decode cX1_add 4 = .ok (.bipush 6, 2) := by decide +kernel
theorem dX1_add_6 : decode cX1_add 6 = .ok (.if_icmp .lt 6, 3) := by decide +kernel
theorem dX1_add_9 : decode cX1_add 9 = .ok (.bipush (-4), 2) := by decide +kernel
theorem dX1_add_11 : decode cX1_add 11 = .ok (.ireturn, 1) := by decide +kernel
theorem dX1_add_12 : decode cX1_add 12 = .ok (.aload_n 0, 1) := by decide +kernel
theorem dX1_add_13 : decode cX1_add 13 = .ok (.getfield 15, 3) := by decide +kernel
theorem dX1_add_16 : decode cX1_add 16 = .ok (.aload_n 0, 1) := by decide +kernel
theorem dX1_add_17 : decode cX1_add 17 = .ok (.getfield 9, 3) := by decide +kernel
theorem dX1_add_20 : decode cX1_add 20 = .ok (.iload_n 1, 1) := by decide +kernel
theorem dX1_add_21 : decode cX1_add 21 = .ok (.iastore, 1) := by decide +kernel
theorem dX1_add_22 : decode cX1_add 22 = .ok (.aload_n 0, 1) := by decide +kernel
theorem dX1_add_23 : decode cX1_add 23 = .ok (.getfield 19, 3) := by decide +kernel
theorem dX1_add_26 : decode cX1_add 26 = .ok (.aload_n 0, 1) := by decide +kernel
theorem dX1_add_27 : decode cX1_add 27 = .ok (.getfield 9, 3) := by decide +kernel
theorem dX1_add_30 : decode cX1_add 30 = .ok (.iload_n 2, 1) := by decide +kernel
theorem dX1_add_31 : decode cX1_add 31 = .ok (.iastore, 1) := by decide +kernel
theorem dX1_add_32 : decode cX1_add 32 = .ok (.aload_n 0, 1) := by decide +kernel
theorem dX1_add_33 : decode cX1_add 33 = .ok (.dup, 1) := by decide +kernel
theorem dX1_add_34 : decode cX1_add 34 = .ok (.getfield 9, 3) := by decide +kernel
theorem dX1_add_37 : decode cX1_add 37 = .ok (.iconst 1, 1) := by decide +kernel
theorem dX1_add_38 : decode cX1_add 38 = .ok (.iadd, 1) := by decide +kernel
theorem dX1_add_39 : decode cX1_add 39 = .ok (.putfield 9, 3) := by decide +kernel
theorem dX1_add_42 : decode cX1_add 42 = .ok (.aload_n 0, 1) := by decide +kernel
theorem dX1_add_43 : decode cX1_add 43 = .ok (.getfield 9, 3) := by decide +kernel
theorem dX1_add_46 : decode cX1_add 46 = .ok (.iconst 1, 1) := by decide +kernel
theorem dX1_add_47 : decode cX1_add 47 = .ok (.isub, 1) := by decide +kernel
theorem dX1_add_48 : decode cX1_add 48 = .ok (.ireturn, 1) := by decide +kernel
theorem dX1_timesOf_0 : decode cX1_timesOf 0 = .ok (.aload_n 0, 1) := by decide +kernel
theorem dX1_timesOf_1 : decode cX1_timesOf 1 = .ok (.iload_n 1, 1) := by decide +kernel
theorem dX1_timesOf_2 : decode cX1_timesOf 2 = .ok (.invokevirtual 22, 3) := by decide +kernel
theorem dX1_timesOf_5 : decode cX1_timesOf 5 = .ok (.ifCond .ne 5, 3) := by decide +kernel
theorem dX1_timesOf_8 : decode cX1_timesOf 8 = .ok (.iconst 1, 1) := by decide +kernel
theorem dX1_timesOf_9 : decode cX1_timesOf 9 = .ok (.ireturn, 1) := by decide +kernel
theorem dX1_timesOf_10 : decode cX1_timesOf 10 = .ok (.aload_n 0, 1) := by decide +kernel
theorem dX1_timesOf_11 : decode cX1_timesOf 11 = .ok (.getfield 15, 3) := by decide +kernel
theorem dX1_timesOf_14 : decode cX1_timesOf 14 = .ok (.iload_n 1, 1) := by decide +kernel
theorem dX1_timesOf_15 : decode cX1_timesOf 15 = .ok (.iaload, 1) := by decide +kernel
theorem dX1_timesOf_16 : decode cX1_timesOf 16 = .ok (.ifCond .ne 12, 3) := by decide +kernel
theorem dX1_timesOf_19 : decode cX1_timesOf 19 = .ok (.aload_n 0, 1) := by decide +kernel
theorem dX1_timesOf_20 : decode cX1_timesOf 20 = .ok (.getfield 19, 3) := by decide +kernel
theorem dX1_timesOf_23 : decode cX1_timesOf 23 = .ok (.iload_n 1, 1) := by decide +kernel
theorem dX1_timesOf_24 : decode cX1_timesOf 24 = .ok (.iaload, 1) := by decide +kernel
theorem dX1_timesOf_25 : decode cX1_timesOf 25 = .ok (.goto 11, 3) := by decide +kernel
theorem dX1_timesOf_28 : decode cX1_timesOf 28 = .ok (.iconst 2, 1) := by decide +kernel
theorem dX1_timesOf_29 : decode cX1_timesOf 29 = .ok (.aload_n 0, 1) := by decide +kernel
theorem dX1_timesOf_30 : decode cX1_timesOf 30 = .ok (.getfield 19, 3) := by decide +kernel
theorem dX1_timesOf_33 : decode cX1_timesOf 33 = .ok (.iload_n 1, 1) := by decide +kernel
theorem dX1_timesOf_34 : decode cX1_timesOf 34 = .ok (.iaload, 1) := by decide +kernel
theorem dX1_timesOf_35 : decode cX1_timesOf 35 = .ok (.imul, 1) := by decide +kernel
theorem dX1_timesOf_36 : decode cX1_timesOf 36 = .ok (.ireturn, 1) := by decide +kernel
theorem dX1_feelsHeavier_0 : decode cX1_feelsHeavier 0 = .ok (.iload_n 2, 1) := by decide +kernel
theorem dX1_feelsHeavier_1 : decode cX1_feelsHeavier 1 = .ok (.iload_n 3, 1) := by decide +kernel
theorem dX1_feelsHeavier_2 : decode cX1_feelsHeavier 2 = .ok (.if_icmp .gt 5, 3) := by decide +kernel
theorem dX1_feelsHeavier_5 : decode cX1_feelsHeavier 5 = .ok (.iconst 0, 1) := by decide +kernel
theorem dX1_feelsHeavier_6 : decode cX1_feelsHeavier 6 = .ok (.ireturn, 1) := by decide +kernel
theorem dX1_feelsHeavier_7 : decode cX1_feelsHeavier 7 = .ok (.iload_n 2, 1) := by decide +kernel
theorem dX1_feelsHeavier_8 : decode cX1_feelsHeavier 8 = .ok (.iload_n 3, 1) := by decide +kernel
theorem dX1_feelsHeavier_9 : decode cX1_feelsHeavier 9 = .ok (.isub, 1) := by decide +kernel
theorem dX1_feelsHeavier_10 : decode cX1_feelsHeavier 10 = .ok (.aload_n 0, 1) := by decide +kernel
theorem dX1_feelsHeavier_11 : decode cX1_feelsHeavier 11 = .ok (.iload_n 1, 1) := by decide +kernel
theorem dX1_feelsHeavier_12 : decode cX1_feelsHeavier 12 = .ok (.invokevirtual 26, 3) := by decide +kernel
theorem dX1_feelsHeavier_15 : decode cX1_feelsHeavier 15 = .ok (.imul, 1) := by decide +kernel
theorem dX1_feelsHeavier_16 : decode cX1_feelsHeavier 16 = .ok (.istore 4, 2) := by decide +kernel
theorem dX1_feelsHeavier_18 : decode cX1_feelsHeavier 18 = .ok (.iload 4, 2) := by decide +kernel
theorem dX1_feelsHeavier_20 : decode cX1_feelsHeavier 20 = .ok (.iload_n 3, 1) := by decide +kernel
theorem dX1_feelsHeavier_21 : decode cX1_feelsHeavier 21 = .ok (.if_icmp .gt 18, 3) := by decide +kernel
theorem dX1_feelsHeavier_24 : decode cX1_feelsHeavier 24 = .ok (.aload_n 0, 1) := by decide +kernel
theorem dX1_feelsHeavier_25 : decode cX1_feelsHeavier 25 = .ok (.iload_n 1, 1) := by decide +kernel
theorem dX1_feelsHeavier_26 : decode cX1_feelsHeavier 26 = .ok (.invokevirtual 30, 3) := by decide +kernel
theorem dX1_feelsHeavier_29 : decode cX1_feelsHeavier 29 = .ok (.iconst 2, 1) := by decide +kernel
theorem dX1_feelsHeavier_30 : decode cX1_feelsHeavier 30 = .ok (.if_icmp .ne 13, 3) := by decide +kernel
theorem dX1_feelsHeavier_33 : decode cX1_feelsHeavier 33 = .ok (.iload 4, 2) := by decide +kernel
theorem dX1_feelsHeavier_35 : decode cX1_feelsHeavier 35 = .ok (.iload_n 3, 1) := by decide +kernel
theorem dX1_feelsHeavier_36 : decode cX1_feelsHeavier 36 = .ok (.if_icmp .ne 7, 3) := by decide +kernel
theorem dX1_feelsHeavier_39 : decode cX1_feelsHeavier 39 = .ok (.iconst 1, 1) := by decide +kernel
theorem dX1_feelsHeavier_40 : decode cX1_feelsHeavier 40 = .ok (.goto 4, 3) := by decide +kernel
theorem dX1_feelsHeavier_43 : decode cX1_feelsHeavier 43 = .ok (.iconst 0, 1) := by decide +kernel
theorem dX1_feelsHeavier_44 : decode cX1_feelsHeavier 44 = .ok (.ireturn, 1) := by decide +kernel
theorem dX1_feelsAlike_0 : decode cX1_feelsAlike 0 = .ok (.aload_n 0, 1) := by decide +kernel
theorem dX1_feelsAlike_1 : decode cX1_feelsAlike 1 = .ok (.iload_n 1, 1) := by decide +kernel
theorem dX1_feelsAlike_2 : decode cX1_feelsAlike 2 = .ok (.iload_n 2, 1) := by decide +kernel
theorem dX1_feelsAlike_3 : decode cX1_feelsAlike 3 = .ok (.iload_n 3, 1) := by decide +kernel
theorem dX1_feelsAlike_4 : decode cX1_feelsAlike 4 = .ok (.invokevirtual 33, 3) := by decide +kernel
theorem dX1_feelsAlike_7 : decode cX1_feelsAlike 7 = .ok (.ifCond .ne 17, 3) := by decide +kernel
theorem dX1_feelsAlike_10 : decode cX1_feelsAlike 10 = .ok (.aload_n 0, 1) := by decide +kernel
theorem dX1_feelsAlike_11 : decode cX1_feelsAlike 11 = .ok (.iload_n 1, 1) := by decide +kernel
theorem dX1_feelsAlike_12 : decode cX1_feelsAlike 12 = .ok (.iload_n 3, 1) := by decide +kernel
theorem dX1_feelsAlike_13 : decode cX1_feelsAlike 13 = .ok (.iload_n 2, 1) := by decide +kernel
theorem dX1_feelsAlike_14 : decode cX1_feelsAlike 14 = .ok (.invokevirtual 33, 3) := by decide +kernel
theorem dX1_feelsAlike_17 : decode cX1_feelsAlike 17 = .ok (.ifCond .ne 7, 3) := by decide +kernel
theorem dX1_feelsAlike_20 : decode cX1_feelsAlike 20 = .ok (.iconst 1, 1) := by decide +kernel
theorem dX1_feelsAlike_21 : decode cX1_feelsAlike 21 = .ok (.goto 4, 3) := by decide +kernel
theorem dX1_feelsAlike_24 : decode cX1_feelsAlike 24 = .ok (.iconst 0, 1) := by decide +kernel
theorem dX1_feelsAlike_25 : decode cX1_feelsAlike 25 = .ok (.ireturn, 1) := by decide +kernel
theorem dX1_greatestUntold_0 : decode cX1_greatestUntold 0 = .ok (.aload_n 0, 1) := by decide +kernel
theorem dX1_greatestUntold_1 : decode cX1_greatestUntold 1 = .ok (.iload_n 1, 1) := by decide +kernel
theorem dX1_greatestUntold_2 : decode cX1_greatestUntold 2 = .ok (.invokevirtual 26, 3) := by decide +kernel
theorem dX1_greatestUntold_5 : decode cX1_greatestUntold 5 = .ok (.istore_n 3, 1) := by decide +kernel
theorem dX1_greatestUntold_6 : decode cX1_greatestUntold 6 = .ok (.iload_n 3, 1) := by decide +kernel
theorem dX1_greatestUntold_7 : decode cX1_greatestUntold 7 = .ok (.iconst 1, 1) := by decide +kernel
theorem dX1_greatestUntold_8 : decode cX1_greatestUntold 8 = .ok (.if_icmp .ge 5, 3) := by decide +kernel
theorem dX1_greatestUntold_11 : decode cX1_greatestUntold 11 = .ok (.iload_n 2, 1) := by decide +kernel
theorem dX1_greatestUntold_12 : decode cX1_greatestUntold 12 = .ok (.ireturn, 1) := by decide +kernel
theorem dX1_greatestUntold_13 : decode cX1_greatestUntold 13 = .ok (.iload_n 2, 1) := by decide +kernel
theorem dX1_greatestUntold_14 : decode cX1_greatestUntold 14 = .ok (.aload_n 0, 1) := by decide +kernel
theorem dX1_greatestUntold_15 : decode cX1_greatestUntold 15 = .ok (.iload_n 1, 1) := by decide +kernel
theorem dX1_greatestUntold_16 : decode cX1_greatestUntold 16 = .ok (.invokevirtual 30, 3) := by decide +kernel
theorem dX1_greatestUntold_19 : decode cX1_greatestUntold 19 = .ok (.iconst 2, 1) := by decide +kernel
theorem dX1_greatestUntold_20 : decode cX1_greatestUntold 20 = .ok (.if_icmp .ne 9, 3) := by decide +kernel
theorem dX1_greatestUntold_23 : decode cX1_greatestUntold 23 = .ok (.iload_n 2, 1) := by decide +kernel
theorem dX1_greatestUntold_24 : decode cX1_greatestUntold 24 = .ok (.iconst 1, 1) := by decide +kernel
theorem dX1_greatestUntold_25 : decode cX1_greatestUntold 25 = .ok (.isub, 1) := by decide +kernel
theorem dX1_greatestUntold_26 : decode cX1_greatestUntold 26 = .ok (.goto 4, 3) := by decide +kernel
theorem dX1_greatestUntold_29 : decode cX1_greatestUntold 29 = .ok (.iload_n 2, 1) := by decide +kernel
theorem dX1_greatestUntold_30 : decode cX1_greatestUntold 30 = .ok (.iload_n 3, 1) := by decide +kernel
theorem dX1_greatestUntold_31 : decode cX1_greatestUntold 31 = .ok (.idiv, 1) := by decide +kernel
theorem dX1_greatestUntold_32 : decode cX1_greatestUntold 32 = .ok (.iadd, 1) := by decide +kernel
theorem dX1_greatestUntold_33 : decode cX1_greatestUntold 33 = .ok (.ireturn, 1) := by decide +kernel
theorem dX1_leastUntold_0 : decode cX1_leastUntold 0 = .ok (.aload_n 0, 1) := by decide +kernel
theorem dX1_leastUntold_1 : decode cX1_leastUntold 1 = .ok (.iload_n 1, 1) := by decide +kernel
theorem dX1_leastUntold_2 : decode cX1_leastUntold 2 = .ok (.invokevirtual 26, 3) := by decide +kernel
theorem dX1_leastUntold_5 : decode cX1_leastUntold 5 = .ok (.istore_n 3, 1) := by decide +kernel
theorem dX1_leastUntold_6 : decode cX1_leastUntold 6 = .ok (.iload_n 3, 1) := by decide +kernel
theorem dX1_leastUntold_7 : decode cX1_leastUntold 7 = .ok (.iconst 1, 1) := by decide +kernel
theorem dX1_leastUntold_8 : decode cX1_leastUntold 8 = .ok (.if_icmp .ge 5, 3) := by decide +kernel
theorem dX1_leastUntold_11 : decode cX1_leastUntold 11 = .ok (.iload_n 2, 1) := by decide +kernel
theorem dX1_leastUntold_12 : decode cX1_leastUntold 12 = .ok (.ireturn, 1) := by decide +kernel
theorem dX1_leastUntold_13 : decode cX1_leastUntold 13 = .ok (.iload_n 2, 1) := by decide +kernel
theorem dX1_leastUntold_14 : decode cX1_leastUntold 14 = .ok (.iload_n 3, 1) := by decide +kernel
theorem dX1_leastUntold_15 : decode cX1_leastUntold 15 = .ok (.imul, 1) := by decide +kernel
theorem dX1_leastUntold_16 : decode cX1_leastUntold 16 = .ok (.istore 4, 2) := by decide +kernel
theorem dX1_leastUntold_18 : decode cX1_leastUntold 18 = .ok (.aload_n 0, 1) := by decide +kernel
theorem dX1_leastUntold_19 : decode cX1_leastUntold 19 = .ok (.iload_n 1, 1) := by decide +kernel
theorem dX1_leastUntold_20 : decode cX1_leastUntold 20 = .ok (.invokevirtual 30, 3) := by decide +kernel
theorem dX1_leastUntold_23 : decode cX1_leastUntold 23 = .ok (.iconst 2, 1) := by decide +kernel
theorem dX1_leastUntold_24 : decode cX1_leastUntold 24 = .ok (.if_icmp .ne 14, 3) := by decide +kernel
theorem dX1_leastUntold_27 : decode cX1_leastUntold 27 = .ok (.iload 4, 2) := by decide +kernel
theorem dX1_leastUntold_29 : decode cX1_leastUntold 29 = .ok (.iload_n 3, 1) := by decide +kernel
theorem dX1_leastUntold_30 : decode cX1_leastUntold 30 = .ok (.iconst 1, 1) := by decide +kernel
theorem dX1_leastUntold_31 : decode cX1_leastUntold 31 = .ok (.iadd, 1) := by decide +kernel
theorem dX1_leastUntold_32 : decode cX1_leastUntold 32 = .ok (.idiv, 1) := by decide +kernel
theorem dX1_leastUntold_33 : decode cX1_leastUntold 33 = .ok (.iconst 1, 1) := by decide +kernel
theorem dX1_leastUntold_34 : decode cX1_leastUntold 34 = .ok (.iadd, 1) := by decide +kernel
theorem dX1_leastUntold_35 : decode cX1_leastUntold 35 = .ok (.goto 11, 3) := by decide +kernel
theorem dX1_leastUntold_38 : decode cX1_leastUntold 38 = .ok (.iload 4, 2) := by decide +kernel
theorem dX1_leastUntold_40 : decode cX1_leastUntold 40 = .ok (.iload_n 3, 1) := by decide +kernel
theorem dX1_leastUntold_41 : decode cX1_leastUntold 41 = .ok (.iadd, 1) := by decide +kernel
theorem dX1_leastUntold_42 : decode cX1_leastUntold 42 = .ok (.iload_n 3, 1) := by decide +kernel
theorem dX1_leastUntold_43 : decode cX1_leastUntold 43 = .ok (.iconst 1, 1) := by decide +kernel
theorem dX1_leastUntold_44 : decode cX1_leastUntold 44 = .ok (.iadd, 1) := by decide +kernel
theorem dX1_leastUntold_45 : decode cX1_leastUntold 45 = .ok (.idiv, 1) := by decide +kernel
theorem dX1_leastUntold_46 : decode cX1_leastUntold 46 = .ok (.ireturn, 1) := by decide +kernel
theorem dX2_init_0 : decode cX2_init 0 = .ok (.aload_n 0, 1) := by decide +kernel
theorem dX2_init_1 : decode cX2_init 1 = .ok (.invokespecial 3, 3) := by decide +kernel
theorem dX2_init_4 : decode cX2_init 4 = .ok (.aload_n 0, 1) := by decide +kernel
theorem dX2_init_5 : decode cX2_init 5 = .ok (.iconst 0, 1) := by decide +kernel
theorem dX2_init_6 : decode cX2_init 6 = .ok (.putfield 9, 3) := by decide +kernel
theorem dX2_init_9 : decode cX2_init 9 = .ok (.aload_n 0, 1) := by decide +kernel
theorem dX2_init_10 : decode cX2_init 10 = .ok (.bipush 10, 2) := by decide +kernel
theorem dX2_init_12 : decode cX2_init 12 = .ok (.newarray .int, 2) := by decide +kernel
theorem dX2_init_14 : decode cX2_init 14 = .ok (.putfield 15, 3) := by decide +kernel
theorem dX2_init_17 : decode cX2_init 17 = .ok (.aload_n 0, 1) := by decide +kernel
theorem dX2_init_18 : decode cX2_init 18 = .ok (.bipush 10, 2) := by decide +kernel
theorem dX2_init_20 : decode cX2_init 20 = .ok (.newarray .int, 2) := by decide +kernel
theorem dX2_init_22 : decode cX2_init 22 = .ok (.putfield 19, 3) := by decide +kernel
theorem dX2_init_25 : decode cX2_init 25 = .ok (.aload_n 0, 1) := by decide +kernel
theorem dX2_init_26 : decode cX2_init 26 = .ok (.bipush 10, 2) := by decide +kernel
theorem dX2_init_28 : decode cX2_init 28 = .ok (.newarray .int, 2) := by decide +kernel
theorem dX2_init_30 : decode cX2_init 30 = .ok (.putfield 22, 3) := by decide +kernel
theorem dX2_init_33 : decode cX2_init 33 = .ok (.aload_n 0, 1) := by decide +kernel
theorem dX2_init_34 : decode cX2_init 34 = .ok (.bipush 10, 2) := by decide +kernel
theorem dX2_init_36 : decode cX2_init 36 = .ok (.newarray .int, 2) := by decide +kernel
theorem dX2_init_38 : decode cX2_init 38 = .ok (.putfield 25, 3) := by decide +kernel
theorem dX2_init_41 : decode cX2_init 41 = .ok (.return_, 1) := by decide +kernel
theorem dX2_count_0 : decode cX2_count 0 = .ok (.aload_n 0, 1) := by decide +kernel
theorem dX2_count_1 : decode cX2_count 1 = .ok (.getfield 9, 3) := by decide +kernel
theorem dX2_count_4 : decode cX2_count 4 = .ok (.ireturn, 1) := by decide +kernel
theorem dX2_has_0 : decode cX2_has 0 = .ok (.iload_n 1, 1) := by decide +kernel
theorem dX2_has_1 : decode cX2_has 1 = .ok (.ifCond .lt 21, 3) := by decide +kernel
theorem dX2_has_4 : decode cX2_has 4 = .ok (.iload_n 1, 1) := by decide +kernel
theorem dX2_has_5 : decode cX2_has 5 = .ok (.aload_n 0, 1) := by decide +kernel
theorem dX2_has_6 : decode cX2_has 6 = .ok (.getfield 9, 3) := by decide +kernel
theorem dX2_has_9 : decode cX2_has 9 = .ok (.if_icmp .ge 13, 3) := by decide +kernel
theorem dX2_has_12 : decode cX2_has 12 = .ok (.iload_n 1, 1) := by decide +kernel
theorem dX2_has_13 : decode cX2_has 13 = .ok (.bipush 10, 2) := by decide +kernel
theorem dX2_has_15 : decode cX2_has 15 = .ok (.if_icmp .ge 7, 3) := by decide +kernel
theorem dX2_has_18 : decode cX2_has 18 = .ok (.iconst 1, 1) := by decide +kernel
theorem dX2_has_19 : decode cX2_has 19 = .ok (.goto 4, 3) := by decide +kernel
theorem dX2_has_22 : decode cX2_has 22 = .ok (.iconst 0, 1) := by decide +kernel
theorem dX2_has_23 : decode cX2_has 23 = .ok (.ireturn, 1) := by decide +kernel
theorem dX2_firstOf_0 : decode cX2_firstOf 0 = .ok (.aload_n 0, 1) := by decide +kernel
theorem dX2_firstOf_1 : decode cX2_firstOf 1 = .ok (.iload_n 1, 1) := by decide +kernel
theorem dX2_firstOf_2 : decode cX2_firstOf 2 = .ok (.invokevirtual 28, 3) := by decide +kernel
theorem dX2_firstOf_5 : decode cX2_firstOf 5 = .ok (.ifCond .eq 12, 3) := by decide +kernel
theorem dX2_firstOf_8 : decode cX2_firstOf 8 = .ok (.aload_n 0, 1) := by decide +kernel
theorem dX2_firstOf_9 : decode cX2_firstOf 9 = .ok (.getfield 19, 3) := by decide +kernel
theorem dX2_firstOf_12 : decode cX2_firstOf 12 = .ok (.iload_n 1, 1) := by decide +kernel
theorem dX2_firstOf_13 : decode cX2_firstOf 13 = .ok (.iaload, 1) := by decide +kernel
theorem dX2_firstOf_14 : decode cX2_firstOf 14 = .ok (.goto 4, 3) := by decide +kernel
theorem dX2_firstOf_17 : decode cX2_firstOf 17 = .ok (.iconst (-1), 1) := by decide +kernel
theorem dX2_firstOf_18 : decode cX2_firstOf 18 = .ok (.ireturn, 1) := by decide +kernel
theorem dX2_secondOf_0 : decode cX2_secondOf 0 = .ok (.aload_n 0, 1) := by decide +kernel
theorem dX2_secondOf_1 : decode cX2_secondOf 1 = .ok (.iload_n 1, 1) := by decide +kernel
theorem dX2_secondOf_2 : decode cX2_secondOf 2 = .ok (.invokevirtual 28, 3) := by decide +kernel
theorem dX2_secondOf_5 : decode cX2_secondOf 5 = .ok (.ifCond .eq 12, 3) := by decide +kernel
theorem dX2_secondOf_8 : decode cX2_secondOf 8 = .ok (.aload_n 0, 1) := by decide +kernel
theorem dX2_secondOf_9 : decode cX2_secondOf 9 = .ok (.getfield 22, 3) := by decide +kernel
theorem dX2_secondOf_12 : decode cX2_secondOf 12 = .ok (.iload_n 1, 1) := by decide +kernel
theorem dX2_secondOf_13 : decode cX2_secondOf 13 = .ok (.iaload, 1) := by decide +kernel
theorem dX2_secondOf_14 : decode cX2_secondOf 14 = .ok (.goto 4, 3) := by decide +kernel
theorem dX2_secondOf_17 : decode cX2_secondOf 17 = .ok (.iconst (-1), 1) := by decide +kernel
theorem dX2_secondOf_18 : decode cX2_secondOf 18 = .ok (.ireturn, 1) := by decide +kernel
theorem dX2_clear_0 : decode cX2_clear 0 = .ok (.aload_n 0, 1) := by decide +kernel
theorem dX2_clear_1 : decode cX2_clear 1 = .ok (.iconst 0, 1) := by decide +kernel
theorem dX2_clear_2 : decode cX2_clear 2 = .ok (.putfield 9, 3) := by decide +kernel
theorem dX2_clear_5 : decode cX2_clear 5 = .ok (.return_, 1) := by decide +kernel
theorem dX2_add_0 : decode cX2_add 0 = .ok (.aload_n 0, 1) := by decide +kernel
theorem dX2_add_1 : decode cX2_add 1 = .ok (.getfield 9, 3) := by decide +kernel
theorem dX2_add_4 : decode cX2_add 4 = .ok (.bipush 10, 2) := by decide +kernel
theorem dX2_add_6 : decode cX2_add 6 = .ok (.if_icmp .lt 6, 3) := by decide +kernel
theorem dX2_add_9 : decode cX2_add 9 = .ok (.bipush (-4), 2) := by decide +kernel
theorem dX2_add_11 : decode cX2_add 11 = .ok (.ireturn, 1) := by decide +kernel
theorem dX2_add_12 : decode cX2_add 12 = .ok (.aload_n 0, 1) := by decide +kernel
theorem dX2_add_13 : decode cX2_add 13 = .ok (.getfield 15, 3) := by decide +kernel
theorem dX2_add_16 : decode cX2_add 16 = .ok (.aload_n 0, 1) := by decide +kernel
theorem dX2_add_17 : decode cX2_add 17 = .ok (.getfield 9, 3) := by decide +kernel
theorem dX2_add_20 : decode cX2_add 20 = .ok (.iload_n 1, 1) := by decide +kernel
theorem dX2_add_21 : decode cX2_add 21 = .ok (.iastore, 1) := by decide +kernel
theorem dX2_add_22 : decode cX2_add 22 = .ok (.aload_n 0, 1) := by decide +kernel
theorem dX2_add_23 : decode cX2_add 23 = .ok (.getfield 19, 3) := by decide +kernel
theorem dX2_add_26 : decode cX2_add 26 = .ok (.aload_n 0, 1) := by decide +kernel
theorem dX2_add_27 : decode cX2_add 27 = .ok (.getfield 9, 3) := by decide +kernel
theorem dX2_add_30 : decode cX2_add 30 = .ok (.iload_n 2, 1) := by decide +kernel
theorem dX2_add_31 : decode cX2_add 31 = .ok (.iastore, 1) := by decide +kernel
theorem dX2_add_32 : decode cX2_add 32 = .ok (.aload_n 0, 1) := by decide +kernel
theorem dX2_add_33 : decode cX2_add 33 = .ok (.getfield 22, 3) := by decide +kernel
theorem dX2_add_36 : decode cX2_add 36 = .ok (.aload_n 0, 1) := by decide +kernel
theorem dX2_add_37 : decode cX2_add 37 = .ok (.getfield 9, 3) := by decide +kernel
theorem dX2_add_40 : decode cX2_add 40 = .ok (.iload_n 3, 1) := by decide +kernel
theorem dX2_add_41 : decode cX2_add 41 = .ok (.iastore, 1) := by decide +kernel
theorem dX2_add_42 : decode cX2_add 42 = .ok (.aload_n 0, 1) := by decide +kernel
theorem dX2_add_43 : decode cX2_add 43 = .ok (.getfield 25, 3) := by decide +kernel
theorem dX2_add_46 : decode cX2_add 46 = .ok (.aload_n 0, 1) := by decide +kernel
theorem dX2_add_47 : decode cX2_add 47 = .ok (.getfield 9, 3) := by decide +kernel
theorem dX2_add_50 : decode cX2_add 50 = .ok (.iload 4, 2) := by decide +kernel
theorem dX2_add_52 : decode cX2_add 52 = .ok (.iastore, 1) := by decide +kernel
theorem dX2_add_53 : decode cX2_add 53 = .ok (.aload_n 0, 1) := by decide +kernel
theorem dX2_add_54 : decode cX2_add 54 = .ok (.dup, 1) := by decide +kernel
theorem dX2_add_55 : decode cX2_add 55 = .ok (.getfield 9, 3) := by decide +kernel
theorem dX2_add_58 : decode cX2_add 58 = .ok (.iconst 1, 1) := by decide +kernel
theorem dX2_add_59 : decode cX2_add 59 = .ok (.iadd, 1) := by decide +kernel
theorem dX2_add_60 : decode cX2_add 60 = .ok (.putfield 9, 3) := by decide +kernel
theorem dX2_add_63 : decode cX2_add 63 = .ok (.aload_n 0, 1) := by decide +kernel
theorem dX2_add_64 : decode cX2_add 64 = .ok (.getfield 9, 3) := by decide +kernel
theorem dX2_add_67 : decode cX2_add 67 = .ok (.iconst 1, 1) := by decide +kernel
theorem dX2_add_68 : decode cX2_add 68 = .ok (.isub, 1) := by decide +kernel
theorem dX2_add_69 : decode cX2_add 69 = .ok (.ireturn, 1) := by decide +kernel
theorem dX2_takeBack_0 : decode cX2_takeBack 0 = .ok (.aload_n 0, 1) := by decide +kernel
theorem dX2_takeBack_1 : decode cX2_takeBack 1 = .ok (.iconst 0, 1) := by decide +kernel
theorem dX2_takeBack_2 : decode cX2_takeBack 2 = .ok (.aload_n 0, 1) := by decide +kernel
theorem dX2_takeBack_3 : decode cX2_takeBack 3 = .ok (.getfield 9, 3) := by decide +kernel
theorem dX2_takeBack_6 : decode cX2_takeBack 6 = .ok (.iload_n 1, 1) := by decide +kernel
theorem dX2_takeBack_7 : decode cX2_takeBack 7 = .ok (.isub, 1) := by decide +kernel
theorem dX2_takeBack_8 : decode cX2_takeBack 8 = .ok (.invokestatic 32, 3) := by decide +kernel
theorem dX2_takeBack_11 : decode cX2_takeBack 11 = .ok (.putfield 9, 3) := by decide +kernel
theorem dX2_takeBack_14 : decode cX2_takeBack 14 = .ok (.aload_n 0, 1) := by decide +kernel
theorem dX2_takeBack_15 : decode cX2_takeBack 15 = .ok (.getfield 9, 3) := by decide +kernel
theorem dX2_takeBack_18 : decode cX2_takeBack 18 = .ok (.ireturn, 1) := by decide +kernel
theorem dX2_isFalse_0 : decode cX2_isFalse 0 = .ok (.aload_n 0, 1) := by decide +kernel
theorem dX2_isFalse_1 : decode cX2_isFalse 1 = .ok (.iload_n 1, 1) := by decide +kernel
theorem dX2_isFalse_2 : decode cX2_isFalse 2 = .ok (.invokevirtual 28, 3) := by decide +kernel
theorem dX2_isFalse_5 : decode cX2_isFalse 5 = .ok (.ifCond .ne 5, 3) := by decide +kernel
theorem dX2_isFalse_8 : decode cX2_isFalse 8 = .ok (.iconst 0, 1) := by decide +kernel
theorem dX2_isFalse_9 : decode cX2_isFalse 9 = .ok (.ireturn, 1) := by decide +kernel
theorem dX2_isFalse_10 : decode cX2_isFalse 10 = .ok (.aload_n 0, 1) := by decide +kernel
theorem dX2_isFalse_11 : decode cX2_isFalse 11 = .ok (.getfield 25, 3) := by decide +kernel
theorem dX2_isFalse_14 : decode cX2_isFalse 14 = .ok (.iload_n 1, 1) := by decide +kernel
theorem dX2_isFalse_15 : decode cX2_isFalse 15 = .ok (.iaload, 1) := by decide +kernel
theorem dX2_isFalse_16 : decode cX2_isFalse 16 = .ok (.iconst 1, 1) := by decide +kernel
theorem dX2_isFalse_17 : decode cX2_isFalse 17 = .ok (.if_icmp .ne 25, 3) := by decide +kernel
theorem dX2_isFalse_20 : decode cX2_isFalse 20 = .ok (.aload_n 2, 1) := by decide +kernel
theorem dX2_isFalse_21 : decode cX2_isFalse 21 = .ok (.aload_n 0, 1) := by decide +kernel
theorem dX2_isFalse_22 : decode cX2_isFalse 22 = .ok (.getfield 15, 3) := by decide +kernel
theorem dX2_isFalse_25 : decode cX2_isFalse 25 = .ok (.iload_n 1, 1) := by decide +kernel
theorem dX2_isFalse_26 : decode cX2_isFalse 26 = .ok (.iaload, 1) := by decide +kernel
theorem dX2_isFalse_27 : decode cX2_isFalse 27 = .ok (.iload_n 3, 1) := by decide +kernel
theorem dX2_isFalse_28 : decode cX2_isFalse 28 = .ok (.iload 4, 2) := by decide +kernel
theorem dX2_isFalse_30 : decode cX2_isFalse 30 = .ok (.invokevirtual 38, 3) := by decide +kernel
theorem dX2_isFalse_33 : decode cX2_isFalse 33 = .ok (.ifCond .ne 7, 3) := by decide +kernel
theorem dX2_isFalse_36 : decode cX2_isFalse 36 = .ok (.iconst 1, 1) := by decide +kernel
theorem dX2_isFalse_37 : decode cX2_isFalse 37 = .ok (.goto 4, 3) := by decide +kernel
theorem dX2_isFalse_40 : decode cX2_isFalse 40 = .ok (.iconst 0, 1) := by decide +kernel
theorem dX2_isFalse_41 : decode cX2_isFalse 41 = .ok (.ireturn, 1) := by decide +kernel
theorem dX2_isFalse_42 : decode cX2_isFalse 42 = .ok (.aload_n 2, 1) := by decide +kernel
theorem dX2_isFalse_43 : decode cX2_isFalse 43 = .ok (.aload_n 0, 1) := by decide +kernel
theorem dX2_isFalse_44 : decode cX2_isFalse 44 = .ok (.getfield 15, 3) := by decide +kernel
theorem dX2_isFalse_47 : decode cX2_isFalse 47 = .ok (.iload_n 1, 1) := by decide +kernel
theorem dX2_isFalse_48 : decode cX2_isFalse 48 = .ok (.iaload, 1) := by decide +kernel
theorem dX2_isFalse_49 : decode cX2_isFalse 49 = .ok (.iload_n 3, 1) := by decide +kernel
theorem dX2_isFalse_50 : decode cX2_isFalse 50 = .ok (.iload 4, 2) := by decide +kernel
theorem dX2_isFalse_52 : decode cX2_isFalse 52 = .ok (.invokevirtual 44, 3) := by decide +kernel
theorem dX2_isFalse_55 : decode cX2_isFalse 55 = .ok (.ifCond .ne 7, 3) := by decide +kernel
theorem dX2_isFalse_58 : decode cX2_isFalse 58 = .ok (.iconst 1, 1) := by decide +kernel
theorem dX2_isFalse_59 : decode cX2_isFalse 59 = .ok (.goto 4, 3) := by decide +kernel
theorem dX2_isFalse_62 : decode cX2_isFalse 62 = .ok (.iconst 0, 1) := by decide +kernel
theorem dX2_isFalse_63 : decode cX2_isFalse 63 = .ok (.ireturn, 1) := by decide +kernel
theorem dX3_init_0 : decode cX3_init 0 = .ok (.aload_n 0, 1) := by decide +kernel
theorem dX3_init_1 : decode cX3_init 1 = .ok (.invokespecial 3, 3) := by decide +kernel
theorem dX3_init_4 : decode cX3_init 4 = .ok (.aload_n 0, 1) := by decide +kernel
theorem dX3_init_5 : decode cX3_init 5 = .ok (.iconst 4, 1) := by decide +kernel
theorem dX3_init_6 : decode cX3_init 6 = .ok (.newarray .boolean, 2) := by decide +kernel
theorem dX3_init_8 : decode cX3_init 8 = .ok (.putfield 9, 3) := by decide +kernel
theorem dX3_init_11 : decode cX3_init 11 = .ok (.aload_n 0, 1) := by decide +kernel
theorem dX3_init_12 : decode cX3_init 12 = .ok (.iconst 4, 1) := by decide +kernel
theorem dX3_init_13 : decode cX3_init 13 = .ok (.newarray .int, 2) := by decide +kernel
theorem dX3_init_15 : decode cX3_init 15 = .ok (.putfield 15, 3) := by decide +kernel
theorem dX3_init_18 : decode cX3_init 18 = .ok (.aload_n 0, 1) := by decide +kernel
theorem dX3_init_19 : decode cX3_init 19 = .ok (.iconst 4, 1) := by decide +kernel
theorem dX3_init_20 : decode cX3_init 20 = .ok (.newarray .int, 2) := by decide +kernel
theorem dX3_init_22 : decode cX3_init 22 = .ok (.putfield 19, 3) := by decide +kernel
theorem dX3_init_25 : decode cX3_init 25 = .ok (.aload_n 0, 1) := by decide +kernel
theorem dX3_init_26 : decode cX3_init 26 = .ok (.iconst 4, 1) := by decide +kernel
theorem dX3_init_27 : decode cX3_init 27 = .ok (.bipush 40, 2) := by decide +kernel
theorem dX3_init_29 : decode cX3_init 29 = .ok (.multianewarray 22 2, 4) := by decide +kernel
theorem dX3_init_33 : decode cX3_init 33 = .ok (.putfield 24, 3) := by decide +kernel
theorem dX3_init_36 : decode cX3_init 36 = .ok (.return_, 1) := by decide +kernel
theorem dX3_has_0 : decode cX3_has 0 = .ok (.iload_n 1, 1) := by decide +kernel
theorem dX3_has_1 : decode cX3_has 1 = .ok (.ifCond .lt 12, 3) := by decide +kernel
theorem dX3_has_4 : decode cX3_has 4 = .ok (.iload_n 1, 1) := by decide +kernel
theorem dX3_has_5 : decode cX3_has 5 = .ok (.iconst 4, 1) := by decide +kernel
theorem dX3_has_6 : decode cX3_has 6 = .ok (.if_icmp .ge 7, 3) := by decide +kernel
theorem dX3_has_9 : decode cX3_has 9 = .ok (.iconst 1, 1) := by decide +kernel
theorem dX3_has_10 : decode cX3_has 10 = .ok (.goto 4, 3) := by decide +kernel
theorem dX3_has_13 : decode cX3_has 13 = .ok (.iconst 0, 1) := by decide +kernel
theorem dX3_has_14 : decode cX3_has 14 = .ok (.ireturn, 1) := by decide +kernel
theorem dX3_hasRow_0 : decode cX3_hasRow 0 = .ok (.aload_n 0, 1) := by decide +kernel
theorem dX3_hasRow_1 : decode cX3_hasRow 1 = .ok (.iload_n 1, 1) := by decide +kernel
theorem dX3_hasRow_2 : decode cX3_hasRow 2 = .ok (.invokevirtual 27, 3) := by decide +kernel
theorem dX3_hasRow_5 : decode cX3_hasRow 5 = .ok (.ifCond .eq 16, 3) := by decide +kernel
theorem dX3_hasRow_8 : decode cX3_hasRow 8 = .ok (.aload_n 0, 1) := by decide +kernel
theorem dX3_hasRow_9 : decode cX3_hasRow 9 = .ok (.getfield 9, 3) := by decide +kernel
theorem dX3_hasRow_12 : decode cX3_hasRow 12 = .ok (.iload_n 1, 1) := by decide +kernel
theorem dX3_hasRow_13 : decode cX3_hasRow 13 = .ok (.baload, 1) := by decide +kernel
theorem dX3_hasRow_14 : decode cX3_hasRow 14 = .ok (.ifCond .eq 7, 3) := by decide +kernel
theorem dX3_hasRow_17 : decode cX3_hasRow 17 = .ok (.iconst 1, 1) := by decide +kernel
theorem dX3_hasRow_18 : decode cX3_hasRow 18 = .ok (.goto 4, 3) := by decide +kernel
theorem dX3_hasRow_21 : decode cX3_hasRow 21 = .ok (.iconst 0, 1) := by decide +kernel
theorem dX3_hasRow_22 : decode cX3_hasRow 22 = .ok (.ireturn, 1) := by decide +kernel
theorem dX3_sortOf_0 : decode cX3_sortOf 0 = .ok (.aload_n 0, 1) := by decide +kernel
theorem dX3_sortOf_1 : decode cX3_sortOf 1 = .ok (.iload_n 1, 1) := by decide +kernel
theorem dX3_sortOf_2 : decode cX3_sortOf 2 = .ok (.invokevirtual 27, 3) := by decide +kernel
theorem dX3_sortOf_5 : decode cX3_sortOf 5 = .ok (.ifCond .eq 12, 3) := by decide +kernel
theorem dX3_sortOf_8 : decode cX3_sortOf 8 = .ok (.aload_n 0, 1) := by decide +kernel
theorem dX3_sortOf_9 : decode cX3_sortOf 9 = .ok (.getfield 15, 3) := by decide +kernel
theorem dX3_sortOf_12 : decode cX3_sortOf 12 = .ok (.iload_n 1, 1) := by decide +kernel
theorem dX3_sortOf_13 : decode cX3_sortOf 13 = .ok (.iaload, 1) := by decide +kernel
theorem dX3_sortOf_14 : decode cX3_sortOf 14 = .ok (.goto 4, 3) := by decide +kernel
theorem dX3_sortOf_17 : decode cX3_sortOf 17 = .ok (.iconst (-1), 1) := by decide +kernel
theorem dX3_sortOf_18 : decode cX3_sortOf 18 = .ok (.ireturn, 1) := by decide +kernel
theorem dX3_hasCells_0 : decode cX3_hasCells 0 = .ok (.aload_n 0, 1) := by decide +kernel
theorem dX3_hasCells_1 : decode cX3_hasCells 1 = .ok (.iload_n 1, 1) := by decide +kernel
theorem dX3_hasCells_2 : decode cX3_hasCells 2 = .ok (.invokevirtual 27, 3) := by decide +kernel
theorem dX3_hasCells_5 : decode cX3_hasCells 5 = .ok (.ifCond .eq 46, 3) := by decide +kernel
theorem dX3_hasCells_8 : decode cX3_hasCells 8 = .ok (.aload_n 0, 1) := by decide +kernel
theorem dX3_hasCells_9 : decode cX3_hasCells 9 = .ok (.getfield 9, 3) := by decide +kernel
theorem dX3_hasCells_12 : decode cX3_hasCells 12 = .ok (.iload_n 1, 1) := by decide +kernel
theorem dX3_hasCells_13 : decode cX3_hasCells 13 = .ok (.baload, 1) := by decide +kernel
theorem dX3_hasCells_14 : decode cX3_hasCells 14 = .ok (.ifCond .eq 37, 3) := by decide +kernel
theorem dX3_hasCells_17 : decode cX3_hasCells 17 = .ok (.iload_n 2, 1) := by decide +kernel
theorem dX3_hasCells_18 : decode cX3_hasCells 18 = .ok (.ifCond .lt 33, 3) := by decide +kernel
theorem dX3_hasCells_21 : decode cX3_hasCells 21 = .ok (.iload_n 3, 1) := by decide +kernel
theorem dX3_hasCells_22 : decode cX3_hasCells 22 = .ok (.ifCond .lt 29, 3) := by decide +kernel
theorem dX3_hasCells_25 : decode cX3_hasCells 25 = .ok (.iload_n 2, 1) := by decide +kernel
theorem dX3_hasCells_26 : decode cX3_hasCells 26 = .ok (.aload_n 0, 1) := by decide +kernel
theorem dX3_hasCells_27 : decode cX3_hasCells 27 = .ok (.getfield 19, 3) := by decide +kernel
theorem dX3_hasCells_30 : decode cX3_hasCells 30 = .ok (.iload_n 1, 1) := by decide +kernel
theorem dX3_hasCells_31 : decode cX3_hasCells 31 = .ok (.iaload, 1) := by decide +kernel
theorem dX3_hasCells_32 : decode cX3_hasCells 32 = .ok (.if_icmp .gt 19, 3) := by decide +kernel
theorem dX3_hasCells_35 : decode cX3_hasCells 35 = .ok (.iload_n 3, 1) := by decide +kernel
theorem dX3_hasCells_36 : decode cX3_hasCells 36 = .ok (.aload_n 0, 1) := by decide +kernel
theorem dX3_hasCells_37 : decode cX3_hasCells 37 = .ok (.getfield 19, 3) := by decide +kernel
theorem dX3_hasCells_40 : decode cX3_hasCells 40 = .ok (.iload_n 1, 1) := by decide +kernel
theorem dX3_hasCells_41 : decode cX3_hasCells 41 = .ok (.iaload, 1) := by decide +kernel
theorem dX3_hasCells_42 : decode cX3_hasCells 42 = .ok (.iload_n 2, 1) := by decide +kernel
theorem dX3_hasCells_43 : decode cX3_hasCells 43 = .ok (.isub, 1) := by decide +kernel
theorem dX3_hasCells_44 : decode cX3_hasCells 44 = .ok (.if_icmp .gt 7, 3) := by decide +kernel
theorem dX3_hasCells_47 : decode cX3_hasCells 47 = .ok (.iconst 1, 1) := by decide +kernel
theorem dX3_hasCells_48 : decode cX3_hasCells 48 = .ok (.goto 4, 3) := by decide +kernel
theorem dX3_hasCells_51 : decode cX3_hasCells 51 = .ok (.iconst 0, 1) := by decide +kernel
theorem dX3_hasCells_52 : decode cX3_hasCells 52 = .ok (.ireturn, 1) := by decide +kernel
theorem dX3_faultOfTaking_0 : decode cX3_faultOfTaking 0 = .ok (.aload_n 0, 1) := by decide +kernel
theorem dX3_faultOfTaking_1 : decode cX3_faultOfTaking 1 = .ok (.iload_n 1, 1) := by decide +kernel
theorem dX3_faultOfTaking_2 : decode cX3_faultOfTaking 2 = .ok (.invokevirtual 31, 3) := by decide +kernel
theorem dX3_faultOfTaking_5 : decode cX3_faultOfTaking 5 = .ok (.ifCond .ne 5, 3) := by decide +kernel
theorem dX3_faultOfTaking_8 : decode cX3_faultOfTaking 8 = .ok (.iconst 1, 1) := by decide +kernel
theorem dX3_faultOfTaking_9 : decode cX3_faultOfTaking 9 = .ok (.ireturn, 1) := by decide +kernel
theorem dX3_faultOfTaking_10 : decode cX3_faultOfTaking 10 = .ok (.aload_n 0, 1) := by decide +kernel
theorem dX3_faultOfTaking_11 : decode cX3_faultOfTaking 11 = .ok (.iload_n 1, 1) := by decide +kernel
theorem dX3_faultOfTaking_12 : decode cX3_faultOfTaking 12 = .ok (.invokevirtual 34, 3) := by decide +kernel
theorem dX3_faultOfTaking_15 : decode cX3_faultOfTaking 15 = .ok (.iload_n 2, 1) := by decide +kernel
theorem dX3_faultOfTaking_16 : decode cX3_faultOfTaking 16 = .ok (.if_icmp .eq 5, 3) := by decide +kernel
theorem dX3_faultOfTaking_19 : decode cX3_faultOfTaking 19 = .ok (.iconst 2, 1) := by decide +kernel
theorem dX3_faultOfTaking_20 : decode cX3_faultOfTaking 20 = .ok (.ireturn, 1) := by decide +kernel
theorem dX3_faultOfTaking_21 : decode cX3_faultOfTaking 21 = .ok (.iload 4, 2) := by decide +kernel
theorem dX3_faultOfTaking_23 : decode cX3_faultOfTaking 23 = .ok (.ifCond .ge 5, 3) := by decide +kernel
theorem dX3_faultOfTaking_26 : decode cX3_faultOfTaking 26 = .ok (.iconst 4, 1) := by decide +kernel
theorem dX3_faultOfTaking_27 : decode cX3_faultOfTaking 27 = .ok (.ireturn, 1) := by decide +kernel
theorem dX3_faultOfTaking_28 : decode cX3_faultOfTaking 28 = .ok (.aload_n 0, 1) := by decide +kernel
theorem dX3_faultOfTaking_29 : decode cX3_faultOfTaking 29 = .ok (.iload_n 1, 1) := by decide +kernel
theorem dX3_faultOfTaking_30 : decode cX3_faultOfTaking 30 = .ok (.iload_n 3, 1) := by decide +kernel
theorem dX3_faultOfTaking_31 : decode cX3_faultOfTaking 31 = .ok (.iload 4, 2) := by decide +kernel
theorem dX3_faultOfTaking_33 : decode cX3_faultOfTaking 33 = .ok (.invokevirtual 38, 3) := by decide +kernel
theorem dX3_faultOfTaking_36 : decode cX3_faultOfTaking 36 = .ok (.ifCond .eq 7, 3) := by decide +kernel
theorem dX3_faultOfTaking_39 : decode cX3_faultOfTaking 39 = .ok (.iconst 0, 1) := by decide +kernel
theorem dX3_faultOfTaking_40 : decode cX3_faultOfTaking 40 = .ok (.goto 4, 3) := by decide +kernel
theorem dX3_faultOfTaking_43 : decode cX3_faultOfTaking 43 = .ok (.iconst 3, 1) := by decide +kernel
theorem dX3_faultOfTaking_44 : decode cX3_faultOfTaking 44 = .ok (.ireturn, 1) := by decide +kernel
theorem dX3_renew_0 : decode cX3_renew 0 = .ok (.aload_n 0, 1) := by decide +kernel
theorem dX3_renew_1 : decode cX3_renew 1 = .ok (.iload_n 1, 1) := by decide +kernel
theorem dX3_renew_2 : decode cX3_renew 2 = .ok (.invokevirtual 27, 3) := by decide +kernel
theorem dX3_renew_5 : decode cX3_renew 5 = .ok (.ifCond .eq 13, 3) := by decide +kernel
theorem dX3_renew_8 : decode cX3_renew 8 = .ok (.iload_n 3, 1) := by decide +kernel
theorem dX3_renew_9 : decode cX3_renew 9 = .ok (.ifCond .lt 9, 3) := by decide +kernel
theorem dX3_renew_12 : decode cX3_renew 12 = .ok (.iload_n 3, 1) := by decide +kernel
theorem dX3_renew_13 : decode cX3_renew 13 = .ok (.bipush 40, 2) := by decide +kernel
theorem dX3_renew_15 : decode cX3_renew 15 = .ok (.if_icmp .le 4, 3) := by decide +kernel
theorem dX3_renew_18 : decode cX3_renew 18 = .ok (.return_, 1) := by decide +kernel
theorem dX3_renew_19 : decode cX3_renew 19 = .ok (.aload_n 0, 1) := by decide +kernel
theorem dX3_renew_20 : decode cX3_renew 20 = .ok (.getfield 9, 3) := by decide +kernel
theorem dX3_renew_23 : decode cX3_renew 23 = .ok (.iload_n 1, 1) := by decide +kernel
theorem dX3_renew_24 : decode cX3_renew 24 = .ok (.iconst 1, 1) := by decide +kernel
theorem dX3_renew_25 : decode cX3_renew 25 = .ok (.bastore, 1) := by decide +kernel
theorem dX3_renew_26 : decode cX3_renew 26 = .ok (.aload_n 0, 1) := by decide +kernel
theorem dX3_renew_27 : decode cX3_renew 27 = .ok (.getfield 15, 3) := by decide +kernel
theorem dX3_renew_30 : decode cX3_renew 30 = .ok (.iload_n 1, 1) := by decide +kernel
theorem dX3_renew_31 : decode cX3_renew 31 = .ok (.iload_n 2, 1) := by decide +kernel
theorem dX3_renew_32 : decode cX3_renew 32 = .ok (.iastore, 1) := by decide +kernel
theorem dX3_renew_33 : decode cX3_renew 33 = .ok (.aload_n 0, 1) := by decide +kernel
theorem dX3_renew_34 : decode cX3_renew 34 = .ok (.getfield 19, 3) := by decide +kernel
theorem dX3_renew_37 : decode cX3_renew 37 = .ok (.iload_n 1, 1) := by decide +kernel
theorem dX3_renew_38 : decode cX3_renew 38 = .ok (.iload_n 3, 1) := by decide +kernel
theorem dX3_renew_39 : decode cX3_renew 39 = .ok (.iastore, 1) := by decide +kernel
theorem dX3_renew_40 : decode cX3_renew 40 = .ok (.iconst 0, 1) := by decide +kernel
theorem dX3_renew_41 : decode cX3_renew 41 = .ok (.istore 4, 2) := by decide +kernel
theorem dX3_renew_43 : decode cX3_renew 43 = .ok (.iload 4, 2) := by decide +kernel
theorem dX3_renew_45 : decode cX3_renew 45 = .ok (.iload_n 3, 1) := by decide +kernel
theorem dX3_renew_46 : decode cX3_renew 46 = .ok (.if_icmp .ge 19, 3) := by decide +kernel
theorem dX3_renew_49 : decode cX3_renew 49 = .ok (.aload_n 0, 1) := by decide +kernel
theorem dX3_renew_50 : decode cX3_renew 50 = .ok (.getfield 24, 3) := by decide +kernel
theorem dX3_renew_53 : decode cX3_renew 53 = .ok (.iload_n 1, 1) := by decide +kernel
theorem dX3_renew_54 : decode cX3_renew 54 = .ok (.aaload, 1) := by decide +kernel
theorem dX3_renew_55 : decode cX3_renew 55 = .ok (.iload 4, 2) := by decide +kernel
theorem dX3_renew_57 : decode cX3_renew 57 = .ok (.iconst 0, 1) := by decide +kernel
theorem dX3_renew_58 : decode cX3_renew 58 = .ok (.iastore, 1) := by decide +kernel
theorem dX3_renew_59 : decode cX3_renew 59 = .ok (.iinc 4 1, 3) := by decide +kernel
theorem dX3_renew_62 : decode cX3_renew 62 = .ok (.goto (-19), 3) := by decide +kernel
theorem dX3_renew_65 : decode cX3_renew 65 = .ok (.return_, 1) := by decide +kernel
theorem dX3_empty_0 : decode cX3_empty 0 = .ok (.aload_n 0, 1) := by decide +kernel
theorem dX3_empty_1 : decode cX3_empty 1 = .ok (.iload_n 1, 1) := by decide +kernel
theorem dX3_empty_2 : decode cX3_empty 2 = .ok (.invokevirtual 31, 3) := by decide +kernel
theorem dX3_empty_5 : decode cX3_empty 5 = .ok (.istore_n 2, 1) := by decide +kernel
theorem dX3_empty_6 : decode cX3_empty 6 = .ok (.iload_n 2, 1) := by decide +kernel
theorem dX3_empty_7 : decode cX3_empty 7 = .ok (.ifCond .eq 10, 3) := by decide +kernel
theorem dX3_empty_10 : decode cX3_empty 10 = .ok (.aload_n 0, 1) := by decide +kernel
theorem dX3_empty_11 : decode cX3_empty 11 = .ok (.getfield 9, 3) := by decide +kernel
theorem dX3_empty_14 : decode cX3_empty 14 = .ok (.iload_n 1, 1) := by decide +kernel
theorem dX3_empty_15 : decode cX3_empty 15 = .ok (.iconst 0, 1) := by decide +kernel
theorem dX3_empty_16 : decode cX3_empty 16 = .ok (.bastore, 1) := by decide +kernel
theorem dX3_empty_17 : decode cX3_empty 17 = .ok (.iload_n 2, 1) := by decide +kernel
theorem dX3_empty_18 : decode cX3_empty 18 = .ok (.ireturn, 1) := by decide +kernel
theorem dX3_cellOf_0 : decode cX3_cellOf 0 = .ok (.aload_n 0, 1) := by decide +kernel
theorem dX3_cellOf_1 : decode cX3_cellOf 1 = .ok (.iload_n 1, 1) := by decide +kernel
theorem dX3_cellOf_2 : decode cX3_cellOf 2 = .ok (.iload_n 2, 1) := by decide +kernel
theorem dX3_cellOf_3 : decode cX3_cellOf 3 = .ok (.iconst 1, 1) := by decide +kernel
theorem dX3_cellOf_4 : decode cX3_cellOf 4 = .ok (.invokevirtual 38, 3) := by decide +kernel
theorem dX3_cellOf_7 : decode cX3_cellOf 7 = .ok (.ifCond .eq 14, 3) := by decide +kernel
theorem dX3_cellOf_10 : decode cX3_cellOf 10 = .ok (.aload_n 0, 1) := by decide +kernel
theorem dX3_cellOf_11 : decode cX3_cellOf 11 = .ok (.getfield 24, 3) := by decide +kernel
theorem dX3_cellOf_14 : decode cX3_cellOf 14 = .ok (.iload_n 1, 1) := by decide +kernel
theorem dX3_cellOf_15 : decode cX3_cellOf 15 = .ok (.aaload, 1) := by decide +kernel
theorem dX3_cellOf_16 : decode cX3_cellOf 16 = .ok (.iload_n 2, 1) := by decide +kernel
theorem dX3_cellOf_17 : decode cX3_cellOf 17 = .ok (.iaload, 1) := by decide +kernel
theorem dX3_cellOf_18 : decode cX3_cellOf 18 = .ok (.goto 4, 3) := by decide +kernel
theorem dX3_cellOf_21 : decode cX3_cellOf 21 = .ok (.iconst 0, 1) := by decide +kernel
theorem dX3_cellOf_22 : decode cX3_cellOf 22 = .ok (.ireturn, 1) := by decide +kernel
theorem dX3_setCell_0 : decode cX3_setCell 0 = .ok (.aload_n 0, 1) := by decide +kernel
theorem dX3_setCell_1 : decode cX3_setCell 1 = .ok (.iload_n 1, 1) := by decide +kernel
theorem dX3_setCell_2 : decode cX3_setCell 2 = .ok (.iload_n 2, 1) := by decide +kernel
theorem dX3_setCell_3 : decode cX3_setCell 3 = .ok (.iconst 1, 1) := by decide +kernel
theorem dX3_setCell_4 : decode cX3_setCell 4 = .ok (.invokevirtual 38, 3) := by decide +kernel
theorem dX3_setCell_7 : decode cX3_setCell 7 = .ok (.ifCond .eq 21, 3) := by decide +kernel
theorem dX3_setCell_10 : decode cX3_setCell 10 = .ok (.aload_n 0, 1) := by decide +kernel
theorem dX3_setCell_11 : decode cX3_setCell 11 = .ok (.getfield 24, 3) := by decide +kernel
theorem dX3_setCell_14 : decode cX3_setCell 14 = .ok (.iload_n 1, 1) := by decide +kernel
theorem dX3_setCell_15 : decode cX3_setCell 15 = .ok (.aaload, 1) := by decide +kernel
theorem dX3_setCell_16 : decode cX3_setCell 16 = .ok (.iload_n 2, 1) := by decide +kernel
theorem dX3_setCell_17 : decode cX3_setCell 17 = .ok (.aload_n 0, 1) := by decide +kernel
theorem dX3_setCell_18 : decode cX3_setCell 18 = .ok (.getfield 15, 3) := by decide +kernel
theorem dX3_setCell_21 : decode cX3_setCell 21 = .ok (.iload_n 1, 1) := by decide +kernel
theorem dX3_setCell_22 : decode cX3_setCell 22 = .ok (.iaload, 1) := by decide +kernel
theorem dX3_setCell_23 : decode cX3_setCell 23 = .ok (.iload_n 3, 1) := by decide +kernel
theorem dX3_setCell_24 : decode cX3_setCell 24 = .ok (.invokestatic 42, 3) := by decide +kernel
theorem dX3_setCell_27 : decode cX3_setCell 27 = .ok (.iastore, 1) := by decide +kernel
theorem dX3_setCell_28 : decode cX3_setCell 28 = .ok (.return_, 1) := by decide +kernel
theorem dX3_cut_0 : decode cX3_cut 0 = .ok (.iload_n 0, 1) := by decide +kernel
theorem dX3_cut_1 : decode cX3_cut 1 = .ok (.lookupswitch 33 #[(0, 27), (1, 30)], 27) := by decide +kernel
theorem dX3_cut_28 : decode cX3_cut 28 = .ok (.iload_n 1, 1) := by decide +kernel
theorem dX3_cut_29 : decode cX3_cut 29 = .ok (.i2b, 1) := by decide +kernel
theorem dX3_cut_30 : decode cX3_cut 30 = .ok (.ireturn, 1) := by decide +kernel
theorem dX3_cut_31 : decode cX3_cut 31 = .ok (.iload_n 1, 1) := by decide +kernel
theorem dX3_cut_32 : decode cX3_cut 32 = .ok (.i2s, 1) := by decide +kernel
theorem dX3_cut_33 : decode cX3_cut 33 = .ok (.ireturn, 1) := by decide +kernel
theorem dX3_cut_34 : decode cX3_cut 34 = .ok (.iload_n 1, 1) := by decide +kernel
theorem dX3_cut_35 : decode cX3_cut 35 = .ok (.ireturn, 1) := by decide +kernel
theorem dX3_copyCells_0 : decode cX3_copyCells 0 = .ok (.aload_n 0, 1) := by decide +kernel
theorem dX3_copyCells_1 : decode cX3_copyCells 1 = .ok (.iload_n 1, 1) := by decide +kernel
theorem dX3_copyCells_2 : decode cX3_copyCells 2 = .ok (.iload_n 2, 1) := by decide +kernel
theorem dX3_copyCells_3 : decode cX3_copyCells 3 = .ok (.iload 5, 2) := by decide +kernel
theorem dX3_copyCells_5 : decode cX3_copyCells 5 = .ok (.invokevirtual 38, 3) := by decide +kernel
theorem dX3_copyCells_8 : decode cX3_copyCells 8 = .ok (.ifCond .eq 35, 3) := by decide +kernel
theorem dX3_copyCells_11 : decode cX3_copyCells 11 = .ok (.aload_n 0, 1) := by decide +kernel
theorem dX3_copyCells_12 : decode cX3_copyCells 12 = .ok (.iload_n 3, 1) := by decide +kernel
theorem dX3_copyCells_13 : decode cX3_copyCells 13 = .ok (.iload 4, 2) := by decide +kernel
theorem dX3_copyCells_15 : decode cX3_copyCells 15 = .ok (.iload 5, 2) := by decide +kernel
theorem dX3_copyCells_17 : decode cX3_copyCells 17 = .ok (.invokevirtual 38, 3) := by decide +kernel
theorem dX3_copyCells_20 : decode cX3_copyCells 20 = .ok (.ifCond .eq 23, 3) := by decide +kernel
theorem dX3_copyCells_23 : decode cX3_copyCells 23 = .ok (.aload_n 0, 1) := by decide +kernel
theorem dX3_copyCells_24 : decode cX3_copyCells 24 = .ok (.getfield 24, 3) := by decide +kernel
theorem dX3_copyCells_27 : decode cX3_copyCells 27 = .ok (.iload_n 1, 1) := by decide +kernel
theorem dX3_copyCells_28 : decode cX3_copyCells 28 = .ok (.aaload, 1) := by decide +kernel
theorem dX3_copyCells_29 : decode cX3_copyCells 29 = .ok (.iload_n 2, 1) := by decide +kernel
theorem dX3_copyCells_30 : decode cX3_copyCells 30 = .ok (.aload_n 0, 1) := by decide +kernel
theorem dX3_copyCells_31 : decode cX3_copyCells 31 = .ok (.getfield 24, 3) := by decide +kernel
theorem dX3_copyCells_34 : decode cX3_copyCells 34 = .ok (.iload_n 3, 1) := by decide +kernel
theorem dX3_copyCells_35 : decode cX3_copyCells 35 = .ok (.aaload, 1) := by decide +kernel
theorem dX3_copyCells_36 : decode cX3_copyCells 36 = .ok (.iload 4, 2) := by decide +kernel
theorem dX3_copyCells_38 : decode cX3_copyCells 38 = .ok (.iload 5, 2) := by decide +kernel
theorem dX3_copyCells_40 : decode cX3_copyCells 40 = .ok (.invokestatic 46, 3) := by decide +kernel
theorem dX3_copyCells_43 : decode cX3_copyCells 43 = .ok (.return_, 1) := by decide +kernel
theorem dX4_init_0 : decode cX4_init 0 = .ok (.aload_n 0, 1) := by decide +kernel
theorem dX4_init_1 : decode cX4_init 1 = .ok (.invokespecial 3, 3) := by decide +kernel
theorem dX4_init_4 : decode cX4_init 4 = .ok (.aload_n 0, 1) := by decide +kernel
theorem dX4_init_5 : decode cX4_init 5 = .ok (.iconst 0, 1) := by decide +kernel
theorem dX4_init_6 : decode cX4_init 6 = .ok (.putfield 9, 3) := by decide +kernel
theorem dX4_init_9 : decode cX4_init 9 = .ok (.aload_n 0, 1) := by decide +kernel
theorem dX4_init_10 : decode cX4_init 10 = .ok (.bipush 8, 2) := by decide +kernel
theorem dX4_init_12 : decode cX4_init 12 = .ok (.newarray .int, 2) := by decide +kernel
theorem dX4_init_14 : decode cX4_init 14 = .ok (.putfield 15, 3) := by decide +kernel
theorem dX4_init_17 : decode cX4_init 17 = .ok (.aload_n 0, 1) := by decide +kernel
theorem dX4_init_18 : decode cX4_init 18 = .ok (.bipush 8, 2) := by decide +kernel
theorem dX4_init_20 : decode cX4_init 20 = .ok (.newarray .int, 2) := by decide +kernel
theorem dX4_init_22 : decode cX4_init 22 = .ok (.putfield 19, 3) := by decide +kernel
theorem dX4_init_25 : decode cX4_init 25 = .ok (.aload_n 0, 1) := by decide +kernel
theorem dX4_init_26 : decode cX4_init 26 = .ok (.sipush 256, 3) := by decide +kernel
theorem dX4_init_29 : decode cX4_init 29 = .ok (.newarray .int, 2) := by decide +kernel
theorem dX4_init_31 : decode cX4_init 31 = .ok (.putfield 22, 3) := by decide +kernel
theorem dX4_init_34 : decode cX4_init 34 = .ok (.return_, 1) := by decide +kernel
theorem dX4_lay_0 : decode cX4_lay 0 = .ok (.aload_n 0, 1) := by decide +kernel
theorem dX4_lay_1 : decode cX4_lay 1 = .ok (.aload_n 3, 1) := by decide +kernel
theorem dX4_lay_2 : decode cX4_lay 2 = .ok (.invokevirtual 25, 3) := by decide +kernel
theorem dX4_lay_5 : decode cX4_lay 5 = .ok (.bipush 8, 2) := by decide +kernel
theorem dX4_lay_7 : decode cX4_lay 7 = .ok (.invokestatic 30, 3) := by decide +kernel
theorem dX4_lay_10 : decode cX4_lay 10 = .ok (.putfield 9, 3) := by decide +kernel
theorem dX4_lay_13 : decode cX4_lay 13 = .ok (.iconst 0, 1) := by decide +kernel
theorem dX4_lay_14 : decode cX4_lay 14 = .ok (.istore 4, 2) := by decide +kernel
theorem dX4_lay_16 : decode cX4_lay 16 = .ok (.iload 4, 2) := by decide +kernel
theorem dX4_lay_18 : decode cX4_lay 18 = .ok (.aload_n 0, 1) := by decide +kernel
theorem dX4_lay_19 : decode cX4_lay 19 = .ok (.getfield 9, 3) := by decide +kernel
theorem dX4_lay_22 : decode cX4_lay 22 = .ok (.if_icmp .ge 111, 3) := by decide +kernel
theorem dX4_lay_25 : decode cX4_lay 25 = .ok (.aload_n 0, 1) := by decide +kernel
theorem dX4_lay_26 : decode cX4_lay 26 = .ok (.getfield 15, 3) := by decide +kernel
theorem dX4_lay_29 : decode cX4_lay 29 = .ok (.iload 4, 2) := by decide +kernel
theorem dX4_lay_31 : decode cX4_lay 31 = .ok (.iconst 0, 1) := by decide +kernel
theorem dX4_lay_32 : decode cX4_lay 32 = .ok (.iastore, 1) := by decide +kernel
theorem dX4_lay_33 : decode cX4_lay 33 = .ok (.aload_n 0, 1) := by decide +kernel
theorem dX4_lay_34 : decode cX4_lay 34 = .ok (.getfield 19, 3) := by decide +kernel
theorem dX4_lay_37 : decode cX4_lay 37 = .ok (.iload 4, 2) := by decide +kernel
theorem dX4_lay_39 : decode cX4_lay 39 = .ok (.iconst 0, 1) := by decide +kernel
theorem dX4_lay_40 : decode cX4_lay 40 = .ok (.iastore, 1) := by decide +kernel
theorem dX4_lay_41 : decode cX4_lay 41 = .ok (.iconst 0, 1) := by decide +kernel
theorem dX4_lay_42 : decode cX4_lay 42 = .ok (.istore 5, 2) := by decide +kernel
theorem dX4_lay_44 : decode cX4_lay 44 = .ok (.iload 5, 2) := by decide +kernel
theorem dX4_lay_46 : decode cX4_lay 46 = .ok (.aload_n 0, 1) := by decide +kernel
theorem dX4_lay_47 : decode cX4_lay 47 = .ok (.getfield 9, 3) := by decide +kernel
theorem dX4_lay_50 : decode cX4_lay 50 = .ok (.if_icmp .ge 77, 3) := by decide +kernel
theorem dX4_lay_53 : decode cX4_lay 53 = .ok (.aload_n 1, 1) := by decide +kernel
theorem dX4_lay_54 : decode cX4_lay 54 = .ok (.iload_n 2, 1) := by decide +kernel
theorem dX4_lay_55 : decode cX4_lay 55 = .ok (.aload_n 3, 1) := by decide +kernel
theorem dX4_lay_56 : decode cX4_lay 56 = .ok (.iload 4, 2) := by decide +kernel
theorem dX4_lay_58 : decode cX4_lay 58 = .ok (.invokevirtual 36, 3) := by decide +kernel
theorem dX4_lay_61 : decode cX4_lay 61 = .ok (.aload_n 3, 1) := by decide +kernel
theorem dX4_lay_62 : decode cX4_lay 62 = .ok (.iload 5, 2) := by decide +kernel
theorem dX4_lay_64 : decode cX4_lay 64 = .ok (.invokevirtual 36, 3) := by decide +kernel
theorem dX4_lay_67 : decode cX4_lay 67 = .ok (.invokevirtual 40, 3) := by decide +kernel
theorem dX4_lay_70 : decode cX4_lay 70 = .ok (.ifCond .eq 17, 3) := by decide +kernel
theorem dX4_lay_73 : decode cX4_lay 73 = .ok (.aload_n 0, 1) := by decide +kernel
theorem dX4_lay_74 : decode cX4_lay 74 = .ok (.getfield 15, 3) := by decide +kernel
theorem dX4_lay_77 : decode cX4_lay 77 = .ok (.iload 4, 2) := by decide +kernel
theorem dX4_lay_79 : decode cX4_lay 79 = .ok (.dup2, 1) := by decide +kernel
theorem dX4_lay_80 : decode cX4_lay 80 = .ok (.iaload, 1) := by decide +kernel
theorem dX4_lay_81 : decode cX4_lay 81 = .ok (.iconst 1, 1) := by decide +kernel
theorem dX4_lay_82 : decode cX4_lay 82 = .ok (.iload 5, 2) := by decide +kernel
theorem dX4_lay_84 : decode cX4_lay 84 = .ok (.ishl, 1) := by decide +kernel
theorem dX4_lay_85 : decode cX4_lay 85 = .ok (.ior, 1) := by decide +kernel
theorem dX4_lay_86 : decode cX4_lay 86 = .ok (.iastore, 1) := by decide +kernel
theorem dX4_lay_87 : decode cX4_lay 87 = .ok (.aload_n 1, 1) := by decide +kernel
theorem dX4_lay_88 : decode cX4_lay 88 = .ok (.iload_n 2, 1) := by decide +kernel
theorem dX4_lay_89 : decode cX4_lay 89 = .ok (.aload_n 3, 1) := by decide +kernel
theorem dX4_lay_90 : decode cX4_lay 90 = .ok (.iload 4, 2) := by decide +kernel
theorem dX4_lay_92 : decode cX4_lay 92 = .ok (.invokevirtual 36, 3) := by decide +kernel
theorem dX4_lay_95 : decode cX4_lay 95 = .ok (.aload_n 3, 1) := by decide +kernel
theorem dX4_lay_96 : decode cX4_lay 96 = .ok (.iload 5, 2) := by decide +kernel
theorem dX4_lay_98 : decode cX4_lay 98 = .ok (.invokevirtual 36, 3) := by decide +kernel
theorem dX4_lay_101 : decode cX4_lay 101 = .ok (.invokevirtual 46, 3) := by decide +kernel
theorem dX4_lay_104 : decode cX4_lay 104 = .ok (.ifCond .eq 17, 3) := by decide +kernel
theorem dX4_lay_107 : decode cX4_lay 107 = .ok (.aload_n 0, 1) := by decide +kernel
theorem dX4_lay_108 : decode cX4_lay 108 = .ok (.getfield 19, 3) := by decide +kernel
theorem dX4_lay_111 : decode cX4_lay 111 = .ok (.iload 4, 2) := by decide +kernel
theorem dX4_lay_113 : decode cX4_lay 113 = .ok (.dup2, 1) := by decide +kernel
theorem dX4_lay_114 : decode cX4_lay 114 = .ok (.iaload, 1) := by decide +kernel
theorem dX4_lay_115 : decode cX4_lay 115 = .ok (.iconst 1, 1) := by decide +kernel
theorem dX4_lay_116 : decode cX4_lay 116 = .ok (.iload 5, 2) := by decide +kernel
theorem dX4_lay_118 : decode cX4_lay 118 = .ok (.ishl, 1) := by decide +kernel
theorem dX4_lay_119 : decode cX4_lay 119 = .ok (.ior, 1) := by decide +kernel
theorem dX4_lay_120 : decode cX4_lay 120 = .ok (.iastore, 1) := by decide +kernel
theorem dX4_lay_121 : decode cX4_lay 121 = .ok (.iinc 5 1, 3) := by decide +kernel
theorem dX4_lay_124 : decode cX4_lay 124 = .ok (.goto (-80), 3) := by decide +kernel
theorem dX4_lay_127 : decode cX4_lay 127 = .ok (.iinc 4 1, 3) := by decide +kernel
theorem dX4_lay_130 : decode cX4_lay 130 = .ok (.goto (-114), 3) := by decide +kernel
theorem dX4_lay_133 : decode cX4_lay 133 = .ok (.return_, 1) := by decide +kernel
theorem dX4_has_0 : decode cX4_has 0 = .ok (.iload_n 1, 1) := by decide +kernel
theorem dX4_has_1 : decode cX4_has 1 = .ok (.ifCond .lt 21, 3) := by decide +kernel
theorem dX4_has_4 : decode cX4_has 4 = .ok (.iload_n 1, 1) := by decide +kernel
theorem dX4_has_5 : decode cX4_has 5 = .ok (.aload_n 0, 1) := by decide +kernel
theorem dX4_has_6 : decode cX4_has 6 = .ok (.getfield 9, 3) := by decide +kernel
theorem dX4_has_9 : decode cX4_has 9 = .ok (.if_icmp .ge 13, 3) := by decide +kernel
theorem dX4_has_12 : decode cX4_has 12 = .ok (.iload_n 1, 1) := by decide +kernel
theorem dX4_has_13 : decode cX4_has 13 = .ok (.bipush 8, 2) := by decide +kernel
theorem dX4_has_15 : decode cX4_has 15 = .ok (.if_icmp .ge 7, 3) := by decide +kernel
theorem dX4_has_18 : decode cX4_has 18 = .ok (.iconst 1, 1) := by decide +kernel
theorem dX4_has_19 : decode cX4_has 19 = .ok (.goto 4, 3) := by decide +kernel
theorem dX4_has_22 : decode cX4_has 22 = .ok (.iconst 0, 1) := by decide +kernel
theorem dX4_has_23 : decode cX4_has 23 = .ok (.ireturn, 1) := by decide +kernel
theorem dX4_alikeTo_0 : decode cX4_alikeTo 0 = .ok (.aload_n 0, 1) := by decide +kernel
theorem dX4_alikeTo_1 : decode cX4_alikeTo 1 = .ok (.iload_n 1, 1) := by decide +kernel
theorem dX4_alikeTo_2 : decode cX4_alikeTo 2 = .ok (.invokevirtual 49, 3) := by decide +kernel
theorem dX4_alikeTo_5 : decode cX4_alikeTo 5 = .ok (.ifCond .eq 12, 3) := by decide +kernel
theorem dX4_alikeTo_8 : decode cX4_alikeTo 8 = .ok (.aload_n 0, 1) := by decide +kernel
theorem dX4_alikeTo_9 : decode cX4_alikeTo 9 = .ok (.getfield 19, 3) := by decide +kernel
theorem dX4_alikeTo_12 : decode cX4_alikeTo 12 = .ok (.iload_n 1, 1) := by decide +kernel
theorem dX4_alikeTo_13 : decode cX4_alikeTo 13 = .ok (.iaload, 1) := by decide +kernel
theorem dX4_alikeTo_14 : decode cX4_alikeTo 14 = .ok (.goto 4, 3) := by decide +kernel
theorem dX4_alikeTo_17 : decode cX4_alikeTo 17 = .ok (.iconst 0, 1) := by decide +kernel
theorem dX4_alikeTo_18 : decode cX4_alikeTo 18 = .ok (.ireturn, 1) := by decide +kernel
theorem dX4_lighterThan_0 : decode cX4_lighterThan 0 = .ok (.aload_n 0, 1) := by decide +kernel
theorem dX4_lighterThan_1 : decode cX4_lighterThan 1 = .ok (.iload_n 1, 1) := by decide +kernel
theorem dX4_lighterThan_2 : decode cX4_lighterThan 2 = .ok (.invokevirtual 49, 3) := by decide +kernel
theorem dX4_lighterThan_5 : decode cX4_lighterThan 5 = .ok (.ifCond .eq 12, 3) := by decide +kernel
theorem dX4_lighterThan_8 : decode cX4_lighterThan 8 = .ok (.aload_n 0, 1) := by decide +kernel
theorem dX4_lighterThan_9 : decode cX4_lighterThan 9 = .ok (.getfield 15, 3) := by decide +kernel
theorem dX4_lighterThan_12 : decode cX4_lighterThan 12 = .ok (.iload_n 1, 1) := by decide +kernel
theorem dX4_lighterThan_13 : decode cX4_lighterThan 13 = .ok (.iaload, 1) := by decide +kernel
theorem dX4_lighterThan_14 : decode cX4_lighterThan 14 = .ok (.goto 4, 3) := by decide +kernel
theorem dX4_lighterThan_17 : decode cX4_lighterThan 17 = .ok (.iconst 0, 1) := by decide +kernel
theorem dX4_lighterThan_18 : decode cX4_lighterThan 18 = .ok (.ireturn, 1) := by decide +kernel
theorem dX4_othersAlikeTo_0 : decode cX4_othersAlikeTo 0 = .ok (.aload_n 0, 1) := by decide +kernel
theorem dX4_othersAlikeTo_1 : decode cX4_othersAlikeTo 1 = .ok (.iload_n 1, 1) := by decide +kernel
theorem dX4_othersAlikeTo_2 : decode cX4_othersAlikeTo 2 = .ok (.invokevirtual 53, 3) := by decide +kernel
theorem dX4_othersAlikeTo_5 : decode cX4_othersAlikeTo 5 = .ok (.invokestatic 56, 3) := by decide +kernel
theorem dX4_othersAlikeTo_8 : decode cX4_othersAlikeTo 8 = .ok (.iconst 1, 1) := by decide +kernel
theorem dX4_othersAlikeTo_9 : decode cX4_othersAlikeTo 9 = .ok (.isub, 1) := by decide +kernel
theorem dX4_othersAlikeTo_10 : decode cX4_othersAlikeTo 10 = .ok (.ireturn, 1) := by decide +kernel
theorem dX4_allThings_0 : decode cX4_allThings 0 = .ok (.iconst 1, 1) := by decide +kernel
theorem dX4_allThings_1 : decode cX4_allThings 1 = .ok (.aload_n 0, 1) := by decide +kernel
theorem dX4_allThings_2 : decode cX4_allThings 2 = .ok (.getfield 9, 3) := by decide +kernel
theorem dX4_allThings_5 : decode cX4_allThings 5 = .ok (.ishl, 1) := by decide +kernel
theorem dX4_allThings_6 : decode cX4_allThings 6 = .ok (.iconst 1, 1) := by decide +kernel
theorem dX4_allThings_7 : decode cX4_allThings 7 = .ok (.isub, 1) := by decide +kernel
theorem dX4_allThings_8 : decode cX4_allThings 8 = .ok (.ireturn, 1) := by decide +kernel
theorem dX4_isFinerThan_0 : decode cX4_isFinerThan 0 = .ok (.iconst 0, 1) := by decide +kernel
theorem dX4_isFinerThan_1 : decode cX4_isFinerThan 1 = .ok (.istore_n 2, 1) := by decide +kernel
theorem dX4_isFinerThan_2 : decode cX4_isFinerThan 2 = .ok (.iconst 0, 1) := by decide +kernel
theorem dX4_isFinerThan_3 : decode cX4_isFinerThan 3 = .ok (.istore_n 3, 1) := by decide +kernel
theorem dX4_isFinerThan_4 : decode cX4_isFinerThan 4 = .ok (.iload_n 3, 1) := by decide +kernel
theorem dX4_isFinerThan_5 : decode cX4_isFinerThan 5 = .ok (.aload_n 0, 1) := by decide +kernel
theorem dX4_isFinerThan_6 : decode cX4_isFinerThan 6 = .ok (.getfield 9, 3) := by decide +kernel
theorem dX4_isFinerThan_9 : decode cX4_isFinerThan 9 = .ok (.if_icmp .ge 50, 3) := by decide +kernel
theorem dX4_isFinerThan_12 : decode cX4_isFinerThan 12 = .ok (.aload_n 1, 1) := by decide +kernel
theorem dX4_isFinerThan_13 : decode cX4_isFinerThan 13 = .ok (.iload_n 3, 1) := by decide +kernel
theorem dX4_isFinerThan_14 : decode cX4_isFinerThan 14 = .ok (.invokevirtual 61, 3) := by decide +kernel
theorem dX4_isFinerThan_17 : decode cX4_isFinerThan 17 = .ok (.aload_n 0, 1) := by decide +kernel
theorem dX4_isFinerThan_18 : decode cX4_isFinerThan 18 = .ok (.iload_n 3, 1) := by decide +kernel
theorem dX4_isFinerThan_19 : decode cX4_isFinerThan 19 = .ok (.invokevirtual 61, 3) := by decide +kernel
theorem dX4_isFinerThan_22 : decode cX4_isFinerThan 22 = .ok (.iconst (-1), 1) := by decide +kernel
theorem dX4_isFinerThan_23 : decode cX4_isFinerThan 23 = .ok (.ixor, 1) := by decide +kernel
theorem dX4_isFinerThan_24 : decode cX4_isFinerThan 24 = .ok (.iand, 1) := by decide +kernel
theorem dX4_isFinerThan_25 : decode cX4_isFinerThan 25 = .ok (.ifCond .eq 5, 3) := by decide +kernel
theorem dX4_isFinerThan_28 : decode cX4_isFinerThan 28 = .ok (.iconst 0, 1) := by decide +kernel
theorem dX4_isFinerThan_29 : decode cX4_isFinerThan 29 = .ok (.ireturn, 1) := by decide +kernel
theorem dX4_isFinerThan_30 : decode cX4_isFinerThan 30 = .ok (.iload_n 2, 1) := by decide +kernel
theorem dX4_isFinerThan_31 : decode cX4_isFinerThan 31 = .ok (.ifCond .ne 16, 3) := by decide +kernel
theorem dX4_isFinerThan_34 : decode cX4_isFinerThan 34 = .ok (.aload_n 1, 1) := by decide +kernel
theorem dX4_isFinerThan_35 : decode cX4_isFinerThan 35 = .ok (.iload_n 3, 1) := by decide +kernel
theorem dX4_isFinerThan_36 : decode cX4_isFinerThan 36 = .ok (.invokevirtual 61, 3) := by decide +kernel
theorem dX4_isFinerThan_39 : decode cX4_isFinerThan 39 = .ok (.aload_n 0, 1) := by decide +kernel
theorem dX4_isFinerThan_40 : decode cX4_isFinerThan 40 = .ok (.iload_n 3, 1) := by decide +kernel
theorem dX4_isFinerThan_41 : decode cX4_isFinerThan 41 = .ok (.invokevirtual 61, 3) := by decide +kernel
theorem dX4_isFinerThan_44 : decode cX4_isFinerThan 44 = .ok (.if_icmp .eq 7, 3) := by decide +kernel
theorem dX4_isFinerThan_47 : decode cX4_isFinerThan 47 = .ok (.iconst 1, 1) := by decide +kernel
theorem dX4_isFinerThan_48 : decode cX4_isFinerThan 48 = .ok (.goto 4, 3) := by decide +kernel
theorem dX4_isFinerThan_51 : decode cX4_isFinerThan 51 = .ok (.iconst 0, 1) := by decide +kernel
theorem dX4_isFinerThan_52 : decode cX4_isFinerThan 52 = .ok (.istore_n 2, 1) := by decide +kernel
theorem dX4_isFinerThan_53 : decode cX4_isFinerThan 53 = .ok (.iinc 3 1, 3) := by decide +kernel
theorem dX4_isFinerThan_56 : decode cX4_isFinerThan 56 = .ok (.goto (-52), 3) := by decide +kernel
theorem dX4_isFinerThan_59 : decode cX4_isFinerThan 59 = .ok (.iload_n 2, 1) := by decide +kernel
theorem dX4_isFinerThan_60 : decode cX4_isFinerThan 60 = .ok (.ireturn, 1) := by decide +kernel
theorem dX4_within_0 : decode cX4_within 0 = .ok (.iconst 1, 1) := by decide +kernel
theorem dX4_within_1 : decode cX4_within 1 = .ok (.iload_n 1, 1) := by decide +kernel
theorem dX4_within_2 : decode cX4_within 2 = .ok (.ishl, 1) := by decide +kernel
theorem dX4_within_3 : decode cX4_within 3 = .ok (.istore_n 3, 1) := by decide +kernel
theorem dX4_within_4 : decode cX4_within 4 = .ok (.iconst 0, 1) := by decide +kernel
theorem dX4_within_5 : decode cX4_within 5 = .ok (.istore 4, 2) := by decide +kernel
theorem dX4_within_7 : decode cX4_within 7 = .ok (.iload 4, 2) := by decide +kernel
theorem dX4_within_9 : decode cX4_within 9 = .ok (.iload_n 2, 1) := by decide +kernel
theorem dX4_within_10 : decode cX4_within 10 = .ok (.if_icmp .ge 26, 3) := by decide +kernel
theorem dX4_within_13 : decode cX4_within 13 = .ok (.iload 4, 2) := by decide +kernel
theorem dX4_within_15 : decode cX4_within 15 = .ok (.aload_n 0, 1) := by decide +kernel
theorem dX4_within_16 : decode cX4_within 16 = .ok (.getfield 9, 3) := by decide +kernel
theorem dX4_within_19 : decode cX4_within 19 = .ok (.if_icmp .ge 17, 3) := by decide +kernel
theorem dX4_within_22 : decode cX4_within 22 = .ok (.iload_n 3, 1) := by decide +kernel
theorem dX4_within_23 : decode cX4_within 23 = .ok (.aload_n 0, 1) := by decide +kernel
theorem dX4_within_24 : decode cX4_within 24 = .ok (.iload_n 3, 1) := by decide +kernel
theorem dX4_within_25 : decode cX4_within 25 = .ok (.invokevirtual 64, 3) := by decide +kernel
theorem dX4_within_28 : decode cX4_within 28 = .ok (.ior, 1) := by decide +kernel
theorem dX4_within_29 : decode cX4_within 29 = .ok (.istore_n 3, 1) := by decide +kernel
theorem dX4_within_30 : decode cX4_within 30 = .ok (.iinc 4 1, 3) := by decide +kernel
theorem dX4_within_33 : decode cX4_within 33 = .ok (.goto (-26), 3) := by decide +kernel
theorem dX4_within_36 : decode cX4_within 36 = .ok (.iload_n 3, 1) := by decide +kernel
theorem dX4_within_37 : decode cX4_within 37 = .ok (.ireturn, 1) := by decide +kernel
theorem dX4_alikeToAny_0 : decode cX4_alikeToAny 0 = .ok (.iconst 0, 1) := by decide +kernel
theorem dX4_alikeToAny_1 : decode cX4_alikeToAny 1 = .ok (.istore_n 2, 1) := by decide +kernel
theorem dX4_alikeToAny_2 : decode cX4_alikeToAny 2 = .ok (.iconst 0, 1) := by decide +kernel
theorem dX4_alikeToAny_3 : decode cX4_alikeToAny 3 = .ok (.istore_n 3, 1) := by decide +kernel
theorem dX4_alikeToAny_4 : decode cX4_alikeToAny 4 = .ok (.iload_n 3, 1) := by decide +kernel
theorem dX4_alikeToAny_5 : decode cX4_alikeToAny 5 = .ok (.aload_n 0, 1) := by decide +kernel
theorem dX4_alikeToAny_6 : decode cX4_alikeToAny 6 = .ok (.getfield 9, 3) := by decide +kernel
theorem dX4_alikeToAny_9 : decode cX4_alikeToAny 9 = .ok (.if_icmp .ge 29, 3) := by decide +kernel
theorem dX4_alikeToAny_12 : decode cX4_alikeToAny 12 = .ok (.iload_n 2, 1) := by decide +kernel
theorem dX4_alikeToAny_13 : decode cX4_alikeToAny 13 = .ok (.iload_n 1, 1) := by decide +kernel
theorem dX4_alikeToAny_14 : decode cX4_alikeToAny 14 = .ok (.iload_n 3, 1) := by decide +kernel
theorem dX4_alikeToAny_15 : decode cX4_alikeToAny 15 = .ok (.invokestatic 67, 3) := by decide +kernel
theorem dX4_alikeToAny_18 : decode cX4_alikeToAny 18 = .ok (.ifCond .eq 11, 3) := by decide +kernel
theorem dX4_alikeToAny_21 : decode cX4_alikeToAny 21 = .ok (.aload_n 0, 1) := by decide +kernel
theorem dX4_alikeToAny_22 : decode cX4_alikeToAny 22 = .ok (.iload_n 3, 1) := by decide +kernel
theorem dX4_alikeToAny_23 : decode cX4_alikeToAny 23 = .ok (.invokevirtual 53, 3) := by decide +kernel
theorem dX4_alikeToAny_26 : decode cX4_alikeToAny 26 = .ok (.goto 4, 3) := by decide +kernel
theorem dX4_alikeToAny_29 : decode cX4_alikeToAny 29 = .ok (.iconst 0, 1) := by decide +kernel
theorem dX4_alikeToAny_30 : decode cX4_alikeToAny 30 = .ok (.ior, 1) := by decide +kernel
theorem dX4_alikeToAny_31 : decode cX4_alikeToAny 31 = .ok (.istore_n 2, 1) := by decide +kernel
theorem dX4_alikeToAny_32 : decode cX4_alikeToAny 32 = .ok (.iinc 3 1, 3) := by decide +kernel
theorem dX4_alikeToAny_35 : decode cX4_alikeToAny 35 = .ok (.goto (-31), 3) := by decide +kernel
theorem dX4_alikeToAny_38 : decode cX4_alikeToAny 38 = .ok (.iload_n 2, 1) := by decide +kernel
theorem dX4_alikeToAny_39 : decode cX4_alikeToAny 39 = .ok (.ireturn, 1) := by decide +kernel
theorem dX4_fewestSwaps_0 : decode cX4_fewestSwaps 0 = .ok (.iconst 0, 1) := by decide +kernel
theorem dX4_fewestSwaps_1 : decode cX4_fewestSwaps 1 = .ok (.istore_n 3, 1) := by decide +kernel
theorem dX4_fewestSwaps_2 : decode cX4_fewestSwaps 2 = .ok (.iload_n 3, 1) := by decide +kernel
theorem dX4_fewestSwaps_3 : decode cX4_fewestSwaps 3 = .ok (.aload_n 0, 1) := by decide +kernel
theorem dX4_fewestSwaps_4 : decode cX4_fewestSwaps 4 = .ok (.getfield 9, 3) := by decide +kernel
theorem dX4_fewestSwaps_7 : decode cX4_fewestSwaps 7 = .ok (.if_icmp .ge 24, 3) := by decide +kernel
theorem dX4_fewestSwaps_10 : decode cX4_fewestSwaps 10 = .ok (.aload_n 0, 1) := by decide +kernel
theorem dX4_fewestSwaps_11 : decode cX4_fewestSwaps 11 = .ok (.iload_n 2, 1) := by decide +kernel
theorem dX4_fewestSwaps_12 : decode cX4_fewestSwaps 12 = .ok (.iload_n 3, 1) := by decide +kernel
theorem dX4_fewestSwaps_13 : decode cX4_fewestSwaps 13 = .ok (.invokevirtual 71, 3) := by decide +kernel
theorem dX4_fewestSwaps_16 : decode cX4_fewestSwaps 16 = .ok (.iload_n 1, 1) := by decide +kernel
theorem dX4_fewestSwaps_17 : decode cX4_fewestSwaps 17 = .ok (.invokestatic 67, 3) := by decide +kernel
theorem dX4_fewestSwaps_20 : decode cX4_fewestSwaps 20 = .ok (.ifCond .eq 5, 3) := by decide +kernel
theorem dX4_fewestSwaps_23 : decode cX4_fewestSwaps 23 = .ok (.iload_n 3, 1) := by decide +kernel
theorem dX4_fewestSwaps_24 : decode cX4_fewestSwaps 24 = .ok (.ireturn, 1) := by decide +kernel
theorem dX4_fewestSwaps_25 : decode cX4_fewestSwaps 25 = .ok (.iinc 3 1, 3) := by decide +kernel
theorem dX4_fewestSwaps_28 : decode cX4_fewestSwaps 28 = .ok (.goto (-26), 3) := by decide +kernel
theorem dX4_fewestSwaps_31 : decode cX4_fewestSwaps 31 = .ok (.bipush (-9), 2) := by decide +kernel
theorem dX4_fewestSwaps_33 : decode cX4_fewestSwaps 33 = .ok (.ireturn, 1) := by decide +kernel
theorem dX4_behindSwaps_0 : decode cX4_behindSwaps 0 = .ok (.aload_n 0, 1) := by decide +kernel
theorem dX4_behindSwaps_1 : decode cX4_behindSwaps 1 = .ok (.iload_n 1, 1) := by decide +kernel
theorem dX4_behindSwaps_2 : decode cX4_behindSwaps 2 = .ok (.iload_n 2, 1) := by decide +kernel
theorem dX4_behindSwaps_3 : decode cX4_behindSwaps 3 = .ok (.invokevirtual 74, 3) := by decide +kernel
theorem dX4_behindSwaps_6 : decode cX4_behindSwaps 6 = .ok (.istore 4, 2) := by decide +kernel
theorem dX4_behindSwaps_8 : decode cX4_behindSwaps 8 = .ok (.iload 4, 2) := by decide +kernel
theorem dX4_behindSwaps_10 : decode cX4_behindSwaps 10 = .ok (.bipush (-9), 2) := by decide +kernel
theorem dX4_behindSwaps_12 : decode cX4_behindSwaps 12 = .ok (.if_icmp .eq 9, 3) := by decide +kernel
theorem dX4_behindSwaps_15 : decode cX4_behindSwaps 15 = .ok (.iload_n 3, 1) := by decide +kernel
theorem dX4_behindSwaps_16 : decode cX4_behindSwaps 16 = .ok (.iload 4, 2) := by decide +kernel
theorem dX4_behindSwaps_18 : decode cX4_behindSwaps 18 = .ok (.if_icmp .le 6, 3) := by decide +kernel
theorem dX4_behindSwaps_21 : decode cX4_behindSwaps 21 = .ok (.bipush (-9), 2) := by decide +kernel
theorem dX4_behindSwaps_23 : decode cX4_behindSwaps 23 = .ok (.ireturn, 1) := by decide +kernel
theorem dX4_behindSwaps_24 : decode cX4_behindSwaps 24 = .ok (.iload_n 1, 1) := by decide +kernel
theorem dX4_behindSwaps_25 : decode cX4_behindSwaps 25 = .ok (.istore 5, 2) := by decide +kernel
theorem dX4_behindSwaps_27 : decode cX4_behindSwaps 27 = .ok (.iconst 1, 1) := by decide +kernel
theorem dX4_behindSwaps_28 : decode cX4_behindSwaps 28 = .ok (.istore 6, 2) := by decide +kernel
theorem dX4_behindSwaps_30 : decode cX4_behindSwaps 30 = .ok (.iload 6, 2) := by decide +kernel
theorem dX4_behindSwaps_32 : decode cX4_behindSwaps 32 = .ok (.iload_n 3, 1) := by decide +kernel
theorem dX4_behindSwaps_33 : decode cX4_behindSwaps 33 = .ok (.if_icmp .gt 32, 3) := by decide +kernel
theorem dX4_behindSwaps_36 : decode cX4_behindSwaps 36 = .ok (.aload_n 0, 1) := by decide +kernel
theorem dX4_behindSwaps_37 : decode cX4_behindSwaps 37 = .ok (.aload_n 0, 1) := by decide +kernel
theorem dX4_behindSwaps_38 : decode cX4_behindSwaps 38 = .ok (.iload 5, 2) := by decide +kernel
theorem dX4_behindSwaps_40 : decode cX4_behindSwaps 40 = .ok (.invokevirtual 53, 3) := by decide +kernel
theorem dX4_behindSwaps_43 : decode cX4_behindSwaps 43 = .ok (.aload_n 0, 1) := by decide +kernel
theorem dX4_behindSwaps_44 : decode cX4_behindSwaps 44 = .ok (.iload_n 2, 1) := by decide +kernel
theorem dX4_behindSwaps_45 : decode cX4_behindSwaps 45 = .ok (.iload 4, 2) := by decide +kernel
theorem dX4_behindSwaps_47 : decode cX4_behindSwaps 47 = .ok (.iload 6, 2) := by decide +kernel
theorem dX4_behindSwaps_49 : decode cX4_behindSwaps 49 = .ok (.isub, 1) := by decide +kernel
theorem dX4_behindSwaps_50 : decode cX4_behindSwaps 50 = .ok (.invokevirtual 71, 3) := by decide +kernel
theorem dX4_behindSwaps_53 : decode cX4_behindSwaps 53 = .ok (.iand, 1) := by decide +kernel
theorem dX4_behindSwaps_54 : decode cX4_behindSwaps 54 = .ok (.invokevirtual 77, 3) := by decide +kernel
theorem dX4_behindSwaps_57 : decode cX4_behindSwaps 57 = .ok (.istore 5, 2) := by decide +kernel
theorem dX4_behindSwaps_59 : decode cX4_behindSwaps 59 = .ok (.iinc 6 1, 3) := by decide +kernel
theorem dX4_behindSwaps_62 : decode cX4_behindSwaps 62 = .ok (.goto (-32), 3) := by decide +kernel
theorem dX4_behindSwaps_65 : decode cX4_behindSwaps 65 = .ok (.iload 5, 2) := by decide +kernel
theorem dX4_behindSwaps_67 : decode cX4_behindSwaps 67 = .ok (.ireturn, 1) := by decide +kernel
theorem dX4_leastIn_0 : decode cX4_leastIn 0 = .ok (.iconst 0, 1) := by decide +kernel
theorem dX4_leastIn_1 : decode cX4_leastIn 1 = .ok (.istore_n 2, 1) := by decide +kernel
theorem dX4_leastIn_2 : decode cX4_leastIn 2 = .ok (.iload_n 2, 1) := by decide +kernel
theorem dX4_leastIn_3 : decode cX4_leastIn 3 = .ok (.aload_n 0, 1) := by decide +kernel
theorem dX4_leastIn_4 : decode cX4_leastIn 4 = .ok (.getfield 9, 3) := by decide +kernel
theorem dX4_leastIn_7 : decode cX4_leastIn 7 = .ok (.if_icmp .ge 19, 3) := by decide +kernel
theorem dX4_leastIn_10 : decode cX4_leastIn 10 = .ok (.iload_n 1, 1) := by decide +kernel
theorem dX4_leastIn_11 : decode cX4_leastIn 11 = .ok (.iload_n 2, 1) := by decide +kernel
theorem dX4_leastIn_12 : decode cX4_leastIn 12 = .ok (.invokestatic 67, 3) := by decide +kernel
theorem dX4_leastIn_15 : decode cX4_leastIn 15 = .ok (.ifCond .eq 5, 3) := by decide +kernel
theorem dX4_leastIn_18 : decode cX4_leastIn 18 = .ok (.iload_n 2, 1) := by decide +kernel
theorem dX4_leastIn_19 : decode cX4_leastIn 19 = .ok (.ireturn, 1) := by decide +kernel
theorem dX4_leastIn_20 : decode cX4_leastIn 20 = .ok (.iinc 2 1, 3) := by decide +kernel
theorem dX4_leastIn_23 : decode cX4_leastIn 23 = .ok (.goto (-21), 3) := by decide +kernel
theorem dX4_leastIn_26 : decode cX4_leastIn 26 = .ok (.bipush (-9), 2) := by decide +kernel
theorem dX4_leastIn_28 : decode cX4_leastIn 28 = .ok (.ireturn, 1) := by decide +kernel
theorem dX4_countOrders_0 : decode cX4_countOrders 0 = .ok (.iconst 0, 1) := by decide +kernel
theorem dX4_countOrders_1 : decode cX4_countOrders 1 = .ok (.istore_n 1, 1) := by decide +kernel
theorem dX4_countOrders_2 : decode cX4_countOrders 2 = .ok (.iconst 1, 1) := by decide +kernel
theorem dX4_countOrders_3 : decode cX4_countOrders 3 = .ok (.istore_n 2, 1) := by decide +kernel
theorem dX4_countOrders_4 : decode cX4_countOrders 4 = .ok (.iload_n 2, 1) := by decide +kernel
theorem dX4_countOrders_5 : decode cX4_countOrders 5 = .ok (.aload_n 0, 1) := by decide +kernel
theorem dX4_countOrders_6 : decode cX4_countOrders 6 = .ok (.invokevirtual 80, 3) := by decide +kernel
theorem dX4_countOrders_9 : decode cX4_countOrders 9 = .ok (.if_icmp .gt 88, 3) := by decide +kernel
theorem dX4_countOrders_12 : decode cX4_countOrders 12 = .ok (.iload_n 2, 1) := by decide +kernel
theorem dX4_countOrders_13 : decode cX4_countOrders 13 = .ok (.sipush 256, 3) := by decide +kernel
theorem dX4_countOrders_16 : decode cX4_countOrders 16 = .ok (.if_icmp .ge 81, 3) := by decide +kernel
theorem dX4_countOrders_19 : decode cX4_countOrders 19 = .ok (.iconst 0, 1) := by decide +kernel
theorem dX4_countOrders_20 : decode cX4_countOrders 20 = .ok (.istore_n 1, 1) := by decide +kernel
theorem dX4_countOrders_21 : decode cX4_countOrders 21 = .ok (.iconst 0, 1) := by decide +kernel
theorem dX4_countOrders_22 : decode cX4_countOrders 22 = .ok (.istore_n 3, 1) := by decide +kernel
theorem dX4_countOrders_23 : decode cX4_countOrders 23 = .ok (.iload_n 3, 1) := by decide +kernel
theorem dX4_countOrders_24 : decode cX4_countOrders 24 = .ok (.aload_n 0, 1) := by decide +kernel
theorem dX4_countOrders_25 : decode cX4_countOrders 25 = .ok (.getfield 9, 3) := by decide +kernel
theorem dX4_countOrders_28 : decode cX4_countOrders 28 = .ok (.if_icmp .ge 56, 3) := by decide +kernel
theorem dX4_countOrders_31 : decode cX4_countOrders 31 = .ok (.iload_n 2, 1) := by decide +kernel
theorem dX4_countOrders_32 : decode cX4_countOrders 32 = .ok (.iconst 1, 1) := by decide +kernel
theorem dX4_countOrders_33 : decode cX4_countOrders 33 = .ok (.iload_n 3, 1) := by decide +kernel
theorem dX4_countOrders_34 : decode cX4_countOrders 34 = .ok (.ishl, 1) := by decide +kernel
theorem dX4_countOrders_35 : decode cX4_countOrders 35 = .ok (.iconst (-1), 1) := by decide +kernel
theorem dX4_countOrders_36 : decode cX4_countOrders 36 = .ok (.ixor, 1) := by decide +kernel
theorem dX4_countOrders_37 : decode cX4_countOrders 37 = .ok (.iand, 1) := by decide +kernel
theorem dX4_countOrders_38 : decode cX4_countOrders 38 = .ok (.istore 4, 2) := by decide +kernel
theorem dX4_countOrders_40 : decode cX4_countOrders 40 = .ok (.iload 4, 2) := by decide +kernel
theorem dX4_countOrders_42 : decode cX4_countOrders 42 = .ok (.iload_n 2, 1) := by decide +kernel
theorem dX4_countOrders_43 : decode cX4_countOrders 43 = .ok (.if_icmp .eq 35, 3) := by decide +kernel
theorem dX4_countOrders_46 : decode cX4_countOrders 46 = .ok (.aload_n 0, 1) := by decide +kernel
theorem dX4_countOrders_47 : decode cX4_countOrders 47 = .ok (.iload_n 3, 1) := by decide +kernel
theorem dX4_countOrders_48 : decode cX4_countOrders 48 = .ok (.invokevirtual 61, 3) := by decide +kernel
theorem dX4_countOrders_51 : decode cX4_countOrders 51 = .ok (.iload 4, 2) := by decide +kernel
theorem dX4_countOrders_53 : decode cX4_countOrders 53 = .ok (.iconst (-1), 1) := by decide +kernel
theorem dX4_countOrders_54 : decode cX4_countOrders 54 = .ok (.ixor, 1) := by decide +kernel
theorem dX4_countOrders_55 : decode cX4_countOrders 55 = .ok (.iand, 1) := by decide +kernel
theorem dX4_countOrders_56 : decode cX4_countOrders 56 = .ok (.ifCond .ne 22, 3) := by decide +kernel
theorem dX4_countOrders_59 : decode cX4_countOrders 59 = .ok (.iload_n 1, 1) := by decide +kernel
theorem dX4_countOrders_60 : decode cX4_countOrders 60 = .ok (.iload 4, 2) := by decide +kernel
theorem dX4_countOrders_62 : decode cX4_countOrders 62 = .ok (.ifCond .ne 7, 3) := by decide +kernel
theorem dX4_countOrders_65 : decode cX4_countOrders 65 = .ok (.iconst 1, 1) := by decide +kernel
theorem dX4_countOrders_66 : decode cX4_countOrders 66 = .ok (.goto 10, 3) := by decide +kernel
theorem dX4_countOrders_69 : decode cX4_countOrders 69 = .ok (.aload_n 0, 1) := by decide +kernel
theorem dX4_countOrders_70 : decode cX4_countOrders 70 = .ok (.getfield 22, 3) := by decide +kernel
theorem dX4_countOrders_73 : decode cX4_countOrders 73 = .ok (.iload 4, 2) := by decide +kernel
theorem dX4_countOrders_75 : decode cX4_countOrders 75 = .ok (.iaload, 1) := by decide +kernel
theorem dX4_countOrders_76 : decode cX4_countOrders 76 = .ok (.iadd, 1) := by decide +kernel
theorem dX4_countOrders_77 : decode cX4_countOrders 77 = .ok (.istore_n 1, 1) := by decide +kernel
theorem dX4_countOrders_78 : decode cX4_countOrders 78 = .ok (.iinc 3 1, 3) := by decide +kernel
theorem dX4_countOrders_81 : decode cX4_countOrders 81 = .ok (.goto (-58), 3) := by decide +kernel
theorem dX4_countOrders_84 : decode cX4_countOrders 84 = .ok (.aload_n 0, 1) := by decide +kernel
theorem dX4_countOrders_85 : decode cX4_countOrders 85 = .ok (.getfield 22, 3) := by decide +kernel
theorem dX4_countOrders_88 : decode cX4_countOrders 88 = .ok (.iload_n 2, 1) := by decide +kernel
theorem dX4_countOrders_89 : decode cX4_countOrders 89 = .ok (.iload_n 1, 1) := by decide +kernel
theorem dX4_countOrders_90 : decode cX4_countOrders 90 = .ok (.iastore, 1) := by decide +kernel
theorem dX4_countOrders_91 : decode cX4_countOrders 91 = .ok (.iinc 2 1, 3) := by decide +kernel
theorem dX4_countOrders_94 : decode cX4_countOrders 94 = .ok (.goto (-90), 3) := by decide +kernel
theorem dX4_countOrders_97 : decode cX4_countOrders 97 = .ok (.iload_n 1, 1) := by decide +kernel
theorem dX4_countOrders_98 : decode cX4_countOrders 98 = .ok (.ireturn, 1) := by decide +kernel
theorem dX4_placeInFirstOrder_0 : decode cX4_placeInFirstOrder 0 = .ok (.iconst 0, 1) := by decide +kernel
theorem dX4_placeInFirstOrder_1 : decode cX4_placeInFirstOrder 1 = .ok (.istore_n 2, 1) := by decide +kernel
theorem dX4_placeInFirstOrder_2 : decode cX4_placeInFirstOrder 2 = .ok (.bipush (-9), 2) := by decide +kernel
theorem dX4_placeInFirstOrder_4 : decode cX4_placeInFirstOrder 4 = .ok (.istore_n 3, 1) := by decide +kernel
theorem dX4_placeInFirstOrder_5 : decode cX4_placeInFirstOrder 5 = .ok (.iconst 0, 1) := by decide +kernel
theorem dX4_placeInFirstOrder_6 : decode cX4_placeInFirstOrder 6 = .ok (.istore 4, 2) := by decide +kernel
theorem dX4_placeInFirstOrder_8 : decode cX4_placeInFirstOrder 8 = .ok (.iload 4, 2) := by decide +kernel
theorem dX4_placeInFirstOrder_10 : decode cX4_placeInFirstOrder 10 = .ok (.iload_n 1, 1) := by decide +kernel
theorem dX4_placeInFirstOrder_11 : decode cX4_placeInFirstOrder 11 = .ok (.if_icmp .gt 35, 3) := by decide +kernel
theorem dX4_placeInFirstOrder_14 : decode cX4_placeInFirstOrder 14 = .ok (.aload_n 0, 1) := by decide +kernel
theorem dX4_placeInFirstOrder_15 : decode cX4_placeInFirstOrder 15 = .ok (.aload_n 0, 1) := by decide +kernel
theorem dX4_placeInFirstOrder_16 : decode cX4_placeInFirstOrder 16 = .ok (.iload_n 2, 1) := by decide +kernel
theorem dX4_placeInFirstOrder_17 : decode cX4_placeInFirstOrder 17 = .ok (.invokevirtual 83, 3) := by decide +kernel
theorem dX4_placeInFirstOrder_20 : decode cX4_placeInFirstOrder 20 = .ok (.invokevirtual 77, 3) := by decide +kernel
theorem dX4_placeInFirstOrder_23 : decode cX4_placeInFirstOrder 23 = .ok (.istore_n 3, 1) := by decide +kernel
theorem dX4_placeInFirstOrder_24 : decode cX4_placeInFirstOrder 24 = .ok (.iload_n 2, 1) := by decide +kernel
theorem dX4_placeInFirstOrder_25 : decode cX4_placeInFirstOrder 25 = .ok (.iload_n 3, 1) := by decide +kernel
theorem dX4_placeInFirstOrder_26 : decode cX4_placeInFirstOrder 26 = .ok (.bipush (-9), 2) := by decide +kernel
theorem dX4_placeInFirstOrder_28 : decode cX4_placeInFirstOrder 28 = .ok (.if_icmp .ne 7, 3) := by decide +kernel
theorem dX4_placeInFirstOrder_31 : decode cX4_placeInFirstOrder 31 = .ok (.iconst 0, 1) := by decide +kernel
theorem dX4_placeInFirstOrder_32 : decode cX4_placeInFirstOrder 32 = .ok (.goto 6, 3) := by decide +kernel
theorem dX4_placeInFirstOrder_35 : decode cX4_placeInFirstOrder 35 = .ok (.iconst 1, 1) := by decide +kernel
theorem dX4_placeInFirstOrder_36 : decode cX4_placeInFirstOrder 36 = .ok (.iload_n 3, 1) := by decide +kernel
theorem dX4_placeInFirstOrder_37 : decode cX4_placeInFirstOrder 37 = .ok (.ishl, 1) := by decide +kernel
theorem dX4_placeInFirstOrder_38 : decode cX4_placeInFirstOrder 38 = .ok (.ior, 1) := by decide +kernel
theorem dX4_placeInFirstOrder_39 : decode cX4_placeInFirstOrder 39 = .ok (.istore_n 2, 1) := by decide +kernel
theorem dX4_placeInFirstOrder_40 : decode cX4_placeInFirstOrder 40 = .ok (.iinc 4 1, 3) := by decide +kernel
theorem dX4_placeInFirstOrder_43 : decode cX4_placeInFirstOrder 43 = .ok (.goto (-35), 3) := by decide +kernel
theorem dX4_placeInFirstOrder_46 : decode cX4_placeInFirstOrder 46 = .ok (.iload_n 3, 1) := by decide +kernel
theorem dX4_placeInFirstOrder_47 : decode cX4_placeInFirstOrder 47 = .ok (.ireturn, 1) := by decide +kernel
theorem dX4_fittingBehind_0 : decode cX4_fittingBehind 0 = .ok (.iconst 0, 1) := by decide +kernel
theorem dX4_fittingBehind_1 : decode cX4_fittingBehind 1 = .ok (.istore_n 2, 1) := by decide +kernel
theorem dX4_fittingBehind_2 : decode cX4_fittingBehind 2 = .ok (.iconst 0, 1) := by decide +kernel
theorem dX4_fittingBehind_3 : decode cX4_fittingBehind 3 = .ok (.istore_n 3, 1) := by decide +kernel
theorem dX4_fittingBehind_4 : decode cX4_fittingBehind 4 = .ok (.iload_n 3, 1) := by decide +kernel
theorem dX4_fittingBehind_5 : decode cX4_fittingBehind 5 = .ok (.aload_n 0, 1) := by decide +kernel
theorem dX4_fittingBehind_6 : decode cX4_fittingBehind 6 = .ok (.getfield 9, 3) := by decide +kernel
theorem dX4_fittingBehind_9 : decode cX4_fittingBehind 9 = .ok (.if_icmp .ge 35, 3) := by decide +kernel
theorem dX4_fittingBehind_12 : decode cX4_fittingBehind 12 = .ok (.iload_n 1, 1) := by decide +kernel
theorem dX4_fittingBehind_13 : decode cX4_fittingBehind 13 = .ok (.iload_n 3, 1) := by decide +kernel
theorem dX4_fittingBehind_14 : decode cX4_fittingBehind 14 = .ok (.invokestatic 67, 3) := by decide +kernel
theorem dX4_fittingBehind_17 : decode cX4_fittingBehind 17 = .ok (.ifCond .ne 21, 3) := by decide +kernel
theorem dX4_fittingBehind_20 : decode cX4_fittingBehind 20 = .ok (.aload_n 0, 1) := by decide +kernel
theorem dX4_fittingBehind_21 : decode cX4_fittingBehind 21 = .ok (.iload_n 3, 1) := by decide +kernel
theorem dX4_fittingBehind_22 : decode cX4_fittingBehind 22 = .ok (.invokevirtual 61, 3) := by decide +kernel
theorem dX4_fittingBehind_25 : decode cX4_fittingBehind 25 = .ok (.iload_n 1, 1) := by decide +kernel
theorem dX4_fittingBehind_26 : decode cX4_fittingBehind 26 = .ok (.iconst (-1), 1) := by decide +kernel
theorem dX4_fittingBehind_27 : decode cX4_fittingBehind 27 = .ok (.ixor, 1) := by decide +kernel
theorem dX4_fittingBehind_28 : decode cX4_fittingBehind 28 = .ok (.iand, 1) := by decide +kernel
theorem dX4_fittingBehind_29 : decode cX4_fittingBehind 29 = .ok (.ifCond .ne 9, 3) := by decide +kernel
theorem dX4_fittingBehind_32 : decode cX4_fittingBehind 32 = .ok (.iload_n 2, 1) := by decide +kernel
theorem dX4_fittingBehind_33 : decode cX4_fittingBehind 33 = .ok (.iconst 1, 1) := by decide +kernel
theorem dX4_fittingBehind_34 : decode cX4_fittingBehind 34 = .ok (.iload_n 3, 1) := by decide +kernel
theorem dX4_fittingBehind_35 : decode cX4_fittingBehind 35 = .ok (.ishl, 1) := by decide +kernel
theorem dX4_fittingBehind_36 : decode cX4_fittingBehind 36 = .ok (.ior, 1) := by decide +kernel
theorem dX4_fittingBehind_37 : decode cX4_fittingBehind 37 = .ok (.istore_n 2, 1) := by decide +kernel
theorem dX4_fittingBehind_38 : decode cX4_fittingBehind 38 = .ok (.iinc 3 1, 3) := by decide +kernel
theorem dX4_fittingBehind_41 : decode cX4_fittingBehind 41 = .ok (.goto (-37), 3) := by decide +kernel
theorem dX4_fittingBehind_44 : decode cX4_fittingBehind 44 = .ok (.iload_n 2, 1) := by decide +kernel
theorem dX4_fittingBehind_45 : decode cX4_fittingBehind 45 = .ok (.ireturn, 1) := by decide +kernel
theorem dX4_longestChain_0 : decode cX4_longestChain 0 = .ok (.aload_n 0, 1) := by decide +kernel
theorem dX4_longestChain_1 : decode cX4_longestChain 1 = .ok (.invokevirtual 80, 3) := by decide +kernel
theorem dX4_longestChain_4 : decode cX4_longestChain 4 = .ok (.istore_n 1, 1) := by decide +kernel
theorem dX4_longestChain_5 : decode cX4_longestChain 5 = .ok (.iconst 0, 1) := by decide +kernel
theorem dX4_longestChain_6 : decode cX4_longestChain 6 = .ok (.istore_n 2, 1) := by decide +kernel
theorem dX4_longestChain_7 : decode cX4_longestChain 7 = .ok (.iconst 0, 1) := by decide +kernel
theorem dX4_longestChain_8 : decode cX4_longestChain 8 = .ok (.istore_n 3, 1) := by decide +kernel
theorem dX4_longestChain_9 : decode cX4_longestChain 9 = .ok (.iload_n 3, 1) := by decide +kernel
theorem dX4_longestChain_10 : decode cX4_longestChain 10 = .ok (.aload_n 0, 1) := by decide +kernel
theorem dX4_longestChain_11 : decode cX4_longestChain 11 = .ok (.getfield 9, 3) := by decide +kernel
theorem dX4_longestChain_14 : decode cX4_longestChain 14 = .ok (.if_icmp .ge 22, 3) := by decide +kernel
theorem dX4_longestChain_17 : decode cX4_longestChain 17 = .ok (.iload_n 1, 1) := by decide +kernel
theorem dX4_longestChain_18 : decode cX4_longestChain 18 = .ok (.ifCond .eq 18, 3) := by decide +kernel
theorem dX4_longestChain_21 : decode cX4_longestChain 21 = .ok (.iinc 2 1, 3) := by decide +kernel
theorem dX4_longestChain_24 : decode cX4_longestChain 24 = .ok (.aload_n 0, 1) := by decide +kernel
theorem dX4_longestChain_25 : decode cX4_longestChain 25 = .ok (.iload_n 1, 1) := by decide +kernel
theorem dX4_longestChain_26 : decode cX4_longestChain 26 = .ok (.invokevirtual 86, 3) := by decide +kernel
theorem dX4_longestChain_29 : decode cX4_longestChain 29 = .ok (.istore_n 1, 1) := by decide +kernel
theorem dX4_longestChain_30 : decode cX4_longestChain 30 = .ok (.iinc 3 1, 3) := by decide +kernel
theorem dX4_longestChain_33 : decode cX4_longestChain 33 = .ok (.goto (-24), 3) := by decide +kernel
theorem dX4_longestChain_36 : decode cX4_longestChain 36 = .ok (.iload_n 2, 1) := by decide +kernel
theorem dX4_longestChain_37 : decode cX4_longestChain 37 = .ok (.ireturn, 1) := by decide +kernel
theorem dX4_heavierThanAny_0 : decode cX4_heavierThanAny 0 = .ok (.iconst 0, 1) := by decide +kernel
theorem dX4_heavierThanAny_1 : decode cX4_heavierThanAny 1 = .ok (.istore_n 2, 1) := by decide +kernel
theorem dX4_heavierThanAny_2 : decode cX4_heavierThanAny 2 = .ok (.iconst 0, 1) := by decide +kernel
theorem dX4_heavierThanAny_3 : decode cX4_heavierThanAny 3 = .ok (.istore_n 3, 1) := by decide +kernel
theorem dX4_heavierThanAny_4 : decode cX4_heavierThanAny 4 = .ok (.iload_n 3, 1) := by decide +kernel
theorem dX4_heavierThanAny_5 : decode cX4_heavierThanAny 5 = .ok (.aload_n 0, 1) := by decide +kernel
theorem dX4_heavierThanAny_6 : decode cX4_heavierThanAny 6 = .ok (.getfield 9, 3) := by decide +kernel
theorem dX4_heavierThanAny_9 : decode cX4_heavierThanAny 9 = .ok (.if_icmp .ge 25, 3) := by decide +kernel
theorem dX4_heavierThanAny_12 : decode cX4_heavierThanAny 12 = .ok (.aload_n 0, 1) := by decide +kernel
theorem dX4_heavierThanAny_13 : decode cX4_heavierThanAny 13 = .ok (.iload_n 3, 1) := by decide +kernel
theorem dX4_heavierThanAny_14 : decode cX4_heavierThanAny 14 = .ok (.invokevirtual 61, 3) := by decide +kernel
theorem dX4_heavierThanAny_17 : decode cX4_heavierThanAny 17 = .ok (.iload_n 1, 1) := by decide +kernel
theorem dX4_heavierThanAny_18 : decode cX4_heavierThanAny 18 = .ok (.iand, 1) := by decide +kernel
theorem dX4_heavierThanAny_19 : decode cX4_heavierThanAny 19 = .ok (.ifCond .eq 9, 3) := by decide +kernel
theorem dX4_heavierThanAny_22 : decode cX4_heavierThanAny 22 = .ok (.iload_n 2, 1) := by decide +kernel
theorem dX4_heavierThanAny_23 : decode cX4_heavierThanAny 23 = .ok (.iconst 1, 1) := by decide +kernel
theorem dX4_heavierThanAny_24 : decode cX4_heavierThanAny 24 = .ok (.iload_n 3, 1) := by decide +kernel
theorem dX4_heavierThanAny_25 : decode cX4_heavierThanAny 25 = .ok (.ishl, 1) := by decide +kernel
theorem dX4_heavierThanAny_26 : decode cX4_heavierThanAny 26 = .ok (.ior, 1) := by decide +kernel
theorem dX4_heavierThanAny_27 : decode cX4_heavierThanAny 27 = .ok (.istore_n 2, 1) := by decide +kernel
theorem dX4_heavierThanAny_28 : decode cX4_heavierThanAny 28 = .ok (.iinc 3 1, 3) := by decide +kernel
theorem dX4_heavierThanAny_31 : decode cX4_heavierThanAny 31 = .ok (.goto (-27), 3) := by decide +kernel
theorem dX4_heavierThanAny_34 : decode cX4_heavierThanAny 34 = .ok (.iload_n 2, 1) := by decide +kernel
theorem dX4_heavierThanAny_35 : decode cX4_heavierThanAny 35 = .ok (.ireturn, 1) := by decide +kernel
theorem dX4_greatestCrowd_0 : decode cX4_greatestCrowd 0 = .ok (.iconst 0, 1) := by decide +kernel
theorem dX4_greatestCrowd_1 : decode cX4_greatestCrowd 1 = .ok (.istore_n 1, 1) := by decide +kernel
theorem dX4_greatestCrowd_2 : decode cX4_greatestCrowd 2 = .ok (.iconst 1, 1) := by decide +kernel
theorem dX4_greatestCrowd_3 : decode cX4_greatestCrowd 3 = .ok (.istore_n 2, 1) := by decide +kernel
theorem dX4_greatestCrowd_4 : decode cX4_greatestCrowd 4 = .ok (.iload_n 2, 1) := by decide +kernel
theorem dX4_greatestCrowd_5 : decode cX4_greatestCrowd 5 = .ok (.aload_n 0, 1) := by decide +kernel
theorem dX4_greatestCrowd_6 : decode cX4_greatestCrowd 6 = .ok (.invokevirtual 80, 3) := by decide +kernel
theorem dX4_greatestCrowd_9 : decode cX4_greatestCrowd 9 = .ok (.if_icmp .gt 30, 3) := by decide +kernel
theorem dX4_greatestCrowd_12 : decode cX4_greatestCrowd 12 = .ok (.iload_n 2, 1) := by decide +kernel
theorem dX4_greatestCrowd_13 : decode cX4_greatestCrowd 13 = .ok (.invokestatic 56, 3) := by decide +kernel
theorem dX4_greatestCrowd_16 : decode cX4_greatestCrowd 16 = .ok (.iload_n 1, 1) := by decide +kernel
theorem dX4_greatestCrowd_17 : decode cX4_greatestCrowd 17 = .ok (.invokestatic 56, 3) := by decide +kernel
theorem dX4_greatestCrowd_20 : decode cX4_greatestCrowd 20 = .ok (.if_icmp .le 13, 3) := by decide +kernel
theorem dX4_greatestCrowd_23 : decode cX4_greatestCrowd 23 = .ok (.aload_n 0, 1) := by decide +kernel
theorem dX4_greatestCrowd_24 : decode cX4_greatestCrowd 24 = .ok (.iload_n 2, 1) := by decide +kernel
theorem dX4_greatestCrowd_25 : decode cX4_greatestCrowd 25 = .ok (.invokevirtual 89, 3) := by decide +kernel
theorem dX4_greatestCrowd_28 : decode cX4_greatestCrowd 28 = .ok (.ifCond .eq 5, 3) := by decide +kernel
theorem dX4_greatestCrowd_31 : decode cX4_greatestCrowd 31 = .ok (.iload_n 2, 1) := by decide +kernel
theorem dX4_greatestCrowd_32 : decode cX4_greatestCrowd 32 = .ok (.istore_n 1, 1) := by decide +kernel
theorem dX4_greatestCrowd_33 : decode cX4_greatestCrowd 33 = .ok (.iinc 2 1, 3) := by decide +kernel
theorem dX4_greatestCrowd_36 : decode cX4_greatestCrowd 36 = .ok (.goto (-32), 3) := by decide +kernel
theorem dX4_greatestCrowd_39 : decode cX4_greatestCrowd 39 = .ok (.iload_n 1, 1) := by decide +kernel
theorem dX4_greatestCrowd_40 : decode cX4_greatestCrowd 40 = .ok (.ireturn, 1) := by decide +kernel
theorem dX4_areAllAlike_0 : decode cX4_areAllAlike 0 = .ok (.iconst 0, 1) := by decide +kernel
theorem dX4_areAllAlike_1 : decode cX4_areAllAlike 1 = .ok (.istore_n 2, 1) := by decide +kernel
theorem dX4_areAllAlike_2 : decode cX4_areAllAlike 2 = .ok (.iload_n 2, 1) := by decide +kernel
theorem dX4_areAllAlike_3 : decode cX4_areAllAlike 3 = .ok (.aload_n 0, 1) := by decide +kernel
theorem dX4_areAllAlike_4 : decode cX4_areAllAlike 4 = .ok (.getfield 9, 3) := by decide +kernel
theorem dX4_areAllAlike_7 : decode cX4_areAllAlike 7 = .ok (.if_icmp .ge 31, 3) := by decide +kernel
theorem dX4_areAllAlike_10 : decode cX4_areAllAlike 10 = .ok (.iload_n 1, 1) := by decide +kernel
theorem dX4_areAllAlike_11 : decode cX4_areAllAlike 11 = .ok (.iload_n 2, 1) := by decide +kernel
theorem dX4_areAllAlike_12 : decode cX4_areAllAlike 12 = .ok (.invokestatic 67, 3) := by decide +kernel
theorem dX4_areAllAlike_15 : decode cX4_areAllAlike 15 = .ok (.ifCond .eq 17, 3) := by decide +kernel
theorem dX4_areAllAlike_18 : decode cX4_areAllAlike 18 = .ok (.iload_n 1, 1) := by decide +kernel
theorem dX4_areAllAlike_19 : decode cX4_areAllAlike 19 = .ok (.aload_n 0, 1) := by decide +kernel
theorem dX4_areAllAlike_20 : decode cX4_areAllAlike 20 = .ok (.iload_n 2, 1) := by decide +kernel
theorem dX4_areAllAlike_21 : decode cX4_areAllAlike 21 = .ok (.invokevirtual 53, 3) := by decide +kernel
theorem dX4_areAllAlike_24 : decode cX4_areAllAlike 24 = .ok (.iconst (-1), 1) := by decide +kernel
theorem dX4_areAllAlike_25 : decode cX4_areAllAlike 25 = .ok (.ixor, 1) := by decide +kernel
theorem dX4_areAllAlike_26 : decode cX4_areAllAlike 26 = .ok (.iand, 1) := by decide +kernel
theorem dX4_areAllAlike_27 : decode cX4_areAllAlike 27 = .ok (.ifCond .eq 5, 3) := by decide +kernel
theorem dX4_areAllAlike_30 : decode cX4_areAllAlike 30 = .ok (.iconst 0, 1) := by decide +kernel
theorem dX4_areAllAlike_31 : decode cX4_areAllAlike 31 = .ok (.ireturn, 1) := by decide +kernel
theorem dX4_areAllAlike_32 : decode cX4_areAllAlike 32 = .ok (.iinc 2 1, 3) := by decide +kernel
theorem dX4_areAllAlike_35 : decode cX4_areAllAlike 35 = .ok (.goto (-33), 3) := by decide +kernel
theorem dX4_areAllAlike_38 : decode cX4_areAllAlike 38 = .ok (.iconst 1, 1) := by decide +kernel
theorem dX4_areAllAlike_39 : decode cX4_areAllAlike 39 = .ok (.ireturn, 1) := by decide +kernel
theorem dX4_countTold_0 : decode cX4_countTold 0 = .ok (.iconst 0, 1) := by decide +kernel
theorem dX4_countTold_1 : decode cX4_countTold 1 = .ok (.istore_n 1, 1) := by decide +kernel
theorem dX4_countTold_2 : decode cX4_countTold 2 = .ok (.iconst 0, 1) := by decide +kernel
theorem dX4_countTold_3 : decode cX4_countTold 3 = .ok (.istore_n 2, 1) := by decide +kernel
theorem dX4_countTold_4 : decode cX4_countTold 4 = .ok (.iload_n 2, 1) := by decide +kernel
theorem dX4_countTold_5 : decode cX4_countTold 5 = .ok (.aload_n 0, 1) := by decide +kernel
theorem dX4_countTold_6 : decode cX4_countTold 6 = .ok (.getfield 9, 3) := by decide +kernel
theorem dX4_countTold_9 : decode cX4_countTold 9 = .ok (.if_icmp .ge 20, 3) := by decide +kernel
theorem dX4_countTold_12 : decode cX4_countTold 12 = .ok (.iload_n 1, 1) := by decide +kernel
theorem dX4_countTold_13 : decode cX4_countTold 13 = .ok (.aload_n 0, 1) := by decide +kernel
theorem dX4_countTold_14 : decode cX4_countTold 14 = .ok (.iload_n 2, 1) := by decide +kernel
theorem dX4_countTold_15 : decode cX4_countTold 15 = .ok (.invokevirtual 61, 3) := by decide +kernel
theorem dX4_countTold_18 : decode cX4_countTold 18 = .ok (.invokestatic 56, 3) := by decide +kernel
theorem dX4_countTold_21 : decode cX4_countTold 21 = .ok (.iadd, 1) := by decide +kernel
theorem dX4_countTold_22 : decode cX4_countTold 22 = .ok (.istore_n 1, 1) := by decide +kernel
theorem dX4_countTold_23 : decode cX4_countTold 23 = .ok (.iinc 2 1, 3) := by decide +kernel
theorem dX4_countTold_26 : decode cX4_countTold 26 = .ok (.goto (-22), 3) := by decide +kernel
theorem dX4_countTold_29 : decode cX4_countTold 29 = .ok (.iload_n 1, 1) := by decide +kernel
theorem dX4_countTold_30 : decode cX4_countTold 30 = .ok (.ireturn, 1) := by decide +kernel
theorem dX5_firstFault_0 : decode cX5_firstFault 0 = .ok (.iconst 0, 1) := by decide +kernel
theorem dX5_firstFault_1 : decode cX5_firstFault 1 = .ok (.istore 4, 2) := by decide +kernel
theorem dX5_firstFault_3 : decode cX5_firstFault 3 = .ok (.iload 4, 2) := by decide +kernel
theorem dX5_firstFault_5 : decode cX5_firstFault 5 = .ok (.iload_n 3, 1) := by decide +kernel
theorem dX5_firstFault_6 : decode cX5_firstFault 6 = .ok (.if_icmp .ge 23, 3) := by decide +kernel
theorem dX5_firstFault_9 : decode cX5_firstFault 9 = .ok (.aload_n 0, 1) := by decide +kernel
theorem dX5_firstFault_10 : decode cX5_firstFault 10 = .ok (.iload_n 1, 1) := by decide +kernel
theorem dX5_firstFault_11 : decode cX5_firstFault 11 = .ok (.iload_n 2, 1) := by decide +kernel
theorem dX5_firstFault_12 : decode cX5_firstFault 12 = .ok (.iload 4, 2) := by decide +kernel
theorem dX5_firstFault_14 : decode cX5_firstFault 14 = .ok (.invokestatic 9, 3) := by decide +kernel
theorem dX5_firstFault_17 : decode cX5_firstFault 17 = .ok (.ifCond .ne 6, 3) := by decide +kernel
theorem dX5_firstFault_20 : decode cX5_firstFault 20 = .ok (.iload 4, 2) := by decide +kernel
theorem dX5_firstFault_22 : decode cX5_firstFault 22 = .ok (.ireturn, 1) := by decide +kernel
theorem dX5_firstFault_23 : decode cX5_firstFault 23 = .ok (.iinc 4 1, 3) := by decide +kernel
theorem dX5_firstFault_26 : decode cX5_firstFault 26 = .ok (.goto (-23), 3) := by decide +kernel
theorem dX5_firstFault_29 : decode cX5_firstFault 29 = .ok (.iload_n 3, 1) := by decide +kernel
theorem dX5_firstFault_30 : decode cX5_firstFault 30 = .ok (.iconst 4, 1) := by decide +kernel
theorem dX5_firstFault_31 : decode cX5_firstFault 31 = .ok (.irem, 1) := by decide +kernel
theorem dX5_firstFault_32 : decode cX5_firstFault 32 = .ok (.iconst 3, 1) := by decide +kernel
theorem dX5_firstFault_33 : decode cX5_firstFault 33 = .ok (.if_icmp .ne 7, 3) := by decide +kernel
theorem dX5_firstFault_36 : decode cX5_firstFault 36 = .ok (.iconst 1, 1) := by decide +kernel
theorem dX5_firstFault_37 : decode cX5_firstFault 37 = .ok (.goto 4, 3) := by decide +kernel
theorem dX5_firstFault_40 : decode cX5_firstFault 40 = .ok (.iconst 0, 1) := by decide +kernel
theorem dX5_firstFault_41 : decode cX5_firstFault 41 = .ok (.istore 4, 2) := by decide +kernel
theorem dX5_firstFault_43 : decode cX5_firstFault 43 = .ok (.iload_n 3, 1) := by decide +kernel
theorem dX5_firstFault_44 : decode cX5_firstFault 44 = .ok (.bipush 7, 2) := by decide +kernel
theorem dX5_firstFault_46 : decode cX5_firstFault 46 = .ok (.if_icmp .lt 7, 3) := by decide +kernel
theorem dX5_firstFault_49 : decode cX5_firstFault 49 = .ok (.iconst 1, 1) := by decide +kernel
theorem dX5_firstFault_50 : decode cX5_firstFault 50 = .ok (.goto 4, 3) := by decide +kernel
theorem dX5_firstFault_53 : decode cX5_firstFault 53 = .ok (.iconst 0, 1) := by decide +kernel
theorem dX5_firstFault_54 : decode cX5_firstFault 54 = .ok (.istore 5, 2) := by decide +kernel
theorem dX5_firstFault_56 : decode cX5_firstFault 56 = .ok (.iload 4, 2) := by decide +kernel
theorem dX5_firstFault_58 : decode cX5_firstFault 58 = .ok (.ifCond .eq 12, 3) := by decide +kernel
theorem dX5_firstFault_61 : decode cX5_firstFault 61 = .ok (.iload 5, 2) := by decide +kernel
theorem dX5_firstFault_63 : decode cX5_firstFault 63 = .ok (.ifCond .eq 7, 3) := by decide +kernel
theorem dX5_firstFault_66 : decode cX5_firstFault 66 = .ok (.iconst (-1), 1) := by decide +kernel
theorem dX5_firstFault_67 : decode cX5_firstFault 67 = .ok (.goto 4, 3) := by decide +kernel
theorem dX5_firstFault_70 : decode cX5_firstFault 70 = .ok (.iload_n 3, 1) := by decide +kernel
theorem dX5_firstFault_71 : decode cX5_firstFault 71 = .ok (.ireturn, 1) := by decide +kernel
theorem dX5_goesOn_0 : decode cX5_goesOn 0 = .ok (.aload_n 0, 1) := by decide +kernel
theorem dX5_goesOn_1 : decode cX5_goesOn 1 = .ok (.iload_n 1, 1) := by decide +kernel
theorem dX5_goesOn_2 : decode cX5_goesOn 2 = .ok (.iload_n 2, 1) := by decide +kernel
theorem dX5_goesOn_3 : decode cX5_goesOn 3 = .ok (.iload_n 3, 1) := by decide +kernel
theorem dX5_goesOn_4 : decode cX5_goesOn 4 = .ok (.iadd, 1) := by decide +kernel
theorem dX5_goesOn_5 : decode cX5_goesOn 5 = .ok (.invokevirtual 15, 3) := by decide +kernel
theorem dX5_goesOn_8 : decode cX5_goesOn 8 = .ok (.istore 4, 2) := by decide +kernel
theorem dX5_goesOn_10 : decode cX5_goesOn 10 = .ok (.iload_n 3, 1) := by decide +kernel
theorem dX5_goesOn_11 : decode cX5_goesOn 11 = .ok (.iconst 4, 1) := by decide +kernel
theorem dX5_goesOn_12 : decode cX5_goesOn 12 = .ok (.irem, 1) := by decide +kernel
theorem dX5_goesOn_13 : decode cX5_goesOn 13 = .ok (.istore 5, 2) := by decide +kernel
theorem dX5_goesOn_15 : decode cX5_goesOn 15 = .ok (.iload 5, 2) := by decide +kernel
theorem dX5_goesOn_17 : decode cX5_goesOn 17 = .ok (.iconst 3, 1) := by decide +kernel
theorem dX5_goesOn_18 : decode cX5_goesOn 18 = .ok (.if_icmp .ne 22, 3) := by decide +kernel
theorem dX5_goesOn_21 : decode cX5_goesOn 21 = .ok (.iload 4, 2) := by decide +kernel
theorem dX5_goesOn_23 : decode cX5_goesOn 23 = .ok (.bipush 59, 2) := by decide +kernel
theorem dX5_goesOn_25 : decode cX5_goesOn 25 = .ok (.if_icmp .ne 13, 3) := by decide +kernel
theorem dX5_goesOn_28 : decode cX5_goesOn 28 = .ok (.iload_n 3, 1) := by decide +kernel
theorem dX5_goesOn_29 : decode cX5_goesOn 29 = .ok (.bipush 31, 2) := by decide +kernel
theorem dX5_goesOn_31 : decode cX5_goesOn 31 = .ok (.if_icmp .ge 7, 3) := by decide +kernel
theorem dX5_goesOn_34 : decode cX5_goesOn 34 = .ok (.iconst 1, 1) := by decide +kernel
theorem dX5_goesOn_35 : decode cX5_goesOn 35 = .ok (.goto 4, 3) := by decide +kernel
theorem dX5_goesOn_38 : decode cX5_goesOn 38 = .ok (.iconst 0, 1) := by decide +kernel
theorem dX5_goesOn_39 : decode cX5_goesOn 39 = .ok (.ireturn, 1) := by decide +kernel
theorem dX5_goesOn_40 : decode cX5_goesOn 40 = .ok (.iload 4, 2) := by decide +kernel
theorem dX5_goesOn_42 : decode cX5_goesOn 42 = .ok (.bipush 48, 2) := by decide +kernel
theorem dX5_goesOn_44 : decode cX5_goesOn 44 = .ok (.if_icmp .lt 10, 3) := by decide +kernel
theorem dX5_goesOn_47 : decode cX5_goesOn 47 = .ok (.iload 4, 2) := by decide +kernel
theorem dX5_goesOn_49 : decode cX5_goesOn 49 = .ok (.bipush 57, 2) := by decide +kernel
theorem dX5_goesOn_51 : decode cX5_goesOn 51 = .ok (.if_icmp .le 5, 3) := by decide +kernel
theorem dX5_goesOn_54 : decode cX5_goesOn 54 = .ok (.iconst 0, 1) := by decide +kernel
theorem dX5_goesOn_55 : decode cX5_goesOn 55 = .ok (.ireturn, 1) := by decide +kernel
theorem dX5_goesOn_56 : decode cX5_goesOn 56 = .ok (.iload 5, 2) := by decide +kernel
theorem dX5_goesOn_58 : decode cX5_goesOn 58 = .ok (.iconst 2, 1) := by decide +kernel
theorem dX5_goesOn_59 : decode cX5_goesOn 59 = .ok (.if_icmp .ne 16, 3) := by decide +kernel
theorem dX5_goesOn_62 : decode cX5_goesOn 62 = .ok (.aload_n 0, 1) := by decide +kernel
theorem dX5_goesOn_63 : decode cX5_goesOn 63 = .ok (.iload_n 1, 1) := by decide +kernel
theorem dX5_goesOn_64 : decode cX5_goesOn 64 = .ok (.iload_n 2, 1) := by decide +kernel
theorem dX5_goesOn_65 : decode cX5_goesOn 65 = .ok (.iload_n 3, 1) := by decide +kernel
theorem dX5_goesOn_66 : decode cX5_goesOn 66 = .ok (.iadd, 1) := by decide +kernel
theorem dX5_goesOn_67 : decode cX5_goesOn 67 = .ok (.iconst 2, 1) := by decide +kernel
theorem dX5_goesOn_68 : decode cX5_goesOn 68 = .ok (.isub, 1) := by decide +kernel
theorem dX5_goesOn_69 : decode cX5_goesOn 69 = .ok (.invokestatic 21, 3) := by decide +kernel
theorem dX5_goesOn_72 : decode cX5_goesOn 72 = .ok (.ifCond .eq 7, 3) := by decide +kernel
theorem dX5_goesOn_75 : decode cX5_goesOn 75 = .ok (.iconst 1, 1) := by decide +kernel
theorem dX5_goesOn_76 : decode cX5_goesOn 76 = .ok (.goto 4, 3) := by decide +kernel
theorem dX5_goesOn_79 : decode cX5_goesOn 79 = .ok (.iconst 0, 1) := by decide +kernel
theorem dX5_goesOn_80 : decode cX5_goesOn 80 = .ok (.ireturn, 1) := by decide +kernel
theorem dX5_read_0 : decode cX5_read 0 = .ok (.aload 4, 2) := by decide +kernel
theorem dX5_read_2 : decode cX5_read 2 = .ok (.invokevirtual 25, 3) := by decide +kernel
theorem dX5_read_5 : decode cX5_read 5 = .ok (.iconst 0, 1) := by decide +kernel
theorem dX5_read_6 : decode cX5_read 6 = .ok (.istore 5, 2) := by decide +kernel
theorem dX5_read_8 : decode cX5_read 8 = .ok (.iload 5, 2) := by decide +kernel
theorem dX5_read_10 : decode cX5_read 10 = .ok (.iload_n 3, 1) := by decide +kernel
theorem dX5_read_11 : decode cX5_read 11 = .ok (.if_icmp .ge 23, 3) := by decide +kernel
theorem dX5_read_14 : decode cX5_read 14 = .ok (.aload 4, 2) := by decide +kernel
theorem dX5_read_16 : decode cX5_read 16 = .ok (.aload_n 0, 1) := by decide +kernel
theorem dX5_read_17 : decode cX5_read 17 = .ok (.iload_n 1, 1) := by decide +kernel
theorem dX5_read_18 : decode cX5_read 18 = .ok (.iload_n 2, 1) := by decide +kernel
theorem dX5_read_19 : decode cX5_read 19 = .ok (.iload 5, 2) := by decide +kernel
theorem dX5_read_21 : decode cX5_read 21 = .ok (.iadd, 1) := by decide +kernel
theorem dX5_read_22 : decode cX5_read 22 = .ok (.invokestatic 21, 3) := by decide +kernel
theorem dX5_read_25 : decode cX5_read 25 = .ok (.invokevirtual 30, 3) := by decide +kernel
theorem dX5_read_28 : decode cX5_read 28 = .ok (.iinc 5 4, 3) := by decide +kernel
theorem dX5_read_31 : decode cX5_read 31 = .ok (.goto (-23), 3) := by decide +kernel
theorem dX5_read_34 : decode cX5_read 34 = .ok (.return_, 1) := by decide +kernel
theorem dX5_number_0 : decode cX5_number 0 = .ok (.iconst 0, 1) := by decide +kernel
theorem dX5_number_1 : decode cX5_number 1 = .ok (.istore_n 3, 1) := by decide +kernel
theorem dX5_number_2 : decode cX5_number 2 = .ok (.iconst 0, 1) := by decide +kernel
theorem dX5_number_3 : decode cX5_number 3 = .ok (.istore 4, 2) := by decide +kernel
theorem dX5_number_5 : decode cX5_number 5 = .ok (.iload 4, 2) := by decide +kernel
theorem dX5_number_7 : decode cX5_number 7 = .ok (.iconst 3, 1) := by decide +kernel
theorem dX5_number_8 : decode cX5_number 8 = .ok (.if_icmp .ge 27, 3) := by decide +kernel
theorem dX5_number_11 : decode cX5_number 11 = .ok (.bipush 10, 2) := by decide +kernel
theorem dX5_number_13 : decode cX5_number 13 = .ok (.iload_n 3, 1) := by decide +kernel
theorem dX5_number_14 : decode cX5_number 14 = .ok (.imul, 1) := by decide +kernel
theorem dX5_number_15 : decode cX5_number 15 = .ok (.aload_n 0, 1) := by decide +kernel
theorem dX5_number_16 : decode cX5_number 16 = .ok (.iload_n 1, 1) := by decide +kernel
theorem dX5_number_17 : decode cX5_number 17 = .ok (.iload_n 2, 1) := by decide +kernel
theorem dX5_number_18 : decode cX5_number 18 = .ok (.iload 4, 2) := by decide +kernel
theorem dX5_number_20 : decode cX5_number 20 = .ok (.iadd, 1) := by decide +kernel
theorem dX5_number_21 : decode cX5_number 21 = .ok (.invokevirtual 15, 3) := by decide +kernel
theorem dX5_number_24 : decode cX5_number 24 = .ok (.iadd, 1) := by decide +kernel
theorem dX5_number_25 : decode cX5_number 25 = .ok (.bipush 48, 2) := by decide +kernel
theorem dX5_number_27 : decode cX5_number 27 = .ok (.isub, 1) := by decide +kernel
theorem dX5_number_28 : decode cX5_number 28 = .ok (.istore_n 3, 1) := by decide +kernel
theorem dX5_number_29 : decode cX5_number 29 = .ok (.iinc 4 1, 3) := by decide +kernel
theorem dX5_number_32 : decode cX5_number 32 = .ok (.goto (-27), 3) := by decide +kernel
theorem dX5_number_35 : decode cX5_number 35 = .ok (.iload_n 3, 1) := by decide +kernel
theorem dX5_number_36 : decode cX5_number 36 = .ok (.ireturn, 1) := by decide +kernel
theorem dX6_init_0 : decode cX6_init 0 = .ok (.aload_n 0, 1) := by decide +kernel
theorem dX6_init_1 : decode cX6_init 1 = .ok (.invokespecial 3, 3) := by decide +kernel
theorem dX6_init_4 : decode cX6_init 4 = .ok (.aload_n 0, 1) := by decide +kernel
theorem dX6_init_5 : decode cX6_init 5 = .ok (.iconst 0, 1) := by decide +kernel
theorem dX6_init_6 : decode cX6_init 6 = .ok (.putfield 9, 3) := by decide +kernel
theorem dX6_init_9 : decode cX6_init 9 = .ok (.aload_n 0, 1) := by decide +kernel
theorem dX6_init_10 : decode cX6_init 10 = .ok (.bipush 8, 2) := by decide +kernel
theorem dX6_init_12 : decode cX6_init 12 = .ok (.newarray .int, 2) := by decide +kernel
theorem dX6_init_14 : decode cX6_init 14 = .ok (.putfield 15, 3) := by decide +kernel
theorem dX6_init_17 : decode cX6_init 17 = .ok (.return_, 1) := by decide +kernel
theorem dX6_count_0 : decode cX6_count 0 = .ok (.aload_n 0, 1) := by decide +kernel
theorem dX6_count_1 : decode cX6_count 1 = .ok (.getfield 9, 3) := by decide +kernel
theorem dX6_count_4 : decode cX6_count 4 = .ok (.ireturn, 1) := by decide +kernel
theorem dX6_has_0 : decode cX6_has 0 = .ok (.iload_n 1, 1) := by decide +kernel
theorem dX6_has_1 : decode cX6_has 1 = .ok (.ifCond .lt 24, 3) := by decide +kernel
theorem dX6_has_4 : decode cX6_has 4 = .ok (.iload_n 1, 1) := by decide +kernel
theorem dX6_has_5 : decode cX6_has 5 = .ok (.aload_n 0, 1) := by decide +kernel
theorem dX6_has_6 : decode cX6_has 6 = .ok (.getfield 9, 3) := by decide +kernel
theorem dX6_has_9 : decode cX6_has 9 = .ok (.if_icmp .ge 16, 3) := by decide +kernel
theorem dX6_has_12 : decode cX6_has 12 = .ok (.iload_n 1, 1) := by decide +kernel
theorem dX6_has_13 : decode cX6_has 13 = .ok (.aload_n 0, 1) := by decide +kernel
theorem dX6_has_14 : decode cX6_has 14 = .ok (.getfield 15, 3) := by decide +kernel
theorem dX6_has_17 : decode cX6_has 17 = .ok (.arraylength, 1) := by decide +kernel
theorem dX6_has_18 : decode cX6_has 18 = .ok (.if_icmp .ge 7, 3) := by decide +kernel
theorem dX6_has_21 : decode cX6_has 21 = .ok (.iconst 1, 1) := by decide +kernel
theorem dX6_has_22 : decode cX6_has 22 = .ok (.goto 4, 3) := by decide +kernel
theorem dX6_has_25 : decode cX6_has 25 = .ok (.iconst 0, 1) := by decide +kernel
theorem dX6_has_26 : decode cX6_has 26 = .ok (.ireturn, 1) := by decide +kernel
theorem dX6_weightOf_0 : decode cX6_weightOf 0 = .ok (.aload_n 0, 1) := by decide +kernel
theorem dX6_weightOf_1 : decode cX6_weightOf 1 = .ok (.iload_n 1, 1) := by decide +kernel
theorem dX6_weightOf_2 : decode cX6_weightOf 2 = .ok (.invokevirtual 19, 3) := by decide +kernel
theorem dX6_weightOf_5 : decode cX6_weightOf 5 = .ok (.ifCond .eq 12, 3) := by decide +kernel
theorem dX6_weightOf_8 : decode cX6_weightOf 8 = .ok (.aload_n 0, 1) := by decide +kernel
theorem dX6_weightOf_9 : decode cX6_weightOf 9 = .ok (.getfield 15, 3) := by decide +kernel
theorem dX6_weightOf_12 : decode cX6_weightOf 12 = .ok (.iload_n 1, 1) := by decide +kernel
theorem dX6_weightOf_13 : decode cX6_weightOf 13 = .ok (.iaload, 1) := by decide +kernel
theorem dX6_weightOf_14 : decode cX6_weightOf 14 = .ok (.goto 4, 3) := by decide +kernel
theorem dX6_weightOf_17 : decode cX6_weightOf 17 = .ok (.iconst 0, 1) := by decide +kernel
theorem dX6_weightOf_18 : decode cX6_weightOf 18 = .ok (.ireturn, 1) := by decide +kernel
theorem dX6_setWeight_0 : decode cX6_setWeight 0 = .ok (.aload_n 0, 1) := by decide +kernel
theorem dX6_setWeight_1 : decode cX6_setWeight 1 = .ok (.iload_n 1, 1) := by decide +kernel
theorem dX6_setWeight_2 : decode cX6_setWeight 2 = .ok (.invokevirtual 19, 3) := by decide +kernel
theorem dX6_setWeight_5 : decode cX6_setWeight 5 = .ok (.ifCond .eq 10, 3) := by decide +kernel
theorem dX6_setWeight_8 : decode cX6_setWeight 8 = .ok (.aload_n 0, 1) := by decide +kernel
theorem dX6_setWeight_9 : decode cX6_setWeight 9 = .ok (.getfield 15, 3) := by decide +kernel
theorem dX6_setWeight_12 : decode cX6_setWeight 12 = .ok (.iload_n 1, 1) := by decide +kernel
theorem dX6_setWeight_13 : decode cX6_setWeight 13 = .ok (.iload_n 2, 1) := by decide +kernel
theorem dX6_setWeight_14 : decode cX6_setWeight 14 = .ok (.iastore, 1) := by decide +kernel
theorem dX6_setWeight_15 : decode cX6_setWeight 15 = .ok (.return_, 1) := by decide +kernel
theorem dX6_clear_0 : decode cX6_clear 0 = .ok (.aload_n 0, 1) := by decide +kernel
theorem dX6_clear_1 : decode cX6_clear 1 = .ok (.iconst 0, 1) := by decide +kernel
theorem dX6_clear_2 : decode cX6_clear 2 = .ok (.putfield 9, 3) := by decide +kernel
theorem dX6_clear_5 : decode cX6_clear 5 = .ok (.return_, 1) := by decide +kernel
theorem dX6_add_0 : decode cX6_add 0 = .ok (.aload_n 0, 1) := by decide +kernel
theorem dX6_add_1 : decode cX6_add 1 = .ok (.getfield 9, 3) := by decide +kernel
theorem dX6_add_4 : decode cX6_add 4 = .ok (.aload_n 0, 1) := by decide +kernel
theorem dX6_add_5 : decode cX6_add 5 = .ok (.getfield 15, 3) := by decide +kernel
theorem dX6_add_8 : decode cX6_add 8 = .ok (.arraylength, 1) := by decide +kernel
theorem dX6_add_9 : decode cX6_add 9 = .ok (.if_icmp .ge 23, 3) := by decide +kernel
theorem dX6_add_12 : decode cX6_add 12 = .ok (.aload_n 0, 1) := by decide +kernel
theorem dX6_add_13 : decode cX6_add 13 = .ok (.getfield 15, 3) := by decide +kernel
theorem dX6_add_16 : decode cX6_add 16 = .ok (.aload_n 0, 1) := by decide +kernel
theorem dX6_add_17 : decode cX6_add 17 = .ok (.getfield 9, 3) := by decide +kernel
theorem dX6_add_20 : decode cX6_add 20 = .ok (.iload_n 1, 1) := by decide +kernel
theorem dX6_add_21 : decode cX6_add 21 = .ok (.iastore, 1) := by decide +kernel
theorem dX6_add_22 : decode cX6_add 22 = .ok (.aload_n 0, 1) := by decide +kernel
theorem dX6_add_23 : decode cX6_add 23 = .ok (.dup, 1) := by decide +kernel
theorem dX6_add_24 : decode cX6_add 24 = .ok (.getfield 9, 3) := by decide +kernel
theorem dX6_add_27 : decode cX6_add 27 = .ok (.iconst 1, 1) := by decide +kernel
theorem dX6_add_28 : decode cX6_add 28 = .ok (.iadd, 1) := by decide +kernel
theorem dX6_add_29 : decode cX6_add 29 = .ok (.putfield 9, 3) := by decide +kernel
theorem dX6_add_32 : decode cX6_add 32 = .ok (.return_, 1) := by decide +kernel
theorem dX6_weightTogether_0 : decode cX6_weightTogether 0 = .ok (.iconst 0, 1) := by decide +kernel
theorem dX6_weightTogether_1 : decode cX6_weightTogether 1 = .ok (.istore_n 2, 1) := by decide +kernel
theorem dX6_weightTogether_2 : decode cX6_weightTogether 2 = .ok (.iconst 0, 1) := by decide +kernel
theorem dX6_weightTogether_3 : decode cX6_weightTogether 3 = .ok (.istore_n 3, 1) := by decide +kernel
theorem dX6_weightTogether_4 : decode cX6_weightTogether 4 = .ok (.iload_n 3, 1) := by decide +kernel
theorem dX6_weightTogether_5 : decode cX6_weightTogether 5 = .ok (.aload_n 0, 1) := by decide +kernel
theorem dX6_weightTogether_6 : decode cX6_weightTogether 6 = .ok (.getfield 9, 3) := by decide +kernel
theorem dX6_weightTogether_9 : decode cX6_weightTogether 9 = .ok (.if_icmp .ge 29, 3) := by decide +kernel
theorem dX6_weightTogether_12 : decode cX6_weightTogether 12 = .ok (.iload_n 2, 1) := by decide +kernel
theorem dX6_weightTogether_13 : decode cX6_weightTogether 13 = .ok (.iload_n 1, 1) := by decide +kernel
theorem dX6_weightTogether_14 : decode cX6_weightTogether 14 = .ok (.iload_n 3, 1) := by decide +kernel
theorem dX6_weightTogether_15 : decode cX6_weightTogether 15 = .ok (.invokestatic 23, 3) := by decide +kernel
theorem dX6_weightTogether_18 : decode cX6_weightTogether 18 = .ok (.ifCond .eq 11, 3) := by decide +kernel
theorem dX6_weightTogether_21 : decode cX6_weightTogether 21 = .ok (.aload_n 0, 1) := by decide +kernel
theorem dX6_weightTogether_22 : decode cX6_weightTogether 22 = .ok (.iload_n 3, 1) := by decide +kernel
theorem dX6_weightTogether_23 : decode cX6_weightTogether 23 = .ok (.invokevirtual 27, 3) := by decide +kernel
theorem dX6_weightTogether_26 : decode cX6_weightTogether 26 = .ok (.goto 4, 3) := by decide +kernel
theorem dX6_weightTogether_29 : decode cX6_weightTogether 29 = .ok (.iconst 0, 1) := by decide +kernel
theorem dX6_weightTogether_30 : decode cX6_weightTogether 30 = .ok (.iadd, 1) := by decide +kernel
theorem dX6_weightTogether_31 : decode cX6_weightTogether 31 = .ok (.istore_n 2, 1) := by decide +kernel
theorem dX6_weightTogether_32 : decode cX6_weightTogether 32 = .ok (.iinc 3 1, 3) := by decide +kernel
theorem dX6_weightTogether_35 : decode cX6_weightTogether 35 = .ok (.goto (-31), 3) := by decide +kernel
theorem dX6_weightTogether_38 : decode cX6_weightTogether 38 = .ok (.iload_n 2, 1) := by decide +kernel
theorem dX6_weightTogether_39 : decode cX6_weightTogether 39 = .ok (.ireturn, 1) := by decide +kernel
theorem dX6_greatestOf_0 : decode cX6_greatestOf 0 = .ok (.iconst 0, 1) := by decide +kernel
theorem dX6_greatestOf_1 : decode cX6_greatestOf 1 = .ok (.istore_n 2, 1) := by decide +kernel
theorem dX6_greatestOf_2 : decode cX6_greatestOf 2 = .ok (.iconst 0, 1) := by decide +kernel
theorem dX6_greatestOf_3 : decode cX6_greatestOf 3 = .ok (.istore_n 3, 1) := by decide +kernel
theorem dX6_greatestOf_4 : decode cX6_greatestOf 4 = .ok (.iload_n 3, 1) := by decide +kernel
theorem dX6_greatestOf_5 : decode cX6_greatestOf 5 = .ok (.aload_n 0, 1) := by decide +kernel
theorem dX6_greatestOf_6 : decode cX6_greatestOf 6 = .ok (.getfield 9, 3) := by decide +kernel
theorem dX6_greatestOf_9 : decode cX6_greatestOf 9 = .ok (.if_icmp .ge 31, 3) := by decide +kernel
theorem dX6_greatestOf_12 : decode cX6_greatestOf 12 = .ok (.iload_n 1, 1) := by decide +kernel
theorem dX6_greatestOf_13 : decode cX6_greatestOf 13 = .ok (.iload_n 3, 1) := by decide +kernel
theorem dX6_greatestOf_14 : decode cX6_greatestOf 14 = .ok (.invokestatic 23, 3) := by decide +kernel
theorem dX6_greatestOf_17 : decode cX6_greatestOf 17 = .ok (.ifCond .eq 15, 3) := by decide +kernel
theorem dX6_greatestOf_20 : decode cX6_greatestOf 20 = .ok (.iload_n 2, 1) := by decide +kernel
theorem dX6_greatestOf_21 : decode cX6_greatestOf 21 = .ok (.aload_n 0, 1) := by decide +kernel
theorem dX6_greatestOf_22 : decode cX6_greatestOf 22 = .ok (.iload_n 3, 1) := by decide +kernel
theorem dX6_greatestOf_23 : decode cX6_greatestOf 23 = .ok (.invokevirtual 27, 3) := by decide +kernel
theorem dX6_greatestOf_26 : decode cX6_greatestOf 26 = .ok (.invokestatic 31, 3) := by decide +kernel
theorem dX6_greatestOf_29 : decode cX6_greatestOf 29 = .ok (.goto 4, 3) := by decide +kernel
theorem dX6_greatestOf_32 : decode cX6_greatestOf 32 = .ok (.iload_n 2, 1) := by decide +kernel
theorem dX6_greatestOf_33 : decode cX6_greatestOf 33 = .ok (.istore_n 2, 1) := by decide +kernel
theorem dX6_greatestOf_34 : decode cX6_greatestOf 34 = .ok (.iinc 3 1, 3) := by decide +kernel
theorem dX6_greatestOf_37 : decode cX6_greatestOf 37 = .ok (.goto (-33), 3) := by decide +kernel
theorem dX6_greatestOf_40 : decode cX6_greatestOf 40 = .ok (.iload_n 2, 1) := by decide +kernel
theorem dX6_greatestOf_41 : decode cX6_greatestOf 41 = .ok (.ireturn, 1) := by decide +kernel
theorem dX7_init_0 : decode cX7_init 0 = .ok (.aload_n 0, 1) := by decide +kernel
theorem dX7_init_1 : decode cX7_init 1 = .ok (.invokespecial 5, 3) := by decide +kernel
theorem dX7_init_4 : decode cX7_init 4 = .ok (.aload_n 0, 1) := by decide +kernel
theorem dX7_init_5 : decode cX7_init 5 = .ok (.new 11, 3) := by decide +kernel
theorem dX7_init_8 : decode cX7_init 8 = .ok (.dup, 1) := by decide +kernel
theorem dX7_init_9 : decode cX7_init 9 = .ok (.invokespecial 13, 3) := by decide +kernel
theorem dX7_init_12 : decode cX7_init 12 = .ok (.putfield 14, 3) := by decide +kernel
theorem dX7_init_15 : decode cX7_init 15 = .ok (.aload_n 0, 1) := by decide +kernel
theorem dX7_init_16 : decode cX7_init 16 = .ok (.new 18, 3) := by decide +kernel
theorem dX7_init_19 : decode cX7_init 19 = .ok (.dup, 1) := by decide +kernel
theorem dX7_init_20 : decode cX7_init 20 = .ok (.invokespecial 20, 3) := by decide +kernel
theorem dX7_init_23 : decode cX7_init 23 = .ok (.putfield 21, 3) := by decide +kernel
theorem dX7_init_26 : decode cX7_init 26 = .ok (.aload_n 0, 1) := by decide +kernel
theorem dX7_init_27 : decode cX7_init 27 = .ok (.new 25, 3) := by decide +kernel
theorem dX7_init_30 : decode cX7_init 30 = .ok (.dup, 1) := by decide +kernel
theorem dX7_init_31 : decode cX7_init 31 = .ok (.invokespecial 27, 3) := by decide +kernel
theorem dX7_init_34 : decode cX7_init 34 = .ok (.putfield 28, 3) := by decide +kernel
theorem dX7_init_37 : decode cX7_init 37 = .ok (.aload_n 0, 1) := by decide +kernel
theorem dX7_init_38 : decode cX7_init 38 = .ok (.new 32, 3) := by decide +kernel
theorem dX7_init_41 : decode cX7_init 41 = .ok (.dup, 1) := by decide +kernel
theorem dX7_init_42 : decode cX7_init 42 = .ok (.invokespecial 34, 3) := by decide +kernel
theorem dX7_init_45 : decode cX7_init 45 = .ok (.putfield 35, 3) := by decide +kernel
theorem dX7_init_48 : decode cX7_init 48 = .ok (.aload_n 0, 1) := by decide +kernel
theorem dX7_init_49 : decode cX7_init 49 = .ok (.new 39, 3) := by decide +kernel
theorem dX7_init_52 : decode cX7_init 52 = .ok (.dup, 1) := by decide +kernel
theorem dX7_init_53 : decode cX7_init 53 = .ok (.invokespecial 41, 3) := by decide +kernel
theorem dX7_init_56 : decode cX7_init 56 = .ok (.putfield 42, 3) := by decide +kernel
theorem dX7_init_59 : decode cX7_init 59 = .ok (.aload_n 0, 1) := by decide +kernel
theorem dX7_init_60 : decode cX7_init 60 = .ok (.new 39, 3) := by decide +kernel
theorem dX7_init_63 : decode cX7_init 63 = .ok (.dup, 1) := by decide +kernel
theorem dX7_init_64 : decode cX7_init 64 = .ok (.invokespecial 41, 3) := by decide +kernel
theorem dX7_init_67 : decode cX7_init 67 = .ok (.putfield 46, 3) := by decide +kernel
theorem dX7_init_70 : decode cX7_init 70 = .ok (.aload_n 0, 1) := by decide +kernel
theorem dX7_init_71 : decode cX7_init 71 = .ok (.new 49, 3) := by decide +kernel
theorem dX7_init_74 : decode cX7_init 74 = .ok (.dup, 1) := by decide +kernel
theorem dX7_init_75 : decode cX7_init 75 = .ok (.invokespecial 51, 3) := by decide +kernel
theorem dX7_init_78 : decode cX7_init 78 = .ok (.putfield 52, 3) := by decide +kernel
theorem dX7_init_81 : decode cX7_init 81 = .ok (.aload_n 0, 1) := by decide +kernel
theorem dX7_init_82 : decode cX7_init 82 = .ok (.iconst 0, 1) := by decide +kernel
theorem dX7_init_83 : decode cX7_init 83 = .ok (.putfield 56, 3) := by decide +kernel
theorem dX7_init_86 : decode cX7_init 86 = .ok (.aload_n 0, 1) := by decide +kernel
theorem dX7_init_87 : decode cX7_init 87 = .ok (.iconst 0, 1) := by decide +kernel
theorem dX7_init_88 : decode cX7_init 88 = .ok (.putfield 60, 3) := by decide +kernel
theorem dX7_init_91 : decode cX7_init 91 = .ok (.return_, 1) := by decide +kernel
theorem dX7_market_0 : decode cX7_market 0 = .ok (.aload_n 0, 1) := by decide +kernel
theorem dX7_market_1 : decode cX7_market 1 = .ok (.iconst 0, 1) := by decide +kernel
theorem dX7_market_2 : decode cX7_market 2 = .ok (.putfield 60, 3) := by decide +kernel
theorem dX7_market_5 : decode cX7_market 5 = .ok (.aload_n 0, 1) := by decide +kernel
theorem dX7_market_6 : decode cX7_market 6 = .ok (.getfield 35, 3) := by decide +kernel
theorem dX7_market_9 : decode cX7_market 9 = .ok (.iload_n 1, 1) := by decide +kernel
theorem dX7_market_10 : decode cX7_market 10 = .ok (.invokevirtual 63, 3) := by decide +kernel
theorem dX7_market_13 : decode cX7_market 13 = .ok (.ifCond .ne 5, 3) := by decide +kernel
theorem dX7_market_16 : decode cX7_market 16 = .ok (.iconst (-1), 1) := by decide +kernel
theorem dX7_market_17 : decode cX7_market 17 = .ok (.ireturn, 1) := by decide +kernel
theorem dX7_market_18 : decode cX7_market 18 = .ok (.iload_n 2, 1) := by decide +kernel
theorem dX7_market_19 : decode cX7_market 19 = .ok (.invokestatic 67, 3) := by decide +kernel
theorem dX7_market_22 : decode cX7_market 22 = .ok (.ifCond .ne 6, 3) := by decide +kernel
theorem dX7_market_25 : decode cX7_market 25 = .ok (.bipush (-2), 2) := by decide +kernel
theorem dX7_market_27 : decode cX7_market 27 = .ok (.ireturn, 1) := by decide +kernel
theorem dX7_market_28 : decode cX7_market 28 = .ok (.aload_n 0, 1) := by decide +kernel
theorem dX7_market_29 : decode cX7_market 29 = .ok (.getfield 35, 3) := by decide +kernel
theorem dX7_market_32 : decode cX7_market 32 = .ok (.iload_n 1, 1) := by decide +kernel
theorem dX7_market_33 : decode cX7_market 33 = .ok (.iload_n 2, 1) := by decide +kernel
theorem dX7_market_34 : decode cX7_market 34 = .ok (.iload_n 3, 1) := by decide +kernel
theorem dX7_market_35 : decode cX7_market 35 = .ok (.iload 4, 2) := by decide +kernel
theorem dX7_market_37 : decode cX7_market 37 = .ok (.invokevirtual 70, 3) := by decide +kernel
theorem dX7_market_40 : decode cX7_market 40 = .ok (.istore 5, 2) := by decide +kernel
theorem dX7_market_42 : decode cX7_market 42 = .ok (.iload 5, 2) := by decide +kernel
theorem dX7_market_44 : decode cX7_market 44 = .ok (.ifCond .eq 10, 3) := by decide +kernel
theorem dX7_market_47 : decode cX7_market 47 = .ok (.aload_n 0, 1) := by decide +kernel
theorem dX7_market_48 : decode cX7_market 48 = .ok (.iload 5, 2) := by decide +kernel
theorem dX7_market_50 : decode cX7_market 50 = .ok (.invokevirtual 74, 3) := by decide +kernel
theorem dX7_market_53 : decode cX7_market 53 = .ok (.ireturn, 1) := by decide +kernel
theorem dX7_market_54 : decode cX7_market 54 = .ok (.aload_n 0, 1) := by decide +kernel
theorem dX7_market_55 : decode cX7_market 55 = .ok (.getfield 35, 3) := by decide +kernel
theorem dX7_market_58 : decode cX7_market 58 = .ok (.iload_n 1, 1) := by decide +kernel
theorem dX7_market_59 : decode cX7_market 59 = .ok (.iload_n 3, 1) := by decide +kernel
theorem dX7_market_60 : decode cX7_market 60 = .ok (.iload 4, 2) := by decide +kernel
theorem dX7_market_62 : decode cX7_market 62 = .ok (.invokestatic 78, 3) := by decide +kernel
theorem dX7_market_65 : decode cX7_market 65 = .ok (.istore 6, 2) := by decide +kernel
theorem dX7_market_67 : decode cX7_market 67 = .ok (.iload 6, 2) := by decide +kernel
theorem dX7_market_69 : decode cX7_market 69 = .ok (.iconst (-1), 1) := by decide +kernel
theorem dX7_market_70 : decode cX7_market 70 = .ok (.if_icmp .eq 9, 3) := by decide +kernel
theorem dX7_market_73 : decode cX7_market 73 = .ok (.bipush (-100), 2) := by decide +kernel
theorem dX7_market_75 : decode cX7_market 75 = .ok (.iload 6, 2) := by decide +kernel
theorem dX7_market_77 : decode cX7_market 77 = .ok (.isub, 1) := by decide +kernel
theorem dX7_market_78 : decode cX7_market 78 = .ok (.ireturn, 1) := by decide +kernel
theorem dX7_market_79 : decode cX7_market 79 = .ok (.aload_n 0, 1) := by decide +kernel
theorem dX7_market_80 : decode cX7_market 80 = .ok (.getfield 21, 3) := by decide +kernel
theorem dX7_market_83 : decode cX7_market 83 = .ok (.invokevirtual 84, 3) := by decide +kernel
theorem dX7_market_86 : decode cX7_market 86 = .ok (.aload_n 0, 1) := by decide +kernel
theorem dX7_market_87 : decode cX7_market 87 = .ok (.getfield 28, 3) := by decide +kernel
theorem dX7_market_90 : decode cX7_market 90 = .ok (.invokevirtual 87, 3) := by decide +kernel
theorem dX7_market_93 : decode cX7_market 93 = .ok (.aload_n 0, 1) := by decide +kernel
theorem dX7_market_94 : decode cX7_market 94 = .ok (.getfield 35, 3) := by decide +kernel
theorem dX7_market_97 : decode cX7_market 97 = .ok (.iload_n 1, 1) := by decide +kernel
theorem dX7_market_98 : decode cX7_market 98 = .ok (.iload_n 3, 1) := by decide +kernel
theorem dX7_market_99 : decode cX7_market 99 = .ok (.iload 4, 2) := by decide +kernel
theorem dX7_market_101 : decode cX7_market 101 = .ok (.aload_n 0, 1) := by decide +kernel
theorem dX7_market_102 : decode cX7_market 102 = .ok (.getfield 14, 3) := by decide +kernel
theorem dX7_market_105 : decode cX7_market 105 = .ok (.invokestatic 88, 3) := by decide +kernel
theorem dX7_market_108 : decode cX7_market 108 = .ok (.aload_n 0, 1) := by decide +kernel
theorem dX7_market_109 : decode cX7_market 109 = .ok (.getfield 14, 3) := by decide +kernel
theorem dX7_market_112 : decode cX7_market 112 = .ok (.invokevirtual 92, 3) := by decide +kernel
theorem dX7_market_115 : decode cX7_market 115 = .ok (.ireturn, 1) := by decide +kernel
theorem dX7_weight_0 : decode cX7_weight 0 = .ok (.aload_n 0, 1) := by decide +kernel
theorem dX7_weight_1 : decode cX7_weight 1 = .ok (.getfield 14, 3) := by decide +kernel
theorem dX7_weight_4 : decode cX7_weight 4 = .ok (.iload_n 1, 1) := by decide +kernel
theorem dX7_weight_5 : decode cX7_weight 5 = .ok (.invokevirtual 96, 3) := by decide +kernel
theorem dX7_weight_8 : decode cX7_weight 8 = .ok (.ifCond .eq 14, 3) := by decide +kernel
theorem dX7_weight_11 : decode cX7_weight 11 = .ok (.aload_n 0, 1) := by decide +kernel
theorem dX7_weight_12 : decode cX7_weight 12 = .ok (.getfield 14, 3) := by decide +kernel
theorem dX7_weight_15 : decode cX7_weight 15 = .ok (.iload_n 1, 1) := by decide +kernel
theorem dX7_weight_16 : decode cX7_weight 16 = .ok (.invokevirtual 97, 3) := by decide +kernel
theorem dX7_weight_19 : decode cX7_weight 19 = .ok (.goto 4, 3) := by decide +kernel
theorem dX7_weight_22 : decode cX7_weight 22 = .ok (.iconst (-1), 1) := by decide +kernel
theorem dX7_weight_23 : decode cX7_weight 23 = .ok (.ireturn, 1) := by decide +kernel
theorem dX7_weigh_0 : decode cX7_weigh 0 = .ok (.aload_n 0, 1) := by decide +kernel
theorem dX7_weigh_1 : decode cX7_weigh 1 = .ok (.getfield 14, 3) := by decide +kernel
theorem dX7_weigh_4 : decode cX7_weigh 4 = .ok (.iload_n 1, 1) := by decide +kernel
theorem dX7_weigh_5 : decode cX7_weigh 5 = .ok (.invokevirtual 96, 3) := by decide +kernel
theorem dX7_weigh_8 : decode cX7_weigh 8 = .ok (.ifCond .ne 5, 3) := by decide +kernel
theorem dX7_weigh_11 : decode cX7_weigh 11 = .ok (.iconst (-1), 1) := by decide +kernel
theorem dX7_weigh_12 : decode cX7_weigh 12 = .ok (.ireturn, 1) := by decide +kernel
theorem dX7_weigh_13 : decode cX7_weigh 13 = .ok (.iload_n 2, 1) := by decide +kernel
theorem dX7_weigh_14 : decode cX7_weigh 14 = .ok (.iconst 1, 1) := by decide +kernel
theorem dX7_weigh_15 : decode cX7_weigh 15 = .ok (.if_icmp .lt 10, 3) := by decide +kernel
theorem dX7_weigh_18 : decode cX7_weigh 18 = .ok (.iload_n 2, 1) := by decide +kernel
theorem dX7_weigh_19 : decode cX7_weigh 19 = .ok (.sipush 999, 3) := by decide +kernel
theorem dX7_weigh_22 : decode cX7_weigh 22 = .ok (.if_icmp .le 6, 3) := by decide +kernel
theorem dX7_weigh_25 : decode cX7_weigh 25 = .ok (.bipush (-2), 2) := by decide +kernel
theorem dX7_weigh_27 : decode cX7_weigh 27 = .ok (.ireturn, 1) := by decide +kernel
theorem dX7_weigh_28 : decode cX7_weigh 28 = .ok (.aload_n 0, 1) := by decide +kernel
theorem dX7_weigh_29 : decode cX7_weigh 29 = .ok (.getfield 14, 3) := by decide +kernel
theorem dX7_weigh_32 : decode cX7_weigh 32 = .ok (.iload_n 1, 1) := by decide +kernel
theorem dX7_weigh_33 : decode cX7_weigh 33 = .ok (.invokevirtual 97, 3) := by decide +kernel
theorem dX7_weigh_36 : decode cX7_weigh 36 = .ok (.istore_n 3, 1) := by decide +kernel
theorem dX7_weigh_37 : decode cX7_weigh 37 = .ok (.aload_n 0, 1) := by decide +kernel
theorem dX7_weigh_38 : decode cX7_weigh 38 = .ok (.getfield 14, 3) := by decide +kernel
theorem dX7_weigh_41 : decode cX7_weigh 41 = .ok (.iload_n 1, 1) := by decide +kernel
theorem dX7_weigh_42 : decode cX7_weigh 42 = .ok (.iload_n 2, 1) := by decide +kernel
theorem dX7_weigh_43 : decode cX7_weigh 43 = .ok (.invokevirtual 100, 3) := by decide +kernel
theorem dX7_weigh_46 : decode cX7_weigh 46 = .ok (.iload_n 3, 1) := by decide +kernel
theorem dX7_weigh_47 : decode cX7_weigh 47 = .ok (.ireturn, 1) := by decide +kernel
theorem dX7_hand_0 : decode cX7_hand 0 = .ok (.iload_n 1, 1) := by decide +kernel
theorem dX7_hand_1 : decode cX7_hand 1 = .ok (.invokestatic 104, 3) := by decide +kernel
theorem dX7_hand_4 : decode cX7_hand 4 = .ok (.ifCond .eq 14, 3) := by decide +kernel
theorem dX7_hand_7 : decode cX7_hand 7 = .ok (.iload_n 2, 1) := by decide +kernel
theorem dX7_hand_8 : decode cX7_hand 8 = .ok (.iconst 1, 1) := by decide +kernel
theorem dX7_hand_9 : decode cX7_hand 9 = .ok (.if_icmp .lt 9, 3) := by decide +kernel
theorem dX7_hand_12 : decode cX7_hand 12 = .ok (.iload_n 2, 1) := by decide +kernel
theorem dX7_hand_13 : decode cX7_hand 13 = .ok (.bipush 20, 2) := by decide +kernel
theorem dX7_hand_15 : decode cX7_hand 15 = .ok (.if_icmp .le 6, 3) := by decide +kernel
theorem dX7_hand_18 : decode cX7_hand 18 = .ok (.bipush (-2), 2) := by decide +kernel
theorem dX7_hand_20 : decode cX7_hand 20 = .ok (.ireturn, 1) := by decide +kernel
theorem dX7_hand_21 : decode cX7_hand 21 = .ok (.aload_n 0, 1) := by decide +kernel
theorem dX7_hand_22 : decode cX7_hand 22 = .ok (.getfield 14, 3) := by decide +kernel
theorem dX7_hand_25 : decode cX7_hand 25 = .ok (.invokevirtual 92, 3) := by decide +kernel
theorem dX7_hand_28 : decode cX7_hand 28 = .ok (.ifCond .ne 6, 3) := by decide +kernel
theorem dX7_hand_31 : decode cX7_hand 31 = .ok (.bipush (-3), 2) := by decide +kernel
theorem dX7_hand_33 : decode cX7_hand 33 = .ok (.ireturn, 1) := by decide +kernel
theorem dX7_hand_34 : decode cX7_hand 34 = .ok (.aload_n 0, 1) := by decide +kernel
theorem dX7_hand_35 : decode cX7_hand 35 = .ok (.getfield 21, 3) := by decide +kernel
theorem dX7_hand_38 : decode cX7_hand 38 = .ok (.iload_n 1, 1) := by decide +kernel
theorem dX7_hand_39 : decode cX7_hand 39 = .ok (.iload_n 2, 1) := by decide +kernel
theorem dX7_hand_40 : decode cX7_hand 40 = .ok (.invokevirtual 107, 3) := by decide +kernel
theorem dX7_hand_43 : decode cX7_hand 43 = .ok (.ireturn, 1) := by decide +kernel
theorem dX7_ofHand_0 : decode cX7_ofHand 0 = .ok (.aload_n 0, 1) := by decide +kernel
theorem dX7_ofHand_1 : decode cX7_ofHand 1 = .ok (.getfield 21, 3) := by decide +kernel
theorem dX7_ofHand_4 : decode cX7_ofHand 4 = .ok (.iload_n 1, 1) := by decide +kernel
theorem dX7_ofHand_5 : decode cX7_ofHand 5 = .ok (.invokevirtual 111, 3) := by decide +kernel
theorem dX7_ofHand_8 : decode cX7_ofHand 8 = .ok (.ifCond .ne 5, 3) := by decide +kernel
theorem dX7_ofHand_11 : decode cX7_ofHand 11 = .ok (.iconst (-1), 1) := by decide +kernel
theorem dX7_ofHand_12 : decode cX7_ofHand 12 = .ok (.ireturn, 1) := by decide +kernel
theorem dX7_ofHand_13 : decode cX7_ofHand 13 = .ok (.iload_n 2, 1) := by decide +kernel
theorem dX7_ofHand_14 : decode cX7_ofHand 14 = .ok (.invokestatic 112, 3) := by decide +kernel
theorem dX7_ofHand_17 : decode cX7_ofHand 17 = .ok (.ifCond .ne 6, 3) := by decide +kernel
theorem dX7_ofHand_20 : decode cX7_ofHand 20 = .ok (.bipush (-2), 2) := by decide +kernel
theorem dX7_ofHand_22 : decode cX7_ofHand 22 = .ok (.ireturn, 1) := by decide +kernel
theorem dX7_ofHand_23 : decode cX7_ofHand 23 = .ok (.iload_n 2, 1) := by decide +kernel
theorem dX7_ofHand_24 : decode cX7_ofHand 24 = .ok (.ifCond .ne 14, 3) := by decide +kernel
theorem dX7_ofHand_27 : decode cX7_ofHand 27 = .ok (.aload_n 0, 1) := by decide +kernel
theorem dX7_ofHand_28 : decode cX7_ofHand 28 = .ok (.getfield 21, 3) := by decide +kernel
theorem dX7_ofHand_31 : decode cX7_ofHand 31 = .ok (.iload_n 1, 1) := by decide +kernel
theorem dX7_ofHand_32 : decode cX7_ofHand 32 = .ok (.invokevirtual 115, 3) := by decide +kernel
theorem dX7_ofHand_35 : decode cX7_ofHand 35 = .ok (.goto 11, 3) := by decide +kernel
theorem dX7_ofHand_38 : decode cX7_ofHand 38 = .ok (.aload_n 0, 1) := by decide +kernel
theorem dX7_ofHand_39 : decode cX7_ofHand 39 = .ok (.getfield 21, 3) := by decide +kernel
theorem dX7_ofHand_42 : decode cX7_ofHand 42 = .ok (.iload_n 1, 1) := by decide +kernel
theorem dX7_ofHand_43 : decode cX7_ofHand 43 = .ok (.invokevirtual 118, 3) := by decide +kernel
theorem dX7_ofHand_46 : decode cX7_ofHand 46 = .ok (.ireturn, 1) := by decide +kernel
theorem dX7_tells_0 : decode cX7_tells 0 = .ok (.aload_n 0, 1) := by decide +kernel
theorem dX7_tells_1 : decode cX7_tells 1 = .ok (.getfield 21, 3) := by decide +kernel
theorem dX7_tells_4 : decode cX7_tells 4 = .ok (.iload_n 1, 1) := by decide +kernel
theorem dX7_tells_5 : decode cX7_tells 5 = .ok (.invokevirtual 111, 3) := by decide +kernel
theorem dX7_tells_8 : decode cX7_tells 8 = .ok (.ifCond .ne 5, 3) := by decide +kernel
theorem dX7_tells_11 : decode cX7_tells 11 = .ok (.iconst (-1), 1) := by decide +kernel
theorem dX7_tells_12 : decode cX7_tells 12 = .ok (.ireturn, 1) := by decide +kernel
theorem dX7_tells_13 : decode cX7_tells 13 = .ok (.iload_n 2, 1) := by decide +kernel
theorem dX7_tells_14 : decode cX7_tells 14 = .ok (.iconst 1, 1) := by decide +kernel
theorem dX7_tells_15 : decode cX7_tells 15 = .ok (.if_icmp .lt 22, 3) := by decide +kernel
theorem dX7_tells_18 : decode cX7_tells 18 = .ok (.iload_n 2, 1) := by decide +kernel
theorem dX7_tells_19 : decode cX7_tells 19 = .ok (.sipush 9999, 3) := by decide +kernel
theorem dX7_tells_22 : decode cX7_tells 22 = .ok (.if_icmp .gt 15, 3) := by decide +kernel
theorem dX7_tells_25 : decode cX7_tells 25 = .ok (.iload_n 3, 1) := by decide +kernel
theorem dX7_tells_26 : decode cX7_tells 26 = .ok (.iconst 1, 1) := by decide +kernel
theorem dX7_tells_27 : decode cX7_tells 27 = .ok (.if_icmp .lt 10, 3) := by decide +kernel
theorem dX7_tells_30 : decode cX7_tells 30 = .ok (.iload_n 3, 1) := by decide +kernel
theorem dX7_tells_31 : decode cX7_tells 31 = .ok (.sipush 9999, 3) := by decide +kernel
theorem dX7_tells_34 : decode cX7_tells 34 = .ok (.if_icmp .le 6, 3) := by decide +kernel
theorem dX7_tells_37 : decode cX7_tells 37 = .ok (.bipush (-2), 2) := by decide +kernel
theorem dX7_tells_39 : decode cX7_tells 39 = .ok (.ireturn, 1) := by decide +kernel
theorem dX7_tells_40 : decode cX7_tells 40 = .ok (.aload_n 0, 1) := by decide +kernel
theorem dX7_tells_41 : decode cX7_tells 41 = .ok (.getfield 21, 3) := by decide +kernel
theorem dX7_tells_44 : decode cX7_tells 44 = .ok (.iload_n 1, 1) := by decide +kernel
theorem dX7_tells_45 : decode cX7_tells 45 = .ok (.iload_n 2, 1) := by decide +kernel
theorem dX7_tells_46 : decode cX7_tells 46 = .ok (.iload_n 3, 1) := by decide +kernel
theorem dX7_tells_47 : decode cX7_tells 47 = .ok (.invokevirtual 121, 3) := by decide +kernel
theorem dX7_tells_50 : decode cX7_tells 50 = .ok (.ifCond .eq 7, 3) := by decide +kernel
theorem dX7_tells_53 : decode cX7_tells 53 = .ok (.iconst 1, 1) := by decide +kernel
theorem dX7_tells_54 : decode cX7_tells 54 = .ok (.goto 4, 3) := by decide +kernel
theorem dX7_tells_57 : decode cX7_tells 57 = .ok (.iconst 0, 1) := by decide +kernel
theorem dX7_tells_58 : decode cX7_tells 58 = .ok (.ireturn, 1) := by decide +kernel
theorem dX7_alike_0 : decode cX7_alike 0 = .ok (.aload_n 0, 1) := by decide +kernel
theorem dX7_alike_1 : decode cX7_alike 1 = .ok (.getfield 21, 3) := by decide +kernel
theorem dX7_alike_4 : decode cX7_alike 4 = .ok (.iload_n 1, 1) := by decide +kernel
theorem dX7_alike_5 : decode cX7_alike 5 = .ok (.invokevirtual 111, 3) := by decide +kernel
theorem dX7_alike_8 : decode cX7_alike 8 = .ok (.ifCond .eq 14, 3) := by decide +kernel
theorem dX7_alike_11 : decode cX7_alike 11 = .ok (.aload_n 0, 1) := by decide +kernel
theorem dX7_alike_12 : decode cX7_alike 12 = .ok (.getfield 14, 3) := by decide +kernel
theorem dX7_alike_15 : decode cX7_alike 15 = .ok (.iload_n 2, 1) := by decide +kernel
theorem dX7_alike_16 : decode cX7_alike 16 = .ok (.invokevirtual 96, 3) := by decide +kernel
theorem dX7_alike_19 : decode cX7_alike 19 = .ok (.ifCond .ne 5, 3) := by decide +kernel
theorem dX7_alike_22 : decode cX7_alike 22 = .ok (.iconst (-1), 1) := by decide +kernel
theorem dX7_alike_23 : decode cX7_alike 23 = .ok (.ireturn, 1) := by decide +kernel
theorem dX7_alike_24 : decode cX7_alike 24 = .ok (.aload_n 0, 1) := by decide +kernel
theorem dX7_alike_25 : decode cX7_alike 25 = .ok (.getfield 42, 3) := by decide +kernel
theorem dX7_alike_28 : decode cX7_alike 28 = .ok (.aload_n 0, 1) := by decide +kernel
theorem dX7_alike_29 : decode cX7_alike 29 = .ok (.getfield 21, 3) := by decide +kernel
theorem dX7_alike_32 : decode cX7_alike 32 = .ok (.iload_n 1, 1) := by decide +kernel
theorem dX7_alike_33 : decode cX7_alike 33 = .ok (.aload_n 0, 1) := by decide +kernel
theorem dX7_alike_34 : decode cX7_alike 34 = .ok (.getfield 14, 3) := by decide +kernel
theorem dX7_alike_37 : decode cX7_alike 37 = .ok (.invokevirtual 125, 3) := by decide +kernel
theorem dX7_alike_40 : decode cX7_alike 40 = .ok (.aload_n 0, 1) := by decide +kernel
theorem dX7_alike_41 : decode cX7_alike 41 = .ok (.getfield 42, 3) := by decide +kernel
theorem dX7_alike_44 : decode cX7_alike 44 = .ok (.iload_n 2, 1) := by decide +kernel
theorem dX7_alike_45 : decode cX7_alike 45 = .ok (.invokevirtual 129, 3) := by decide +kernel
theorem dX7_alike_48 : decode cX7_alike 48 = .ok (.ireturn, 1) := by decide +kernel
theorem dX7_finer_0 : decode cX7_finer 0 = .ok (.aload_n 0, 1) := by decide +kernel
theorem dX7_finer_1 : decode cX7_finer 1 = .ok (.getfield 21, 3) := by decide +kernel
theorem dX7_finer_4 : decode cX7_finer 4 = .ok (.iload_n 1, 1) := by decide +kernel
theorem dX7_finer_5 : decode cX7_finer 5 = .ok (.invokevirtual 111, 3) := by decide +kernel
theorem dX7_finer_8 : decode cX7_finer 8 = .ok (.ifCond .eq 14, 3) := by decide +kernel
theorem dX7_finer_11 : decode cX7_finer 11 = .ok (.aload_n 0, 1) := by decide +kernel
theorem dX7_finer_12 : decode cX7_finer 12 = .ok (.getfield 21, 3) := by decide +kernel
theorem dX7_finer_15 : decode cX7_finer 15 = .ok (.iload_n 2, 1) := by decide +kernel
theorem dX7_finer_16 : decode cX7_finer 16 = .ok (.invokevirtual 111, 3) := by decide +kernel
theorem dX7_finer_19 : decode cX7_finer 19 = .ok (.ifCond .ne 5, 3) := by decide +kernel
theorem dX7_finer_22 : decode cX7_finer 22 = .ok (.iconst (-1), 1) := by decide +kernel
theorem dX7_finer_23 : decode cX7_finer 23 = .ok (.ireturn, 1) := by decide +kernel
theorem dX7_finer_24 : decode cX7_finer 24 = .ok (.aload_n 0, 1) := by decide +kernel
theorem dX7_finer_25 : decode cX7_finer 25 = .ok (.getfield 42, 3) := by decide +kernel
theorem dX7_finer_28 : decode cX7_finer 28 = .ok (.aload_n 0, 1) := by decide +kernel
theorem dX7_finer_29 : decode cX7_finer 29 = .ok (.getfield 21, 3) := by decide +kernel
theorem dX7_finer_32 : decode cX7_finer 32 = .ok (.iload_n 1, 1) := by decide +kernel
theorem dX7_finer_33 : decode cX7_finer 33 = .ok (.aload_n 0, 1) := by decide +kernel
theorem dX7_finer_34 : decode cX7_finer 34 = .ok (.getfield 14, 3) := by decide +kernel
theorem dX7_finer_37 : decode cX7_finer 37 = .ok (.invokevirtual 125, 3) := by decide +kernel
theorem dX7_finer_40 : decode cX7_finer 40 = .ok (.aload_n 0, 1) := by decide +kernel
theorem dX7_finer_41 : decode cX7_finer 41 = .ok (.getfield 46, 3) := by decide +kernel
theorem dX7_finer_44 : decode cX7_finer 44 = .ok (.aload_n 0, 1) := by decide +kernel
theorem dX7_finer_45 : decode cX7_finer 45 = .ok (.getfield 21, 3) := by decide +kernel
theorem dX7_finer_48 : decode cX7_finer 48 = .ok (.iload_n 2, 1) := by decide +kernel
theorem dX7_finer_49 : decode cX7_finer 49 = .ok (.aload_n 0, 1) := by decide +kernel
theorem dX7_finer_50 : decode cX7_finer 50 = .ok (.getfield 14, 3) := by decide +kernel
theorem dX7_finer_53 : decode cX7_finer 53 = .ok (.invokevirtual 125, 3) := by decide +kernel
theorem dX7_finer_56 : decode cX7_finer 56 = .ok (.aload_n 0, 1) := by decide +kernel
theorem dX7_finer_57 : decode cX7_finer 57 = .ok (.getfield 42, 3) := by decide +kernel
theorem dX7_finer_60 : decode cX7_finer 60 = .ok (.aload_n 0, 1) := by decide +kernel
theorem dX7_finer_61 : decode cX7_finer 61 = .ok (.getfield 46, 3) := by decide +kernel
theorem dX7_finer_64 : decode cX7_finer 64 = .ok (.invokevirtual 132, 3) := by decide +kernel
theorem dX7_finer_67 : decode cX7_finer 67 = .ok (.ifCond .eq 7, 3) := by decide +kernel
theorem dX7_finer_70 : decode cX7_finer 70 = .ok (.iconst 1, 1) := by decide +kernel
theorem dX7_finer_71 : decode cX7_finer 71 = .ok (.goto 4, 3) := by decide +kernel
theorem dX7_finer_74 : decode cX7_finer 74 = .ok (.iconst 0, 1) := by decide +kernel
theorem dX7_finer_75 : decode cX7_finer 75 = .ok (.ireturn, 1) := by decide +kernel
theorem dX7_way_0 : decode cX7_way 0 = .ok (.aload_n 0, 1) := by decide +kernel
theorem dX7_way_1 : decode cX7_way 1 = .ok (.getfield 21, 3) := by decide +kernel
theorem dX7_way_4 : decode cX7_way 4 = .ok (.iload_n 1, 1) := by decide +kernel
theorem dX7_way_5 : decode cX7_way 5 = .ok (.invokevirtual 111, 3) := by decide +kernel
theorem dX7_way_8 : decode cX7_way 8 = .ok (.ifCond .eq 31, 3) := by decide +kernel
theorem dX7_way_11 : decode cX7_way 11 = .ok (.aload_n 0, 1) := by decide +kernel
theorem dX7_way_12 : decode cX7_way 12 = .ok (.getfield 14, 3) := by decide +kernel
theorem dX7_way_15 : decode cX7_way 15 = .ok (.iload_n 2, 1) := by decide +kernel
theorem dX7_way_16 : decode cX7_way 16 = .ok (.invokevirtual 96, 3) := by decide +kernel
theorem dX7_way_19 : decode cX7_way 19 = .ok (.ifCond .eq 20, 3) := by decide +kernel
theorem dX7_way_22 : decode cX7_way 22 = .ok (.aload_n 0, 1) := by decide +kernel
theorem dX7_way_23 : decode cX7_way 23 = .ok (.getfield 14, 3) := by decide +kernel
theorem dX7_way_26 : decode cX7_way 26 = .ok (.iload_n 3, 1) := by decide +kernel
theorem dX7_way_27 : decode cX7_way 27 = .ok (.invokevirtual 96, 3) := by decide +kernel
theorem dX7_way_30 : decode cX7_way 30 = .ok (.ifCond .eq 9, 3) := by decide +kernel
theorem dX7_way_33 : decode cX7_way 33 = .ok (.iload 4, 2) := by decide +kernel
theorem dX7_way_35 : decode cX7_way 35 = .ok (.iconst (-1), 1) := by decide +kernel
theorem dX7_way_36 : decode cX7_way 36 = .ok (.if_icmp .ge 5, 3) := by decide +kernel
theorem dX7_way_39 : decode cX7_way 39 = .ok (.iconst (-1), 1) := by decide +kernel
theorem dX7_way_40 : decode cX7_way 40 = .ok (.ireturn, 1) := by decide +kernel
theorem dX7_way_41 : decode cX7_way 41 = .ok (.aload_n 0, 1) := by decide +kernel
theorem dX7_way_42 : decode cX7_way 42 = .ok (.getfield 42, 3) := by decide +kernel
theorem dX7_way_45 : decode cX7_way 45 = .ok (.aload_n 0, 1) := by decide +kernel
theorem dX7_way_46 : decode cX7_way 46 = .ok (.getfield 21, 3) := by decide +kernel
theorem dX7_way_49 : decode cX7_way 49 = .ok (.iload_n 1, 1) := by decide +kernel
theorem dX7_way_50 : decode cX7_way 50 = .ok (.aload_n 0, 1) := by decide +kernel
theorem dX7_way_51 : decode cX7_way 51 = .ok (.getfield 14, 3) := by decide +kernel
theorem dX7_way_54 : decode cX7_way 54 = .ok (.invokevirtual 125, 3) := by decide +kernel
theorem dX7_way_57 : decode cX7_way 57 = .ok (.iload 4, 2) := by decide +kernel
theorem dX7_way_59 : decode cX7_way 59 = .ok (.iconst (-1), 1) := by decide +kernel
theorem dX7_way_60 : decode cX7_way 60 = .ok (.if_icmp .ne 15, 3) := by decide +kernel
theorem dX7_way_63 : decode cX7_way 63 = .ok (.aload_n 0, 1) := by decide +kernel
theorem dX7_way_64 : decode cX7_way 64 = .ok (.getfield 42, 3) := by decide +kernel
theorem dX7_way_67 : decode cX7_way 67 = .ok (.iload_n 2, 1) := by decide +kernel
theorem dX7_way_68 : decode cX7_way 68 = .ok (.iload_n 3, 1) := by decide +kernel
theorem dX7_way_69 : decode cX7_way 69 = .ok (.invokevirtual 136, 3) := by decide +kernel
theorem dX7_way_72 : decode cX7_way 72 = .ok (.goto 14, 3) := by decide +kernel
theorem dX7_way_75 : decode cX7_way 75 = .ok (.aload_n 0, 1) := by decide +kernel
theorem dX7_way_76 : decode cX7_way 76 = .ok (.getfield 42, 3) := by decide +kernel
theorem dX7_way_79 : decode cX7_way 79 = .ok (.iload_n 2, 1) := by decide +kernel
theorem dX7_way_80 : decode cX7_way 80 = .ok (.iload_n 3, 1) := by decide +kernel
theorem dX7_way_81 : decode cX7_way 81 = .ok (.iload 4, 2) := by decide +kernel
theorem dX7_way_83 : decode cX7_way 83 = .ok (.invokevirtual 139, 3) := by decide +kernel
theorem dX7_way_86 : decode cX7_way 86 = .ok (.ireturn, 1) := by decide +kernel
theorem dX7_noon_0 : decode cX7_noon 0 = .ok (.aload_n 0, 1) := by decide +kernel
theorem dX7_noon_1 : decode cX7_noon 1 = .ok (.getfield 21, 3) := by decide +kernel
theorem dX7_noon_4 : decode cX7_noon 4 = .ok (.iload_n 1, 1) := by decide +kernel
theorem dX7_noon_5 : decode cX7_noon 5 = .ok (.invokevirtual 111, 3) := by decide +kernel
theorem dX7_noon_8 : decode cX7_noon 8 = .ok (.ifCond .eq 14, 3) := by decide +kernel
theorem dX7_noon_11 : decode cX7_noon 11 = .ok (.aload_n 0, 1) := by decide +kernel
theorem dX7_noon_12 : decode cX7_noon 12 = .ok (.getfield 14, 3) := by decide +kernel
theorem dX7_noon_15 : decode cX7_noon 15 = .ok (.iload_n 2, 1) := by decide +kernel
theorem dX7_noon_16 : decode cX7_noon 16 = .ok (.invokevirtual 96, 3) := by decide +kernel
theorem dX7_noon_19 : decode cX7_noon 19 = .ok (.ifCond .ne 5, 3) := by decide +kernel
theorem dX7_noon_22 : decode cX7_noon 22 = .ok (.iconst (-1), 1) := by decide +kernel
theorem dX7_noon_23 : decode cX7_noon 23 = .ok (.ireturn, 1) := by decide +kernel
theorem dX7_noon_24 : decode cX7_noon 24 = .ok (.iload_n 3, 1) := by decide +kernel
theorem dX7_noon_25 : decode cX7_noon 25 = .ok (.ifCond .lt 9, 3) := by decide +kernel
theorem dX7_noon_28 : decode cX7_noon 28 = .ok (.iload_n 3, 1) := by decide +kernel
theorem dX7_noon_29 : decode cX7_noon 29 = .ok (.bipush 99, 2) := by decide +kernel
theorem dX7_noon_31 : decode cX7_noon 31 = .ok (.if_icmp .le 6, 3) := by decide +kernel
theorem dX7_noon_34 : decode cX7_noon 34 = .ok (.bipush (-2), 2) := by decide +kernel
theorem dX7_noon_36 : decode cX7_noon 36 = .ok (.ireturn, 1) := by decide +kernel
theorem dX7_noon_37 : decode cX7_noon 37 = .ok (.aload_n 0, 1) := by decide +kernel
theorem dX7_noon_38 : decode cX7_noon 38 = .ok (.getfield 42, 3) := by decide +kernel
theorem dX7_noon_41 : decode cX7_noon 41 = .ok (.aload_n 0, 1) := by decide +kernel
theorem dX7_noon_42 : decode cX7_noon 42 = .ok (.getfield 21, 3) := by decide +kernel
theorem dX7_noon_45 : decode cX7_noon 45 = .ok (.iload_n 1, 1) := by decide +kernel
theorem dX7_noon_46 : decode cX7_noon 46 = .ok (.aload_n 0, 1) := by decide +kernel
theorem dX7_noon_47 : decode cX7_noon 47 = .ok (.getfield 14, 3) := by decide +kernel
theorem dX7_noon_50 : decode cX7_noon 50 = .ok (.invokevirtual 125, 3) := by decide +kernel
theorem dX7_noon_53 : decode cX7_noon 53 = .ok (.aload_n 0, 1) := by decide +kernel
theorem dX7_noon_54 : decode cX7_noon 54 = .ok (.getfield 42, 3) := by decide +kernel
theorem dX7_noon_57 : decode cX7_noon 57 = .ok (.iload_n 2, 1) := by decide +kernel
theorem dX7_noon_58 : decode cX7_noon 58 = .ok (.iload_n 3, 1) := by decide +kernel
theorem dX7_noon_59 : decode cX7_noon 59 = .ok (.invokevirtual 143, 3) := by decide +kernel
theorem dX7_noon_62 : decode cX7_noon 62 = .ok (.ireturn, 1) := by decide +kernel
theorem dX7_gain_0 : decode cX7_gain 0 = .ok (.aload_n 0, 1) := by decide +kernel
theorem dX7_gain_1 : decode cX7_gain 1 = .ok (.getfield 21, 3) := by decide +kernel
theorem dX7_gain_4 : decode cX7_gain 4 = .ok (.iload_n 1, 1) := by decide +kernel
theorem dX7_gain_5 : decode cX7_gain 5 = .ok (.invokevirtual 111, 3) := by decide +kernel
theorem dX7_gain_8 : decode cX7_gain 8 = .ok (.ifCond .eq 25, 3) := by decide +kernel
theorem dX7_gain_11 : decode cX7_gain 11 = .ok (.aload_n 0, 1) := by decide +kernel
theorem dX7_gain_12 : decode cX7_gain 12 = .ok (.getfield 21, 3) := by decide +kernel
theorem dX7_gain_15 : decode cX7_gain 15 = .ok (.iload_n 2, 1) := by decide +kernel
theorem dX7_gain_16 : decode cX7_gain 16 = .ok (.invokevirtual 111, 3) := by decide +kernel
theorem dX7_gain_19 : decode cX7_gain 19 = .ok (.ifCond .eq 14, 3) := by decide +kernel
theorem dX7_gain_22 : decode cX7_gain 22 = .ok (.aload_n 0, 1) := by decide +kernel
theorem dX7_gain_23 : decode cX7_gain 23 = .ok (.getfield 14, 3) := by decide +kernel
theorem dX7_gain_26 : decode cX7_gain 26 = .ok (.iload_n 3, 1) := by decide +kernel
theorem dX7_gain_27 : decode cX7_gain 27 = .ok (.invokevirtual 96, 3) := by decide +kernel
theorem dX7_gain_30 : decode cX7_gain 30 = .ok (.ifCond .ne 5, 3) := by decide +kernel
theorem dX7_gain_33 : decode cX7_gain 33 = .ok (.iconst (-1), 1) := by decide +kernel
theorem dX7_gain_34 : decode cX7_gain 34 = .ok (.ireturn, 1) := by decide +kernel
theorem dX7_gain_35 : decode cX7_gain 35 = .ok (.iload 4, 2) := by decide +kernel
theorem dX7_gain_37 : decode cX7_gain 37 = .ok (.ifCond .lt 18, 3) := by decide +kernel
theorem dX7_gain_40 : decode cX7_gain 40 = .ok (.iload 4, 2) := by decide +kernel
theorem dX7_gain_42 : decode cX7_gain 42 = .ok (.bipush 8, 2) := by decide +kernel
theorem dX7_gain_44 : decode cX7_gain 44 = .ok (.if_icmp .gt 11, 3) := by decide +kernel
theorem dX7_gain_47 : decode cX7_gain 47 = .ok (.iload 5, 2) := by decide +kernel
theorem dX7_gain_49 : decode cX7_gain 49 = .ok (.invokestatic 112, 3) := by decide +kernel
theorem dX7_gain_52 : decode cX7_gain 52 = .ok (.ifCond .ne 6, 3) := by decide +kernel
theorem dX7_gain_55 : decode cX7_gain 55 = .ok (.bipush (-2), 2) := by decide +kernel
theorem dX7_gain_57 : decode cX7_gain 57 = .ok (.ireturn, 1) := by decide +kernel
theorem dX7_gain_58 : decode cX7_gain 58 = .ok (.aload_n 0, 1) := by decide +kernel
theorem dX7_gain_59 : decode cX7_gain 59 = .ok (.getfield 42, 3) := by decide +kernel
theorem dX7_gain_62 : decode cX7_gain 62 = .ok (.aload_n 0, 1) := by decide +kernel
theorem dX7_gain_63 : decode cX7_gain 63 = .ok (.getfield 21, 3) := by decide +kernel
theorem dX7_gain_66 : decode cX7_gain 66 = .ok (.iload_n 1, 1) := by decide +kernel
theorem dX7_gain_67 : decode cX7_gain 67 = .ok (.aload_n 0, 1) := by decide +kernel
theorem dX7_gain_68 : decode cX7_gain 68 = .ok (.getfield 14, 3) := by decide +kernel
theorem dX7_gain_71 : decode cX7_gain 71 = .ok (.invokevirtual 125, 3) := by decide +kernel
theorem dX7_gain_74 : decode cX7_gain 74 = .ok (.aload_n 0, 1) := by decide +kernel
theorem dX7_gain_75 : decode cX7_gain 75 = .ok (.getfield 46, 3) := by decide +kernel
theorem dX7_gain_78 : decode cX7_gain 78 = .ok (.aload_n 0, 1) := by decide +kernel
theorem dX7_gain_79 : decode cX7_gain 79 = .ok (.getfield 21, 3) := by decide +kernel
theorem dX7_gain_82 : decode cX7_gain 82 = .ok (.iload_n 2, 1) := by decide +kernel
theorem dX7_gain_83 : decode cX7_gain 83 = .ok (.aload_n 0, 1) := by decide +kernel
theorem dX7_gain_84 : decode cX7_gain 84 = .ok (.getfield 14, 3) := by decide +kernel
theorem dX7_gain_87 : decode cX7_gain 87 = .ok (.invokevirtual 125, 3) := by decide +kernel
theorem dX7_gain_90 : decode cX7_gain 90 = .ok (.iconst 1, 1) := by decide +kernel
theorem dX7_gain_91 : decode cX7_gain 91 = .ok (.iload_n 3, 1) := by decide +kernel
theorem dX7_gain_92 : decode cX7_gain 92 = .ok (.ishl, 1) := by decide +kernel
theorem dX7_gain_93 : decode cX7_gain 93 = .ok (.istore 6, 2) := by decide +kernel
theorem dX7_gain_95 : decode cX7_gain 95 = .ok (.aload_n 0, 1) := by decide +kernel
theorem dX7_gain_96 : decode cX7_gain 96 = .ok (.getfield 14, 3) := by decide +kernel
theorem dX7_gain_99 : decode cX7_gain 99 = .ok (.iload_n 3, 1) := by decide +kernel
theorem dX7_gain_100 : decode cX7_gain 100 = .ok (.invokevirtual 97, 3) := by decide +kernel
theorem dX7_gain_103 : decode cX7_gain 103 = .ok (.istore 7, 2) := by decide +kernel
theorem dX7_gain_105 : decode cX7_gain 105 = .ok (.iconst 0, 1) := by decide +kernel
theorem dX7_gain_106 : decode cX7_gain 106 = .ok (.istore 8, 2) := by decide +kernel
theorem dX7_gain_108 : decode cX7_gain 108 = .ok (.iconst 1, 1) := by decide +kernel
theorem dX7_gain_109 : decode cX7_gain 109 = .ok (.istore 9, 2) := by decide +kernel
theorem dX7_gain_111 : decode cX7_gain 111 = .ok (.iload 9, 2) := by decide +kernel
theorem dX7_gain_113 : decode cX7_gain 113 = .ok (.iload 4, 2) := by decide +kernel
theorem dX7_gain_115 : decode cX7_gain 115 = .ok (.if_icmp .gt 43, 3) := by decide +kernel
theorem dX7_gain_118 : decode cX7_gain 118 = .ok (.aload_n 0, 1) := by decide +kernel
theorem dX7_gain_119 : decode cX7_gain 119 = .ok (.iload 6, 2) := by decide +kernel
theorem dX7_gain_121 : decode cX7_gain 121 = .ok (.invokevirtual 146, 3) := by decide +kernel
theorem dX7_gain_124 : decode cX7_gain 124 = .ok (.istore 6, 2) := by decide +kernel
theorem dX7_gain_126 : decode cX7_gain 126 = .ok (.aload_n 0, 1) := by decide +kernel
theorem dX7_gain_127 : decode cX7_gain 127 = .ok (.getfield 14, 3) := by decide +kernel
theorem dX7_gain_130 : decode cX7_gain 130 = .ok (.iload 6, 2) := by decide +kernel
theorem dX7_gain_132 : decode cX7_gain 132 = .ok (.invokevirtual 149, 3) := by decide +kernel
theorem dX7_gain_135 : decode cX7_gain 135 = .ok (.istore 10, 2) := by decide +kernel
theorem dX7_gain_137 : decode cX7_gain 137 = .ok (.iload 10, 2) := by decide +kernel
theorem dX7_gain_139 : decode cX7_gain 139 = .ok (.iload 7, 2) := by decide +kernel
theorem dX7_gain_141 : decode cX7_gain 141 = .ok (.if_icmp .le 11, 3) := by decide +kernel
theorem dX7_gain_144 : decode cX7_gain 144 = .ok (.iload 10, 2) := by decide +kernel
theorem dX7_gain_146 : decode cX7_gain 146 = .ok (.istore 7, 2) := by decide +kernel
theorem dX7_gain_148 : decode cX7_gain 148 = .ok (.iload 9, 2) := by decide +kernel
theorem dX7_gain_150 : decode cX7_gain 150 = .ok (.istore 8, 2) := by decide +kernel
theorem dX7_gain_152 : decode cX7_gain 152 = .ok (.iinc 9 1, 3) := by decide +kernel
theorem dX7_gain_155 : decode cX7_gain 155 = .ok (.goto (-44), 3) := by decide +kernel
theorem dX7_gain_158 : decode cX7_gain 158 = .ok (.iload 5, 2) := by decide +kernel
theorem dX7_gain_160 : decode cX7_gain 160 = .ok (.ifCond .ne 8, 3) := by decide +kernel
theorem dX7_gain_163 : decode cX7_gain 163 = .ok (.iload 7, 2) := by decide +kernel
theorem dX7_gain_165 : decode cX7_gain 165 = .ok (.goto 5, 3) := by decide +kernel
theorem dX7_gain_168 : decode cX7_gain 168 = .ok (.iload 8, 2) := by decide +kernel
theorem dX7_gain_170 : decode cX7_gain 170 = .ok (.ireturn, 1) := by decide +kernel
theorem dX7_swappedUp_0 : decode cX7_swappedUp 0 = .ok (.iconst 0, 1) := by decide +kernel
theorem dX7_swappedUp_1 : decode cX7_swappedUp 1 = .ok (.istore_n 2, 1) := by decide +kernel
theorem dX7_swappedUp_2 : decode cX7_swappedUp 2 = .ok (.iconst 0, 1) := by decide +kernel
theorem dX7_swappedUp_3 : decode cX7_swappedUp 3 = .ok (.istore_n 3, 1) := by decide +kernel
theorem dX7_swappedUp_4 : decode cX7_swappedUp 4 = .ok (.iload_n 3, 1) := by decide +kernel
theorem dX7_swappedUp_5 : decode cX7_swappedUp 5 = .ok (.aload_n 0, 1) := by decide +kernel
theorem dX7_swappedUp_6 : decode cX7_swappedUp 6 = .ok (.getfield 14, 3) := by decide +kernel
theorem dX7_swappedUp_9 : decode cX7_swappedUp 9 = .ok (.invokevirtual 92, 3) := by decide +kernel
theorem dX7_swappedUp_12 : decode cX7_swappedUp 12 = .ok (.if_icmp .ge 37, 3) := by decide +kernel
theorem dX7_swappedUp_15 : decode cX7_swappedUp 15 = .ok (.iload_n 1, 1) := by decide +kernel
theorem dX7_swappedUp_16 : decode cX7_swappedUp 16 = .ok (.aload_n 0, 1) := by decide +kernel
theorem dX7_swappedUp_17 : decode cX7_swappedUp 17 = .ok (.getfield 42, 3) := by decide +kernel
theorem dX7_swappedUp_20 : decode cX7_swappedUp 20 = .ok (.iload_n 3, 1) := by decide +kernel
theorem dX7_swappedUp_21 : decode cX7_swappedUp 21 = .ok (.invokevirtual 129, 3) := by decide +kernel
theorem dX7_swappedUp_24 : decode cX7_swappedUp 24 = .ok (.iand, 1) := by decide +kernel
theorem dX7_swappedUp_25 : decode cX7_swappedUp 25 = .ok (.aload_n 0, 1) := by decide +kernel
theorem dX7_swappedUp_26 : decode cX7_swappedUp 26 = .ok (.getfield 46, 3) := by decide +kernel
theorem dX7_swappedUp_29 : decode cX7_swappedUp 29 = .ok (.iload_n 3, 1) := by decide +kernel
theorem dX7_swappedUp_30 : decode cX7_swappedUp 30 = .ok (.invokevirtual 152, 3) := by decide +kernel
theorem dX7_swappedUp_33 : decode cX7_swappedUp 33 = .ok (.iand, 1) := by decide +kernel
theorem dX7_swappedUp_34 : decode cX7_swappedUp 34 = .ok (.ifCond .eq 9, 3) := by decide +kernel
theorem dX7_swappedUp_37 : decode cX7_swappedUp 37 = .ok (.iload_n 2, 1) := by decide +kernel
theorem dX7_swappedUp_38 : decode cX7_swappedUp 38 = .ok (.iconst 1, 1) := by decide +kernel
theorem dX7_swappedUp_39 : decode cX7_swappedUp 39 = .ok (.iload_n 3, 1) := by decide +kernel
theorem dX7_swappedUp_40 : decode cX7_swappedUp 40 = .ok (.ishl, 1) := by decide +kernel
theorem dX7_swappedUp_41 : decode cX7_swappedUp 41 = .ok (.ior, 1) := by decide +kernel
theorem dX7_swappedUp_42 : decode cX7_swappedUp 42 = .ok (.istore_n 2, 1) := by decide +kernel
theorem dX7_swappedUp_43 : decode cX7_swappedUp 43 = .ok (.iinc 3 1, 3) := by decide +kernel
theorem dX7_swappedUp_46 : decode cX7_swappedUp 46 = .ok (.goto (-42), 3) := by decide +kernel
theorem dX7_swappedUp_49 : decode cX7_swappedUp 49 = .ok (.iload_n 2, 1) := by decide +kernel
theorem dX7_swappedUp_50 : decode cX7_swappedUp 50 = .ok (.ireturn, 1) := by decide +kernel
theorem dX7_saying_0 : decode cX7_saying 0 = .ok (.aload_n 0, 1) := by decide +kernel
theorem dX7_saying_1 : decode cX7_saying 1 = .ok (.getfield 21, 3) := by decide +kernel
theorem dX7_saying_4 : decode cX7_saying 4 = .ok (.iload_n 1, 1) := by decide +kernel
theorem dX7_saying_5 : decode cX7_saying 5 = .ok (.invokevirtual 111, 3) := by decide +kernel
theorem dX7_saying_8 : decode cX7_saying 8 = .ok (.ifCond .eq 30, 3) := by decide +kernel
theorem dX7_saying_11 : decode cX7_saying 11 = .ok (.aload_n 0, 1) := by decide +kernel
theorem dX7_saying_12 : decode cX7_saying 12 = .ok (.getfield 14, 3) := by decide +kernel
theorem dX7_saying_15 : decode cX7_saying 15 = .ok (.iload_n 2, 1) := by decide +kernel
theorem dX7_saying_16 : decode cX7_saying 16 = .ok (.invokevirtual 96, 3) := by decide +kernel
theorem dX7_saying_19 : decode cX7_saying 19 = .ok (.ifCond .eq 19, 3) := by decide +kernel
theorem dX7_saying_22 : decode cX7_saying 22 = .ok (.aload_n 0, 1) := by decide +kernel
theorem dX7_saying_23 : decode cX7_saying 23 = .ok (.getfield 14, 3) := by decide +kernel
theorem dX7_saying_26 : decode cX7_saying 26 = .ok (.iload_n 3, 1) := by decide +kernel
theorem dX7_saying_27 : decode cX7_saying 27 = .ok (.invokevirtual 96, 3) := by decide +kernel
theorem dX7_saying_30 : decode cX7_saying 30 = .ok (.ifCond .eq 8, 3) := by decide +kernel
theorem dX7_saying_33 : decode cX7_saying 33 = .ok (.iload_n 2, 1) := by decide +kernel
theorem dX7_saying_34 : decode cX7_saying 34 = .ok (.iload_n 3, 1) := by decide +kernel
theorem dX7_saying_35 : decode cX7_saying 35 = .ok (.if_icmp .ne 5, 3) := by decide +kernel
theorem dX7_saying_38 : decode cX7_saying 38 = .ok (.iconst (-1), 1) := by decide +kernel
theorem dX7_saying_39 : decode cX7_saying 39 = .ok (.ireturn, 1) := by decide +kernel
theorem dX7_saying_40 : decode cX7_saying 40 = .ok (.iload 4, 2) := by decide +kernel
theorem dX7_saying_42 : decode cX7_saying 42 = .ok (.ifCond .eq 12, 3) := by decide +kernel
theorem dX7_saying_45 : decode cX7_saying 45 = .ok (.iload 4, 2) := by decide +kernel
theorem dX7_saying_47 : decode cX7_saying 47 = .ok (.iconst 1, 1) := by decide +kernel
theorem dX7_saying_48 : decode cX7_saying 48 = .ok (.if_icmp .eq 6, 3) := by decide +kernel
theorem dX7_saying_51 : decode cX7_saying 51 = .ok (.bipush (-2), 2) := by decide +kernel
theorem dX7_saying_53 : decode cX7_saying 53 = .ok (.ireturn, 1) := by decide +kernel
theorem dX7_saying_54 : decode cX7_saying 54 = .ok (.aload_n 0, 1) := by decide +kernel
theorem dX7_saying_55 : decode cX7_saying 55 = .ok (.getfield 28, 3) := by decide +kernel
theorem dX7_saying_58 : decode cX7_saying 58 = .ok (.iload_n 1, 1) := by decide +kernel
theorem dX7_saying_59 : decode cX7_saying 59 = .ok (.iload_n 2, 1) := by decide +kernel
theorem dX7_saying_60 : decode cX7_saying 60 = .ok (.iload_n 3, 1) := by decide +kernel
theorem dX7_saying_61 : decode cX7_saying 61 = .ok (.iload 4, 2) := by decide +kernel
theorem dX7_saying_63 : decode cX7_saying 63 = .ok (.invokevirtual 155, 3) := by decide +kernel
theorem dX7_saying_66 : decode cX7_saying 66 = .ok (.ireturn, 1) := by decide +kernel
theorem dX7_back_0 : decode cX7_back 0 = .ok (.iload_n 1, 1) := by decide +kernel
theorem dX7_back_1 : decode cX7_back 1 = .ok (.ifCond .lt 14, 3) := by decide +kernel
theorem dX7_back_4 : decode cX7_back 4 = .ok (.iload_n 1, 1) := by decide +kernel
theorem dX7_back_5 : decode cX7_back 5 = .ok (.aload_n 0, 1) := by decide +kernel
theorem dX7_back_6 : decode cX7_back 6 = .ok (.getfield 28, 3) := by decide +kernel
theorem dX7_back_9 : decode cX7_back 9 = .ok (.invokevirtual 157, 3) := by decide +kernel
theorem dX7_back_12 : decode cX7_back 12 = .ok (.if_icmp .le 6, 3) := by decide +kernel
theorem dX7_back_15 : decode cX7_back 15 = .ok (.bipush (-2), 2) := by decide +kernel
theorem dX7_back_17 : decode cX7_back 17 = .ok (.ireturn, 1) := by decide +kernel
theorem dX7_back_18 : decode cX7_back 18 = .ok (.aload_n 0, 1) := by decide +kernel
theorem dX7_back_19 : decode cX7_back 19 = .ok (.getfield 28, 3) := by decide +kernel
theorem dX7_back_22 : decode cX7_back 22 = .ok (.iload_n 1, 1) := by decide +kernel
theorem dX7_back_23 : decode cX7_back 23 = .ok (.invokevirtual 158, 3) := by decide +kernel
theorem dX7_back_26 : decode cX7_back 26 = .ok (.ireturn, 1) := by decide +kernel
theorem dX7_untrue_0 : decode cX7_untrue 0 = .ok (.iconst 0, 1) := by decide +kernel
theorem dX7_untrue_1 : decode cX7_untrue 1 = .ok (.istore_n 1, 1) := by decide +kernel
theorem dX7_untrue_2 : decode cX7_untrue 2 = .ok (.iconst 0, 1) := by decide +kernel
theorem dX7_untrue_3 : decode cX7_untrue 3 = .ok (.istore_n 2, 1) := by decide +kernel
theorem dX7_untrue_4 : decode cX7_untrue 4 = .ok (.iload_n 2, 1) := by decide +kernel
theorem dX7_untrue_5 : decode cX7_untrue 5 = .ok (.aload_n 0, 1) := by decide +kernel
theorem dX7_untrue_6 : decode cX7_untrue 6 = .ok (.getfield 28, 3) := by decide +kernel
theorem dX7_untrue_9 : decode cX7_untrue 9 = .ok (.invokevirtual 157, 3) := by decide +kernel
theorem dX7_untrue_12 : decode cX7_untrue 12 = .ok (.if_icmp .ge 66, 3) := by decide +kernel
theorem dX7_untrue_15 : decode cX7_untrue 15 = .ok (.aload_n 0, 1) := by decide +kernel
theorem dX7_untrue_16 : decode cX7_untrue 16 = .ok (.getfield 14, 3) := by decide +kernel
theorem dX7_untrue_19 : decode cX7_untrue 19 = .ok (.aload_n 0, 1) := by decide +kernel
theorem dX7_untrue_20 : decode cX7_untrue 20 = .ok (.getfield 28, 3) := by decide +kernel
theorem dX7_untrue_23 : decode cX7_untrue 23 = .ok (.iload_n 2, 1) := by decide +kernel
theorem dX7_untrue_24 : decode cX7_untrue 24 = .ok (.invokevirtual 161, 3) := by decide +kernel
theorem dX7_untrue_27 : decode cX7_untrue 27 = .ok (.invokevirtual 97, 3) := by decide +kernel
theorem dX7_untrue_30 : decode cX7_untrue 30 = .ok (.istore_n 3, 1) := by decide +kernel
theorem dX7_untrue_31 : decode cX7_untrue 31 = .ok (.aload_n 0, 1) := by decide +kernel
theorem dX7_untrue_32 : decode cX7_untrue 32 = .ok (.getfield 14, 3) := by decide +kernel
theorem dX7_untrue_35 : decode cX7_untrue 35 = .ok (.aload_n 0, 1) := by decide +kernel
theorem dX7_untrue_36 : decode cX7_untrue 36 = .ok (.getfield 28, 3) := by decide +kernel
theorem dX7_untrue_39 : decode cX7_untrue 39 = .ok (.iload_n 2, 1) := by decide +kernel
theorem dX7_untrue_40 : decode cX7_untrue 40 = .ok (.invokevirtual 164, 3) := by decide +kernel
theorem dX7_untrue_43 : decode cX7_untrue 43 = .ok (.invokevirtual 97, 3) := by decide +kernel
theorem dX7_untrue_46 : decode cX7_untrue 46 = .ok (.istore 4, 2) := by decide +kernel
theorem dX7_untrue_48 : decode cX7_untrue 48 = .ok (.aload_n 0, 1) := by decide +kernel
theorem dX7_untrue_49 : decode cX7_untrue 49 = .ok (.getfield 28, 3) := by decide +kernel
theorem dX7_untrue_52 : decode cX7_untrue 52 = .ok (.iload_n 2, 1) := by decide +kernel
theorem dX7_untrue_53 : decode cX7_untrue 53 = .ok (.aload_n 0, 1) := by decide +kernel
theorem dX7_untrue_54 : decode cX7_untrue 54 = .ok (.getfield 21, 3) := by decide +kernel
theorem dX7_untrue_57 : decode cX7_untrue 57 = .ok (.iload_n 3, 1) := by decide +kernel
theorem dX7_untrue_58 : decode cX7_untrue 58 = .ok (.iload 4, 2) := by decide +kernel
theorem dX7_untrue_60 : decode cX7_untrue 60 = .ok (.invokevirtual 167, 3) := by decide +kernel
theorem dX7_untrue_63 : decode cX7_untrue 63 = .ok (.ifCond .eq 9, 3) := by decide +kernel
theorem dX7_untrue_66 : decode cX7_untrue 66 = .ok (.iload_n 1, 1) := by decide +kernel
theorem dX7_untrue_67 : decode cX7_untrue 67 = .ok (.iconst 1, 1) := by decide +kernel
theorem dX7_untrue_68 : decode cX7_untrue 68 = .ok (.iload_n 2, 1) := by decide +kernel
theorem dX7_untrue_69 : decode cX7_untrue 69 = .ok (.ishl, 1) := by decide +kernel
theorem dX7_untrue_70 : decode cX7_untrue 70 = .ok (.ior, 1) := by decide +kernel
theorem dX7_untrue_71 : decode cX7_untrue 71 = .ok (.istore_n 1, 1) := by decide +kernel
theorem dX7_untrue_72 : decode cX7_untrue 72 = .ok (.iinc 2 1, 3) := by decide +kernel
theorem dX7_untrue_75 : decode cX7_untrue 75 = .ok (.goto (-71), 3) := by decide +kernel
theorem dX7_untrue_78 : decode cX7_untrue 78 = .ok (.iload_n 1, 1) := by decide +kernel
theorem dX7_untrue_79 : decode cX7_untrue 79 = .ok (.ireturn, 1) := by decide +kernel
theorem dX7_leaves_0 : decode cX7_leaves 0 = .ok (.aload_n 0, 1) := by decide +kernel
theorem dX7_leaves_1 : decode cX7_leaves 1 = .ok (.getfield 14, 3) := by decide +kernel
theorem dX7_leaves_4 : decode cX7_leaves 4 = .ok (.iload_n 1, 1) := by decide +kernel
theorem dX7_leaves_5 : decode cX7_leaves 5 = .ok (.invokevirtual 96, 3) := by decide +kernel
theorem dX7_leaves_8 : decode cX7_leaves 8 = .ok (.ifCond .ne 5, 3) := by decide +kernel
theorem dX7_leaves_11 : decode cX7_leaves 11 = .ok (.iconst (-1), 1) := by decide +kernel
theorem dX7_leaves_12 : decode cX7_leaves 12 = .ok (.ireturn, 1) := by decide +kernel
theorem dX7_leaves_13 : decode cX7_leaves 13 = .ok (.iload_n 2, 1) := by decide +kernel
theorem dX7_leaves_14 : decode cX7_leaves 14 = .ok (.ifCond .lt 8, 3) := by decide +kernel
theorem dX7_leaves_17 : decode cX7_leaves 17 = .ok (.iload_n 2, 1) := by decide +kernel
theorem dX7_leaves_18 : decode cX7_leaves 18 = .ok (.iconst 2, 1) := by decide +kernel
theorem dX7_leaves_19 : decode cX7_leaves 19 = .ok (.if_icmp .le 6, 3) := by decide +kernel
theorem dX7_leaves_22 : decode cX7_leaves 22 = .ok (.bipush (-2), 2) := by decide +kernel
theorem dX7_leaves_24 : decode cX7_leaves 24 = .ok (.ireturn, 1) := by decide +kernel
theorem dX7_leaves_25 : decode cX7_leaves 25 = .ok (.iconst 0, 1) := by decide +kernel
theorem dX7_leaves_26 : decode cX7_leaves 26 = .ok (.istore_n 3, 1) := by decide +kernel
theorem dX7_leaves_27 : decode cX7_leaves 27 = .ok (.bipush (-9), 2) := by decide +kernel
theorem dX7_leaves_29 : decode cX7_leaves 29 = .ok (.istore 4, 2) := by decide +kernel
theorem dX7_leaves_31 : decode cX7_leaves 31 = .ok (.bipush (-9), 2) := by decide +kernel
theorem dX7_leaves_33 : decode cX7_leaves 33 = .ok (.istore 5, 2) := by decide +kernel
theorem dX7_leaves_35 : decode cX7_leaves 35 = .ok (.iconst 1, 1) := by decide +kernel
theorem dX7_leaves_36 : decode cX7_leaves 36 = .ok (.istore 6, 2) := by decide +kernel
theorem dX7_leaves_38 : decode cX7_leaves 38 = .ok (.iload 6, 2) := by decide +kernel
theorem dX7_leaves_40 : decode cX7_leaves 40 = .ok (.sipush 999, 3) := by decide +kernel
theorem dX7_leaves_43 : decode cX7_leaves 43 = .ok (.if_icmp .gt 42, 3) := by decide +kernel
theorem dX7_leaves_46 : decode cX7_leaves 46 = .ok (.aload_n 0, 1) := by decide +kernel
theorem dX7_leaves_47 : decode cX7_leaves 47 = .ok (.iload_n 1, 1) := by decide +kernel
theorem dX7_leaves_48 : decode cX7_leaves 48 = .ok (.iload 6, 2) := by decide +kernel
theorem dX7_leaves_50 : decode cX7_leaves 50 = .ok (.invokevirtual 171, 3) := by decide +kernel
theorem dX7_leaves_53 : decode cX7_leaves 53 = .ok (.ifCond .ne 26, 3) := by decide +kernel
theorem dX7_leaves_56 : decode cX7_leaves 56 = .ok (.iinc 3 1, 3) := by decide +kernel
theorem dX7_leaves_59 : decode cX7_leaves 59 = .ok (.iload 4, 2) := by decide +kernel
theorem dX7_leaves_61 : decode cX7_leaves 61 = .ok (.bipush (-9), 2) := by decide +kernel
theorem dX7_leaves_63 : decode cX7_leaves 63 = .ok (.if_icmp .ne 8, 3) := by decide +kernel
theorem dX7_leaves_66 : decode cX7_leaves 66 = .ok (.iload 6, 2) := by decide +kernel
theorem dX7_leaves_68 : decode cX7_leaves 68 = .ok (.goto 5, 3) := by decide +kernel
theorem dX7_leaves_71 : decode cX7_leaves 71 = .ok (.iload 4, 2) := by decide +kernel
theorem dX7_leaves_73 : decode cX7_leaves 73 = .ok (.istore 4, 2) := by decide +kernel
theorem dX7_leaves_75 : decode cX7_leaves 75 = .ok (.iload 6, 2) := by decide +kernel
theorem dX7_leaves_77 : decode cX7_leaves 77 = .ok (.istore 5, 2) := by decide +kernel
theorem dX7_leaves_79 : decode cX7_leaves 79 = .ok (.iinc 6 1, 3) := by decide +kernel
theorem dX7_leaves_82 : decode cX7_leaves 82 = .ok (.goto (-44), 3) := by decide +kernel
theorem dX7_leaves_85 : decode cX7_leaves 85 = .ok (.iload_n 2, 1) := by decide +kernel
theorem dX7_leaves_86 : decode cX7_leaves 86 = .ok (.ifCond .ne 5, 3) := by decide +kernel
theorem dX7_leaves_89 : decode cX7_leaves 89 = .ok (.iload_n 3, 1) := by decide +kernel
theorem dX7_leaves_90 : decode cX7_leaves 90 = .ok (.ireturn, 1) := by decide +kernel
theorem dX7_leaves_91 : decode cX7_leaves 91 = .ok (.iload_n 2, 1) := by decide +kernel
theorem dX7_leaves_92 : decode cX7_leaves 92 = .ok (.iconst 1, 1) := by decide +kernel
theorem dX7_leaves_93 : decode cX7_leaves 93 = .ok (.if_icmp .ne 8, 3) := by decide +kernel
theorem dX7_leaves_96 : decode cX7_leaves 96 = .ok (.iload 4, 2) := by decide +kernel
theorem dX7_leaves_98 : decode cX7_leaves 98 = .ok (.goto 5, 3) := by decide +kernel
theorem dX7_leaves_101 : decode cX7_leaves 101 = .ok (.iload 5, 2) := by decide +kernel
theorem dX7_leaves_103 : decode cX7_leaves 103 = .ok (.ireturn, 1) := by decide +kernel
theorem dX7_breaks_0 : decode cX7_breaks 0 = .ok (.aload_n 0, 1) := by decide +kernel
theorem dX7_breaks_1 : decode cX7_breaks 1 = .ok (.getfield 14, 3) := by decide +kernel
theorem dX7_breaks_4 : decode cX7_breaks 4 = .ok (.iload_n 1, 1) := by decide +kernel
theorem dX7_breaks_5 : decode cX7_breaks 5 = .ok (.invokevirtual 96, 3) := by decide +kernel
theorem dX7_breaks_8 : decode cX7_breaks 8 = .ok (.ifCond .ne 5, 3) := by decide +kernel
theorem dX7_breaks_11 : decode cX7_breaks 11 = .ok (.iconst (-1), 1) := by decide +kernel
theorem dX7_breaks_12 : decode cX7_breaks 12 = .ok (.ireturn, 1) := by decide +kernel
theorem dX7_breaks_13 : decode cX7_breaks 13 = .ok (.iload_n 2, 1) := by decide +kernel
theorem dX7_breaks_14 : decode cX7_breaks 14 = .ok (.invokestatic 112, 3) := by decide +kernel
theorem dX7_breaks_17 : decode cX7_breaks 17 = .ok (.ifCond .ne 6, 3) := by decide +kernel
theorem dX7_breaks_20 : decode cX7_breaks 20 = .ok (.bipush (-2), 2) := by decide +kernel
theorem dX7_breaks_22 : decode cX7_breaks 22 = .ok (.ireturn, 1) := by decide +kernel
theorem dX7_breaks_23 : decode cX7_breaks 23 = .ok (.bipush 11, 2) := by decide +kernel
theorem dX7_breaks_25 : decode cX7_breaks 25 = .ok (.istore_n 3, 1) := by decide +kernel
theorem dX7_breaks_26 : decode cX7_breaks 26 = .ok (.iconst 1, 1) := by decide +kernel
theorem dX7_breaks_27 : decode cX7_breaks 27 = .ok (.istore 4, 2) := by decide +kernel
theorem dX7_breaks_29 : decode cX7_breaks 29 = .ok (.iconst 1, 1) := by decide +kernel
theorem dX7_breaks_30 : decode cX7_breaks 30 = .ok (.istore 5, 2) := by decide +kernel
theorem dX7_breaks_32 : decode cX7_breaks 32 = .ok (.iload 5, 2) := by decide +kernel
theorem dX7_breaks_34 : decode cX7_breaks 34 = .ok (.sipush 999, 3) := by decide +kernel
theorem dX7_breaks_37 : decode cX7_breaks 37 = .ok (.if_icmp .gt 31, 3) := by decide +kernel
theorem dX7_breaks_40 : decode cX7_breaks 40 = .ok (.aload_n 0, 1) := by decide +kernel
theorem dX7_breaks_41 : decode cX7_breaks 41 = .ok (.iload_n 1, 1) := by decide +kernel
theorem dX7_breaks_42 : decode cX7_breaks 42 = .ok (.iload 5, 2) := by decide +kernel
theorem dX7_breaks_44 : decode cX7_breaks 44 = .ok (.invokevirtual 171, 3) := by decide +kernel
theorem dX7_breaks_47 : decode cX7_breaks 47 = .ok (.istore 6, 2) := by decide +kernel
theorem dX7_breaks_49 : decode cX7_breaks 49 = .ok (.iload 6, 2) := by decide +kernel
theorem dX7_breaks_51 : decode cX7_breaks 51 = .ok (.iload_n 3, 1) := by decide +kernel
theorem dX7_breaks_52 : decode cX7_breaks 52 = .ok (.if_icmp .ge 10, 3) := by decide +kernel
theorem dX7_breaks_55 : decode cX7_breaks 55 = .ok (.iload 6, 2) := by decide +kernel
theorem dX7_breaks_57 : decode cX7_breaks 57 = .ok (.istore_n 3, 1) := by decide +kernel
theorem dX7_breaks_58 : decode cX7_breaks 58 = .ok (.iload 5, 2) := by decide +kernel
theorem dX7_breaks_60 : decode cX7_breaks 60 = .ok (.istore 4, 2) := by decide +kernel
theorem dX7_breaks_62 : decode cX7_breaks 62 = .ok (.iinc 5 1, 3) := by decide +kernel
theorem dX7_breaks_65 : decode cX7_breaks 65 = .ok (.goto (-33), 3) := by decide +kernel
theorem dX7_breaks_68 : decode cX7_breaks 68 = .ok (.iload_n 2, 1) := by decide +kernel
theorem dX7_breaks_69 : decode cX7_breaks 69 = .ok (.ifCond .ne 7, 3) := by decide +kernel
theorem dX7_breaks_72 : decode cX7_breaks 72 = .ok (.iload_n 3, 1) := by decide +kernel
theorem dX7_breaks_73 : decode cX7_breaks 73 = .ok (.goto 5, 3) := by decide +kernel
theorem dX7_breaks_76 : decode cX7_breaks 76 = .ok (.iload 4, 2) := by decide +kernel
theorem dX7_breaks_78 : decode cX7_breaks 78 = .ok (.ireturn, 1) := by decide +kernel
theorem dX7_falseByWeight_0 : decode cX7_falseByWeight 0 = .ok (.iconst 0, 1) := by decide +kernel
theorem dX7_falseByWeight_1 : decode cX7_falseByWeight 1 = .ok (.istore_n 3, 1) := by decide +kernel
theorem dX7_falseByWeight_2 : decode cX7_falseByWeight 2 = .ok (.iconst 0, 1) := by decide +kernel
theorem dX7_falseByWeight_3 : decode cX7_falseByWeight 3 = .ok (.istore 4, 2) := by decide +kernel
theorem dX7_falseByWeight_5 : decode cX7_falseByWeight 5 = .ok (.iload 4, 2) := by decide +kernel
theorem dX7_falseByWeight_7 : decode cX7_falseByWeight 7 = .ok (.aload_n 0, 1) := by decide +kernel
theorem dX7_falseByWeight_8 : decode cX7_falseByWeight 8 = .ok (.getfield 28, 3) := by decide +kernel
theorem dX7_falseByWeight_11 : decode cX7_falseByWeight 11 = .ok (.invokevirtual 157, 3) := by decide +kernel
theorem dX7_falseByWeight_14 : decode cX7_falseByWeight 14 = .ok (.if_icmp .ge 111, 3) := by decide +kernel
theorem dX7_falseByWeight_17 : decode cX7_falseByWeight 17 = .ok (.aload_n 0, 1) := by decide +kernel
theorem dX7_falseByWeight_18 : decode cX7_falseByWeight 18 = .ok (.getfield 28, 3) := by decide +kernel
theorem dX7_falseByWeight_21 : decode cX7_falseByWeight 21 = .ok (.iload 4, 2) := by decide +kernel
theorem dX7_falseByWeight_23 : decode cX7_falseByWeight 23 = .ok (.invokevirtual 161, 3) := by decide +kernel
theorem dX7_falseByWeight_26 : decode cX7_falseByWeight 26 = .ok (.istore 5, 2) := by decide +kernel
theorem dX7_falseByWeight_28 : decode cX7_falseByWeight 28 = .ok (.aload_n 0, 1) := by decide +kernel
theorem dX7_falseByWeight_29 : decode cX7_falseByWeight 29 = .ok (.getfield 28, 3) := by decide +kernel
theorem dX7_falseByWeight_32 : decode cX7_falseByWeight 32 = .ok (.iload 4, 2) := by decide +kernel
theorem dX7_falseByWeight_34 : decode cX7_falseByWeight 34 = .ok (.invokevirtual 164, 3) := by decide +kernel
theorem dX7_falseByWeight_37 : decode cX7_falseByWeight 37 = .ok (.istore 6, 2) := by decide +kernel
theorem dX7_falseByWeight_39 : decode cX7_falseByWeight 39 = .ok (.iload 5, 2) := by decide +kernel
theorem dX7_falseByWeight_41 : decode cX7_falseByWeight 41 = .ok (.iload_n 1, 1) := by decide +kernel
theorem dX7_falseByWeight_42 : decode cX7_falseByWeight 42 = .ok (.if_icmp .eq 12, 3) := by decide +kernel
theorem dX7_falseByWeight_45 : decode cX7_falseByWeight 45 = .ok (.iload 6, 2) := by decide +kernel
theorem dX7_falseByWeight_47 : decode cX7_falseByWeight 47 = .ok (.iload_n 1, 1) := by decide +kernel
theorem dX7_falseByWeight_48 : decode cX7_falseByWeight 48 = .ok (.if_icmp .eq 6, 3) := by decide +kernel
theorem dX7_falseByWeight_51 : decode cX7_falseByWeight 51 = .ok (.goto 68, 3) := by decide +kernel
theorem dX7_falseByWeight_54 : decode cX7_falseByWeight 54 = .ok (.iload 5, 2) := by decide +kernel
theorem dX7_falseByWeight_56 : decode cX7_falseByWeight 56 = .ok (.iload_n 1, 1) := by decide +kernel
theorem dX7_falseByWeight_57 : decode cX7_falseByWeight 57 = .ok (.if_icmp .ne 7, 3) := by decide +kernel
theorem dX7_falseByWeight_60 : decode cX7_falseByWeight 60 = .ok (.iload_n 2, 1) := by decide +kernel
theorem dX7_falseByWeight_61 : decode cX7_falseByWeight 61 = .ok (.goto 12, 3) := by decide +kernel
theorem dX7_falseByWeight_64 : decode cX7_falseByWeight 64 = .ok (.aload_n 0, 1) := by decide +kernel
theorem dX7_falseByWeight_65 : decode cX7_falseByWeight 65 = .ok (.getfield 14, 3) := by decide +kernel
theorem dX7_falseByWeight_68 : decode cX7_falseByWeight 68 = .ok (.iload 5, 2) := by decide +kernel
theorem dX7_falseByWeight_70 : decode cX7_falseByWeight 70 = .ok (.invokevirtual 97, 3) := by decide +kernel
theorem dX7_falseByWeight_73 : decode cX7_falseByWeight 73 = .ok (.istore 7, 2) := by decide +kernel
theorem dX7_falseByWeight_75 : decode cX7_falseByWeight 75 = .ok (.iload 6, 2) := by decide +kernel
theorem dX7_falseByWeight_77 : decode cX7_falseByWeight 77 = .ok (.iload_n 1, 1) := by decide +kernel
theorem dX7_falseByWeight_78 : decode cX7_falseByWeight 78 = .ok (.if_icmp .ne 7, 3) := by decide +kernel
theorem dX7_falseByWeight_81 : decode cX7_falseByWeight 81 = .ok (.iload_n 2, 1) := by decide +kernel
theorem dX7_falseByWeight_82 : decode cX7_falseByWeight 82 = .ok (.goto 12, 3) := by decide +kernel
theorem dX7_falseByWeight_85 : decode cX7_falseByWeight 85 = .ok (.aload_n 0, 1) := by decide +kernel
theorem dX7_falseByWeight_86 : decode cX7_falseByWeight 86 = .ok (.getfield 14, 3) := by decide +kernel
theorem dX7_falseByWeight_89 : decode cX7_falseByWeight 89 = .ok (.iload 6, 2) := by decide +kernel
theorem dX7_falseByWeight_91 : decode cX7_falseByWeight 91 = .ok (.invokevirtual 97, 3) := by decide +kernel
theorem dX7_falseByWeight_94 : decode cX7_falseByWeight 94 = .ok (.istore 8, 2) := by decide +kernel
theorem dX7_falseByWeight_96 : decode cX7_falseByWeight 96 = .ok (.aload_n 0, 1) := by decide +kernel
theorem dX7_falseByWeight_97 : decode cX7_falseByWeight 97 = .ok (.getfield 28, 3) := by decide +kernel
theorem dX7_falseByWeight_100 : decode cX7_falseByWeight 100 = .ok (.iload 4, 2) := by decide +kernel
theorem dX7_falseByWeight_102 : decode cX7_falseByWeight 102 = .ok (.aload_n 0, 1) := by decide +kernel
theorem dX7_falseByWeight_103 : decode cX7_falseByWeight 103 = .ok (.getfield 21, 3) := by decide +kernel
theorem dX7_falseByWeight_106 : decode cX7_falseByWeight 106 = .ok (.iload 7, 2) := by decide +kernel
theorem dX7_falseByWeight_108 : decode cX7_falseByWeight 108 = .ok (.iload 8, 2) := by decide +kernel
theorem dX7_falseByWeight_110 : decode cX7_falseByWeight 110 = .ok (.invokevirtual 167, 3) := by decide +kernel
theorem dX7_falseByWeight_113 : decode cX7_falseByWeight 113 = .ok (.ifCond .eq 6, 3) := by decide +kernel
theorem dX7_falseByWeight_116 : decode cX7_falseByWeight 116 = .ok (.iinc 3 1, 3) := by decide +kernel
theorem dX7_falseByWeight_119 : decode cX7_falseByWeight 119 = .ok (.iinc 4 1, 3) := by decide +kernel
theorem dX7_falseByWeight_122 : decode cX7_falseByWeight 122 = .ok (.goto (-117), 3) := by decide +kernel
theorem dX7_falseByWeight_125 : decode cX7_falseByWeight 125 = .ok (.iload_n 3, 1) := by decide +kernel
theorem dX7_falseByWeight_126 : decode cX7_falseByWeight 126 = .ok (.ireturn, 1) := by decide +kernel
theorem dX7_rows_0 : decode cX7_rows 0 = .ok (.aload_n 0, 1) := by decide +kernel
theorem dX7_rows_1 : decode cX7_rows 1 = .ok (.getfield 21, 3) := by decide +kernel
theorem dX7_rows_4 : decode cX7_rows 4 = .ok (.iload_n 1, 1) := by decide +kernel
theorem dX7_rows_5 : decode cX7_rows 5 = .ok (.invokevirtual 111, 3) := by decide +kernel
theorem dX7_rows_8 : decode cX7_rows 8 = .ok (.ifCond .eq 19, 3) := by decide +kernel
theorem dX7_rows_11 : decode cX7_rows 11 = .ok (.iload_n 2, 1) := by decide +kernel
theorem dX7_rows_12 : decode cX7_rows 12 = .ok (.iconst (-1), 1) := by decide +kernel
theorem dX7_rows_13 : decode cX7_rows 13 = .ok (.if_icmp .lt 14, 3) := by decide +kernel
theorem dX7_rows_16 : decode cX7_rows 16 = .ok (.iload_n 2, 1) := by decide +kernel
theorem dX7_rows_17 : decode cX7_rows 17 = .ok (.aload_n 0, 1) := by decide +kernel
theorem dX7_rows_18 : decode cX7_rows 18 = .ok (.getfield 14, 3) := by decide +kernel
theorem dX7_rows_21 : decode cX7_rows 21 = .ok (.invokevirtual 92, 3) := by decide +kernel
theorem dX7_rows_24 : decode cX7_rows 24 = .ok (.if_icmp .lt 5, 3) := by decide +kernel
theorem dX7_rows_27 : decode cX7_rows 27 = .ok (.iconst (-1), 1) := by decide +kernel
theorem dX7_rows_28 : decode cX7_rows 28 = .ok (.ireturn, 1) := by decide +kernel
theorem dX7_rows_29 : decode cX7_rows 29 = .ok (.aload_n 0, 1) := by decide +kernel
theorem dX7_rows_30 : decode cX7_rows 30 = .ok (.getfield 42, 3) := by decide +kernel
theorem dX7_rows_33 : decode cX7_rows 33 = .ok (.aload_n 0, 1) := by decide +kernel
theorem dX7_rows_34 : decode cX7_rows 34 = .ok (.getfield 21, 3) := by decide +kernel
theorem dX7_rows_37 : decode cX7_rows 37 = .ok (.iload_n 1, 1) := by decide +kernel
theorem dX7_rows_38 : decode cX7_rows 38 = .ok (.aload_n 0, 1) := by decide +kernel
theorem dX7_rows_39 : decode cX7_rows 39 = .ok (.getfield 14, 3) := by decide +kernel
theorem dX7_rows_42 : decode cX7_rows 42 = .ok (.invokevirtual 125, 3) := by decide +kernel
theorem dX7_rows_45 : decode cX7_rows 45 = .ok (.iload_n 2, 1) := by decide +kernel
theorem dX7_rows_46 : decode cX7_rows 46 = .ok (.iconst (-1), 1) := by decide +kernel
theorem dX7_rows_47 : decode cX7_rows 47 = .ok (.if_icmp .ne 13, 3) := by decide +kernel
theorem dX7_rows_50 : decode cX7_rows 50 = .ok (.aload_n 0, 1) := by decide +kernel
theorem dX7_rows_51 : decode cX7_rows 51 = .ok (.getfield 42, 3) := by decide +kernel
theorem dX7_rows_54 : decode cX7_rows 54 = .ok (.invokevirtual 174, 3) := by decide +kernel
theorem dX7_rows_57 : decode cX7_rows 57 = .ok (.goto 11, 3) := by decide +kernel
theorem dX7_rows_60 : decode cX7_rows 60 = .ok (.aload_n 0, 1) := by decide +kernel
theorem dX7_rows_61 : decode cX7_rows 61 = .ok (.getfield 42, 3) := by decide +kernel
theorem dX7_rows_64 : decode cX7_rows 64 = .ok (.iload_n 2, 1) := by decide +kernel
theorem dX7_rows_65 : decode cX7_rows 65 = .ok (.invokevirtual 177, 3) := by decide +kernel
theorem dX7_rows_68 : decode cX7_rows 68 = .ok (.ireturn, 1) := by decide +kernel
theorem dX7_longest_0 : decode cX7_longest 0 = .ok (.aload_n 0, 1) := by decide +kernel
theorem dX7_longest_1 : decode cX7_longest 1 = .ok (.getfield 21, 3) := by decide +kernel
theorem dX7_longest_4 : decode cX7_longest 4 = .ok (.iload_n 1, 1) := by decide +kernel
theorem dX7_longest_5 : decode cX7_longest 5 = .ok (.invokevirtual 111, 3) := by decide +kernel
theorem dX7_longest_8 : decode cX7_longest 8 = .ok (.ifCond .ne 5, 3) := by decide +kernel
theorem dX7_longest_11 : decode cX7_longest 11 = .ok (.iconst (-1), 1) := by decide +kernel
theorem dX7_longest_12 : decode cX7_longest 12 = .ok (.ireturn, 1) := by decide +kernel
theorem dX7_longest_13 : decode cX7_longest 13 = .ok (.aload_n 0, 1) := by decide +kernel
theorem dX7_longest_14 : decode cX7_longest 14 = .ok (.getfield 42, 3) := by decide +kernel
theorem dX7_longest_17 : decode cX7_longest 17 = .ok (.aload_n 0, 1) := by decide +kernel
theorem dX7_longest_18 : decode cX7_longest 18 = .ok (.getfield 21, 3) := by decide +kernel
theorem dX7_longest_21 : decode cX7_longest 21 = .ok (.iload_n 1, 1) := by decide +kernel
theorem dX7_longest_22 : decode cX7_longest 22 = .ok (.aload_n 0, 1) := by decide +kernel
theorem dX7_longest_23 : decode cX7_longest 23 = .ok (.getfield 14, 3) := by decide +kernel
theorem dX7_longest_26 : decode cX7_longest 26 = .ok (.invokevirtual 125, 3) := by decide +kernel
theorem dX7_longest_29 : decode cX7_longest 29 = .ok (.aload_n 0, 1) := by decide +kernel
theorem dX7_longest_30 : decode cX7_longest 30 = .ok (.getfield 42, 3) := by decide +kernel
theorem dX7_longest_33 : decode cX7_longest 33 = .ok (.invokevirtual 180, 3) := by decide +kernel
theorem dX7_longest_36 : decode cX7_longest 36 = .ok (.ireturn, 1) := by decide +kernel
theorem dX7_crowd_0 : decode cX7_crowd 0 = .ok (.aload_n 0, 1) := by decide +kernel
theorem dX7_crowd_1 : decode cX7_crowd 1 = .ok (.getfield 21, 3) := by decide +kernel
theorem dX7_crowd_4 : decode cX7_crowd 4 = .ok (.iload_n 1, 1) := by decide +kernel
theorem dX7_crowd_5 : decode cX7_crowd 5 = .ok (.invokevirtual 111, 3) := by decide +kernel
theorem dX7_crowd_8 : decode cX7_crowd 8 = .ok (.ifCond .ne 5, 3) := by decide +kernel
theorem dX7_crowd_11 : decode cX7_crowd 11 = .ok (.iconst (-1), 1) := by decide +kernel
theorem dX7_crowd_12 : decode cX7_crowd 12 = .ok (.ireturn, 1) := by decide +kernel
theorem dX7_crowd_13 : decode cX7_crowd 13 = .ok (.aload_n 0, 1) := by decide +kernel
theorem dX7_crowd_14 : decode cX7_crowd 14 = .ok (.getfield 42, 3) := by decide +kernel
theorem dX7_crowd_17 : decode cX7_crowd 17 = .ok (.aload_n 0, 1) := by decide +kernel
theorem dX7_crowd_18 : decode cX7_crowd 18 = .ok (.getfield 21, 3) := by decide +kernel
theorem dX7_crowd_21 : decode cX7_crowd 21 = .ok (.iload_n 1, 1) := by decide +kernel
theorem dX7_crowd_22 : decode cX7_crowd 22 = .ok (.aload_n 0, 1) := by decide +kernel
theorem dX7_crowd_23 : decode cX7_crowd 23 = .ok (.getfield 14, 3) := by decide +kernel
theorem dX7_crowd_26 : decode cX7_crowd 26 = .ok (.invokevirtual 125, 3) := by decide +kernel
theorem dX7_crowd_29 : decode cX7_crowd 29 = .ok (.aload_n 0, 1) := by decide +kernel
theorem dX7_crowd_30 : decode cX7_crowd 30 = .ok (.getfield 42, 3) := by decide +kernel
theorem dX7_crowd_33 : decode cX7_crowd 33 = .ok (.invokevirtual 183, 3) := by decide +kernel
theorem dX7_crowd_36 : decode cX7_crowd 36 = .ok (.ireturn, 1) := by decide +kernel
theorem dX7_measure_0 : decode cX7_measure 0 = .ok (.aload_n 0, 1) := by decide +kernel
theorem dX7_measure_1 : decode cX7_measure 1 = .ok (.getfield 21, 3) := by decide +kernel
theorem dX7_measure_4 : decode cX7_measure 4 = .ok (.iload_n 1, 1) := by decide +kernel
theorem dX7_measure_5 : decode cX7_measure 5 = .ok (.invokevirtual 111, 3) := by decide +kernel
theorem dX7_measure_8 : decode cX7_measure 8 = .ok (.ifCond .ne 5, 3) := by decide +kernel
theorem dX7_measure_11 : decode cX7_measure 11 = .ok (.iconst (-1), 1) := by decide +kernel
theorem dX7_measure_12 : decode cX7_measure 12 = .ok (.ireturn, 1) := by decide +kernel
theorem dX7_measure_13 : decode cX7_measure 13 = .ok (.iload_n 2, 1) := by decide +kernel
theorem dX7_measure_14 : decode cX7_measure 14 = .ok (.invokestatic 112, 3) := by decide +kernel
theorem dX7_measure_17 : decode cX7_measure 17 = .ok (.ifCond .ne 6, 3) := by decide +kernel
theorem dX7_measure_20 : decode cX7_measure 20 = .ok (.bipush (-2), 2) := by decide +kernel
theorem dX7_measure_22 : decode cX7_measure 22 = .ok (.ireturn, 1) := by decide +kernel
theorem dX7_measure_23 : decode cX7_measure 23 = .ok (.aload_n 0, 1) := by decide +kernel
theorem dX7_measure_24 : decode cX7_measure 24 = .ok (.getfield 42, 3) := by decide +kernel
theorem dX7_measure_27 : decode cX7_measure 27 = .ok (.aload_n 0, 1) := by decide +kernel
theorem dX7_measure_28 : decode cX7_measure 28 = .ok (.getfield 21, 3) := by decide +kernel
theorem dX7_measure_31 : decode cX7_measure 31 = .ok (.iload_n 1, 1) := by decide +kernel
theorem dX7_measure_32 : decode cX7_measure 32 = .ok (.aload_n 0, 1) := by decide +kernel
theorem dX7_measure_33 : decode cX7_measure 33 = .ok (.getfield 14, 3) := by decide +kernel
theorem dX7_measure_36 : decode cX7_measure 36 = .ok (.invokevirtual 125, 3) := by decide +kernel
theorem dX7_measure_39 : decode cX7_measure 39 = .ok (.iconst 0, 1) := by decide +kernel
theorem dX7_measure_40 : decode cX7_measure 40 = .ok (.istore_n 3, 1) := by decide +kernel
theorem dX7_measure_41 : decode cX7_measure 41 = .ok (.iconst 1, 1) := by decide +kernel
theorem dX7_measure_42 : decode cX7_measure 42 = .ok (.istore 4, 2) := by decide +kernel
theorem dX7_measure_44 : decode cX7_measure 44 = .ok (.iload 4, 2) := by decide +kernel
theorem dX7_measure_46 : decode cX7_measure 46 = .ok (.aload_n 0, 1) := by decide +kernel
theorem dX7_measure_47 : decode cX7_measure 47 = .ok (.getfield 14, 3) := by decide +kernel
theorem dX7_measure_50 : decode cX7_measure 50 = .ok (.invokevirtual 92, 3) := by decide +kernel
theorem dX7_measure_53 : decode cX7_measure 53 = .ok (.if_icmp .ge 32, 3) := by decide +kernel
theorem dX7_measure_56 : decode cX7_measure 56 = .ok (.aload_n 0, 1) := by decide +kernel
theorem dX7_measure_57 : decode cX7_measure 57 = .ok (.getfield 42, 3) := by decide +kernel
theorem dX7_measure_60 : decode cX7_measure 60 = .ok (.iload 4, 2) := by decide +kernel
theorem dX7_measure_62 : decode cX7_measure 62 = .ok (.invokevirtual 186, 3) := by decide +kernel
theorem dX7_measure_65 : decode cX7_measure 65 = .ok (.aload_n 0, 1) := by decide +kernel
theorem dX7_measure_66 : decode cX7_measure 66 = .ok (.getfield 42, 3) := by decide +kernel
theorem dX7_measure_69 : decode cX7_measure 69 = .ok (.iload_n 3, 1) := by decide +kernel
theorem dX7_measure_70 : decode cX7_measure 70 = .ok (.invokevirtual 186, 3) := by decide +kernel
theorem dX7_measure_73 : decode cX7_measure 73 = .ok (.if_icmp .le 6, 3) := by decide +kernel
theorem dX7_measure_76 : decode cX7_measure 76 = .ok (.iload 4, 2) := by decide +kernel
theorem dX7_measure_78 : decode cX7_measure 78 = .ok (.istore_n 3, 1) := by decide +kernel
theorem dX7_measure_79 : decode cX7_measure 79 = .ok (.iinc 4 1, 3) := by decide +kernel
theorem dX7_measure_82 : decode cX7_measure 82 = .ok (.goto (-38), 3) := by decide +kernel
theorem dX7_measure_85 : decode cX7_measure 85 = .ok (.iload_n 2, 1) := by decide +kernel
theorem dX7_measure_86 : decode cX7_measure 86 = .ok (.ifCond .ne 7, 3) := by decide +kernel
theorem dX7_measure_89 : decode cX7_measure 89 = .ok (.iload_n 3, 1) := by decide +kernel
theorem dX7_measure_90 : decode cX7_measure 90 = .ok (.goto 11, 3) := by decide +kernel
theorem dX7_measure_93 : decode cX7_measure 93 = .ok (.aload_n 0, 1) := by decide +kernel
theorem dX7_measure_94 : decode cX7_measure 94 = .ok (.getfield 42, 3) := by decide +kernel
theorem dX7_measure_97 : decode cX7_measure 97 = .ok (.iload_n 3, 1) := by decide +kernel
theorem dX7_measure_98 : decode cX7_measure 98 = .ok (.invokevirtual 186, 3) := by decide +kernel
theorem dX7_measure_101 : decode cX7_measure 101 = .ok (.ireturn, 1) := by decide +kernel
theorem dX7_copies_0 : decode cX7_copies 0 = .ok (.aload_n 0, 1) := by decide +kernel
theorem dX7_copies_1 : decode cX7_copies 1 = .ok (.iconst 0, 1) := by decide +kernel
theorem dX7_copies_2 : decode cX7_copies 2 = .ok (.putfield 60, 3) := by decide +kernel
theorem dX7_copies_5 : decode cX7_copies 5 = .ok (.aload_n 0, 1) := by decide +kernel
theorem dX7_copies_6 : decode cX7_copies 6 = .ok (.getfield 35, 3) := by decide +kernel
theorem dX7_copies_9 : decode cX7_copies 9 = .ok (.iload_n 2, 1) := by decide +kernel
theorem dX7_copies_10 : decode cX7_copies 10 = .ok (.invokevirtual 63, 3) := by decide +kernel
theorem dX7_copies_13 : decode cX7_copies 13 = .ok (.ifCond .ne 5, 3) := by decide +kernel
theorem dX7_copies_16 : decode cX7_copies 16 = .ok (.iconst (-1), 1) := by decide +kernel
theorem dX7_copies_17 : decode cX7_copies 17 = .ok (.ireturn, 1) := by decide +kernel
theorem dX7_copies_18 : decode cX7_copies 18 = .ok (.iload_n 3, 1) := by decide +kernel
theorem dX7_copies_19 : decode cX7_copies 19 = .ok (.invokestatic 67, 3) := by decide +kernel
theorem dX7_copies_22 : decode cX7_copies 22 = .ok (.ifCond .eq 23, 3) := by decide +kernel
theorem dX7_copies_25 : decode cX7_copies 25 = .ok (.iload_n 1, 1) := by decide +kernel
theorem dX7_copies_26 : decode cX7_copies 26 = .ok (.iconst 1, 1) := by decide +kernel
theorem dX7_copies_27 : decode cX7_copies 27 = .ok (.if_icmp .lt 18, 3) := by decide +kernel
theorem dX7_copies_30 : decode cX7_copies 30 = .ok (.iload_n 1, 1) := by decide +kernel
theorem dX7_copies_31 : decode cX7_copies 31 = .ok (.sipush 999, 3) := by decide +kernel
theorem dX7_copies_34 : decode cX7_copies 34 = .ok (.if_icmp .gt 11, 3) := by decide +kernel
theorem dX7_copies_37 : decode cX7_copies 37 = .ok (.iload 6, 2) := by decide +kernel
theorem dX7_copies_39 : decode cX7_copies 39 = .ok (.invokestatic 112, 3) := by decide +kernel
theorem dX7_copies_42 : decode cX7_copies 42 = .ok (.ifCond .ne 6, 3) := by decide +kernel
theorem dX7_copies_45 : decode cX7_copies 45 = .ok (.bipush (-2), 2) := by decide +kernel
theorem dX7_copies_47 : decode cX7_copies 47 = .ok (.ireturn, 1) := by decide +kernel
theorem dX7_copies_48 : decode cX7_copies 48 = .ok (.aload_n 0, 1) := by decide +kernel
theorem dX7_copies_49 : decode cX7_copies 49 = .ok (.iload_n 2, 1) := by decide +kernel
theorem dX7_copies_50 : decode cX7_copies 50 = .ok (.iload_n 3, 1) := by decide +kernel
theorem dX7_copies_51 : decode cX7_copies 51 = .ok (.iload 4, 2) := by decide +kernel
theorem dX7_copies_53 : decode cX7_copies 53 = .ok (.iload 5, 2) := by decide +kernel
theorem dX7_copies_55 : decode cX7_copies 55 = .ok (.invokevirtual 189, 3) := by decide +kernel
theorem dX7_copies_58 : decode cX7_copies 58 = .ok (.istore 7, 2) := by decide +kernel
theorem dX7_copies_60 : decode cX7_copies 60 = .ok (.iload 7, 2) := by decide +kernel
theorem dX7_copies_62 : decode cX7_copies 62 = .ok (.ifCond .eq 6, 3) := by decide +kernel
theorem dX7_copies_65 : decode cX7_copies 65 = .ok (.iload 7, 2) := by decide +kernel
theorem dX7_copies_67 : decode cX7_copies 67 = .ok (.ireturn, 1) := by decide +kernel
theorem dX7_copies_68 : decode cX7_copies 68 = .ok (.iload 6, 2) := by decide +kernel
theorem dX7_copies_70 : decode cX7_copies 70 = .ok (.ifCond .ne 18, 3) := by decide +kernel
theorem dX7_copies_73 : decode cX7_copies 73 = .ok (.aload_n 0, 1) := by decide +kernel
theorem dX7_copies_74 : decode cX7_copies 74 = .ok (.getfield 52, 3) := by decide +kernel
theorem dX7_copies_77 : decode cX7_copies 77 = .ok (.aload_n 0, 1) := by decide +kernel
theorem dX7_copies_78 : decode cX7_copies 78 = .ok (.getfield 21, 3) := by decide +kernel
theorem dX7_copies_81 : decode cX7_copies 81 = .ok (.iload_n 1, 1) := by decide +kernel
theorem dX7_copies_82 : decode cX7_copies 82 = .ok (.invokevirtual 192, 3) := by decide +kernel
theorem dX7_copies_85 : decode cX7_copies 85 = .ok (.goto 15, 3) := by decide +kernel
theorem dX7_copies_88 : decode cX7_copies 88 = .ok (.aload_n 0, 1) := by decide +kernel
theorem dX7_copies_89 : decode cX7_copies 89 = .ok (.getfield 52, 3) := by decide +kernel
theorem dX7_copies_92 : decode cX7_copies 92 = .ok (.aload_n 0, 1) := by decide +kernel
theorem dX7_copies_93 : decode cX7_copies 93 = .ok (.getfield 21, 3) := by decide +kernel
theorem dX7_copies_96 : decode cX7_copies 96 = .ok (.iload_n 1, 1) := by decide +kernel
theorem dX7_copies_97 : decode cX7_copies 97 = .ok (.invokevirtual 196, 3) := by decide +kernel
theorem dX7_copies_100 : decode cX7_copies 100 = .ok (.ireturn, 1) := by decide +kernel
theorem dX7_bestRow_0 : decode cX7_bestRow 0 = .ok (.aload_n 0, 1) := by decide +kernel
theorem dX7_bestRow_1 : decode cX7_bestRow 1 = .ok (.iconst 0, 1) := by decide +kernel
theorem dX7_bestRow_2 : decode cX7_bestRow 2 = .ok (.putfield 60, 3) := by decide +kernel
theorem dX7_bestRow_5 : decode cX7_bestRow 5 = .ok (.aload_n 0, 1) := by decide +kernel
theorem dX7_bestRow_6 : decode cX7_bestRow 6 = .ok (.getfield 35, 3) := by decide +kernel
theorem dX7_bestRow_9 : decode cX7_bestRow 9 = .ok (.iload_n 2, 1) := by decide +kernel
theorem dX7_bestRow_10 : decode cX7_bestRow 10 = .ok (.invokevirtual 63, 3) := by decide +kernel
theorem dX7_bestRow_13 : decode cX7_bestRow 13 = .ok (.ifCond .ne 5, 3) := by decide +kernel
theorem dX7_bestRow_16 : decode cX7_bestRow 16 = .ok (.iconst (-1), 1) := by decide +kernel
theorem dX7_bestRow_17 : decode cX7_bestRow 17 = .ok (.ireturn, 1) := by decide +kernel
theorem dX7_bestRow_18 : decode cX7_bestRow 18 = .ok (.iload_n 3, 1) := by decide +kernel
theorem dX7_bestRow_19 : decode cX7_bestRow 19 = .ok (.invokestatic 67, 3) := by decide +kernel
theorem dX7_bestRow_22 : decode cX7_bestRow 22 = .ok (.ifCond .eq 15, 3) := by decide +kernel
theorem dX7_bestRow_25 : decode cX7_bestRow 25 = .ok (.iload_n 1, 1) := by decide +kernel
theorem dX7_bestRow_26 : decode cX7_bestRow 26 = .ok (.iconst 1, 1) := by decide +kernel
theorem dX7_bestRow_27 : decode cX7_bestRow 27 = .ok (.if_icmp .lt 10, 3) := by decide +kernel
theorem dX7_bestRow_30 : decode cX7_bestRow 30 = .ok (.iload_n 1, 1) := by decide +kernel
theorem dX7_bestRow_31 : decode cX7_bestRow 31 = .ok (.sipush 999, 3) := by decide +kernel
theorem dX7_bestRow_34 : decode cX7_bestRow 34 = .ok (.if_icmp .le 6, 3) := by decide +kernel
theorem dX7_bestRow_37 : decode cX7_bestRow 37 = .ok (.bipush (-2), 2) := by decide +kernel
theorem dX7_bestRow_39 : decode cX7_bestRow 39 = .ok (.ireturn, 1) := by decide +kernel
theorem dX7_bestRow_40 : decode cX7_bestRow 40 = .ok (.aload_n 0, 1) := by decide +kernel
theorem dX7_bestRow_41 : decode cX7_bestRow 41 = .ok (.iload_n 2, 1) := by decide +kernel
theorem dX7_bestRow_42 : decode cX7_bestRow 42 = .ok (.iload_n 3, 1) := by decide +kernel
theorem dX7_bestRow_43 : decode cX7_bestRow 43 = .ok (.iload 4, 2) := by decide +kernel
theorem dX7_bestRow_45 : decode cX7_bestRow 45 = .ok (.iload 5, 2) := by decide +kernel
theorem dX7_bestRow_47 : decode cX7_bestRow 47 = .ok (.invokevirtual 189, 3) := by decide +kernel
theorem dX7_bestRow_50 : decode cX7_bestRow 50 = .ok (.istore 7, 2) := by decide +kernel
theorem dX7_bestRow_52 : decode cX7_bestRow 52 = .ok (.iload 7, 2) := by decide +kernel
theorem dX7_bestRow_54 : decode cX7_bestRow 54 = .ok (.ifCond .eq 6, 3) := by decide +kernel
theorem dX7_bestRow_57 : decode cX7_bestRow 57 = .ok (.iload 7, 2) := by decide +kernel
theorem dX7_bestRow_59 : decode cX7_bestRow 59 = .ok (.ireturn, 1) := by decide +kernel
theorem dX7_bestRow_60 : decode cX7_bestRow 60 = .ok (.iload 6, 2) := by decide +kernel
theorem dX7_bestRow_62 : decode cX7_bestRow 62 = .ok (.iconst (-1), 1) := by decide +kernel
theorem dX7_bestRow_63 : decode cX7_bestRow 63 = .ok (.if_icmp .lt 10, 3) := by decide +kernel
theorem dX7_bestRow_66 : decode cX7_bestRow 66 = .ok (.iload 6, 2) := by decide +kernel
theorem dX7_bestRow_68 : decode cX7_bestRow 68 = .ok (.iload 5, 2) := by decide +kernel
theorem dX7_bestRow_70 : decode cX7_bestRow 70 = .ok (.if_icmp .lt 5, 3) := by decide +kernel
theorem dX7_bestRow_73 : decode cX7_bestRow 73 = .ok (.iconst (-1), 1) := by decide +kernel
theorem dX7_bestRow_74 : decode cX7_bestRow 74 = .ok (.ireturn, 1) := by decide +kernel
theorem dX7_bestRow_75 : decode cX7_bestRow 75 = .ok (.aload_n 0, 1) := by decide +kernel
theorem dX7_bestRow_76 : decode cX7_bestRow 76 = .ok (.getfield 52, 3) := by decide +kernel
theorem dX7_bestRow_79 : decode cX7_bestRow 79 = .ok (.aload_n 0, 1) := by decide +kernel
theorem dX7_bestRow_80 : decode cX7_bestRow 80 = .ok (.getfield 21, 3) := by decide +kernel
theorem dX7_bestRow_83 : decode cX7_bestRow 83 = .ok (.iload_n 1, 1) := by decide +kernel
theorem dX7_bestRow_84 : decode cX7_bestRow 84 = .ok (.invokevirtual 199, 3) := by decide +kernel
theorem dX7_bestRow_87 : decode cX7_bestRow 87 = .ok (.istore 8, 2) := by decide +kernel
theorem dX7_bestRow_89 : decode cX7_bestRow 89 = .ok (.iload 6, 2) := by decide +kernel
theorem dX7_bestRow_91 : decode cX7_bestRow 91 = .ok (.iconst (-1), 1) := by decide +kernel
theorem dX7_bestRow_92 : decode cX7_bestRow 92 = .ok (.if_icmp .ne 8, 3) := by decide +kernel
theorem dX7_bestRow_95 : decode cX7_bestRow 95 = .ok (.iload 8, 2) := by decide +kernel
theorem dX7_bestRow_97 : decode cX7_bestRow 97 = .ok (.goto 12, 3) := by decide +kernel
theorem dX7_bestRow_100 : decode cX7_bestRow 100 = .ok (.aload_n 0, 1) := by decide +kernel
theorem dX7_bestRow_101 : decode cX7_bestRow 101 = .ok (.getfield 52, 3) := by decide +kernel
theorem dX7_bestRow_104 : decode cX7_bestRow 104 = .ok (.iload 6, 2) := by decide +kernel
theorem dX7_bestRow_106 : decode cX7_bestRow 106 = .ok (.invokevirtual 202, 3) := by decide +kernel
theorem dX7_bestRow_109 : decode cX7_bestRow 109 = .ok (.ireturn, 1) := by decide +kernel
theorem dX7_takeHandRow_0 : decode cX7_takeHandRow 0 = .ok (.aload_n 0, 1) := by decide +kernel
theorem dX7_takeHandRow_1 : decode cX7_takeHandRow 1 = .ok (.getfield 35, 3) := by decide +kernel
theorem dX7_takeHandRow_4 : decode cX7_takeHandRow 4 = .ok (.iload_n 1, 1) := by decide +kernel
theorem dX7_takeHandRow_5 : decode cX7_takeHandRow 5 = .ok (.iload_n 2, 1) := by decide +kernel
theorem dX7_takeHandRow_6 : decode cX7_takeHandRow 6 = .ok (.iload_n 3, 1) := by decide +kernel
theorem dX7_takeHandRow_7 : decode cX7_takeHandRow 7 = .ok (.iload 4, 2) := by decide +kernel
theorem dX7_takeHandRow_9 : decode cX7_takeHandRow 9 = .ok (.invokevirtual 70, 3) := by decide +kernel
theorem dX7_takeHandRow_12 : decode cX7_takeHandRow 12 = .ok (.istore 5, 2) := by decide +kernel
theorem dX7_takeHandRow_14 : decode cX7_takeHandRow 14 = .ok (.iload 5, 2) := by decide +kernel
theorem dX7_takeHandRow_16 : decode cX7_takeHandRow 16 = .ok (.ifCond .eq 10, 3) := by decide +kernel
theorem dX7_takeHandRow_19 : decode cX7_takeHandRow 19 = .ok (.aload_n 0, 1) := by decide +kernel
theorem dX7_takeHandRow_20 : decode cX7_takeHandRow 20 = .ok (.iload 5, 2) := by decide +kernel
theorem dX7_takeHandRow_22 : decode cX7_takeHandRow 22 = .ok (.invokevirtual 74, 3) := by decide +kernel
theorem dX7_takeHandRow_25 : decode cX7_takeHandRow 25 = .ok (.ireturn, 1) := by decide +kernel
theorem dX7_takeHandRow_26 : decode cX7_takeHandRow 26 = .ok (.iload 4, 2) := by decide +kernel
theorem dX7_takeHandRow_28 : decode cX7_takeHandRow 28 = .ok (.iconst 1, 1) := by decide +kernel
theorem dX7_takeHandRow_29 : decode cX7_takeHandRow 29 = .ok (.if_icmp .lt 9, 3) := by decide +kernel
theorem dX7_takeHandRow_32 : decode cX7_takeHandRow 32 = .ok (.iload 4, 2) := by decide +kernel
theorem dX7_takeHandRow_34 : decode cX7_takeHandRow 34 = .ok (.iconst 5, 1) := by decide +kernel
theorem dX7_takeHandRow_35 : decode cX7_takeHandRow 35 = .ok (.if_icmp .le 6, 3) := by decide +kernel
theorem dX7_takeHandRow_38 : decode cX7_takeHandRow 38 = .ok (.bipush (-2), 2) := by decide +kernel
theorem dX7_takeHandRow_40 : decode cX7_takeHandRow 40 = .ok (.ireturn, 1) := by decide +kernel
theorem dX7_takeHandRow_41 : decode cX7_takeHandRow 41 = .ok (.aload_n 0, 1) := by decide +kernel
theorem dX7_takeHandRow_42 : decode cX7_takeHandRow 42 = .ok (.getfield 52, 3) := by decide +kernel
theorem dX7_takeHandRow_45 : decode cX7_takeHandRow 45 = .ok (.invokevirtual 205, 3) := by decide +kernel
theorem dX7_takeHandRow_48 : decode cX7_takeHandRow 48 = .ok (.iconst 0, 1) := by decide +kernel
theorem dX7_takeHandRow_49 : decode cX7_takeHandRow 49 = .ok (.istore 6, 2) := by decide +kernel
theorem dX7_takeHandRow_51 : decode cX7_takeHandRow 51 = .ok (.iload 6, 2) := by decide +kernel
theorem dX7_takeHandRow_53 : decode cX7_takeHandRow 53 = .ok (.iload 4, 2) := by decide +kernel
theorem dX7_takeHandRow_55 : decode cX7_takeHandRow 55 = .ok (.if_icmp .ge 46, 3) := by decide +kernel
theorem dX7_takeHandRow_58 : decode cX7_takeHandRow 58 = .ok (.aload_n 0, 1) := by decide +kernel
theorem dX7_takeHandRow_59 : decode cX7_takeHandRow 59 = .ok (.getfield 35, 3) := by decide +kernel
theorem dX7_takeHandRow_62 : decode cX7_takeHandRow 62 = .ok (.iload_n 1, 1) := by decide +kernel
theorem dX7_takeHandRow_63 : decode cX7_takeHandRow 63 = .ok (.iload_n 3, 1) := by decide +kernel
theorem dX7_takeHandRow_64 : decode cX7_takeHandRow 64 = .ok (.iload 6, 2) := by decide +kernel
theorem dX7_takeHandRow_66 : decode cX7_takeHandRow 66 = .ok (.iadd, 1) := by decide +kernel
theorem dX7_takeHandRow_67 : decode cX7_takeHandRow 67 = .ok (.invokevirtual 206, 3) := by decide +kernel
theorem dX7_takeHandRow_70 : decode cX7_takeHandRow 70 = .ok (.istore 7, 2) := by decide +kernel
theorem dX7_takeHandRow_72 : decode cX7_takeHandRow 72 = .ok (.aload_n 0, 1) := by decide +kernel
theorem dX7_takeHandRow_73 : decode cX7_takeHandRow 73 = .ok (.getfield 21, 3) := by decide +kernel
theorem dX7_takeHandRow_76 : decode cX7_takeHandRow 76 = .ok (.iload 7, 2) := by decide +kernel
theorem dX7_takeHandRow_78 : decode cX7_takeHandRow 78 = .ok (.invokevirtual 111, 3) := by decide +kernel
theorem dX7_takeHandRow_81 : decode cX7_takeHandRow 81 = .ok (.ifCond .ne 5, 3) := by decide +kernel
theorem dX7_takeHandRow_84 : decode cX7_takeHandRow 84 = .ok (.iconst (-1), 1) := by decide +kernel
theorem dX7_takeHandRow_85 : decode cX7_takeHandRow 85 = .ok (.ireturn, 1) := by decide +kernel
theorem dX7_takeHandRow_86 : decode cX7_takeHandRow 86 = .ok (.aload_n 0, 1) := by decide +kernel
theorem dX7_takeHandRow_87 : decode cX7_takeHandRow 87 = .ok (.getfield 52, 3) := by decide +kernel
theorem dX7_takeHandRow_90 : decode cX7_takeHandRow 90 = .ok (.iload 7, 2) := by decide +kernel
theorem dX7_takeHandRow_92 : decode cX7_takeHandRow 92 = .ok (.invokevirtual 209, 3) := by decide +kernel
theorem dX7_takeHandRow_95 : decode cX7_takeHandRow 95 = .ok (.iinc 6 1, 3) := by decide +kernel
theorem dX7_takeHandRow_98 : decode cX7_takeHandRow 98 = .ok (.goto (-47), 3) := by decide +kernel
theorem dX7_takeHandRow_101 : decode cX7_takeHandRow 101 = .ok (.iconst 0, 1) := by decide +kernel
theorem dX7_takeHandRow_102 : decode cX7_takeHandRow 102 = .ok (.ireturn, 1) := by decide +kernel
theorem dX7_even_0 : decode cX7_even 0 = .ok (.aload_n 0, 1) := by decide +kernel
theorem dX7_even_1 : decode cX7_even 1 = .ok (.getfield 21, 3) := by decide +kernel
theorem dX7_even_4 : decode cX7_even 4 = .ok (.iload_n 1, 1) := by decide +kernel
theorem dX7_even_5 : decode cX7_even 5 = .ok (.invokevirtual 111, 3) := by decide +kernel
theorem dX7_even_8 : decode cX7_even 8 = .ok (.ifCond .ne 5, 3) := by decide +kernel
theorem dX7_even_11 : decode cX7_even 11 = .ok (.iconst (-1), 1) := by decide +kernel
theorem dX7_even_12 : decode cX7_even 12 = .ok (.ireturn, 1) := by decide +kernel
theorem dX7_even_13 : decode cX7_even 13 = .ok (.iload_n 2, 1) := by decide +kernel
theorem dX7_even_14 : decode cX7_even 14 = .ok (.invokestatic 112, 3) := by decide +kernel
theorem dX7_even_17 : decode cX7_even 17 = .ok (.ifCond .ne 6, 3) := by decide +kernel
theorem dX7_even_20 : decode cX7_even 20 = .ok (.bipush (-2), 2) := by decide +kernel
theorem dX7_even_22 : decode cX7_even 22 = .ok (.ireturn, 1) := by decide +kernel
theorem dX7_even_23 : decode cX7_even 23 = .ok (.bipush (-9), 2) := by decide +kernel
theorem dX7_even_25 : decode cX7_even 25 = .ok (.istore_n 3, 1) := by decide +kernel
theorem dX7_even_26 : decode cX7_even 26 = .ok (.bipush (-9), 2) := by decide +kernel
theorem dX7_even_28 : decode cX7_even 28 = .ok (.istore 4, 2) := by decide +kernel
theorem dX7_even_30 : decode cX7_even 30 = .ok (.iconst 0, 1) := by decide +kernel
theorem dX7_even_31 : decode cX7_even 31 = .ok (.istore 5, 2) := by decide +kernel
theorem dX7_even_33 : decode cX7_even 33 = .ok (.iconst 1, 1) := by decide +kernel
theorem dX7_even_34 : decode cX7_even 34 = .ok (.istore 6, 2) := by decide +kernel
theorem dX7_even_36 : decode cX7_even 36 = .ok (.iload 6, 2) := by decide +kernel
theorem dX7_even_38 : decode cX7_even 38 = .ok (.iconst 1, 1) := by decide +kernel
theorem dX7_even_39 : decode cX7_even 39 = .ok (.aload_n 0, 1) := by decide +kernel
theorem dX7_even_40 : decode cX7_even 40 = .ok (.getfield 14, 3) := by decide +kernel
theorem dX7_even_43 : decode cX7_even 43 = .ok (.invokevirtual 92, 3) := by decide +kernel
theorem dX7_even_46 : decode cX7_even 46 = .ok (.ishl, 1) := by decide +kernel
theorem dX7_even_47 : decode cX7_even 47 = .ok (.if_icmp .ge 106, 3) := by decide +kernel
theorem dX7_even_50 : decode cX7_even 50 = .ok (.aload_n 0, 1) := by decide +kernel
theorem dX7_even_51 : decode cX7_even 51 = .ok (.getfield 14, 3) := by decide +kernel
theorem dX7_even_54 : decode cX7_even 54 = .ok (.iload 6, 2) := by decide +kernel
theorem dX7_even_56 : decode cX7_even 56 = .ok (.invokevirtual 212, 3) := by decide +kernel
theorem dX7_even_59 : decode cX7_even 59 = .ok (.istore 7, 2) := by decide +kernel
theorem dX7_even_61 : decode cX7_even 61 = .ok (.iload 6, 2) := by decide +kernel
theorem dX7_even_63 : decode cX7_even 63 = .ok (.iconst 1, 1) := by decide +kernel
theorem dX7_even_64 : decode cX7_even 64 = .ok (.iadd, 1) := by decide +kernel
theorem dX7_even_65 : decode cX7_even 65 = .ok (.istore 8, 2) := by decide +kernel
theorem dX7_even_67 : decode cX7_even 67 = .ok (.iload 8, 2) := by decide +kernel
theorem dX7_even_69 : decode cX7_even 69 = .ok (.iconst 1, 1) := by decide +kernel
theorem dX7_even_70 : decode cX7_even 70 = .ok (.aload_n 0, 1) := by decide +kernel
theorem dX7_even_71 : decode cX7_even 71 = .ok (.getfield 14, 3) := by decide +kernel
theorem dX7_even_74 : decode cX7_even 74 = .ok (.invokevirtual 92, 3) := by decide +kernel
theorem dX7_even_77 : decode cX7_even 77 = .ok (.ishl, 1) := by decide +kernel
theorem dX7_even_78 : decode cX7_even 78 = .ok (.if_icmp .ge 69, 3) := by decide +kernel
theorem dX7_even_81 : decode cX7_even 81 = .ok (.iload 6, 2) := by decide +kernel
theorem dX7_even_83 : decode cX7_even 83 = .ok (.iload 8, 2) := by decide +kernel
theorem dX7_even_85 : decode cX7_even 85 = .ok (.iand, 1) := by decide +kernel
theorem dX7_even_86 : decode cX7_even 86 = .ok (.ifCond .ne 55, 3) := by decide +kernel
theorem dX7_even_89 : decode cX7_even 89 = .ok (.iload 6, 2) := by decide +kernel
theorem dX7_even_91 : decode cX7_even 91 = .ok (.iload 8, 2) := by decide +kernel
theorem dX7_even_93 : decode cX7_even 93 = .ok (.ior, 1) := by decide +kernel
theorem dX7_even_94 : decode cX7_even 94 = .ok (.invokestatic 215, 3) := by decide +kernel
theorem dX7_even_97 : decode cX7_even 97 = .ok (.iload 5, 2) := by decide +kernel
theorem dX7_even_99 : decode cX7_even 99 = .ok (.if_icmp .le 42, 3) := by decide +kernel
theorem dX7_even_102 : decode cX7_even 102 = .ok (.aload_n 0, 1) := by decide +kernel
theorem dX7_even_103 : decode cX7_even 103 = .ok (.getfield 21, 3) := by decide +kernel
theorem dX7_even_106 : decode cX7_even 106 = .ok (.iload_n 1, 1) := by decide +kernel
theorem dX7_even_107 : decode cX7_even 107 = .ok (.iload 7, 2) := by decide +kernel
theorem dX7_even_109 : decode cX7_even 109 = .ok (.aload_n 0, 1) := by decide +kernel
theorem dX7_even_110 : decode cX7_even 110 = .ok (.getfield 14, 3) := by decide +kernel
theorem dX7_even_113 : decode cX7_even 113 = .ok (.iload 8, 2) := by decide +kernel
theorem dX7_even_115 : decode cX7_even 115 = .ok (.invokevirtual 212, 3) := by decide +kernel
theorem dX7_even_118 : decode cX7_even 118 = .ok (.invokevirtual 220, 3) := by decide +kernel
theorem dX7_even_121 : decode cX7_even 121 = .ok (.ifCond .eq 20, 3) := by decide +kernel
theorem dX7_even_124 : decode cX7_even 124 = .ok (.iload 6, 2) := by decide +kernel
theorem dX7_even_126 : decode cX7_even 126 = .ok (.istore_n 3, 1) := by decide +kernel
theorem dX7_even_127 : decode cX7_even 127 = .ok (.iload 8, 2) := by decide +kernel
theorem dX7_even_129 : decode cX7_even 129 = .ok (.istore 4, 2) := by decide +kernel
theorem dX7_even_131 : decode cX7_even 131 = .ok (.iload 6, 2) := by decide +kernel
theorem dX7_even_133 : decode cX7_even 133 = .ok (.iload 8, 2) := by decide +kernel
theorem dX7_even_135 : decode cX7_even 135 = .ok (.ior, 1) := by decide +kernel
theorem dX7_even_136 : decode cX7_even 136 = .ok (.invokestatic 215, 3) := by decide +kernel
theorem dX7_even_139 : decode cX7_even 139 = .ok (.istore 5, 2) := by decide +kernel
theorem dX7_even_141 : decode cX7_even 141 = .ok (.iinc 8 1, 3) := by decide +kernel
theorem dX7_even_144 : decode cX7_even 144 = .ok (.goto (-77), 3) := by decide +kernel
theorem dX7_even_147 : decode cX7_even 147 = .ok (.iinc 6 1, 3) := by decide +kernel
theorem dX7_even_150 : decode cX7_even 150 = .ok (.goto (-114), 3) := by decide +kernel
theorem dX7_even_153 : decode cX7_even 153 = .ok (.iload_n 2, 1) := by decide +kernel
theorem dX7_even_154 : decode cX7_even 154 = .ok (.ifCond .ne 7, 3) := by decide +kernel
theorem dX7_even_157 : decode cX7_even 157 = .ok (.iload_n 3, 1) := by decide +kernel
theorem dX7_even_158 : decode cX7_even 158 = .ok (.goto 5, 3) := by decide +kernel
theorem dX7_even_161 : decode cX7_even 161 = .ok (.iload 4, 2) := by decide +kernel
theorem dX7_even_163 : decode cX7_even 163 = .ok (.ireturn, 1) := by decide +kernel
theorem dX7_odds_0 : decode cX7_odds 0 = .ok (.aload_n 0, 1) := by decide +kernel
theorem dX7_odds_1 : decode cX7_odds 1 = .ok (.getfield 21, 3) := by decide +kernel
theorem dX7_odds_4 : decode cX7_odds 4 = .ok (.iload_n 1, 1) := by decide +kernel
theorem dX7_odds_5 : decode cX7_odds 5 = .ok (.invokevirtual 111, 3) := by decide +kernel
theorem dX7_odds_8 : decode cX7_odds 8 = .ok (.ifCond .eq 10, 3) := by decide +kernel
theorem dX7_odds_11 : decode cX7_odds 11 = .ok (.iload_n 2, 1) := by decide +kernel
theorem dX7_odds_12 : decode cX7_odds 12 = .ok (.invokestatic 112, 3) := by decide +kernel
theorem dX7_odds_15 : decode cX7_odds 15 = .ok (.ifCond .ne 7, 3) := by decide +kernel
theorem dX7_odds_18 : decode cX7_odds 18 = .ok (.ldc2_w 223, 3) := by decide +kernel
theorem dX7_odds_21 : decode cX7_odds 21 = .ok (.lreturn, 1) := by decide +kernel
theorem dX7_odds_22 : decode cX7_odds 22 = .ok (.aload_n 0, 1) := by decide +kernel
theorem dX7_odds_23 : decode cX7_odds 23 = .ok (.getfield 42, 3) := by decide +kernel
theorem dX7_odds_26 : decode cX7_odds 26 = .ok (.aload_n 0, 1) := by decide +kernel
theorem dX7_odds_27 : decode cX7_odds 27 = .ok (.getfield 21, 3) := by decide +kernel
theorem dX7_odds_30 : decode cX7_odds 30 = .ok (.iload_n 1, 1) := by decide +kernel
theorem dX7_odds_31 : decode cX7_odds 31 = .ok (.aload_n 0, 1) := by decide +kernel
theorem dX7_odds_32 : decode cX7_odds 32 = .ok (.getfield 14, 3) := by decide +kernel
theorem dX7_odds_35 : decode cX7_odds 35 = .ok (.invokevirtual 125, 3) := by decide +kernel
theorem dX7_odds_38 : decode cX7_odds 38 = .ok (.aload_n 0, 1) := by decide +kernel
theorem dX7_odds_39 : decode cX7_odds 39 = .ok (.getfield 42, 3) := by decide +kernel
theorem dX7_odds_42 : decode cX7_odds 42 = .ok (.invokevirtual 225, 3) := by decide +kernel
theorem dX7_odds_45 : decode cX7_odds 45 = .ok (.istore_n 3, 1) := by decide +kernel
theorem dX7_odds_46 : decode cX7_odds 46 = .ok (.aload_n 0, 1) := by decide +kernel
theorem dX7_odds_47 : decode cX7_odds 47 = .ok (.getfield 14, 3) := by decide +kernel
theorem dX7_odds_50 : decode cX7_odds 50 = .ok (.invokevirtual 92, 3) := by decide +kernel
theorem dX7_odds_53 : decode cX7_odds 53 = .ok (.aload_n 0, 1) := by decide +kernel
theorem dX7_odds_54 : decode cX7_odds 54 = .ok (.getfield 14, 3) := by decide +kernel
theorem dX7_odds_57 : decode cX7_odds 57 = .ok (.invokevirtual 92, 3) := by decide +kernel
theorem dX7_odds_60 : decode cX7_odds 60 = .ok (.iconst 1, 1) := by decide +kernel
theorem dX7_odds_61 : decode cX7_odds 61 = .ok (.isub, 1) := by decide +kernel
theorem dX7_odds_62 : decode cX7_odds 62 = .ok (.imul, 1) := by decide +kernel
theorem dX7_odds_63 : decode cX7_odds 63 = .ok (.iconst 2, 1) := by decide +kernel
theorem dX7_odds_64 : decode cX7_odds 64 = .ok (.idiv, 1) := by decide +kernel
theorem dX7_odds_65 : decode cX7_odds 65 = .ok (.istore 4, 2) := by decide +kernel
theorem dX7_odds_67 : decode cX7_odds 67 = .ok (.iload_n 3, 1) := by decide +kernel
theorem dX7_odds_68 : decode cX7_odds 68 = .ok (.iload 4, 2) := by decide +kernel
theorem dX7_odds_70 : decode cX7_odds 70 = .ok (.invokestatic 228, 3) := by decide +kernel
theorem dX7_odds_73 : decode cX7_odds 73 = .ok (.istore 5, 2) := by decide +kernel
theorem dX7_odds_75 : decode cX7_odds 75 = .ok (.iload 5, 2) := by decide +kernel
theorem dX7_odds_77 : decode cX7_odds 77 = .ok (.iconst 1, 1) := by decide +kernel
theorem dX7_odds_78 : decode cX7_odds 78 = .ok (.if_icmp .ge 7, 3) := by decide +kernel
theorem dX7_odds_81 : decode cX7_odds 81 = .ok (.ldc2_w 223, 3) := by decide +kernel
theorem dX7_odds_84 : decode cX7_odds 84 = .ok (.lreturn, 1) := by decide +kernel
theorem dX7_odds_85 : decode cX7_odds 85 = .ok (.iload_n 2, 1) := by decide +kernel
theorem dX7_odds_86 : decode cX7_odds 86 = .ok (.ifCond .ne 11, 3) := by decide +kernel
theorem dX7_odds_89 : decode cX7_odds 89 = .ok (.iload_n 3, 1) := by decide +kernel
theorem dX7_odds_90 : decode cX7_odds 90 = .ok (.iload 5, 2) := by decide +kernel
theorem dX7_odds_92 : decode cX7_odds 92 = .ok (.idiv, 1) := by decide +kernel
theorem dX7_odds_93 : decode cX7_odds 93 = .ok (.i2l, 1) := by decide +kernel
theorem dX7_odds_94 : decode cX7_odds 94 = .ok (.goto 9, 3) := by decide +kernel
theorem dX7_odds_97 : decode cX7_odds 97 = .ok (.iload 4, 2) := by decide +kernel
theorem dX7_odds_99 : decode cX7_odds 99 = .ok (.iload 5, 2) := by decide +kernel
theorem dX7_odds_101 : decode cX7_odds 101 = .ok (.idiv, 1) := by decide +kernel
theorem dX7_odds_102 : decode cX7_odds 102 = .ok (.i2l, 1) := by decide +kernel
theorem dX7_odds_103 : decode cX7_odds 103 = .ok (.lreturn, 1) := by decide +kernel
theorem dX7_commonDivisor_0 : decode cX7_commonDivisor 0 = .ok (.iload_n 1, 1) := by decide +kernel
theorem dX7_commonDivisor_1 : decode cX7_commonDivisor 1 = .ok (.istore_n 2, 1) := by decide +kernel
theorem dX7_commonDivisor_2 : decode cX7_commonDivisor 2 = .ok (.iload_n 2, 1) := by decide +kernel
theorem dX7_commonDivisor_3 : decode cX7_commonDivisor 3 = .ok (.iconst 1, 1) := by decide +kernel
theorem dX7_commonDivisor_4 : decode cX7_commonDivisor 4 = .ok (.if_icmp .le 23, 3) := by decide +kernel
theorem dX7_commonDivisor_7 : decode cX7_commonDivisor 7 = .ok (.iload_n 0, 1) := by decide +kernel
theorem dX7_commonDivisor_8 : decode cX7_commonDivisor 8 = .ok (.iload_n 2, 1) := by decide +kernel
theorem dX7_commonDivisor_9 : decode cX7_commonDivisor 9 = .ok (.irem, 1) := by decide +kernel
theorem dX7_commonDivisor_10 : decode cX7_commonDivisor 10 = .ok (.ifCond .ne 11, 3) := by decide +kernel
theorem dX7_commonDivisor_13 : decode cX7_commonDivisor 13 = .ok (.iload_n 1, 1) := by decide +kernel
theorem dX7_commonDivisor_14 : decode cX7_commonDivisor 14 = .ok (.iload_n 2, 1) := by decide +kernel
theorem dX7_commonDivisor_15 : decode cX7_commonDivisor 15 = .ok (.irem, 1) := by decide +kernel
theorem dX7_commonDivisor_16 : decode cX7_commonDivisor 16 = .ok (.ifCond .ne 5, 3) := by decide +kernel
theorem dX7_commonDivisor_19 : decode cX7_commonDivisor 19 = .ok (.iload_n 2, 1) := by decide +kernel
theorem dX7_commonDivisor_20 : decode cX7_commonDivisor 20 = .ok (.ireturn, 1) := by decide +kernel
theorem dX7_commonDivisor_21 : decode cX7_commonDivisor 21 = .ok (.iinc 2 (-1), 3) := by decide +kernel
theorem dX7_commonDivisor_24 : decode cX7_commonDivisor 24 = .ok (.goto (-22), 3) := by decide +kernel
theorem dX7_commonDivisor_27 : decode cX7_commonDivisor 27 = .ok (.iconst 1, 1) := by decide +kernel
theorem dX7_commonDivisor_28 : decode cX7_commonDivisor 28 = .ok (.ireturn, 1) := by decide +kernel
theorem dX7_sheet_0 : decode cX7_sheet 0 = .ok (.aload_n 0, 1) := by decide +kernel
theorem dX7_sheet_1 : decode cX7_sheet 1 = .ok (.iconst 0, 1) := by decide +kernel
theorem dX7_sheet_2 : decode cX7_sheet 2 = .ok (.putfield 60, 3) := by decide +kernel
theorem dX7_sheet_5 : decode cX7_sheet 5 = .ok (.aload_n 0, 1) := by decide +kernel
theorem dX7_sheet_6 : decode cX7_sheet 6 = .ok (.getfield 35, 3) := by decide +kernel
theorem dX7_sheet_9 : decode cX7_sheet 9 = .ok (.iload_n 1, 1) := by decide +kernel
theorem dX7_sheet_10 : decode cX7_sheet 10 = .ok (.invokevirtual 63, 3) := by decide +kernel
theorem dX7_sheet_13 : decode cX7_sheet 13 = .ok (.ifCond .ne 5, 3) := by decide +kernel
theorem dX7_sheet_16 : decode cX7_sheet 16 = .ok (.iconst (-1), 1) := by decide +kernel
theorem dX7_sheet_17 : decode cX7_sheet 17 = .ok (.ireturn, 1) := by decide +kernel
theorem dX7_sheet_18 : decode cX7_sheet 18 = .ok (.iload_n 2, 1) := by decide +kernel
theorem dX7_sheet_19 : decode cX7_sheet 19 = .ok (.invokestatic 67, 3) := by decide +kernel
theorem dX7_sheet_22 : decode cX7_sheet 22 = .ok (.ifCond .eq 9, 3) := by decide +kernel
theorem dX7_sheet_25 : decode cX7_sheet 25 = .ok (.iload_n 3, 1) := by decide +kernel
theorem dX7_sheet_26 : decode cX7_sheet 26 = .ok (.bipush 40, 2) := by decide +kernel
theorem dX7_sheet_28 : decode cX7_sheet 28 = .ok (.if_icmp .le 6, 3) := by decide +kernel
theorem dX7_sheet_31 : decode cX7_sheet 31 = .ok (.bipush (-2), 2) := by decide +kernel
theorem dX7_sheet_33 : decode cX7_sheet 33 = .ok (.ireturn, 1) := by decide +kernel
theorem dX7_sheet_34 : decode cX7_sheet 34 = .ok (.iload_n 3, 1) := by decide +kernel
theorem dX7_sheet_35 : decode cX7_sheet 35 = .ok (.ifCond .ge 9, 3) := by decide +kernel
theorem dX7_sheet_38 : decode cX7_sheet 38 = .ok (.aload_n 0, 1) := by decide +kernel
theorem dX7_sheet_39 : decode cX7_sheet 39 = .ok (.iconst 4, 1) := by decide +kernel
theorem dX7_sheet_40 : decode cX7_sheet 40 = .ok (.invokevirtual 74, 3) := by decide +kernel
theorem dX7_sheet_43 : decode cX7_sheet 43 = .ok (.ireturn, 1) := by decide +kernel
theorem dX7_sheet_44 : decode cX7_sheet 44 = .ok (.aload_n 0, 1) := by decide +kernel
theorem dX7_sheet_45 : decode cX7_sheet 45 = .ok (.getfield 35, 3) := by decide +kernel
theorem dX7_sheet_48 : decode cX7_sheet 48 = .ok (.iload_n 1, 1) := by decide +kernel
theorem dX7_sheet_49 : decode cX7_sheet 49 = .ok (.iload_n 2, 1) := by decide +kernel
theorem dX7_sheet_50 : decode cX7_sheet 50 = .ok (.iload_n 3, 1) := by decide +kernel
theorem dX7_sheet_51 : decode cX7_sheet 51 = .ok (.invokevirtual 231, 3) := by decide +kernel
theorem dX7_sheet_54 : decode cX7_sheet 54 = .ok (.iconst 1, 1) := by decide +kernel
theorem dX7_sheet_55 : decode cX7_sheet 55 = .ok (.ireturn, 1) := by decide +kernel
theorem dX7_lose_0 : decode cX7_lose 0 = .ok (.aload_n 0, 1) := by decide +kernel
theorem dX7_lose_1 : decode cX7_lose 1 = .ok (.getfield 35, 3) := by decide +kernel
theorem dX7_lose_4 : decode cX7_lose 4 = .ok (.iload_n 1, 1) := by decide +kernel
theorem dX7_lose_5 : decode cX7_lose 5 = .ok (.invokevirtual 63, 3) := by decide +kernel
theorem dX7_lose_8 : decode cX7_lose 8 = .ok (.ifCond .ne 5, 3) := by decide +kernel
theorem dX7_lose_11 : decode cX7_lose 11 = .ok (.iconst (-1), 1) := by decide +kernel
theorem dX7_lose_12 : decode cX7_lose 12 = .ok (.ireturn, 1) := by decide +kernel
theorem dX7_lose_13 : decode cX7_lose 13 = .ok (.aload_n 0, 1) := by decide +kernel
theorem dX7_lose_14 : decode cX7_lose 14 = .ok (.getfield 35, 3) := by decide +kernel
theorem dX7_lose_17 : decode cX7_lose 17 = .ok (.iload_n 1, 1) := by decide +kernel
theorem dX7_lose_18 : decode cX7_lose 18 = .ok (.invokevirtual 235, 3) := by decide +kernel
theorem dX7_lose_21 : decode cX7_lose 21 = .ok (.ifCond .eq 7, 3) := by decide +kernel
theorem dX7_lose_24 : decode cX7_lose 24 = .ok (.iconst 1, 1) := by decide +kernel
theorem dX7_lose_25 : decode cX7_lose 25 = .ok (.goto 4, 3) := by decide +kernel
theorem dX7_lose_28 : decode cX7_lose 28 = .ok (.iconst 0, 1) := by decide +kernel
theorem dX7_lose_29 : decode cX7_lose 29 = .ok (.ireturn, 1) := by decide +kernel
theorem dX7_put_0 : decode cX7_put 0 = .ok (.aload_n 0, 1) := by decide +kernel
theorem dX7_put_1 : decode cX7_put 1 = .ok (.iconst 0, 1) := by decide +kernel
theorem dX7_put_2 : decode cX7_put 2 = .ok (.putfield 60, 3) := by decide +kernel
theorem dX7_put_5 : decode cX7_put 5 = .ok (.aload_n 0, 1) := by decide +kernel
theorem dX7_put_6 : decode cX7_put 6 = .ok (.getfield 35, 3) := by decide +kernel
theorem dX7_put_9 : decode cX7_put 9 = .ok (.iload_n 1, 1) := by decide +kernel
theorem dX7_put_10 : decode cX7_put 10 = .ok (.invokevirtual 63, 3) := by decide +kernel
theorem dX7_put_13 : decode cX7_put 13 = .ok (.ifCond .ne 5, 3) := by decide +kernel
theorem dX7_put_16 : decode cX7_put 16 = .ok (.iconst (-1), 1) := by decide +kernel
theorem dX7_put_17 : decode cX7_put 17 = .ok (.ireturn, 1) := by decide +kernel
theorem dX7_put_18 : decode cX7_put 18 = .ok (.aload_n 0, 1) := by decide +kernel
theorem dX7_put_19 : decode cX7_put 19 = .ok (.getfield 35, 3) := by decide +kernel
theorem dX7_put_22 : decode cX7_put 22 = .ok (.iload_n 1, 1) := by decide +kernel
theorem dX7_put_23 : decode cX7_put 23 = .ok (.invokevirtual 238, 3) := by decide +kernel
theorem dX7_put_26 : decode cX7_put 26 = .ok (.ifCond .ne 9, 3) := by decide +kernel
theorem dX7_put_29 : decode cX7_put 29 = .ok (.aload_n 0, 1) := by decide +kernel
theorem dX7_put_30 : decode cX7_put 30 = .ok (.iconst 1, 1) := by decide +kernel
theorem dX7_put_31 : decode cX7_put 31 = .ok (.invokevirtual 74, 3) := by decide +kernel
theorem dX7_put_34 : decode cX7_put 34 = .ok (.ireturn, 1) := by decide +kernel
theorem dX7_put_35 : decode cX7_put 35 = .ok (.aload_n 0, 1) := by decide +kernel
theorem dX7_put_36 : decode cX7_put 36 = .ok (.getfield 35, 3) := by decide +kernel
theorem dX7_put_39 : decode cX7_put 39 = .ok (.iload_n 1, 1) := by decide +kernel
theorem dX7_put_40 : decode cX7_put 40 = .ok (.iload_n 2, 1) := by decide +kernel
theorem dX7_put_41 : decode cX7_put 41 = .ok (.iconst 1, 1) := by decide +kernel
theorem dX7_put_42 : decode cX7_put 42 = .ok (.invokevirtual 241, 3) := by decide +kernel
theorem dX7_put_45 : decode cX7_put 45 = .ok (.ifCond .ne 9, 3) := by decide +kernel
theorem dX7_put_48 : decode cX7_put 48 = .ok (.aload_n 0, 1) := by decide +kernel
theorem dX7_put_49 : decode cX7_put 49 = .ok (.iconst 3, 1) := by decide +kernel
theorem dX7_put_50 : decode cX7_put 50 = .ok (.invokevirtual 74, 3) := by decide +kernel
theorem dX7_put_53 : decode cX7_put 53 = .ok (.ireturn, 1) := by decide +kernel
theorem dX7_put_54 : decode cX7_put 54 = .ok (.aload_n 0, 1) := by decide +kernel
theorem dX7_put_55 : decode cX7_put 55 = .ok (.getfield 35, 3) := by decide +kernel
theorem dX7_put_58 : decode cX7_put 58 = .ok (.iload_n 1, 1) := by decide +kernel
theorem dX7_put_59 : decode cX7_put 59 = .ok (.iload_n 2, 1) := by decide +kernel
theorem dX7_put_60 : decode cX7_put 60 = .ok (.iload_n 3, 1) := by decide +kernel
theorem dX7_put_61 : decode cX7_put 61 = .ok (.invokevirtual 244, 3) := by decide +kernel
theorem dX7_put_64 : decode cX7_put 64 = .ok (.iconst 1, 1) := by decide +kernel
theorem dX7_put_65 : decode cX7_put 65 = .ok (.ireturn, 1) := by decide +kernel
theorem dX7_cell_0 : decode cX7_cell 0 = .ok (.aload_n 0, 1) := by decide +kernel
theorem dX7_cell_1 : decode cX7_cell 1 = .ok (.iconst 0, 1) := by decide +kernel
theorem dX7_cell_2 : decode cX7_cell 2 = .ok (.putfield 60, 3) := by decide +kernel
theorem dX7_cell_5 : decode cX7_cell 5 = .ok (.aload_n 0, 1) := by decide +kernel
theorem dX7_cell_6 : decode cX7_cell 6 = .ok (.getfield 35, 3) := by decide +kernel
theorem dX7_cell_9 : decode cX7_cell 9 = .ok (.iload_n 1, 1) := by decide +kernel
theorem dX7_cell_10 : decode cX7_cell 10 = .ok (.invokevirtual 63, 3) := by decide +kernel
theorem dX7_cell_13 : decode cX7_cell 13 = .ok (.ifCond .eq 10, 3) := by decide +kernel
theorem dX7_cell_16 : decode cX7_cell 16 = .ok (.iload_n 3, 1) := by decide +kernel
theorem dX7_cell_17 : decode cX7_cell 17 = .ok (.invokestatic 67, 3) := by decide +kernel
theorem dX7_cell_20 : decode cX7_cell 20 = .ok (.ifCond .ne 7, 3) := by decide +kernel
theorem dX7_cell_23 : decode cX7_cell 23 = .ok (.ldc2_w 223, 3) := by decide +kernel
theorem dX7_cell_26 : decode cX7_cell 26 = .ok (.lreturn, 1) := by decide +kernel
theorem dX7_cell_27 : decode cX7_cell 27 = .ok (.aload_n 0, 1) := by decide +kernel
theorem dX7_cell_28 : decode cX7_cell 28 = .ok (.aload_n 0, 1) := by decide +kernel
theorem dX7_cell_29 : decode cX7_cell 29 = .ok (.getfield 35, 3) := by decide +kernel
theorem dX7_cell_32 : decode cX7_cell 32 = .ok (.iload_n 1, 1) := by decide +kernel
theorem dX7_cell_33 : decode cX7_cell 33 = .ok (.iload_n 3, 1) := by decide +kernel
theorem dX7_cell_34 : decode cX7_cell 34 = .ok (.iload_n 2, 1) := by decide +kernel
theorem dX7_cell_35 : decode cX7_cell 35 = .ok (.iconst 1, 1) := by decide +kernel
theorem dX7_cell_36 : decode cX7_cell 36 = .ok (.invokevirtual 70, 3) := by decide +kernel
theorem dX7_cell_39 : decode cX7_cell 39 = .ok (.putfield 60, 3) := by decide +kernel
theorem dX7_cell_42 : decode cX7_cell 42 = .ok (.aload_n 0, 1) := by decide +kernel
theorem dX7_cell_43 : decode cX7_cell 43 = .ok (.getfield 60, 3) := by decide +kernel
theorem dX7_cell_46 : decode cX7_cell 46 = .ok (.ifCond .ne 16, 3) := by decide +kernel
theorem dX7_cell_49 : decode cX7_cell 49 = .ok (.aload_n 0, 1) := by decide +kernel
theorem dX7_cell_50 : decode cX7_cell 50 = .ok (.getfield 35, 3) := by decide +kernel
theorem dX7_cell_53 : decode cX7_cell 53 = .ok (.iload_n 1, 1) := by decide +kernel
theorem dX7_cell_54 : decode cX7_cell 54 = .ok (.iload_n 2, 1) := by decide +kernel
theorem dX7_cell_55 : decode cX7_cell 55 = .ok (.invokevirtual 206, 3) := by decide +kernel
theorem dX7_cell_58 : decode cX7_cell 58 = .ok (.i2l, 1) := by decide +kernel
theorem dX7_cell_59 : decode cX7_cell 59 = .ok (.goto 6, 3) := by decide +kernel
theorem dX7_cell_62 : decode cX7_cell 62 = .ok (.ldc2_w 223, 3) := by decide +kernel
theorem dX7_cell_65 : decode cX7_cell 65 = .ok (.lreturn, 1) := by decide +kernel
theorem dX7_copy_0 : decode cX7_copy 0 = .ok (.aload_n 0, 1) := by decide +kernel
theorem dX7_copy_1 : decode cX7_copy 1 = .ok (.iconst 0, 1) := by decide +kernel
theorem dX7_copy_2 : decode cX7_copy 2 = .ok (.putfield 60, 3) := by decide +kernel
theorem dX7_copy_5 : decode cX7_copy 5 = .ok (.aload_n 0, 1) := by decide +kernel
theorem dX7_copy_6 : decode cX7_copy 6 = .ok (.getfield 35, 3) := by decide +kernel
theorem dX7_copy_9 : decode cX7_copy 9 = .ok (.iload_n 1, 1) := by decide +kernel
theorem dX7_copy_10 : decode cX7_copy 10 = .ok (.invokevirtual 63, 3) := by decide +kernel
theorem dX7_copy_13 : decode cX7_copy 13 = .ok (.ifCond .eq 14, 3) := by decide +kernel
theorem dX7_copy_16 : decode cX7_copy 16 = .ok (.aload_n 0, 1) := by decide +kernel
theorem dX7_copy_17 : decode cX7_copy 17 = .ok (.getfield 35, 3) := by decide +kernel
theorem dX7_copy_20 : decode cX7_copy 20 = .ok (.iload_n 3, 1) := by decide +kernel
theorem dX7_copy_21 : decode cX7_copy 21 = .ok (.invokevirtual 63, 3) := by decide +kernel
theorem dX7_copy_24 : decode cX7_copy 24 = .ok (.ifCond .ne 5, 3) := by decide +kernel
theorem dX7_copy_27 : decode cX7_copy 27 = .ok (.iconst (-1), 1) := by decide +kernel
theorem dX7_copy_28 : decode cX7_copy 28 = .ok (.ireturn, 1) := by decide +kernel
theorem dX7_copy_29 : decode cX7_copy 29 = .ok (.aload_n 0, 1) := by decide +kernel
theorem dX7_copy_30 : decode cX7_copy 30 = .ok (.getfield 35, 3) := by decide +kernel
theorem dX7_copy_33 : decode cX7_copy 33 = .ok (.iload_n 1, 1) := by decide +kernel
theorem dX7_copy_34 : decode cX7_copy 34 = .ok (.invokevirtual 238, 3) := by decide +kernel
theorem dX7_copy_37 : decode cX7_copy 37 = .ok (.ifCond .eq 14, 3) := by decide +kernel
theorem dX7_copy_40 : decode cX7_copy 40 = .ok (.aload_n 0, 1) := by decide +kernel
theorem dX7_copy_41 : decode cX7_copy 41 = .ok (.getfield 35, 3) := by decide +kernel
theorem dX7_copy_44 : decode cX7_copy 44 = .ok (.iload_n 3, 1) := by decide +kernel
theorem dX7_copy_45 : decode cX7_copy 45 = .ok (.invokevirtual 238, 3) := by decide +kernel
theorem dX7_copy_48 : decode cX7_copy 48 = .ok (.ifCond .ne 9, 3) := by decide +kernel
theorem dX7_copy_51 : decode cX7_copy 51 = .ok (.aload_n 0, 1) := by decide +kernel
theorem dX7_copy_52 : decode cX7_copy 52 = .ok (.iconst 1, 1) := by decide +kernel
theorem dX7_copy_53 : decode cX7_copy 53 = .ok (.invokevirtual 74, 3) := by decide +kernel
theorem dX7_copy_56 : decode cX7_copy 56 = .ok (.ireturn, 1) := by decide +kernel
theorem dX7_copy_57 : decode cX7_copy 57 = .ok (.aload_n 0, 1) := by decide +kernel
theorem dX7_copy_58 : decode cX7_copy 58 = .ok (.getfield 35, 3) := by decide +kernel
theorem dX7_copy_61 : decode cX7_copy 61 = .ok (.iload_n 1, 1) := by decide +kernel
theorem dX7_copy_62 : decode cX7_copy 62 = .ok (.invokevirtual 247, 3) := by decide +kernel
theorem dX7_copy_65 : decode cX7_copy 65 = .ok (.aload_n 0, 1) := by decide +kernel
theorem dX7_copy_66 : decode cX7_copy 66 = .ok (.getfield 35, 3) := by decide +kernel
theorem dX7_copy_69 : decode cX7_copy 69 = .ok (.iload_n 3, 1) := by decide +kernel
theorem dX7_copy_70 : decode cX7_copy 70 = .ok (.invokevirtual 247, 3) := by decide +kernel
theorem dX7_copy_73 : decode cX7_copy 73 = .ok (.if_icmp .eq 9, 3) := by decide +kernel
theorem dX7_copy_76 : decode cX7_copy 76 = .ok (.aload_n 0, 1) := by decide +kernel
theorem dX7_copy_77 : decode cX7_copy 77 = .ok (.iconst 2, 1) := by decide +kernel
theorem dX7_copy_78 : decode cX7_copy 78 = .ok (.invokevirtual 74, 3) := by decide +kernel
theorem dX7_copy_81 : decode cX7_copy 81 = .ok (.ireturn, 1) := by decide +kernel
theorem dX7_copy_82 : decode cX7_copy 82 = .ok (.aload_n 0, 1) := by decide +kernel
theorem dX7_copy_83 : decode cX7_copy 83 = .ok (.getfield 35, 3) := by decide +kernel
theorem dX7_copy_86 : decode cX7_copy 86 = .ok (.iload_n 1, 1) := by decide +kernel
theorem dX7_copy_87 : decode cX7_copy 87 = .ok (.iload_n 2, 1) := by decide +kernel
theorem dX7_copy_88 : decode cX7_copy 88 = .ok (.iload 5, 2) := by decide +kernel
theorem dX7_copy_90 : decode cX7_copy 90 = .ok (.invokevirtual 241, 3) := by decide +kernel
theorem dX7_copy_93 : decode cX7_copy 93 = .ok (.ifCond .eq 18, 3) := by decide +kernel
theorem dX7_copy_96 : decode cX7_copy 96 = .ok (.aload_n 0, 1) := by decide +kernel
theorem dX7_copy_97 : decode cX7_copy 97 = .ok (.getfield 35, 3) := by decide +kernel
theorem dX7_copy_100 : decode cX7_copy 100 = .ok (.iload_n 3, 1) := by decide +kernel
theorem dX7_copy_101 : decode cX7_copy 101 = .ok (.iload 4, 2) := by decide +kernel
theorem dX7_copy_103 : decode cX7_copy 103 = .ok (.iload 5, 2) := by decide +kernel
theorem dX7_copy_105 : decode cX7_copy 105 = .ok (.invokevirtual 241, 3) := by decide +kernel
theorem dX7_copy_108 : decode cX7_copy 108 = .ok (.ifCond .ne 9, 3) := by decide +kernel
theorem dX7_copy_111 : decode cX7_copy 111 = .ok (.aload_n 0, 1) := by decide +kernel
theorem dX7_copy_112 : decode cX7_copy 112 = .ok (.iconst 3, 1) := by decide +kernel
theorem dX7_copy_113 : decode cX7_copy 113 = .ok (.invokevirtual 74, 3) := by decide +kernel
theorem dX7_copy_116 : decode cX7_copy 116 = .ok (.ireturn, 1) := by decide +kernel
theorem dX7_copy_117 : decode cX7_copy 117 = .ok (.aload_n 0, 1) := by decide +kernel
theorem dX7_copy_118 : decode cX7_copy 118 = .ok (.getfield 35, 3) := by decide +kernel
theorem dX7_copy_121 : decode cX7_copy 121 = .ok (.iload_n 1, 1) := by decide +kernel
theorem dX7_copy_122 : decode cX7_copy 122 = .ok (.iload_n 2, 1) := by decide +kernel
theorem dX7_copy_123 : decode cX7_copy 123 = .ok (.iload_n 3, 1) := by decide +kernel
theorem dX7_copy_124 : decode cX7_copy 124 = .ok (.iload 4, 2) := by decide +kernel
theorem dX7_copy_126 : decode cX7_copy 126 = .ok (.iload 5, 2) := by decide +kernel
theorem dX7_copy_128 : decode cX7_copy 128 = .ok (.invokevirtual 250, 3) := by decide +kernel
theorem dX7_copy_131 : decode cX7_copy 131 = .ok (.iload 5, 2) := by decide +kernel
theorem dX7_copy_133 : decode cX7_copy 133 = .ok (.ireturn, 1) := by decide +kernel
theorem dX7_tell_0 : decode cX7_tell 0 = .ok (.aload_n 0, 1) := by decide +kernel
theorem dX7_tell_1 : decode cX7_tell 1 = .ok (.getfield 21, 3) := by decide +kernel
theorem dX7_tell_4 : decode cX7_tell 4 = .ok (.iload_n 1, 1) := by decide +kernel
theorem dX7_tell_5 : decode cX7_tell 5 = .ok (.invokevirtual 111, 3) := by decide +kernel
theorem dX7_tell_8 : decode cX7_tell 8 = .ok (.ifCond .ne 5, 3) := by decide +kernel
theorem dX7_tell_11 : decode cX7_tell 11 = .ok (.iconst (-1), 1) := by decide +kernel
theorem dX7_tell_12 : decode cX7_tell 12 = .ok (.ireturn, 1) := by decide +kernel
theorem dX7_tell_13 : decode cX7_tell 13 = .ok (.aload_n 0, 1) := by decide +kernel
theorem dX7_tell_14 : decode cX7_tell 14 = .ok (.getfield 21, 3) := by decide +kernel
theorem dX7_tell_17 : decode cX7_tell 17 = .ok (.iload_n 1, 1) := by decide +kernel
theorem dX7_tell_18 : decode cX7_tell 18 = .ok (.invokevirtual 118, 3) := by decide +kernel
theorem dX7_tell_21 : decode cX7_tell 21 = .ok (.istore_n 2, 1) := by decide +kernel
theorem dX7_tell_22 : decode cX7_tell 22 = .ok (.aload_n 0, 1) := by decide +kernel
theorem dX7_tell_23 : decode cX7_tell 23 = .ok (.getfield 21, 3) := by decide +kernel
theorem dX7_tell_26 : decode cX7_tell 26 = .ok (.iload_n 1, 1) := by decide +kernel
theorem dX7_tell_27 : decode cX7_tell 27 = .ok (.invokevirtual 115, 3) := by decide +kernel
theorem dX7_tell_30 : decode cX7_tell 30 = .ok (.lookupswitch 38 #[(1, 32), (2, 26)], 26) := by decide +kernel
theorem dX7_tell_56 : decode cX7_tell 56 = .ok (.aload_n 0, 1) := by decide +kernel
theorem dX7_tell_57 : decode cX7_tell 57 = .ok (.iload_n 2, 1) := by decide +kernel
theorem dX7_tell_58 : decode cX7_tell 58 = .ok (.invokevirtual 254, 3) := by decide +kernel
theorem dX7_tell_61 : decode cX7_tell 61 = .ok (.ireturn, 1) := by decide +kernel
theorem dX7_tell_62 : decode cX7_tell 62 = .ok (.aload_n 0, 1) := by decide +kernel
theorem dX7_tell_63 : decode cX7_tell 63 = .ok (.iload_n 2, 1) := by decide +kernel
theorem dX7_tell_64 : decode cX7_tell 64 = .ok (.invokevirtual 257, 3) := by decide +kernel
theorem dX7_tell_67 : decode cX7_tell 67 = .ok (.ireturn, 1) := by decide +kernel
theorem dX7_tell_68 : decode cX7_tell 68 = .ok (.aload_n 0, 1) := by decide +kernel
theorem dX7_tell_69 : decode cX7_tell 69 = .ok (.iload_n 2, 1) := by decide +kernel
theorem dX7_tell_70 : decode cX7_tell 70 = .ok (.invokevirtual 260, 3) := by decide +kernel
theorem dX7_tell_73 : decode cX7_tell 73 = .ok (.ireturn, 1) := by decide +kernel
theorem dX7_shake_0 : decode cX7_shake 0 = .ok (.aload_n 0, 1) := by decide +kernel
theorem dX7_shake_1 : decode cX7_shake 1 = .ok (.getfield 21, 3) := by decide +kernel
theorem dX7_shake_4 : decode cX7_shake 4 = .ok (.iload_n 1, 1) := by decide +kernel
theorem dX7_shake_5 : decode cX7_shake 5 = .ok (.invokevirtual 111, 3) := by decide +kernel
theorem dX7_shake_8 : decode cX7_shake 8 = .ok (.ifCond .ne 5, 3) := by decide +kernel
theorem dX7_shake_11 : decode cX7_shake 11 = .ok (.iconst (-1), 1) := by decide +kernel
theorem dX7_shake_12 : decode cX7_shake 12 = .ok (.ireturn, 1) := by decide +kernel
theorem dX7_shake_13 : decode cX7_shake 13 = .ok (.aload_n 0, 1) := by decide +kernel
theorem dX7_shake_14 : decode cX7_shake 14 = .ok (.getfield 21, 3) := by decide +kernel
theorem dX7_shake_17 : decode cX7_shake 17 = .ok (.iload_n 1, 1) := by decide +kernel
theorem dX7_shake_18 : decode cX7_shake 18 = .ok (.invokevirtual 115, 3) := by decide +kernel
theorem dX7_shake_21 : decode cX7_shake 21 = .ok (.iconst 2, 1) := by decide +kernel
theorem dX7_shake_22 : decode cX7_shake 22 = .ok (.if_icmp .ne 10, 3) := by decide +kernel
theorem dX7_shake_25 : decode cX7_shake 25 = .ok (.aload_n 0, 1) := by decide +kernel
theorem dX7_shake_26 : decode cX7_shake 26 = .ok (.invokevirtual 263, 3) := by decide +kernel
theorem dX7_shake_29 : decode cX7_shake 29 = .ok (.goto 8, 3) := by decide +kernel
theorem dX7_shake_32 : decode cX7_shake 32 = .ok (.aload_n 0, 1) := by decide +kernel
theorem dX7_shake_33 : decode cX7_shake 33 = .ok (.iload_n 1, 1) := by decide +kernel
theorem dX7_shake_34 : decode cX7_shake 34 = .ok (.invokevirtual 266, 3) := by decide +kernel
theorem dX7_shake_37 : decode cX7_shake 37 = .ok (.ireturn, 1) := by decide +kernel
theorem dX7_as_0 : decode cX7_as 0 = .ok (.aload_n 0, 1) := by decide +kernel
theorem dX7_as_1 : decode cX7_as 1 = .ok (.iconst 0, 1) := by decide +kernel
theorem dX7_as_2 : decode cX7_as 2 = .ok (.putfield 60, 3) := by decide +kernel
theorem dX7_as_5 : decode cX7_as 5 = .ok (.aload_n 0, 1) := by decide +kernel
theorem dX7_as_6 : decode cX7_as 6 = .ok (.getfield 21, 3) := by decide +kernel
theorem dX7_as_9 : decode cX7_as 9 = .ok (.iload_n 1, 1) := by decide +kernel
theorem dX7_as_10 : decode cX7_as 10 = .ok (.invokevirtual 111, 3) := by decide +kernel
theorem dX7_as_13 : decode cX7_as 13 = .ok (.ifCond .ne 5, 3) := by decide +kernel
theorem dX7_as_16 : decode cX7_as 16 = .ok (.iconst (-1), 1) := by decide +kernel
theorem dX7_as_17 : decode cX7_as 17 = .ok (.ireturn, 1) := by decide +kernel
theorem dX7_as_18 : decode cX7_as 18 = .ok (.iload_n 2, 1) := by decide +kernel
theorem dX7_as_19 : decode cX7_as 19 = .ok (.invokestatic 104, 3) := by decide +kernel
theorem dX7_as_22 : decode cX7_as 22 = .ok (.ifCond .ne 6, 3) := by decide +kernel
theorem dX7_as_25 : decode cX7_as 25 = .ok (.bipush (-2), 2) := by decide +kernel
theorem dX7_as_27 : decode cX7_as 27 = .ok (.ireturn, 1) := by decide +kernel
theorem dX7_as_28 : decode cX7_as 28 = .ok (.iload_n 2, 1) := by decide +kernel
theorem dX7_as_29 : decode cX7_as 29 = .ok (.aload_n 0, 1) := by decide +kernel
theorem dX7_as_30 : decode cX7_as 30 = .ok (.getfield 21, 3) := by decide +kernel
theorem dX7_as_33 : decode cX7_as 33 = .ok (.iload_n 1, 1) := by decide +kernel
theorem dX7_as_34 : decode cX7_as 34 = .ok (.invokevirtual 115, 3) := by decide +kernel
theorem dX7_as_37 : decode cX7_as 37 = .ok (.if_icmp .gt 7, 3) := by decide +kernel
theorem dX7_as_40 : decode cX7_as 40 = .ok (.iconst 1, 1) := by decide +kernel
theorem dX7_as_41 : decode cX7_as 41 = .ok (.goto 8, 3) := by decide +kernel
theorem dX7_as_44 : decode cX7_as 44 = .ok (.aload_n 0, 1) := by decide +kernel
theorem dX7_as_45 : decode cX7_as 45 = .ok (.iconst 2, 1) := by decide +kernel
theorem dX7_as_46 : decode cX7_as 46 = .ok (.invokevirtual 74, 3) := by decide +kernel
theorem dX7_as_49 : decode cX7_as 49 = .ok (.ireturn, 1) := by decide +kernel
theorem dX7_trace_0 : decode cX7_trace 0 = .ok (.aload_n 0, 1) := by decide +kernel
theorem dX7_trace_1 : decode cX7_trace 1 = .ok (.getfield 56, 3) := by decide +kernel
theorem dX7_trace_4 : decode cX7_trace 4 = .ok (.ireturn, 1) := by decide +kernel
theorem dX7_fault_0 : decode cX7_fault 0 = .ok (.aload_n 0, 1) := by decide +kernel
theorem dX7_fault_1 : decode cX7_fault 1 = .ok (.getfield 60, 3) := by decide +kernel
theorem dX7_fault_4 : decode cX7_fault 4 = .ok (.ireturn, 1) := by decide +kernel
theorem dX7_many_0 : decode cX7_many 0 = .ok (.iload_n 1, 1) := by decide +kernel
theorem dX7_many_1 : decode cX7_many 1 = .ok (.tableswitch 51 0 2 #[27, 35, 43], 27) := by decide +kernel
theorem dX7_many_28 : decode cX7_many 28 = .ok (.aload_n 0, 1) := by decide +kernel
theorem dX7_many_29 : decode cX7_many 29 = .ok (.getfield 14, 3) := by decide +kernel
theorem dX7_many_32 : decode cX7_many 32 = .ok (.invokevirtual 92, 3) := by decide +kernel
theorem dX7_many_35 : decode cX7_many 35 = .ok (.ireturn, 1) := by decide +kernel
theorem dX7_many_36 : decode cX7_many 36 = .ok (.aload_n 0, 1) := by decide +kernel
theorem dX7_many_37 : decode cX7_many 37 = .ok (.getfield 21, 3) := by decide +kernel
theorem dX7_many_40 : decode cX7_many 40 = .ok (.invokevirtual 269, 3) := by decide +kernel
theorem dX7_many_43 : decode cX7_many 43 = .ok (.ireturn, 1) := by decide +kernel
theorem dX7_many_44 : decode cX7_many 44 = .ok (.aload_n 0, 1) := by decide +kernel
theorem dX7_many_45 : decode cX7_many 45 = .ok (.getfield 28, 3) := by decide +kernel
theorem dX7_many_48 : decode cX7_many 48 = .ok (.invokevirtual 157, 3) := by decide +kernel
theorem dX7_many_51 : decode cX7_many 51 = .ok (.ireturn, 1) := by decide +kernel
theorem dX7_many_52 : decode cX7_many 52 = .ok (.bipush (-2), 2) := by decide +kernel
theorem dX7_many_54 : decode cX7_many 54 = .ok (.ireturn, 1) := by decide +kernel
theorem dX7_handBody_0 : decode cX7_handBody 0 = .ok (.aload_n 0, 1) := by decide +kernel
theorem dX7_handBody_1 : decode cX7_handBody 1 = .ok (.iconst 1, 1) := by decide +kernel
theorem dX7_handBody_2 : decode cX7_handBody 2 = .ok (.invokevirtual 270, 3) := by decide +kernel
theorem dX7_handBody_5 : decode cX7_handBody 5 = .ok (.iload_n 1, 1) := by decide +kernel
theorem dX7_handBody_6 : decode cX7_handBody 6 = .ok (.ireturn, 1) := by decide +kernel
theorem dX7_steadyBody_0 : decode cX7_steadyBody 0 = .ok (.aload_n 0, 1) := by decide +kernel
theorem dX7_steadyBody_1 : decode cX7_steadyBody 1 = .ok (.iconst 2, 1) := by decide +kernel
theorem dX7_steadyBody_2 : decode cX7_steadyBody 2 = .ok (.invokevirtual 270, 3) := by decide +kernel
theorem dX7_steadyBody_5 : decode cX7_steadyBody 5 = .ok (.aload_n 0, 1) := by decide +kernel
theorem dX7_steadyBody_6 : decode cX7_steadyBody 6 = .ok (.iload_n 1, 1) := by decide +kernel
theorem dX7_steadyBody_7 : decode cX7_steadyBody 7 = .ok (.invokevirtual 260, 3) := by decide +kernel
theorem dX7_steadyBody_10 : decode cX7_steadyBody 10 = .ok (.bipush 100, 2) := by decide +kernel
theorem dX7_steadyBody_12 : decode cX7_steadyBody 12 = .ok (.iadd, 1) := by decide +kernel
theorem dX7_steadyBody_13 : decode cX7_steadyBody 13 = .ok (.ireturn, 1) := by decide +kernel
theorem dX7_smithBody_0 : decode cX7_smithBody 0 = .ok (.aload_n 0, 1) := by decide +kernel
theorem dX7_smithBody_1 : decode cX7_smithBody 1 = .ok (.iconst 3, 1) := by decide +kernel
theorem dX7_smithBody_2 : decode cX7_smithBody 2 = .ok (.invokevirtual 270, 3) := by decide +kernel
theorem dX7_smithBody_5 : decode cX7_smithBody 5 = .ok (.aload_n 0, 1) := by decide +kernel
theorem dX7_smithBody_6 : decode cX7_smithBody 6 = .ok (.iload_n 1, 1) := by decide +kernel
theorem dX7_smithBody_7 : decode cX7_smithBody 7 = .ok (.invokevirtual 257, 3) := by decide +kernel
theorem dX7_smithBody_10 : decode cX7_smithBody 10 = .ok (.istore_n 2, 1) := by decide +kernel
theorem dX7_smithBody_11 : decode cX7_smithBody 11 = .ok (.iload_n 2, 1) := by decide +kernel
theorem dX7_smithBody_12 : decode cX7_smithBody 12 = .ok (.aload_n 0, 1) := by decide +kernel
theorem dX7_smithBody_13 : decode cX7_smithBody 13 = .ok (.iload_n 1, 1) := by decide +kernel
theorem dX7_smithBody_14 : decode cX7_smithBody 14 = .ok (.invokevirtual 260, 3) := by decide +kernel
theorem dX7_smithBody_17 : decode cX7_smithBody 17 = .ok (.iadd, 1) := by decide +kernel
theorem dX7_smithBody_18 : decode cX7_smithBody 18 = .ok (.ireturn, 1) := by decide +kernel
theorem dX7_lentBody_0 : decode cX7_lentBody 0 = .ok (.aload_n 0, 1) := by decide +kernel
theorem dX7_lentBody_1 : decode cX7_lentBody 1 = .ok (.iconst 4, 1) := by decide +kernel
theorem dX7_lentBody_2 : decode cX7_lentBody 2 = .ok (.invokevirtual 270, 3) := by decide +kernel
theorem dX7_lentBody_5 : decode cX7_lentBody 5 = .ok (.iload_n 1, 1) := by decide +kernel
theorem dX7_lentBody_6 : decode cX7_lentBody 6 = .ok (.ireturn, 1) := by decide +kernel
theorem dX7_smithsOwnBody_0 : decode cX7_smithsOwnBody 0 = .ok (.aload_n 0, 1) := by decide +kernel
theorem dX7_smithsOwnBody_1 : decode cX7_smithsOwnBody 1 = .ok (.iconst 5, 1) := by decide +kernel
theorem dX7_smithsOwnBody_2 : decode cX7_smithsOwnBody 2 = .ok (.invokevirtual 270, 3) := by decide +kernel
theorem dX7_smithsOwnBody_5 : decode cX7_smithsOwnBody 5 = .ok (.bipush 60, 2) := by decide +kernel
theorem dX7_smithsOwnBody_7 : decode cX7_smithsOwnBody 7 = .ok (.ireturn, 1) := by decide +kernel
theorem dX7_leaveTrace_0 : decode cX7_leaveTrace 0 = .ok (.aload_n 0, 1) := by decide +kernel
theorem dX7_leaveTrace_1 : decode cX7_leaveTrace 1 = .ok (.bipush 31, 2) := by decide +kernel
theorem dX7_leaveTrace_3 : decode cX7_leaveTrace 3 = .ok (.aload_n 0, 1) := by decide +kernel
theorem dX7_leaveTrace_4 : decode cX7_leaveTrace 4 = .ok (.getfield 56, 3) := by decide +kernel
theorem dX7_leaveTrace_7 : decode cX7_leaveTrace 7 = .ok (.imul, 1) := by decide +kernel
theorem dX7_leaveTrace_8 : decode cX7_leaveTrace 8 = .ok (.iload_n 1, 1) := by decide +kernel
theorem dX7_leaveTrace_9 : decode cX7_leaveTrace 9 = .ok (.iadd, 1) := by decide +kernel
theorem dX7_leaveTrace_10 : decode cX7_leaveTrace 10 = .ok (.putfield 56, 3) := by decide +kernel
theorem dX7_leaveTrace_13 : decode cX7_leaveTrace 13 = .ok (.return_, 1) := by decide +kernel
theorem dX7_faulty_0 : decode cX7_faulty 0 = .ok (.aload_n 0, 1) := by decide +kernel
theorem dX7_faulty_1 : decode cX7_faulty 1 = .ok (.iload_n 1, 1) := by decide +kernel
theorem dX7_faulty_2 : decode cX7_faulty 2 = .ok (.putfield 60, 3) := by decide +kernel
theorem dX7_faulty_5 : decode cX7_faulty 5 = .ok (.bipush (-10), 2) := by decide +kernel
theorem dX7_faulty_7 : decode cX7_faulty 7 = .ok (.iload_n 1, 1) := by decide +kernel
theorem dX7_faulty_8 : decode cX7_faulty 8 = .ok (.isub, 1) := by decide +kernel
theorem dX7_faulty_9 : decode cX7_faulty 9 = .ok (.ireturn, 1) := by decide +kernel
theorem dX7_isSort_0 : decode cX7_isSort 0 = .ok (.iload_n 0, 1) := by decide +kernel
theorem dX7_isSort_1 : decode cX7_isSort 1 = .ok (.ifCond .lt 12, 3) := by decide +kernel
theorem dX7_isSort_4 : decode cX7_isSort 4 = .ok (.iload_n 0, 1) := by decide +kernel
theorem dX7_isSort_5 : decode cX7_isSort 5 = .ok (.iconst 2, 1) := by decide +kernel
theorem dX7_isSort_6 : decode cX7_isSort 6 = .ok (.if_icmp .gt 7, 3) := by decide +kernel
theorem dX7_isSort_9 : decode cX7_isSort 9 = .ok (.iconst 1, 1) := by decide +kernel
theorem dX7_isSort_10 : decode cX7_isSort 10 = .ok (.goto 4, 3) := by decide +kernel
theorem dX7_isSort_13 : decode cX7_isSort 13 = .ok (.iconst 0, 1) := by decide +kernel
theorem dX7_isSort_14 : decode cX7_isSort 14 = .ok (.ireturn, 1) := by decide +kernel
theorem dX7_isKind_0 : decode cX7_isKind 0 = .ok (.iload_n 0, 1) := by decide +kernel
theorem dX7_isKind_1 : decode cX7_isKind 1 = .ok (.ifCond .lt 12, 3) := by decide +kernel
theorem dX7_isKind_4 : decode cX7_isKind 4 = .ok (.iload_n 0, 1) := by decide +kernel
theorem dX7_isKind_5 : decode cX7_isKind 5 = .ok (.iconst 2, 1) := by decide +kernel
theorem dX7_isKind_6 : decode cX7_isKind 6 = .ok (.if_icmp .gt 7, 3) := by decide +kernel
theorem dX7_isKind_9 : decode cX7_isKind 9 = .ok (.iconst 1, 1) := by decide +kernel
theorem dX7_isKind_10 : decode cX7_isKind 10 = .ok (.goto 4, 3) := by decide +kernel
theorem dX7_isKind_13 : decode cX7_isKind 13 = .ok (.iconst 0, 1) := by decide +kernel
theorem dX7_isKind_14 : decode cX7_isKind 14 = .ok (.ireturn, 1) := by decide +kernel
theorem dX7_isFirstOrSecond_0 : decode cX7_isFirstOrSecond 0 = .ok (.iload_n 0, 1) := by decide +kernel
theorem dX7_isFirstOrSecond_1 : decode cX7_isFirstOrSecond 1 = .ok (.ifCond .eq 8, 3) := by decide +kernel
theorem dX7_isFirstOrSecond_4 : decode cX7_isFirstOrSecond 4 = .ok (.iload_n 0, 1) := by decide +kernel
theorem dX7_isFirstOrSecond_5 : decode cX7_isFirstOrSecond 5 = .ok (.iconst 1, 1) := by decide +kernel
theorem dX7_isFirstOrSecond_6 : decode cX7_isFirstOrSecond 6 = .ok (.if_icmp .ne 7, 3) := by decide +kernel
theorem dX7_isFirstOrSecond_9 : decode cX7_isFirstOrSecond 9 = .ok (.iconst 1, 1) := by decide +kernel
theorem dX7_isFirstOrSecond_10 : decode cX7_isFirstOrSecond 10 = .ok (.goto 4, 3) := by decide +kernel
theorem dX7_isFirstOrSecond_13 : decode cX7_isFirstOrSecond 13 = .ok (.iconst 0, 1) := by decide +kernel
theorem dX7_isFirstOrSecond_14 : decode cX7_isFirstOrSecond 14 = .ok (.ireturn, 1) := by decide +kernel
theorem dX7_isIn_0 : decode cX7_isIn 0 = .ok (.iload_n 0, 1) := by decide +kernel
theorem dX7_isIn_1 : decode cX7_isIn 1 = .ok (.iload_n 1, 1) := by decide +kernel
theorem dX7_isIn_2 : decode cX7_isIn 2 = .ok (.ishr, 1) := by decide +kernel
theorem dX7_isIn_3 : decode cX7_isIn 3 = .ok (.iconst 1, 1) := by decide +kernel
theorem dX7_isIn_4 : decode cX7_isIn 4 = .ok (.iand, 1) := by decide +kernel
theorem dX7_isIn_5 : decode cX7_isIn 5 = .ok (.iconst 1, 1) := by decide +kernel
theorem dX7_isIn_6 : decode cX7_isIn 6 = .ok (.if_icmp .ne 7, 3) := by decide +kernel
theorem dX7_isIn_9 : decode cX7_isIn 9 = .ok (.iconst 1, 1) := by decide +kernel
theorem dX7_isIn_10 : decode cX7_isIn 10 = .ok (.goto 4, 3) := by decide +kernel
theorem dX7_isIn_13 : decode cX7_isIn 13 = .ok (.iconst 0, 1) := by decide +kernel
theorem dX7_isIn_14 : decode cX7_isIn 14 = .ok (.ireturn, 1) := by decide +kernel
theorem dX8_init_0 : decode cX8_init 0 = .ok (.aload_n 0, 1) := by decide +kernel
theorem dX8_init_1 : decode cX8_init 1 = .ok (.invokespecial 1, 3) := by decide +kernel
theorem dX8_init_4 : decode cX8_init 4 = .ok (.aload_n 0, 1) := by decide +kernel
theorem dX8_init_5 : decode cX8_init 5 = .ok (.iconst 4, 1) := by decide +kernel
theorem dX8_init_6 : decode cX8_init 6 = .ok (.newarray .int, 2) := by decide +kernel
theorem dX8_init_8 : decode cX8_init 8 = .ok (.dup, 1) := by decide +kernel
theorem dX8_init_9 : decode cX8_init 9 = .ok (.iconst 0, 1) := by decide +kernel
theorem dX8_init_10 : decode cX8_init 10 = .ok (.bipush (-9), 2) := by decide +kernel
theorem dX8_init_12 : decode cX8_init 12 = .ok (.iastore, 1) := by decide +kernel
theorem dX8_init_13 : decode cX8_init 13 = .ok (.dup, 1) := by decide +kernel
theorem dX8_init_14 : decode cX8_init 14 = .ok (.iconst 1, 1) := by decide +kernel
theorem dX8_init_15 : decode cX8_init 15 = .ok (.bipush (-9), 2) := by decide +kernel
theorem dX8_init_17 : decode cX8_init 17 = .ok (.iastore, 1) := by decide +kernel
theorem dX8_init_18 : decode cX8_init 18 = .ok (.dup, 1) := by decide +kernel
theorem dX8_init_19 : decode cX8_init 19 = .ok (.iconst 2, 1) := by decide +kernel
theorem dX8_init_20 : decode cX8_init 20 = .ok (.bipush (-9), 2) := by decide +kernel
theorem dX8_init_22 : decode cX8_init 22 = .ok (.iastore, 1) := by decide +kernel
theorem dX8_init_23 : decode cX8_init 23 = .ok (.dup, 1) := by decide +kernel
theorem dX8_init_24 : decode cX8_init 24 = .ok (.iconst 3, 1) := by decide +kernel
theorem dX8_init_25 : decode cX8_init 25 = .ok (.bipush (-9), 2) := by decide +kernel
theorem dX8_init_27 : decode cX8_init 27 = .ok (.iastore, 1) := by decide +kernel
theorem dX8_init_28 : decode cX8_init 28 = .ok (.putfield 9, 3) := by decide +kernel
theorem dX8_init_31 : decode cX8_init 31 = .ok (.aload_n 0, 1) := by decide +kernel
theorem dX8_init_32 : decode cX8_init 32 = .ok (.iconst 4, 1) := by decide +kernel
theorem dX8_init_33 : decode cX8_init 33 = .ok (.newarray .int, 2) := by decide +kernel
theorem dX8_init_35 : decode cX8_init 35 = .ok (.putfield 13, 3) := by decide +kernel
theorem dX8_init_38 : decode cX8_init 38 = .ok (.aload_n 0, 1) := by decide +kernel
theorem dX8_init_39 : decode cX8_init 39 = .ok (.sipush 160, 3) := by decide +kernel
theorem dX8_init_42 : decode cX8_init 42 = .ok (.newarray .int, 2) := by decide +kernel
theorem dX8_init_44 : decode cX8_init 44 = .ok (.putfield 16, 3) := by decide +kernel
theorem dX8_init_47 : decode cX8_init 47 = .ok (.aload_n 0, 1) := by decide +kernel
theorem dX8_init_48 : decode cX8_init 48 = .ok (.bipush 8, 2) := by decide +kernel
theorem dX8_init_50 : decode cX8_init 50 = .ok (.newarray .int, 2) := by decide +kernel
theorem dX8_init_52 : decode cX8_init 52 = .ok (.putfield 19, 3) := by decide +kernel
theorem dX8_init_55 : decode cX8_init 55 = .ok (.aload_n 0, 1) := by decide +kernel
theorem dX8_init_56 : decode cX8_init 56 = .ok (.bipush 8, 2) := by decide +kernel
theorem dX8_init_58 : decode cX8_init 58 = .ok (.newarray .int, 2) := by decide +kernel
theorem dX8_init_60 : decode cX8_init 60 = .ok (.putfield 22, 3) := by decide +kernel
theorem dX8_init_63 : decode cX8_init 63 = .ok (.aload_n 0, 1) := by decide +kernel
theorem dX8_init_64 : decode cX8_init 64 = .ok (.bipush 6, 2) := by decide +kernel
theorem dX8_init_66 : decode cX8_init 66 = .ok (.newarray .int, 2) := by decide +kernel
theorem dX8_init_68 : decode cX8_init 68 = .ok (.putfield 25, 3) := by decide +kernel
theorem dX8_init_71 : decode cX8_init 71 = .ok (.aload_n 0, 1) := by decide +kernel
theorem dX8_init_72 : decode cX8_init 72 = .ok (.bipush 6, 2) := by decide +kernel
theorem dX8_init_74 : decode cX8_init 74 = .ok (.newarray .int, 2) := by decide +kernel
theorem dX8_init_76 : decode cX8_init 76 = .ok (.putfield 28, 3) := by decide +kernel
theorem dX8_init_79 : decode cX8_init 79 = .ok (.aload_n 0, 1) := by decide +kernel
theorem dX8_init_80 : decode cX8_init 80 = .ok (.bipush 8, 2) := by decide +kernel
theorem dX8_init_82 : decode cX8_init 82 = .ok (.newarray .int, 2) := by decide +kernel
theorem dX8_init_84 : decode cX8_init 84 = .ok (.putfield 31, 3) := by decide +kernel
theorem dX8_init_87 : decode cX8_init 87 = .ok (.aload_n 0, 1) := by decide +kernel
theorem dX8_init_88 : decode cX8_init 88 = .ok (.bipush 10, 2) := by decide +kernel
theorem dX8_init_90 : decode cX8_init 90 = .ok (.newarray .int, 2) := by decide +kernel
theorem dX8_init_92 : decode cX8_init 92 = .ok (.putfield 34, 3) := by decide +kernel
theorem dX8_init_95 : decode cX8_init 95 = .ok (.aload_n 0, 1) := by decide +kernel
theorem dX8_init_96 : decode cX8_init 96 = .ok (.bipush 10, 2) := by decide +kernel
theorem dX8_init_98 : decode cX8_init 98 = .ok (.newarray .int, 2) := by decide +kernel
theorem dX8_init_100 : decode cX8_init 100 = .ok (.putfield 37, 3) := by decide +kernel
theorem dX8_init_103 : decode cX8_init 103 = .ok (.aload_n 0, 1) := by decide +kernel
theorem dX8_init_104 : decode cX8_init 104 = .ok (.bipush 10, 2) := by decide +kernel
theorem dX8_init_106 : decode cX8_init 106 = .ok (.newarray .int, 2) := by decide +kernel
theorem dX8_init_108 : decode cX8_init 108 = .ok (.putfield 40, 3) := by decide +kernel
theorem dX8_init_111 : decode cX8_init 111 = .ok (.aload_n 0, 1) := by decide +kernel
theorem dX8_init_112 : decode cX8_init 112 = .ok (.bipush 10, 2) := by decide +kernel
theorem dX8_init_114 : decode cX8_init 114 = .ok (.newarray .int, 2) := by decide +kernel
theorem dX8_init_116 : decode cX8_init 116 = .ok (.putfield 43, 3) := by decide +kernel
theorem dX8_init_119 : decode cX8_init 119 = .ok (.aload_n 0, 1) := by decide +kernel
theorem dX8_init_120 : decode cX8_init 120 = .ok (.sipush 256, 3) := by decide +kernel
theorem dX8_init_123 : decode cX8_init 123 = .ok (.newarray .int, 2) := by decide +kernel
theorem dX8_init_125 : decode cX8_init 125 = .ok (.putfield 46, 3) := by decide +kernel
theorem dX8_init_128 : decode cX8_init 128 = .ok (.aload_n 0, 1) := by decide +kernel
theorem dX8_init_129 : decode cX8_init 129 = .ok (.bipush 8, 2) := by decide +kernel
theorem dX8_init_131 : decode cX8_init 131 = .ok (.newarray .int, 2) := by decide +kernel
theorem dX8_init_133 : decode cX8_init 133 = .ok (.putfield 49, 3) := by decide +kernel
theorem dX8_init_136 : decode cX8_init 136 = .ok (.aload_n 0, 1) := by decide +kernel
theorem dX8_init_137 : decode cX8_init 137 = .ok (.iconst 5, 1) := by decide +kernel
theorem dX8_init_138 : decode cX8_init 138 = .ok (.newarray .int, 2) := by decide +kernel
theorem dX8_init_140 : decode cX8_init 140 = .ok (.putfield 52, 3) := by decide +kernel
theorem dX8_init_143 : decode cX8_init 143 = .ok (.aload_n 0, 1) := by decide +kernel
theorem dX8_init_144 : decode cX8_init 144 = .ok (.iconst 5, 1) := by decide +kernel
theorem dX8_init_145 : decode cX8_init 145 = .ok (.newarray .int, 2) := by decide +kernel
theorem dX8_init_147 : decode cX8_init 147 = .ok (.putfield 55, 3) := by decide +kernel
theorem dX8_init_150 : decode cX8_init 150 = .ok (.return_, 1) := by decide +kernel
theorem dX8_fails_0 : decode cX8_fails 0 = .ok (.aload_n 0, 1) := by decide +kernel
theorem dX8_fails_1 : decode cX8_fails 1 = .ok (.iload_n 1, 1) := by decide +kernel
theorem dX8_fails_2 : decode cX8_fails 2 = .ok (.putfield 58, 3) := by decide +kernel
theorem dX8_fails_5 : decode cX8_fails 5 = .ok (.bipush (-10), 2) := by decide +kernel
theorem dX8_fails_7 : decode cX8_fails 7 = .ok (.iload_n 1, 1) := by decide +kernel
theorem dX8_fails_8 : decode cX8_fails 8 = .ok (.isub, 1) := by decide +kernel
theorem dX8_fails_9 : decode cX8_fails 9 = .ok (.ireturn, 1) := by decide +kernel
theorem dX8_lost_0 : decode cX8_lost 0 = .ok (.aload_n 0, 1) := by decide +kernel
theorem dX8_lost_1 : decode cX8_lost 1 = .ok (.iload_n 1, 1) := by decide +kernel
theorem dX8_lost_2 : decode cX8_lost 2 = .ok (.putfield 58, 3) := by decide +kernel
theorem dX8_lost_5 : decode cX8_lost 5 = .ok (.ldc2_w 62, 3) := by decide +kernel
theorem dX8_lost_8 : decode cX8_lost 8 = .ok (.lreturn, 1) := by decide +kernel
theorem dX8_within_0 : decode cX8_within 0 = .ok (.iload_n 0, 1) := by decide +kernel
theorem dX8_within_1 : decode cX8_within 1 = .ok (.iload_n 1, 1) := by decide +kernel
theorem dX8_within_2 : decode cX8_within 2 = .ok (.if_icmp .lt 12, 3) := by decide +kernel
theorem dX8_within_5 : decode cX8_within 5 = .ok (.iload_n 0, 1) := by decide +kernel
theorem dX8_within_6 : decode cX8_within 6 = .ok (.iload_n 2, 1) := by decide +kernel
theorem dX8_within_7 : decode cX8_within 7 = .ok (.if_icmp .gt 7, 3) := by decide +kernel
theorem dX8_within_10 : decode cX8_within 10 = .ok (.iconst 1, 1) := by decide +kernel
theorem dX8_within_11 : decode cX8_within 11 = .ok (.goto 4, 3) := by decide +kernel
theorem dX8_within_14 : decode cX8_within 14 = .ok (.iconst 0, 1) := by decide +kernel
theorem dX8_within_15 : decode cX8_within 15 = .ok (.ireturn, 1) := by decide +kernel
theorem dX8_share_0 : decode cX8_share 0 = .ok (.lload_n 0, 1) := by decide +kernel
theorem dX8_share_1 : decode cX8_share 1 = .ok (.lstore 5, 2) := by decide +kernel
theorem dX8_share_3 : decode cX8_share 3 = .ok (.lload_n 2, 1) := by decide +kernel
theorem dX8_share_4 : decode cX8_share 4 = .ok (.lstore 7, 2) := by decide +kernel
theorem dX8_share_6 : decode cX8_share 6 = .ok (.lload 7, 2) := by decide +kernel
theorem dX8_share_8 : decode cX8_share 8 = .ok (.lconst 0, 1) := by decide +kernel
theorem dX8_share_9 : decode cX8_share 9 = .ok (.lcmp, 1) := by decide +kernel
theorem dX8_share_10 : decode cX8_share 10 = .ok (.ifCond .eq 21, 3) := by decide +kernel
theorem dX8_share_13 : decode cX8_share 13 = .ok (.lload 5, 2) := by decide +kernel
theorem dX8_share_15 : decode cX8_share 15 = .ok (.lload 7, 2) := by decide +kernel
theorem dX8_share_17 : decode cX8_share 17 = .ok (.lrem, 1) := by decide +kernel
theorem dX8_share_18 : decode cX8_share 18 = .ok (.lstore 9, 2) := by decide +kernel
theorem dX8_share_20 : decode cX8_share 20 = .ok (.lload 7, 2) := by decide +kernel
theorem dX8_share_22 : decode cX8_share 22 = .ok (.lstore 5, 2) := by decide +kernel
theorem dX8_share_24 : decode cX8_share 24 = .ok (.lload 9, 2) := by decide +kernel
theorem dX8_share_26 : decode cX8_share 26 = .ok (.lstore 7, 2) := by decide +kernel
theorem dX8_share_28 : decode cX8_share 28 = .ok (.goto (-22), 3) := by decide +kernel
theorem dX8_share_31 : decode cX8_share 31 = .ok (.iload 4, 2) := by decide +kernel
theorem dX8_share_33 : decode cX8_share 33 = .ok (.ifCond .ne 10, 3) := by decide +kernel
theorem dX8_share_36 : decode cX8_share 36 = .ok (.lload_n 0, 1) := by decide +kernel
theorem dX8_share_37 : decode cX8_share 37 = .ok (.lload 5, 2) := by decide +kernel
theorem dX8_share_39 : decode cX8_share 39 = .ok (.ldiv, 1) := by decide +kernel
theorem dX8_share_40 : decode cX8_share 40 = .ok (.goto 7, 3) := by decide +kernel
theorem dX8_share_43 : decode cX8_share 43 = .ok (.lload_n 2, 1) := by decide +kernel
theorem dX8_share_44 : decode cX8_share 44 = .ok (.lload 5, 2) := by decide +kernel
theorem dX8_share_46 : decode cX8_share 46 = .ok (.ldiv, 1) := by decide +kernel
theorem dX8_share_47 : decode cX8_share 47 = .ok (.lreturn, 1) := by decide +kernel
theorem dX8_bits_0 : decode cX8_bits 0 = .ok (.iconst 0, 1) := by decide +kernel
theorem dX8_bits_1 : decode cX8_bits 1 = .ok (.istore_n 1, 1) := by decide +kernel
theorem dX8_bits_2 : decode cX8_bits 2 = .ok (.iconst 0, 1) := by decide +kernel
theorem dX8_bits_3 : decode cX8_bits 3 = .ok (.istore_n 2, 1) := by decide +kernel
theorem dX8_bits_4 : decode cX8_bits 4 = .ok (.iload_n 2, 1) := by decide +kernel
theorem dX8_bits_5 : decode cX8_bits 5 = .ok (.bipush 20, 2) := by decide +kernel
theorem dX8_bits_7 : decode cX8_bits 7 = .ok (.if_icmp .ge 17, 3) := by decide +kernel
theorem dX8_bits_10 : decode cX8_bits 10 = .ok (.iload_n 1, 1) := by decide +kernel
theorem dX8_bits_11 : decode cX8_bits 11 = .ok (.iload_n 0, 1) := by decide +kernel
theorem dX8_bits_12 : decode cX8_bits 12 = .ok (.iload_n 2, 1) := by decide +kernel
theorem dX8_bits_13 : decode cX8_bits 13 = .ok (.ishr, 1) := by decide +kernel
theorem dX8_bits_14 : decode cX8_bits 14 = .ok (.iconst 1, 1) := by decide +kernel
theorem dX8_bits_15 : decode cX8_bits 15 = .ok (.iand, 1) := by decide +kernel
theorem dX8_bits_16 : decode cX8_bits 16 = .ok (.iadd, 1) := by decide +kernel
theorem dX8_bits_17 : decode cX8_bits 17 = .ok (.istore_n 1, 1) := by decide +kernel
theorem dX8_bits_18 : decode cX8_bits 18 = .ok (.iinc 2 1, 3) := by decide +kernel
theorem dX8_bits_21 : decode cX8_bits 21 = .ok (.goto (-17), 3) := by decide +kernel
theorem dX8_bits_24 : decode cX8_bits 24 = .ok (.iload_n 1, 1) := by decide +kernel
theorem dX8_bits_25 : decode cX8_bits 25 = .ok (.ireturn, 1) := by decide +kernel
theorem dX8_isSheet_0 : decode cX8_isSheet 0 = .ok (.iload_n 0, 1) := by decide +kernel
theorem dX8_isSheet_1 : decode cX8_isSheet 1 = .ok (.iconst 0, 1) := by decide +kernel
theorem dX8_isSheet_2 : decode cX8_isSheet 2 = .ok (.iconst 3, 1) := by decide +kernel
theorem dX8_isSheet_3 : decode cX8_isSheet 3 = .ok (.invokestatic 64, 3) := by decide +kernel
theorem dX8_isSheet_6 : decode cX8_isSheet 6 = .ok (.ireturn, 1) := by decide +kernel
theorem dX8_isSort_0 : decode cX8_isSort 0 = .ok (.iload_n 0, 1) := by decide +kernel
theorem dX8_isSort_1 : decode cX8_isSort 1 = .ok (.iconst 0, 1) := by decide +kernel
theorem dX8_isSort_2 : decode cX8_isSort 2 = .ok (.iconst 2, 1) := by decide +kernel
theorem dX8_isSort_3 : decode cX8_isSort 3 = .ok (.invokestatic 64, 3) := by decide +kernel
theorem dX8_isSort_6 : decode cX8_isSort 6 = .ok (.ireturn, 1) := by decide +kernel
theorem dX8_against_0 : decode cX8_against 0 = .ok (.aload_n 0, 1) := by decide +kernel
theorem dX8_against_1 : decode cX8_against 1 = .ok (.getfield 9, 3) := by decide +kernel
theorem dX8_against_4 : decode cX8_against 4 = .ok (.iload_n 1, 1) := by decide +kernel
theorem dX8_against_5 : decode cX8_against 5 = .ok (.iaload, 1) := by decide +kernel
theorem dX8_against_6 : decode cX8_against 6 = .ok (.bipush (-9), 2) := by decide +kernel
theorem dX8_against_8 : decode cX8_against 8 = .ok (.if_icmp .eq 15, 3) := by decide +kernel
theorem dX8_against_11 : decode cX8_against 11 = .ok (.aload_n 0, 1) := by decide +kernel
theorem dX8_against_12 : decode cX8_against 12 = .ok (.getfield 9, 3) := by decide +kernel
theorem dX8_against_15 : decode cX8_against 15 = .ok (.iload_n 1, 1) := by decide +kernel
theorem dX8_against_16 : decode cX8_against 16 = .ok (.iaload, 1) := by decide +kernel
theorem dX8_against_17 : decode cX8_against 17 = .ok (.iload_n 2, 1) := by decide +kernel
theorem dX8_against_18 : decode cX8_against 18 = .ok (.if_icmp .eq 5, 3) := by decide +kernel
theorem dX8_against_21 : decode cX8_against 21 = .ok (.iconst 2, 1) := by decide +kernel
theorem dX8_against_22 : decode cX8_against 22 = .ok (.ireturn, 1) := by decide +kernel
theorem dX8_against_23 : decode cX8_against 23 = .ok (.aload_n 0, 1) := by decide +kernel
theorem dX8_against_24 : decode cX8_against 24 = .ok (.getfield 9, 3) := by decide +kernel
theorem dX8_against_27 : decode cX8_against 27 = .ok (.iload_n 1, 1) := by decide +kernel
theorem dX8_against_28 : decode cX8_against 28 = .ok (.iaload, 1) := by decide +kernel
theorem dX8_against_29 : decode cX8_against 29 = .ok (.bipush (-9), 2) := by decide +kernel
theorem dX8_against_31 : decode cX8_against 31 = .ok (.if_icmp .ne 5, 3) := by decide +kernel
theorem dX8_against_34 : decode cX8_against 34 = .ok (.iconst 1, 1) := by decide +kernel
theorem dX8_against_35 : decode cX8_against 35 = .ok (.ireturn, 1) := by decide +kernel
theorem dX8_against_36 : decode cX8_against 36 = .ok (.iload 4, 2) := by decide +kernel
theorem dX8_against_38 : decode cX8_against 38 = .ok (.ifCond .ge 5, 3) := by decide +kernel
theorem dX8_against_41 : decode cX8_against 41 = .ok (.iconst 4, 1) := by decide +kernel
theorem dX8_against_42 : decode cX8_against 42 = .ok (.ireturn, 1) := by decide +kernel
theorem dX8_against_43 : decode cX8_against 43 = .ok (.iload_n 3, 1) := by decide +kernel
theorem dX8_against_44 : decode cX8_against 44 = .ok (.ifCond .lt 26, 3) := by decide +kernel
theorem dX8_against_47 : decode cX8_against 47 = .ok (.iload_n 3, 1) := by decide +kernel
theorem dX8_against_48 : decode cX8_against 48 = .ok (.aload_n 0, 1) := by decide +kernel
theorem dX8_against_49 : decode cX8_against 49 = .ok (.getfield 13, 3) := by decide +kernel
theorem dX8_against_52 : decode cX8_against 52 = .ok (.iload_n 1, 1) := by decide +kernel
theorem dX8_against_53 : decode cX8_against 53 = .ok (.iaload, 1) := by decide +kernel
theorem dX8_against_54 : decode cX8_against 54 = .ok (.if_icmp .gt 16, 3) := by decide +kernel
theorem dX8_against_57 : decode cX8_against 57 = .ok (.iload 4, 2) := by decide +kernel
theorem dX8_against_59 : decode cX8_against 59 = .ok (.aload_n 0, 1) := by decide +kernel
theorem dX8_against_60 : decode cX8_against 60 = .ok (.getfield 13, 3) := by decide +kernel
theorem dX8_against_63 : decode cX8_against 63 = .ok (.iload_n 1, 1) := by decide +kernel
theorem dX8_against_64 : decode cX8_against 64 = .ok (.iaload, 1) := by decide +kernel
theorem dX8_against_65 : decode cX8_against 65 = .ok (.iload_n 3, 1) := by decide +kernel
theorem dX8_against_66 : decode cX8_against 66 = .ok (.isub, 1) := by decide +kernel
theorem dX8_against_67 : decode cX8_against 67 = .ok (.if_icmp .le 7, 3) := by decide +kernel
theorem dX8_against_70 : decode cX8_against 70 = .ok (.iconst 3, 1) := by decide +kernel
theorem dX8_against_71 : decode cX8_against 71 = .ok (.goto 4, 3) := by decide +kernel
theorem dX8_against_74 : decode cX8_against 74 = .ok (.iconst 0, 1) := by decide +kernel
theorem dX8_against_75 : decode cX8_against 75 = .ok (.ireturn, 1) := by decide +kernel
theorem dX8_isThing_0 : decode cX8_isThing 0 = .ok (.iload_n 1, 1) := by decide +kernel
theorem dX8_isThing_1 : decode cX8_isThing 1 = .ok (.ifCond .lt 15, 3) := by decide +kernel
theorem dX8_isThing_4 : decode cX8_isThing 4 = .ok (.iload_n 1, 1) := by decide +kernel
theorem dX8_isThing_5 : decode cX8_isThing 5 = .ok (.aload_n 0, 1) := by decide +kernel
theorem dX8_isThing_6 : decode cX8_isThing 6 = .ok (.getfield 68, 3) := by decide +kernel
theorem dX8_isThing_9 : decode cX8_isThing 9 = .ok (.if_icmp .ge 7, 3) := by decide +kernel
theorem dX8_isThing_12 : decode cX8_isThing 12 = .ok (.iconst 1, 1) := by decide +kernel
theorem dX8_isThing_13 : decode cX8_isThing 13 = .ok (.goto 4, 3) := by decide +kernel
theorem dX8_isThing_16 : decode cX8_isThing 16 = .ok (.iconst 0, 1) := by decide +kernel
theorem dX8_isThing_17 : decode cX8_isThing 17 = .ok (.ireturn, 1) := by decide +kernel
theorem dX8_market_0 : decode cX8_market 0 = .ok (.aload_n 0, 1) := by decide +kernel
theorem dX8_market_1 : decode cX8_market 1 = .ok (.iconst 0, 1) := by decide +kernel
theorem dX8_market_2 : decode cX8_market 2 = .ok (.putfield 58, 3) := by decide +kernel
theorem dX8_market_5 : decode cX8_market 5 = .ok (.iload_n 1, 1) := by decide +kernel
theorem dX8_market_6 : decode cX8_market 6 = .ok (.invokestatic 71, 3) := by decide +kernel
theorem dX8_market_9 : decode cX8_market 9 = .ok (.ifCond .ne 5, 3) := by decide +kernel
theorem dX8_market_12 : decode cX8_market 12 = .ok (.iconst (-1), 1) := by decide +kernel
theorem dX8_market_13 : decode cX8_market 13 = .ok (.ireturn, 1) := by decide +kernel
theorem dX8_market_14 : decode cX8_market 14 = .ok (.iload_n 2, 1) := by decide +kernel
theorem dX8_market_15 : decode cX8_market 15 = .ok (.invokestatic 75, 3) := by decide +kernel
theorem dX8_market_18 : decode cX8_market 18 = .ok (.ifCond .ne 6, 3) := by decide +kernel
theorem dX8_market_21 : decode cX8_market 21 = .ok (.bipush (-2), 2) := by decide +kernel
theorem dX8_market_23 : decode cX8_market 23 = .ok (.ireturn, 1) := by decide +kernel
theorem dX8_market_24 : decode cX8_market 24 = .ok (.aload_n 0, 1) := by decide +kernel
theorem dX8_market_25 : decode cX8_market 25 = .ok (.iload_n 1, 1) := by decide +kernel
theorem dX8_market_26 : decode cX8_market 26 = .ok (.iload_n 2, 1) := by decide +kernel
theorem dX8_market_27 : decode cX8_market 27 = .ok (.iload_n 3, 1) := by decide +kernel
theorem dX8_market_28 : decode cX8_market 28 = .ok (.iload 4, 2) := by decide +kernel
theorem dX8_market_30 : decode cX8_market 30 = .ok (.invokevirtual 78, 3) := by decide +kernel
theorem dX8_market_33 : decode cX8_market 33 = .ok (.istore 5, 2) := by decide +kernel
theorem dX8_market_35 : decode cX8_market 35 = .ok (.iload 5, 2) := by decide +kernel
theorem dX8_market_37 : decode cX8_market 37 = .ok (.ifCond .eq 10, 3) := by decide +kernel
theorem dX8_market_40 : decode cX8_market 40 = .ok (.aload_n 0, 1) := by decide +kernel
theorem dX8_market_41 : decode cX8_market 41 = .ok (.iload 5, 2) := by decide +kernel
theorem dX8_market_43 : decode cX8_market 43 = .ok (.invokevirtual 82, 3) := by decide +kernel
theorem dX8_market_46 : decode cX8_market 46 = .ok (.ireturn, 1) := by decide +kernel
theorem dX8_market_47 : decode cX8_market 47 = .ok (.bipush 40, 2) := by decide +kernel
theorem dX8_market_49 : decode cX8_market 49 = .ok (.iload_n 1, 1) := by decide +kernel
theorem dX8_market_50 : decode cX8_market 50 = .ok (.imul, 1) := by decide +kernel
theorem dX8_market_51 : decode cX8_market 51 = .ok (.iload_n 3, 1) := by decide +kernel
theorem dX8_market_52 : decode cX8_market 52 = .ok (.iadd, 1) := by decide +kernel
theorem dX8_market_53 : decode cX8_market 53 = .ok (.istore 6, 2) := by decide +kernel
theorem dX8_market_55 : decode cX8_market 55 = .ok (.aload_n 0, 1) := by decide +kernel
theorem dX8_market_56 : decode cX8_market 56 = .ok (.iload 6, 2) := by decide +kernel
theorem dX8_market_58 : decode cX8_market 58 = .ok (.putfield 86, 3) := by decide +kernel
theorem dX8_market_61 : decode cX8_market 61 = .ok (.aload_n 0, 1) := by decide +kernel
theorem dX8_market_62 : decode cX8_market 62 = .ok (.iload 6, 2) := by decide +kernel
theorem dX8_market_64 : decode cX8_market 64 = .ok (.iload 4, 2) := by decide +kernel
theorem dX8_market_66 : decode cX8_market 66 = .ok (.iadd, 1) := by decide +kernel
theorem dX8_market_67 : decode cX8_market 67 = .ok (.invokevirtual 89, 3) := by decide +kernel
theorem dX8_market_70 : decode cX8_market 70 = .ok (.ifCond .ne 14, 3) := by decide +kernel
theorem dX8_market_73 : decode cX8_market 73 = .ok (.bipush (-100), 2) := by decide +kernel
theorem dX8_market_75 : decode cX8_market 75 = .ok (.aload_n 0, 1) := by decide +kernel
theorem dX8_market_76 : decode cX8_market 76 = .ok (.getfield 86, 3) := by decide +kernel
theorem dX8_market_79 : decode cX8_market 79 = .ok (.iload 6, 2) := by decide +kernel
theorem dX8_market_81 : decode cX8_market 81 = .ok (.isub, 1) := by decide +kernel
theorem dX8_market_82 : decode cX8_market 82 = .ok (.isub, 1) := by decide +kernel
theorem dX8_market_83 : decode cX8_market 83 = .ok (.ireturn, 1) := by decide +kernel
theorem dX8_market_84 : decode cX8_market 84 = .ok (.aload_n 0, 1) := by decide +kernel
theorem dX8_market_85 : decode cX8_market 85 = .ok (.aload_n 0, 1) := by decide +kernel
theorem dX8_market_86 : decode cX8_market 86 = .ok (.getfield 92, 3) := by decide +kernel
theorem dX8_market_89 : decode cX8_market 89 = .ok (.putfield 68, 3) := by decide +kernel
theorem dX8_market_92 : decode cX8_market 92 = .ok (.iconst 0, 1) := by decide +kernel
theorem dX8_market_93 : decode cX8_market 93 = .ok (.istore 7, 2) := by decide +kernel
theorem dX8_market_95 : decode cX8_market 95 = .ok (.iload 7, 2) := by decide +kernel
theorem dX8_market_97 : decode cX8_market 97 = .ok (.aload_n 0, 1) := by decide +kernel
theorem dX8_market_98 : decode cX8_market 98 = .ok (.getfield 68, 3) := by decide +kernel
theorem dX8_market_101 : decode cX8_market 101 = .ok (.if_icmp .ge 23, 3) := by decide +kernel
theorem dX8_market_104 : decode cX8_market 104 = .ok (.aload_n 0, 1) := by decide +kernel
theorem dX8_market_105 : decode cX8_market 105 = .ok (.getfield 19, 3) := by decide +kernel
theorem dX8_market_108 : decode cX8_market 108 = .ok (.iload 7, 2) := by decide +kernel
theorem dX8_market_110 : decode cX8_market 110 = .ok (.aload_n 0, 1) := by decide +kernel
theorem dX8_market_111 : decode cX8_market 111 = .ok (.getfield 22, 3) := by decide +kernel
theorem dX8_market_114 : decode cX8_market 114 = .ok (.iload 7, 2) := by decide +kernel
theorem dX8_market_116 : decode cX8_market 116 = .ok (.iaload, 1) := by decide +kernel
theorem dX8_market_117 : decode cX8_market 117 = .ok (.iastore, 1) := by decide +kernel
theorem dX8_market_118 : decode cX8_market 118 = .ok (.iinc 7 1, 3) := by decide +kernel
theorem dX8_market_121 : decode cX8_market 121 = .ok (.goto (-26), 3) := by decide +kernel
theorem dX8_market_124 : decode cX8_market 124 = .ok (.aload_n 0, 1) := by decide +kernel
theorem dX8_market_125 : decode cX8_market 125 = .ok (.iconst 0, 1) := by decide +kernel
theorem dX8_market_126 : decode cX8_market 126 = .ok (.putfield 95, 3) := by decide +kernel
theorem dX8_market_129 : decode cX8_market 129 = .ok (.aload_n 0, 1) := by decide +kernel
theorem dX8_market_130 : decode cX8_market 130 = .ok (.iconst 0, 1) := by decide +kernel
theorem dX8_market_131 : decode cX8_market 131 = .ok (.putfield 98, 3) := by decide +kernel
theorem dX8_market_134 : decode cX8_market 134 = .ok (.aload_n 0, 1) := by decide +kernel
theorem dX8_market_135 : decode cX8_market 135 = .ok (.getfield 68, 3) := by decide +kernel
theorem dX8_market_138 : decode cX8_market 138 = .ok (.ireturn, 1) := by decide +kernel
theorem dX8_readMarket_0 : decode cX8_readMarket 0 = .ok (.aload_n 0, 1) := by decide +kernel
theorem dX8_readMarket_1 : decode cX8_readMarket 1 = .ok (.iconst 0, 1) := by decide +kernel
theorem dX8_readMarket_2 : decode cX8_readMarket 2 = .ok (.putfield 92, 3) := by decide +kernel
theorem dX8_readMarket_5 : decode cX8_readMarket 5 = .ok (.aload_n 0, 1) := by decide +kernel
theorem dX8_readMarket_6 : decode cX8_readMarket 6 = .ok (.getfield 92, 3) := by decide +kernel
theorem dX8_readMarket_9 : decode cX8_readMarket 9 = .ok (.iconst 2, 1) := by decide +kernel
theorem dX8_readMarket_10 : decode cX8_readMarket 10 = .ok (.if_icmp .lt 11, 3) := by decide +kernel
theorem dX8_readMarket_13 : decode cX8_readMarket 13 = .ok (.aload_n 0, 1) := by decide +kernel
theorem dX8_readMarket_14 : decode cX8_readMarket 14 = .ok (.getfield 86, 3) := by decide +kernel
theorem dX8_readMarket_17 : decode cX8_readMarket 17 = .ok (.iload_n 1, 1) := by decide +kernel
theorem dX8_readMarket_18 : decode cX8_readMarket 18 = .ok (.if_icmp .ge 171, 3) := by decide +kernel
theorem dX8_readMarket_21 : decode cX8_readMarket 21 = .ok (.aload_n 0, 1) := by decide +kernel
theorem dX8_readMarket_22 : decode cX8_readMarket 22 = .ok (.getfield 92, 3) := by decide +kernel
theorem dX8_readMarket_25 : decode cX8_readMarket 25 = .ok (.ifCond .le 46, 3) := by decide +kernel
theorem dX8_readMarket_28 : decode cX8_readMarket 28 = .ok (.aload_n 0, 1) := by decide +kernel
theorem dX8_readMarket_29 : decode cX8_readMarket 29 = .ok (.getfield 92, 3) := by decide +kernel
theorem dX8_readMarket_32 : decode cX8_readMarket 32 = .ok (.bipush 8, 2) := by decide +kernel
theorem dX8_readMarket_34 : decode cX8_readMarket 34 = .ok (.if_icmp .eq 25, 3) := by decide +kernel
theorem dX8_readMarket_37 : decode cX8_readMarket 37 = .ok (.aload_n 0, 1) := by decide +kernel
theorem dX8_readMarket_38 : decode cX8_readMarket 38 = .ok (.getfield 86, 3) := by decide +kernel
theorem dX8_readMarket_41 : decode cX8_readMarket 41 = .ok (.iload_n 1, 1) := by decide +kernel
theorem dX8_readMarket_42 : decode cX8_readMarket 42 = .ok (.if_icmp .ge 17, 3) := by decide +kernel
theorem dX8_readMarket_45 : decode cX8_readMarket 45 = .ok (.aload_n 0, 1) := by decide +kernel
theorem dX8_readMarket_46 : decode cX8_readMarket 46 = .ok (.getfield 16, 3) := by decide +kernel
theorem dX8_readMarket_49 : decode cX8_readMarket 49 = .ok (.aload_n 0, 1) := by decide +kernel
theorem dX8_readMarket_50 : decode cX8_readMarket 50 = .ok (.getfield 86, 3) := by decide +kernel
theorem dX8_readMarket_53 : decode cX8_readMarket 53 = .ok (.iaload, 1) := by decide +kernel
theorem dX8_readMarket_54 : decode cX8_readMarket 54 = .ok (.bipush 59, 2) := by decide +kernel
theorem dX8_readMarket_56 : decode cX8_readMarket 56 = .ok (.if_icmp .eq 5, 3) := by decide +kernel
theorem dX8_readMarket_59 : decode cX8_readMarket 59 = .ok (.iconst 0, 1) := by decide +kernel
theorem dX8_readMarket_60 : decode cX8_readMarket 60 = .ok (.ireturn, 1) := by decide +kernel
theorem dX8_readMarket_61 : decode cX8_readMarket 61 = .ok (.aload_n 0, 1) := by decide +kernel
theorem dX8_readMarket_62 : decode cX8_readMarket 62 = .ok (.dup, 1) := by decide +kernel
theorem dX8_readMarket_63 : decode cX8_readMarket 63 = .ok (.getfield 86, 3) := by decide +kernel
theorem dX8_readMarket_66 : decode cX8_readMarket 66 = .ok (.iconst 1, 1) := by decide +kernel
theorem dX8_readMarket_67 : decode cX8_readMarket 67 = .ok (.iadd, 1) := by decide +kernel
theorem dX8_readMarket_68 : decode cX8_readMarket 68 = .ok (.putfield 86, 3) := by decide +kernel
theorem dX8_readMarket_71 : decode cX8_readMarket 71 = .ok (.iconst 0, 1) := by decide +kernel
theorem dX8_readMarket_72 : decode cX8_readMarket 72 = .ok (.istore_n 2, 1) := by decide +kernel
theorem dX8_readMarket_73 : decode cX8_readMarket 73 = .ok (.iconst 0, 1) := by decide +kernel
theorem dX8_readMarket_74 : decode cX8_readMarket 74 = .ok (.istore_n 3, 1) := by decide +kernel
theorem dX8_readMarket_75 : decode cX8_readMarket 75 = .ok (.iload_n 3, 1) := by decide +kernel
theorem dX8_readMarket_76 : decode cX8_readMarket 76 = .ok (.iconst 3, 1) := by decide +kernel
theorem dX8_readMarket_77 : decode cX8_readMarket 77 = .ok (.if_icmp .ge 89, 3) := by decide +kernel
theorem dX8_readMarket_80 : decode cX8_readMarket 80 = .ok (.aload_n 0, 1) := by decide +kernel
theorem dX8_readMarket_81 : decode cX8_readMarket 81 = .ok (.getfield 86, 3) := by decide +kernel
theorem dX8_readMarket_84 : decode cX8_readMarket 84 = .ok (.iload_n 1, 1) := by decide +kernel
theorem dX8_readMarket_85 : decode cX8_readMarket 85 = .ok (.if_icmp .ge 45, 3) := by decide +kernel
theorem dX8_readMarket_88 : decode cX8_readMarket 88 = .ok (.aload_n 0, 1) := by decide +kernel
theorem dX8_readMarket_89 : decode cX8_readMarket 89 = .ok (.getfield 16, 3) := by decide +kernel
theorem dX8_readMarket_92 : decode cX8_readMarket 92 = .ok (.aload_n 0, 1) := by decide +kernel
theorem dX8_readMarket_93 : decode cX8_readMarket 93 = .ok (.getfield 86, 3) := by decide +kernel
theorem dX8_readMarket_96 : decode cX8_readMarket 96 = .ok (.iaload, 1) := by decide +kernel
theorem dX8_readMarket_97 : decode cX8_readMarket 97 = .ok (.bipush 48, 2) := by decide +kernel
theorem dX8_readMarket_99 : decode cX8_readMarket 99 = .ok (.bipush 57, 2) := by decide +kernel
theorem dX8_readMarket_101 : decode cX8_readMarket 101 = .ok (.invokestatic 64, 3) := by decide +kernel
theorem dX8_readMarket_104 : decode cX8_readMarket 104 = .ok (.ifCond .eq 26, 3) := by decide +kernel
theorem dX8_readMarket_107 : decode cX8_readMarket 107 = .ok (.iload_n 3, 1) := by decide +kernel
theorem dX8_readMarket_108 : decode cX8_readMarket 108 = .ok (.iconst 2, 1) := by decide +kernel
theorem dX8_readMarket_109 : decode cX8_readMarket 109 = .ok (.if_icmp .ne 23, 3) := by decide +kernel
theorem dX8_readMarket_112 : decode cX8_readMarket 112 = .ok (.iload_n 2, 1) := by decide +kernel
theorem dX8_readMarket_113 : decode cX8_readMarket 113 = .ok (.ifCond .ne 19, 3) := by decide +kernel
