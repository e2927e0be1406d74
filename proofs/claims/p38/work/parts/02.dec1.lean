theorem dX0_init_0 : decode cX0_init 0 = .ok (.aload_n 0, 1) := by decide +kernel
theorem dX0_init_1 : decode cX0_init 1 = .ok (.invokespecial 3, 3) := by decide +kernel
theorem dX0_init_4 : decode cX0_init 4 = .ok (.aload_n 0, 1) := by decide +kernel
theorem dX0_init_5 : decode cX0_init 5 = .ok (.iconst 0, 1) := by decide +kernel
theorem dX0_init_6 : decode cX0_init 6 = .ok (.putfield 9, 3) := by decide +kernel
theorem dX0_init_9 : decode cX0_init 9 = .ok (.aload_n 0, 1) := by decide +kernel
theorem dX0_init_10 : decode cX0_init 10 = .ok (.iconst 5, 1) := by decide +kernel
theorem dX0_init_11 : decode cX0_init 11 = .ok (.newarray .int, 2) := by decide +kernel
theorem dX0_init_13 : decode cX0_init 13 = .ok (.putfield 15, 3) := by decide +kernel
theorem dX0_init_16 : decode cX0_init 16 = .ok (.aload_n 0, 1) := by decide +kernel
theorem dX0_init_17 : decode cX0_init 17 = .ok (.iconst 5, 1) := by decide +kernel
theorem dX0_init_18 : decode cX0_init 18 = .ok (.newarray .int, 2) := by decide +kernel
theorem dX0_init_20 : decode cX0_init 20 = .ok (.putfield 19, 3) := by decide +kernel
theorem dX0_init_23 : decode cX0_init 23 = .ok (.return_, 1) := by decide +kernel
theorem dX1_init_0 : decode cX1_init 0 = .ok (.aload_n 0, 1) := by decide +kernel
theorem dX1_init_1 : decode cX1_init 1 = .ok (.invokespecial 3, 3) := by decide +kernel
theorem dX1_init_4 : decode cX1_init 4 = .ok (.aload_n 0, 1) := by decide +kernel
theorem dX1_init_5 : decode cX1_init 5 = .ok (.iconst 0, 1) := by decide +kernel
theorem dX1_init_6 : decode cX1_init 6 = .ok (.putfield 9, 3) := by decide +kernel
theorem dX1_init_9 : decode cX1_init 9 = .ok (.aload_n 0, 1) := by decide +kernel
theorem dX1_init_10 : decode cX1_init 10 = .ok (.bipush 6, 2) := by decide +kernel
theorem dX1_init_12 : decode cX1_init 12 = .ok (.newarray .int, 2) := by decide +kernel
theorem dX1_init_14 : decode cX1_init 14 = .ok (.putfield 15, 3) := by decide +kernel
theorem dX1_init_17 : decode cX1_init 17 = .ok (.aload_n 0, 1) := by decide +kernel
theorem dX1_init_18 : decode cX1_init 18 = .ok (.bipush 6, 2) := by decide +kernel
theorem dX1_init_20 : decode cX1_init 20 = .ok (.newarray .int, 2) := by decide +kernel
theorem dX1_init_22 : decode cX1_init 22 = .ok (.putfield 19, 3) := by decide +kernel
theorem dX1_init_25 : decode cX1_init 25 = .ok (.return_, 1) := by decide +kernel
theorem dX1_has_0 : decode cX1_has 0 = .ok (.iload_n 1, 1) := by decide +kernel
theorem dX1_has_1 : decode cX1_has 1 = .ok (.ifCond .lt 21, 3) := by decide +kernel
theorem dX1_has_4 : decode cX1_has 4 = .ok (.iload_n 1, 1) := by decide +kernel
theorem dX1_has_5 : decode cX1_has 5 = .ok (.aload_n 0, 1) := by decide +kernel
theorem dX1_has_6 : decode cX1_has 6 = .ok (.getfield 9, 3) := by decide +kernel
theorem dX1_has_9 : decode cX1_has 9 = .ok (.if_icmp .ge 13, 3) := by decide +kernel
theorem dX1_has_12 : decode cX1_has 12 = .ok (.iload_n 1, 1) := by decide +kernel
theorem dX1_has_13 : decode cX1_has 13 = .ok (.bipush 6, 2) := by decide +kernel
theorem dX1_has_15 : decode cX1_has 15 = .ok (.if_icmp .ge 7, 3) := by decide +kernel
theorem dX1_has_18 : decode cX1_has 18 = .ok (.iconst 1, 1) := by decide +kernel
theorem dX1_has_19 : decode cX1_has 19 = .ok (.goto 4, 3) := by decide +kernel
theorem dX1_has_22 : decode cX1_has 22 = .ok (.iconst 0, 1) := by decide +kernel
theorem dX1_has_23 : decode cX1_has 23 = .ok (.ireturn, 1) := by decide +kernel
theorem dX1_kindOf_0 : decode cX1_kindOf 0 = .ok (.aload_n 0, 1) := by decide +kernel
theorem dX1_kindOf_1 : decode cX1_kindOf 1 = .ok (.iload_n 1, 1) := by decide +kernel
theorem dX1_kindOf_2 : decode cX1_kindOf 2 = .ok (.invokevirtual 22, 3) := by decide +kernel
theorem dX1_kindOf_5 : decode cX1_kindOf 5 = .ok (.ifCond .eq 12, 3) := by decide +kernel
theorem dX1_kindOf_8 : decode cX1_kindOf 8 = .ok (.aload_n 0, 1) := by decide +kernel
theorem dX1_kindOf_9 : decode cX1_kindOf 9 = .ok (.getfield 15, 3) := by decide +kernel
theorem dX1_kindOf_12 : decode cX1_kindOf 12 = .ok (.iload_n 1, 1) := by decide +kernel
theorem dX1_kindOf_13 : decode cX1_kindOf 13 = .ok (.iaload, 1) := by decide +kernel
theorem dX1_kindOf_14 : decode cX1_kindOf 14 = .ok (.goto 4, 3) := by decide +kernel
theorem dX1_kindOf_17 : decode cX1_kindOf 17 = .ok (.iconst 0, 1) := by decide +kernel
theorem dX1_kindOf_18 : decode cX1_kindOf 18 = .ok (.ireturn, 1) := by decide +kernel
theorem dX1_clear_0 : decode cX1_clear 0 = .ok (.aload_n 0, 1) := by decide +kernel
theorem dX1_clear_1 : decode cX1_clear 1 = .ok (.iconst 0, 1) := by decide +kernel
theorem dX1_clear_2 : decode cX1_clear 2 = .ok (.putfield 9, 3) := by decide +kernel
theorem dX1_clear_5 : decode cX1_clear 5 = .ok (.return_, 1) := by decide +kernel
theorem dX1_add_0 : decode cX1_add 0 = .ok (.aload_n 0, 1) := by decide +kernel
theorem dX1_add_1 : decode cX1_add 1 = .ok (.getfield 9, 3) := by decide +kernel
theorem dX1_add_4 : decode cX1_add 4 = .ok (.bipush 6, 2) := by decide +kernel
theorem dX1_add_6 : decode cX1_add 6 = .ok (.if_icmp .lt 6, 3) := by decide +kernel
theorem dX1_add_9 : decode cX1_add 9 = .ok (.bipush (-4), 2) := by decide +kernel
theorem dX1_add_11 : decode cX1_add 11 = .ok (.ireturn, 1) := by decide +kernel
theorem dX1_add_12 : decode cX1_add 12 = .ok (.aload_n 0, 1) := by decide +kernel
theorem dX1_add_13 : decode cX1_add 13 = .ok (.getfield 15, 3) := by decide +kernel
theorem dX1_add_16 : decode cX1_add 16 = .ok (.aload_n 0, 1) := by decide +kernel
theorem dX1_add_17 : decode cX1_add 17 = .ok (.getfield 9, 3) := by decide +kernel
theorem dX1_add_20 : decode cX1_add 20 = .ok (.iload_n 1, 1) := by decide +kernel
theorem dX1_add_21 : decode cX1_add 21 = .ok (.iastore, 1) := by decide +kernel
theorem dX1_add_22 : decode cX1_add 22 = .ok (.aload_n 0, 1) := by decide +kernel
theorem dX1_add_23 : decode cX1_add 23 = .ok (.getfield 19, 3) := by decide +kernel
theorem dX1_add_26 : decode cX1_add 26 = .ok (.aload_n 0, 1) := by decide +kernel
theorem dX1_add_27 : decode cX1_add 27 = .ok (.getfield 9, 3) := by decide +kernel
theorem dX1_add_30 : decode cX1_add 30 = .ok (.iload_n 2, 1) := by decide +kernel
theorem dX1_add_31 : decode cX1_add 31 = .ok (.iastore, 1) := by decide +kernel
theorem dX1_add_32 : decode cX1_add 32 = .ok (.aload_n 0, 1) := by decide +kernel
theorem dX1_add_33 : decode cX1_add 33 = .ok (.dup, 1) := by decide +kernel
theorem dX1_add_34 : decode cX1_add 34 = .ok (.getfield 9, 3) := by decide +kernel
theorem dX1_add_37 : decode cX1_add 37 = .ok (.iconst 1, 1) := by decide +kernel
theorem dX1_add_38 : decode cX1_add 38 = .ok (.iadd, 1) := by decide +kernel
theorem dX1_add_39 : decode cX1_add 39 = .ok (.putfield 9, 3) := by decide +kernel
theorem dX1_add_42 : decode cX1_add 42 = .ok (.aload_n 0, 1) := by decide +kernel
theorem dX1_add_43 : decode cX1_add 43 = .ok (.getfield 9, 3) := by decide +kernel
theorem dX1_add_46 : decode cX1_add 46 = .ok (.iconst 1, 1) := by decide +kernel
theorem dX1_add_47 : decode cX1_add 47 = .ok (.isub, 1) := by decide +kernel
theorem dX1_add_48 : decode cX1_add 48 = .ok (.ireturn, 1) := by decide +kernel
theorem dX1_timesOf_0 : decode cX1_timesOf 0 = .ok (.aload_n 0, 1) := by decide +kernel
theorem dX1_timesOf_1 : decode cX1_timesOf 1 = .ok (.iload_n 1, 1) := by decide +kernel
theorem dX1_timesOf_2 : decode cX1_timesOf 2 = .ok (.invokevirtual 22, 3) := by decide +kernel
theorem dX1_timesOf_5 : decode cX1_timesOf 5 = .ok (.ifCond .ne 5, 3) := by decide +kernel
theorem dX1_timesOf_8 : decode cX1_timesOf 8 = .ok (.iconst 1, 1) := by decide +kernel
theorem dX1_timesOf_9 : decode cX1_timesOf 9 = .ok (.ireturn, 1) := by decide +kernel
theorem dX1_timesOf_10 : decode cX1_timesOf 10 = .ok (.aload_n 0, 1) := by decide +kernel
theorem dX1_timesOf_11 : decode cX1_timesOf 11 = .ok (.getfield 15, 3) := by decide +kernel
theorem dX1_timesOf_14 : decode cX1_timesOf 14 = .ok (.iload_n 1, 1) := by decide +kernel
theorem dX1_timesOf_15 : decode cX1_timesOf 15 = .ok (.iaload, 1) := by decide +kernel
theorem dX1_timesOf_16 : decode cX1_timesOf 16 = .ok (.ifCond .ne 12, 3) := by decide +kernel
theorem dX1_timesOf_19 : decode cX1_timesOf 19 = .ok (.aload_n 0, 1) := by decide +kernel
theorem dX1_timesOf_20 : decode cX1_timesOf 20 = .ok (.getfield 19, 3) := by decide +kernel
theorem dX1_timesOf_23 : decode cX1_timesOf 23 = .ok (.iload_n 1, 1) := by decide +kernel
theorem dX1_timesOf_24 : decode cX1_timesOf 24 = .ok (.iaload, 1) := by decide +kernel
theorem dX1_timesOf_25 : decode cX1_timesOf 25 = .ok (.goto 11, 3) := by decide +kernel
theorem dX1_timesOf_28 : decode cX1_timesOf 28 = .ok (.iconst 2, 1) := by decide +kernel
theorem dX1_timesOf_29 : decode cX1_timesOf 29 = .ok (.aload_n 0, 1) := by decide +kernel
theorem dX1_timesOf_30 : decode cX1_timesOf 30 = .ok (.getfield 19, 3) := by decide +kernel
theorem dX1_timesOf_33 : decode cX1_timesOf 33 = .ok (.iload_n 1, 1) := by decide +kernel
theorem dX1_timesOf_34 : decode cX1_timesOf 34 = .ok (.iaload, 1) := by decide +kernel
theorem dX1_timesOf_35 : decode cX1_timesOf 35 = .ok (.imul, 1) := by decide +kernel
theorem dX1_timesOf_36 : decode cX1_timesOf 36 = .ok (.ireturn, 1) := by decide +kernel
theorem dX1_feelsHeavier_0 : decode cX1_feelsHeavier 0 = .ok (.iload_n 2, 1) := by decide +kernel
theorem dX1_feelsHeavier_1 : decode cX1_feelsHeavier 1 = .ok (.iload_n 3, 1) := by decide +kernel
theorem dX1_feelsHeavier_2 : decode cX1_feelsHeavier 2 = .ok (.if_icmp .gt 5, 3) := by decide +kernel
theorem dX1_feelsHeavier_5 : decode cX1_feelsHeavier 5 = .ok (.iconst 0, 1) := by decide +kernel
theorem dX1_feelsHeavier_6 : decode cX1_feelsHeavier 6 = .ok (.ireturn, 1) := by decide +kernel
theorem dX1_feelsHeavier_7 : decode cX1_feelsHeavier 7 = .ok (.iload_n 2, 1) := by decide +kernel
theorem dX1_feelsHeavier_8 : decode cX1_feelsHeavier 8 = .ok (.iload_n 3, 1) := by decide +kernel
theorem dX1_feelsHeavier_9 : decode cX1_feelsHeavier 9 = .ok (.isub, 1) := by decide +kernel
theorem dX1_feelsHeavier_10 : decode cX1_feelsHeavier 10 = .ok (.aload_n 0, 1) := by decide +kernel
theorem dX1_feelsHeavier_11 : decode cX1_feelsHeavier 11 = .ok (.iload_n 1, 1) := by decide +kernel
theorem dX1_feelsHeavier_12 : decode cX1_feelsHeavier 12 = .ok (.invokevirtual 26, 3) := by decide +kernel
theorem dX1_feelsHeavier_15 : decode cX1_feelsHeavier 15 = .ok (.imul, 1) := by decide +kernel
theorem dX1_feelsHeavier_16 : decode cX1_feelsHeavier 16 = .ok (.istore 4, 2) := by decide +kernel
theorem dX1_feelsHeavier_18 : decode cX1_feelsHeavier 18 = .ok (.iload 4, 2) := by decide +kernel
theorem dX1_feelsHeavier_20 : decode cX1_feelsHeavier 20 = .ok (.iload_n 3, 1) := by decide +kernel
theorem dX1_feelsHeavier_21 : decode cX1_feelsHeavier 21 = .ok (.if_icmp .gt 18, 3) := by decide +kernel
theorem dX1_feelsHeavier_24 : decode cX1_feelsHeavier 24 = .ok (.aload_n 0, 1) := by decide +kernel
theorem dX1_feelsHeavier_25 : decode cX1_feelsHeavier 25 = .ok (.iload_n 1, 1) := by decide +kernel
theorem dX1_feelsHeavier_26 : decode cX1_feelsHeavier 26 = .ok (.invokevirtual 30, 3) := by decide +kernel
theorem dX1_feelsHeavier_29 : decode cX1_feelsHeavier 29 = .ok (.iconst 2, 1) := by decide +kernel
theorem dX1_feelsHeavier_30 : decode cX1_feelsHeavier 30 = .ok (.if_icmp .ne 13, 3) := by decide +kernel
theorem dX1_feelsHeavier_33 : decode cX1_feelsHeavier 33 = .ok (.iload 4, 2) := by decide +kernel
theorem dX1_feelsHeavier_35 : decode cX1_feelsHeavier 35 = .ok (.iload_n 3, 1) := by decide +kernel
theorem dX1_feelsHeavier_36 : decode cX1_feelsHeavier 36 = .ok (.if_icmp .ne 7, 3) := by decide +kernel
theorem dX1_feelsHeavier_39 : decode cX1_feelsHeavier 39 = .ok (.iconst 1, 1) := by decide +kernel
theorem dX1_feelsHeavier_40 : decode cX1_feelsHeavier 40 = .ok (.goto 4, 3) := by decide +kernel
theorem dX1_feelsHeavier_43 : decode cX1_feelsHeavier 43 = .ok (.iconst 0, 1) := by decide +kernel
theorem dX1_feelsHeavier_44 : decode cX1_feelsHeavier 44 = .ok (.ireturn, 1) := by decide +kernel
theorem dX1_feelsAlike_0 : decode cX1_feelsAlike 0 = .ok (.aload_n 0, 1) := by decide +kernel
theorem dX1_feelsAlike_1 : decode cX1_feelsAlike 1 = .ok (.iload_n 1, 1) := by decide +kernel
theorem dX1_feelsAlike_2 : decode cX1_feelsAlike 2 = .ok (.iload_n 2, 1) := by decide +kernel
theorem dX1_feelsAlike_3 : decode cX1_feelsAlike 3 = .ok (.iload_n 3, 1) := by decide +kernel
theorem dX1_feelsAlike_4 : decode cX1_feelsAlike 4 = .ok (.invokevirtual 33, 3) := by decide +kernel
theorem dX1_feelsAlike_7 : decode cX1_feelsAlike 7 = .ok (.ifCond .ne 17, 3) := by decide +kernel
theorem dX1_feelsAlike_10 : decode cX1_feelsAlike 10 = .ok (.aload_n 0, 1) := by decide +kernel
theorem dX1_feelsAlike_11 : decode cX1_feelsAlike 11 = .ok (.iload_n 1, 1) := by decide +kernel
theorem dX1_feelsAlike_12 : decode cX1_feelsAlike 12 = .ok (.iload_n 3, 1) := by decide +kernel
theorem dX1_feelsAlike_13 : decode cX1_feelsAlike 13 = .ok (.iload_n 2, 1) := by decide +kernel
theorem dX1_feelsAlike_14 : decode cX1_feelsAlike 14 = .ok (.invokevirtual 33, 3) := by decide +kernel
theorem dX1_feelsAlike_17 : decode cX1_feelsAlike 17 = .ok (.ifCond .ne 7, 3) := by decide +kernel
theorem dX1_feelsAlike_20 : decode cX1_feelsAlike 20 = .ok (.iconst 1, 1) := by decide +kernel
theorem dX1_feelsAlike_21 : decode cX1_feelsAlike 21 = .ok (.goto 4, 3) := by decide +kernel
theorem dX1_feelsAlike_24 : decode cX1_feelsAlike 24 = .ok (.iconst 0, 1) := by decide +kernel
theorem dX1_feelsAlike_25 : decode cX1_feelsAlike 25 = .ok (.ireturn, 1) := by decide +kernel
theorem dX2_init_0 : decode cX2_init 0 = .ok (.aload_n 0, 1) := by decide +kernel
theorem dX2_init_1 : decode cX2_init 1 = .ok (.invokespecial 3, 3) := by decide +kernel
theorem dX2_init_4 : decode cX2_init 4 = .ok (.aload_n 0, 1) := by decide +kernel
theorem dX2_init_5 : decode cX2_init 5 = .ok (.iconst 0, 1) := by decide +kernel
theorem dX2_init_6 : decode cX2_init 6 = .ok (.putfield 9, 3) := by decide +kernel
theorem dX2_init_9 : decode cX2_init 9 = .ok (.aload_n 0, 1) := by decide +kernel
theorem dX2_init_10 : decode cX2_init 10 = .ok (.bipush 10, 2) := by decide +kernel
theorem dX2_init_12 : decode cX2_init 12 = .ok (.newarray .int, 2) := by decide +kernel
theorem dX2_init_14 : decode cX2_init 14 = .ok (.putfield 15, 3) := by decide +kernel
theorem dX2_init_17 : decode cX2_init 17 = .ok (.aload_n 0, 1) := by decide +kernel
theorem dX2_init_18 : decode cX2_init 18 = .ok (.bipush 10, 2) := by decide +kernel
theorem dX2_init_20 : decode cX2_init 20 = .ok (.newarray .int, 2) := by decide +kernel
theorem dX2_init_22 : decode cX2_init 22 = .ok (.putfield 19, 3) := by decide +kernel
theorem dX2_init_25 : decode cX2_init 25 = .ok (.aload_n 0, 1) := by decide +kernel
theorem dX2_init_26 : decode cX2_init 26 = .ok (.bipush 10, 2) := by decide +kernel
theorem dX2_init_28 : decode cX2_init 28 = .ok (.newarray .int, 2) := by decide +kernel
theorem dX2_init_30 : decode cX2_init 30 = .ok (.putfield 22, 3) := by decide +kernel
theorem dX2_init_33 : decode cX2_init 33 = .ok (.aload_n 0, 1) := by decide +kernel
theorem dX2_init_34 : decode cX2_init 34 = .ok (.bipush 10, 2) := by decide +kernel
theorem dX2_init_36 : decode cX2_init 36 = .ok (.newarray .int, 2) := by decide +kernel
theorem dX2_init_38 : decode cX2_init 38 = .ok (.putfield 25, 3) := by decide +kernel
theorem dX2_init_41 : decode cX2_init 41 = .ok (.return_, 1) := by decide +kernel
theorem dX2_clear_0 : decode cX2_clear 0 = .ok (.aload_n 0, 1) := by decide +kernel
theorem dX2_clear_1 : decode cX2_clear 1 = .ok (.iconst 0, 1) := by decide +kernel
theorem dX2_clear_2 : decode cX2_clear 2 = .ok (.putfield 9, 3) := by decide +kernel
theorem dX2_clear_5 : decode cX2_clear 5 = .ok (.return_, 1) := by decide +kernel
theorem dX3_init_0 : decode cX3_init 0 = .ok (.aload_n 0, 1) := by decide +kernel
theorem dX3_init_1 : decode cX3_init 1 = .ok (.invokespecial 3, 3) := by decide +kernel
theorem dX3_init_4 : decode cX3_init 4 = .ok (.aload_n 0, 1) := by decide +kernel
theorem dX3_init_5 : decode cX3_init 5 = .ok (.iconst 4, 1) := by decide +kernel
theorem dX3_init_6 : decode cX3_init 6 = .ok (.newarray .boolean, 2) := by decide +kernel
theorem dX3_init_8 : decode cX3_init 8 = .ok (.putfield 9, 3) := by decide +kernel
theorem dX3_init_11 : decode cX3_init 11 = .ok (.aload_n 0, 1) := by decide +kernel
theorem dX3_init_12 : decode cX3_init 12 = .ok (.iconst 4, 1) := by decide +kernel
theorem dX3_init_13 : decode cX3_init 13 = .ok (.newarray .int, 2) := by decide +kernel
theorem dX3_init_15 : decode cX3_init 15 = .ok (.putfield 15, 3) := by decide +kernel
theorem dX3_init_18 : decode cX3_init 18 = .ok (.aload_n 0, 1) := by decide +kernel
theorem dX3_init_19 : decode cX3_init 19 = .ok (.iconst 4, 1) := by decide +kernel
theorem dX3_init_20 : decode cX3_init 20 = .ok (.newarray .int, 2) := by decide +kernel
theorem dX3_init_22 : decode cX3_init 22 = .ok (.putfield 19, 3) := by decide +kernel
theorem dX3_init_25 : decode cX3_init 25 = .ok (.aload_n 0, 1) := by decide +kernel
theorem dX3_init_26 : decode cX3_init 26 = .ok (.iconst 4, 1) := by decide +kernel
theorem dX3_init_27 : decode cX3_init 27 = .ok (.bipush 40, 2) := by decide +kernel
theorem dX3_init_29 : decode cX3_init 29 = .ok (.multianewarray 22 2, 4) := by decide +kernel
theorem dX3_init_33 : decode cX3_init 33 = .ok (.putfield 24, 3) := by decide +kernel
theorem dX3_init_36 : decode cX3_init 36 = .ok (.return_, 1) := by decide +kernel
theorem dX3_has_0 : decode cX3_has 0 = .ok (.iload_n 1, 1) := by decide +kernel
theorem dX3_has_1 : decode cX3_has 1 = .ok (.ifCond .lt 12, 3) := by decide +kernel
theorem dX3_has_4 : decode cX3_has 4 = .ok (.iload_n 1, 1) := by decide +kernel
theorem dX3_has_5 : decode cX3_has 5 = .ok (.iconst 4, 1) := by decide +kernel
theorem dX3_has_6 : decode cX3_has 6 = .ok (.if_icmp .ge 7, 3) := by decide +kernel
theorem dX3_has_9 : decode cX3_has 9 = .ok (.iconst 1, 1) := by decide +kernel
theorem dX3_has_10 : decode cX3_has 10 = .ok (.goto 4, 3) := by decide +kernel
theorem dX3_has_13 : decode cX3_has 13 = .ok (.iconst 0, 1) := by decide +kernel
theorem dX3_has_14 : decode cX3_has 14 = .ok (.ireturn, 1) := by decide +kernel
theorem dX3_hasRow_0 : decode cX3_hasRow 0 = .ok (.aload_n 0, 1) := by decide +kernel
theorem dX3_hasRow_1 : decode cX3_hasRow 1 = .ok (.iload_n 1, 1) := by decide +kernel
theorem dX3_hasRow_2 : decode cX3_hasRow 2 = .ok (.invokevirtual 27, 3) := by decide +kernel
theorem dX3_hasRow_5 : decode cX3_hasRow 5 = .ok (.ifCond .eq 16, 3) := by decide +kernel
theorem dX3_hasRow_8 : decode cX3_hasRow 8 = .ok (.aload_n 0, 1) := by decide +kernel
theorem dX3_hasRow_9 : decode cX3_hasRow 9 = .ok (.getfield 9, 3) := by decide +kernel
theorem dX3_hasRow_12 : decode cX3_hasRow 12 = .ok (.iload_n 1, 1) := by decide +kernel
theorem dX3_hasRow_13 : decode cX3_hasRow 13 = .ok (.baload, 1) := by decide +kernel
theorem dX3_hasRow_14 : decode cX3_hasRow 14 = .ok (.ifCond .eq 7, 3) := by decide +kernel
theorem dX3_hasRow_17 : decode cX3_hasRow 17 = .ok (.iconst 1, 1) := by decide +kernel
theorem dX3_hasRow_18 : decode cX3_hasRow 18 = .ok (.goto 4, 3) := by decide +kernel
theorem dX3_hasRow_21 : decode cX3_hasRow 21 = .ok (.iconst 0, 1) := by decide +kernel
theorem dX3_hasRow_22 : decode cX3_hasRow 22 = .ok (.ireturn, 1) := by decide +kernel
theorem dX3_sortOf_0 : decode cX3_sortOf 0 = .ok (.aload_n 0, 1) := by decide +kernel
theorem dX3_sortOf_1 : decode cX3_sortOf 1 = .ok (.iload_n 1, 1) := by decide +kernel
theorem dX3_sortOf_2 : decode cX3_sortOf 2 = .ok (.invokevirtual 27, 3) := by decide +kernel
theorem dX3_sortOf_5 : decode cX3_sortOf 5 = .ok (.ifCond .eq 12, 3) := by decide +kernel
theorem dX3_sortOf_8 : decode cX3_sortOf 8 = .ok (.aload_n 0, 1) := by decide +kernel
theorem dX3_sortOf_9 : decode cX3_sortOf 9 = .ok (.getfield 15, 3) := by decide +kernel
theorem dX3_sortOf_12 : decode cX3_sortOf 12 = .ok (.iload_n 1, 1) := by decide +kernel
theorem dX3_sortOf_13 : decode cX3_sortOf 13 = .ok (.iaload, 1) := by decide +kernel
theorem dX3_sortOf_14 : decode cX3_sortOf 14 = .ok (.goto 4, 3) := by decide +kernel
theorem dX3_sortOf_17 : decode cX3_sortOf 17 = .ok (.iconst (-1), 1) := by decide +kernel
theorem dX3_sortOf_18 : decode cX3_sortOf 18 = .ok (.ireturn, 1) := by decide +kernel
theorem dX3_hasCells_0 : decode cX3_hasCells 0 = .ok (.aload_n 0, 1) := by decide +kernel
theorem dX3_hasCells_1 : decode cX3_hasCells 1 = .ok (.iload_n 1, 1) := by decide +kernel
theorem dX3_hasCells_2 : decode cX3_hasCells 2 = .ok (.invokevirtual 27, 3) := by decide +kernel
theorem dX3_hasCells_5 : decode cX3_hasCells 5 = .ok (.ifCond .eq 46, 3) := by decide +kernel
theorem dX3_hasCells_8 : decode cX3_hasCells 8 = .ok (.aload_n 0, 1) := by decide +kernel
theorem dX3_hasCells_9 : decode cX3_hasCells 9 = .ok (.getfield 9, 3) := by decide +kernel
theorem dX3_hasCells_12 : decode cX3_hasCells 12 = .ok (.iload_n 1, 1) := by decide +kernel
theorem dX3_hasCells_13 : decode cX3_hasCells 13 = .ok (.baload, 1) := by decide +kernel
theorem dX3_hasCells_14 : decode cX3_hasCells 14 = .ok (.ifCond .eq 37, 3) := by decide +kernel
theorem dX3_hasCells_17 : decode cX3_hasCells 17 = .ok (.iload_n 2, 1) := by decide +kernel
theorem dX3_hasCells_18 : decode cX3_hasCells 18 = .ok (.ifCond .lt 33, 3) := by decide +kernel
theorem dX3_hasCells_21 : decode cX3_hasCells 21 = .ok (.iload_n 3, 1) := by decide +kernel
theorem dX3_hasCells_22 : decode cX3_hasCells 22 = .ok (.ifCond .lt 29, 3) := by decide +kernel
theorem dX3_hasCells_25 : decode cX3_hasCells 25 = .ok (.iload_n 2, 1) := by decide +kernel
theorem dX3_hasCells_26 : decode cX3_hasCells 26 = .ok (.aload_n 0, 1) := by decide +kernel
theorem dX3_hasCells_27 : decode cX3_hasCells 27 = .ok (.getfield 19, 3) := by decide +kernel
theorem dX3_hasCells_30 : decode cX3_hasCells 30 = .ok (.iload_n 1, 1) := by decide +kernel
theorem dX3_hasCells_31 : decode cX3_hasCells 31 = .ok (.iaload, 1) := by decide +kernel
theorem dX3_hasCells_32 : decode cX3_hasCells 32 = .ok (.if_icmp .gt 19, 3) := by decide +kernel
theorem dX3_hasCells_35 : decode cX3_hasCells 35 = .ok (.iload_n 3, 1) := by decide +kernel
theorem dX3_hasCells_36 : decode cX3_hasCells 36 = .ok (.aload_n 0, 1) := by decide +kernel
theorem dX3_hasCells_37 : decode cX3_hasCells 37 = .ok (.getfield 19, 3) := by decide +kernel
theorem dX3_hasCells_40 : decode cX3_hasCells 40 = .ok (.iload_n 1, 1) := by decide +kernel
theorem dX3_hasCells_41 : decode cX3_hasCells 41 = .ok (.iaload, 1) := by decide +kernel
theorem dX3_hasCells_42 : decode cX3_hasCells 42 = .ok (.iload_n 2, 1) := by decide +kernel
theorem dX3_hasCells_43 : decode cX3_hasCells 43 = .ok (.isub, 1) := by decide +kernel
theorem dX3_hasCells_44 : decode cX3_hasCells 44 = .ok (.if_icmp .gt 7, 3) := by decide +kernel
theorem dX3_hasCells_47 : decode cX3_hasCells 47 = .ok (.iconst 1, 1) := by decide +kernel
theorem dX3_hasCells_48 : decode cX3_hasCells 48 = .ok (.goto 4, 3) := by decide +kernel
theorem dX3_hasCells_51 : decode cX3_hasCells 51 = .ok (.iconst 0, 1) := by decide +kernel
theorem dX3_hasCells_52 : decode cX3_hasCells 52 = .ok (.ireturn, 1) := by decide +kernel
theorem dX3_faultOfTaking_0 : decode cX3_faultOfTaking 0 = .ok (.aload_n 0, 1) := by decide +kernel
theorem dX3_faultOfTaking_1 : decode cX3_faultOfTaking 1 = .ok (.iload_n 1, 1) := by decide +kernel
theorem dX3_faultOfTaking_2 : decode cX3_faultOfTaking 2 = .ok (.invokevirtual 31, 3) := by decide +kernel
theorem dX3_faultOfTaking_5 : decode cX3_faultOfTaking 5 = .ok (.ifCond .ne 5, 3) := by decide +kernel
theorem dX3_faultOfTaking_8 : decode cX3_faultOfTaking 8 = .ok (.iconst 1, 1) := by decide +kernel
theorem dX3_faultOfTaking_9 : decode cX3_faultOfTaking 9 = .ok (.ireturn, 1) := by decide +kernel
theorem dX3_faultOfTaking_10 : decode cX3_faultOfTaking 10 = .ok (.aload_n 0, 1) := by decide +kernel
theorem dX3_faultOfTaking_11 : decode cX3_faultOfTaking 11 = .ok (.iload_n 1, 1) := by decide +kernel
theorem dX3_faultOfTaking_12 : decode cX3_faultOfTaking 12 = .ok (.invokevirtual 34, 3) := by decide +kernel
theorem dX3_faultOfTaking_15 : decode cX3_faultOfTaking 15 = .ok (.iload_n 2, 1) := by decide +kernel
theorem dX3_faultOfTaking_16 : decode cX3_faultOfTaking 16 = .ok (.if_icmp .eq 5, 3) := by decide +kernel
theorem dX3_faultOfTaking_19 : decode cX3_faultOfTaking 19 = .ok (.iconst 2, 1) := by decide +kernel
theorem dX3_faultOfTaking_20 : decode cX3_faultOfTaking 20 = .ok (.ireturn, 1) := by decide +kernel
theorem dX3_faultOfTaking_21 : decode cX3_faultOfTaking 21 = .ok (.iload 4, 2) := by decide +kernel
theorem dX3_faultOfTaking_23 : decode cX3_faultOfTaking 23 = .ok (.ifCond .ge 5, 3) := by decide +kernel
theorem dX3_faultOfTaking_26 : decode cX3_faultOfTaking 26 = .ok (.iconst 4, 1) := by decide +kernel
theorem dX3_faultOfTaking_27 : decode cX3_faultOfTaking 27 = .ok (.ireturn, 1) := by decide +kernel
theorem dX3_faultOfTaking_28 : decode cX3_faultOfTaking 28 = .ok (.aload_n 0, 1) := by decide +kernel
theorem dX3_faultOfTaking_29 : decode cX3_faultOfTaking 29 = .ok (.iload_n 1, 1) := by decide +kernel
theorem dX3_faultOfTaking_30 : decode cX3_faultOfTaking 30 = .ok (.iload_n 3, 1) := by decide +kernel
theorem dX3_faultOfTaking_31 : decode cX3_faultOfTaking 31 = .ok (.iload 4, 2) := by decide +kernel
theorem dX3_faultOfTaking_33 : decode cX3_faultOfTaking 33 = .ok (.invokevirtual 38, 3) := by decide +kernel
theorem dX3_faultOfTaking_36 : decode cX3_faultOfTaking 36 = .ok (.ifCond .eq 7, 3) := by decide +kernel
theorem dX3_faultOfTaking_39 : decode cX3_faultOfTaking 39 = .ok (.iconst 0, 1) := by decide +kernel
theorem dX3_faultOfTaking_40 : decode cX3_faultOfTaking 40 = .ok (.goto 4, 3) := by decide +kernel
theorem dX3_faultOfTaking_43 : decode cX3_faultOfTaking 43 = .ok (.iconst 3, 1) := by decide +kernel
theorem dX3_faultOfTaking_44 : decode cX3_faultOfTaking 44 = .ok (.ireturn, 1) := by decide +kernel
theorem dX3_renew_0 : decode cX3_renew 0 = .ok (.aload_n 0, 1) := by decide +kernel
theorem dX3_renew_1 : decode cX3_renew 1 = .ok (.iload_n 1, 1) := by decide +kernel
theorem dX3_renew_2 : decode cX3_renew 2 = .ok (.invokevirtual 27, 3) := by decide +kernel
theorem dX3_renew_5 : decode cX3_renew 5 = .ok (.ifCond .eq 13, 3) := by decide +kernel
theorem dX3_renew_8 : decode cX3_renew 8 = .ok (.iload_n 3, 1) := by decide +kernel
theorem dX3_renew_9 : decode cX3_renew 9 = .ok (.ifCond .lt 9, 3) := by decide +kernel
theorem dX3_renew_12 : decode cX3_renew 12 = .ok (.iload_n 3, 1) := by decide +kernel
theorem dX3_renew_13 : decode cX3_renew 13 = .ok (.bipush 40, 2) := by decide +kernel
theorem dX3_renew_15 : decode cX3_renew 15 = .ok (.if_icmp .le 4, 3) := by decide +kernel
theorem dX3_renew_18 : decode cX3_renew 18 = .ok (.return_, 1) := by decide +kernel
theorem dX3_renew_19 : decode cX3_renew 19 = .ok (.aload_n 0, 1) := by decide +kernel
theorem dX3_renew_20 : decode cX3_renew 20 = .ok (.getfield 9, 3) := by decide +kernel
theorem dX3_renew_23 : decode cX3_renew 23 = .ok (.iload_n 1, 1) := by decide +kernel
theorem dX3_renew_24 : decode cX3_renew 24 = .ok (.iconst 1, 1) := by decide +kernel
theorem dX3_renew_25 : decode cX3_renew 25 = .ok (.bastore, 1) := by decide +kernel
theorem dX3_renew_26 : decode cX3_renew 26 = .ok (.aload_n 0, 1) := by decide +kernel
theorem dX3_renew_27 : decode cX3_renew 27 = .ok (.getfield 15, 3) := by decide +kernel
theorem dX3_renew_30 : decode cX3_renew 30 = .ok (.iload_n 1, 1) := by decide +kernel
theorem dX3_renew_31 : decode cX3_renew 31 = .ok (.iload_n 2, 1) := by decide +kernel
theorem dX3_renew_32 : decode cX3_renew 32 = .ok (.iastore, 1) := by decide +kernel
theorem dX3_renew_33 : decode cX3_renew 33 = .ok (.aload_n 0, 1) := by decide +kernel
theorem dX3_renew_34 : decode cX3_renew 34 = .ok (.getfield 19, 3) := by decide +kernel
theorem dX3_renew_37 : decode cX3_renew 37 = .ok (.iload_n 1, 1) := by decide +kernel
theorem dX3_renew_38 : decode cX3_renew 38 = .ok (.iload_n 3, 1) := by decide +kernel
theorem dX3_renew_39 : decode cX3_renew 39 = .ok (.iastore, 1) := by decide +kernel
theorem dX3_renew_40 : decode cX3_renew 40 = .ok (.iconst 0, 1) := by decide +kernel
theorem dX3_renew_41 : decode cX3_renew 41 = .ok (.istore 4, 2) := by decide +kernel
theorem dX3_renew_43 : decode cX3_renew 43 = .ok (.iload 4, 2) := by decide +kernel
theorem dX3_renew_45 : decode cX3_renew 45 = .ok (.iload_n 3, 1) := by decide +kernel
theorem dX3_renew_46 : decode cX3_renew 46 = .ok (.if_icmp .ge 19, 3) := by decide +kernel
theorem dX3_renew_49 : decode cX3_renew 49 = .ok (.aload_n 0, 1) := by decide +kernel
theorem dX3_renew_50 : decode cX3_renew 50 = .ok (.getfield 24, 3) := by decide +kernel
theorem dX3_renew_53 : decode cX3_renew 53 = .ok (.iload_n 1, 1) := by decide +kernel
theorem dX3_renew_54 : decode cX3_renew 54 = .ok (.aaload, 1) := by decide +kernel
theorem dX3_renew_55 : decode cX3_renew 55 = .ok (.iload 4, 2) := by decide +kernel
theorem dX3_renew_57 : decode cX3_renew 57 = .ok (.iconst 0, 1) := by decide +kernel
theorem dX3_renew_58 : decode cX3_renew 58 = .ok (.iastore, 1) := by decide +kernel
theorem dX3_renew_59 : decode cX3_renew 59 = .ok (.iinc 4 1, 3) := by decide +kernel
theorem dX3_renew_62 : decode cX3_renew 62 = .ok (.goto (-19), 3) := by decide +kernel
theorem dX3_renew_65 : decode cX3_renew 65 = .ok (.return_, 1) := by decide +kernel
theorem dX3_cellOf_0 : decode cX3_cellOf 0 = .ok (.aload_n 0, 1) := by decide +kernel
theorem dX3_cellOf_1 : decode cX3_cellOf 1 = .ok (.iload_n 1, 1) := by decide +kernel
theorem dX3_cellOf_2 : decode cX3_cellOf 2 = .ok (.iload_n 2, 1) := by decide +kernel
theorem dX3_cellOf_3 : decode cX3_cellOf 3 = .ok (.iconst 1, 1) := by decide +kernel
theorem dX3_cellOf_4 : decode cX3_cellOf 4 = .ok (.invokevirtual 38, 3) := by decide +kernel
theorem dX3_cellOf_7 : decode cX3_cellOf 7 = .ok (.ifCond .eq 14, 3) := by decide +kernel
theorem dX3_cellOf_10 : decode cX3_cellOf 10 = .ok (.aload_n 0, 1) := by decide +kernel
theorem dX3_cellOf_11 : decode cX3_cellOf 11 = .ok (.getfield 24, 3) := by decide +kernel
theorem dX3_cellOf_14 : decode cX3_cellOf 14 = .ok (.iload_n 1, 1) := by decide +kernel
theorem dX3_cellOf_15 : decode cX3_cellOf 15 = .ok (.aaload, 1) := by decide +kernel
theorem dX3_cellOf_16 : decode cX3_cellOf 16 = .ok (.iload_n 2, 1) := by decide +kernel
theorem dX3_cellOf_17 : decode cX3_cellOf 17 = .ok (.iaload, 1) := by decide +kernel
theorem dX3_cellOf_18 : decode cX3_cellOf 18 = .ok (.goto 4, 3) := by decide +kernel
theorem dX3_cellOf_21 : decode cX3_cellOf 21 = .ok (.iconst 0, 1) := by decide +kernel
theorem dX3_cellOf_22 : decode cX3_cellOf 22 = .ok (.ireturn, 1) := by decide +kernel
theorem dX3_setCell_0 : decode cX3_setCell 0 = .ok (.aload_n 0, 1) := by decide +kernel
theorem dX3_setCell_1 : decode cX3_setCell 1 = .ok (.iload_n 1, 1) := by decide +kernel
theorem dX3_setCell_2 : decode cX3_setCell 2 = .ok (.iload_n 2, 1) := by decide +kernel
theorem dX3_setCell_3 : decode cX3_setCell 3 = .ok (.iconst 1, 1) := by decide +kernel
theorem dX3_setCell_4 : decode cX3_setCell 4 = .ok (.invokevirtual 38, 3) := by decide +kernel
theorem dX3_setCell_7 : decode cX3_setCell 7 = .ok (.ifCond .eq 21, 3) := by decide +kernel
theorem dX3_setCell_10 : decode cX3_setCell 10 = .ok (.aload_n 0, 1) := by decide +kernel
theorem dX3_setCell_11 : decode cX3_setCell 11 = .ok (.getfield 24, 3) := by decide +kernel
theorem dX3_setCell_14 : decode cX3_setCell 14 = .ok (.iload_n 1, 1) := by decide +kernel
theorem dX3_setCell_15 : decode cX3_setCell 15 = .ok (.aaload, 1) := by decide +kernel
theorem dX3_setCell_16 : decode cX3_setCell 16 = .ok (.iload_n 2, 1) := by decide +kernel
theorem dX3_setCell_17 : decode cX3_setCell 17 = .ok (.aload_n 0, 1) := by decide +kernel
theorem dX3_setCell_18 : decode cX3_setCell 18 = .ok (.getfield 15, 3) := by decide +kernel
theorem dX3_setCell_21 : decode cX3_setCell 21 = .ok (.iload_n 1, 1) := by decide +kernel
theorem dX3_setCell_22 : decode cX3_setCell 22 = .ok (.iaload, 1) := by decide +kernel
theorem dX3_setCell_23 : decode cX3_setCell 23 = .ok (.iload_n 3, 1) := by decide +kernel
theorem dX3_setCell_24 : decode cX3_setCell 24 = .ok (.invokestatic 42, 3) := by decide +kernel
theorem dX3_setCell_27 : decode cX3_setCell 27 = .ok (.iastore, 1) := by decide +kernel
theorem dX3_setCell_28 : decode cX3_setCell 28 = .ok (.return_, 1) := by decide +kernel
theorem dX3_cut_0 : decode cX3_cut 0 = .ok (.iload_n 0, 1) := by decide +kernel
theorem dX3_cut_1 : decode cX3_cut 1 = .ok (.lookupswitch 33 #[(0, 27), (1, 30)], 27) := by decide +kernel
theorem dX3_cut_28 : decode cX3_cut 28 = .ok (.iload_n 1, 1) := by decide +kernel
theorem dX3_cut_29 : decode cX3_cut 29 = .ok (.i2b, 1) := by decide +kernel
theorem dX3_cut_30 : decode cX3_cut 30 = .ok (.ireturn, 1) := by decide +kernel
theorem dX3_cut_31 : decode cX3_cut 31 = .ok (.iload_n 1, 1) := by decide +kernel
theorem dX3_cut_32 : decode cX3_cut 32 = .ok (.i2s, 1) := by decide +kernel
theorem dX3_cut_33 : decode cX3_cut 33 = .ok (.ireturn, 1) := by decide +kernel
theorem dX3_cut_34 : decode cX3_cut 34 = .ok (.iload_n 1, 1) := by decide +kernel
theorem dX3_cut_35 : decode cX3_cut 35 = .ok (.ireturn, 1) := by decide +kernel
theorem dX4_init_0 : decode cX4_init 0 = .ok (.aload_n 0, 1) := by decide +kernel
theorem dX4_init_1 : decode cX4_init 1 = .ok (.invokespecial 3, 3) := by decide +kernel
theorem dX4_init_4 : decode cX4_init 4 = .ok (.aload_n 0, 1) := by decide +kernel
theorem dX4_init_5 : decode cX4_init 5 = .ok (.iconst 0, 1) := by decide +kernel
theorem dX4_init_6 : decode cX4_init 6 = .ok (.putfield 9, 3) := by decide +kernel
theorem dX4_init_9 : decode cX4_init 9 = .ok (.aload_n 0, 1) := by decide +kernel
theorem dX4_init_10 : decode cX4_init 10 = .ok (.bipush 8, 2) := by decide +kernel
theorem dX4_init_12 : decode cX4_init 12 = .ok (.newarray .int, 2) := by decide +kernel
theorem dX4_init_14 : decode cX4_init 14 = .ok (.putfield 15, 3) := by decide +kernel
theorem dX4_init_17 : decode cX4_init 17 = .ok (.aload_n 0, 1) := by decide +kernel
theorem dX4_init_18 : decode cX4_init 18 = .ok (.bipush 8, 2) := by decide +kernel
theorem dX4_init_20 : decode cX4_init 20 = .ok (.newarray .int, 2) := by decide +kernel
theorem dX4_init_22 : decode cX4_init 22 = .ok (.putfield 19, 3) := by decide +kernel
theorem dX4_init_25 : decode cX4_init 25 = .ok (.aload_n 0, 1) := by decide +kernel
theorem dX4_init_26 : decode cX4_init 26 = .ok (.sipush 256, 3) := by decide +kernel
theorem dX4_init_29 : decode cX4_init 29 = .ok (.newarray .int, 2) := by decide +kernel
theorem dX4_init_31 : decode cX4_init 31 = .ok (.putfield 22, 3) := by decide +kernel
theorem dX4_init_34 : decode cX4_init 34 = .ok (.return_, 1) := by decide +kernel
theorem dX4_lay_0 : decode cX4_lay 0 = .ok (.aload_n 0, 1) := by decide +kernel
theorem dX4_lay_1 : decode cX4_lay 1 = .ok (.aload_n 3, 1) := by decide +kernel
theorem dX4_lay_2 : decode cX4_lay 2 = .ok (.invokevirtual 25, 3) := by decide +kernel
theorem dX4_lay_5 : decode cX4_lay 5 = .ok (.bipush 8, 2) := by decide +kernel
theorem dX4_lay_7 : decode cX4_lay 7 = .ok (.invokestatic 30, 3) := by decide +kernel
theorem dX4_lay_10 : decode cX4_lay 10 = .ok (.putfield 9, 3) := by decide +kernel
theorem dX4_lay_13 : decode cX4_lay 13 = .ok (.iconst 0, 1) := by decide +kernel
theorem dX4_lay_14 : decode cX4_lay 14 = .ok (.istore 4, 2) := by decide +kernel
theorem dX4_lay_16 : decode cX4_lay 16 = .ok (.iload 4, 2) := by decide +kernel
theorem dX4_lay_18 : decode cX4_lay 18 = .ok (.aload_n 0, 1) := by decide +kernel
theorem dX4_lay_19 : decode cX4_lay 19 = .ok (.getfield 9, 3) := by decide +kernel
theorem dX4_lay_22 : decode cX4_lay 22 = .ok (.if_icmp .ge 111, 3) := by decide +kernel
theorem dX4_lay_25 : decode cX4_lay 25 = .ok (.aload_n 0, 1) := by decide +kernel
theorem dX4_lay_26 : decode cX4_lay 26 = .ok (.getfield 15, 3) := by decide +kernel
theorem dX4_lay_29 : decode cX4_lay 29 = .ok (.iload 4, 2) := by decide +kernel
theorem dX4_lay_31 : decode cX4_lay 31 = .ok (.iconst 0, 1) := by decide +kernel
theorem dX4_lay_32 : decode cX4_lay 32 = .ok (.iastore, 1) := by decide +kernel
theorem dX4_lay_33 : decode cX4_lay 33 = .ok (.aload_n 0, 1) := by decide +kernel
theorem dX4_lay_34 : decode cX4_lay 34 = .ok (.getfield 19, 3) := by decide +kernel
theorem dX4_lay_37 : decode cX4_lay 37 = .ok (.iload 4, 2) := by decide +kernel
theorem dX4_lay_39 : decode cX4_lay 39 = .ok (.iconst 0, 1) := by decide +kernel
theorem dX4_lay_40 : decode cX4_lay 40 = .ok (.iastore, 1) := by decide +kernel
theorem dX4_lay_41 : decode cX4_lay 41 = .ok (.iconst 0, 1) := by decide +kernel
theorem dX4_lay_42 : decode cX4_lay 42 = .ok (.istore 5, 2) := by decide +kernel
theorem dX4_lay_44 : decode cX4_lay 44 = .ok (.iload 5, 2) := by decide +kernel
theorem dX4_lay_46 : decode cX4_lay 46 = .ok (.aload_n 0, 1) := by decide +kernel
theorem dX4_lay_47 : decode cX4_lay 47 = .ok (.getfield 9, 3) := by decide +kernel
theorem dX4_lay_50 : decode cX4_lay 50 = .ok (.if_icmp .ge 77, 3) := by decide +kernel
theorem dX4_lay_53 : decode cX4_lay 53 = .ok (.aload_n 1, 1) := by decide +kernel
theorem dX4_lay_54 : decode cX4_lay 54 = .ok (.iload_n 2, 1) := by decide +kernel
theorem dX4_lay_55 : decode cX4_lay 55 = .ok (.aload_n 3, 1) := by decide +kernel
theorem dX4_lay_56 : decode cX4_lay 56 = .ok (.iload 4, 2) := by decide +kernel
theorem dX4_lay_58 : decode cX4_lay 58 = .ok (.invokevirtual 36, 3) := by decide +kernel
theorem dX4_lay_61 : decode cX4_lay 61 = .ok (.aload_n 3, 1) := by decide +kernel
theorem dX4_lay_62 : decode cX4_lay 62 = .ok (.iload 5, 2) := by decide +kernel
theorem dX4_lay_64 : decode cX4_lay 64 = .ok (.invokevirtual 36, 3) := by decide +kernel
theorem dX4_lay_67 : decode cX4_lay 67 = .ok (.invokevirtual 40, 3) := by decide +kernel
theorem dX4_lay_70 : decode cX4_lay 70 = .ok (.ifCond .eq 17, 3) := by decide +kernel
theorem dX4_lay_73 : decode cX4_lay 73 = .ok (.aload_n 0, 1) := by decide +kernel
theorem dX4_lay_74 : decode cX4_lay 74 = .ok (.getfield 15, 3) := by decide +kernel
theorem dX4_lay_77 : decode cX4_lay 77 = .ok (.iload 4, 2) := by decide +kernel
theorem dX4_lay_79 : decode cX4_lay 79 = .ok (.dup2, 1) := by decide +kernel
theorem dX4_lay_80 : decode cX4_lay 80 = .ok (.iaload, 1) := by decide +kernel
theorem dX4_lay_81 : decode cX4_lay 81 = .ok (.iconst 1, 1) := by decide +kernel
theorem dX4_lay_82 : decode cX4_lay 82 = .ok (.iload 5, 2) := by decide +kernel
theorem dX4_lay_84 : decode cX4_lay 84 = .ok (.ishl, 1) := by decide +kernel
theorem dX4_lay_85 : decode cX4_lay 85 = .ok (.ior, 1) := by decide +kernel
theorem dX4_lay_86 : decode cX4_lay 86 = .ok (.iastore, 1) := by decide +kernel
theorem dX4_lay_87 : decode cX4_lay 87 = .ok (.aload_n 1, 1) := by decide +kernel
theorem dX4_lay_88 : decode cX4_lay 88 = .ok (.iload_n 2, 1) := by decide +kernel
theorem dX4_lay_89 : decode cX4_lay 89 = .ok (.aload_n 3, 1) := by decide +kernel
theorem dX4_lay_90 : decode cX4_lay 90 = .ok (.iload 4, 2) := by decide +kernel
theorem dX4_lay_92 : decode cX4_lay 92 = .ok (.invokevirtual 36, 3) := by decide +kernel
theorem dX4_lay_95 : decode cX4_lay 95 = .ok (.aload_n 3, 1) := by decide +kernel
theorem dX4_lay_96 : decode cX4_lay 96 = .ok (.iload 5, 2) := by decide +kernel
theorem dX4_lay_98 : decode cX4_lay 98 = .ok (.invokevirtual 36, 3) := by decide +kernel
theorem dX4_lay_101 : decode cX4_lay 101 = .ok (.invokevirtual 46, 3) := by decide +kernel
theorem dX4_lay_104 : decode cX4_lay 104 = .ok (.ifCond .eq 17, 3) := by decide +kernel
theorem dX4_lay_107 : decode cX4_lay 107 = .ok (.aload_n 0, 1) := by decide +kernel
theorem dX4_lay_108 : decode cX4_lay 108 = .ok (.getfield 19, 3) := by decide +kernel
theorem dX4_lay_111 : decode cX4_lay 111 = .ok (.iload 4, 2) := by decide +kernel
theorem dX4_lay_113 : decode cX4_lay 113 = .ok (.dup2, 1) := by decide +kernel
theorem dX4_lay_114 : decode cX4_lay 114 = .ok (.iaload, 1) := by decide +kernel
theorem dX4_lay_115 : decode cX4_lay 115 = .ok (.iconst 1, 1) := by decide +kernel
theorem dX4_lay_116 : decode cX4_lay 116 = .ok (.iload 5, 2) := by decide +kernel
theorem dX4_lay_118 : decode cX4_lay 118 = .ok (.ishl, 1) := by decide +kernel
theorem dX4_lay_119 : decode cX4_lay 119 = .ok (.ior, 1) := by decide +kernel
theorem dX4_lay_120 : decode cX4_lay 120 = .ok (.iastore, 1) := by decide +kernel
theorem dX4_lay_121 : decode cX4_lay 121 = .ok (.iinc 5 1, 3) := by decide +kernel
theorem dX4_lay_124 : decode cX4_lay 124 = .ok (.goto (-80), 3) := by decide +kernel
theorem dX4_lay_127 : decode cX4_lay 127 = .ok (.iinc 4 1, 3) := by decide +kernel
theorem dX4_lay_130 : decode cX4_lay 130 = .ok (.goto (-114), 3) := by decide +kernel
theorem dX4_lay_133 : decode cX4_lay 133 = .ok (.return_, 1) := by decide +kernel
theorem dX4_has_0 : decode cX4_has 0 = .ok (.iload_n 1, 1) := by decide +kernel
theorem dX4_has_1 : decode cX4_has 1 = .ok (.ifCond .lt 21, 3) := by decide +kernel
theorem dX4_has_4 : decode cX4_has 4 = .ok (.iload_n 1, 1) := by decide +kernel
theorem dX4_has_5 : decode cX4_has 5 = .ok (.aload_n 0, 1) := by decide +kernel
theorem dX4_has_6 : decode cX4_has 6 = .ok (.getfield 9, 3) := by decide +kernel
theorem dX4_has_9 : decode cX4_has 9 = .ok (.if_icmp .ge 13, 3) := by decide +kernel
theorem dX4_has_12 : decode cX4_has 12 = .ok (.iload_n 1, 1) := by decide +kernel
theorem dX4_has_13 : decode cX4_has 13 = .ok (.bipush 8, 2) := by decide +kernel
theorem dX4_has_15 : decode cX4_has 15 = .ok (.if_icmp .ge 7, 3) := by decide +kernel
theorem dX4_has_18 : decode cX4_has 18 = .ok (.iconst 1, 1) := by decide +kernel
theorem dX4_has_19 : decode cX4_has 19 = .ok (.goto 4, 3) := by decide +kernel
theorem dX4_has_22 : decode cX4_has 22 = .ok (.iconst 0, 1) := by decide +kernel
theorem dX4_has_23 : decode cX4_has 23 = .ok (.ireturn, 1) := by decide +kernel
theorem dX4_alikeTo_0 : decode cX4_alikeTo 0 = .ok (.aload_n 0, 1) := by decide +kernel
theorem dX4_alikeTo_1 : decode cX4_alikeTo 1 = .ok (.iload_n 1, 1) := by decide +kernel
theorem dX4_alikeTo_2 : decode cX4_alikeTo 2 = .ok (.invokevirtual 49, 3) := by decide +kernel
theorem dX4_alikeTo_5 : decode cX4_alikeTo 5 = .ok (.ifCond .eq 12, 3) := by decide +kernel
theorem dX4_alikeTo_8 : decode cX4_alikeTo 8 = .ok (.aload_n 0, 1) := by decide +kernel
theorem dX4_alikeTo_9 : decode cX4_alikeTo 9 = .ok (.getfield 19, 3) := by decide +kernel
theorem dX4_alikeTo_12 : decode cX4_alikeTo 12 = .ok (.iload_n 1, 1) := by decide +kernel
theorem dX4_alikeTo_13 : decode cX4_alikeTo 13 = .ok (.iaload, 1) := by decide +kernel
theorem dX4_alikeTo_14 : decode cX4_alikeTo 14 = .ok (.goto 4, 3) := by decide +kernel
theorem dX4_alikeTo_17 : decode cX4_alikeTo 17 = .ok (.iconst 0, 1) := by decide +kernel
theorem dX4_alikeTo_18 : decode cX4_alikeTo 18 = .ok (.ireturn, 1) := by decide +kernel
theorem dX4_lighterThan_0 : decode cX4_lighterThan 0 = .ok (.aload_n 0, 1) := by decide +kernel
theorem dX4_lighterThan_1 : decode cX4_lighterThan 1 = .ok (.iload_n 1, 1) := by decide +kernel
theorem dX4_lighterThan_2 : decode cX4_lighterThan 2 = .ok (.invokevirtual 49, 3) := by decide +kernel
theorem dX4_lighterThan_5 : decode cX4_lighterThan 5 = .ok (.ifCond .eq 12, 3) := by decide +kernel
theorem dX4_lighterThan_8 : decode cX4_lighterThan 8 = .ok (.aload_n 0, 1) := by decide +kernel
theorem dX4_lighterThan_9 : decode cX4_lighterThan 9 = .ok (.getfield 15, 3) := by decide +kernel
theorem dX4_lighterThan_12 : decode cX4_lighterThan 12 = .ok (.iload_n 1, 1) := by decide +kernel
theorem dX4_lighterThan_13 : decode cX4_lighterThan 13 = .ok (.iaload, 1) := by decide +kernel
theorem dX4_lighterThan_14 : decode cX4_lighterThan 14 = .ok (.goto 4, 3) := by decide +kernel
theorem dX4_lighterThan_17 : decode cX4_lighterThan 17 = .ok (.iconst 0, 1) := by decide +kernel
theorem dX4_lighterThan_18 : decode cX4_lighterThan 18 = .ok (.ireturn, 1) := by decide +kernel
theorem dX4_isFinerThan_0 : decode cX4_isFinerThan 0 = .ok (.iconst 0, 1) := by decide +kernel
theorem dX4_isFinerThan_1 : decode cX4_isFinerThan 1 = .ok (.istore_n 2, 1) := by decide +kernel
theorem dX4_isFinerThan_2 : decode cX4_isFinerThan 2 = .ok (.iconst 0, 1) := by decide +kernel
theorem dX4_isFinerThan_3 : decode cX4_isFinerThan 3 = .ok (.istore_n 3, 1) := by decide +kernel
theorem dX4_isFinerThan_4 : decode cX4_isFinerThan 4 = .ok (.iload_n 3, 1) := by decide +kernel
theorem dX4_isFinerThan_5 : decode cX4_isFinerThan 5 = .ok (.aload_n 0, 1) := by decide +kernel
theorem dX4_isFinerThan_6 : decode cX4_isFinerThan 6 = .ok (.getfield 9, 3) := by decide +kernel
theorem dX4_isFinerThan_9 : decode cX4_isFinerThan 9 = .ok (.if_icmp .ge 50, 3) := by decide +kernel
theorem dX4_isFinerThan_12 : decode cX4_isFinerThan 12 = .ok (.aload_n 1, 1) := by decide +kernel
theorem dX4_isFinerThan_13 : decode cX4_isFinerThan 13 = .ok (.iload_n 3, 1) := by decide +kernel
theorem dX4_isFinerThan_14 : decode cX4_isFinerThan 14 = .ok (.invokevirtual 61, 3) := by decide +kernel
theorem dX4_isFinerThan_17 : decode cX4_isFinerThan 17 = .ok (.aload_n 0, 1) := by decide +kernel
theorem dX4_isFinerThan_18 : decode cX4_isFinerThan 18 = .ok (.iload_n 3, 1) := by decide +kernel
theorem dX4_isFinerThan_19 : decode cX4_isFinerThan 19 = .ok (.invokevirtual 61, 3) := by decide +kernel
theorem dX4_isFinerThan_22 : decode cX4_isFinerThan 22 = .ok (.iconst (-1), 1) := by decide +kernel
theorem dX4_isFinerThan_23 : decode cX4_isFinerThan 23 = .ok (.ixor, 1) := by decide +kernel
theorem dX4_isFinerThan_24 : decode cX4_isFinerThan 24 = .ok (.iand, 1) := by decide +kernel
theorem dX4_isFinerThan_25 : decode cX4_isFinerThan 25 = .ok (.ifCond .eq 5, 3) := by decide +kernel
theorem dX4_isFinerThan_28 : decode cX4_isFinerThan 28 = .ok (.iconst 0, 1) := by decide +kernel
theorem dX4_isFinerThan_29 : decode cX4_isFinerThan 29 = .ok (.ireturn, 1) := by decide +kernel
theorem dX4_isFinerThan_30 : decode cX4_isFinerThan 30 = .ok (.iload_n 2, 1) := by decide +kernel
theorem dX4_isFinerThan_31 : decode cX4_isFinerThan 31 = .ok (.ifCond .ne 16, 3) := by decide +kernel
theorem dX4_isFinerThan_34 : decode cX4_isFinerThan 34 = .ok (.aload_n 1, 1) := by decide +kernel
theorem dX4_isFinerThan_35 : decode cX4_isFinerThan 35 = .ok (.iload_n 3, 1) := by decide +kernel
theorem dX4_isFinerThan_36 : decode cX4_isFinerThan 36 = .ok (.invokevirtual 61, 3) := by decide +kernel
theorem dX4_isFinerThan_39 : decode cX4_isFinerThan 39 = .ok (.aload_n 0, 1) := by decide +kernel
theorem dX4_isFinerThan_40 : decode cX4_isFinerThan 40 = .ok (.iload_n 3, 1) := by decide +kernel
theorem dX4_isFinerThan_41 : decode cX4_isFinerThan 41 = .ok (.invokevirtual 61, 3) := by decide +kernel
theorem dX4_isFinerThan_44 : decode cX4_isFinerThan 44 = .ok (.if_icmp .eq 7, 3) := by decide +kernel
theorem dX4_isFinerThan_47 : decode cX4_isFinerThan 47 = .ok (.iconst 1, 1) := by decide +kernel
theorem dX4_isFinerThan_48 : decode cX4_isFinerThan 48 = .ok (.goto 4, 3) := by decide +kernel
theorem dX4_isFinerThan_51 : decode cX4_isFinerThan 51 = .ok (.iconst 0, 1) := by decide +kernel
theorem dX4_isFinerThan_52 : decode cX4_isFinerThan 52 = .ok (.istore_n 2, 1) := by decide +kernel
theorem dX4_isFinerThan_53 : decode cX4_isFinerThan 53 = .ok (.iinc 3 1, 3) := by decide +kernel
theorem dX4_isFinerThan_56 : decode cX4_isFinerThan 56 = .ok (.goto (-52), 3) := by decide +kernel
theorem dX4_isFinerThan_59 : decode cX4_isFinerThan 59 = .ok (.iload_n 2, 1) := by decide +kernel
theorem dX4_isFinerThan_60 : decode cX4_isFinerThan 60 = .ok (.ireturn, 1) := by decide +kernel
theorem dX4_within_0 : decode cX4_within 0 = .ok (.iconst 1, 1) := by decide +kernel
theorem dX4_within_1 : decode cX4_within 1 = .ok (.iload_n 1, 1) := by decide +kernel
theorem dX4_within_2 : decode cX4_within 2 = .ok (.ishl, 1) := by decide +kernel
theorem dX4_within_3 : decode cX4_within 3 = .ok (.istore_n 3, 1) := by decide +kernel
theorem dX4_within_4 : decode cX4_within 4 = .ok (.iconst 0, 1) := by decide +kernel
theorem dX4_within_5 : decode cX4_within 5 = .ok (.istore 4, 2) := by decide +kernel
theorem dX4_within_7 : decode cX4_within 7 = .ok (.iload 4, 2) := by decide +kernel
theorem dX4_within_9 : decode cX4_within 9 = .ok (.iload_n 2, 1) := by decide +kernel
theorem dX4_within_10 : decode cX4_within 10 = .ok (.if_icmp .ge 26, 3) := by decide +kernel
theorem dX4_within_13 : decode cX4_within 13 = .ok (.iload 4, 2) := by decide +kernel
theorem dX4_within_15 : decode cX4_within 15 = .ok (.aload_n 0, 1) := by decide +kernel
theorem dX4_within_16 : decode cX4_within 16 = .ok (.getfield 9, 3) := by decide +kernel
theorem dX4_within_19 : decode cX4_within 19 = .ok (.if_icmp .ge 17, 3) := by decide +kernel
theorem dX4_within_22 : decode cX4_within 22 = .ok (.iload_n 3, 1) := by decide +kernel
theorem dX4_within_23 : decode cX4_within 23 = .ok (.aload_n 0, 1) := by decide +kernel
theorem dX4_within_24 : decode cX4_within 24 = .ok (.iload_n 3, 1) := by decide +kernel
theorem dX4_within_25 : decode cX4_within 25 = .ok (.invokevirtual 64, 3) := by decide +kernel
theorem dX4_within_28 : decode cX4_within 28 = .ok (.ior, 1) := by decide +kernel
theorem dX4_within_29 : decode cX4_within 29 = .ok (.istore_n 3, 1) := by decide +kernel
theorem dX4_within_30 : decode cX4_within 30 = .ok (.iinc 4 1, 3) := by decide +kernel
theorem dX4_within_33 : decode cX4_within 33 = .ok (.goto (-26), 3) := by decide +kernel
theorem dX4_within_36 : decode cX4_within 36 = .ok (.iload_n 3, 1) := by decide +kernel
theorem dX4_within_37 : decode cX4_within 37 = .ok (.ireturn, 1) := by decide +kernel
theorem dX4_alikeToAny_0 : decode cX4_alikeToAny 0 = .ok (.iconst 0, 1) := by decide +kernel
theorem dX4_alikeToAny_1 : decode cX4_alikeToAny 1 = .ok (.istore_n 2, 1) := by decide +kernel
theorem dX4_alikeToAny_2 : decode cX4_alikeToAny 2 = .ok (.iconst 0, 1) := by decide +kernel
theorem dX4_alikeToAny_3 : decode cX4_alikeToAny 3 = .ok (.istore_n 3, 1) := by decide +kernel
theorem dX4_alikeToAny_4 : decode cX4_alikeToAny 4 = .ok (.iload_n 3, 1) := by decide +kernel
theorem dX4_alikeToAny_5 : decode cX4_alikeToAny 5 = .ok (.aload_n 0, 1) := by decide +kernel
theorem dX4_alikeToAny_6 : decode cX4_alikeToAny 6 = .ok (.getfield 9, 3) := by decide +kernel
theorem dX4_alikeToAny_9 : decode cX4_alikeToAny 9 = .ok (.if_icmp .ge 29, 3) := by decide +kernel
theorem dX4_alikeToAny_12 : decode cX4_alikeToAny 12 = .ok (.iload_n 2, 1) := by decide +kernel
theorem dX4_alikeToAny_13 : decode cX4_alikeToAny 13 = .ok (.iload_n 1, 1) := by decide +kernel
theorem dX4_alikeToAny_14 : decode cX4_alikeToAny 14 = .ok (.iload_n 3, 1) := by decide +kernel
theorem dX4_alikeToAny_15 : decode cX4_alikeToAny 15 = .ok (.invokestatic 67, 3) := by decide +kernel
theorem dX4_alikeToAny_18 : decode cX4_alikeToAny 18 = .ok (.ifCond .eq 11, 3) := by decide +kernel
theorem dX4_alikeToAny_21 : decode cX4_alikeToAny 21 = .ok (.aload_n 0, 1) := by decide +kernel
theorem dX4_alikeToAny_22 : decode cX4_alikeToAny 22 = .ok (.iload_n 3, 1) := by decide +kernel
theorem dX4_alikeToAny_23 : decode cX4_alikeToAny 23 = .ok (.invokevirtual 53, 3) := by decide +kernel
theorem dX4_alikeToAny_26 : decode cX4_alikeToAny 26 = .ok (.goto 4, 3) := by decide +kernel
theorem dX4_alikeToAny_29 : decode cX4_alikeToAny 29 = .ok (.iconst 0, 1) := by decide +kernel
theorem dX4_alikeToAny_30 : decode cX4_alikeToAny 30 = .ok (.ior, 1) := by decide +kernel
theorem dX4_alikeToAny_31 : decode cX4_alikeToAny 31 = .ok (.istore_n 2, 1) := by decide +kernel
theorem dX4_alikeToAny_32 : decode cX4_alikeToAny 32 = .ok (.iinc 3 1, 3) := by decide +kernel
theorem dX4_alikeToAny_35 : decode cX4_alikeToAny 35 = .ok (.goto (-31), 3) := by decide +kernel
theorem dX4_alikeToAny_38 : decode cX4_alikeToAny 38 = .ok (.iload_n 2, 1) := by decide +kernel
theorem dX4_alikeToAny_39 : decode cX4_alikeToAny 39 = .ok (.ireturn, 1) := by decide +kernel
theorem dX4_fewestSwaps_0 : decode cX4_fewestSwaps 0 = .ok (.iconst 0, 1) := by decide +kernel
theorem dX4_fewestSwaps_1 : decode cX4_fewestSwaps 1 = .ok (.istore_n 3, 1) := by decide +kernel
theorem dX4_fewestSwaps_2 : decode cX4_fewestSwaps 2 = .ok (.iload_n 3, 1) := by decide +kernel
theorem dX4_fewestSwaps_3 : decode cX4_fewestSwaps 3 = .ok (.aload_n 0, 1) := by decide +kernel
theorem dX4_fewestSwaps_4 : decode cX4_fewestSwaps 4 = .ok (.getfield 9, 3) := by decide +kernel
theorem dX4_fewestSwaps_7 : decode cX4_fewestSwaps 7 = .ok (.if_icmp .ge 24, 3) := by decide +kernel
theorem dX4_fewestSwaps_10 : decode cX4_fewestSwaps 10 = .ok (.aload_n 0, 1) := by decide +kernel
theorem dX4_fewestSwaps_11 : decode cX4_fewestSwaps 11 = .ok (.iload_n 2, 1) := by decide +kernel
theorem dX4_fewestSwaps_12 : decode cX4_fewestSwaps 12 = .ok (.iload_n 3, 1) := by decide +kernel
theorem dX4_fewestSwaps_13 : decode cX4_fewestSwaps 13 = .ok (.invokevirtual 71, 3) := by decide +kernel
theorem dX4_fewestSwaps_16 : decode cX4_fewestSwaps 16 = .ok (.iload_n 1, 1) := by decide +kernel
theorem dX4_fewestSwaps_17 : decode cX4_fewestSwaps 17 = .ok (.invokestatic 67, 3) := by decide +kernel
theorem dX4_fewestSwaps_20 : decode cX4_fewestSwaps 20 = .ok (.ifCond .eq 5, 3) := by decide +kernel
theorem dX4_fewestSwaps_23 : decode cX4_fewestSwaps 23 = .ok (.iload_n 3, 1) := by decide +kernel
theorem dX4_fewestSwaps_24 : decode cX4_fewestSwaps 24 = .ok (.ireturn, 1) := by decide +kernel
theorem dX4_fewestSwaps_25 : decode cX4_fewestSwaps 25 = .ok (.iinc 3 1, 3) := by decide +kernel
theorem dX4_fewestSwaps_28 : decode cX4_fewestSwaps 28 = .ok (.goto (-26), 3) := by decide +kernel
theorem dX4_fewestSwaps_31 : decode cX4_fewestSwaps 31 = .ok (.bipush (-9), 2) := by decide +kernel
theorem dX4_fewestSwaps_33 : decode cX4_fewestSwaps 33 = .ok (.ireturn, 1) := by decide +kernel
theorem dX4_behindSwaps_0 : decode cX4_behindSwaps 0 = .ok (.aload_n 0, 1) := by decide +kernel
theorem dX4_behindSwaps_1 : decode cX4_behindSwaps 1 = .ok (.iload_n 1, 1) := by decide +kernel
theorem dX4_behindSwaps_2 : decode cX4_behindSwaps 2 = .ok (.iload_n 2, 1) := by decide +kernel
theorem dX4_behindSwaps_3 : decode cX4_behindSwaps 3 = .ok (.invokevirtual 74, 3) := by decide +kernel
theorem dX4_behindSwaps_6 : decode cX4_behindSwaps 6 = .ok (.istore 4, 2) := by decide +kernel
theorem dX4_behindSwaps_8 : decode cX4_behindSwaps 8 = .ok (.iload 4, 2) := by decide +kernel
theorem dX4_behindSwaps_10 : decode cX4_behindSwaps 10 = .ok (.bipush (-9), 2) := by decide +kernel
theorem dX4_behindSwaps_12 : decode cX4_behindSwaps 12 = .ok (.if_icmp .eq 9, 3) := by decide +kernel
theorem dX4_behindSwaps_15 : decode cX4_behindSwaps 15 = .ok (.iload_n 3, 1) := by decide +kernel
theorem dX4_behindSwaps_16 : decode cX4_behindSwaps 16 = .ok (.iload 4, 2) := by decide +kernel
theorem dX4_behindSwaps_18 : decode cX4_behindSwaps 18 = .ok (.if_icmp .le 6, 3) := by decide +kernel
theorem dX4_behindSwaps_21 : decode cX4_behindSwaps 21 = .ok (.bipush (-9), 2) := by decide +kernel
theorem dX4_behindSwaps_23 : decode cX4_behindSwaps 23 = .ok (.ireturn, 1) := by decide +kernel
theorem dX4_behindSwaps_24 : decode cX4_behindSwaps 24 = .ok (.iload_n 1, 1) := by decide +kernel
theorem dX4_behindSwaps_25 : decode cX4_behindSwaps 25 = .ok (.istore 5, 2) := by decide +kernel
theorem dX4_behindSwaps_27 : decode cX4_behindSwaps 27 = .ok (.iconst 1, 1) := by decide +kernel
theorem dX4_behindSwaps_28 : decode cX4_behindSwaps 28 = .ok (.istore 6, 2) := by decide +kernel
theorem dX4_behindSwaps_30 : decode cX4_behindSwaps 30 = .ok (.iload 6, 2) := by decide +kernel
theorem dX4_behindSwaps_32 : decode cX4_behindSwaps 32 = .ok (.iload_n 3, 1) := by decide +kernel
theorem dX4_behindSwaps_33 : decode cX4_behindSwaps 33 = .ok (.if_icmp .gt 32, 3) := by decide +kernel
theorem dX4_behindSwaps_36 : decode cX4_behindSwaps 36 = .ok (.aload_n 0, 1) := by decide +kernel
theorem dX4_behindSwaps_37 : decode cX4_behindSwaps 37 = .ok (.aload_n 0, 1) := by decide +kernel
theorem dX4_behindSwaps_38 : decode cX4_behindSwaps 38 = .ok (.iload 5, 2) := by decide +kernel
theorem dX4_behindSwaps_40 : decode cX4_behindSwaps 40 = .ok (.invokevirtual 53, 3) := by decide +kernel
theorem dX4_behindSwaps_43 : decode cX4_behindSwaps 43 = .ok (.aload_n 0, 1) := by decide +kernel
theorem dX4_behindSwaps_44 : decode cX4_behindSwaps 44 = .ok (.iload_n 2, 1) := by decide +kernel
theorem dX4_behindSwaps_45 : decode cX4_behindSwaps 45 = .ok (.iload 4, 2) := by decide +kernel
theorem dX4_behindSwaps_47 : decode cX4_behindSwaps 47 = .ok (.iload 6, 2) := by decide +kernel
theorem dX4_behindSwaps_49 : decode cX4_behindSwaps 49 = .ok (.isub, 1) := by decide +kernel
theorem dX4_behindSwaps_50 : decode cX4_behindSwaps 50 = .ok (.invokevirtual 71, 3) := by decide +kernel
theorem dX4_behindSwaps_53 : decode cX4_behindSwaps 53 = .ok (.iand, 1) := by decide +kernel
theorem dX4_behindSwaps_54 : decode cX4_behindSwaps 54 = .ok (.invokevirtual 77, 3) := by decide +kernel
theorem dX4_behindSwaps_57 : decode cX4_behindSwaps 57 = .ok (.istore 5, 2) := by decide +kernel
theorem dX4_behindSwaps_59 : decode cX4_behindSwaps 59 = .ok (.iinc 6 1, 3) := by decide +kernel
theorem dX4_behindSwaps_62 : decode cX4_behindSwaps 62 = .ok (.goto (-32), 3) := by decide +kernel
theorem dX4_behindSwaps_65 : decode cX4_behindSwaps 65 = .ok (.iload 5, 2) := by decide +kernel
theorem dX4_behindSwaps_67 : decode cX4_behindSwaps 67 = .ok (.ireturn, 1) := by decide +kernel
theorem dX4_leastIn_0 : decode cX4_leastIn 0 = .ok (.iconst 0, 1) := by decide +kernel
theorem dX4_leastIn_1 : decode cX4_leastIn 1 = .ok (.istore_n 2, 1) := by decide +kernel
theorem dX4_leastIn_2 : decode cX4_leastIn 2 = .ok (.iload_n 2, 1) := by decide +kernel
theorem dX4_leastIn_3 : decode cX4_leastIn 3 = .ok (.aload_n 0, 1) := by decide +kernel
theorem dX4_leastIn_4 : decode cX4_leastIn 4 = .ok (.getfield 9, 3) := by decide +kernel
theorem dX4_leastIn_7 : decode cX4_leastIn 7 = .ok (.if_icmp .ge 19, 3) := by decide +kernel
theorem dX4_leastIn_10 : decode cX4_leastIn 10 = .ok (.iload_n 1, 1) := by decide +kernel
theorem dX4_leastIn_11 : decode cX4_leastIn 11 = .ok (.iload_n 2, 1) := by decide +kernel
theorem dX4_leastIn_12 : decode cX4_leastIn 12 = .ok (.invokestatic 67, 3) := by decide +kernel
theorem dX4_leastIn_15 : decode cX4_leastIn 15 = .ok (.ifCond .eq 5, 3) := by decide +kernel
theorem dX4_leastIn_18 : decode cX4_leastIn 18 = .ok (.iload_n 2, 1) := by decide +kernel
theorem dX4_leastIn_19 : decode cX4_leastIn 19 = .ok (.ireturn, 1) := by decide +kernel
theorem dX4_leastIn_20 : decode cX4_leastIn 20 = .ok (.iinc 2 1, 3) := by decide +kernel
theorem dX4_leastIn_23 : decode cX4_leastIn 23 = .ok (.goto (-21), 3) := by decide +kernel
theorem dX4_leastIn_26 : decode cX4_leastIn 26 = .ok (.bipush (-9), 2) := by decide +kernel
theorem dX4_leastIn_28 : decode cX4_leastIn 28 = .ok (.ireturn, 1) := by decide +kernel
theorem dX4_countTold_0 : decode cX4_countTold 0 = .ok (.iconst 0, 1) := by decide +kernel
theorem dX4_countTold_1 : decode cX4_countTold 1 = .ok (.istore_n 1, 1) := by decide +kernel
theorem dX4_countTold_2 : decode cX4_countTold 2 = .ok (.iconst 0, 1) := by decide +kernel
theorem dX4_countTold_3 : decode cX4_countTold 3 = .ok (.istore_n 2, 1) := by decide +kernel
theorem dX4_countTold_4 : decode cX4_countTold 4 = .ok (.iload_n 2, 1) := by decide +kernel
theorem dX4_countTold_5 : decode cX4_countTold 5 = .ok (.aload_n 0, 1) := by decide +kernel
theorem dX4_countTold_6 : decode cX4_countTold 6 = .ok (.getfield 9, 3) := by decide +kernel
theorem dX4_countTold_9 : decode cX4_countTold 9 = .ok (.if_icmp .ge 20, 3) := by decide +kernel
theorem dX4_countTold_12 : decode cX4_countTold 12 = .ok (.iload_n 1, 1) := by decide +kernel
theorem dX4_countTold_13 : decode cX4_countTold 13 = .ok (.aload_n 0, 1) := by decide +kernel
theorem dX4_countTold_14 : decode cX4_countTold 14 = .ok (.iload_n 2, 1) := by decide +kernel
theorem dX4_countTold_15 : decode cX4_countTold 15 = .ok (.invokevirtual 61, 3) := by decide +kernel
theorem dX4_countTold_18 : decode cX4_countTold 18 = .ok (.invokestatic 56, 3) := by decide +kernel
theorem dX4_countTold_21 : decode cX4_countTold 21 = .ok (.iadd, 1) := by decide +kernel
theorem dX4_countTold_22 : decode cX4_countTold 22 = .ok (.istore_n 1, 1) := by decide +kernel
theorem dX4_countTold_23 : decode cX4_countTold 23 = .ok (.iinc 2 1, 3) := by decide +kernel
theorem dX4_countTold_26 : decode cX4_countTold 26 = .ok (.goto (-22), 3) := by decide +kernel
theorem dX4_countTold_29 : decode cX4_countTold 29 = .ok (.iload_n 1, 1) := by decide +kernel
theorem dX4_countTold_30 : decode cX4_countTold 30 = .ok (.ireturn, 1) := by decide +kernel
theorem dX5_firstFault_0 : decode cX5_firstFault 0 = .ok (.iconst 0, 1) := by decide +kernel
theorem dX5_firstFault_1 : decode cX5_firstFault 1 = .ok (.istore 4, 2) := by decide +kernel
theorem dX5_firstFault_3 : decode cX5_firstFault 3 = .ok (.iload 4, 2) := by decide +kernel
theorem dX5_firstFault_5 : decode cX5_firstFault 5 = .ok (.iload_n 3, 1) := by decide +kernel
theorem dX5_firstFault_6 : decode cX5_firstFault 6 = .ok (.if_icmp .ge 23, 3) := by decide +kernel
theorem dX5_firstFault_9 : decode cX5_firstFault 9 = .ok (.aload_n 0, 1) := by decide +kernel
theorem dX5_firstFault_10 : decode cX5_firstFault 10 = .ok (.iload_n 1, 1) := by decide +kernel
theorem dX5_firstFault_11 : decode cX5_firstFault 11 = .ok (.iload_n 2, 1) := by decide +kernel
theorem dX5_firstFault_12 : decode cX5_firstFault 12 = .ok (.iload 4, 2) := by decide +kernel
theorem dX5_firstFault_14 : decode cX5_firstFault 14 = .ok (.invokestatic 9, 3) := by decide +kernel
theorem dX5_firstFault_17 : decode cX5_firstFault 17 = .ok (.ifCond .ne 6, 3) := by decide +kernel
theorem dX5_firstFault_20 : decode cX5_firstFault 20 = .ok (.iload 4, 2) := by decide +kernel
theorem dX5_firstFault_22 : decode cX5_firstFault 22 = .ok (.ireturn, 1) := by decide +kernel
theorem dX5_firstFault_23 : decode cX5_firstFault 23 = .ok (.iinc 4 1, 3) := by decide +kernel
theorem dX5_firstFault_26 : decode cX5_firstFault 26 = .ok (.goto (-23), 3) := by decide +kernel
theorem dX5_firstFault_29 : decode cX5_firstFault 29 = .ok (.iload_n 3, 1) := by decide +kernel
theorem dX5_firstFault_30 : decode cX5_firstFault 30 = .ok (.iconst 4, 1) := by decide +kernel
theorem dX5_firstFault_31 : decode cX5_firstFault 31 = .ok (.irem, 1) := by decide +kernel
theorem dX5_firstFault_32 : decode cX5_firstFault 32 = .ok (.iconst 3, 1) := by decide +kernel
theorem dX5_firstFault_33 : decode cX5_firstFault 33 = .ok (.if_icmp .ne 7, 3) := by decide +kernel
theorem dX5_firstFault_36 : decode cX5_firstFault 36 = .ok (.iconst 1, 1) := by decide +kernel
theorem dX5_firstFault_37 : decode cX5_firstFault 37 = .ok (.goto 4, 3) := by decide +kernel
theorem dX5_firstFault_40 : decode cX5_firstFault 40 = .ok (.iconst 0, 1) := by decide +kernel
theorem dX5_firstFault_41 : decode cX5_firstFault 41 = .ok (.istore 4, 2) := by decide +kernel
theorem dX5_firstFault_43 : decode cX5_firstFault 43 = .ok (.iload_n 3, 1) := by decide +kernel
theorem dX5_firstFault_44 : decode cX5_firstFault 44 = .ok (.bipush 7, 2) := by decide +kernel
theorem dX5_firstFault_46 : decode cX5_firstFault 46 = .ok (.if_icmp .lt 7, 3) := by decide +kernel
theorem dX5_firstFault_49 : decode cX5_firstFault 49 = .ok (.iconst 1, 1) := by decide +kernel
theorem dX5_firstFault_50 : decode cX5_firstFault 50 = .ok (.goto 4, 3) := by decide +kernel
theorem dX5_firstFault_53 : decode cX5_firstFault 53 = .ok (.iconst 0, 1) := by decide +kernel
theorem dX5_firstFault_54 : decode cX5_firstFault 54 = .ok (.istore 5, 2) := by decide +kernel
theorem dX5_firstFault_56 : decode cX5_firstFault 56 = .ok (.iload 4, 2) := by decide +kernel
theorem dX5_firstFault_58 : decode cX5_firstFault 58 = .ok (.ifCond .eq 12, 3) := by decide +kernel
theorem dX5_firstFault_61 : decode cX5_firstFault 61 = .ok (.iload 5, 2) := by decide +kernel
theorem dX5_firstFault_63 : decode cX5_firstFault 63 = .ok (.ifCond .eq 7, 3) := by decide +kernel
theorem dX5_firstFault_66 : decode cX5_firstFault 66 = .ok (.iconst (-1), 1) := by decide +kernel
theorem dX5_firstFault_67 : decode cX5_firstFault 67 = .ok (.goto 4, 3) := by decide +kernel
theorem dX5_firstFault_70 : decode cX5_firstFault 70 = .ok (.iload_n 3, 1) := by decide +kernel
theorem dX5_firstFault_71 : decode cX5_firstFault 71 = .ok (.ireturn, 1) := by decide +kernel
theorem dX5_goesOn_0 : decode cX5_goesOn 0 = .ok (.aload_n 0, 1) := by decide +kernel
theorem dX5_goesOn_1 : decode cX5_goesOn 1 = .ok (.iload_n 1, 1) := by decide +kernel
theorem dX5_goesOn_2 : decode cX5_goesOn 2 = .ok (.iload_n 2, 1) := by decide +kernel
theorem dX5_goesOn_3 : decode cX5_goesOn 3 = .ok (.iload_n 3, 1) := by decide +kernel
theorem dX5_goesOn_4 : decode cX5_goesOn 4 = .ok (.iadd, 1) := by decide +kernel
theorem dX5_goesOn_5 : decode cX5_goesOn 5 = .ok (.invokevirtual 15, 3) := by decide +kernel
theorem dX5_goesOn_8 : decode cX5_goesOn 8 = .ok (.istore 4, 2) := by decide +kernel
theorem dX5_goesOn_10 : decode cX5_goesOn 10 = .ok (.iload_n 3, 1) := by decide +kernel
theorem dX5_goesOn_11 : decode cX5_goesOn 11 = .ok (.iconst 4, 1) := by decide +kernel
theorem dX5_goesOn_12 : decode cX5_goesOn 12 = .ok (.irem, 1) := by decide +kernel
theorem dX5_goesOn_13 : decode cX5_goesOn 13 = .ok (.istore 5, 2) := by decide +kernel
theorem dX5_goesOn_15 : decode cX5_goesOn 15 = .ok (.iload 5, 2) := by decide +kernel
theorem dX5_goesOn_17 : decode cX5_goesOn 17 = .ok (.iconst 3, 1) := by decide +kernel
theorem dX5_goesOn_18 : decode cX5_goesOn 18 = .ok (.if_icmp .ne 22, 3) := by decide +kernel
theorem dX5_goesOn_21 : decode cX5_goesOn 21 = .ok (.iload 4, 2) := by decide +kernel
theorem dX5_goesOn_23 : decode cX5_goesOn 23 = .ok (.bipush 59, 2) := by decide +kernel
theorem dX5_goesOn_25 : decode cX5_goesOn 25 = .ok (.if_icmp .ne 13, 3) := by decide +kernel
theorem dX5_goesOn_28 : decode cX5_goesOn 28 = .ok (.iload_n 3, 1) := by decide +kernel
theorem dX5_goesOn_29 : decode cX5_goesOn 29 = .ok (.bipush 31, 2) := by decide +kernel
theorem dX5_goesOn_31 : decode cX5_goesOn 31 = .ok (.if_icmp .ge 7, 3) := by decide +kernel
theorem dX5_goesOn_34 : decode cX5_goesOn 34 = .ok (.iconst 1, 1) := by decide +kernel
theorem dX5_goesOn_35 : decode cX5_goesOn 35 = .ok (.goto 4, 3) := by decide +kernel
theorem dX5_goesOn_38 : decode cX5_goesOn 38 = .ok (.iconst 0, 1) := by decide +kernel
theorem dX5_goesOn_39 : decode cX5_goesOn 39 = .ok (.ireturn, 1) := by decide +kernel
theorem dX5_goesOn_40 : decode cX5_goesOn 40 = .ok (.iload 4, 2) := by decide +kernel
theorem dX5_goesOn_42 : decode cX5_goesOn 42 = .ok (.bipush 48, 2) := by decide +kernel
theorem dX5_goesOn_44 : decode cX5_goesOn 44 = .ok (.if_icmp .lt 10, 3) := by decide +kernel
theorem dX5_goesOn_47 : decode cX5_goesOn 47 = .ok (.iload 4, 2) := by decide +kernel
theorem dX5_goesOn_49 : decode cX5_goesOn 49 = .ok (.bipush 57, 2) := by decide +kernel
theorem dX5_goesOn_51 : decode cX5_goesOn 51 = .ok (.if_icmp .le 5, 3) := by decide +kernel
theorem dX5_goesOn_54 : decode cX5_goesOn 54 = .ok (.iconst 0, 1) := by decide +kernel
theorem dX5_goesOn_55 : decode cX5_goesOn 55 = .ok (.ireturn, 1) := by decide +kernel
theorem dX5_goesOn_56 : decode cX5_goesOn 56 = .ok (.iload 5, 2) := by decide +kernel
theorem dX5_goesOn_58 : decode cX5_goesOn 58 = .ok (.iconst 2, 1) := by decide +kernel
theorem dX5_goesOn_59 : decode cX5_goesOn 59 = .ok (.if_icmp .ne 16, 3) := by decide +kernel
theorem dX5_goesOn_62 : decode cX5_goesOn 62 = .ok (.aload_n 0, 1) := by decide +kernel
theorem dX5_goesOn_63 : decode cX5_goesOn 63 = .ok (.iload_n 1, 1) := by decide +kernel
theorem dX5_goesOn_64 : decode cX5_goesOn 64 = .ok (.iload_n 2, 1) := by decide +kernel
theorem dX5_goesOn_65 : decode cX5_goesOn 65 = .ok (.iload_n 3, 1) := by decide +kernel
theorem dX5_goesOn_66 : decode cX5_goesOn 66 = .ok (.iadd, 1) := by decide +kernel
theorem dX5_goesOn_67 : decode cX5_goesOn 67 = .ok (.iconst 2, 1) := by decide +kernel
theorem dX5_goesOn_68 : decode cX5_goesOn 68 = .ok (.isub, 1) := by decide +kernel
theorem dX5_goesOn_69 : decode cX5_goesOn 69 = .ok (.invokestatic 21, 3) := by decide +kernel
theorem dX5_goesOn_72 : decode cX5_goesOn 72 = .ok (.ifCond .eq 7, 3) := by decide +kernel
theorem dX5_goesOn_75 : decode cX5_goesOn 75 = .ok (.iconst 1, 1) := by decide +kernel
theorem dX5_goesOn_76 : decode cX5_goesOn 76 = .ok (.goto 4, 3) := by decide +kernel
theorem dX5_goesOn_79 : decode cX5_goesOn 79 = .ok (.iconst 0, 1) := by decide +kernel
theorem dX5_goesOn_80 : decode cX5_goesOn 80 = .ok (.ireturn, 1) := by decide +kernel
theorem dX5_read_0 : decode cX5_read 0 = .ok (.aload 4, 2) := by decide +kernel
theorem dX5_read_2 : decode cX5_read 2 = .ok (.invokevirtual 25, 3) := by decide +kernel
theorem dX5_read_5 : decode cX5_read 5 = .ok (.iconst 0, 1) := by decide +kernel
theorem dX5_read_6 : decode cX5_read 6 = .ok (.istore 5, 2) := by decide +kernel
theorem dX5_read_8 : decode cX5_read 8 = .ok (.iload 5, 2) := by decide +kernel
theorem dX5_read_10 : decode cX5_read 10 = .ok (.iload_n 3, 1) := by decide +kernel
theorem dX5_read_11 : decode cX5_read 11 = .ok (.if_icmp .ge 23, 3) := by decide +kernel
theorem dX5_read_14 : decode cX5_read 14 = .ok (.aload 4, 2) := by decide +kernel
theorem dX5_read_16 : decode cX5_read 16 = .ok (.aload_n 0, 1) := by decide +kernel
theorem dX5_read_17 : decode cX5_read 17 = .ok (.iload_n 1, 1) := by decide +kernel
theorem dX5_read_18 : decode cX5_read 18 = .ok (.iload_n 2, 1) := by decide +kernel
theorem dX5_read_19 : decode cX5_read 19 = .ok (.iload 5, 2) := by decide +kernel
theorem dX5_read_21 : decode cX5_read 21 = .ok (.iadd, 1) := by decide +kernel
theorem dX5_read_22 : decode cX5_read 22 = .ok (.invokestatic 21, 3) := by decide +kernel
theorem dX5_read_25 : decode cX5_read 25 = .ok (.invokevirtual 30, 3) := by decide +kernel
theorem dX5_read_28 : decode cX5_read 28 = .ok (.iinc 5 4, 3) := by decide +kernel
theorem dX5_read_31 : decode cX5_read 31 = .ok (.goto (-23), 3) := by decide +kernel
theorem dX5_read_34 : decode cX5_read 34 = .ok (.return_, 1) := by decide +kernel
theorem dX5_number_0 : decode cX5_number 0 = .ok (.iconst 0, 1) := by decide +kernel
theorem dX5_number_1 : decode cX5_number 1 = .ok (.istore_n 3, 1) := by decide +kernel
theorem dX5_number_2 : decode cX5_number 2 = .ok (.iconst 0, 1) := by decide +kernel
theorem dX5_number_3 : decode cX5_number 3 = .ok (.istore 4, 2) := by decide +kernel
theorem dX5_number_5 : decode cX5_number 5 = .ok (.iload 4, 2) := by decide +kernel
theorem dX5_number_7 : decode cX5_number 7 = .ok (.iconst 3, 1) := by decide +kernel
theorem dX5_number_8 : decode cX5_number 8 = .ok (.if_icmp .ge 27, 3) := by decide +kernel
theorem dX5_number_11 : decode cX5_number 11 = .ok (.bipush 10, 2) := by decide +kernel
theorem dX5_number_13 : decode cX5_number 13 = .ok (.iload_n 3, 1) := by decide +kernel
theorem dX5_number_14 : decode cX5_number 14 = .ok (.imul, 1) := by decide +kernel
theorem dX5_number_15 : decode cX5_number 15 = .ok (.aload_n 0, 1) := by decide +kernel
theorem dX5_number_16 : decode cX5_number 16 = .ok (.iload_n 1, 1) := by decide +kernel
theorem dX5_number_17 : decode cX5_number 17 = .ok (.iload_n 2, 1) := by decide +kernel
theorem dX5_number_18 : decode cX5_number 18 = .ok (.iload 4, 2) := by decide +kernel
theorem dX5_number_20 : decode cX5_number 20 = .ok (.iadd, 1) := by decide +kernel
theorem dX5_number_21 : decode cX5_number 21 = .ok (.invokevirtual 15, 3) := by decide +kernel
theorem dX5_number_24 : decode cX5_number 24 = .ok (.iadd, 1) := by decide +kernel
theorem dX5_number_25 : decode cX5_number 25 = .ok (.bipush 48, 2) := by decide +kernel
theorem dX5_number_27 : decode cX5_number 27 = .ok (.isub, 1) := by decide +kernel
theorem dX5_number_28 : decode cX5_number 28 = .ok (.istore_n 3, 1) := by decide +kernel
theorem dX5_number_29 : decode cX5_number 29 = .ok (.iinc 4 1, 3) := by decide +kernel
theorem dX5_number_32 : decode cX5_number 32 = .ok (.goto (-27), 3) := by decide +kernel
theorem dX5_number_35 : decode cX5_number 35 = .ok (.iload_n 3, 1) := by decide +kernel
theorem dX5_number_36 : decode cX5_number 36 = .ok (.ireturn, 1) := by decide +kernel
theorem dX6_init_0 : decode cX6_init 0 = .ok (.aload_n 0, 1) := by decide +kernel
theorem dX6_init_1 : decode cX6_init 1 = .ok (.invokespecial 3, 3) := by decide +kernel
theorem dX6_init_4 : decode cX6_init 4 = .ok (.aload_n 0, 1) := by decide +kernel
theorem dX6_init_5 : decode cX6_init 5 = .ok (.iconst 0, 1) := by decide +kernel
theorem dX6_init_6 : decode cX6_init 6 = .ok (.putfield 9, 3) := by decide +kernel
theorem dX6_init_9 : decode cX6_init 9 = .ok (.aload_n 0, 1) := by decide +kernel
theorem dX6_init_10 : decode cX6_init 10 = .ok (.bipush 8, 2) := by decide +kernel
theorem dX6_init_12 : decode cX6_init 12 = .ok (.newarray .int, 2) := by decide +kernel
theorem dX6_init_14 : decode cX6_init 14 = .ok (.putfield 15, 3) := by decide +kernel
theorem dX6_init_17 : decode cX6_init 17 = .ok (.return_, 1) := by decide +kernel
theorem dX6_count_0 : decode cX6_count 0 = .ok (.aload_n 0, 1) := by decide +kernel
theorem dX6_count_1 : decode cX6_count 1 = .ok (.getfield 9, 3) := by decide +kernel
theorem dX6_count_4 : decode cX6_count 4 = .ok (.ireturn, 1) := by decide +kernel
theorem dX6_has_0 : decode cX6_has 0 = .ok (.iload_n 1, 1) := by decide +kernel
theorem dX6_has_1 : decode cX6_has 1 = .ok (.ifCond .lt 24, 3) := by decide +kernel
theorem dX6_has_4 : decode cX6_has 4 = .ok (.iload_n 1, 1) := by decide +kernel
theorem dX6_has_5 : decode cX6_has 5 = .ok (.aload_n 0, 1) := by decide +kernel
theorem dX6_has_6 : decode cX6_has 6 = .ok (.getfield 9, 3) := by decide +kernel
theorem dX6_has_9 : decode cX6_has 9 = .ok (.if_icmp .ge 16, 3) := by decide +kernel
theorem dX6_has_12 : decode cX6_has 12 = .ok (.iload_n 1, 1) := by decide +kernel
theorem dX6_has_13 : decode cX6_has 13 = .ok (.aload_n 0, 1) := by decide +kernel
theorem dX6_has_14 : decode cX6_has 14 = .ok (.getfield 15, 3) := by decide +kernel
theorem dX6_has_17 : decode cX6_has 17 = .ok (.arraylength, 1) := by decide +kernel
theorem dX6_has_18 : decode cX6_has 18 = .ok (.if_icmp .ge 7, 3) := by decide +kernel
theorem dX6_has_21 : decode cX6_has 21 = .ok (.iconst 1, 1) := by decide +kernel
theorem dX6_has_22 : decode cX6_has 22 = .ok (.goto 4, 3) := by decide +kernel
theorem dX6_has_25 : decode cX6_has 25 = .ok (.iconst 0, 1) := by decide +kernel
theorem dX6_has_26 : decode cX6_has 26 = .ok (.ireturn, 1) := by decide +kernel
theorem dX6_weightOf_0 : decode cX6_weightOf 0 = .ok (.aload_n 0, 1) := by decide +kernel
theorem dX6_weightOf_1 : decode cX6_weightOf 1 = .ok (.iload_n 1, 1) := by decide +kernel
theorem dX6_weightOf_2 : decode cX6_weightOf 2 = .ok (.invokevirtual 19, 3) := by decide +kernel
theorem dX6_weightOf_5 : decode cX6_weightOf 5 = .ok (.ifCond .eq 12, 3) := by decide +kernel
theorem dX6_weightOf_8 : decode cX6_weightOf 8 = .ok (.aload_n 0, 1) := by decide +kernel
theorem dX6_weightOf_9 : decode cX6_weightOf 9 = .ok (.getfield 15, 3) := by decide +kernel
theorem dX6_weightOf_12 : decode cX6_weightOf 12 = .ok (.iload_n 1, 1) := by decide +kernel
theorem dX6_weightOf_13 : decode cX6_weightOf 13 = .ok (.iaload, 1) := by decide +kernel
theorem dX6_weightOf_14 : decode cX6_weightOf 14 = .ok (.goto 4, 3) := by decide +kernel
theorem dX6_weightOf_17 : decode cX6_weightOf 17 = .ok (.iconst 0, 1) := by decide +kernel
theorem dX6_weightOf_18 : decode cX6_weightOf 18 = .ok (.ireturn, 1) := by decide +kernel
theorem dX6_setWeight_0 : decode cX6_setWeight 0 = .ok (.aload_n 0, 1) := by decide +kernel
theorem dX6_setWeight_1 : decode cX6_setWeight 1 = .ok (.iload_n 1, 1) := by decide +kernel
theorem dX6_setWeight_2 : decode cX6_setWeight 2 = .ok (.invokevirtual 19, 3) := by decide +kernel
theorem dX6_setWeight_5 : decode cX6_setWeight 5 = .ok (.ifCond .eq 10, 3) := by decide +kernel
theorem dX6_setWeight_8 : decode cX6_setWeight 8 = .ok (.aload_n 0, 1) := by decide +kernel
theorem dX6_setWeight_9 : decode cX6_setWeight 9 = .ok (.getfield 15, 3) := by decide +kernel
theorem dX6_setWeight_12 : decode cX6_setWeight 12 = .ok (.iload_n 1, 1) := by decide +kernel
theorem dX6_setWeight_13 : decode cX6_setWeight 13 = .ok (.iload_n 2, 1) := by decide +kernel
theorem dX6_setWeight_14 : decode cX6_setWeight 14 = .ok (.iastore, 1) := by decide +kernel
theorem dX6_setWeight_15 : decode cX6_setWeight 15 = .ok (.return_, 1) := by decide +kernel
theorem dX6_clear_0 : decode cX6_clear 0 = .ok (.aload_n 0, 1) := by decide +kernel
theorem dX6_clear_1 : decode cX6_clear 1 = .ok (.iconst 0, 1) := by decide +kernel
theorem dX6_clear_2 : decode cX6_clear 2 = .ok (.putfield 9, 3) := by decide +kernel
theorem dX6_clear_5 : decode cX6_clear 5 = .ok (.return_, 1) := by decide +kernel
theorem dX6_add_0 : decode cX6_add 0 = .ok (.aload_n 0, 1) := by decide +kernel
theorem dX6_add_1 : decode cX6_add 1 = .ok (.getfield 9, 3) := by decide +kernel
theorem dX6_add_4 : decode cX6_add 4 = .ok (.aload_n 0, 1) := by decide +kernel
theorem dX6_add_5 : decode cX6_add 5 = .ok (.getfield 15, 3) := by decide +kernel
theorem dX6_add_8 : decode cX6_add 8 = .ok (.arraylength, 1) := by decide +kernel
theorem dX6_add_9 : decode cX6_add 9 = .ok (.if_icmp .ge 23, 3) := by decide +kernel
theorem dX6_add_12 : decode cX6_add 12 = .ok (.aload_n 0, 1) := by decide +kernel
theorem dX6_add_13 : decode cX6_add 13 = .ok (.getfield 15, 3) := by decide +kernel
theorem dX6_add_16 : decode cX6_add 16 = .ok (.aload_n 0, 1) := by decide +kernel
theorem dX6_add_17 : decode cX6_add 17 = .ok (.getfield 9, 3) := by decide +kernel
theorem dX6_add_20 : decode cX6_add 20 = .ok (.iload_n 1, 1) := by decide +kernel
theorem dX6_add_21 : decode cX6_add 21 = .ok (.iastore, 1) := by decide +kernel
theorem dX6_add_22 : decode cX6_add 22 = .ok (.aload_n 0, 1) := by decide +kernel
theorem dX6_add_23 : decode cX6_add 23 = .ok (.dup, 1) := by decide +kernel
theorem dX6_add_24 : decode cX6_add 24 = .ok (.getfield 9, 3) := by decide +kernel
theorem dX6_add_27 : decode cX6_add 27 = .ok (.iconst 1, 1) := by decide +kernel
theorem dX6_add_28 : decode cX6_add 28 = .ok (.iadd, 1) := by decide +kernel
theorem dX6_add_29 : decode cX6_add 29 = .ok (.putfield 9, 3) := by decide +kernel
theorem dX6_add_32 : decode cX6_add 32 = .ok (.return_, 1) := by decide +kernel
theorem dX6_greatestOf_0 : decode cX6_greatestOf 0 = .ok (.iconst 0, 1) := by decide +kernel
theorem dX6_greatestOf_1 : decode cX6_greatestOf 1 = .ok (.istore_n 2, 1) := by decide +kernel
theorem dX6_greatestOf_2 : decode cX6_greatestOf 2 = .ok (.iconst 0, 1) := by decide +kernel
theorem dX6_greatestOf_3 : decode cX6_greatestOf 3 = .ok (.istore_n 3, 1) := by decide +kernel
theorem dX6_greatestOf_4 : decode cX6_greatestOf 4 = .ok (.iload_n 3, 1) := by decide +kernel
theorem dX6_greatestOf_5 : decode cX6_greatestOf 5 = .ok (.aload_n 0, 1) := by decide +kernel
theorem dX6_greatestOf_6 : decode cX6_greatestOf 6 = .ok (.getfield 9, 3) := by decide +kernel
theorem dX6_greatestOf_9 : decode cX6_greatestOf 9 = .ok (.if_icmp .ge 31, 3) := by decide +kernel
theorem dX6_greatestOf_12 : decode cX6_greatestOf 12 = .ok (.iload_n 1, 1) := by decide +kernel
theorem dX6_greatestOf_13 : decode cX6_greatestOf 13 = .ok (.iload_n 3, 1) := by decide +kernel
theorem dX6_greatestOf_14 : decode cX6_greatestOf 14 = .ok (.invokestatic 23, 3) := by decide +kernel
theorem dX6_greatestOf_17 : decode cX6_greatestOf 17 = .ok (.ifCond .eq 15, 3) := by decide +kernel
theorem dX6_greatestOf_20 : decode cX6_greatestOf 20 = .ok (.iload_n 2, 1) := by decide +kernel
theorem dX6_greatestOf_21 : decode cX6_greatestOf 21 = .ok (.aload_n 0, 1) := by decide +kernel
theorem dX6_greatestOf_22 : decode cX6_greatestOf 22 = .ok (.iload_n 3, 1) := by decide +kernel
theorem dX6_greatestOf_23 : decode cX6_greatestOf 23 = .ok (.invokevirtual 27, 3) := by decide +kernel
theorem dX6_greatestOf_26 : decode cX6_greatestOf 26 = .ok (.invokestatic 31, 3) := by decide +kernel
theorem dX6_greatestOf_29 : decode cX6_greatestOf 29 = .ok (.goto 4, 3) := by decide +kernel
theorem dX6_greatestOf_32 : decode cX6_greatestOf 32 = .ok (.iload_n 2, 1) := by decide +kernel
theorem dX6_greatestOf_33 : decode cX6_greatestOf 33 = .ok (.istore_n 2, 1) := by decide +kernel
theorem dX6_greatestOf_34 : decode cX6_greatestOf 34 = .ok (.iinc 3 1, 3) := by decide +kernel
theorem dX6_greatestOf_37 : decode cX6_greatestOf 37 = .ok (.goto (-33), 3) := by decide +kernel
theorem dX6_greatestOf_40 : decode cX6_greatestOf 40 = .ok (.iload_n 2, 1) := by decide +kernel
theorem dX6_greatestOf_41 : decode cX6_greatestOf 41 = .ok (.ireturn, 1) := by decide +kernel
theorem dX7_init_0 : decode cX7_init 0 = .ok (.aload_n 0, 1) := by decide +kernel
theorem dX7_init_1 : decode cX7_init 1 = .ok (.invokespecial 5, 3) := by decide +kernel
theorem dX7_init_4 : decode cX7_init 4 = .ok (.aload_n 0, 1) := by decide +kernel
theorem dX7_init_5 : decode cX7_init 5 = .ok (.new 11, 3) := by decide +kernel
theorem dX7_init_8 : decode cX7_init 8 = .ok (.dup, 1) := by decide +kernel
theorem dX7_init_9 : decode cX7_init 9 = .ok (.invokespecial 13, 3) := by decide +kernel
theorem dX7_init_12 : decode cX7_init 12 = .ok (.putfield 14, 3) := by decide +kernel
theorem dX7_init_15 : decode cX7_init 15 = .ok (.aload_n 0, 1) := by decide +kernel
theorem dX7_init_16 : decode cX7_init 16 = .ok (.new 18, 3) := by decide +kernel
theorem dX7_init_19 : decode cX7_init 19 = .ok (.dup, 1) := by decide +kernel
theorem dX7_init_20 : decode cX7_init 20 = .ok (.invokespecial 20, 3) := by decide +kernel
theorem dX7_init_23 : decode cX7_init 23 = .ok (.putfield 21, 3) := by decide +kernel
theorem dX7_init_26 : decode cX7_init 26 = .ok (.aload_n 0, 1) := by decide +kernel
theorem dX7_init_27 : decode cX7_init 27 = .ok (.new 25, 3) := by decide +kernel
theorem dX7_init_30 : decode cX7_init 30 = .ok (.dup, 1) := by decide +kernel
theorem dX7_init_31 : decode cX7_init 31 = .ok (.invokespecial 27, 3) := by decide +kernel
theorem dX7_init_34 : decode cX7_init 34 = .ok (.putfield 28, 3) := by decide +kernel
theorem dX7_init_37 : decode cX7_init 37 = .ok (.aload_n 0, 1) := by decide +kernel
theorem dX7_init_38 : decode cX7_init 38 = .ok (.new 32, 3) := by decide +kernel
theorem dX7_init_41 : decode cX7_init 41 = .ok (.dup, 1) := by decide +kernel
theorem dX7_init_42 : decode cX7_init 42 = .ok (.invokespecial 34, 3) := by decide +kernel
theorem dX7_init_45 : decode cX7_init 45 = .ok (.putfield 35, 3) := by decide +kernel
theorem dX7_init_48 : decode cX7_init 48 = .ok (.aload_n 0, 1) := by decide +kernel
theorem dX7_init_49 : decode cX7_init 49 = .ok (.new 39, 3) := by decide +kernel
theorem dX7_init_52 : decode cX7_init 52 = .ok (.dup, 1) := by decide +kernel
theorem dX7_init_53 : decode cX7_init 53 = .ok (.invokespecial 41, 3) := by decide +kernel
theorem dX7_init_56 : decode cX7_init 56 = .ok (.putfield 42, 3) := by decide +kernel
theorem dX7_init_59 : decode cX7_init 59 = .ok (.aload_n 0, 1) := by decide +kernel
theorem dX7_init_60 : decode cX7_init 60 = .ok (.new 39, 3) := by decide +kernel
theorem dX7_init_63 : decode cX7_init 63 = .ok (.dup, 1) := by decide +kernel
theorem dX7_init_64 : decode cX7_init 64 = .ok (.invokespecial 41, 3) := by decide +kernel
theorem dX7_init_67 : decode cX7_init 67 = .ok (.putfield 46, 3) := by decide +kernel
theorem dX7_init_70 : decode cX7_init 70 = .ok (.aload_n 0, 1) := by decide +kernel
theorem dX7_init_71 : decode cX7_init 71 = .ok (.new 49, 3) := by decide +kernel
theorem dX7_init_74 : decode cX7_init 74 = .ok (.dup, 1) := by decide +kernel
theorem dX7_init_75 : decode cX7_init 75 = .ok (.invokespecial 51, 3) := by decide +kernel
theorem dX7_init_78 : decode cX7_init 78 = .ok (.putfield 52, 3) := by decide +kernel
theorem dX7_init_81 : decode cX7_init 81 = .ok (.aload_n 0, 1) := by decide +kernel
theorem dX7_init_82 : decode cX7_init 82 = .ok (.iconst 0, 1) := by decide +kernel
theorem dX7_init_83 : decode cX7_init 83 = .ok (.putfield 56, 3) := by decide +kernel
theorem dX7_init_86 : decode cX7_init 86 = .ok (.aload_n 0, 1) := by decide +kernel
theorem dX7_init_87 : decode cX7_init 87 = .ok (.iconst 0, 1) := by decide +kernel
theorem dX7_init_88 : decode cX7_init 88 = .ok (.putfield 60, 3) := by decide +kernel
theorem dX7_init_91 : decode cX7_init 91 = .ok (.return_, 1) := by decide +kernel
theorem dX7_market_0 : decode cX7_market 0 = .ok (.aload_n 0, 1) := by decide +kernel
theorem dX7_market_1 : decode cX7_market 1 = .ok (.iconst 0, 1) := by decide +kernel
theorem dX7_market_2 : decode cX7_market 2 = .ok (.putfield 60, 3) := by decide +kernel
theorem dX7_market_5 : decode cX7_market 5 = .ok (.aload_n 0, 1) := by decide +kernel
theorem dX7_market_6 : decode cX7_market 6 = .ok (.getfield 35, 3) := by decide +kernel
theorem dX7_market_9 : decode cX7_market 9 = .ok (.iload_n 1, 1) := by decide +kernel
theorem dX7_market_10 : decode cX7_market 10 = .ok (.invokevirtual 63, 3) := by decide +kernel
theorem dX7_market_13 : decode cX7_market 13 = .ok (.ifCond .ne 5, 3) := by decide +kernel
theorem dX7_market_16 : decode cX7_market 16 = .ok (.iconst (-1), 1) := by decide +kernel
theorem dX7_market_17 : decode cX7_market 17 = .ok (.ireturn, 1) := by decide +kernel
theorem dX7_market_18 : decode cX7_market 18 = .ok (.iload_n 2, 1) := by decide +kernel
theorem dX7_market_19 : decode cX7_market 19 = .ok (.invokestatic 67, 3) := by decide +kernel
theorem dX7_market_22 : decode cX7_market 22 = .ok (.ifCond .ne 6, 3) := by decide +kernel
theorem dX7_market_25 : decode cX7_market 25 = .ok (.bipush (-2), 2) := by decide +kernel
theorem dX7_market_27 : decode cX7_market 27 = .ok (.ireturn, 1) := by decide +kernel
theorem dX7_market_28 : decode cX7_market 28 = .ok (.aload_n 0, 1) := by decide +kernel
theorem dX7_market_29 : decode cX7_market 29 = .ok (.getfield 35, 3) := by decide +kernel
theorem dX7_market_32 : decode cX7_market 32 = .ok (.iload_n 1, 1) := by decide +kernel
theorem dX7_market_33 : decode cX7_market 33 = .ok (.iload_n 2, 1) := by decide +kernel
theorem dX7_market_34 : decode cX7_market 34 = .ok (.iload_n 3, 1) := by decide +kernel
theorem dX7_market_35 : decode cX7_market 35 = .ok (.iload 4, 2) := by decide +kernel
theorem dX7_market_37 : decode cX7_market 37 = .ok (.invokevirtual 70, 3) := by decide +kernel
theorem dX7_market_40 : decode cX7_market 40 = .ok (.istore 5, 2) := by decide +kernel
theorem dX7_market_42 : decode cX7_market 42 = .ok (.iload 5, 2) := by decide +kernel
theorem dX7_market_44 : decode cX7_market 44 = .ok (.ifCond .eq 10, 3) := by decide +kernel
theorem dX7_market_47 : decode cX7_market 47 = .ok (.aload_n 0, 1) := by decide +kernel
theorem dX7_market_48 : decode cX7_market 48 = .ok (.iload 5, 2) := by decide +kernel
theorem dX7_market_50 : decode cX7_market 50 = .ok (.invokevirtual 74, 3) := by decide +kernel
theorem dX7_market_53 : decode cX7_market 53 = .ok (.ireturn, 1) := by decide +kernel
theorem dX7_market_54 : decode cX7_market 54 = .ok (.aload_n 0, 1) := by decide +kernel
theorem dX7_market_55 : decode cX7_market 55 = .ok (.getfield 35, 3) := by decide +kernel
theorem dX7_market_58 : decode cX7_market 58 = .ok (.iload_n 1, 1) := by decide +kernel
theorem dX7_market_59 : decode cX7_market 59 = .ok (.iload_n 3, 1) := by decide +kernel
theorem dX7_market_60 : decode cX7_market 60 = .ok (.iload 4, 2) := by decide +kernel
theorem dX7_market_62 : decode cX7_market 62 = .ok (.invokestatic 78, 3) := by decide +kernel
theorem dX7_market_65 : decode cX7_market 65 = .ok (.istore 6, 2) := by decide +kernel
theorem dX7_market_67 : decode cX7_market 67 = .ok (.iload 6, 2) := by decide +kernel
theorem dX7_market_69 : decode cX7_market 69 = .ok (.iconst (-1), 1) := by decide +kernel
theorem dX7_market_70 : decode cX7_market 70 = .ok (.if_icmp .eq 9, 3) := by decide +kernel
theorem dX7_market_73 : decode cX7_market 73 = .ok (.bipush (-100), 2) := by decide +kernel
theorem dX7_market_75 : decode cX7_market 75 = .ok (.iload 6, 2) := by decide +kernel
theorem dX7_market_77 : decode cX7_market 77 = .ok (.isub, 1) := by decide +kernel
theorem dX7_market_78 : decode cX7_market 78 = .ok (.ireturn, 1) := by decide +kernel
theorem dX7_market_79 : decode cX7_market 79 = .ok (.aload_n 0, 1) := by decide +kernel
theorem dX7_market_80 : decode cX7_market 80 = .ok (.getfield 21, 3) := by decide +kernel
theorem dX7_market_83 : decode cX7_market 83 = .ok (.invokevirtual 84, 3) := by decide +kernel
theorem dX7_market_86 : decode cX7_market 86 = .ok (.aload_n 0, 1) := by decide +kernel
theorem dX7_market_87 : decode cX7_market 87 = .ok (.getfield 28, 3) := by decide +kernel
theorem dX7_market_90 : decode cX7_market 90 = .ok (.invokevirtual 87, 3) := by decide +kernel
theorem dX7_market_93 : decode cX7_market 93 = .ok (.aload_n 0, 1) := by decide +kernel
theorem dX7_market_94 : decode cX7_market 94 = .ok (.getfield 35, 3) := by decide +kernel
theorem dX7_market_97 : decode cX7_market 97 = .ok (.iload_n 1, 1) := by decide +kernel
theorem dX7_market_98 : decode cX7_market 98 = .ok (.iload_n 3, 1) := by decide +kernel
theorem dX7_market_99 : decode cX7_market 99 = .ok (.iload 4, 2) := by decide +kernel
theorem dX7_market_101 : decode cX7_market 101 = .ok (.aload_n 0, 1) := by decide +kernel
theorem dX7_market_102 : decode cX7_market 102 = .ok (.getfield 14, 3) := by decide +kernel
theorem dX7_market_105 : decode cX7_market 105 = .ok (.invokestatic 88, 3) := by decide +kernel
theorem dX7_market_108 : decode cX7_market 108 = .ok (.aload_n 0, 1) := by decide +kernel
theorem dX7_market_109 : decode cX7_market 109 = .ok (.getfield 14, 3) := by decide +kernel
theorem dX7_market_112 : decode cX7_market 112 = .ok (.invokevirtual 92, 3) := by decide +kernel
theorem dX7_market_115 : decode cX7_market 115 = .ok (.ireturn, 1) := by decide +kernel
theorem dX7_weight_0 : decode cX7_weight 0 = .ok (.aload_n 0, 1) := by decide +kernel
theorem dX7_weight_1 : decode cX7_weight 1 = .ok (.getfield 14, 3) := by decide +kernel
theorem dX7_weight_4 : decode cX7_weight 4 = .ok (.iload_n 1, 1) := by decide +kernel
theorem dX7_weight_5 : decode cX7_weight 5 = .ok (.invokevirtual 96, 3) := by decide +kernel
theorem dX7_weight_8 : decode cX7_weight 8 = .ok (.ifCond .eq 14, 3) := by decide +kernel
theorem dX7_weight_11 : decode cX7_weight 11 = .ok (.aload_n 0, 1) := by decide +kernel
theorem dX7_weight_12 : decode cX7_weight 12 = .ok (.getfield 14, 3) := by decide +kernel
theorem dX7_weight_15 : decode cX7_weight 15 = .ok (.iload_n 1, 1) := by decide +kernel
theorem dX7_weight_16 : decode cX7_weight 16 = .ok (.invokevirtual 97, 3) := by decide +kernel
theorem dX7_weight_19 : decode cX7_weight 19 = .ok (.goto 4, 3) := by decide +kernel
theorem dX7_weight_22 : decode cX7_weight 22 = .ok (.iconst (-1), 1) := by decide +kernel
theorem dX7_weight_23 : decode cX7_weight 23 = .ok (.ireturn, 1) := by decide +kernel
theorem dX7_weigh_0 : decode cX7_weigh 0 = .ok (.aload_n 0, 1) := by decide +kernel
theorem dX7_weigh_1 : decode cX7_weigh 1 = .ok (.getfield 14, 3) := by decide +kernel
theorem dX7_weigh_4 : decode cX7_weigh 4 = .ok (.iload_n 1, 1) := by decide +kernel
theorem dX7_weigh_5 : decode cX7_weigh 5 = .ok (.invokevirtual 96, 3) := by decide +kernel
theorem dX7_weigh_8 : decode cX7_weigh 8 = .ok (.ifCond .ne 5, 3) := by decide +kernel
theorem dX7_weigh_11 : decode cX7_weigh 11 = .ok (.iconst (-1), 1) := by decide +kernel
theorem dX7_weigh_12 : decode cX7_weigh 12 = .ok (.ireturn, 1) := by decide +kernel
theorem dX7_weigh_13 : decode cX7_weigh 13 = .ok (.iload_n 2, 1) := by decide +kernel
theorem dX7_weigh_14 : decode cX7_weigh 14 = .ok (.iconst 1, 1) := by decide +kernel
theorem dX7_weigh_15 : decode cX7_weigh 15 = .ok (.if_icmp .lt 10, 3) := by decide +kernel
theorem dX7_weigh_18 : decode cX7_weigh 18 = .ok (.iload_n 2, 1) := by decide +kernel
theorem dX7_weigh_19 : decode cX7_weigh 19 = .ok (.sipush 999, 3) := by decide +kernel
theorem dX7_weigh_22 : decode cX7_weigh 22 = .ok (.if_icmp .le 6, 3) := by decide +kernel
theorem dX7_weigh_25 : decode cX7_weigh 25 = .ok (.bipush (-2), 2) := by decide +kernel
theorem dX7_weigh_27 : decode cX7_weigh 27 = .ok (.ireturn, 1) := by decide +kernel
theorem dX7_weigh_28 : decode cX7_weigh 28 = .ok (.aload_n 0, 1) := by decide +kernel
theorem dX7_weigh_29 : decode cX7_weigh 29 = .ok (.getfield 14, 3) := by decide +kernel
theorem dX7_weigh_32 : decode cX7_weigh 32 = .ok (.iload_n 1, 1) := by decide +kernel
theorem dX7_weigh_33 : decode cX7_weigh 33 = .ok (.invokevirtual 97, 3) := by decide +kernel
theorem dX7_weigh_36 : decode cX7_weigh 36 = .ok (.istore_n 3, 1) := by decide +kernel
theorem dX7_weigh_37 : decode cX7_weigh 37 = .ok (.aload_n 0, 1) := by decide +kernel
theorem dX7_weigh_38 : decode cX7_weigh 38 = .ok (.getfield 14, 3) := by decide +kernel
theorem dX7_weigh_41 : decode cX7_weigh 41 = .ok (.iload_n 1, 1) := by decide +kernel
theorem dX7_weigh_42 : decode cX7_weigh 42 = .ok (.iload_n 2, 1) := by decide +kernel
theorem dX7_weigh_43 : decode cX7_weigh 43 = .ok (.invokevirtual 100, 3) := by decide +kernel
theorem dX7_weigh_46 : decode cX7_weigh 46 = .ok (.iload_n 3, 1) := by decide +kernel
theorem dX7_weigh_47 : decode cX7_weigh 47 = .ok (.ireturn, 1) := by decide +kernel
theorem dX7_hand_0 : decode cX7_hand 0 = .ok (.iload_n 1, 1) := by decide +kernel
theorem dX7_hand_1 : decode cX7_hand 1 = .ok (.invokestatic 104, 3) := by decide +kernel
theorem dX7_hand_4 : decode cX7_hand 4 = .ok (.ifCond .eq 14, 3) := by decide +kernel
theorem dX7_hand_7 : decode cX7_hand 7 = .ok (.iload_n 2, 1) := by decide +kernel
theorem dX7_hand_8 : decode cX7_hand 8 = .ok (.iconst 1, 1) := by decide +kernel
theorem dX7_hand_9 : decode cX7_hand 9 = .ok (.if_icmp .lt 9, 3) := by decide +kernel
theorem dX7_hand_12 : decode cX7_hand 12 = .ok (.iload_n 2, 1) := by decide +kernel
theorem dX7_hand_13 : decode cX7_hand 13 = .ok (.bipush 20, 2) := by decide +kernel
theorem dX7_hand_15 : decode cX7_hand 15 = .ok (.if_icmp .le 6, 3) := by decide +kernel
theorem dX7_hand_18 : decode cX7_hand 18 = .ok (.bipush (-2), 2) := by decide +kernel
theorem dX7_hand_20 : decode cX7_hand 20 = .ok (.ireturn, 1) := by decide +kernel
theorem dX7_hand_21 : decode cX7_hand 21 = .ok (.aload_n 0, 1) := by decide +kernel
theorem dX7_hand_22 : decode cX7_hand 22 = .ok (.getfield 14, 3) := by decide +kernel
theorem dX7_hand_25 : decode cX7_hand 25 = .ok (.invokevirtual 92, 3) := by decide +kernel
theorem dX7_hand_28 : decode cX7_hand 28 = .ok (.ifCond .ne 6, 3) := by decide +kernel
theorem dX7_hand_31 : decode cX7_hand 31 = .ok (.bipush (-3), 2) := by decide +kernel
theorem dX7_hand_33 : decode cX7_hand 33 = .ok (.ireturn, 1) := by decide +kernel
theorem dX7_hand_34 : decode cX7_hand 34 = .ok (.aload_n 0, 1) := by decide +kernel
theorem dX7_hand_35 : decode cX7_hand 35 = .ok (.getfield 21, 3) := by decide +kernel
theorem dX7_hand_38 : decode cX7_hand 38 = .ok (.iload_n 1, 1) := by decide +kernel
theorem dX7_hand_39 : decode cX7_hand 39 = .ok (.iload_n 2, 1) := by decide +kernel
theorem dX7_hand_40 : decode cX7_hand 40 = .ok (.invokevirtual 107, 3) := by decide +kernel
theorem dX7_hand_43 : decode cX7_hand 43 = .ok (.ireturn, 1) := by decide +kernel
theorem dX7_tells_0 : decode cX7_tells 0 = .ok (.aload_n 0, 1) := by decide +kernel
theorem dX7_tells_1 : decode cX7_tells 1 = .ok (.getfield 21, 3) := by decide +kernel
theorem dX7_tells_4 : decode cX7_tells 4 = .ok (.iload_n 1, 1) := by decide +kernel
theorem dX7_tells_5 : decode cX7_tells 5 = .ok (.invokevirtual 111, 3) := by decide +kernel
theorem dX7_tells_8 : decode cX7_tells 8 = .ok (.ifCond .ne 5, 3) := by decide +kernel
theorem dX7_tells_11 : decode cX7_tells 11 = .ok (.iconst (-1), 1) := by decide +kernel
theorem dX7_tells_12 : decode cX7_tells 12 = .ok (.ireturn, 1) := by decide +kernel
theorem dX7_tells_13 : decode cX7_tells 13 = .ok (.iload_n 2, 1) := by decide +kernel
theorem dX7_tells_14 : decode cX7_tells 14 = .ok (.iconst 1, 1) := by decide +kernel
theorem dX7_tells_15 : decode cX7_tells 15 = .ok (.if_icmp .lt 22, 3) := by decide +kernel
theorem dX7_tells_18 : decode cX7_tells 18 = .ok (.iload_n 2, 1) := by decide +kernel
theorem dX7_tells_19 : decode cX7_tells 19 = .ok (.sipush 9999, 3) := by decide +kernel
theorem dX7_tells_22 : decode cX7_tells 22 = .ok (.if_icmp .gt 15, 3) := by decide +kernel
theorem dX7_tells_25 : decode cX7_tells 25 = .ok (.iload_n 3, 1) := by decide +kernel
theorem dX7_tells_26 : decode cX7_tells 26 = .ok (.iconst 1, 1) := by decide +kernel
theorem dX7_tells_27 : decode cX7_tells 27 = .ok (.if_icmp .lt 10, 3) := by decide +kernel
theorem dX7_tells_30 : decode cX7_tells 30 = .ok (.iload_n 3, 1) := by decide +kernel
theorem dX7_tells_31 : decode cX7_tells 31 = .ok (.sipush 9999, 3) := by decide +kernel
theorem dX7_tells_34 : decode cX7_tells 34 = .ok (.if_icmp .le 6, 3) := by decide +kernel
theorem dX7_tells_37 : decode cX7_tells 37 = .ok (.bipush (-2), 2) := by decide +kernel
theorem dX7_tells_39 : decode cX7_tells 39 = .ok (.ireturn, 1) := by decide +kernel
theorem dX7_tells_40 : decode cX7_tells 40 = .ok (.aload_n 0, 1) := by decide +kernel
theorem dX7_tells_41 : decode cX7_tells 41 = .ok (.getfield 21, 3) := by decide +kernel
theorem dX7_tells_44 : decode cX7_tells 44 = .ok (.iload_n 1, 1) := by decide +kernel
theorem dX7_tells_45 : decode cX7_tells 45 = .ok (.iload_n 2, 1) := by decide +kernel
theorem dX7_tells_46 : decode cX7_tells 46 = .ok (.iload_n 3, 1) := by decide +kernel
theorem dX7_tells_47 : decode cX7_tells 47 = .ok (.invokevirtual 121, 3) := by decide +kernel
theorem dX7_tells_50 : decode cX7_tells 50 = .ok (.ifCond .eq 7, 3) := by decide +kernel
theorem dX7_tells_53 : decode cX7_tells 53 = .ok (.iconst 1, 1) := by decide +kernel
theorem dX7_tells_54 : decode cX7_tells 54 = .ok (.goto 4, 3) := by decide +kernel
theorem dX7_tells_57 : decode cX7_tells 57 = .ok (.iconst 0, 1) := by decide +kernel
theorem dX7_tells_58 : decode cX7_tells 58 = .ok (.ireturn, 1) := by decide +kernel
theorem dX7_alike_0 : decode cX7_alike 0 = .ok (.aload_n 0, 1) := by decide +kernel
theorem dX7_alike_1 : decode cX7_alike 1 = .ok (.getfield 21, 3) := by decide +kernel
theorem dX7_alike_4 : decode cX7_alike 4 = .ok (.iload_n 1, 1) := by decide +kernel
theorem dX7_alike_5 : decode cX7_alike 5 = .ok (.invokevirtual 111, 3) := by decide +kernel
theorem dX7_alike_8 : decode cX7_alike 8 = .ok (.ifCond .eq 14, 3) := by decide +kernel
theorem dX7_alike_11 : decode cX7_alike 11 = .ok (.aload_n 0, 1) := by decide +kernel
theorem dX7_alike_12 : decode cX7_alike 12 = .ok (.getfield 14, 3) := by decide +kernel
theorem dX7_alike_15 : decode cX7_alike 15 = .ok (.iload_n 2, 1) := by decide +kernel
theorem dX7_alike_16 : decode cX7_alike 16 = .ok (.invokevirtual 96, 3) := by decide +kernel
theorem dX7_alike_19 : decode cX7_alike 19 = .ok (.ifCond .ne 5, 3) := by decide +kernel
theorem dX7_alike_22 : decode cX7_alike 22 = .ok (.iconst (-1), 1) := by decide +kernel
theorem dX7_alike_23 : decode cX7_alike 23 = .ok (.ireturn, 1) := by decide +kernel
theorem dX7_alike_24 : decode cX7_alike 24 = .ok (.aload_n 0, 1) := by decide +kernel
theorem dX7_alike_25 : decode cX7_alike 25 = .ok (.getfield 42, 3) := by decide +kernel
theorem dX7_alike_28 : decode cX7_alike 28 = .ok (.aload_n 0, 1) := by decide +kernel
theorem dX7_alike_29 : decode cX7_alike 29 = .ok (.getfield 21, 3) := by decide +kernel
theorem dX7_alike_32 : decode cX7_alike 32 = .ok (.iload_n 1, 1) := by decide +kernel
theorem dX7_alike_33 : decode cX7_alike 33 = .ok (.aload_n 0, 1) := by decide +kernel
theorem dX7_alike_34 : decode cX7_alike 34 = .ok (.getfield 14, 3) := by decide +kernel
theorem dX7_alike_37 : decode cX7_alike 37 = .ok (.invokevirtual 125, 3) := by decide +kernel
theorem dX7_alike_40 : decode cX7_alike 40 = .ok (.aload_n 0, 1) := by decide +kernel
theorem dX7_alike_41 : decode cX7_alike 41 = .ok (.getfield 42, 3) := by decide +kernel
theorem dX7_alike_44 : decode cX7_alike 44 = .ok (.iload_n 2, 1) := by decide +kernel
theorem dX7_alike_45 : decode cX7_alike 45 = .ok (.invokevirtual 129, 3) := by decide +kernel
theorem dX7_alike_48 : decode cX7_alike 48 = .ok (.ireturn, 1) := by decide +kernel
theorem dX7_finer_0 : decode cX7_finer 0 = .ok (.aload_n 0, 1) := by decide +kernel
theorem dX7_finer_1 : decode cX7_finer 1 = .ok (.getfield 21, 3) := by decide +kernel
theorem dX7_finer_4 : decode cX7_finer 4 = .ok (.iload_n 1, 1) := by decide +kernel
theorem dX7_finer_5 : decode cX7_finer 5 = .ok (.invokevirtual 111, 3) := by decide +kernel
theorem dX7_finer_8 : decode cX7_finer 8 = .ok (.ifCond .eq 14, 3) := by decide +kernel
theorem dX7_finer_11 : decode cX7_finer 11 = .ok (.aload_n 0, 1) := by decide +kernel
theorem dX7_finer_12 : decode cX7_finer 12 = .ok (.getfield 21, 3) := by decide +kernel
theorem dX7_finer_15 : decode cX7_finer 15 = .ok (.iload_n 2, 1) := by decide +kernel
theorem dX7_finer_16 : decode cX7_finer 16 = .ok (.invokevirtual 111, 3) := by decide +kernel
theorem dX7_finer_19 : decode cX7_finer 19 = .ok (.ifCond .ne 5, 3) := by decide +kernel
theorem dX7_finer_22 : decode cX7_finer 22 = .ok (.iconst (-1), 1) := by decide +kernel
theorem dX7_finer_23 : decode cX7_finer 23 = .ok (.ireturn, 1) := by decide +kernel
theorem dX7_finer_24 : decode cX7_finer 24 = .ok (.aload_n 0, 1) := by decide +kernel
theorem dX7_finer_25 : decode cX7_finer 25 = .ok (.getfield 42, 3) := by decide +kernel
theorem dX7_finer_28 : decode cX7_finer 28 = .ok (.aload_n 0, 1) := by decide +kernel
theorem dX7_finer_29 : decode cX7_finer 29 = .ok (.getfield 21, 3) := by decide +kernel
theorem dX7_finer_32 : decode cX7_finer 32 = .ok (.iload_n 1, 1) := by decide +kernel
theorem dX7_finer_33 : decode cX7_finer 33 = .ok (.aload_n 0, 1) := by decide +kernel
theorem dX7_finer_34 : decode cX7_finer 34 = .ok (.getfield 14, 3) := by decide +kernel
theorem dX7_finer_37 : decode cX7_finer 37 = .ok (.invokevirtual 125, 3) := by decide +kernel
theorem dX7_finer_40 : decode cX7_finer 40 = .ok (.aload_n 0, 1) := by decide +kernel
theorem dX7_finer_41 : decode cX7_finer 41 = .ok (.getfield 46, 3) := by decide +kernel
theorem dX7_finer_44 : decode cX7_finer 44 = .ok (.aload_n 0, 1) := by decide +kernel
theorem dX7_finer_45 : decode cX7_finer 45 = .ok (.getfield 21, 3) := by decide +kernel
theorem dX7_finer_48 : decode cX7_finer 48 = .ok (.iload_n 2, 1) := by decide +kernel
theorem dX7_finer_49 : decode cX7_finer 49 = .ok (.aload_n 0, 1) := by decide +kernel
theorem dX7_finer_50 : decode cX7_finer 50 = .ok (.getfield 14, 3) := by decide +kernel
theorem dX7_finer_53 : decode cX7_finer 53 = .ok (.invokevirtual 125, 3) := by decide +kernel
theorem dX7_finer_56 : decode cX7_finer 56 = .ok (.aload_n 0, 1) := by decide +kernel
theorem dX7_finer_57 : decode cX7_finer 57 = .ok (.getfield 42, 3) := by decide +kernel
theorem dX7_finer_60 : decode cX7_finer 60 = .ok (.aload_n 0, 1) := by decide +kernel
theorem dX7_finer_61 : decode cX7_finer 61 = .ok (.getfield 46, 3) := by decide +kernel
theorem dX7_finer_64 : decode cX7_finer 64 = .ok (.invokevirtual 132, 3) := by decide +kernel
theorem dX7_finer_67 : decode cX7_finer 67 = .ok (.ifCond .eq 7, 3) := by decide +kernel
theorem dX7_finer_70 : decode cX7_finer 70 = .ok (.iconst 1, 1) := by decide +kernel
theorem dX7_finer_71 : decode cX7_finer 71 = .ok (.goto 4, 3) := by decide +kernel
theorem dX7_finer_74 : decode cX7_finer 74 = .ok (.iconst 0, 1) := by decide +kernel
theorem dX7_finer_75 : decode cX7_finer 75 = .ok (.ireturn, 1) := by decide +kernel
theorem dX7_way_0 : decode cX7_way 0 = .ok (.aload_n 0, 1) := by decide +kernel
theorem dX7_way_1 : decode cX7_way 1 = .ok (.getfield 21, 3) := by decide +kernel
theorem dX7_way_4 : decode cX7_way 4 = .ok (.iload_n 1, 1) := by decide +kernel
theorem dX7_way_5 : decode cX7_way 5 = .ok (.invokevirtual 111, 3) := by decide +kernel
theorem dX7_way_8 : decode cX7_way 8 = .ok (.ifCond .eq 31, 3) := by decide +kernel
theorem dX7_way_11 : decode cX7_way 11 = .ok (.aload_n 0, 1) := by decide +kernel
theorem dX7_way_12 : decode cX7_way 12 = .ok (.getfield 14, 3) := by decide +kernel
theorem dX7_way_15 : decode cX7_way 15 = .ok (.iload_n 2, 1) := by decide +kernel
theorem dX7_way_16 : decode cX7_way 16 = .ok (.invokevirtual 96, 3) := by decide +kernel
theorem dX7_way_19 : decode cX7_way 19 = .ok (.ifCond .eq 20, 3) := by decide +kernel
theorem dX7_way_22 : decode cX7_way 22 = .ok (.aload_n 0, 1) := by decide +kernel
theorem dX7_way_23 : decode cX7_way 23 = .ok (.getfield 14, 3) := by decide +kernel
theorem dX7_way_26 : decode cX7_way 26 = .ok (.iload_n 3, 1) := by decide +kernel
theorem dX7_way_27 : decode cX7_way 27 = .ok (.invokevirtual 96, 3) := by decide +kernel
theorem dX7_way_30 : decode cX7_way 30 = .ok (.ifCond .eq 9, 3) := by decide +kernel
theorem dX7_way_33 : decode cX7_way 33 = .ok (.iload 4, 2) := by decide +kernel
theorem dX7_way_35 : decode cX7_way 35 = .ok (.iconst (-1), 1) := by decide +kernel
theorem dX7_way_36 : decode cX7_way 36 = .ok (.if_icmp .ge 5, 3) := by decide +kernel
theorem dX7_way_39 : decode cX7_way 39 = .ok (.iconst (-1), 1) := by decide +kernel
theorem dX7_way_40 : decode cX7_way 40 = .ok (.ireturn, 1) := by decide +kernel
theorem dX7_way_41 : decode cX7_way 41 = .ok (.aload_n 0, 1) := by decide +kernel
theorem dX7_way_42 : decode cX7_way 42 = .ok (.getfield 42, 3) := by decide +kernel
theorem dX7_way_45 : decode cX7_way 45 = .ok (.aload_n 0, 1) := by decide +kernel
theorem dX7_way_46 : decode cX7_way 46 = .ok (.getfield 21, 3) := by decide +kernel
theorem dX7_way_49 : decode cX7_way 49 = .ok (.iload_n 1, 1) := by decide +kernel
theorem dX7_way_50 : decode cX7_way 50 = .ok (.aload_n 0, 1) := by decide +kernel
theorem dX7_way_51 : decode cX7_way 51 = .ok (.getfield 14, 3) := by decide +kernel
theorem dX7_way_54 : decode cX7_way 54 = .ok (.invokevirtual 125, 3) := by decide +kernel
theorem dX7_way_57 : decode cX7_way 57 = .ok (.iload 4, 2) := by decide +kernel
theorem dX7_way_59 : decode cX7_way 59 = .ok (.iconst (-1), 1) := by decide +kernel
theorem dX7_way_60 : decode cX7_way 60 = .ok (.if_icmp .ne 15, 3) := by decide +kernel
theorem dX7_way_63 : decode cX7_way 63 = .ok (.aload_n 0, 1) := by decide +kernel
theorem dX7_way_64 : decode cX7_way 64 = .ok (.getfield 42, 3) := by decide +kernel
theorem dX7_way_67 : decode cX7_way 67 = .ok (.iload_n 2, 1) := by decide +kernel
theorem dX7_way_68 : decode cX7_way 68 = .ok (.iload_n 3, 1) := by decide +kernel
theorem dX7_way_69 : decode cX7_way 69 = .ok (.invokevirtual 136, 3) := by decide +kernel
theorem dX7_way_72 : decode cX7_way 72 = .ok (.goto 14, 3) := by decide +kernel
theorem dX7_way_75 : decode cX7_way 75 = .ok (.aload_n 0, 1) := by decide +kernel
theorem dX7_way_76 : decode cX7_way 76 = .ok (.getfield 42, 3) := by decide +kernel
theorem dX7_way_79 : decode cX7_way 79 = .ok (.iload_n 2, 1) := by decide +kernel
theorem dX7_way_80 : decode cX7_way 80 = .ok (.iload_n 3, 1) := by decide +kernel
theorem dX7_way_81 : decode cX7_way 81 = .ok (.iload 4, 2) := by decide +kernel
theorem dX7_way_83 : decode cX7_way 83 = .ok (.invokevirtual 139, 3) := by decide +kernel
theorem dX7_way_86 : decode cX7_way 86 = .ok (.ireturn, 1) := by decide +kernel
theorem dX7_noon_0 : decode cX7_noon 0 = .ok (.aload_n 0, 1) := by decide +kernel
theorem dX7_noon_1 : decode cX7_noon 1 = .ok (.getfield 21, 3) := by decide +kernel
theorem dX7_noon_4 : decode cX7_noon 4 = .ok (.iload_n 1, 1) := by decide +kernel
theorem dX7_noon_5 : decode cX7_noon 5 = .ok (.invokevirtual 111, 3) := by decide +kernel
theorem dX7_noon_8 : decode cX7_noon 8 = .ok (.ifCond .eq 14, 3) := by decide +kernel
theorem dX7_noon_11 : decode cX7_noon 11 = .ok (.aload_n 0, 1) := by decide +kernel
theorem dX7_noon_12 : decode cX7_noon 12 = .ok (.getfield 14, 3) := by decide +kernel
theorem dX7_noon_15 : decode cX7_noon 15 = .ok (.iload_n 2, 1) := by decide +kernel
theorem dX7_noon_16 : decode cX7_noon 16 = .ok (.invokevirtual 96, 3) := by decide +kernel
theorem dX7_noon_19 : decode cX7_noon 19 = .ok (.ifCond .ne 5, 3) := by decide +kernel
theorem dX7_noon_22 : decode cX7_noon 22 = .ok (.iconst (-1), 1) := by decide +kernel
theorem dX7_noon_23 : decode cX7_noon 23 = .ok (.ireturn, 1) := by decide +kernel
theorem dX7_noon_24 : decode cX7_noon 24 = .ok (.iload_n 3, 1) := by decide +kernel
theorem dX7_noon_25 : decode cX7_noon 25 = .ok (.ifCond .lt 9, 3) := by decide +kernel
theorem dX7_noon_28 : decode cX7_noon 28 = .ok (.iload_n 3, 1) := by decide +kernel
theorem dX7_noon_29 : decode cX7_noon 29 = .ok (.bipush 99, 2) := by decide +kernel
theorem dX7_noon_31 : decode cX7_noon 31 = .ok (.if_icmp .le 6, 3) := by decide +kernel
theorem dX7_noon_34 : decode cX7_noon 34 = .ok (.bipush (-2), 2) := by decide +kernel
theorem dX7_noon_36 : decode cX7_noon 36 = .ok (.ireturn, 1) := by decide +kernel
theorem dX7_noon_37 : decode cX7_noon 37 = .ok (.aload_n 0, 1) := by decide +kernel
theorem dX7_noon_38 : decode cX7_noon 38 = .ok (.getfield 42, 3) := by decide +kernel
theorem dX7_noon_41 : decode cX7_noon 41 = .ok (.aload_n 0, 1) := by decide +kernel
theorem dX7_noon_42 : decode cX7_noon 42 = .ok (.getfield 21, 3) := by decide +kernel
theorem dX7_noon_45 : decode cX7_noon 45 = .ok (.iload_n 1, 1) := by decide +kernel
theorem dX7_noon_46 : decode cX7_noon 46 = .ok (.aload_n 0, 1) := by decide +kernel
theorem dX7_noon_47 : decode cX7_noon 47 = .ok (.getfield 14, 3) := by decide +kernel
theorem dX7_noon_50 : decode cX7_noon 50 = .ok (.invokevirtual 125, 3) := by decide +kernel
theorem dX7_noon_53 : decode cX7_noon 53 = .ok (.aload_n 0, 1) := by decide +kernel
theorem dX7_noon_54 : decode cX7_noon 54 = .ok (.getfield 42, 3) := by decide +kernel
theorem dX7_noon_57 : decode cX7_noon 57 = .ok (.iload_n 2, 1) := by decide +kernel
theorem dX7_noon_58 : decode cX7_noon 58 = .ok (.iload_n 3, 1) := by decide +kernel
theorem dX7_noon_59 : decode cX7_noon 59 = .ok (.invokevirtual 143, 3) := by decide +kernel
theorem dX7_noon_62 : decode cX7_noon 62 = .ok (.ireturn, 1) := by decide +kernel
theorem dX7_gain_0 : decode cX7_gain 0 = .ok (.aload_n 0, 1) := by decide +kernel
theorem dX7_gain_1 : decode cX7_gain 1 = .ok (.getfield 21, 3) := by decide +kernel
theorem dX7_gain_4 : decode cX7_gain 4 = .ok (.iload_n 1, 1) := by decide +kernel
theorem dX7_gain_5 : decode cX7_gain 5 = .ok (.invokevirtual 111, 3) := by decide +kernel
theorem dX7_gain_8 : decode cX7_gain 8 = .ok (.ifCond .eq 25, 3) := by decide +kernel
theorem dX7_gain_11 : decode cX7_gain 11 = .ok (.aload_n 0, 1) := by decide +kernel
theorem dX7_gain_12 : decode cX7_gain 12 = .ok (.getfield 21, 3) := by decide +kernel
theorem dX7_gain_15 : decode cX7_gain 15 = .ok (.iload_n 2, 1) := by decide +kernel
theorem dX7_gain_16 : decode cX7_gain 16 = .ok (.invokevirtual 111, 3) := by decide +kernel
theorem dX7_gain_19 : decode cX7_gain 19 = .ok (.ifCond .eq 14, 3) := by decide +kernel
theorem dX7_gain_22 : decode cX7_gain 22 = .ok (.aload_n 0, 1) := by decide +kernel
theorem dX7_gain_23 : decode cX7_gain 23 = .ok (.getfield 14, 3) := by decide +kernel
theorem dX7_gain_26 : decode cX7_gain 26 = .ok (.iload_n 3, 1) := by decide +kernel
theorem dX7_gain_27 : decode cX7_gain 27 = .ok (.invokevirtual 96, 3) := by decide +kernel
theorem dX7_gain_30 : decode cX7_gain 30 = .ok (.ifCond .ne 5, 3) := by decide +kernel
theorem dX7_gain_33 : decode cX7_gain 33 = .ok (.iconst (-1), 1) := by decide +kernel
theorem dX7_gain_34 : decode cX7_gain 34 = .ok (.ireturn, 1) := by decide +kernel
theorem dX7_gain_35 : decode cX7_gain 35 = .ok (.iload 4, 2) := by decide +kernel
theorem dX7_gain_37 : decode cX7_gain 37 = .ok (.ifCond .lt 18, 3) := by decide +kernel
theorem dX7_gain_40 : decode cX7_gain 40 = .ok (.iload 4, 2) := by decide +kernel
theorem dX7_gain_42 : decode cX7_gain 42 = .ok (.bipush 8, 2) := by decide +kernel
theorem dX7_gain_44 : decode cX7_gain 44 = .ok (.if_icmp .gt 11, 3) := by decide +kernel
theorem dX7_gain_47 : decode cX7_gain 47 = .ok (.iload 5, 2) := by decide +kernel
theorem dX7_gain_49 : decode cX7_gain 49 = .ok (.invokestatic 112, 3) := by decide +kernel
theorem dX7_gain_52 : decode cX7_gain 52 = .ok (.ifCond .ne 6, 3) := by decide +kernel
theorem dX7_gain_55 : decode cX7_gain 55 = .ok (.bipush (-2), 2) := by decide +kernel
theorem dX7_gain_57 : decode cX7_gain 57 = .ok (.ireturn, 1) := by decide +kernel
theorem dX7_gain_58 : decode cX7_gain 58 = .ok (.aload_n 0, 1) := by decide +kernel
theorem dX7_gain_59 : decode cX7_gain 59 = .ok (.getfield 42, 3) := by decide +kernel
theorem dX7_gain_62 : decode cX7_gain 62 = .ok (.aload_n 0, 1) := by decide +kernel
theorem dX7_gain_63 : decode cX7_gain 63 = .ok (.getfield 21, 3) := by decide +kernel
theorem dX7_gain_66 : decode cX7_gain 66 = .ok (.iload_n 1, 1) := by decide +kernel
theorem dX7_gain_67 : decode cX7_gain 67 = .ok (.aload_n 0, 1) := by decide +kernel
theorem dX7_gain_68 : decode cX7_gain 68 = .ok (.getfield 14, 3) := by decide +kernel
theorem dX7_gain_71 : decode cX7_gain 71 = .ok (.invokevirtual 125, 3) := by decide +kernel
theorem dX7_gain_74 : decode cX7_gain 74 = .ok (.aload_n 0, 1) := by decide +kernel
theorem dX7_gain_75 : decode cX7_gain 75 = .ok (.getfield 46, 3) := by decide +kernel
theorem dX7_gain_78 : decode cX7_gain 78 = .ok (.aload_n 0, 1) := by decide +kernel
theorem dX7_gain_79 : decode cX7_gain 79 = .ok (.getfield 21, 3) := by decide +kernel
theorem dX7_gain_82 : decode cX7_gain 82 = .ok (.iload_n 2, 1) := by decide +kernel
theorem dX7_gain_83 : decode cX7_gain 83 = .ok (.aload_n 0, 1) := by decide +kernel
theorem dX7_gain_84 : decode cX7_gain 84 = .ok (.getfield 14, 3) := by decide +kernel
theorem dX7_gain_87 : decode cX7_gain 87 = .ok (.invokevirtual 125, 3) := by decide +kernel
theorem dX7_gain_90 : decode cX7_gain 90 = .ok (.iconst 1, 1) := by decide +kernel
theorem dX7_gain_91 : decode cX7_gain 91 = .ok (.iload_n 3, 1) := by decide +kernel
theorem dX7_gain_92 : decode cX7_gain 92 = .ok (.ishl, 1) := by decide +kernel
theorem dX7_gain_93 : decode cX7_gain 93 = .ok (.istore 6, 2) := by decide +kernel
theorem dX7_gain_95 : decode cX7_gain 95 = .ok (.aload_n 0, 1) := by decide +kernel
theorem dX7_gain_96 : decode cX7_gain 96 = .ok (.getfield 14, 3) := by decide +kernel
theorem dX7_gain_99 : decode cX7_gain 99 = .ok (.iload_n 3, 1) := by decide +kernel
theorem dX7_gain_100 : decode cX7_gain 100 = .ok (.invokevirtual 97, 3) := by decide +kernel
theorem dX7_gain_103 : decode cX7_gain 103 = .ok (.istore 7, 2) := by decide +kernel
theorem dX7_gain_105 : decode cX7_gain 105 = .ok (.iconst 0, 1) := by decide +kernel
theorem dX7_gain_106 : decode cX7_gain 106 = .ok (.istore 8, 2) := by decide +kernel
theorem dX7_gain_108 : decode cX7_gain 108 = .ok (.iconst 1, 1) := by decide +kernel
theorem dX7_gain_109 : decode cX7_gain 109 = .ok (.istore 9, 2) := by decide +kernel
theorem dX7_gain_111 : decode cX7_gain 111 = .ok (.iload 9, 2) := by decide +kernel
theorem dX7_gain_113 : decode cX7_gain 113 = .ok (.iload 4, 2) := by decide +kernel
theorem dX7_gain_115 : decode cX7_gain 115 = .ok (.if_icmp .gt 43, 3) := by decide +kernel
theorem dX7_gain_118 : decode cX7_gain 118 = .ok (.aload_n 0, 1) := by decide +kernel
theorem dX7_gain_119 : decode cX7_gain 119 = .ok (.iload 6, 2) := by decide +kernel
theorem dX7_gain_121 : decode cX7_gain 121 = .ok (.invokevirtual 146, 3) := by decide +kernel
theorem dX7_gain_124 : decode cX7_gain 124 = .ok (.istore 6, 2) := by decide +kernel
theorem dX7_gain_126 : decode cX7_gain 126 = .ok (.aload_n 0, 1) := by decide +kernel
theorem dX7_gain_127 : decode cX7_gain 127 = .ok (.getfield 14, 3) := by decide +kernel
theorem dX7_gain_130 : decode cX7_gain 130 = .ok (.iload 6, 2) := by decide +kernel
theorem dX7_gain_132 : decode cX7_gain 132 = .ok (.invokevirtual 149, 3) := by decide +kernel
theorem dX7_gain_135 : decode cX7_gain 135 = .ok (.istore 10, 2) := by decide +kernel
theorem dX7_gain_137 : decode cX7_gain 137 = .ok (.iload 10, 2) := by decide +kernel
theorem dX7_gain_139 : decode cX7_gain 139 = .ok (.iload 7, 2) := by decide +kernel
theorem dX7_gain_141 : decode cX7_gain 141 = .ok (.if_icmp .le 11, 3) := by decide +kernel
theorem dX7_gain_144 : decode cX7_gain 144 = .ok (.iload 10, 2) := by decide +kernel
theorem dX7_gain_146 : decode cX7_gain 146 = .ok (.istore 7, 2) := by decide +kernel
theorem dX7_gain_148 : decode cX7_gain 148 = .ok (.iload 9, 2) := by decide +kernel
theorem dX7_gain_150 : decode cX7_gain 150 = .ok (.istore 8, 2) := by decide +kernel
theorem dX7_gain_152 : decode cX7_gain 152 = .ok (.iinc 9 1, 3) := by decide +kernel
theorem dX7_gain_155 : decode cX7_gain 155 = .ok (.goto (-44), 3) := by decide +kernel
theorem dX7_gain_158 : decode cX7_gain 158 = .ok (.iload 5, 2) := by decide +kernel
theorem dX7_gain_160 : decode cX7_gain 160 = .ok (.ifCond .ne 8, 3) := by decide +kernel
theorem dX7_gain_163 : decode cX7_gain 163 = .ok (.iload 7, 2) := by decide +kernel
theorem dX7_gain_165 : decode cX7_gain 165 = .ok (.goto 5, 3) := by decide +kernel
theorem dX7_gain_168 : decode cX7_gain 168 = .ok (.iload 8, 2) := by decide +kernel
theorem dX7_gain_170 : decode cX7_gain 170 = .ok (.ireturn, 1) := by decide +kernel
theorem dX7_swappedUp_0 : decode cX7_swappedUp 0 = .ok (.iconst 0, 1) := by decide +kernel
theorem dX7_swappedUp_1 : decode cX7_swappedUp 1 = .ok (.istore_n 2, 1) := by decide +kernel
theorem dX7_swappedUp_2 : decode cX7_swappedUp 2 = .ok (.iconst 0, 1) := by decide +kernel
theorem dX7_swappedUp_3 : decode cX7_swappedUp 3 = .ok (.istore_n 3, 1) := by decide +kernel
theorem dX7_swappedUp_4 : decode cX7_swappedUp 4 = .ok (.iload_n 3, 1) := by decide +kernel
theorem dX7_swappedUp_5 : decode cX7_swappedUp 5 = .ok (.aload_n 0, 1) := by decide +kernel
theorem dX7_swappedUp_6 : decode cX7_swappedUp 6 = .ok (.getfield 14, 3) := by decide +kernel
theorem dX7_swappedUp_9 : decode cX7_swappedUp 9 = .ok (.invokevirtual 92, 3) := by decide +kernel
theorem dX7_swappedUp_12 : decode cX7_swappedUp 12 = .ok (.if_icmp .ge 37, 3) := by decide +kernel
theorem dX7_swappedUp_15 : decode cX7_swappedUp 15 = .ok (.iload_n 1, 1) := by decide +kernel
theorem dX7_swappedUp_16 : decode cX7_swappedUp 16 = .ok (.aload_n 0, 1) := by decide +kernel
theorem dX7_swappedUp_17 : decode cX7_swappedUp 17 = .ok (.getfield 42, 3) := by decide +kernel
theorem dX7_swappedUp_20 : decode cX7_swappedUp 20 = .ok (.iload_n 3, 1) := by decide +kernel
theorem dX7_swappedUp_21 : decode cX7_swappedUp 21 = .ok (.invokevirtual 129, 3) := by decide +kernel
theorem dX7_swappedUp_24 : decode cX7_swappedUp 24 = .ok (.iand, 1) := by decide +kernel
theorem dX7_swappedUp_25 : decode cX7_swappedUp 25 = .ok (.aload_n 0, 1) := by decide +kernel
theorem dX7_swappedUp_26 : decode cX7_swappedUp 26 = .ok (.getfield 46, 3) := by decide +kernel
theorem dX7_swappedUp_29 : decode cX7_swappedUp 29 = .ok (.iload_n 3, 1) := by decide +kernel
theorem dX7_swappedUp_30 : decode cX7_swappedUp 30 = .ok (.invokevirtual 152, 3) := by decide +kernel
theorem dX7_swappedUp_33 : decode cX7_swappedUp 33 = .ok (.iand, 1) := by decide +kernel
theorem dX7_swappedUp_34 : decode cX7_swappedUp 34 = .ok (.ifCond .eq 9, 3) := by decide +kernel
theorem dX7_swappedUp_37 : decode cX7_swappedUp 37 = .ok (.iload_n 2, 1) := by decide +kernel
theorem dX7_swappedUp_38 : decode cX7_swappedUp 38 = .ok (.iconst 1, 1) := by decide +kernel
theorem dX7_swappedUp_39 : decode cX7_swappedUp 39 = .ok (.iload_n 3, 1) := by decide +kernel
theorem dX7_swappedUp_40 : decode cX7_swappedUp 40 = .ok (.ishl, 1) := by decide +kernel
theorem dX7_swappedUp_41 : decode cX7_swappedUp 41 = .ok (.ior, 1) := by decide +kernel
theorem dX7_swappedUp_42 : decode cX7_swappedUp 42 = .ok (.istore_n 2, 1) := by decide +kernel
theorem dX7_swappedUp_43 : decode cX7_swappedUp 43 = .ok (.iinc 3 1, 3) := by decide +kernel
theorem dX7_swappedUp_46 : decode cX7_swappedUp 46 = .ok (.goto (-42), 3) := by decide +kernel
theorem dX7_swappedUp_49 : decode cX7_swappedUp 49 = .ok (.iload_n 2, 1) := by decide +kernel
theorem dX7_swappedUp_50 : decode cX7_swappedUp 50 = .ok (.ireturn, 1) := by decide +kernel
theorem dX7_odds_0 : decode cX7_odds 0 = .ok (.aload_n 0, 1) := by decide +kernel
theorem dX7_odds_1 : decode cX7_odds 1 = .ok (.getfield 21, 3) := by decide +kernel
theorem dX7_odds_4 : decode cX7_odds 4 = .ok (.iload_n 1, 1) := by decide +kernel
theorem dX7_odds_5 : decode cX7_odds 5 = .ok (.invokevirtual 111, 3) := by decide +kernel
theorem dX7_odds_8 : decode cX7_odds 8 = .ok (.ifCond .eq 10, 3) := by decide +kernel
theorem dX7_odds_11 : decode cX7_odds 11 = .ok (.iload_n 2, 1) := by decide +kernel
theorem dX7_odds_12 : decode cX7_odds 12 = .ok (.invokestatic 112, 3) := by decide +kernel
theorem dX7_odds_15 : decode cX7_odds 15 = .ok (.ifCond .ne 7, 3) := by decide +kernel
theorem dX7_odds_18 : decode cX7_odds 18 = .ok (.ldc2_w 223, 3) := by decide +kernel
theorem dX7_odds_21 : decode cX7_odds 21 = .ok (.lreturn, 1) := by decide +kernel
theorem dX7_odds_22 : decode cX7_odds 22 = .ok (.aload_n 0, 1) := by decide +kernel
theorem dX7_odds_23 : decode cX7_odds 23 = .ok (.getfield 42, 3) := by decide +kernel
theorem dX7_odds_26 : decode cX7_odds 26 = .ok (.aload_n 0, 1) := by decide +kernel
theorem dX7_odds_27 : decode cX7_odds 27 = .ok (.getfield 21, 3) := by decide +kernel
theorem dX7_odds_30 : decode cX7_odds 30 = .ok (.iload_n 1, 1) := by decide +kernel
theorem dX7_odds_31 : decode cX7_odds 31 = .ok (.aload_n 0, 1) := by decide +kernel
theorem dX7_odds_32 : decode cX7_odds 32 = .ok (.getfield 14, 3) := by decide +kernel
theorem dX7_odds_35 : decode cX7_odds 35 = .ok (.invokevirtual 125, 3) := by decide +kernel
theorem dX7_odds_38 : decode cX7_odds 38 = .ok (.aload_n 0, 1) := by decide +kernel
theorem dX7_odds_39 : decode cX7_odds 39 = .ok (.getfield 42, 3) := by decide +kernel
theorem dX7_odds_42 : decode cX7_odds 42 = .ok (.invokevirtual 225, 3) := by decide +kernel
theorem dX7_odds_45 : decode cX7_odds 45 = .ok (.istore_n 3, 1) := by decide +kernel
theorem dX7_odds_46 : decode cX7_odds 46 = .ok (.aload_n 0, 1) := by decide +kernel
theorem dX7_odds_47 : decode cX7_odds 47 = .ok (.getfield 14, 3) := by decide +kernel
theorem dX7_odds_50 : decode cX7_odds 50 = .ok (.invokevirtual 92, 3) := by decide +kernel
theorem dX7_odds_53 : decode cX7_odds 53 = .ok (.aload_n 0, 1) := by decide +kernel
theorem dX7_odds_54 : decode cX7_odds 54 = .ok (.getfield 14, 3) := by decide +kernel
theorem dX7_odds_57 : decode cX7_odds 57 = .ok (.invokevirtual 92, 3) := by decide +kernel
theorem dX7_odds_60 : decode cX7_odds 60 = .ok (.iconst 1, 1) := by decide +kernel
theorem dX7_odds_61 : decode cX7_odds 61 = .ok (.isub, 1) := by decide +kernel
theorem dX7_odds_62 : decode cX7_odds 62 = .ok (.imul, 1) := by decide +kernel
theorem dX7_odds_63 : decode cX7_odds 63 = .ok (.iconst 2, 1) := by decide +kernel
theorem dX7_odds_64 : decode cX7_odds 64 = .ok (.idiv, 1) := by decide +kernel
theorem dX7_odds_65 : decode cX7_odds 65 = .ok (.istore 4, 2) := by decide +kernel
theorem dX7_odds_67 : decode cX7_odds 67 = .ok (.iload_n 3, 1) := by decide +kernel
theorem dX7_odds_68 : decode cX7_odds 68 = .ok (.iload 4, 2) := by decide +kernel
theorem dX7_odds_70 : decode cX7_odds 70 = .ok (.invokestatic 228, 3) := by decide +kernel
theorem dX7_odds_73 : decode cX7_odds 73 = .ok (.istore 5, 2) := by decide +kernel
theorem dX7_odds_75 : decode cX7_odds 75 = .ok (.iload 5, 2) := by decide +kernel
theorem dX7_odds_77 : decode cX7_odds 77 = .ok (.iconst 1, 1) := by decide +kernel
theorem dX7_odds_78 : decode cX7_odds 78 = .ok (.if_icmp .ge 7, 3) := by decide +kernel
theorem dX7_odds_81 : decode cX7_odds 81 = .ok (.ldc2_w 223, 3) := by decide +kernel
theorem dX7_odds_84 : decode cX7_odds 84 = .ok (.lreturn, 1) := by decide +kernel
theorem dX7_odds_85 : decode cX7_odds 85 = .ok (.iload_n 2, 1) := by decide +kernel
theorem dX7_odds_86 : decode cX7_odds 86 = .ok (.ifCond .ne 11, 3) := by decide +kernel
theorem dX7_odds_89 : decode cX7_odds 89 = .ok (.iload_n 3, 1) := by decide +kernel
theorem dX7_odds_90 : decode cX7_odds 90 = .ok (.iload 5, 2) := by decide +kernel
theorem dX7_odds_92 : decode cX7_odds 92 = .ok (.idiv, 1) := by decide +kernel
theorem dX7_odds_93 : decode cX7_odds 93 = .ok (.i2l, 1) := by decide +kernel
theorem dX7_odds_94 : decode cX7_odds 94 = .ok (.goto 9, 3) := by decide +kernel
theorem dX7_odds_97 : decode cX7_odds 97 = .ok (.iload 4, 2) := by decide +kernel
theorem dX7_odds_99 : decode cX7_odds 99 = .ok (.iload 5, 2) := by decide +kernel
theorem dX7_odds_101 : decode cX7_odds 101 = .ok (.idiv, 1) := by decide +kernel
theorem dX7_odds_102 : decode cX7_odds 102 = .ok (.i2l, 1) := by decide +kernel
theorem dX7_odds_103 : decode cX7_odds 103 = .ok (.lreturn, 1) := by decide +kernel
theorem dX7_commonDivisor_0 : decode cX7_commonDivisor 0 = .ok (.iload_n 1, 1) := by decide +kernel
theorem dX7_commonDivisor_1 : decode cX7_commonDivisor 1 = .ok (.istore_n 2, 1) := by decide +kernel
theorem dX7_commonDivisor_2 : decode cX7_commonDivisor 2 = .ok (.iload_n 2, 1) := by decide +kernel
theorem dX7_commonDivisor_3 : decode cX7_commonDivisor 3 = .ok (.iconst 1, 1) := by decide +kernel
theorem dX7_commonDivisor_4 : decode cX7_commonDivisor 4 = .ok (.if_icmp .le 23, 3) := by decide +kernel
theorem dX7_commonDivisor_7 : decode cX7_commonDivisor 7 = .ok (.iload_n 0, 1) := by decide +kernel
