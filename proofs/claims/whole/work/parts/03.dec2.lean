theorem dX8_readMarket_116 : decode cX8_readMarket 116 = .ok (.aload_n 0, 1) := by decide +kernel
theorem dX8_readMarket_117 : decode cX8_readMarket 117 = .ok (.getfield 16, 3) := by decide +kernel
theorem dX8_readMarket_120 : decode cX8_readMarket 120 = .ok (.aload_n 0, 1) := by decide +kernel
theorem dX8_readMarket_121 : decode cX8_readMarket 121 = .ok (.getfield 86, 3) := by decide +kernel
theorem dX8_readMarket_124 : decode cX8_readMarket 124 = .ok (.iaload, 1) := by decide +kernel
theorem dX8_readMarket_125 : decode cX8_readMarket 125 = .ok (.bipush 48, 2) := by decide +kernel
theorem dX8_readMarket_127 : decode cX8_readMarket 127 = .ok (.if_icmp .ne 5, 3) := by decide +kernel
theorem dX8_readMarket_130 : decode cX8_readMarket 130 = .ok (.iconst 0, 1) := by decide +kernel
theorem dX8_readMarket_131 : decode cX8_readMarket 131 = .ok (.ireturn, 1) := by decide +kernel
theorem dX8_readMarket_132 : decode cX8_readMarket 132 = .ok (.bipush 10, 2) := by decide +kernel
theorem dX8_readMarket_134 : decode cX8_readMarket 134 = .ok (.iload_n 2, 1) := by decide +kernel
theorem dX8_readMarket_135 : decode cX8_readMarket 135 = .ok (.imul, 1) := by decide +kernel
theorem dX8_readMarket_136 : decode cX8_readMarket 136 = .ok (.aload_n 0, 1) := by decide +kernel
theorem dX8_readMarket_137 : decode cX8_readMarket 137 = .ok (.getfield 16, 3) := by decide +kernel
theorem dX8_readMarket_140 : decode cX8_readMarket 140 = .ok (.aload_n 0, 1) := by decide +kernel
theorem dX8_readMarket_141 : decode cX8_readMarket 141 = .ok (.getfield 86, 3) := by decide +kernel
theorem dX8_readMarket_144 : decode cX8_readMarket 144 = .ok (.iaload, 1) := by decide +kernel
theorem dX8_readMarket_145 : decode cX8_readMarket 145 = .ok (.iadd, 1) := by decide +kernel
theorem dX8_readMarket_146 : decode cX8_readMarket 146 = .ok (.bipush 48, 2) := by decide +kernel
theorem dX8_readMarket_148 : decode cX8_readMarket 148 = .ok (.isub, 1) := by decide +kernel
theorem dX8_readMarket_149 : decode cX8_readMarket 149 = .ok (.istore_n 2, 1) := by decide +kernel
theorem dX8_readMarket_150 : decode cX8_readMarket 150 = .ok (.aload_n 0, 1) := by decide +kernel
theorem dX8_readMarket_151 : decode cX8_readMarket 151 = .ok (.dup, 1) := by decide +kernel
theorem dX8_readMarket_152 : decode cX8_readMarket 152 = .ok (.getfield 86, 3) := by decide +kernel
theorem dX8_readMarket_155 : decode cX8_readMarket 155 = .ok (.iconst 1, 1) := by decide +kernel
theorem dX8_readMarket_156 : decode cX8_readMarket 156 = .ok (.iadd, 1) := by decide +kernel
theorem dX8_readMarket_157 : decode cX8_readMarket 157 = .ok (.putfield 86, 3) := by decide +kernel
theorem dX8_readMarket_160 : decode cX8_readMarket 160 = .ok (.iinc 3 1, 3) := by decide +kernel
theorem dX8_readMarket_163 : decode cX8_readMarket 163 = .ok (.goto (-88), 3) := by decide +kernel
theorem dX8_readMarket_166 : decode cX8_readMarket 166 = .ok (.aload_n 0, 1) := by decide +kernel
theorem dX8_readMarket_167 : decode cX8_readMarket 167 = .ok (.getfield 22, 3) := by decide +kernel
theorem dX8_readMarket_170 : decode cX8_readMarket 170 = .ok (.aload_n 0, 1) := by decide +kernel
theorem dX8_readMarket_171 : decode cX8_readMarket 171 = .ok (.getfield 92, 3) := by decide +kernel
theorem dX8_readMarket_174 : decode cX8_readMarket 174 = .ok (.iload_n 2, 1) := by decide +kernel
theorem dX8_readMarket_175 : decode cX8_readMarket 175 = .ok (.iastore, 1) := by decide +kernel
theorem dX8_readMarket_176 : decode cX8_readMarket 176 = .ok (.aload_n 0, 1) := by decide +kernel
theorem dX8_readMarket_177 : decode cX8_readMarket 177 = .ok (.dup, 1) := by decide +kernel
theorem dX8_readMarket_178 : decode cX8_readMarket 178 = .ok (.getfield 92, 3) := by decide +kernel
theorem dX8_readMarket_181 : decode cX8_readMarket 181 = .ok (.iconst 1, 1) := by decide +kernel
theorem dX8_readMarket_182 : decode cX8_readMarket 182 = .ok (.iadd, 1) := by decide +kernel
theorem dX8_readMarket_183 : decode cX8_readMarket 183 = .ok (.putfield 92, 3) := by decide +kernel
theorem dX8_readMarket_186 : decode cX8_readMarket 186 = .ok (.goto (-181), 3) := by decide +kernel
theorem dX8_readMarket_189 : decode cX8_readMarket 189 = .ok (.iconst 1, 1) := by decide +kernel
theorem dX8_readMarket_190 : decode cX8_readMarket 190 = .ok (.ireturn, 1) := by decide +kernel
theorem dX8_weight_0 : decode cX8_weight 0 = .ok (.aload_n 0, 1) := by decide +kernel
theorem dX8_weight_1 : decode cX8_weight 1 = .ok (.iload_n 1, 1) := by decide +kernel
theorem dX8_weight_2 : decode cX8_weight 2 = .ok (.invokevirtual 101, 3) := by decide +kernel
theorem dX8_weight_5 : decode cX8_weight 5 = .ok (.ifCond .eq 12, 3) := by decide +kernel
theorem dX8_weight_8 : decode cX8_weight 8 = .ok (.aload_n 0, 1) := by decide +kernel
theorem dX8_weight_9 : decode cX8_weight 9 = .ok (.getfield 19, 3) := by decide +kernel
theorem dX8_weight_12 : decode cX8_weight 12 = .ok (.iload_n 1, 1) := by decide +kernel
theorem dX8_weight_13 : decode cX8_weight 13 = .ok (.iaload, 1) := by decide +kernel
theorem dX8_weight_14 : decode cX8_weight 14 = .ok (.goto 4, 3) := by decide +kernel
theorem dX8_weight_17 : decode cX8_weight 17 = .ok (.iconst (-1), 1) := by decide +kernel
theorem dX8_weight_18 : decode cX8_weight 18 = .ok (.ireturn, 1) := by decide +kernel
theorem dX8_isWeight_0 : decode cX8_isWeight 0 = .ok (.iload_n 0, 1) := by decide +kernel
theorem dX8_isWeight_1 : decode cX8_isWeight 1 = .ok (.iconst 1, 1) := by decide +kernel
theorem dX8_isWeight_2 : decode cX8_isWeight 2 = .ok (.sipush 999, 3) := by decide +kernel
theorem dX8_isWeight_5 : decode cX8_isWeight 5 = .ok (.invokestatic 64, 3) := by decide +kernel
theorem dX8_isWeight_8 : decode cX8_isWeight 8 = .ok (.ireturn, 1) := by decide +kernel
theorem dX8_weigh_0 : decode cX8_weigh 0 = .ok (.aload_n 0, 1) := by decide +kernel
theorem dX8_weigh_1 : decode cX8_weigh 1 = .ok (.iload_n 1, 1) := by decide +kernel
theorem dX8_weigh_2 : decode cX8_weigh 2 = .ok (.invokevirtual 101, 3) := by decide +kernel
theorem dX8_weigh_5 : decode cX8_weigh 5 = .ok (.ifCond .ne 5, 3) := by decide +kernel
theorem dX8_weigh_8 : decode cX8_weigh 8 = .ok (.iconst (-1), 1) := by decide +kernel
theorem dX8_weigh_9 : decode cX8_weigh 9 = .ok (.ireturn, 1) := by decide +kernel
theorem dX8_weigh_10 : decode cX8_weigh 10 = .ok (.iload_n 2, 1) := by decide +kernel
theorem dX8_weigh_11 : decode cX8_weigh 11 = .ok (.invokestatic 104, 3) := by decide +kernel
theorem dX8_weigh_14 : decode cX8_weigh 14 = .ok (.ifCond .ne 6, 3) := by decide +kernel
theorem dX8_weigh_17 : decode cX8_weigh 17 = .ok (.bipush (-2), 2) := by decide +kernel
theorem dX8_weigh_19 : decode cX8_weigh 19 = .ok (.ireturn, 1) := by decide +kernel
theorem dX8_weigh_20 : decode cX8_weigh 20 = .ok (.aload_n 0, 1) := by decide +kernel
theorem dX8_weigh_21 : decode cX8_weigh 21 = .ok (.getfield 19, 3) := by decide +kernel
theorem dX8_weigh_24 : decode cX8_weigh 24 = .ok (.iload_n 1, 1) := by decide +kernel
theorem dX8_weigh_25 : decode cX8_weigh 25 = .ok (.iaload, 1) := by decide +kernel
theorem dX8_weigh_26 : decode cX8_weigh 26 = .ok (.istore_n 3, 1) := by decide +kernel
theorem dX8_weigh_27 : decode cX8_weigh 27 = .ok (.aload_n 0, 1) := by decide +kernel
theorem dX8_weigh_28 : decode cX8_weigh 28 = .ok (.getfield 19, 3) := by decide +kernel
theorem dX8_weigh_31 : decode cX8_weigh 31 = .ok (.iload_n 1, 1) := by decide +kernel
theorem dX8_weigh_32 : decode cX8_weigh 32 = .ok (.iload_n 2, 1) := by decide +kernel
theorem dX8_weigh_33 : decode cX8_weigh 33 = .ok (.iastore, 1) := by decide +kernel
theorem dX8_weigh_34 : decode cX8_weigh 34 = .ok (.iload_n 3, 1) := by decide +kernel
theorem dX8_weigh_35 : decode cX8_weigh 35 = .ok (.ireturn, 1) := by decide +kernel
theorem dX8_isHand_0 : decode cX8_isHand 0 = .ok (.iload_n 1, 1) := by decide +kernel
theorem dX8_isHand_1 : decode cX8_isHand 1 = .ok (.ifCond .lt 15, 3) := by decide +kernel
theorem dX8_isHand_4 : decode cX8_isHand 4 = .ok (.iload_n 1, 1) := by decide +kernel
theorem dX8_isHand_5 : decode cX8_isHand 5 = .ok (.aload_n 0, 1) := by decide +kernel
theorem dX8_isHand_6 : decode cX8_isHand 6 = .ok (.getfield 95, 3) := by decide +kernel
theorem dX8_isHand_9 : decode cX8_isHand 9 = .ok (.if_icmp .ge 7, 3) := by decide +kernel
theorem dX8_isHand_12 : decode cX8_isHand 12 = .ok (.iconst 1, 1) := by decide +kernel
theorem dX8_isHand_13 : decode cX8_isHand 13 = .ok (.goto 4, 3) := by decide +kernel
theorem dX8_isHand_16 : decode cX8_isHand 16 = .ok (.iconst 0, 1) := by decide +kernel
theorem dX8_isHand_17 : decode cX8_isHand 17 = .ok (.ireturn, 1) := by decide +kernel
theorem dX8_hand_0 : decode cX8_hand 0 = .ok (.iload_n 1, 1) := by decide +kernel
theorem dX8_hand_1 : decode cX8_hand 1 = .ok (.iconst 0, 1) := by decide +kernel
theorem dX8_hand_2 : decode cX8_hand 2 = .ok (.iconst 2, 1) := by decide +kernel
theorem dX8_hand_3 : decode cX8_hand 3 = .ok (.invokestatic 64, 3) := by decide +kernel
theorem dX8_hand_6 : decode cX8_hand 6 = .ok (.ifCond .eq 13, 3) := by decide +kernel
theorem dX8_hand_9 : decode cX8_hand 9 = .ok (.iload_n 2, 1) := by decide +kernel
theorem dX8_hand_10 : decode cX8_hand 10 = .ok (.iconst 1, 1) := by decide +kernel
theorem dX8_hand_11 : decode cX8_hand 11 = .ok (.bipush 20, 2) := by decide +kernel
theorem dX8_hand_13 : decode cX8_hand 13 = .ok (.invokestatic 64, 3) := by decide +kernel
theorem dX8_hand_16 : decode cX8_hand 16 = .ok (.ifCond .ne 6, 3) := by decide +kernel
theorem dX8_hand_19 : decode cX8_hand 19 = .ok (.bipush (-2), 2) := by decide +kernel
theorem dX8_hand_21 : decode cX8_hand 21 = .ok (.ireturn, 1) := by decide +kernel
theorem dX8_hand_22 : decode cX8_hand 22 = .ok (.aload_n 0, 1) := by decide +kernel
theorem dX8_hand_23 : decode cX8_hand 23 = .ok (.getfield 68, 3) := by decide +kernel
theorem dX8_hand_26 : decode cX8_hand 26 = .ok (.ifCond .ne 6, 3) := by decide +kernel
theorem dX8_hand_29 : decode cX8_hand 29 = .ok (.bipush (-3), 2) := by decide +kernel
theorem dX8_hand_31 : decode cX8_hand 31 = .ok (.ireturn, 1) := by decide +kernel
theorem dX8_hand_32 : decode cX8_hand 32 = .ok (.aload_n 0, 1) := by decide +kernel
theorem dX8_hand_33 : decode cX8_hand 33 = .ok (.getfield 95, 3) := by decide +kernel
theorem dX8_hand_36 : decode cX8_hand 36 = .ok (.bipush 6, 2) := by decide +kernel
theorem dX8_hand_38 : decode cX8_hand 38 = .ok (.if_icmp .ne 6, 3) := by decide +kernel
theorem dX8_hand_41 : decode cX8_hand 41 = .ok (.bipush (-4), 2) := by decide +kernel
theorem dX8_hand_43 : decode cX8_hand 43 = .ok (.ireturn, 1) := by decide +kernel
theorem dX8_hand_44 : decode cX8_hand 44 = .ok (.aload_n 0, 1) := by decide +kernel
theorem dX8_hand_45 : decode cX8_hand 45 = .ok (.getfield 25, 3) := by decide +kernel
theorem dX8_hand_48 : decode cX8_hand 48 = .ok (.aload_n 0, 1) := by decide +kernel
theorem dX8_hand_49 : decode cX8_hand 49 = .ok (.getfield 95, 3) := by decide +kernel
theorem dX8_hand_52 : decode cX8_hand 52 = .ok (.iload_n 1, 1) := by decide +kernel
theorem dX8_hand_53 : decode cX8_hand 53 = .ok (.iastore, 1) := by decide +kernel
theorem dX8_hand_54 : decode cX8_hand 54 = .ok (.aload_n 0, 1) := by decide +kernel
theorem dX8_hand_55 : decode cX8_hand 55 = .ok (.getfield 28, 3) := by decide +kernel
theorem dX8_hand_58 : decode cX8_hand 58 = .ok (.aload_n 0, 1) := by decide +kernel
theorem dX8_hand_59 : decode cX8_hand 59 = .ok (.getfield 95, 3) := by decide +kernel
theorem dX8_hand_62 : decode cX8_hand 62 = .ok (.iload_n 2, 1) := by decide +kernel
theorem dX8_hand_63 : decode cX8_hand 63 = .ok (.iastore, 1) := by decide +kernel
theorem dX8_hand_64 : decode cX8_hand 64 = .ok (.aload_n 0, 1) := by decide +kernel
theorem dX8_hand_65 : decode cX8_hand 65 = .ok (.dup, 1) := by decide +kernel
theorem dX8_hand_66 : decode cX8_hand 66 = .ok (.getfield 95, 3) := by decide +kernel
theorem dX8_hand_69 : decode cX8_hand 69 = .ok (.iconst 1, 1) := by decide +kernel
theorem dX8_hand_70 : decode cX8_hand 70 = .ok (.iadd, 1) := by decide +kernel
theorem dX8_hand_71 : decode cX8_hand 71 = .ok (.putfield 95, 3) := by decide +kernel
theorem dX8_hand_74 : decode cX8_hand 74 = .ok (.aload_n 0, 1) := by decide +kernel
theorem dX8_hand_75 : decode cX8_hand 75 = .ok (.getfield 95, 3) := by decide +kernel
theorem dX8_hand_78 : decode cX8_hand 78 = .ok (.iconst 1, 1) := by decide +kernel
theorem dX8_hand_79 : decode cX8_hand 79 = .ok (.isub, 1) := by decide +kernel
theorem dX8_hand_80 : decode cX8_hand 80 = .ok (.ireturn, 1) := by decide +kernel
theorem dX8_ofHand_0 : decode cX8_ofHand 0 = .ok (.aload_n 0, 1) := by decide +kernel
theorem dX8_ofHand_1 : decode cX8_ofHand 1 = .ok (.iload_n 1, 1) := by decide +kernel
theorem dX8_ofHand_2 : decode cX8_ofHand 2 = .ok (.invokevirtual 107, 3) := by decide +kernel
theorem dX8_ofHand_5 : decode cX8_ofHand 5 = .ok (.ifCond .ne 5, 3) := by decide +kernel
theorem dX8_ofHand_8 : decode cX8_ofHand 8 = .ok (.iconst (-1), 1) := by decide +kernel
theorem dX8_ofHand_9 : decode cX8_ofHand 9 = .ok (.ireturn, 1) := by decide +kernel
theorem dX8_ofHand_10 : decode cX8_ofHand 10 = .ok (.iload_n 2, 1) := by decide +kernel
theorem dX8_ofHand_11 : decode cX8_ofHand 11 = .ok (.ifCond .ne 12, 3) := by decide +kernel
theorem dX8_ofHand_14 : decode cX8_ofHand 14 = .ok (.aload_n 0, 1) := by decide +kernel
theorem dX8_ofHand_15 : decode cX8_ofHand 15 = .ok (.getfield 25, 3) := by decide +kernel
theorem dX8_ofHand_18 : decode cX8_ofHand 18 = .ok (.iload_n 1, 1) := by decide +kernel
theorem dX8_ofHand_19 : decode cX8_ofHand 19 = .ok (.iaload, 1) := by decide +kernel
theorem dX8_ofHand_20 : decode cX8_ofHand 20 = .ok (.goto 19, 3) := by decide +kernel
theorem dX8_ofHand_23 : decode cX8_ofHand 23 = .ok (.iload_n 2, 1) := by decide +kernel
theorem dX8_ofHand_24 : decode cX8_ofHand 24 = .ok (.iconst 1, 1) := by decide +kernel
theorem dX8_ofHand_25 : decode cX8_ofHand 25 = .ok (.if_icmp .ne 12, 3) := by decide +kernel
theorem dX8_ofHand_28 : decode cX8_ofHand 28 = .ok (.aload_n 0, 1) := by decide +kernel
theorem dX8_ofHand_29 : decode cX8_ofHand 29 = .ok (.getfield 28, 3) := by decide +kernel
theorem dX8_ofHand_32 : decode cX8_ofHand 32 = .ok (.iload_n 1, 1) := by decide +kernel
theorem dX8_ofHand_33 : decode cX8_ofHand 33 = .ok (.iaload, 1) := by decide +kernel
theorem dX8_ofHand_34 : decode cX8_ofHand 34 = .ok (.goto 5, 3) := by decide +kernel
theorem dX8_ofHand_37 : decode cX8_ofHand 37 = .ok (.bipush (-2), 2) := by decide +kernel
theorem dX8_ofHand_39 : decode cX8_ofHand 39 = .ok (.ireturn, 1) := by decide +kernel
theorem dX8_times_0 : decode cX8_times 0 = .ok (.aload_n 0, 1) := by decide +kernel
theorem dX8_times_1 : decode cX8_times 1 = .ok (.getfield 25, 3) := by decide +kernel
theorem dX8_times_4 : decode cX8_times 4 = .ok (.iload_n 1, 1) := by decide +kernel
theorem dX8_times_5 : decode cX8_times 5 = .ok (.iaload, 1) := by decide +kernel
theorem dX8_times_6 : decode cX8_times 6 = .ok (.ifCond .ne 12, 3) := by decide +kernel
theorem dX8_times_9 : decode cX8_times 9 = .ok (.aload_n 0, 1) := by decide +kernel
theorem dX8_times_10 : decode cX8_times 10 = .ok (.getfield 28, 3) := by decide +kernel
theorem dX8_times_13 : decode cX8_times 13 = .ok (.iload_n 1, 1) := by decide +kernel
theorem dX8_times_14 : decode cX8_times 14 = .ok (.iaload, 1) := by decide +kernel
theorem dX8_times_15 : decode cX8_times 15 = .ok (.goto 11, 3) := by decide +kernel
theorem dX8_times_18 : decode cX8_times 18 = .ok (.iconst 2, 1) := by decide +kernel
theorem dX8_times_19 : decode cX8_times 19 = .ok (.aload_n 0, 1) := by decide +kernel
theorem dX8_times_20 : decode cX8_times 20 = .ok (.getfield 28, 3) := by decide +kernel
theorem dX8_times_23 : decode cX8_times 23 = .ok (.iload_n 1, 1) := by decide +kernel
theorem dX8_times_24 : decode cX8_times 24 = .ok (.iaload, 1) := by decide +kernel
theorem dX8_times_25 : decode cX8_times 25 = .ok (.imul, 1) := by decide +kernel
theorem dX8_times_26 : decode cX8_times 26 = .ok (.ireturn, 1) := by decide +kernel
theorem dX8_isTold_0 : decode cX8_isTold 0 = .ok (.iload_n 2, 1) := by decide +kernel
theorem dX8_isTold_1 : decode cX8_isTold 1 = .ok (.iload_n 3, 1) := by decide +kernel
theorem dX8_isTold_2 : decode cX8_isTold 2 = .ok (.if_icmp .gt 5, 3) := by decide +kernel
theorem dX8_isTold_5 : decode cX8_isTold 5 = .ok (.iconst 0, 1) := by decide +kernel
theorem dX8_isTold_6 : decode cX8_isTold 6 = .ok (.ireturn, 1) := by decide +kernel
theorem dX8_isTold_7 : decode cX8_isTold 7 = .ok (.iload_n 2, 1) := by decide +kernel
theorem dX8_isTold_8 : decode cX8_isTold 8 = .ok (.iload_n 3, 1) := by decide +kernel
theorem dX8_isTold_9 : decode cX8_isTold 9 = .ok (.isub, 1) := by decide +kernel
theorem dX8_isTold_10 : decode cX8_isTold 10 = .ok (.aload_n 0, 1) := by decide +kernel
theorem dX8_isTold_11 : decode cX8_isTold 11 = .ok (.iload_n 1, 1) := by decide +kernel
theorem dX8_isTold_12 : decode cX8_isTold 12 = .ok (.invokevirtual 110, 3) := by decide +kernel
theorem dX8_isTold_15 : decode cX8_isTold 15 = .ok (.imul, 1) := by decide +kernel
theorem dX8_isTold_16 : decode cX8_isTold 16 = .ok (.istore 4, 2) := by decide +kernel
theorem dX8_isTold_18 : decode cX8_isTold 18 = .ok (.aload_n 0, 1) := by decide +kernel
theorem dX8_isTold_19 : decode cX8_isTold 19 = .ok (.getfield 25, 3) := by decide +kernel
theorem dX8_isTold_22 : decode cX8_isTold 22 = .ok (.iload_n 1, 1) := by decide +kernel
theorem dX8_isTold_23 : decode cX8_isTold 23 = .ok (.iaload, 1) := by decide +kernel
theorem dX8_isTold_24 : decode cX8_isTold 24 = .ok (.iconst 2, 1) := by decide +kernel
theorem dX8_isTold_25 : decode cX8_isTold 25 = .ok (.if_icmp .ne 17, 3) := by decide +kernel
theorem dX8_isTold_28 : decode cX8_isTold 28 = .ok (.iload 4, 2) := by decide +kernel
theorem dX8_isTold_30 : decode cX8_isTold 30 = .ok (.iload_n 3, 1) := by decide +kernel
theorem dX8_isTold_31 : decode cX8_isTold 31 = .ok (.if_icmp .lt 7, 3) := by decide +kernel
theorem dX8_isTold_34 : decode cX8_isTold 34 = .ok (.iconst 1, 1) := by decide +kernel
theorem dX8_isTold_35 : decode cX8_isTold 35 = .ok (.goto 18, 3) := by decide +kernel
theorem dX8_isTold_38 : decode cX8_isTold 38 = .ok (.iconst 0, 1) := by decide +kernel
theorem dX8_isTold_39 : decode cX8_isTold 39 = .ok (.goto 14, 3) := by decide +kernel
theorem dX8_isTold_42 : decode cX8_isTold 42 = .ok (.iload 4, 2) := by decide +kernel
theorem dX8_isTold_44 : decode cX8_isTold 44 = .ok (.iload_n 3, 1) := by decide +kernel
theorem dX8_isTold_45 : decode cX8_isTold 45 = .ok (.if_icmp .le 7, 3) := by decide +kernel
theorem dX8_isTold_48 : decode cX8_isTold 48 = .ok (.iconst 1, 1) := by decide +kernel
theorem dX8_isTold_49 : decode cX8_isTold 49 = .ok (.goto 4, 3) := by decide +kernel
theorem dX8_isTold_52 : decode cX8_isTold 52 = .ok (.iconst 0, 1) := by decide +kernel
theorem dX8_isTold_53 : decode cX8_isTold 53 = .ok (.ireturn, 1) := by decide +kernel
theorem dX8_tellsThem_0 : decode cX8_tellsThem 0 = .ok (.aload_n 0, 1) := by decide +kernel
theorem dX8_tellsThem_1 : decode cX8_tellsThem 1 = .ok (.iload_n 1, 1) := by decide +kernel
theorem dX8_tellsThem_2 : decode cX8_tellsThem 2 = .ok (.aload_n 0, 1) := by decide +kernel
theorem dX8_tellsThem_3 : decode cX8_tellsThem 3 = .ok (.getfield 19, 3) := by decide +kernel
theorem dX8_tellsThem_6 : decode cX8_tellsThem 6 = .ok (.iload_n 2, 1) := by decide +kernel
theorem dX8_tellsThem_7 : decode cX8_tellsThem 7 = .ok (.iaload, 1) := by decide +kernel
theorem dX8_tellsThem_8 : decode cX8_tellsThem 8 = .ok (.aload_n 0, 1) := by decide +kernel
theorem dX8_tellsThem_9 : decode cX8_tellsThem 9 = .ok (.getfield 19, 3) := by decide +kernel
theorem dX8_tellsThem_12 : decode cX8_tellsThem 12 = .ok (.iload_n 3, 1) := by decide +kernel
theorem dX8_tellsThem_13 : decode cX8_tellsThem 13 = .ok (.iaload, 1) := by decide +kernel
theorem dX8_tellsThem_14 : decode cX8_tellsThem 14 = .ok (.invokevirtual 113, 3) := by decide +kernel
theorem dX8_tellsThem_17 : decode cX8_tellsThem 17 = .ok (.ireturn, 1) := by decide +kernel
theorem dX8_areAlike_0 : decode cX8_areAlike 0 = .ok (.aload_n 0, 1) := by decide +kernel
theorem dX8_areAlike_1 : decode cX8_areAlike 1 = .ok (.iload_n 1, 1) := by decide +kernel
theorem dX8_areAlike_2 : decode cX8_areAlike 2 = .ok (.iload_n 2, 1) := by decide +kernel
theorem dX8_areAlike_3 : decode cX8_areAlike 3 = .ok (.iload_n 3, 1) := by decide +kernel
theorem dX8_areAlike_4 : decode cX8_areAlike 4 = .ok (.invokevirtual 116, 3) := by decide +kernel
theorem dX8_areAlike_7 : decode cX8_areAlike 7 = .ok (.ifCond .ne 17, 3) := by decide +kernel
theorem dX8_areAlike_10 : decode cX8_areAlike 10 = .ok (.aload_n 0, 1) := by decide +kernel
theorem dX8_areAlike_11 : decode cX8_areAlike 11 = .ok (.iload_n 1, 1) := by decide +kernel
theorem dX8_areAlike_12 : decode cX8_areAlike 12 = .ok (.iload_n 3, 1) := by decide +kernel
theorem dX8_areAlike_13 : decode cX8_areAlike 13 = .ok (.iload_n 2, 1) := by decide +kernel
theorem dX8_areAlike_14 : decode cX8_areAlike 14 = .ok (.invokevirtual 116, 3) := by decide +kernel
theorem dX8_areAlike_17 : decode cX8_areAlike 17 = .ok (.ifCond .ne 7, 3) := by decide +kernel
theorem dX8_areAlike_20 : decode cX8_areAlike 20 = .ok (.iconst 1, 1) := by decide +kernel
theorem dX8_areAlike_21 : decode cX8_areAlike 21 = .ok (.goto 4, 3) := by decide +kernel
theorem dX8_areAlike_24 : decode cX8_areAlike 24 = .ok (.iconst 0, 1) := by decide +kernel
theorem dX8_areAlike_25 : decode cX8_areAlike 25 = .ok (.ireturn, 1) := by decide +kernel
theorem dX8_tells_0 : decode cX8_tells 0 = .ok (.aload_n 0, 1) := by decide +kernel
theorem dX8_tells_1 : decode cX8_tells 1 = .ok (.iload_n 1, 1) := by decide +kernel
theorem dX8_tells_2 : decode cX8_tells 2 = .ok (.invokevirtual 107, 3) := by decide +kernel
theorem dX8_tells_5 : decode cX8_tells 5 = .ok (.ifCond .ne 5, 3) := by decide +kernel
theorem dX8_tells_8 : decode cX8_tells 8 = .ok (.iconst (-1), 1) := by decide +kernel
theorem dX8_tells_9 : decode cX8_tells 9 = .ok (.ireturn, 1) := by decide +kernel
theorem dX8_tells_10 : decode cX8_tells 10 = .ok (.iload_n 2, 1) := by decide +kernel
theorem dX8_tells_11 : decode cX8_tells 11 = .ok (.iconst 1, 1) := by decide +kernel
theorem dX8_tells_12 : decode cX8_tells 12 = .ok (.sipush 9999, 3) := by decide +kernel
theorem dX8_tells_15 : decode cX8_tells 15 = .ok (.invokestatic 64, 3) := by decide +kernel
theorem dX8_tells_18 : decode cX8_tells 18 = .ok (.ifCond .eq 14, 3) := by decide +kernel
theorem dX8_tells_21 : decode cX8_tells 21 = .ok (.iload_n 3, 1) := by decide +kernel
theorem dX8_tells_22 : decode cX8_tells 22 = .ok (.iconst 1, 1) := by decide +kernel
theorem dX8_tells_23 : decode cX8_tells 23 = .ok (.sipush 9999, 3) := by decide +kernel
theorem dX8_tells_26 : decode cX8_tells 26 = .ok (.invokestatic 64, 3) := by decide +kernel
theorem dX8_tells_29 : decode cX8_tells 29 = .ok (.ifCond .ne 6, 3) := by decide +kernel
theorem dX8_tells_32 : decode cX8_tells 32 = .ok (.bipush (-2), 2) := by decide +kernel
theorem dX8_tells_34 : decode cX8_tells 34 = .ok (.ireturn, 1) := by decide +kernel
theorem dX8_tells_35 : decode cX8_tells 35 = .ok (.aload_n 0, 1) := by decide +kernel
theorem dX8_tells_36 : decode cX8_tells 36 = .ok (.iload_n 1, 1) := by decide +kernel
theorem dX8_tells_37 : decode cX8_tells 37 = .ok (.iload_n 2, 1) := by decide +kernel
theorem dX8_tells_38 : decode cX8_tells 38 = .ok (.iload_n 3, 1) := by decide +kernel
theorem dX8_tells_39 : decode cX8_tells 39 = .ok (.invokevirtual 113, 3) := by decide +kernel
theorem dX8_tells_42 : decode cX8_tells 42 = .ok (.ifCond .eq 7, 3) := by decide +kernel
theorem dX8_tells_45 : decode cX8_tells 45 = .ok (.iconst 1, 1) := by decide +kernel
theorem dX8_tells_46 : decode cX8_tells 46 = .ok (.goto 4, 3) := by decide +kernel
theorem dX8_tells_49 : decode cX8_tells 49 = .ok (.iconst 0, 1) := by decide +kernel
theorem dX8_tells_50 : decode cX8_tells 50 = .ok (.ireturn, 1) := by decide +kernel
theorem dX8_alikeTo_0 : decode cX8_alikeTo 0 = .ok (.iconst 0, 1) := by decide +kernel
theorem dX8_alikeTo_1 : decode cX8_alikeTo 1 = .ok (.istore_n 3, 1) := by decide +kernel
theorem dX8_alikeTo_2 : decode cX8_alikeTo 2 = .ok (.iconst 0, 1) := by decide +kernel
theorem dX8_alikeTo_3 : decode cX8_alikeTo 3 = .ok (.istore 4, 2) := by decide +kernel
theorem dX8_alikeTo_5 : decode cX8_alikeTo 5 = .ok (.iload 4, 2) := by decide +kernel
theorem dX8_alikeTo_7 : decode cX8_alikeTo 7 = .ok (.aload_n 0, 1) := by decide +kernel
theorem dX8_alikeTo_8 : decode cX8_alikeTo 8 = .ok (.getfield 68, 3) := by decide +kernel
theorem dX8_alikeTo_11 : decode cX8_alikeTo 11 = .ok (.if_icmp .ge 31, 3) := by decide +kernel
theorem dX8_alikeTo_14 : decode cX8_alikeTo 14 = .ok (.iload_n 3, 1) := by decide +kernel
theorem dX8_alikeTo_15 : decode cX8_alikeTo 15 = .ok (.aload_n 0, 1) := by decide +kernel
theorem dX8_alikeTo_16 : decode cX8_alikeTo 16 = .ok (.iload_n 1, 1) := by decide +kernel
theorem dX8_alikeTo_17 : decode cX8_alikeTo 17 = .ok (.iload_n 2, 1) := by decide +kernel
theorem dX8_alikeTo_18 : decode cX8_alikeTo 18 = .ok (.iload 4, 2) := by decide +kernel
theorem dX8_alikeTo_20 : decode cX8_alikeTo 20 = .ok (.invokevirtual 119, 3) := by decide +kernel
theorem dX8_alikeTo_23 : decode cX8_alikeTo 23 = .ok (.ifCond .eq 10, 3) := by decide +kernel
theorem dX8_alikeTo_26 : decode cX8_alikeTo 26 = .ok (.iconst 1, 1) := by decide +kernel
theorem dX8_alikeTo_27 : decode cX8_alikeTo 27 = .ok (.iload 4, 2) := by decide +kernel
theorem dX8_alikeTo_29 : decode cX8_alikeTo 29 = .ok (.ishl, 1) := by decide +kernel
theorem dX8_alikeTo_30 : decode cX8_alikeTo 30 = .ok (.goto 4, 3) := by decide +kernel
theorem dX8_alikeTo_33 : decode cX8_alikeTo 33 = .ok (.iconst 0, 1) := by decide +kernel
theorem dX8_alikeTo_34 : decode cX8_alikeTo 34 = .ok (.ior, 1) := by decide +kernel
theorem dX8_alikeTo_35 : decode cX8_alikeTo 35 = .ok (.istore_n 3, 1) := by decide +kernel
theorem dX8_alikeTo_36 : decode cX8_alikeTo 36 = .ok (.iinc 4 1, 3) := by decide +kernel
theorem dX8_alikeTo_39 : decode cX8_alikeTo 39 = .ok (.goto (-34), 3) := by decide +kernel
theorem dX8_alikeTo_42 : decode cX8_alikeTo 42 = .ok (.iload_n 3, 1) := by decide +kernel
theorem dX8_alikeTo_43 : decode cX8_alikeTo 43 = .ok (.ireturn, 1) := by decide +kernel
theorem dX8_alike_0 : decode cX8_alike 0 = .ok (.aload_n 0, 1) := by decide +kernel
theorem dX8_alike_1 : decode cX8_alike 1 = .ok (.iload_n 1, 1) := by decide +kernel
theorem dX8_alike_2 : decode cX8_alike 2 = .ok (.invokevirtual 107, 3) := by decide +kernel
theorem dX8_alike_5 : decode cX8_alike 5 = .ok (.ifCond .eq 20, 3) := by decide +kernel
theorem dX8_alike_8 : decode cX8_alike 8 = .ok (.aload_n 0, 1) := by decide +kernel
theorem dX8_alike_9 : decode cX8_alike 9 = .ok (.iload_n 2, 1) := by decide +kernel
theorem dX8_alike_10 : decode cX8_alike 10 = .ok (.invokevirtual 101, 3) := by decide +kernel
theorem dX8_alike_13 : decode cX8_alike 13 = .ok (.ifCond .eq 12, 3) := by decide +kernel
theorem dX8_alike_16 : decode cX8_alike 16 = .ok (.aload_n 0, 1) := by decide +kernel
theorem dX8_alike_17 : decode cX8_alike 17 = .ok (.iload_n 1, 1) := by decide +kernel
theorem dX8_alike_18 : decode cX8_alike 18 = .ok (.iload_n 2, 1) := by decide +kernel
theorem dX8_alike_19 : decode cX8_alike 19 = .ok (.invokevirtual 122, 3) := by decide +kernel
theorem dX8_alike_22 : decode cX8_alike 22 = .ok (.goto 4, 3) := by decide +kernel
theorem dX8_alike_25 : decode cX8_alike 25 = .ok (.iconst (-1), 1) := by decide +kernel
theorem dX8_alike_26 : decode cX8_alike 26 = .ok (.ireturn, 1) := by decide +kernel
theorem dX8_finer_0 : decode cX8_finer 0 = .ok (.aload_n 0, 1) := by decide +kernel
theorem dX8_finer_1 : decode cX8_finer 1 = .ok (.iload_n 1, 1) := by decide +kernel
theorem dX8_finer_2 : decode cX8_finer 2 = .ok (.invokevirtual 107, 3) := by decide +kernel
theorem dX8_finer_5 : decode cX8_finer 5 = .ok (.ifCond .eq 11, 3) := by decide +kernel
theorem dX8_finer_8 : decode cX8_finer 8 = .ok (.aload_n 0, 1) := by decide +kernel
theorem dX8_finer_9 : decode cX8_finer 9 = .ok (.iload_n 2, 1) := by decide +kernel
theorem dX8_finer_10 : decode cX8_finer 10 = .ok (.invokevirtual 107, 3) := by decide +kernel
theorem dX8_finer_13 : decode cX8_finer 13 = .ok (.ifCond .ne 5, 3) := by decide +kernel
theorem dX8_finer_16 : decode cX8_finer 16 = .ok (.iconst (-1), 1) := by decide +kernel
theorem dX8_finer_17 : decode cX8_finer 17 = .ok (.ireturn, 1) := by decide +kernel
theorem dX8_finer_18 : decode cX8_finer 18 = .ok (.iconst 1, 1) := by decide +kernel
theorem dX8_finer_19 : decode cX8_finer 19 = .ok (.istore_n 3, 1) := by decide +kernel
theorem dX8_finer_20 : decode cX8_finer 20 = .ok (.iconst 0, 1) := by decide +kernel
theorem dX8_finer_21 : decode cX8_finer 21 = .ok (.istore 4, 2) := by decide +kernel
theorem dX8_finer_23 : decode cX8_finer 23 = .ok (.iconst 0, 1) := by decide +kernel
theorem dX8_finer_24 : decode cX8_finer 24 = .ok (.istore 5, 2) := by decide +kernel
theorem dX8_finer_26 : decode cX8_finer 26 = .ok (.iload 5, 2) := by decide +kernel
theorem dX8_finer_28 : decode cX8_finer 28 = .ok (.aload_n 0, 1) := by decide +kernel
theorem dX8_finer_29 : decode cX8_finer 29 = .ok (.getfield 68, 3) := by decide +kernel
theorem dX8_finer_32 : decode cX8_finer 32 = .ok (.if_icmp .ge 97, 3) := by decide +kernel
theorem dX8_finer_35 : decode cX8_finer 35 = .ok (.iconst 0, 1) := by decide +kernel
theorem dX8_finer_36 : decode cX8_finer 36 = .ok (.istore 6, 2) := by decide +kernel
theorem dX8_finer_38 : decode cX8_finer 38 = .ok (.iload 6, 2) := by decide +kernel
theorem dX8_finer_40 : decode cX8_finer 40 = .ok (.aload_n 0, 1) := by decide +kernel
theorem dX8_finer_41 : decode cX8_finer 41 = .ok (.getfield 68, 3) := by decide +kernel
theorem dX8_finer_44 : decode cX8_finer 44 = .ok (.if_icmp .ge 79, 3) := by decide +kernel
theorem dX8_finer_47 : decode cX8_finer 47 = .ok (.iload_n 3, 1) := by decide +kernel
theorem dX8_finer_48 : decode cX8_finer 48 = .ok (.ifCond .eq 31, 3) := by decide +kernel
theorem dX8_finer_51 : decode cX8_finer 51 = .ok (.aload_n 0, 1) := by decide +kernel
theorem dX8_finer_52 : decode cX8_finer 52 = .ok (.iload_n 1, 1) := by decide +kernel
theorem dX8_finer_53 : decode cX8_finer 53 = .ok (.iload 5, 2) := by decide +kernel
theorem dX8_finer_55 : decode cX8_finer 55 = .ok (.iload 6, 2) := by decide +kernel
theorem dX8_finer_57 : decode cX8_finer 57 = .ok (.invokevirtual 116, 3) := by decide +kernel
theorem dX8_finer_60 : decode cX8_finer 60 = .ok (.ifCond .ne 15, 3) := by decide +kernel
theorem dX8_finer_63 : decode cX8_finer 63 = .ok (.aload_n 0, 1) := by decide +kernel
theorem dX8_finer_64 : decode cX8_finer 64 = .ok (.iload_n 2, 1) := by decide +kernel
theorem dX8_finer_65 : decode cX8_finer 65 = .ok (.iload 5, 2) := by decide +kernel
theorem dX8_finer_67 : decode cX8_finer 67 = .ok (.iload 6, 2) := by decide +kernel
theorem dX8_finer_69 : decode cX8_finer 69 = .ok (.invokevirtual 116, 3) := by decide +kernel
theorem dX8_finer_72 : decode cX8_finer 72 = .ok (.ifCond .ne 7, 3) := by decide +kernel
theorem dX8_finer_75 : decode cX8_finer 75 = .ok (.iconst 1, 1) := by decide +kernel
theorem dX8_finer_76 : decode cX8_finer 76 = .ok (.goto 4, 3) := by decide +kernel
theorem dX8_finer_79 : decode cX8_finer 79 = .ok (.iconst 0, 1) := by decide +kernel
theorem dX8_finer_80 : decode cX8_finer 80 = .ok (.istore_n 3, 1) := by decide +kernel
theorem dX8_finer_81 : decode cX8_finer 81 = .ok (.iload 4, 2) := by decide +kernel
theorem dX8_finer_83 : decode cX8_finer 83 = .ok (.ifCond .ne 27, 3) := by decide +kernel
theorem dX8_finer_86 : decode cX8_finer 86 = .ok (.aload_n 0, 1) := by decide +kernel
theorem dX8_finer_87 : decode cX8_finer 87 = .ok (.iload_n 1, 1) := by decide +kernel
theorem dX8_finer_88 : decode cX8_finer 88 = .ok (.iload 5, 2) := by decide +kernel
theorem dX8_finer_90 : decode cX8_finer 90 = .ok (.iload 6, 2) := by decide +kernel
theorem dX8_finer_92 : decode cX8_finer 92 = .ok (.invokevirtual 116, 3) := by decide +kernel
theorem dX8_finer_95 : decode cX8_finer 95 = .ok (.ifCond .eq 19, 3) := by decide +kernel
theorem dX8_finer_98 : decode cX8_finer 98 = .ok (.aload_n 0, 1) := by decide +kernel
theorem dX8_finer_99 : decode cX8_finer 99 = .ok (.iload_n 2, 1) := by decide +kernel
theorem dX8_finer_100 : decode cX8_finer 100 = .ok (.iload 5, 2) := by decide +kernel
theorem dX8_finer_102 : decode cX8_finer 102 = .ok (.iload 6, 2) := by decide +kernel
theorem dX8_finer_104 : decode cX8_finer 104 = .ok (.invokevirtual 116, 3) := by decide +kernel
theorem dX8_finer_107 : decode cX8_finer 107 = .ok (.ifCond .ne 7, 3) := by decide +kernel
theorem dX8_finer_110 : decode cX8_finer 110 = .ok (.iconst 1, 1) := by decide +kernel
theorem dX8_finer_111 : decode cX8_finer 111 = .ok (.goto 4, 3) := by decide +kernel
theorem dX8_finer_114 : decode cX8_finer 114 = .ok (.iconst 0, 1) := by decide +kernel
theorem dX8_finer_115 : decode cX8_finer 115 = .ok (.istore 4, 2) := by decide +kernel
theorem dX8_finer_117 : decode cX8_finer 117 = .ok (.iinc 6 1, 3) := by decide +kernel
theorem dX8_finer_120 : decode cX8_finer 120 = .ok (.goto (-82), 3) := by decide +kernel
theorem dX8_finer_123 : decode cX8_finer 123 = .ok (.iinc 5 1, 3) := by decide +kernel
theorem dX8_finer_126 : decode cX8_finer 126 = .ok (.goto (-100), 3) := by decide +kernel
theorem dX8_finer_129 : decode cX8_finer 129 = .ok (.iload_n 3, 1) := by decide +kernel
theorem dX8_finer_130 : decode cX8_finer 130 = .ok (.ifCond .eq 12, 3) := by decide +kernel
theorem dX8_finer_133 : decode cX8_finer 133 = .ok (.iload 4, 2) := by decide +kernel
theorem dX8_finer_135 : decode cX8_finer 135 = .ok (.ifCond .eq 7, 3) := by decide +kernel
theorem dX8_finer_138 : decode cX8_finer 138 = .ok (.iconst 1, 1) := by decide +kernel
theorem dX8_finer_139 : decode cX8_finer 139 = .ok (.goto 4, 3) := by decide +kernel
theorem dX8_finer_142 : decode cX8_finer 142 = .ok (.iconst 0, 1) := by decide +kernel
theorem dX8_finer_143 : decode cX8_finer 143 = .ok (.ireturn, 1) := by decide +kernel
theorem dX8_findFar_0 : decode cX8_findFar 0 = .ok (.iconst 0, 1) := by decide +kernel
theorem dX8_findFar_1 : decode cX8_findFar 1 = .ok (.istore_n 3, 1) := by decide +kernel
theorem dX8_findFar_2 : decode cX8_findFar 2 = .ok (.iload_n 3, 1) := by decide +kernel
theorem dX8_findFar_3 : decode cX8_findFar 3 = .ok (.aload_n 0, 1) := by decide +kernel
theorem dX8_findFar_4 : decode cX8_findFar 4 = .ok (.getfield 68, 3) := by decide +kernel
theorem dX8_findFar_7 : decode cX8_findFar 7 = .ok (.if_icmp .ge 26, 3) := by decide +kernel
theorem dX8_findFar_10 : decode cX8_findFar 10 = .ok (.aload_n 0, 1) := by decide +kernel
theorem dX8_findFar_11 : decode cX8_findFar 11 = .ok (.getfield 31, 3) := by decide +kernel
theorem dX8_findFar_14 : decode cX8_findFar 14 = .ok (.iload_n 3, 1) := by decide +kernel
theorem dX8_findFar_15 : decode cX8_findFar 15 = .ok (.iload_n 3, 1) := by decide +kernel
theorem dX8_findFar_16 : decode cX8_findFar 16 = .ok (.iload_n 2, 1) := by decide +kernel
theorem dX8_findFar_17 : decode cX8_findFar 17 = .ok (.if_icmp .ne 7, 3) := by decide +kernel
theorem dX8_findFar_20 : decode cX8_findFar 20 = .ok (.iconst 0, 1) := by decide +kernel
theorem dX8_findFar_21 : decode cX8_findFar 21 = .ok (.goto 5, 3) := by decide +kernel
theorem dX8_findFar_24 : decode cX8_findFar 24 = .ok (.bipush (-9), 2) := by decide +kernel
theorem dX8_findFar_26 : decode cX8_findFar 26 = .ok (.iastore, 1) := by decide +kernel
theorem dX8_findFar_27 : decode cX8_findFar 27 = .ok (.iinc 3 1, 3) := by decide +kernel
theorem dX8_findFar_30 : decode cX8_findFar 30 = .ok (.goto (-28), 3) := by decide +kernel
theorem dX8_findFar_33 : decode cX8_findFar 33 = .ok (.iconst 0, 1) := by decide +kernel
theorem dX8_findFar_34 : decode cX8_findFar 34 = .ok (.istore_n 3, 1) := by decide +kernel
theorem dX8_findFar_35 : decode cX8_findFar 35 = .ok (.iload_n 3, 1) := by decide +kernel
theorem dX8_findFar_36 : decode cX8_findFar 36 = .ok (.aload_n 0, 1) := by decide +kernel
theorem dX8_findFar_37 : decode cX8_findFar 37 = .ok (.getfield 68, 3) := by decide +kernel
theorem dX8_findFar_40 : decode cX8_findFar 40 = .ok (.if_icmp .ge 100, 3) := by decide +kernel
theorem dX8_findFar_43 : decode cX8_findFar 43 = .ok (.iconst 0, 1) := by decide +kernel
theorem dX8_findFar_44 : decode cX8_findFar 44 = .ok (.istore 4, 2) := by decide +kernel
theorem dX8_findFar_46 : decode cX8_findFar 46 = .ok (.iload 4, 2) := by decide +kernel
theorem dX8_findFar_48 : decode cX8_findFar 48 = .ok (.aload_n 0, 1) := by decide +kernel
theorem dX8_findFar_49 : decode cX8_findFar 49 = .ok (.getfield 68, 3) := by decide +kernel
theorem dX8_findFar_52 : decode cX8_findFar 52 = .ok (.if_icmp .ge 82, 3) := by decide +kernel
theorem dX8_findFar_55 : decode cX8_findFar 55 = .ok (.iconst 0, 1) := by decide +kernel
theorem dX8_findFar_56 : decode cX8_findFar 56 = .ok (.istore 5, 2) := by decide +kernel
theorem dX8_findFar_58 : decode cX8_findFar 58 = .ok (.iload 5, 2) := by decide +kernel
theorem dX8_findFar_60 : decode cX8_findFar 60 = .ok (.aload_n 0, 1) := by decide +kernel
theorem dX8_findFar_61 : decode cX8_findFar 61 = .ok (.getfield 68, 3) := by decide +kernel
theorem dX8_findFar_64 : decode cX8_findFar 64 = .ok (.if_icmp .ge 64, 3) := by decide +kernel
theorem dX8_findFar_67 : decode cX8_findFar 67 = .ok (.aload_n 0, 1) := by decide +kernel
theorem dX8_findFar_68 : decode cX8_findFar 68 = .ok (.getfield 31, 3) := by decide +kernel
theorem dX8_findFar_71 : decode cX8_findFar 71 = .ok (.iload 4, 2) := by decide +kernel
theorem dX8_findFar_73 : decode cX8_findFar 73 = .ok (.iaload, 1) := by decide +kernel
theorem dX8_findFar_74 : decode cX8_findFar 74 = .ok (.iload_n 3, 1) := by decide +kernel
theorem dX8_findFar_75 : decode cX8_findFar 75 = .ok (.if_icmp .ne 53, 3) := by decide +kernel
theorem dX8_findFar_78 : decode cX8_findFar 78 = .ok (.aload_n 0, 1) := by decide +kernel
theorem dX8_findFar_79 : decode cX8_findFar 79 = .ok (.getfield 31, 3) := by decide +kernel
theorem dX8_findFar_82 : decode cX8_findFar 82 = .ok (.iload 5, 2) := by decide +kernel
theorem dX8_findFar_84 : decode cX8_findFar 84 = .ok (.aload_n 0, 1) := by decide +kernel
theorem dX8_findFar_85 : decode cX8_findFar 85 = .ok (.getfield 31, 3) := by decide +kernel
theorem dX8_findFar_88 : decode cX8_findFar 88 = .ok (.iload 5, 2) := by decide +kernel
theorem dX8_findFar_90 : decode cX8_findFar 90 = .ok (.iaload, 1) := by decide +kernel
theorem dX8_findFar_91 : decode cX8_findFar 91 = .ok (.bipush (-9), 2) := by decide +kernel
theorem dX8_findFar_93 : decode cX8_findFar 93 = .ok (.if_icmp .ne 21, 3) := by decide +kernel
theorem dX8_findFar_96 : decode cX8_findFar 96 = .ok (.aload_n 0, 1) := by decide +kernel
theorem dX8_findFar_97 : decode cX8_findFar 97 = .ok (.iload_n 1, 1) := by decide +kernel
theorem dX8_findFar_98 : decode cX8_findFar 98 = .ok (.iload 4, 2) := by decide +kernel
theorem dX8_findFar_100 : decode cX8_findFar 100 = .ok (.iload 5, 2) := by decide +kernel
theorem dX8_findFar_102 : decode cX8_findFar 102 = .ok (.invokevirtual 119, 3) := by decide +kernel
theorem dX8_findFar_105 : decode cX8_findFar 105 = .ok (.ifCond .eq 9, 3) := by decide +kernel
theorem dX8_findFar_108 : decode cX8_findFar 108 = .ok (.iload_n 3, 1) := by decide +kernel
theorem dX8_findFar_109 : decode cX8_findFar 109 = .ok (.iconst 1, 1) := by decide +kernel
theorem dX8_findFar_110 : decode cX8_findFar 110 = .ok (.iadd, 1) := by decide +kernel
theorem dX8_findFar_111 : decode cX8_findFar 111 = .ok (.goto 10, 3) := by decide +kernel
theorem dX8_findFar_114 : decode cX8_findFar 114 = .ok (.aload_n 0, 1) := by decide +kernel
theorem dX8_findFar_115 : decode cX8_findFar 115 = .ok (.getfield 31, 3) := by decide +kernel
theorem dX8_findFar_118 : decode cX8_findFar 118 = .ok (.iload 5, 2) := by decide +kernel
theorem dX8_findFar_120 : decode cX8_findFar 120 = .ok (.iaload, 1) := by decide +kernel
theorem dX8_findFar_121 : decode cX8_findFar 121 = .ok (.iastore, 1) := by decide +kernel
theorem dX8_findFar_122 : decode cX8_findFar 122 = .ok (.iinc 5 1, 3) := by decide +kernel
theorem dX8_findFar_125 : decode cX8_findFar 125 = .ok (.goto (-67), 3) := by decide +kernel
theorem dX8_findFar_128 : decode cX8_findFar 128 = .ok (.iinc 4 1, 3) := by decide +kernel
theorem dX8_findFar_131 : decode cX8_findFar 131 = .ok (.goto (-85), 3) := by decide +kernel
theorem dX8_findFar_134 : decode cX8_findFar 134 = .ok (.iinc 3 1, 3) := by decide +kernel
theorem dX8_findFar_137 : decode cX8_findFar 137 = .ok (.goto (-102), 3) := by decide +kernel
theorem dX8_findFar_140 : decode cX8_findFar 140 = .ok (.return_, 1) := by decide +kernel
theorem dX8_way_0 : decode cX8_way 0 = .ok (.aload_n 0, 1) := by decide +kernel
theorem dX8_way_1 : decode cX8_way 1 = .ok (.iload_n 1, 1) := by decide +kernel
theorem dX8_way_2 : decode cX8_way 2 = .ok (.invokevirtual 107, 3) := by decide +kernel
theorem dX8_way_5 : decode cX8_way 5 = .ok (.ifCond .eq 25, 3) := by decide +kernel
theorem dX8_way_8 : decode cX8_way 8 = .ok (.aload_n 0, 1) := by decide +kernel
theorem dX8_way_9 : decode cX8_way 9 = .ok (.iload_n 2, 1) := by decide +kernel
theorem dX8_way_10 : decode cX8_way 10 = .ok (.invokevirtual 101, 3) := by decide +kernel
theorem dX8_way_13 : decode cX8_way 13 = .ok (.ifCond .eq 17, 3) := by decide +kernel
theorem dX8_way_16 : decode cX8_way 16 = .ok (.aload_n 0, 1) := by decide +kernel
theorem dX8_way_17 : decode cX8_way 17 = .ok (.iload_n 3, 1) := by decide +kernel
theorem dX8_way_18 : decode cX8_way 18 = .ok (.invokevirtual 101, 3) := by decide +kernel
theorem dX8_way_21 : decode cX8_way 21 = .ok (.ifCond .eq 9, 3) := by decide +kernel
theorem dX8_way_24 : decode cX8_way 24 = .ok (.iload 4, 2) := by decide +kernel
theorem dX8_way_26 : decode cX8_way 26 = .ok (.iconst (-1), 1) := by decide +kernel
theorem dX8_way_27 : decode cX8_way 27 = .ok (.if_icmp .ge 5, 3) := by decide +kernel
theorem dX8_way_30 : decode cX8_way 30 = .ok (.iconst (-1), 1) := by decide +kernel
theorem dX8_way_31 : decode cX8_way 31 = .ok (.ireturn, 1) := by decide +kernel
theorem dX8_way_32 : decode cX8_way 32 = .ok (.aload_n 0, 1) := by decide +kernel
theorem dX8_way_33 : decode cX8_way 33 = .ok (.iload_n 1, 1) := by decide +kernel
theorem dX8_way_34 : decode cX8_way 34 = .ok (.iload_n 3, 1) := by decide +kernel
theorem dX8_way_35 : decode cX8_way 35 = .ok (.invokevirtual 126, 3) := by decide +kernel
theorem dX8_way_38 : decode cX8_way 38 = .ok (.aload_n 0, 1) := by decide +kernel
theorem dX8_way_39 : decode cX8_way 39 = .ok (.getfield 31, 3) := by decide +kernel
theorem dX8_way_42 : decode cX8_way 42 = .ok (.iload_n 2, 1) := by decide +kernel
theorem dX8_way_43 : decode cX8_way 43 = .ok (.iaload, 1) := by decide +kernel
theorem dX8_way_44 : decode cX8_way 44 = .ok (.bipush (-9), 2) := by decide +kernel
theorem dX8_way_46 : decode cX8_way 46 = .ok (.if_icmp .eq 14, 3) := by decide +kernel
theorem dX8_way_49 : decode cX8_way 49 = .ok (.iload 4, 2) := by decide +kernel
theorem dX8_way_51 : decode cX8_way 51 = .ok (.aload_n 0, 1) := by decide +kernel
theorem dX8_way_52 : decode cX8_way 52 = .ok (.getfield 31, 3) := by decide +kernel
theorem dX8_way_55 : decode cX8_way 55 = .ok (.iload_n 2, 1) := by decide +kernel
theorem dX8_way_56 : decode cX8_way 56 = .ok (.iaload, 1) := by decide +kernel
theorem dX8_way_57 : decode cX8_way 57 = .ok (.if_icmp .le 6, 3) := by decide +kernel
theorem dX8_way_60 : decode cX8_way 60 = .ok (.bipush (-9), 2) := by decide +kernel
theorem dX8_way_62 : decode cX8_way 62 = .ok (.ireturn, 1) := by decide +kernel
theorem dX8_way_63 : decode cX8_way 63 = .ok (.iload 4, 2) := by decide +kernel
theorem dX8_way_65 : decode cX8_way 65 = .ok (.iconst (-1), 1) := by decide +kernel
theorem dX8_way_66 : decode cX8_way 66 = .ok (.if_icmp .ne 10, 3) := by decide +kernel
theorem dX8_way_69 : decode cX8_way 69 = .ok (.aload_n 0, 1) := by decide +kernel
theorem dX8_way_70 : decode cX8_way 70 = .ok (.getfield 31, 3) := by decide +kernel
theorem dX8_way_73 : decode cX8_way 73 = .ok (.iload_n 2, 1) := by decide +kernel
theorem dX8_way_74 : decode cX8_way 74 = .ok (.iaload, 1) := by decide +kernel
theorem dX8_way_75 : decode cX8_way 75 = .ok (.ireturn, 1) := by decide +kernel
theorem dX8_way_76 : decode cX8_way 76 = .ok (.iload_n 2, 1) := by decide +kernel
theorem dX8_way_77 : decode cX8_way 77 = .ok (.istore 5, 2) := by decide +kernel
theorem dX8_way_79 : decode cX8_way 79 = .ok (.iconst 0, 1) := by decide +kernel
theorem dX8_way_80 : decode cX8_way 80 = .ok (.istore 6, 2) := by decide +kernel
theorem dX8_way_82 : decode cX8_way 82 = .ok (.iload 6, 2) := by decide +kernel
theorem dX8_way_84 : decode cX8_way 84 = .ok (.iload 4, 2) := by decide +kernel
theorem dX8_way_86 : decode cX8_way 86 = .ok (.if_icmp .ge 18, 3) := by decide +kernel
theorem dX8_way_89 : decode cX8_way 89 = .ok (.aload_n 0, 1) := by decide +kernel
theorem dX8_way_90 : decode cX8_way 90 = .ok (.iload_n 1, 1) := by decide +kernel
theorem dX8_way_91 : decode cX8_way 91 = .ok (.iload 5, 2) := by decide +kernel
theorem dX8_way_93 : decode cX8_way 93 = .ok (.invokevirtual 130, 3) := by decide +kernel
theorem dX8_way_96 : decode cX8_way 96 = .ok (.istore 5, 2) := by decide +kernel
theorem dX8_way_98 : decode cX8_way 98 = .ok (.iinc 6 1, 3) := by decide +kernel
theorem dX8_way_101 : decode cX8_way 101 = .ok (.goto (-19), 3) := by decide +kernel
theorem dX8_way_104 : decode cX8_way 104 = .ok (.iload 5, 2) := by decide +kernel
theorem dX8_way_106 : decode cX8_way 106 = .ok (.ireturn, 1) := by decide +kernel
theorem dX8_nextOf_0 : decode cX8_nextOf 0 = .ok (.iconst 0, 1) := by decide +kernel
theorem dX8_nextOf_1 : decode cX8_nextOf 1 = .ok (.istore_n 3, 1) := by decide +kernel
theorem dX8_nextOf_2 : decode cX8_nextOf 2 = .ok (.iload_n 3, 1) := by decide +kernel
theorem dX8_nextOf_3 : decode cX8_nextOf 3 = .ok (.aload_n 0, 1) := by decide +kernel
theorem dX8_nextOf_4 : decode cX8_nextOf 4 = .ok (.getfield 68, 3) := by decide +kernel
theorem dX8_nextOf_7 : decode cX8_nextOf 7 = .ok (.if_icmp .ge 38, 3) := by decide +kernel
theorem dX8_nextOf_10 : decode cX8_nextOf 10 = .ok (.aload_n 0, 1) := by decide +kernel
theorem dX8_nextOf_11 : decode cX8_nextOf 11 = .ok (.getfield 31, 3) := by decide +kernel
theorem dX8_nextOf_14 : decode cX8_nextOf 14 = .ok (.iload_n 3, 1) := by decide +kernel
theorem dX8_nextOf_15 : decode cX8_nextOf 15 = .ok (.iaload, 1) := by decide +kernel
theorem dX8_nextOf_16 : decode cX8_nextOf 16 = .ok (.aload_n 0, 1) := by decide +kernel
theorem dX8_nextOf_17 : decode cX8_nextOf 17 = .ok (.getfield 31, 3) := by decide +kernel
theorem dX8_nextOf_20 : decode cX8_nextOf 20 = .ok (.iload_n 2, 1) := by decide +kernel
theorem dX8_nextOf_21 : decode cX8_nextOf 21 = .ok (.iaload, 1) := by decide +kernel
theorem dX8_nextOf_22 : decode cX8_nextOf 22 = .ok (.iconst 1, 1) := by decide +kernel
theorem dX8_nextOf_23 : decode cX8_nextOf 23 = .ok (.isub, 1) := by decide +kernel
theorem dX8_nextOf_24 : decode cX8_nextOf 24 = .ok (.if_icmp .ne 15, 3) := by decide +kernel
theorem dX8_nextOf_27 : decode cX8_nextOf 27 = .ok (.aload_n 0, 1) := by decide +kernel
theorem dX8_nextOf_28 : decode cX8_nextOf 28 = .ok (.iload_n 1, 1) := by decide +kernel
theorem dX8_nextOf_29 : decode cX8_nextOf 29 = .ok (.iload_n 2, 1) := by decide +kernel
theorem dX8_nextOf_30 : decode cX8_nextOf 30 = .ok (.iload_n 3, 1) := by decide +kernel
theorem dX8_nextOf_31 : decode cX8_nextOf 31 = .ok (.invokevirtual 119, 3) := by decide +kernel
theorem dX8_nextOf_34 : decode cX8_nextOf 34 = .ok (.ifCond .eq 5, 3) := by decide +kernel
theorem dX8_nextOf_37 : decode cX8_nextOf 37 = .ok (.iload_n 3, 1) := by decide +kernel
theorem dX8_nextOf_38 : decode cX8_nextOf 38 = .ok (.ireturn, 1) := by decide +kernel
theorem dX8_nextOf_39 : decode cX8_nextOf 39 = .ok (.iinc 3 1, 3) := by decide +kernel
theorem dX8_nextOf_42 : decode cX8_nextOf 42 = .ok (.goto (-40), 3) := by decide +kernel
theorem dX8_nextOf_45 : decode cX8_nextOf 45 = .ok (.iload_n 2, 1) := by decide +kernel
theorem dX8_nextOf_46 : decode cX8_nextOf 46 = .ok (.ireturn, 1) := by decide +kernel
theorem dX8_noon_0 : decode cX8_noon 0 = .ok (.aload_n 0, 1) := by decide +kernel
theorem dX8_noon_1 : decode cX8_noon 1 = .ok (.iload_n 1, 1) := by decide +kernel
theorem dX8_noon_2 : decode cX8_noon 2 = .ok (.invokevirtual 107, 3) := by decide +kernel
theorem dX8_noon_5 : decode cX8_noon 5 = .ok (.ifCond .eq 11, 3) := by decide +kernel
theorem dX8_noon_8 : decode cX8_noon 8 = .ok (.aload_n 0, 1) := by decide +kernel
theorem dX8_noon_9 : decode cX8_noon 9 = .ok (.iload_n 2, 1) := by decide +kernel
theorem dX8_noon_10 : decode cX8_noon 10 = .ok (.invokevirtual 101, 3) := by decide +kernel
theorem dX8_noon_13 : decode cX8_noon 13 = .ok (.ifCond .ne 5, 3) := by decide +kernel
theorem dX8_noon_16 : decode cX8_noon 16 = .ok (.iconst (-1), 1) := by decide +kernel
theorem dX8_noon_17 : decode cX8_noon 17 = .ok (.ireturn, 1) := by decide +kernel
theorem dX8_noon_18 : decode cX8_noon 18 = .ok (.iload_n 3, 1) := by decide +kernel
theorem dX8_noon_19 : decode cX8_noon 19 = .ok (.iconst 0, 1) := by decide +kernel
theorem dX8_noon_20 : decode cX8_noon 20 = .ok (.bipush 99, 2) := by decide +kernel
theorem dX8_noon_22 : decode cX8_noon 22 = .ok (.invokestatic 64, 3) := by decide +kernel
theorem dX8_noon_25 : decode cX8_noon 25 = .ok (.ifCond .ne 6, 3) := by decide +kernel
theorem dX8_noon_28 : decode cX8_noon 28 = .ok (.bipush (-2), 2) := by decide +kernel
theorem dX8_noon_30 : decode cX8_noon 30 = .ok (.ireturn, 1) := by decide +kernel
theorem dX8_noon_31 : decode cX8_noon 31 = .ok (.aload_n 0, 1) := by decide +kernel
theorem dX8_noon_32 : decode cX8_noon 32 = .ok (.iload_n 1, 1) := by decide +kernel
theorem dX8_noon_33 : decode cX8_noon 33 = .ok (.iload_n 2, 1) := by decide +kernel
theorem dX8_noon_34 : decode cX8_noon 34 = .ok (.invokevirtual 126, 3) := by decide +kernel
theorem dX8_noon_37 : decode cX8_noon 37 = .ok (.iconst 0, 1) := by decide +kernel
theorem dX8_noon_38 : decode cX8_noon 38 = .ok (.istore 4, 2) := by decide +kernel
theorem dX8_noon_40 : decode cX8_noon 40 = .ok (.iconst 0, 1) := by decide +kernel
theorem dX8_noon_41 : decode cX8_noon 41 = .ok (.istore 5, 2) := by decide +kernel
theorem dX8_noon_43 : decode cX8_noon 43 = .ok (.iload 5, 2) := by decide +kernel
theorem dX8_noon_45 : decode cX8_noon 45 = .ok (.aload_n 0, 1) := by decide +kernel
theorem dX8_noon_46 : decode cX8_noon 46 = .ok (.getfield 68, 3) := by decide +kernel
theorem dX8_noon_49 : decode cX8_noon 49 = .ok (.if_icmp .ge 45, 3) := by decide +kernel
theorem dX8_noon_52 : decode cX8_noon 52 = .ok (.iload 4, 2) := by decide +kernel
theorem dX8_noon_54 : decode cX8_noon 54 = .ok (.aload_n 0, 1) := by decide +kernel
theorem dX8_noon_55 : decode cX8_noon 55 = .ok (.getfield 31, 3) := by decide +kernel
theorem dX8_noon_58 : decode cX8_noon 58 = .ok (.iload 5, 2) := by decide +kernel
theorem dX8_noon_60 : decode cX8_noon 60 = .ok (.iaload, 1) := by decide +kernel
theorem dX8_noon_61 : decode cX8_noon 61 = .ok (.bipush (-9), 2) := by decide +kernel
theorem dX8_noon_63 : decode cX8_noon 63 = .ok (.if_icmp .eq 21, 3) := by decide +kernel
theorem dX8_noon_66 : decode cX8_noon 66 = .ok (.aload_n 0, 1) := by decide +kernel
theorem dX8_noon_67 : decode cX8_noon 67 = .ok (.getfield 31, 3) := by decide +kernel
theorem dX8_noon_70 : decode cX8_noon 70 = .ok (.iload 5, 2) := by decide +kernel
theorem dX8_noon_72 : decode cX8_noon 72 = .ok (.iaload, 1) := by decide +kernel
theorem dX8_noon_73 : decode cX8_noon 73 = .ok (.iload_n 3, 1) := by decide +kernel
theorem dX8_noon_74 : decode cX8_noon 74 = .ok (.if_icmp .gt 10, 3) := by decide +kernel
theorem dX8_noon_77 : decode cX8_noon 77 = .ok (.iconst 1, 1) := by decide +kernel
theorem dX8_noon_78 : decode cX8_noon 78 = .ok (.iload 5, 2) := by decide +kernel
theorem dX8_noon_80 : decode cX8_noon 80 = .ok (.ishl, 1) := by decide +kernel
theorem dX8_noon_81 : decode cX8_noon 81 = .ok (.goto 4, 3) := by decide +kernel
theorem dX8_noon_84 : decode cX8_noon 84 = .ok (.iconst 0, 1) := by decide +kernel
theorem dX8_noon_85 : decode cX8_noon 85 = .ok (.ior, 1) := by decide +kernel
theorem dX8_noon_86 : decode cX8_noon 86 = .ok (.istore 4, 2) := by decide +kernel
theorem dX8_noon_88 : decode cX8_noon 88 = .ok (.iinc 5 1, 3) := by decide +kernel
theorem dX8_noon_91 : decode cX8_noon 91 = .ok (.goto (-48), 3) := by decide +kernel
theorem dX8_noon_94 : decode cX8_noon 94 = .ok (.iload 4, 2) := by decide +kernel
theorem dX8_noon_96 : decode cX8_noon 96 = .ok (.ireturn, 1) := by decide +kernel
theorem dX8_gain_0 : decode cX8_gain 0 = .ok (.aload_n 0, 1) := by decide +kernel
theorem dX8_gain_1 : decode cX8_gain 1 = .ok (.iload_n 1, 1) := by decide +kernel
theorem dX8_gain_2 : decode cX8_gain 2 = .ok (.invokevirtual 107, 3) := by decide +kernel
theorem dX8_gain_5 : decode cX8_gain 5 = .ok (.ifCond .eq 19, 3) := by decide +kernel
theorem dX8_gain_8 : decode cX8_gain 8 = .ok (.aload_n 0, 1) := by decide +kernel
theorem dX8_gain_9 : decode cX8_gain 9 = .ok (.iload_n 2, 1) := by decide +kernel
theorem dX8_gain_10 : decode cX8_gain 10 = .ok (.invokevirtual 107, 3) := by decide +kernel
theorem dX8_gain_13 : decode cX8_gain 13 = .ok (.ifCond .eq 11, 3) := by decide +kernel
theorem dX8_gain_16 : decode cX8_gain 16 = .ok (.aload_n 0, 1) := by decide +kernel
theorem dX8_gain_17 : decode cX8_gain 17 = .ok (.iload_n 3, 1) := by decide +kernel
theorem dX8_gain_18 : decode cX8_gain 18 = .ok (.invokevirtual 101, 3) := by decide +kernel
theorem dX8_gain_21 : decode cX8_gain 21 = .ok (.ifCond .ne 5, 3) := by decide +kernel
theorem dX8_gain_24 : decode cX8_gain 24 = .ok (.iconst (-1), 1) := by decide +kernel
theorem dX8_gain_25 : decode cX8_gain 25 = .ok (.ireturn, 1) := by decide +kernel
theorem dX8_gain_26 : decode cX8_gain 26 = .ok (.iload 4, 2) := by decide +kernel
theorem dX8_gain_28 : decode cX8_gain 28 = .ok (.iconst 0, 1) := by decide +kernel
theorem dX8_gain_29 : decode cX8_gain 29 = .ok (.bipush 8, 2) := by decide +kernel
theorem dX8_gain_31 : decode cX8_gain 31 = .ok (.invokestatic 64, 3) := by decide +kernel
theorem dX8_gain_34 : decode cX8_gain 34 = .ok (.ifCond .eq 13, 3) := by decide +kernel
theorem dX8_gain_37 : decode cX8_gain 37 = .ok (.iload 5, 2) := by decide +kernel
theorem dX8_gain_39 : decode cX8_gain 39 = .ok (.iconst 0, 1) := by decide +kernel
theorem dX8_gain_40 : decode cX8_gain 40 = .ok (.iconst 1, 1) := by decide +kernel
theorem dX8_gain_41 : decode cX8_gain 41 = .ok (.invokestatic 64, 3) := by decide +kernel
theorem dX8_gain_44 : decode cX8_gain 44 = .ok (.ifCond .ne 6, 3) := by decide +kernel
theorem dX8_gain_47 : decode cX8_gain 47 = .ok (.bipush (-2), 2) := by decide +kernel
theorem dX8_gain_49 : decode cX8_gain 49 = .ok (.ireturn, 1) := by decide +kernel
theorem dX8_gain_50 : decode cX8_gain 50 = .ok (.iconst 1, 1) := by decide +kernel
theorem dX8_gain_51 : decode cX8_gain 51 = .ok (.iload_n 3, 1) := by decide +kernel
theorem dX8_gain_52 : decode cX8_gain 52 = .ok (.ishl, 1) := by decide +kernel
theorem dX8_gain_53 : decode cX8_gain 53 = .ok (.istore 6, 2) := by decide +kernel
theorem dX8_gain_55 : decode cX8_gain 55 = .ok (.aload_n 0, 1) := by decide +kernel
theorem dX8_gain_56 : decode cX8_gain 56 = .ok (.getfield 19, 3) := by decide +kernel
theorem dX8_gain_59 : decode cX8_gain 59 = .ok (.iload_n 3, 1) := by decide +kernel
theorem dX8_gain_60 : decode cX8_gain 60 = .ok (.iaload, 1) := by decide +kernel
theorem dX8_gain_61 : decode cX8_gain 61 = .ok (.istore 7, 2) := by decide +kernel
theorem dX8_gain_63 : decode cX8_gain 63 = .ok (.iconst 0, 1) := by decide +kernel
theorem dX8_gain_64 : decode cX8_gain 64 = .ok (.istore 8, 2) := by decide +kernel
theorem dX8_gain_66 : decode cX8_gain 66 = .ok (.iconst 1, 1) := by decide +kernel
theorem dX8_gain_67 : decode cX8_gain 67 = .ok (.istore 9, 2) := by decide +kernel
theorem dX8_gain_69 : decode cX8_gain 69 = .ok (.iload 9, 2) := by decide +kernel
theorem dX8_gain_71 : decode cX8_gain 71 = .ok (.iload 4, 2) := by decide +kernel
theorem dX8_gain_73 : decode cX8_gain 73 = .ok (.if_icmp .gt 114, 3) := by decide +kernel
theorem dX8_gain_76 : decode cX8_gain 76 = .ok (.iconst 0, 1) := by decide +kernel
theorem dX8_gain_77 : decode cX8_gain 77 = .ok (.istore 10, 2) := by decide +kernel
theorem dX8_gain_79 : decode cX8_gain 79 = .ok (.iconst 0, 1) := by decide +kernel
theorem dX8_gain_80 : decode cX8_gain 80 = .ok (.istore 11, 2) := by decide +kernel
theorem dX8_gain_82 : decode cX8_gain 82 = .ok (.iload 11, 2) := by decide +kernel
theorem dX8_gain_84 : decode cX8_gain 84 = .ok (.aload_n 0, 1) := by decide +kernel
theorem dX8_gain_85 : decode cX8_gain 85 = .ok (.getfield 68, 3) := by decide +kernel
theorem dX8_gain_88 : decode cX8_gain 88 = .ok (.if_icmp .ge 35, 3) := by decide +kernel
theorem dX8_gain_91 : decode cX8_gain 91 = .ok (.iload 10, 2) := by decide +kernel
theorem dX8_gain_93 : decode cX8_gain 93 = .ok (.aload_n 0, 1) := by decide +kernel
theorem dX8_gain_94 : decode cX8_gain 94 = .ok (.iload_n 1, 1) := by decide +kernel
theorem dX8_gain_95 : decode cX8_gain 95 = .ok (.iload_n 2, 1) := by decide +kernel
theorem dX8_gain_96 : decode cX8_gain 96 = .ok (.iload 6, 2) := by decide +kernel
theorem dX8_gain_98 : decode cX8_gain 98 = .ok (.iload 11, 2) := by decide +kernel
theorem dX8_gain_100 : decode cX8_gain 100 = .ok (.invokevirtual 133, 3) := by decide +kernel
theorem dX8_gain_103 : decode cX8_gain 103 = .ok (.ifCond .eq 10, 3) := by decide +kernel
theorem dX8_gain_106 : decode cX8_gain 106 = .ok (.iconst 1, 1) := by decide +kernel
theorem dX8_gain_107 : decode cX8_gain 107 = .ok (.iload 11, 2) := by decide +kernel
theorem dX8_gain_109 : decode cX8_gain 109 = .ok (.ishl, 1) := by decide +kernel
theorem dX8_gain_110 : decode cX8_gain 110 = .ok (.goto 4, 3) := by decide +kernel
theorem dX8_gain_113 : decode cX8_gain 113 = .ok (.iconst 0, 1) := by decide +kernel
theorem dX8_gain_114 : decode cX8_gain 114 = .ok (.ior, 1) := by decide +kernel
theorem dX8_gain_115 : decode cX8_gain 115 = .ok (.istore 10, 2) := by decide +kernel
theorem dX8_gain_117 : decode cX8_gain 117 = .ok (.iinc 11 1, 3) := by decide +kernel
theorem dX8_gain_120 : decode cX8_gain 120 = .ok (.goto (-38), 3) := by decide +kernel
theorem dX8_gain_123 : decode cX8_gain 123 = .ok (.iconst 0, 1) := by decide +kernel
theorem dX8_gain_124 : decode cX8_gain 124 = .ok (.istore 11, 2) := by decide +kernel
theorem dX8_gain_126 : decode cX8_gain 126 = .ok (.iload 11, 2) := by decide +kernel
theorem dX8_gain_128 : decode cX8_gain 128 = .ok (.aload_n 0, 1) := by decide +kernel
theorem dX8_gain_129 : decode cX8_gain 129 = .ok (.getfield 68, 3) := by decide +kernel
theorem dX8_gain_132 : decode cX8_gain 132 = .ok (.if_icmp .ge 45, 3) := by decide +kernel
theorem dX8_gain_135 : decode cX8_gain 135 = .ok (.iload 10, 2) := by decide +kernel
theorem dX8_gain_137 : decode cX8_gain 137 = .ok (.iload 11, 2) := by decide +kernel
theorem dX8_gain_139 : decode cX8_gain 139 = .ok (.ishr, 1) := by decide +kernel
theorem dX8_gain_140 : decode cX8_gain 140 = .ok (.iconst 1, 1) := by decide +kernel
theorem dX8_gain_141 : decode cX8_gain 141 = .ok (.iand, 1) := by decide +kernel
theorem dX8_gain_142 : decode cX8_gain 142 = .ok (.iconst 1, 1) := by decide +kernel
theorem dX8_gain_143 : decode cX8_gain 143 = .ok (.if_icmp .ne 28, 3) := by decide +kernel
theorem dX8_gain_146 : decode cX8_gain 146 = .ok (.aload_n 0, 1) := by decide +kernel
theorem dX8_gain_147 : decode cX8_gain 147 = .ok (.getfield 19, 3) := by decide +kernel
theorem dX8_gain_150 : decode cX8_gain 150 = .ok (.iload 11, 2) := by decide +kernel
theorem dX8_gain_152 : decode cX8_gain 152 = .ok (.iaload, 1) := by decide +kernel
theorem dX8_gain_153 : decode cX8_gain 153 = .ok (.iload 7, 2) := by decide +kernel
theorem dX8_gain_155 : decode cX8_gain 155 = .ok (.if_icmp .le 16, 3) := by decide +kernel
theorem dX8_gain_158 : decode cX8_gain 158 = .ok (.aload_n 0, 1) := by decide +kernel
theorem dX8_gain_159 : decode cX8_gain 159 = .ok (.getfield 19, 3) := by decide +kernel
theorem dX8_gain_162 : decode cX8_gain 162 = .ok (.iload 11, 2) := by decide +kernel
theorem dX8_gain_164 : decode cX8_gain 164 = .ok (.iaload, 1) := by decide +kernel
theorem dX8_gain_165 : decode cX8_gain 165 = .ok (.istore 7, 2) := by decide +kernel
theorem dX8_gain_167 : decode cX8_gain 167 = .ok (.iload 9, 2) := by decide +kernel
theorem dX8_gain_169 : decode cX8_gain 169 = .ok (.istore 8, 2) := by decide +kernel
theorem dX8_gain_171 : decode cX8_gain 171 = .ok (.iinc 11 1, 3) := by decide +kernel
theorem dX8_gain_174 : decode cX8_gain 174 = .ok (.goto (-48), 3) := by decide +kernel
theorem dX8_gain_177 : decode cX8_gain 177 = .ok (.iload 10, 2) := by decide +kernel
theorem dX8_gain_179 : decode cX8_gain 179 = .ok (.istore 6, 2) := by decide +kernel
theorem dX8_gain_181 : decode cX8_gain 181 = .ok (.iinc 9 1, 3) := by decide +kernel
theorem dX8_gain_184 : decode cX8_gain 184 = .ok (.goto (-115), 3) := by decide +kernel
theorem dX8_gain_187 : decode cX8_gain 187 = .ok (.iload 5, 2) := by decide +kernel
theorem dX8_gain_189 : decode cX8_gain 189 = .ok (.ifCond .ne 8, 3) := by decide +kernel
theorem dX8_gain_192 : decode cX8_gain 192 = .ok (.iload 7, 2) := by decide +kernel
theorem dX8_gain_194 : decode cX8_gain 194 = .ok (.goto 5, 3) := by decide +kernel
theorem dX8_gain_197 : decode cX8_gain 197 = .ok (.iload 8, 2) := by decide +kernel
theorem dX8_gain_199 : decode cX8_gain 199 = .ok (.ireturn, 1) := by decide +kernel
theorem dX8_isGot_0 : decode cX8_isGot 0 = .ok (.iconst 0, 1) := by decide +kernel
theorem dX8_isGot_1 : decode cX8_isGot 1 = .ok (.istore 5, 2) := by decide +kernel
theorem dX8_isGot_3 : decode cX8_isGot 3 = .ok (.iload 5, 2) := by decide +kernel
theorem dX8_isGot_5 : decode cX8_isGot 5 = .ok (.aload_n 0, 1) := by decide +kernel
theorem dX8_isGot_6 : decode cX8_isGot 6 = .ok (.getfield 68, 3) := by decide +kernel
theorem dX8_isGot_9 : decode cX8_isGot 9 = .ok (.if_icmp .ge 45, 3) := by decide +kernel
theorem dX8_isGot_12 : decode cX8_isGot 12 = .ok (.iload_n 3, 1) := by decide +kernel
theorem dX8_isGot_13 : decode cX8_isGot 13 = .ok (.iload 5, 2) := by decide +kernel
theorem dX8_isGot_15 : decode cX8_isGot 15 = .ok (.ishr, 1) := by decide +kernel
theorem dX8_isGot_16 : decode cX8_isGot 16 = .ok (.iconst 1, 1) := by decide +kernel
theorem dX8_isGot_17 : decode cX8_isGot 17 = .ok (.iand, 1) := by decide +kernel
theorem dX8_isGot_18 : decode cX8_isGot 18 = .ok (.iconst 1, 1) := by decide +kernel
theorem dX8_isGot_19 : decode cX8_isGot 19 = .ok (.if_icmp .ne 29, 3) := by decide +kernel
theorem dX8_isGot_22 : decode cX8_isGot 22 = .ok (.aload_n 0, 1) := by decide +kernel
theorem dX8_isGot_23 : decode cX8_isGot 23 = .ok (.iload_n 1, 1) := by decide +kernel
theorem dX8_isGot_24 : decode cX8_isGot 24 = .ok (.iload 5, 2) := by decide +kernel
theorem dX8_isGot_26 : decode cX8_isGot 26 = .ok (.iload 4, 2) := by decide +kernel
theorem dX8_isGot_28 : decode cX8_isGot 28 = .ok (.invokevirtual 119, 3) := by decide +kernel
theorem dX8_isGot_31 : decode cX8_isGot 31 = .ok (.ifCond .eq 17, 3) := by decide +kernel
theorem dX8_isGot_34 : decode cX8_isGot 34 = .ok (.aload_n 0, 1) := by decide +kernel
theorem dX8_isGot_35 : decode cX8_isGot 35 = .ok (.iload_n 2, 1) := by decide +kernel
theorem dX8_isGot_36 : decode cX8_isGot 36 = .ok (.iload 4, 2) := by decide +kernel
theorem dX8_isGot_38 : decode cX8_isGot 38 = .ok (.iload 5, 2) := by decide +kernel
theorem dX8_isGot_40 : decode cX8_isGot 40 = .ok (.invokevirtual 116, 3) := by decide +kernel
theorem dX8_isGot_43 : decode cX8_isGot 43 = .ok (.ifCond .eq 5, 3) := by decide +kernel
theorem dX8_isGot_46 : decode cX8_isGot 46 = .ok (.iconst 1, 1) := by decide +kernel
theorem dX8_isGot_47 : decode cX8_isGot 47 = .ok (.ireturn, 1) := by decide +kernel
theorem dX8_isGot_48 : decode cX8_isGot 48 = .ok (.iinc 5 1, 3) := by decide +kernel
theorem dX8_isGot_51 : decode cX8_isGot 51 = .ok (.goto (-48), 3) := by decide +kernel
theorem dX8_isGot_54 : decode cX8_isGot 54 = .ok (.iconst 0, 1) := by decide +kernel
theorem dX8_isGot_55 : decode cX8_isGot 55 = .ok (.ireturn, 1) := by decide +kernel
theorem dX8_saying_0 : decode cX8_saying 0 = .ok (.aload_n 0, 1) := by decide +kernel
theorem dX8_saying_1 : decode cX8_saying 1 = .ok (.iload_n 1, 1) := by decide +kernel
theorem dX8_saying_2 : decode cX8_saying 2 = .ok (.invokevirtual 107, 3) := by decide +kernel
theorem dX8_saying_5 : decode cX8_saying 5 = .ok (.ifCond .eq 24, 3) := by decide +kernel
theorem dX8_saying_8 : decode cX8_saying 8 = .ok (.aload_n 0, 1) := by decide +kernel
theorem dX8_saying_9 : decode cX8_saying 9 = .ok (.iload_n 2, 1) := by decide +kernel
theorem dX8_saying_10 : decode cX8_saying 10 = .ok (.invokevirtual 101, 3) := by decide +kernel
theorem dX8_saying_13 : decode cX8_saying 13 = .ok (.ifCond .eq 16, 3) := by decide +kernel
theorem dX8_saying_16 : decode cX8_saying 16 = .ok (.aload_n 0, 1) := by decide +kernel
theorem dX8_saying_17 : decode cX8_saying 17 = .ok (.iload_n 3, 1) := by decide +kernel
theorem dX8_saying_18 : decode cX8_saying 18 = .ok (.invokevirtual 101, 3) := by decide +kernel
theorem dX8_saying_21 : decode cX8_saying 21 = .ok (.ifCond .eq 8, 3) := by decide +kernel
theorem dX8_saying_24 : decode cX8_saying 24 = .ok (.iload_n 2, 1) := by decide +kernel
theorem dX8_saying_25 : decode cX8_saying 25 = .ok (.iload_n 3, 1) := by decide +kernel
theorem dX8_saying_26 : decode cX8_saying 26 = .ok (.if_icmp .ne 5, 3) := by decide +kernel
theorem dX8_saying_29 : decode cX8_saying 29 = .ok (.iconst (-1), 1) := by decide +kernel
theorem dX8_saying_30 : decode cX8_saying 30 = .ok (.ireturn, 1) := by decide +kernel
theorem dX8_saying_31 : decode cX8_saying 31 = .ok (.iload 4, 2) := by decide +kernel
theorem dX8_saying_33 : decode cX8_saying 33 = .ok (.iconst 0, 1) := by decide +kernel
theorem dX8_saying_34 : decode cX8_saying 34 = .ok (.iconst 1, 1) := by decide +kernel
theorem dX8_saying_35 : decode cX8_saying 35 = .ok (.invokestatic 64, 3) := by decide +kernel
theorem dX8_saying_38 : decode cX8_saying 38 = .ok (.ifCond .ne 6, 3) := by decide +kernel
theorem dX8_saying_41 : decode cX8_saying 41 = .ok (.bipush (-2), 2) := by decide +kernel
theorem dX8_saying_43 : decode cX8_saying 43 = .ok (.ireturn, 1) := by decide +kernel
theorem dX8_saying_44 : decode cX8_saying 44 = .ok (.aload_n 0, 1) := by decide +kernel
theorem dX8_saying_45 : decode cX8_saying 45 = .ok (.getfield 98, 3) := by decide +kernel
theorem dX8_saying_48 : decode cX8_saying 48 = .ok (.bipush 10, 2) := by decide +kernel
theorem dX8_saying_50 : decode cX8_saying 50 = .ok (.if_icmp .ne 6, 3) := by decide +kernel
theorem dX8_saying_53 : decode cX8_saying 53 = .ok (.bipush (-4), 2) := by decide +kernel
theorem dX8_saying_55 : decode cX8_saying 55 = .ok (.ireturn, 1) := by decide +kernel
theorem dX8_saying_56 : decode cX8_saying 56 = .ok (.aload_n 0, 1) := by decide +kernel
theorem dX8_saying_57 : decode cX8_saying 57 = .ok (.getfield 34, 3) := by decide +kernel
theorem dX8_saying_60 : decode cX8_saying 60 = .ok (.aload_n 0, 1) := by decide +kernel
theorem dX8_saying_61 : decode cX8_saying 61 = .ok (.getfield 98, 3) := by decide +kernel
theorem dX8_saying_64 : decode cX8_saying 64 = .ok (.iload_n 1, 1) := by decide +kernel
theorem dX8_saying_65 : decode cX8_saying 65 = .ok (.iastore, 1) := by decide +kernel
theorem dX8_saying_66 : decode cX8_saying 66 = .ok (.aload_n 0, 1) := by decide +kernel
theorem dX8_saying_67 : decode cX8_saying 67 = .ok (.getfield 37, 3) := by decide +kernel
theorem dX8_saying_70 : decode cX8_saying 70 = .ok (.aload_n 0, 1) := by decide +kernel
theorem dX8_saying_71 : decode cX8_saying 71 = .ok (.getfield 98, 3) := by decide +kernel
theorem dX8_saying_74 : decode cX8_saying 74 = .ok (.iload_n 2, 1) := by decide +kernel
theorem dX8_saying_75 : decode cX8_saying 75 = .ok (.iastore, 1) := by decide +kernel
theorem dX8_saying_76 : decode cX8_saying 76 = .ok (.aload_n 0, 1) := by decide +kernel
theorem dX8_saying_77 : decode cX8_saying 77 = .ok (.getfield 40, 3) := by decide +kernel
theorem dX8_saying_80 : decode cX8_saying 80 = .ok (.aload_n 0, 1) := by decide +kernel
theorem dX8_saying_81 : decode cX8_saying 81 = .ok (.getfield 98, 3) := by decide +kernel
theorem dX8_saying_84 : decode cX8_saying 84 = .ok (.iload_n 3, 1) := by decide +kernel
theorem dX8_saying_85 : decode cX8_saying 85 = .ok (.iastore, 1) := by decide +kernel
theorem dX8_saying_86 : decode cX8_saying 86 = .ok (.aload_n 0, 1) := by decide +kernel
theorem dX8_saying_87 : decode cX8_saying 87 = .ok (.getfield 43, 3) := by decide +kernel
theorem dX8_saying_90 : decode cX8_saying 90 = .ok (.aload_n 0, 1) := by decide +kernel
theorem dX8_saying_91 : decode cX8_saying 91 = .ok (.getfield 98, 3) := by decide +kernel
theorem dX8_saying_94 : decode cX8_saying 94 = .ok (.iload 4, 2) := by decide +kernel
theorem dX8_saying_96 : decode cX8_saying 96 = .ok (.iastore, 1) := by decide +kernel
theorem dX8_saying_97 : decode cX8_saying 97 = .ok (.aload_n 0, 1) := by decide +kernel
theorem dX8_saying_98 : decode cX8_saying 98 = .ok (.dup, 1) := by decide +kernel
theorem dX8_saying_99 : decode cX8_saying 99 = .ok (.getfield 98, 3) := by decide +kernel
theorem dX8_saying_102 : decode cX8_saying 102 = .ok (.iconst 1, 1) := by decide +kernel
theorem dX8_saying_103 : decode cX8_saying 103 = .ok (.iadd, 1) := by decide +kernel
theorem dX8_saying_104 : decode cX8_saying 104 = .ok (.putfield 98, 3) := by decide +kernel
theorem dX8_saying_107 : decode cX8_saying 107 = .ok (.aload_n 0, 1) := by decide +kernel
theorem dX8_saying_108 : decode cX8_saying 108 = .ok (.getfield 98, 3) := by decide +kernel
theorem dX8_saying_111 : decode cX8_saying 111 = .ok (.iconst 1, 1) := by decide +kernel
theorem dX8_saying_112 : decode cX8_saying 112 = .ok (.isub, 1) := by decide +kernel
theorem dX8_saying_113 : decode cX8_saying 113 = .ok (.ireturn, 1) := by decide +kernel
theorem dX8_back_0 : decode cX8_back 0 = .ok (.iload_n 1, 1) := by decide +kernel
theorem dX8_back_1 : decode cX8_back 1 = .ok (.iconst 0, 1) := by decide +kernel
theorem dX8_back_2 : decode cX8_back 2 = .ok (.aload_n 0, 1) := by decide +kernel
theorem dX8_back_3 : decode cX8_back 3 = .ok (.getfield 98, 3) := by decide +kernel
theorem dX8_back_6 : decode cX8_back 6 = .ok (.invokestatic 64, 3) := by decide +kernel
theorem dX8_back_9 : decode cX8_back 9 = .ok (.ifCond .ne 6, 3) := by decide +kernel
theorem dX8_back_12 : decode cX8_back 12 = .ok (.bipush (-2), 2) := by decide +kernel
theorem dX8_back_14 : decode cX8_back 14 = .ok (.ireturn, 1) := by decide +kernel
theorem dX8_back_15 : decode cX8_back 15 = .ok (.aload_n 0, 1) := by decide +kernel
theorem dX8_back_16 : decode cX8_back 16 = .ok (.dup, 1) := by decide +kernel
theorem dX8_back_17 : decode cX8_back 17 = .ok (.getfield 98, 3) := by decide +kernel
theorem dX8_back_20 : decode cX8_back 20 = .ok (.iload_n 1, 1) := by decide +kernel
theorem dX8_back_21 : decode cX8_back 21 = .ok (.isub, 1) := by decide +kernel
theorem dX8_back_22 : decode cX8_back 22 = .ok (.putfield 98, 3) := by decide +kernel
theorem dX8_back_25 : decode cX8_back 25 = .ok (.aload_n 0, 1) := by decide +kernel
theorem dX8_back_26 : decode cX8_back 26 = .ok (.getfield 98, 3) := by decide +kernel
theorem dX8_back_29 : decode cX8_back 29 = .ok (.ireturn, 1) := by decide +kernel
theorem dX8_isSo_0 : decode cX8_isSo 0 = .ok (.aload_n 0, 1) := by decide +kernel
theorem dX8_isSo_1 : decode cX8_isSo 1 = .ok (.getfield 37, 3) := by decide +kernel
theorem dX8_isSo_4 : decode cX8_isSo 4 = .ok (.iload_n 1, 1) := by decide +kernel
theorem dX8_isSo_5 : decode cX8_isSo 5 = .ok (.iaload, 1) := by decide +kernel
theorem dX8_isSo_6 : decode cX8_isSo 6 = .ok (.istore_n 2, 1) := by decide +kernel
theorem dX8_isSo_7 : decode cX8_isSo 7 = .ok (.aload_n 0, 1) := by decide +kernel
theorem dX8_isSo_8 : decode cX8_isSo 8 = .ok (.getfield 40, 3) := by decide +kernel
theorem dX8_isSo_11 : decode cX8_isSo 11 = .ok (.iload_n 1, 1) := by decide +kernel
theorem dX8_isSo_12 : decode cX8_isSo 12 = .ok (.iaload, 1) := by decide +kernel
theorem dX8_isSo_13 : decode cX8_isSo 13 = .ok (.istore_n 3, 1) := by decide +kernel
theorem dX8_isSo_14 : decode cX8_isSo 14 = .ok (.aload_n 0, 1) := by decide +kernel
theorem dX8_isSo_15 : decode cX8_isSo 15 = .ok (.getfield 43, 3) := by decide +kernel
theorem dX8_isSo_18 : decode cX8_isSo 18 = .ok (.iload_n 1, 1) := by decide +kernel
theorem dX8_isSo_19 : decode cX8_isSo 19 = .ok (.iaload, 1) := by decide +kernel
theorem dX8_isSo_20 : decode cX8_isSo 20 = .ok (.iconst 1, 1) := by decide +kernel
theorem dX8_isSo_21 : decode cX8_isSo 21 = .ok (.if_icmp .ne 18, 3) := by decide +kernel
theorem dX8_isSo_24 : decode cX8_isSo 24 = .ok (.aload_n 0, 1) := by decide +kernel
theorem dX8_isSo_25 : decode cX8_isSo 25 = .ok (.aload_n 0, 1) := by decide +kernel
theorem dX8_isSo_26 : decode cX8_isSo 26 = .ok (.getfield 34, 3) := by decide +kernel
theorem dX8_isSo_29 : decode cX8_isSo 29 = .ok (.iload_n 1, 1) := by decide +kernel
theorem dX8_isSo_30 : decode cX8_isSo 30 = .ok (.iaload, 1) := by decide +kernel
theorem dX8_isSo_31 : decode cX8_isSo 31 = .ok (.iload_n 2, 1) := by decide +kernel
theorem dX8_isSo_32 : decode cX8_isSo 32 = .ok (.iload_n 3, 1) := by decide +kernel
theorem dX8_isSo_33 : decode cX8_isSo 33 = .ok (.invokevirtual 116, 3) := by decide +kernel
theorem dX8_isSo_36 : decode cX8_isSo 36 = .ok (.goto 15, 3) := by decide +kernel
theorem dX8_isSo_39 : decode cX8_isSo 39 = .ok (.aload_n 0, 1) := by decide +kernel
theorem dX8_isSo_40 : decode cX8_isSo 40 = .ok (.aload_n 0, 1) := by decide +kernel
theorem dX8_isSo_41 : decode cX8_isSo 41 = .ok (.getfield 34, 3) := by decide +kernel
theorem dX8_isSo_44 : decode cX8_isSo 44 = .ok (.iload_n 1, 1) := by decide +kernel
theorem dX8_isSo_45 : decode cX8_isSo 45 = .ok (.iaload, 1) := by decide +kernel
theorem dX8_isSo_46 : decode cX8_isSo 46 = .ok (.iload_n 2, 1) := by decide +kernel
theorem dX8_isSo_47 : decode cX8_isSo 47 = .ok (.iload_n 3, 1) := by decide +kernel
theorem dX8_isSo_48 : decode cX8_isSo 48 = .ok (.invokevirtual 119, 3) := by decide +kernel
theorem dX8_isSo_51 : decode cX8_isSo 51 = .ok (.ireturn, 1) := by decide +kernel
theorem dX8_untrue_0 : decode cX8_untrue 0 = .ok (.iconst 0, 1) := by decide +kernel
theorem dX8_untrue_1 : decode cX8_untrue 1 = .ok (.istore_n 1, 1) := by decide +kernel
theorem dX8_untrue_2 : decode cX8_untrue 2 = .ok (.iconst 0, 1) := by decide +kernel
theorem dX8_untrue_3 : decode cX8_untrue 3 = .ok (.istore_n 2, 1) := by decide +kernel
theorem dX8_untrue_4 : decode cX8_untrue 4 = .ok (.iload_n 2, 1) := by decide +kernel
theorem dX8_untrue_5 : decode cX8_untrue 5 = .ok (.aload_n 0, 1) := by decide +kernel
theorem dX8_untrue_6 : decode cX8_untrue 6 = .ok (.getfield 98, 3) := by decide +kernel
theorem dX8_untrue_9 : decode cX8_untrue 9 = .ok (.if_icmp .ge 27, 3) := by decide +kernel
theorem dX8_untrue_12 : decode cX8_untrue 12 = .ok (.iload_n 1, 1) := by decide +kernel
theorem dX8_untrue_13 : decode cX8_untrue 13 = .ok (.aload_n 0, 1) := by decide +kernel
theorem dX8_untrue_14 : decode cX8_untrue 14 = .ok (.iload_n 2, 1) := by decide +kernel
theorem dX8_untrue_15 : decode cX8_untrue 15 = .ok (.invokevirtual 137, 3) := by decide +kernel
theorem dX8_untrue_18 : decode cX8_untrue 18 = .ok (.ifCond .eq 7, 3) := by decide +kernel
theorem dX8_untrue_21 : decode cX8_untrue 21 = .ok (.iconst 0, 1) := by decide +kernel
theorem dX8_untrue_22 : decode cX8_untrue 22 = .ok (.goto 6, 3) := by decide +kernel
theorem dX8_untrue_25 : decode cX8_untrue 25 = .ok (.iconst 1, 1) := by decide +kernel
theorem dX8_untrue_26 : decode cX8_untrue 26 = .ok (.iload_n 2, 1) := by decide +kernel
theorem dX8_untrue_27 : decode cX8_untrue 27 = .ok (.ishl, 1) := by decide +kernel
theorem dX8_untrue_28 : decode cX8_untrue 28 = .ok (.ior, 1) := by decide +kernel
theorem dX8_untrue_29 : decode cX8_untrue 29 = .ok (.istore_n 1, 1) := by decide +kernel
theorem dX8_untrue_30 : decode cX8_untrue 30 = .ok (.iinc 2 1, 3) := by decide +kernel
theorem dX8_untrue_33 : decode cX8_untrue 33 = .ok (.goto (-29), 3) := by decide +kernel
theorem dX8_untrue_36 : decode cX8_untrue 36 = .ok (.iload_n 1, 1) := by decide +kernel
theorem dX8_untrue_37 : decode cX8_untrue 37 = .ok (.ireturn, 1) := by decide +kernel
theorem dX8_falseOf_0 : decode cX8_falseOf 0 = .ok (.iconst 0, 1) := by decide +kernel
theorem dX8_falseOf_1 : decode cX8_falseOf 1 = .ok (.istore_n 2, 1) := by decide +kernel
theorem dX8_falseOf_2 : decode cX8_falseOf 2 = .ok (.iconst 0, 1) := by decide +kernel
theorem dX8_falseOf_3 : decode cX8_falseOf 3 = .ok (.istore_n 3, 1) := by decide +kernel
theorem dX8_falseOf_4 : decode cX8_falseOf 4 = .ok (.iload_n 3, 1) := by decide +kernel
theorem dX8_falseOf_5 : decode cX8_falseOf 5 = .ok (.aload_n 0, 1) := by decide +kernel
theorem dX8_falseOf_6 : decode cX8_falseOf 6 = .ok (.getfield 98, 3) := by decide +kernel
theorem dX8_falseOf_9 : decode cX8_falseOf 9 = .ok (.if_icmp .ge 45, 3) := by decide +kernel
theorem dX8_falseOf_12 : decode cX8_falseOf 12 = .ok (.iload_n 2, 1) := by decide +kernel
theorem dX8_falseOf_13 : decode cX8_falseOf 13 = .ok (.aload_n 0, 1) := by decide +kernel
theorem dX8_falseOf_14 : decode cX8_falseOf 14 = .ok (.getfield 37, 3) := by decide +kernel
theorem dX8_falseOf_17 : decode cX8_falseOf 17 = .ok (.iload_n 3, 1) := by decide +kernel
theorem dX8_falseOf_18 : decode cX8_falseOf 18 = .ok (.iaload, 1) := by decide +kernel
theorem dX8_falseOf_19 : decode cX8_falseOf 19 = .ok (.iload_n 1, 1) := by decide +kernel
theorem dX8_falseOf_20 : decode cX8_falseOf 20 = .ok (.if_icmp .eq 13, 3) := by decide +kernel
theorem dX8_falseOf_23 : decode cX8_falseOf 23 = .ok (.aload_n 0, 1) := by decide +kernel
theorem dX8_falseOf_24 : decode cX8_falseOf 24 = .ok (.getfield 40, 3) := by decide +kernel
theorem dX8_falseOf_27 : decode cX8_falseOf 27 = .ok (.iload_n 3, 1) := by decide +kernel
theorem dX8_falseOf_28 : decode cX8_falseOf 28 = .ok (.iaload, 1) := by decide +kernel
theorem dX8_falseOf_29 : decode cX8_falseOf 29 = .ok (.iload_n 1, 1) := by decide +kernel
theorem dX8_falseOf_30 : decode cX8_falseOf 30 = .ok (.if_icmp .ne 15, 3) := by decide +kernel
theorem dX8_falseOf_33 : decode cX8_falseOf 33 = .ok (.aload_n 0, 1) := by decide +kernel
theorem dX8_falseOf_34 : decode cX8_falseOf 34 = .ok (.iload_n 3, 1) := by decide +kernel
theorem dX8_falseOf_35 : decode cX8_falseOf 35 = .ok (.invokevirtual 137, 3) := by decide +kernel
theorem dX8_falseOf_38 : decode cX8_falseOf 38 = .ok (.ifCond .ne 7, 3) := by decide +kernel
theorem dX8_falseOf_41 : decode cX8_falseOf 41 = .ok (.iconst 1, 1) := by decide +kernel
theorem dX8_falseOf_42 : decode cX8_falseOf 42 = .ok (.goto 4, 3) := by decide +kernel
theorem dX8_falseOf_45 : decode cX8_falseOf 45 = .ok (.iconst 0, 1) := by decide +kernel
theorem dX8_falseOf_46 : decode cX8_falseOf 46 = .ok (.iadd, 1) := by decide +kernel
theorem dX8_falseOf_47 : decode cX8_falseOf 47 = .ok (.istore_n 2, 1) := by decide +kernel
theorem dX8_falseOf_48 : decode cX8_falseOf 48 = .ok (.iinc 3 1, 3) := by decide +kernel
theorem dX8_falseOf_51 : decode cX8_falseOf 51 = .ok (.goto (-47), 3) := by decide +kernel
theorem dX8_falseOf_54 : decode cX8_falseOf 54 = .ok (.iload_n 2, 1) := by decide +kernel
theorem dX8_falseOf_55 : decode cX8_falseOf 55 = .ok (.ireturn, 1) := by decide +kernel
theorem dX8_leaves_0 : decode cX8_leaves 0 = .ok (.aload_n 0, 1) := by decide +kernel
theorem dX8_leaves_1 : decode cX8_leaves 1 = .ok (.iload_n 1, 1) := by decide +kernel
theorem dX8_leaves_2 : decode cX8_leaves 2 = .ok (.invokevirtual 101, 3) := by decide +kernel
theorem dX8_leaves_5 : decode cX8_leaves 5 = .ok (.ifCond .ne 5, 3) := by decide +kernel
theorem dX8_leaves_8 : decode cX8_leaves 8 = .ok (.iconst (-1), 1) := by decide +kernel
theorem dX8_leaves_9 : decode cX8_leaves 9 = .ok (.ireturn, 1) := by decide +kernel
theorem dX8_leaves_10 : decode cX8_leaves 10 = .ok (.iload_n 2, 1) := by decide +kernel
theorem dX8_leaves_11 : decode cX8_leaves 11 = .ok (.iconst 0, 1) := by decide +kernel
theorem dX8_leaves_12 : decode cX8_leaves 12 = .ok (.iconst 2, 1) := by decide +kernel
theorem dX8_leaves_13 : decode cX8_leaves 13 = .ok (.invokestatic 64, 3) := by decide +kernel
theorem dX8_leaves_16 : decode cX8_leaves 16 = .ok (.ifCond .ne 6, 3) := by decide +kernel
theorem dX8_leaves_19 : decode cX8_leaves 19 = .ok (.bipush (-2), 2) := by decide +kernel
theorem dX8_leaves_21 : decode cX8_leaves 21 = .ok (.ireturn, 1) := by decide +kernel
theorem dX8_leaves_22 : decode cX8_leaves 22 = .ok (.aload_n 0, 1) := by decide +kernel
theorem dX8_leaves_23 : decode cX8_leaves 23 = .ok (.getfield 19, 3) := by decide +kernel
theorem dX8_leaves_26 : decode cX8_leaves 26 = .ok (.iload_n 1, 1) := by decide +kernel
theorem dX8_leaves_27 : decode cX8_leaves 27 = .ok (.iaload, 1) := by decide +kernel
theorem dX8_leaves_28 : decode cX8_leaves 28 = .ok (.istore_n 3, 1) := by decide +kernel
theorem dX8_leaves_29 : decode cX8_leaves 29 = .ok (.iconst 0, 1) := by decide +kernel
theorem dX8_leaves_30 : decode cX8_leaves 30 = .ok (.istore 4, 2) := by decide +kernel
theorem dX8_leaves_32 : decode cX8_leaves 32 = .ok (.bipush (-9), 2) := by decide +kernel
theorem dX8_leaves_34 : decode cX8_leaves 34 = .ok (.istore 5, 2) := by decide +kernel
theorem dX8_leaves_36 : decode cX8_leaves 36 = .ok (.bipush (-9), 2) := by decide +kernel
theorem dX8_leaves_38 : decode cX8_leaves 38 = .ok (.istore 6, 2) := by decide +kernel
theorem dX8_leaves_40 : decode cX8_leaves 40 = .ok (.iconst 1, 1) := by decide +kernel
theorem dX8_leaves_41 : decode cX8_leaves 41 = .ok (.istore 7, 2) := by decide +kernel
theorem dX8_leaves_43 : decode cX8_leaves 43 = .ok (.iload 7, 2) := by decide +kernel
theorem dX8_leaves_45 : decode cX8_leaves 45 = .ok (.sipush 999, 3) := by decide +kernel
theorem dX8_leaves_48 : decode cX8_leaves 48 = .ok (.if_icmp .gt 48, 3) := by decide +kernel
theorem dX8_leaves_51 : decode cX8_leaves 51 = .ok (.aload_n 0, 1) := by decide +kernel
theorem dX8_leaves_52 : decode cX8_leaves 52 = .ok (.getfield 19, 3) := by decide +kernel
theorem dX8_leaves_55 : decode cX8_leaves 55 = .ok (.iload_n 1, 1) := by decide +kernel
theorem dX8_leaves_56 : decode cX8_leaves 56 = .ok (.iload 7, 2) := by decide +kernel
theorem dX8_leaves_58 : decode cX8_leaves 58 = .ok (.iastore, 1) := by decide +kernel
theorem dX8_leaves_59 : decode cX8_leaves 59 = .ok (.aload_n 0, 1) := by decide +kernel
theorem dX8_leaves_60 : decode cX8_leaves 60 = .ok (.iload_n 1, 1) := by decide +kernel
theorem dX8_leaves_61 : decode cX8_leaves 61 = .ok (.invokevirtual 140, 3) := by decide +kernel
theorem dX8_leaves_64 : decode cX8_leaves 64 = .ok (.ifCond .ne 26, 3) := by decide +kernel
theorem dX8_leaves_67 : decode cX8_leaves 67 = .ok (.iinc 4 1, 3) := by decide +kernel
theorem dX8_leaves_70 : decode cX8_leaves 70 = .ok (.iload 5, 2) := by decide +kernel
theorem dX8_leaves_72 : decode cX8_leaves 72 = .ok (.bipush (-9), 2) := by decide +kernel
theorem dX8_leaves_74 : decode cX8_leaves 74 = .ok (.if_icmp .ne 8, 3) := by decide +kernel
theorem dX8_leaves_77 : decode cX8_leaves 77 = .ok (.iload 7, 2) := by decide +kernel
theorem dX8_leaves_79 : decode cX8_leaves 79 = .ok (.goto 5, 3) := by decide +kernel
theorem dX8_leaves_82 : decode cX8_leaves 82 = .ok (.iload 5, 2) := by decide +kernel
theorem dX8_leaves_84 : decode cX8_leaves 84 = .ok (.istore 5, 2) := by decide +kernel
theorem dX8_leaves_86 : decode cX8_leaves 86 = .ok (.iload 7, 2) := by decide +kernel
theorem dX8_leaves_88 : decode cX8_leaves 88 = .ok (.istore 6, 2) := by decide +kernel
theorem dX8_leaves_90 : decode cX8_leaves 90 = .ok (.iinc 7 1, 3) := by decide +kernel
theorem dX8_leaves_93 : decode cX8_leaves 93 = .ok (.goto (-50), 3) := by decide +kernel
theorem dX8_leaves_96 : decode cX8_leaves 96 = .ok (.aload_n 0, 1) := by decide +kernel
theorem dX8_leaves_97 : decode cX8_leaves 97 = .ok (.getfield 19, 3) := by decide +kernel
theorem dX8_leaves_100 : decode cX8_leaves 100 = .ok (.iload_n 1, 1) := by decide +kernel
theorem dX8_leaves_101 : decode cX8_leaves 101 = .ok (.iload_n 3, 1) := by decide +kernel
theorem dX8_leaves_102 : decode cX8_leaves 102 = .ok (.iastore, 1) := by decide +kernel
theorem dX8_leaves_103 : decode cX8_leaves 103 = .ok (.iload_n 2, 1) := by decide +kernel
theorem dX8_leaves_104 : decode cX8_leaves 104 = .ok (.ifCond .ne 8, 3) := by decide +kernel
theorem dX8_leaves_107 : decode cX8_leaves 107 = .ok (.iload 4, 2) := by decide +kernel
theorem dX8_leaves_109 : decode cX8_leaves 109 = .ok (.goto 15, 3) := by decide +kernel
theorem dX8_leaves_112 : decode cX8_leaves 112 = .ok (.iload_n 2, 1) := by decide +kernel
theorem dX8_leaves_113 : decode cX8_leaves 113 = .ok (.iconst 1, 1) := by decide +kernel
theorem dX8_leaves_114 : decode cX8_leaves 114 = .ok (.if_icmp .ne 8, 3) := by decide +kernel
theorem dX8_leaves_117 : decode cX8_leaves 117 = .ok (.iload 5, 2) := by decide +kernel
theorem dX8_leaves_119 : decode cX8_leaves 119 = .ok (.goto 5, 3) := by decide +kernel
theorem dX8_leaves_122 : decode cX8_leaves 122 = .ok (.iload 6, 2) := by decide +kernel
theorem dX8_leaves_124 : decode cX8_leaves 124 = .ok (.ireturn, 1) := by decide +kernel
theorem dX8_breaks_0 : decode cX8_breaks 0 = .ok (.aload_n 0, 1) := by decide +kernel
theorem dX8_breaks_1 : decode cX8_breaks 1 = .ok (.iload_n 1, 1) := by decide +kernel
theorem dX8_breaks_2 : decode cX8_breaks 2 = .ok (.invokevirtual 101, 3) := by decide +kernel
theorem dX8_breaks_5 : decode cX8_breaks 5 = .ok (.ifCond .ne 5, 3) := by decide +kernel
theorem dX8_breaks_8 : decode cX8_breaks 8 = .ok (.iconst (-1), 1) := by decide +kernel
theorem dX8_breaks_9 : decode cX8_breaks 9 = .ok (.ireturn, 1) := by decide +kernel
theorem dX8_breaks_10 : decode cX8_breaks 10 = .ok (.iload_n 2, 1) := by decide +kernel
theorem dX8_breaks_11 : decode cX8_breaks 11 = .ok (.iconst 0, 1) := by decide +kernel
theorem dX8_breaks_12 : decode cX8_breaks 12 = .ok (.iconst 1, 1) := by decide +kernel
theorem dX8_breaks_13 : decode cX8_breaks 13 = .ok (.invokestatic 64, 3) := by decide +kernel
theorem dX8_breaks_16 : decode cX8_breaks 16 = .ok (.ifCond .ne 6, 3) := by decide +kernel
theorem dX8_breaks_19 : decode cX8_breaks 19 = .ok (.bipush (-2), 2) := by decide +kernel
theorem dX8_breaks_21 : decode cX8_breaks 21 = .ok (.ireturn, 1) := by decide +kernel
theorem dX8_breaks_22 : decode cX8_breaks 22 = .ok (.aload_n 0, 1) := by decide +kernel
theorem dX8_breaks_23 : decode cX8_breaks 23 = .ok (.getfield 19, 3) := by decide +kernel
theorem dX8_breaks_26 : decode cX8_breaks 26 = .ok (.iload_n 1, 1) := by decide +kernel
theorem dX8_breaks_27 : decode cX8_breaks 27 = .ok (.iaload, 1) := by decide +kernel
theorem dX8_breaks_28 : decode cX8_breaks 28 = .ok (.istore_n 3, 1) := by decide +kernel
theorem dX8_breaks_29 : decode cX8_breaks 29 = .ok (.bipush 11, 2) := by decide +kernel
theorem dX8_breaks_31 : decode cX8_breaks 31 = .ok (.istore 4, 2) := by decide +kernel
theorem dX8_breaks_33 : decode cX8_breaks 33 = .ok (.iconst 0, 1) := by decide +kernel
theorem dX8_breaks_34 : decode cX8_breaks 34 = .ok (.istore 5, 2) := by decide +kernel
theorem dX8_breaks_36 : decode cX8_breaks 36 = .ok (.iconst 1, 1) := by decide +kernel
theorem dX8_breaks_37 : decode cX8_breaks 37 = .ok (.istore 6, 2) := by decide +kernel
theorem dX8_breaks_39 : decode cX8_breaks 39 = .ok (.iload 6, 2) := by decide +kernel
theorem dX8_breaks_41 : decode cX8_breaks 41 = .ok (.sipush 999, 3) := by decide +kernel
theorem dX8_breaks_44 : decode cX8_breaks 44 = .ok (.if_icmp .gt 39, 3) := by decide +kernel
theorem dX8_breaks_47 : decode cX8_breaks 47 = .ok (.aload_n 0, 1) := by decide +kernel
theorem dX8_breaks_48 : decode cX8_breaks 48 = .ok (.getfield 19, 3) := by decide +kernel
theorem dX8_breaks_51 : decode cX8_breaks 51 = .ok (.iload_n 1, 1) := by decide +kernel
theorem dX8_breaks_52 : decode cX8_breaks 52 = .ok (.iload 6, 2) := by decide +kernel
theorem dX8_breaks_54 : decode cX8_breaks 54 = .ok (.iastore, 1) := by decide +kernel
theorem dX8_breaks_55 : decode cX8_breaks 55 = .ok (.aload_n 0, 1) := by decide +kernel
theorem dX8_breaks_56 : decode cX8_breaks 56 = .ok (.iload_n 1, 1) := by decide +kernel
theorem dX8_breaks_57 : decode cX8_breaks 57 = .ok (.invokevirtual 140, 3) := by decide +kernel
theorem dX8_breaks_60 : decode cX8_breaks 60 = .ok (.istore 7, 2) := by decide +kernel
theorem dX8_breaks_62 : decode cX8_breaks 62 = .ok (.iload 7, 2) := by decide +kernel
theorem dX8_breaks_64 : decode cX8_breaks 64 = .ok (.iload 4, 2) := by decide +kernel
theorem dX8_breaks_66 : decode cX8_breaks 66 = .ok (.if_icmp .ge 11, 3) := by decide +kernel
theorem dX8_breaks_69 : decode cX8_breaks 69 = .ok (.iload 7, 2) := by decide +kernel
theorem dX8_breaks_71 : decode cX8_breaks 71 = .ok (.istore 4, 2) := by decide +kernel
theorem dX8_breaks_73 : decode cX8_breaks 73 = .ok (.iload 6, 2) := by decide +kernel
theorem dX8_breaks_75 : decode cX8_breaks 75 = .ok (.istore 5, 2) := by decide +kernel
theorem dX8_breaks_77 : decode cX8_breaks 77 = .ok (.iinc 6 1, 3) := by decide +kernel
theorem dX8_breaks_80 : decode cX8_breaks 80 = .ok (.goto (-41), 3) := by decide +kernel
theorem dX8_breaks_83 : decode cX8_breaks 83 = .ok (.aload_n 0, 1) := by decide +kernel
theorem dX8_breaks_84 : decode cX8_breaks 84 = .ok (.getfield 19, 3) := by decide +kernel
theorem dX8_breaks_87 : decode cX8_breaks 87 = .ok (.iload_n 1, 1) := by decide +kernel
theorem dX8_breaks_88 : decode cX8_breaks 88 = .ok (.iload_n 3, 1) := by decide +kernel
theorem dX8_breaks_89 : decode cX8_breaks 89 = .ok (.iastore, 1) := by decide +kernel
theorem dX8_breaks_90 : decode cX8_breaks 90 = .ok (.iload_n 2, 1) := by decide +kernel
theorem dX8_breaks_91 : decode cX8_breaks 91 = .ok (.ifCond .ne 8, 3) := by decide +kernel
theorem dX8_breaks_94 : decode cX8_breaks 94 = .ok (.iload 4, 2) := by decide +kernel
theorem dX8_breaks_96 : decode cX8_breaks 96 = .ok (.goto 5, 3) := by decide +kernel
theorem dX8_breaks_99 : decode cX8_breaks 99 = .ok (.iload 5, 2) := by decide +kernel
theorem dX8_breaks_101 : decode cX8_breaks 101 = .ok (.ireturn, 1) := by decide +kernel
theorem dX8_mayStand_0 : decode cX8_mayStand 0 = .ok (.iload_n 2, 1) := by decide +kernel
theorem dX8_mayStand_1 : decode cX8_mayStand 1 = .ok (.iload_n 3, 1) := by decide +kernel
theorem dX8_mayStand_2 : decode cX8_mayStand 2 = .ok (.ishr, 1) := by decide +kernel
theorem dX8_mayStand_3 : decode cX8_mayStand 3 = .ok (.iconst 1, 1) := by decide +kernel
theorem dX8_mayStand_4 : decode cX8_mayStand 4 = .ok (.iand, 1) := by decide +kernel
theorem dX8_mayStand_5 : decode cX8_mayStand 5 = .ok (.iconst 1, 1) := by decide +kernel
theorem dX8_mayStand_6 : decode cX8_mayStand 6 = .ok (.if_icmp .ne 5, 3) := by decide +kernel
theorem dX8_mayStand_9 : decode cX8_mayStand 9 = .ok (.iconst 0, 1) := by decide +kernel
theorem dX8_mayStand_10 : decode cX8_mayStand 10 = .ok (.ireturn, 1) := by decide +kernel
theorem dX8_mayStand_11 : decode cX8_mayStand 11 = .ok (.iconst 0, 1) := by decide +kernel
theorem dX8_mayStand_12 : decode cX8_mayStand 12 = .ok (.istore 4, 2) := by decide +kernel
theorem dX8_mayStand_14 : decode cX8_mayStand 14 = .ok (.iload 4, 2) := by decide +kernel
theorem dX8_mayStand_16 : decode cX8_mayStand 16 = .ok (.aload_n 0, 1) := by decide +kernel
theorem dX8_mayStand_17 : decode cX8_mayStand 17 = .ok (.getfield 68, 3) := by decide +kernel
theorem dX8_mayStand_20 : decode cX8_mayStand 20 = .ok (.if_icmp .ge 31, 3) := by decide +kernel
theorem dX8_mayStand_23 : decode cX8_mayStand 23 = .ok (.iload_n 2, 1) := by decide +kernel
theorem dX8_mayStand_24 : decode cX8_mayStand 24 = .ok (.iload 4, 2) := by decide +kernel
theorem dX8_mayStand_26 : decode cX8_mayStand 26 = .ok (.ishr, 1) := by decide +kernel
theorem dX8_mayStand_27 : decode cX8_mayStand 27 = .ok (.iconst 1, 1) := by decide +kernel
theorem dX8_mayStand_28 : decode cX8_mayStand 28 = .ok (.iand, 1) := by decide +kernel
theorem dX8_mayStand_29 : decode cX8_mayStand 29 = .ok (.ifCond .ne 16, 3) := by decide +kernel
theorem dX8_mayStand_32 : decode cX8_mayStand 32 = .ok (.aload_n 0, 1) := by decide +kernel
theorem dX8_mayStand_33 : decode cX8_mayStand 33 = .ok (.iload_n 1, 1) := by decide +kernel
theorem dX8_mayStand_34 : decode cX8_mayStand 34 = .ok (.iload_n 3, 1) := by decide +kernel
theorem dX8_mayStand_35 : decode cX8_mayStand 35 = .ok (.iload 4, 2) := by decide +kernel
theorem dX8_mayStand_37 : decode cX8_mayStand 37 = .ok (.invokevirtual 116, 3) := by decide +kernel
theorem dX8_mayStand_40 : decode cX8_mayStand 40 = .ok (.ifCond .eq 5, 3) := by decide +kernel
theorem dX8_mayStand_43 : decode cX8_mayStand 43 = .ok (.iconst 0, 1) := by decide +kernel
theorem dX8_mayStand_44 : decode cX8_mayStand 44 = .ok (.ireturn, 1) := by decide +kernel
theorem dX8_mayStand_45 : decode cX8_mayStand 45 = .ok (.iinc 4 1, 3) := by decide +kernel
theorem dX8_mayStand_48 : decode cX8_mayStand 48 = .ok (.goto (-34), 3) := by decide +kernel
theorem dX8_mayStand_51 : decode cX8_mayStand 51 = .ok (.iconst 1, 1) := by decide +kernel
theorem dX8_mayStand_52 : decode cX8_mayStand 52 = .ok (.ireturn, 1) := by decide +kernel
theorem dX8_rows_0 : decode cX8_rows 0 = .ok (.aload_n 0, 1) := by decide +kernel
theorem dX8_rows_1 : decode cX8_rows 1 = .ok (.iload_n 1, 1) := by decide +kernel
theorem dX8_rows_2 : decode cX8_rows 2 = .ok (.invokevirtual 107, 3) := by decide +kernel
theorem dX8_rows_5 : decode cX8_rows 5 = .ok (.ifCond .eq 17, 3) := by decide +kernel
theorem dX8_rows_8 : decode cX8_rows 8 = .ok (.iload_n 2, 1) := by decide +kernel
theorem dX8_rows_9 : decode cX8_rows 9 = .ok (.iconst (-1), 1) := by decide +kernel
theorem dX8_rows_10 : decode cX8_rows 10 = .ok (.aload_n 0, 1) := by decide +kernel
theorem dX8_rows_11 : decode cX8_rows 11 = .ok (.getfield 68, 3) := by decide +kernel
theorem dX8_rows_14 : decode cX8_rows 14 = .ok (.iconst 1, 1) := by decide +kernel
theorem dX8_rows_15 : decode cX8_rows 15 = .ok (.isub, 1) := by decide +kernel
theorem dX8_rows_16 : decode cX8_rows 16 = .ok (.invokestatic 64, 3) := by decide +kernel
theorem dX8_rows_19 : decode cX8_rows 19 = .ok (.ifCond .ne 5, 3) := by decide +kernel
theorem dX8_rows_22 : decode cX8_rows 22 = .ok (.iconst (-1), 1) := by decide +kernel
theorem dX8_rows_23 : decode cX8_rows 23 = .ok (.ireturn, 1) := by decide +kernel
theorem dX8_rows_24 : decode cX8_rows 24 = .ok (.iload_n 2, 1) := by decide +kernel
theorem dX8_rows_25 : decode cX8_rows 25 = .ok (.ifCond .lt 10, 3) := by decide +kernel
theorem dX8_rows_28 : decode cX8_rows 28 = .ok (.aload_n 0, 1) := by decide +kernel
theorem dX8_rows_29 : decode cX8_rows 29 = .ok (.iload_n 1, 1) := by decide +kernel
theorem dX8_rows_30 : decode cX8_rows 30 = .ok (.iload_n 2, 1) := by decide +kernel
theorem dX8_rows_31 : decode cX8_rows 31 = .ok (.invokevirtual 143, 3) := by decide +kernel
theorem dX8_rows_34 : decode cX8_rows 34 = .ok (.ireturn, 1) := by decide +kernel
theorem dX8_rows_35 : decode cX8_rows 35 = .ok (.iconst 1, 1) := by decide +kernel
theorem dX8_rows_36 : decode cX8_rows 36 = .ok (.aload_n 0, 1) := by decide +kernel
theorem dX8_rows_37 : decode cX8_rows 37 = .ok (.getfield 68, 3) := by decide +kernel
theorem dX8_rows_40 : decode cX8_rows 40 = .ok (.ishl, 1) := by decide +kernel
theorem dX8_rows_41 : decode cX8_rows 41 = .ok (.iconst 1, 1) := by decide +kernel
theorem dX8_rows_42 : decode cX8_rows 42 = .ok (.isub, 1) := by decide +kernel
theorem dX8_rows_43 : decode cX8_rows 43 = .ok (.istore_n 3, 1) := by decide +kernel
theorem dX8_rows_44 : decode cX8_rows 44 = .ok (.iconst 0, 1) := by decide +kernel
theorem dX8_rows_45 : decode cX8_rows 45 = .ok (.istore 4, 2) := by decide +kernel
theorem dX8_rows_47 : decode cX8_rows 47 = .ok (.iload 4, 2) := by decide +kernel
theorem dX8_rows_49 : decode cX8_rows 49 = .ok (.iload_n 3, 1) := by decide +kernel
theorem dX8_rows_50 : decode cX8_rows 50 = .ok (.if_icmp .gt 17, 3) := by decide +kernel
theorem dX8_rows_53 : decode cX8_rows 53 = .ok (.aload_n 0, 1) := by decide +kernel
theorem dX8_rows_54 : decode cX8_rows 54 = .ok (.getfield 46, 3) := by decide +kernel
theorem dX8_rows_57 : decode cX8_rows 57 = .ok (.iload 4, 2) := by decide +kernel
theorem dX8_rows_59 : decode cX8_rows 59 = .ok (.iconst 0, 1) := by decide +kernel
theorem dX8_rows_60 : decode cX8_rows 60 = .ok (.iastore, 1) := by decide +kernel
theorem dX8_rows_61 : decode cX8_rows 61 = .ok (.iinc 4 1, 3) := by decide +kernel
theorem dX8_rows_64 : decode cX8_rows 64 = .ok (.goto (-17), 3) := by decide +kernel
theorem dX8_rows_67 : decode cX8_rows 67 = .ok (.aload_n 0, 1) := by decide +kernel
theorem dX8_rows_68 : decode cX8_rows 68 = .ok (.getfield 46, 3) := by decide +kernel
theorem dX8_rows_71 : decode cX8_rows 71 = .ok (.iconst 0, 1) := by decide +kernel
theorem dX8_rows_72 : decode cX8_rows 72 = .ok (.iconst 1, 1) := by decide +kernel
theorem dX8_rows_73 : decode cX8_rows 73 = .ok (.iastore, 1) := by decide +kernel
theorem dX8_rows_74 : decode cX8_rows 74 = .ok (.iconst 0, 1) := by decide +kernel
theorem dX8_rows_75 : decode cX8_rows 75 = .ok (.istore 4, 2) := by decide +kernel
theorem dX8_rows_77 : decode cX8_rows 77 = .ok (.iload 4, 2) := by decide +kernel
theorem dX8_rows_79 : decode cX8_rows 79 = .ok (.iload_n 3, 1) := by decide +kernel
theorem dX8_rows_80 : decode cX8_rows 80 = .ok (.if_icmp .ge 61, 3) := by decide +kernel
theorem dX8_rows_83 : decode cX8_rows 83 = .ok (.iconst 0, 1) := by decide +kernel
theorem dX8_rows_84 : decode cX8_rows 84 = .ok (.istore 5, 2) := by decide +kernel
theorem dX8_rows_86 : decode cX8_rows 86 = .ok (.iload 5, 2) := by decide +kernel
theorem dX8_rows_88 : decode cX8_rows 88 = .ok (.aload_n 0, 1) := by decide +kernel
theorem dX8_rows_89 : decode cX8_rows 89 = .ok (.getfield 68, 3) := by decide +kernel
theorem dX8_rows_92 : decode cX8_rows 92 = .ok (.if_icmp .ge 43, 3) := by decide +kernel
theorem dX8_rows_95 : decode cX8_rows 95 = .ok (.aload_n 0, 1) := by decide +kernel
theorem dX8_rows_96 : decode cX8_rows 96 = .ok (.iload_n 1, 1) := by decide +kernel
theorem dX8_rows_97 : decode cX8_rows 97 = .ok (.iload 4, 2) := by decide +kernel
theorem dX8_rows_99 : decode cX8_rows 99 = .ok (.iload 5, 2) := by decide +kernel
theorem dX8_rows_101 : decode cX8_rows 101 = .ok (.invokevirtual 146, 3) := by decide +kernel
theorem dX8_rows_104 : decode cX8_rows 104 = .ok (.ifCond .eq 25, 3) := by decide +kernel
theorem dX8_rows_107 : decode cX8_rows 107 = .ok (.aload_n 0, 1) := by decide +kernel
theorem dX8_rows_108 : decode cX8_rows 108 = .ok (.getfield 46, 3) := by decide +kernel
theorem dX8_rows_111 : decode cX8_rows 111 = .ok (.iload 4, 2) := by decide +kernel
theorem dX8_rows_113 : decode cX8_rows 113 = .ok (.iconst 1, 1) := by decide +kernel
theorem dX8_rows_114 : decode cX8_rows 114 = .ok (.iload 5, 2) := by decide +kernel
theorem dX8_rows_116 : decode cX8_rows 116 = .ok (.ishl, 1) := by decide +kernel
theorem dX8_rows_117 : decode cX8_rows 117 = .ok (.ior, 1) := by decide +kernel
theorem dX8_rows_118 : decode cX8_rows 118 = .ok (.dup2, 1) := by decide +kernel
theorem dX8_rows_119 : decode cX8_rows 119 = .ok (.iaload, 1) := by decide +kernel
theorem dX8_rows_120 : decode cX8_rows 120 = .ok (.aload_n 0, 1) := by decide +kernel
theorem dX8_rows_121 : decode cX8_rows 121 = .ok (.getfield 46, 3) := by decide +kernel
theorem dX8_rows_124 : decode cX8_rows 124 = .ok (.iload 4, 2) := by decide +kernel
theorem dX8_rows_126 : decode cX8_rows 126 = .ok (.iaload, 1) := by decide +kernel
theorem dX8_rows_127 : decode cX8_rows 127 = .ok (.iadd, 1) := by decide +kernel
theorem dX8_rows_128 : decode cX8_rows 128 = .ok (.iastore, 1) := by decide +kernel
theorem dX8_rows_129 : decode cX8_rows 129 = .ok (.iinc 5 1, 3) := by decide +kernel
theorem dX8_rows_132 : decode cX8_rows 132 = .ok (.goto (-46), 3) := by decide +kernel
theorem dX8_rows_135 : decode cX8_rows 135 = .ok (.iinc 4 1, 3) := by decide +kernel
theorem dX8_rows_138 : decode cX8_rows 138 = .ok (.goto (-61), 3) := by decide +kernel
theorem dX8_rows_141 : decode cX8_rows 141 = .ok (.aload_n 0, 1) := by decide +kernel
theorem dX8_rows_142 : decode cX8_rows 142 = .ok (.getfield 46, 3) := by decide +kernel
theorem dX8_rows_145 : decode cX8_rows 145 = .ok (.iload_n 3, 1) := by decide +kernel
theorem dX8_rows_146 : decode cX8_rows 146 = .ok (.iaload, 1) := by decide +kernel
theorem dX8_rows_147 : decode cX8_rows 147 = .ok (.ireturn, 1) := by decide +kernel
theorem dX8_inFirstRow_0 : decode cX8_inFirstRow 0 = .ok (.iconst 0, 1) := by decide +kernel
theorem dX8_inFirstRow_1 : decode cX8_inFirstRow 1 = .ok (.istore_n 3, 1) := by decide +kernel
theorem dX8_inFirstRow_2 : decode cX8_inFirstRow 2 = .ok (.iconst 0, 1) := by decide +kernel
theorem dX8_inFirstRow_3 : decode cX8_inFirstRow 3 = .ok (.istore 4, 2) := by decide +kernel
theorem dX8_inFirstRow_5 : decode cX8_inFirstRow 5 = .ok (.iconst 0, 1) := by decide +kernel
theorem dX8_inFirstRow_6 : decode cX8_inFirstRow 6 = .ok (.istore 5, 2) := by decide +kernel
theorem dX8_inFirstRow_8 : decode cX8_inFirstRow 8 = .ok (.iload 5, 2) := by decide +kernel
theorem dX8_inFirstRow_10 : decode cX8_inFirstRow 10 = .ok (.iload_n 2, 1) := by decide +kernel
theorem dX8_inFirstRow_11 : decode cX8_inFirstRow 11 = .ok (.if_icmp .gt 36, 3) := by decide +kernel
theorem dX8_inFirstRow_14 : decode cX8_inFirstRow 14 = .ok (.iconst 0, 1) := by decide +kernel
theorem dX8_inFirstRow_15 : decode cX8_inFirstRow 15 = .ok (.istore 4, 2) := by decide +kernel
theorem dX8_inFirstRow_17 : decode cX8_inFirstRow 17 = .ok (.aload_n 0, 1) := by decide +kernel
theorem dX8_inFirstRow_18 : decode cX8_inFirstRow 18 = .ok (.iload_n 1, 1) := by decide +kernel
theorem dX8_inFirstRow_19 : decode cX8_inFirstRow 19 = .ok (.iload_n 3, 1) := by decide +kernel
theorem dX8_inFirstRow_20 : decode cX8_inFirstRow 20 = .ok (.iload 4, 2) := by decide +kernel
theorem dX8_inFirstRow_22 : decode cX8_inFirstRow 22 = .ok (.invokevirtual 146, 3) := by decide +kernel
theorem dX8_inFirstRow_25 : decode cX8_inFirstRow 25 = .ok (.ifCond .ne 9, 3) := by decide +kernel
theorem dX8_inFirstRow_28 : decode cX8_inFirstRow 28 = .ok (.iinc 4 1, 3) := by decide +kernel
theorem dX8_inFirstRow_31 : decode cX8_inFirstRow 31 = .ok (.goto (-14), 3) := by decide +kernel
theorem dX8_inFirstRow_34 : decode cX8_inFirstRow 34 = .ok (.iload_n 3, 1) := by decide +kernel
theorem dX8_inFirstRow_35 : decode cX8_inFirstRow 35 = .ok (.iconst 1, 1) := by decide +kernel
theorem dX8_inFirstRow_36 : decode cX8_inFirstRow 36 = .ok (.iload 4, 2) := by decide +kernel
theorem dX8_inFirstRow_38 : decode cX8_inFirstRow 38 = .ok (.ishl, 1) := by decide +kernel
theorem dX8_inFirstRow_39 : decode cX8_inFirstRow 39 = .ok (.ior, 1) := by decide +kernel
theorem dX8_inFirstRow_40 : decode cX8_inFirstRow 40 = .ok (.istore_n 3, 1) := by decide +kernel
theorem dX8_inFirstRow_41 : decode cX8_inFirstRow 41 = .ok (.iinc 5 1, 3) := by decide +kernel
theorem dX8_inFirstRow_44 : decode cX8_inFirstRow 44 = .ok (.goto (-36), 3) := by decide +kernel
theorem dX8_inFirstRow_47 : decode cX8_inFirstRow 47 = .ok (.iload 4, 2) := by decide +kernel
theorem dX8_inFirstRow_49 : decode cX8_inFirstRow 49 = .ok (.ireturn, 1) := by decide +kernel
theorem dX8_longest_0 : decode cX8_longest 0 = .ok (.aload_n 0, 1) := by decide +kernel
theorem dX8_longest_1 : decode cX8_longest 1 = .ok (.iload_n 1, 1) := by decide +kernel
theorem dX8_longest_2 : decode cX8_longest 2 = .ok (.invokevirtual 107, 3) := by decide +kernel
theorem dX8_longest_5 : decode cX8_longest 5 = .ok (.ifCond .ne 5, 3) := by decide +kernel
theorem dX8_longest_8 : decode cX8_longest 8 = .ok (.iconst (-1), 1) := by decide +kernel
theorem dX8_longest_9 : decode cX8_longest 9 = .ok (.ireturn, 1) := by decide +kernel
theorem dX8_longest_10 : decode cX8_longest 10 = .ok (.iconst 0, 1) := by decide +kernel
theorem dX8_longest_11 : decode cX8_longest 11 = .ok (.istore_n 2, 1) := by decide +kernel
theorem dX8_longest_12 : decode cX8_longest 12 = .ok (.iload_n 2, 1) := by decide +kernel
theorem dX8_longest_13 : decode cX8_longest 13 = .ok (.aload_n 0, 1) := by decide +kernel
theorem dX8_longest_14 : decode cX8_longest 14 = .ok (.getfield 68, 3) := by decide +kernel
theorem dX8_longest_17 : decode cX8_longest 17 = .ok (.if_icmp .ge 16, 3) := by decide +kernel
theorem dX8_longest_20 : decode cX8_longest 20 = .ok (.aload_n 0, 1) := by decide +kernel
theorem dX8_longest_21 : decode cX8_longest 21 = .ok (.getfield 49, 3) := by decide +kernel
theorem dX8_longest_24 : decode cX8_longest 24 = .ok (.iload_n 2, 1) := by decide +kernel
theorem dX8_longest_25 : decode cX8_longest 25 = .ok (.iconst 1, 1) := by decide +kernel
theorem dX8_longest_26 : decode cX8_longest 26 = .ok (.iastore, 1) := by decide +kernel
theorem dX8_longest_27 : decode cX8_longest 27 = .ok (.iinc 2 1, 3) := by decide +kernel
theorem dX8_longest_30 : decode cX8_longest 30 = .ok (.goto (-18), 3) := by decide +kernel
theorem dX8_longest_33 : decode cX8_longest 33 = .ok (.iconst 1, 1) := by decide +kernel
theorem dX8_longest_34 : decode cX8_longest 34 = .ok (.istore_n 2, 1) := by decide +kernel
theorem dX8_longest_35 : decode cX8_longest 35 = .ok (.iconst 0, 1) := by decide +kernel
theorem dX8_longest_36 : decode cX8_longest 36 = .ok (.istore_n 3, 1) := by decide +kernel
theorem dX8_longest_37 : decode cX8_longest 37 = .ok (.iload_n 3, 1) := by decide +kernel
theorem dX8_longest_38 : decode cX8_longest 38 = .ok (.aload_n 0, 1) := by decide +kernel
theorem dX8_longest_39 : decode cX8_longest 39 = .ok (.getfield 68, 3) := by decide +kernel
theorem dX8_longest_42 : decode cX8_longest 42 = .ok (.if_icmp .ge 125, 3) := by decide +kernel
theorem dX8_longest_45 : decode cX8_longest 45 = .ok (.iconst 0, 1) := by decide +kernel
theorem dX8_longest_46 : decode cX8_longest 46 = .ok (.istore 4, 2) := by decide +kernel
theorem dX8_longest_48 : decode cX8_longest 48 = .ok (.iload 4, 2) := by decide +kernel
theorem dX8_longest_50 : decode cX8_longest 50 = .ok (.aload_n 0, 1) := by decide +kernel
theorem dX8_longest_51 : decode cX8_longest 51 = .ok (.getfield 68, 3) := by decide +kernel
theorem dX8_longest_54 : decode cX8_longest 54 = .ok (.if_icmp .ge 107, 3) := by decide +kernel
theorem dX8_longest_57 : decode cX8_longest 57 = .ok (.iconst 0, 1) := by decide +kernel
theorem dX8_longest_58 : decode cX8_longest 58 = .ok (.istore 5, 2) := by decide +kernel
theorem dX8_longest_60 : decode cX8_longest 60 = .ok (.iload 5, 2) := by decide +kernel
theorem dX8_longest_62 : decode cX8_longest 62 = .ok (.aload_n 0, 1) := by decide +kernel
theorem dX8_longest_63 : decode cX8_longest 63 = .ok (.getfield 68, 3) := by decide +kernel
theorem dX8_longest_66 : decode cX8_longest 66 = .ok (.if_icmp .ge 66, 3) := by decide +kernel
theorem dX8_longest_69 : decode cX8_longest 69 = .ok (.aload_n 0, 1) := by decide +kernel
theorem dX8_longest_70 : decode cX8_longest 70 = .ok (.getfield 49, 3) := by decide +kernel
theorem dX8_longest_73 : decode cX8_longest 73 = .ok (.iload 4, 2) := by decide +kernel
theorem dX8_longest_75 : decode cX8_longest 75 = .ok (.aload_n 0, 1) := by decide +kernel
theorem dX8_longest_76 : decode cX8_longest 76 = .ok (.iload_n 1, 1) := by decide +kernel
theorem dX8_longest_77 : decode cX8_longest 77 = .ok (.iload 4, 2) := by decide +kernel
theorem dX8_longest_79 : decode cX8_longest 79 = .ok (.iload 5, 2) := by decide +kernel
theorem dX8_longest_81 : decode cX8_longest 81 = .ok (.invokevirtual 116, 3) := by decide +kernel
theorem dX8_longest_84 : decode cX8_longest 84 = .ok (.ifCond .eq 34, 3) := by decide +kernel
theorem dX8_longest_87 : decode cX8_longest 87 = .ok (.aload_n 0, 1) := by decide +kernel
theorem dX8_longest_88 : decode cX8_longest 88 = .ok (.getfield 49, 3) := by decide +kernel
theorem dX8_longest_91 : decode cX8_longest 91 = .ok (.iload 5, 2) := by decide +kernel
theorem dX8_longest_93 : decode cX8_longest 93 = .ok (.iaload, 1) := by decide +kernel
theorem dX8_longest_94 : decode cX8_longest 94 = .ok (.iconst 1, 1) := by decide +kernel
theorem dX8_longest_95 : decode cX8_longest 95 = .ok (.iadd, 1) := by decide +kernel
theorem dX8_longest_96 : decode cX8_longest 96 = .ok (.aload_n 0, 1) := by decide +kernel
theorem dX8_longest_97 : decode cX8_longest 97 = .ok (.getfield 49, 3) := by decide +kernel
theorem dX8_longest_100 : decode cX8_longest 100 = .ok (.iload 4, 2) := by decide +kernel
theorem dX8_longest_102 : decode cX8_longest 102 = .ok (.iaload, 1) := by decide +kernel
theorem dX8_longest_103 : decode cX8_longest 103 = .ok (.if_icmp .le 15, 3) := by decide +kernel
theorem dX8_longest_106 : decode cX8_longest 106 = .ok (.aload_n 0, 1) := by decide +kernel
theorem dX8_longest_107 : decode cX8_longest 107 = .ok (.getfield 49, 3) := by decide +kernel
theorem dX8_longest_110 : decode cX8_longest 110 = .ok (.iload 5, 2) := by decide +kernel
theorem dX8_longest_112 : decode cX8_longest 112 = .ok (.iaload, 1) := by decide +kernel
theorem dX8_longest_113 : decode cX8_longest 113 = .ok (.iconst 1, 1) := by decide +kernel
theorem dX8_longest_114 : decode cX8_longest 114 = .ok (.iadd, 1) := by decide +kernel
theorem dX8_longest_115 : decode cX8_longest 115 = .ok (.goto 10, 3) := by decide +kernel
theorem dX8_longest_118 : decode cX8_longest 118 = .ok (.aload_n 0, 1) := by decide +kernel
theorem dX8_longest_119 : decode cX8_longest 119 = .ok (.getfield 49, 3) := by decide +kernel
theorem dX8_longest_122 : decode cX8_longest 122 = .ok (.iload 4, 2) := by decide +kernel
theorem dX8_longest_124 : decode cX8_longest 124 = .ok (.iaload, 1) := by decide +kernel
theorem dX8_longest_125 : decode cX8_longest 125 = .ok (.iastore, 1) := by decide +kernel
theorem dX8_longest_126 : decode cX8_longest 126 = .ok (.iinc 5 1, 3) := by decide +kernel
theorem dX8_longest_129 : decode cX8_longest 129 = .ok (.goto (-69), 3) := by decide +kernel
theorem dX8_longest_132 : decode cX8_longest 132 = .ok (.aload_n 0, 1) := by decide +kernel
theorem dX8_longest_133 : decode cX8_longest 133 = .ok (.getfield 49, 3) := by decide +kernel
theorem dX8_longest_136 : decode cX8_longest 136 = .ok (.iload 4, 2) := by decide +kernel
theorem dX8_longest_138 : decode cX8_longest 138 = .ok (.iaload, 1) := by decide +kernel
theorem dX8_longest_139 : decode cX8_longest 139 = .ok (.iload_n 2, 1) := by decide +kernel
theorem dX8_longest_140 : decode cX8_longest 140 = .ok (.if_icmp .le 13, 3) := by decide +kernel
theorem dX8_longest_143 : decode cX8_longest 143 = .ok (.aload_n 0, 1) := by decide +kernel
theorem dX8_longest_144 : decode cX8_longest 144 = .ok (.getfield 49, 3) := by decide +kernel
theorem dX8_longest_147 : decode cX8_longest 147 = .ok (.iload 4, 2) := by decide +kernel
theorem dX8_longest_149 : decode cX8_longest 149 = .ok (.iaload, 1) := by decide +kernel
theorem dX8_longest_150 : decode cX8_longest 150 = .ok (.goto 4, 3) := by decide +kernel
theorem dX8_longest_153 : decode cX8_longest 153 = .ok (.iload_n 2, 1) := by decide +kernel
theorem dX8_longest_154 : decode cX8_longest 154 = .ok (.istore_n 2, 1) := by decide +kernel
theorem dX8_longest_155 : decode cX8_longest 155 = .ok (.iinc 4 1, 3) := by decide +kernel
theorem dX8_longest_158 : decode cX8_longest 158 = .ok (.goto (-110), 3) := by decide +kernel
theorem dX8_longest_161 : decode cX8_longest 161 = .ok (.iinc 3 1, 3) := by decide +kernel
theorem dX8_longest_164 : decode cX8_longest 164 = .ok (.goto (-127), 3) := by decide +kernel
theorem dX8_longest_167 : decode cX8_longest 167 = .ok (.iload_n 2, 1) := by decide +kernel
theorem dX8_longest_168 : decode cX8_longest 168 = .ok (.ireturn, 1) := by decide +kernel
theorem dX8_isCrowd_0 : decode cX8_isCrowd 0 = .ok (.iconst 0, 1) := by decide +kernel
theorem dX8_isCrowd_1 : decode cX8_isCrowd 1 = .ok (.istore_n 3, 1) := by decide +kernel
theorem dX8_isCrowd_2 : decode cX8_isCrowd 2 = .ok (.iload_n 3, 1) := by decide +kernel
theorem dX8_isCrowd_3 : decode cX8_isCrowd 3 = .ok (.aload_n 0, 1) := by decide +kernel
theorem dX8_isCrowd_4 : decode cX8_isCrowd 4 = .ok (.getfield 68, 3) := by decide +kernel
theorem dX8_isCrowd_7 : decode cX8_isCrowd 7 = .ok (.if_icmp .ge 32, 3) := by decide +kernel
theorem dX8_isCrowd_10 : decode cX8_isCrowd 10 = .ok (.iload_n 2, 1) := by decide +kernel
theorem dX8_isCrowd_11 : decode cX8_isCrowd 11 = .ok (.iload_n 3, 1) := by decide +kernel
theorem dX8_isCrowd_12 : decode cX8_isCrowd 12 = .ok (.ishr, 1) := by decide +kernel
theorem dX8_isCrowd_13 : decode cX8_isCrowd 13 = .ok (.iconst 1, 1) := by decide +kernel
theorem dX8_isCrowd_14 : decode cX8_isCrowd 14 = .ok (.iand, 1) := by decide +kernel
theorem dX8_isCrowd_15 : decode cX8_isCrowd 15 = .ok (.iconst 1, 1) := by decide +kernel
theorem dX8_isCrowd_16 : decode cX8_isCrowd 16 = .ok (.if_icmp .ne 17, 3) := by decide +kernel
theorem dX8_isCrowd_19 : decode cX8_isCrowd 19 = .ok (.aload_n 0, 1) := by decide +kernel
theorem dX8_isCrowd_20 : decode cX8_isCrowd 20 = .ok (.iload_n 1, 1) := by decide +kernel
theorem dX8_isCrowd_21 : decode cX8_isCrowd 21 = .ok (.iload_n 3, 1) := by decide +kernel
theorem dX8_isCrowd_22 : decode cX8_isCrowd 22 = .ok (.invokevirtual 122, 3) := by decide +kernel
theorem dX8_isCrowd_25 : decode cX8_isCrowd 25 = .ok (.iload_n 2, 1) := by decide +kernel
theorem dX8_isCrowd_26 : decode cX8_isCrowd 26 = .ok (.iand, 1) := by decide +kernel
theorem dX8_isCrowd_27 : decode cX8_isCrowd 27 = .ok (.iload_n 2, 1) := by decide +kernel
theorem dX8_isCrowd_28 : decode cX8_isCrowd 28 = .ok (.if_icmp .eq 5, 3) := by decide +kernel
theorem dX8_isCrowd_31 : decode cX8_isCrowd 31 = .ok (.iconst 0, 1) := by decide +kernel
theorem dX8_isCrowd_32 : decode cX8_isCrowd 32 = .ok (.ireturn, 1) := by decide +kernel
theorem dX8_isCrowd_33 : decode cX8_isCrowd 33 = .ok (.iinc 3 1, 3) := by decide +kernel
theorem dX8_isCrowd_36 : decode cX8_isCrowd 36 = .ok (.goto (-34), 3) := by decide +kernel
theorem dX8_isCrowd_39 : decode cX8_isCrowd 39 = .ok (.iconst 1, 1) := by decide +kernel
theorem dX8_isCrowd_40 : decode cX8_isCrowd 40 = .ok (.ireturn, 1) := by decide +kernel
theorem dX8_crowd_0 : decode cX8_crowd 0 = .ok (.aload_n 0, 1) := by decide +kernel
theorem dX8_crowd_1 : decode cX8_crowd 1 = .ok (.iload_n 1, 1) := by decide +kernel
theorem dX8_crowd_2 : decode cX8_crowd 2 = .ok (.invokevirtual 107, 3) := by decide +kernel
theorem dX8_crowd_5 : decode cX8_crowd 5 = .ok (.ifCond .ne 5, 3) := by decide +kernel
theorem dX8_crowd_8 : decode cX8_crowd 8 = .ok (.iconst (-1), 1) := by decide +kernel
theorem dX8_crowd_9 : decode cX8_crowd 9 = .ok (.ireturn, 1) := by decide +kernel
theorem dX8_crowd_10 : decode cX8_crowd 10 = .ok (.iconst 0, 1) := by decide +kernel
theorem dX8_crowd_11 : decode cX8_crowd 11 = .ok (.istore_n 2, 1) := by decide +kernel
theorem dX8_crowd_12 : decode cX8_crowd 12 = .ok (.iconst 1, 1) := by decide +kernel
theorem dX8_crowd_13 : decode cX8_crowd 13 = .ok (.istore_n 3, 1) := by decide +kernel
theorem dX8_crowd_14 : decode cX8_crowd 14 = .ok (.iload_n 3, 1) := by decide +kernel
theorem dX8_crowd_15 : decode cX8_crowd 15 = .ok (.iconst 1, 1) := by decide +kernel
theorem dX8_crowd_16 : decode cX8_crowd 16 = .ok (.aload_n 0, 1) := by decide +kernel
theorem dX8_crowd_17 : decode cX8_crowd 17 = .ok (.getfield 68, 3) := by decide +kernel
theorem dX8_crowd_20 : decode cX8_crowd 20 = .ok (.ishl, 1) := by decide +kernel
theorem dX8_crowd_21 : decode cX8_crowd 21 = .ok (.if_icmp .ge 31, 3) := by decide +kernel
theorem dX8_crowd_24 : decode cX8_crowd 24 = .ok (.iload_n 3, 1) := by decide +kernel
theorem dX8_crowd_25 : decode cX8_crowd 25 = .ok (.invokestatic 149, 3) := by decide +kernel
theorem dX8_crowd_28 : decode cX8_crowd 28 = .ok (.iload_n 2, 1) := by decide +kernel
theorem dX8_crowd_29 : decode cX8_crowd 29 = .ok (.invokestatic 149, 3) := by decide +kernel
theorem dX8_crowd_32 : decode cX8_crowd 32 = .ok (.if_icmp .le 14, 3) := by decide +kernel
theorem dX8_crowd_35 : decode cX8_crowd 35 = .ok (.aload_n 0, 1) := by decide +kernel
theorem dX8_crowd_36 : decode cX8_crowd 36 = .ok (.iload_n 1, 1) := by decide +kernel
theorem dX8_crowd_37 : decode cX8_crowd 37 = .ok (.iload_n 3, 1) := by decide +kernel
theorem dX8_crowd_38 : decode cX8_crowd 38 = .ok (.invokevirtual 152, 3) := by decide +kernel
theorem dX8_crowd_41 : decode cX8_crowd 41 = .ok (.ifCond .eq 5, 3) := by decide +kernel
theorem dX8_crowd_44 : decode cX8_crowd 44 = .ok (.iload_n 3, 1) := by decide +kernel
theorem dX8_crowd_45 : decode cX8_crowd 45 = .ok (.istore_n 2, 1) := by decide +kernel
theorem dX8_crowd_46 : decode cX8_crowd 46 = .ok (.iinc 3 1, 3) := by decide +kernel
theorem dX8_crowd_49 : decode cX8_crowd 49 = .ok (.goto (-35), 3) := by decide +kernel
theorem dX8_crowd_52 : decode cX8_crowd 52 = .ok (.iload_n 2, 1) := by decide +kernel
theorem dX8_crowd_53 : decode cX8_crowd 53 = .ok (.ireturn, 1) := by decide +kernel
theorem dX8_measure_0 : decode cX8_measure 0 = .ok (.aload_n 0, 1) := by decide +kernel
theorem dX8_measure_1 : decode cX8_measure 1 = .ok (.iload_n 1, 1) := by decide +kernel
theorem dX8_measure_2 : decode cX8_measure 2 = .ok (.invokevirtual 107, 3) := by decide +kernel
theorem dX8_measure_5 : decode cX8_measure 5 = .ok (.ifCond .ne 5, 3) := by decide +kernel
theorem dX8_measure_8 : decode cX8_measure 8 = .ok (.iconst (-1), 1) := by decide +kernel
theorem dX8_measure_9 : decode cX8_measure 9 = .ok (.ireturn, 1) := by decide +kernel
theorem dX8_measure_10 : decode cX8_measure 10 = .ok (.iload_n 2, 1) := by decide +kernel
theorem dX8_measure_11 : decode cX8_measure 11 = .ok (.iconst 0, 1) := by decide +kernel
theorem dX8_measure_12 : decode cX8_measure 12 = .ok (.iconst 1, 1) := by decide +kernel
theorem dX8_measure_13 : decode cX8_measure 13 = .ok (.invokestatic 64, 3) := by decide +kernel
theorem dX8_measure_16 : decode cX8_measure 16 = .ok (.ifCond .ne 6, 3) := by decide +kernel
theorem dX8_measure_19 : decode cX8_measure 19 = .ok (.bipush (-2), 2) := by decide +kernel
theorem dX8_measure_21 : decode cX8_measure 21 = .ok (.ireturn, 1) := by decide +kernel
theorem dX8_measure_22 : decode cX8_measure 22 = .ok (.iconst 0, 1) := by decide +kernel
theorem dX8_measure_23 : decode cX8_measure 23 = .ok (.istore_n 3, 1) := by decide +kernel
theorem dX8_measure_24 : decode cX8_measure 24 = .ok (.iconst (-1), 1) := by decide +kernel
theorem dX8_measure_25 : decode cX8_measure 25 = .ok (.istore 4, 2) := by decide +kernel
theorem dX8_measure_27 : decode cX8_measure 27 = .ok (.iconst 0, 1) := by decide +kernel
theorem dX8_measure_28 : decode cX8_measure 28 = .ok (.istore 5, 2) := by decide +kernel
theorem dX8_measure_30 : decode cX8_measure 30 = .ok (.iload 5, 2) := by decide +kernel
theorem dX8_measure_32 : decode cX8_measure 32 = .ok (.aload_n 0, 1) := by decide +kernel
theorem dX8_measure_33 : decode cX8_measure 33 = .ok (.getfield 68, 3) := by decide +kernel
theorem dX8_measure_36 : decode cX8_measure 36 = .ok (.if_icmp .ge 37, 3) := by decide +kernel
theorem dX8_measure_39 : decode cX8_measure 39 = .ok (.aload_n 0, 1) := by decide +kernel
theorem dX8_measure_40 : decode cX8_measure 40 = .ok (.iload_n 1, 1) := by decide +kernel
theorem dX8_measure_41 : decode cX8_measure 41 = .ok (.iload 5, 2) := by decide +kernel
theorem dX8_measure_43 : decode cX8_measure 43 = .ok (.invokevirtual 122, 3) := by decide +kernel
theorem dX8_measure_46 : decode cX8_measure 46 = .ok (.invokestatic 149, 3) := by decide +kernel
theorem dX8_measure_49 : decode cX8_measure 49 = .ok (.iconst 1, 1) := by decide +kernel
theorem dX8_measure_50 : decode cX8_measure 50 = .ok (.isub, 1) := by decide +kernel
theorem dX8_measure_51 : decode cX8_measure 51 = .ok (.istore 6, 2) := by decide +kernel
theorem dX8_measure_53 : decode cX8_measure 53 = .ok (.iload 6, 2) := by decide +kernel
theorem dX8_measure_55 : decode cX8_measure 55 = .ok (.iload 4, 2) := by decide +kernel
theorem dX8_measure_57 : decode cX8_measure 57 = .ok (.if_icmp .le 10, 3) := by decide +kernel
theorem dX8_measure_60 : decode cX8_measure 60 = .ok (.iload 6, 2) := by decide +kernel
theorem dX8_measure_62 : decode cX8_measure 62 = .ok (.istore 4, 2) := by decide +kernel
theorem dX8_measure_64 : decode cX8_measure 64 = .ok (.iload 5, 2) := by decide +kernel
theorem dX8_measure_66 : decode cX8_measure 66 = .ok (.istore_n 3, 1) := by decide +kernel
theorem dX8_measure_67 : decode cX8_measure 67 = .ok (.iinc 5 1, 3) := by decide +kernel
theorem dX8_measure_70 : decode cX8_measure 70 = .ok (.goto (-40), 3) := by decide +kernel
theorem dX8_measure_73 : decode cX8_measure 73 = .ok (.iload_n 2, 1) := by decide +kernel
theorem dX8_measure_74 : decode cX8_measure 74 = .ok (.ifCond .ne 7, 3) := by decide +kernel
theorem dX8_measure_77 : decode cX8_measure 77 = .ok (.iload_n 3, 1) := by decide +kernel
theorem dX8_measure_78 : decode cX8_measure 78 = .ok (.goto 5, 3) := by decide +kernel
theorem dX8_measure_81 : decode cX8_measure 81 = .ok (.iload 4, 2) := by decide +kernel
theorem dX8_measure_83 : decode cX8_measure 83 = .ok (.ireturn, 1) := by decide +kernel
theorem dX8_greatest_0 : decode cX8_greatest 0 = .ok (.aload_n 0, 1) := by decide +kernel
theorem dX8_greatest_1 : decode cX8_greatest 1 = .ok (.getfield 25, 3) := by decide +kernel
theorem dX8_greatest_4 : decode cX8_greatest 4 = .ok (.iload_n 1, 1) := by decide +kernel
theorem dX8_greatest_5 : decode cX8_greatest 5 = .ok (.iaload, 1) := by decide +kernel
theorem dX8_greatest_6 : decode cX8_greatest 6 = .ok (.iconst 2, 1) := by decide +kernel
theorem dX8_greatest_7 : decode cX8_greatest 7 = .ok (.if_icmp .ne 17, 3) := by decide +kernel
theorem dX8_greatest_10 : decode cX8_greatest 10 = .ok (.iload_n 2, 1) := by decide +kernel
theorem dX8_greatest_11 : decode cX8_greatest 11 = .ok (.iload_n 2, 1) := by decide +kernel
theorem dX8_greatest_12 : decode cX8_greatest 12 = .ok (.iconst 1, 1) := by decide +kernel
theorem dX8_greatest_13 : decode cX8_greatest 13 = .ok (.isub, 1) := by decide +kernel
theorem dX8_greatest_14 : decode cX8_greatest 14 = .ok (.aload_n 0, 1) := by decide +kernel
theorem dX8_greatest_15 : decode cX8_greatest 15 = .ok (.iload_n 1, 1) := by decide +kernel
theorem dX8_greatest_16 : decode cX8_greatest 16 = .ok (.invokevirtual 110, 3) := by decide +kernel
theorem dX8_greatest_19 : decode cX8_greatest 19 = .ok (.idiv, 1) := by decide +kernel
theorem dX8_greatest_20 : decode cX8_greatest 20 = .ok (.iadd, 1) := by decide +kernel
theorem dX8_greatest_21 : decode cX8_greatest 21 = .ok (.goto 12, 3) := by decide +kernel
theorem dX8_greatest_24 : decode cX8_greatest 24 = .ok (.iload_n 2, 1) := by decide +kernel
theorem dX8_greatest_25 : decode cX8_greatest 25 = .ok (.iload_n 2, 1) := by decide +kernel
theorem dX8_greatest_26 : decode cX8_greatest 26 = .ok (.aload_n 0, 1) := by decide +kernel
theorem dX8_greatest_27 : decode cX8_greatest 27 = .ok (.iload_n 1, 1) := by decide +kernel
theorem dX8_greatest_28 : decode cX8_greatest 28 = .ok (.invokevirtual 110, 3) := by decide +kernel
theorem dX8_greatest_31 : decode cX8_greatest 31 = .ok (.idiv, 1) := by decide +kernel
theorem dX8_greatest_32 : decode cX8_greatest 32 = .ok (.iadd, 1) := by decide +kernel
theorem dX8_greatest_33 : decode cX8_greatest 33 = .ok (.ireturn, 1) := by decide +kernel
theorem dX8_least_0 : decode cX8_least 0 = .ok (.aload_n 0, 1) := by decide +kernel
theorem dX8_least_1 : decode cX8_least 1 = .ok (.iload_n 1, 1) := by decide +kernel
theorem dX8_least_2 : decode cX8_least 2 = .ok (.invokevirtual 110, 3) := by decide +kernel
theorem dX8_least_5 : decode cX8_least 5 = .ok (.iconst 1, 1) := by decide +kernel
theorem dX8_least_6 : decode cX8_least 6 = .ok (.iadd, 1) := by decide +kernel
theorem dX8_least_7 : decode cX8_least 7 = .ok (.istore_n 3, 1) := by decide +kernel
theorem dX8_least_8 : decode cX8_least 8 = .ok (.iload_n 2, 1) := by decide +kernel
theorem dX8_least_9 : decode cX8_least 9 = .ok (.aload_n 0, 1) := by decide +kernel
theorem dX8_least_10 : decode cX8_least 10 = .ok (.iload_n 1, 1) := by decide +kernel
theorem dX8_least_11 : decode cX8_least 11 = .ok (.invokevirtual 110, 3) := by decide +kernel
theorem dX8_least_14 : decode cX8_least 14 = .ok (.imul, 1) := by decide +kernel
theorem dX8_least_15 : decode cX8_least 15 = .ok (.istore 4, 2) := by decide +kernel
theorem dX8_least_17 : decode cX8_least 17 = .ok (.aload_n 0, 1) := by decide +kernel
theorem dX8_least_18 : decode cX8_least 18 = .ok (.getfield 25, 3) := by decide +kernel
theorem dX8_least_21 : decode cX8_least 21 = .ok (.iload_n 1, 1) := by decide +kernel
theorem dX8_least_22 : decode cX8_least 22 = .ok (.iaload, 1) := by decide +kernel
theorem dX8_least_23 : decode cX8_least 23 = .ok (.iconst 2, 1) := by decide +kernel
theorem dX8_least_24 : decode cX8_least 24 = .ok (.if_icmp .ne 12, 3) := by decide +kernel
theorem dX8_least_27 : decode cX8_least 27 = .ok (.iload 4, 2) := by decide +kernel
theorem dX8_least_29 : decode cX8_least 29 = .ok (.iload_n 3, 1) := by decide +kernel
theorem dX8_least_30 : decode cX8_least 30 = .ok (.idiv, 1) := by decide +kernel
theorem dX8_least_31 : decode cX8_least 31 = .ok (.iconst 1, 1) := by decide +kernel
theorem dX8_least_32 : decode cX8_least 32 = .ok (.iadd, 1) := by decide +kernel
theorem dX8_least_33 : decode cX8_least 33 = .ok (.goto 11, 3) := by decide +kernel
theorem dX8_least_36 : decode cX8_least 36 = .ok (.iload 4, 2) := by decide +kernel
theorem dX8_least_38 : decode cX8_least 38 = .ok (.iload_n 3, 1) := by decide +kernel
theorem dX8_least_39 : decode cX8_least 39 = .ok (.iadd, 1) := by decide +kernel
theorem dX8_least_40 : decode cX8_least 40 = .ok (.iconst 1, 1) := by decide +kernel
theorem dX8_least_41 : decode cX8_least 41 = .ok (.isub, 1) := by decide +kernel
theorem dX8_least_42 : decode cX8_least 42 = .ok (.iload_n 3, 1) := by decide +kernel
theorem dX8_least_43 : decode cX8_least 43 = .ok (.idiv, 1) := by decide +kernel
theorem dX8_least_44 : decode cX8_least 44 = .ok (.istore 5, 2) := by decide +kernel
theorem dX8_least_46 : decode cX8_least 46 = .ok (.iload 5, 2) := by decide +kernel
theorem dX8_least_48 : decode cX8_least 48 = .ok (.iconst 1, 1) := by decide +kernel
theorem dX8_least_49 : decode cX8_least 49 = .ok (.if_icmp .ge 7, 3) := by decide +kernel
theorem dX8_least_52 : decode cX8_least 52 = .ok (.iconst 1, 1) := by decide +kernel
theorem dX8_least_53 : decode cX8_least 53 = .ok (.goto 5, 3) := by decide +kernel
theorem dX8_least_56 : decode cX8_least 56 = .ok (.iload 5, 2) := by decide +kernel
theorem dX8_least_58 : decode cX8_least 58 = .ok (.ireturn, 1) := by decide +kernel
theorem dX8_copied_0 : decode cX8_copied 0 = .ok (.iload_n 1, 1) := by decide +kernel
theorem dX8_copied_1 : decode cX8_copied 1 = .ok (.istore 4, 2) := by decide +kernel
theorem dX8_copied_3 : decode cX8_copied 3 = .ok (.iload_n 1, 1) := by decide +kernel
theorem dX8_copied_4 : decode cX8_copied 4 = .ok (.istore 5, 2) := by decide +kernel
theorem dX8_copied_6 : decode cX8_copied 6 = .ok (.iconst 0, 1) := by decide +kernel
theorem dX8_copied_7 : decode cX8_copied 7 = .ok (.istore 6, 2) := by decide +kernel
theorem dX8_copied_9 : decode cX8_copied 9 = .ok (.iload 6, 2) := by decide +kernel
theorem dX8_copied_11 : decode cX8_copied 11 = .ok (.iload_n 2, 1) := by decide +kernel
theorem dX8_copied_12 : decode cX8_copied 12 = .ok (.if_icmp .ge 39, 3) := by decide +kernel
theorem dX8_copied_15 : decode cX8_copied 15 = .ok (.aload_n 0, 1) := by decide +kernel
theorem dX8_copied_16 : decode cX8_copied 16 = .ok (.aload_n 0, 1) := by decide +kernel
theorem dX8_copied_17 : decode cX8_copied 17 = .ok (.getfield 52, 3) := by decide +kernel
theorem dX8_copied_20 : decode cX8_copied 20 = .ok (.iload 6, 2) := by decide +kernel
theorem dX8_copied_22 : decode cX8_copied 22 = .ok (.iaload, 1) := by decide +kernel
theorem dX8_copied_23 : decode cX8_copied 23 = .ok (.iload 4, 2) := by decide +kernel
theorem dX8_copied_25 : decode cX8_copied 25 = .ok (.invokevirtual 156, 3) := by decide +kernel
theorem dX8_copied_28 : decode cX8_copied 28 = .ok (.istore 4, 2) := by decide +kernel
theorem dX8_copied_30 : decode cX8_copied 30 = .ok (.aload_n 0, 1) := by decide +kernel
theorem dX8_copied_31 : decode cX8_copied 31 = .ok (.aload_n 0, 1) := by decide +kernel
theorem dX8_copied_32 : decode cX8_copied 32 = .ok (.getfield 52, 3) := by decide +kernel
theorem dX8_copied_35 : decode cX8_copied 35 = .ok (.iload 6, 2) := by decide +kernel
theorem dX8_copied_37 : decode cX8_copied 37 = .ok (.iaload, 1) := by decide +kernel
theorem dX8_copied_38 : decode cX8_copied 38 = .ok (.iload 5, 2) := by decide +kernel
theorem dX8_copied_40 : decode cX8_copied 40 = .ok (.invokevirtual 159, 3) := by decide +kernel
theorem dX8_copied_43 : decode cX8_copied 43 = .ok (.istore 5, 2) := by decide +kernel
theorem dX8_copied_45 : decode cX8_copied 45 = .ok (.iinc 6 1, 3) := by decide +kernel
theorem dX8_copied_48 : decode cX8_copied 48 = .ok (.goto (-39), 3) := by decide +kernel
theorem dX8_copied_51 : decode cX8_copied 51 = .ok (.iload_n 3, 1) := by decide +kernel
theorem dX8_copied_52 : decode cX8_copied 52 = .ok (.ifCond .ne 8, 3) := by decide +kernel
theorem dX8_copied_55 : decode cX8_copied 55 = .ok (.iload 4, 2) := by decide +kernel
theorem dX8_copied_57 : decode cX8_copied 57 = .ok (.goto 18, 3) := by decide +kernel
theorem dX8_copied_60 : decode cX8_copied 60 = .ok (.iload_n 3, 1) := by decide +kernel
theorem dX8_copied_61 : decode cX8_copied 61 = .ok (.iconst 1, 1) := by decide +kernel
theorem dX8_copied_62 : decode cX8_copied 62 = .ok (.if_icmp .ne 8, 3) := by decide +kernel
theorem dX8_copied_65 : decode cX8_copied 65 = .ok (.iload 5, 2) := by decide +kernel
theorem dX8_copied_67 : decode cX8_copied 67 = .ok (.goto 8, 3) := by decide +kernel
theorem dX8_copied_70 : decode cX8_copied 70 = .ok (.iload 4, 2) := by decide +kernel
theorem dX8_copied_72 : decode cX8_copied 72 = .ok (.iload 5, 2) := by decide +kernel
theorem dX8_copied_74 : decode cX8_copied 74 = .ok (.isub, 1) := by decide +kernel
theorem dX8_copied_75 : decode cX8_copied 75 = .ok (.ireturn, 1) := by decide +kernel
theorem dX8_layRow_0 : decode cX8_layRow 0 = .ok (.iload_n 3, 1) := by decide +kernel
theorem dX8_layRow_1 : decode cX8_layRow 1 = .ok (.iconst 1, 1) := by decide +kernel
theorem dX8_layRow_2 : decode cX8_layRow 2 = .ok (.iconst 5, 1) := by decide +kernel
theorem dX8_layRow_3 : decode cX8_layRow 3 = .ok (.invokestatic 64, 3) := by decide +kernel
theorem dX8_layRow_6 : decode cX8_layRow 6 = .ok (.ifCond .ne 6, 3) := by decide +kernel
theorem dX8_layRow_9 : decode cX8_layRow 9 = .ok (.bipush (-2), 2) := by decide +kernel
theorem dX8_layRow_11 : decode cX8_layRow 11 = .ok (.ireturn, 1) := by decide +kernel
theorem dX8_layRow_12 : decode cX8_layRow 12 = .ok (.bipush 40, 2) := by decide +kernel
theorem dX8_layRow_14 : decode cX8_layRow 14 = .ok (.iload_n 1, 1) := by decide +kernel
theorem dX8_layRow_15 : decode cX8_layRow 15 = .ok (.imul, 1) := by decide +kernel
theorem dX8_layRow_16 : decode cX8_layRow 16 = .ok (.iload_n 2, 1) := by decide +kernel
theorem dX8_layRow_17 : decode cX8_layRow 17 = .ok (.iadd, 1) := by decide +kernel
theorem dX8_layRow_18 : decode cX8_layRow 18 = .ok (.istore 4, 2) := by decide +kernel
theorem dX8_layRow_20 : decode cX8_layRow 20 = .ok (.iconst 0, 1) := by decide +kernel
theorem dX8_layRow_21 : decode cX8_layRow 21 = .ok (.istore 5, 2) := by decide +kernel
theorem dX8_layRow_23 : decode cX8_layRow 23 = .ok (.iload 5, 2) := by decide +kernel
theorem dX8_layRow_25 : decode cX8_layRow 25 = .ok (.iload_n 3, 1) := by decide +kernel
theorem dX8_layRow_26 : decode cX8_layRow 26 = .ok (.if_icmp .ge 45, 3) := by decide +kernel
theorem dX8_layRow_29 : decode cX8_layRow 29 = .ok (.aload_n 0, 1) := by decide +kernel
theorem dX8_layRow_30 : decode cX8_layRow 30 = .ok (.aload_n 0, 1) := by decide +kernel
theorem dX8_layRow_31 : decode cX8_layRow 31 = .ok (.getfield 16, 3) := by decide +kernel
theorem dX8_layRow_34 : decode cX8_layRow 34 = .ok (.iload 4, 2) := by decide +kernel
theorem dX8_layRow_36 : decode cX8_layRow 36 = .ok (.iload 5, 2) := by decide +kernel
theorem dX8_layRow_38 : decode cX8_layRow 38 = .ok (.iadd, 1) := by decide +kernel
theorem dX8_layRow_39 : decode cX8_layRow 39 = .ok (.iaload, 1) := by decide +kernel
theorem dX8_layRow_40 : decode cX8_layRow 40 = .ok (.invokevirtual 107, 3) := by decide +kernel
theorem dX8_layRow_43 : decode cX8_layRow 43 = .ok (.ifCond .ne 5, 3) := by decide +kernel
theorem dX8_layRow_46 : decode cX8_layRow 46 = .ok (.iconst (-1), 1) := by decide +kernel
theorem dX8_layRow_47 : decode cX8_layRow 47 = .ok (.ireturn, 1) := by decide +kernel
theorem dX8_layRow_48 : decode cX8_layRow 48 = .ok (.aload_n 0, 1) := by decide +kernel
theorem dX8_layRow_49 : decode cX8_layRow 49 = .ok (.getfield 52, 3) := by decide +kernel
theorem dX8_layRow_52 : decode cX8_layRow 52 = .ok (.iload 5, 2) := by decide +kernel
theorem dX8_layRow_54 : decode cX8_layRow 54 = .ok (.aload_n 0, 1) := by decide +kernel
theorem dX8_layRow_55 : decode cX8_layRow 55 = .ok (.getfield 16, 3) := by decide +kernel
theorem dX8_layRow_58 : decode cX8_layRow 58 = .ok (.iload 4, 2) := by decide +kernel
theorem dX8_layRow_60 : decode cX8_layRow 60 = .ok (.iload 5, 2) := by decide +kernel
theorem dX8_layRow_62 : decode cX8_layRow 62 = .ok (.iadd, 1) := by decide +kernel
theorem dX8_layRow_63 : decode cX8_layRow 63 = .ok (.iaload, 1) := by decide +kernel
theorem dX8_layRow_64 : decode cX8_layRow 64 = .ok (.iastore, 1) := by decide +kernel
theorem dX8_layRow_65 : decode cX8_layRow 65 = .ok (.iinc 5 1, 3) := by decide +kernel
theorem dX8_layRow_68 : decode cX8_layRow 68 = .ok (.goto (-45), 3) := by decide +kernel
theorem dX8_layRow_71 : decode cX8_layRow 71 = .ok (.iconst 0, 1) := by decide +kernel
theorem dX8_layRow_72 : decode cX8_layRow 72 = .ok (.ireturn, 1) := by decide +kernel
theorem dX8_copies_0 : decode cX8_copies 0 = .ok (.aload_n 0, 1) := by decide +kernel
theorem dX8_copies_1 : decode cX8_copies 1 = .ok (.iconst 0, 1) := by decide +kernel
theorem dX8_copies_2 : decode cX8_copies 2 = .ok (.putfield 58, 3) := by decide +kernel
theorem dX8_copies_5 : decode cX8_copies 5 = .ok (.iload_n 2, 1) := by decide +kernel
theorem dX8_copies_6 : decode cX8_copies 6 = .ok (.invokestatic 71, 3) := by decide +kernel
theorem dX8_copies_9 : decode cX8_copies 9 = .ok (.ifCond .ne 5, 3) := by decide +kernel
theorem dX8_copies_12 : decode cX8_copies 12 = .ok (.iconst (-1), 1) := by decide +kernel
theorem dX8_copies_13 : decode cX8_copies 13 = .ok (.ireturn, 1) := by decide +kernel
theorem dX8_copies_14 : decode cX8_copies 14 = .ok (.iload_n 3, 1) := by decide +kernel
theorem dX8_copies_15 : decode cX8_copies 15 = .ok (.invokestatic 75, 3) := by decide +kernel
theorem dX8_copies_18 : decode cX8_copies 18 = .ok (.ifCond .eq 20, 3) := by decide +kernel
theorem dX8_copies_21 : decode cX8_copies 21 = .ok (.iload_n 1, 1) := by decide +kernel
theorem dX8_copies_22 : decode cX8_copies 22 = .ok (.invokestatic 104, 3) := by decide +kernel
theorem dX8_copies_25 : decode cX8_copies 25 = .ok (.ifCond .eq 13, 3) := by decide +kernel
theorem dX8_copies_28 : decode cX8_copies 28 = .ok (.iload 6, 2) := by decide +kernel
theorem dX8_copies_30 : decode cX8_copies 30 = .ok (.iconst 0, 1) := by decide +kernel
theorem dX8_copies_31 : decode cX8_copies 31 = .ok (.iconst 1, 1) := by decide +kernel
theorem dX8_copies_32 : decode cX8_copies 32 = .ok (.invokestatic 64, 3) := by decide +kernel
theorem dX8_copies_35 : decode cX8_copies 35 = .ok (.ifCond .ne 6, 3) := by decide +kernel
theorem dX8_copies_38 : decode cX8_copies 38 = .ok (.bipush (-2), 2) := by decide +kernel
theorem dX8_copies_40 : decode cX8_copies 40 = .ok (.ireturn, 1) := by decide +kernel
theorem dX8_copies_41 : decode cX8_copies 41 = .ok (.aload_n 0, 1) := by decide +kernel
theorem dX8_copies_42 : decode cX8_copies 42 = .ok (.iload_n 2, 1) := by decide +kernel
theorem dX8_copies_43 : decode cX8_copies 43 = .ok (.iload_n 3, 1) := by decide +kernel
theorem dX8_copies_44 : decode cX8_copies 44 = .ok (.iload 4, 2) := by decide +kernel
theorem dX8_copies_46 : decode cX8_copies 46 = .ok (.iload 5, 2) := by decide +kernel
theorem dX8_copies_48 : decode cX8_copies 48 = .ok (.invokevirtual 78, 3) := by decide +kernel
theorem dX8_copies_51 : decode cX8_copies 51 = .ok (.istore 7, 2) := by decide +kernel
theorem dX8_copies_53 : decode cX8_copies 53 = .ok (.iload 7, 2) := by decide +kernel
theorem dX8_copies_55 : decode cX8_copies 55 = .ok (.ifCond .eq 10, 3) := by decide +kernel
theorem dX8_copies_58 : decode cX8_copies 58 = .ok (.aload_n 0, 1) := by decide +kernel
theorem dX8_copies_59 : decode cX8_copies 59 = .ok (.iload 7, 2) := by decide +kernel
theorem dX8_copies_61 : decode cX8_copies 61 = .ok (.invokevirtual 82, 3) := by decide +kernel
theorem dX8_copies_64 : decode cX8_copies 64 = .ok (.ireturn, 1) := by decide +kernel
theorem dX8_copies_65 : decode cX8_copies 65 = .ok (.aload_n 0, 1) := by decide +kernel
theorem dX8_copies_66 : decode cX8_copies 66 = .ok (.iload_n 2, 1) := by decide +kernel
theorem dX8_copies_67 : decode cX8_copies 67 = .ok (.iload 4, 2) := by decide +kernel
theorem dX8_copies_69 : decode cX8_copies 69 = .ok (.iload 5, 2) := by decide +kernel
theorem dX8_copies_71 : decode cX8_copies 71 = .ok (.invokevirtual 162, 3) := by decide +kernel
theorem dX8_copies_74 : decode cX8_copies 74 = .ok (.istore 8, 2) := by decide +kernel
theorem dX8_copies_76 : decode cX8_copies 76 = .ok (.iload 8, 2) := by decide +kernel
theorem dX8_copies_78 : decode cX8_copies 78 = .ok (.ifCond .eq 8, 3) := by decide +kernel
theorem dX8_copies_81 : decode cX8_copies 81 = .ok (.iload 8, 2) := by decide +kernel
theorem dX8_copies_83 : decode cX8_copies 83 = .ok (.goto 12, 3) := by decide +kernel
theorem dX8_copies_86 : decode cX8_copies 86 = .ok (.aload_n 0, 1) := by decide +kernel
theorem dX8_copies_87 : decode cX8_copies 87 = .ok (.iload_n 1, 1) := by decide +kernel
theorem dX8_copies_88 : decode cX8_copies 88 = .ok (.iload 5, 2) := by decide +kernel
theorem dX8_copies_90 : decode cX8_copies 90 = .ok (.iload 6, 2) := by decide +kernel
theorem dX8_copies_92 : decode cX8_copies 92 = .ok (.invokevirtual 166, 3) := by decide +kernel
theorem dX8_copies_95 : decode cX8_copies 95 = .ok (.ireturn, 1) := by decide +kernel
theorem dX8_exchange_0 : decode cX8_exchange 0 = .ok (.aload_n 0, 1) := by decide +kernel
theorem dX8_exchange_1 : decode cX8_exchange 1 = .ok (.getfield 52, 3) := by decide +kernel
theorem dX8_exchange_4 : decode cX8_exchange 4 = .ok (.iload_n 1, 1) := by decide +kernel
theorem dX8_exchange_5 : decode cX8_exchange 5 = .ok (.iaload, 1) := by decide +kernel
theorem dX8_exchange_6 : decode cX8_exchange 6 = .ok (.istore_n 3, 1) := by decide +kernel
theorem dX8_exchange_7 : decode cX8_exchange 7 = .ok (.aload_n 0, 1) := by decide +kernel
theorem dX8_exchange_8 : decode cX8_exchange 8 = .ok (.getfield 52, 3) := by decide +kernel
theorem dX8_exchange_11 : decode cX8_exchange 11 = .ok (.iload_n 1, 1) := by decide +kernel
theorem dX8_exchange_12 : decode cX8_exchange 12 = .ok (.aload_n 0, 1) := by decide +kernel
theorem dX8_exchange_13 : decode cX8_exchange 13 = .ok (.getfield 52, 3) := by decide +kernel
theorem dX8_exchange_16 : decode cX8_exchange 16 = .ok (.iload_n 2, 1) := by decide +kernel
theorem dX8_exchange_17 : decode cX8_exchange 17 = .ok (.iaload, 1) := by decide +kernel
theorem dX8_exchange_18 : decode cX8_exchange 18 = .ok (.iastore, 1) := by decide +kernel
theorem dX8_exchange_19 : decode cX8_exchange 19 = .ok (.aload_n 0, 1) := by decide +kernel
theorem dX8_exchange_20 : decode cX8_exchange 20 = .ok (.getfield 52, 3) := by decide +kernel
theorem dX8_exchange_23 : decode cX8_exchange 23 = .ok (.iload_n 2, 1) := by decide +kernel
theorem dX8_exchange_24 : decode cX8_exchange 24 = .ok (.iload_n 3, 1) := by decide +kernel
theorem dX8_exchange_25 : decode cX8_exchange 25 = .ok (.iastore, 1) := by decide +kernel
theorem dX8_exchange_26 : decode cX8_exchange 26 = .ok (.return_, 1) := by decide +kernel
theorem dX8_nextRow_0 : decode cX8_nextRow 0 = .ok (.iload_n 1, 1) := by decide +kernel
theorem dX8_nextRow_1 : decode cX8_nextRow 1 = .ok (.iconst 2, 1) := by decide +kernel
theorem dX8_nextRow_2 : decode cX8_nextRow 2 = .ok (.isub, 1) := by decide +kernel
theorem dX8_nextRow_3 : decode cX8_nextRow 3 = .ok (.istore_n 2, 1) := by decide +kernel
theorem dX8_nextRow_4 : decode cX8_nextRow 4 = .ok (.iload_n 2, 1) := by decide +kernel
theorem dX8_nextRow_5 : decode cX8_nextRow 5 = .ok (.ifCond .lt 26, 3) := by decide +kernel
theorem dX8_nextRow_8 : decode cX8_nextRow 8 = .ok (.aload_n 0, 1) := by decide +kernel
theorem dX8_nextRow_9 : decode cX8_nextRow 9 = .ok (.getfield 52, 3) := by decide +kernel
theorem dX8_nextRow_12 : decode cX8_nextRow 12 = .ok (.iload_n 2, 1) := by decide +kernel
theorem dX8_nextRow_13 : decode cX8_nextRow 13 = .ok (.iaload, 1) := by decide +kernel
theorem dX8_nextRow_14 : decode cX8_nextRow 14 = .ok (.aload_n 0, 1) := by decide +kernel
theorem dX8_nextRow_15 : decode cX8_nextRow 15 = .ok (.getfield 52, 3) := by decide +kernel
theorem dX8_nextRow_18 : decode cX8_nextRow 18 = .ok (.iload_n 2, 1) := by decide +kernel
theorem dX8_nextRow_19 : decode cX8_nextRow 19 = .ok (.iconst 1, 1) := by decide +kernel
theorem dX8_nextRow_20 : decode cX8_nextRow 20 = .ok (.iadd, 1) := by decide +kernel
theorem dX8_nextRow_21 : decode cX8_nextRow 21 = .ok (.iaload, 1) := by decide +kernel
theorem dX8_nextRow_22 : decode cX8_nextRow 22 = .ok (.if_icmp .lt 9, 3) := by decide +kernel
theorem dX8_nextRow_25 : decode cX8_nextRow 25 = .ok (.iinc 2 (-1), 3) := by decide +kernel
theorem dX8_nextRow_28 : decode cX8_nextRow 28 = .ok (.goto (-24), 3) := by decide +kernel
theorem dX8_nextRow_31 : decode cX8_nextRow 31 = .ok (.iload_n 2, 1) := by decide +kernel
theorem dX8_nextRow_32 : decode cX8_nextRow 32 = .ok (.ifCond .ge 5, 3) := by decide +kernel
theorem dX8_nextRow_35 : decode cX8_nextRow 35 = .ok (.iconst 0, 1) := by decide +kernel
theorem dX8_nextRow_36 : decode cX8_nextRow 36 = .ok (.ireturn, 1) := by decide +kernel
theorem dX8_nextRow_37 : decode cX8_nextRow 37 = .ok (.iload_n 1, 1) := by decide +kernel
theorem dX8_nextRow_38 : decode cX8_nextRow 38 = .ok (.iconst 1, 1) := by decide +kernel
theorem dX8_nextRow_39 : decode cX8_nextRow 39 = .ok (.isub, 1) := by decide +kernel
theorem dX8_nextRow_40 : decode cX8_nextRow 40 = .ok (.istore_n 3, 1) := by decide +kernel
theorem dX8_nextRow_41 : decode cX8_nextRow 41 = .ok (.aload_n 0, 1) := by decide +kernel
theorem dX8_nextRow_42 : decode cX8_nextRow 42 = .ok (.getfield 52, 3) := by decide +kernel
theorem dX8_nextRow_45 : decode cX8_nextRow 45 = .ok (.iload_n 3, 1) := by decide +kernel
theorem dX8_nextRow_46 : decode cX8_nextRow 46 = .ok (.iaload, 1) := by decide +kernel
theorem dX8_nextRow_47 : decode cX8_nextRow 47 = .ok (.aload_n 0, 1) := by decide +kernel
theorem dX8_nextRow_48 : decode cX8_nextRow 48 = .ok (.getfield 52, 3) := by decide +kernel
theorem dX8_nextRow_51 : decode cX8_nextRow 51 = .ok (.iload_n 2, 1) := by decide +kernel
theorem dX8_nextRow_52 : decode cX8_nextRow 52 = .ok (.iaload, 1) := by decide +kernel
theorem dX8_nextRow_53 : decode cX8_nextRow 53 = .ok (.if_icmp .gt 9, 3) := by decide +kernel
theorem dX8_nextRow_56 : decode cX8_nextRow 56 = .ok (.iinc 3 (-1), 3) := by decide +kernel
theorem dX8_nextRow_59 : decode cX8_nextRow 59 = .ok (.goto (-18), 3) := by decide +kernel
theorem dX8_nextRow_62 : decode cX8_nextRow 62 = .ok (.aload_n 0, 1) := by decide +kernel
theorem dX8_nextRow_63 : decode cX8_nextRow 63 = .ok (.iload_n 2, 1) := by decide +kernel
theorem dX8_nextRow_64 : decode cX8_nextRow 64 = .ok (.iload_n 3, 1) := by decide +kernel
theorem dX8_nextRow_65 : decode cX8_nextRow 65 = .ok (.invokevirtual 169, 3) := by decide +kernel
theorem dX8_nextRow_68 : decode cX8_nextRow 68 = .ok (.iload_n 2, 1) := by decide +kernel
theorem dX8_nextRow_69 : decode cX8_nextRow 69 = .ok (.iconst 1, 1) := by decide +kernel
theorem dX8_nextRow_70 : decode cX8_nextRow 70 = .ok (.iadd, 1) := by decide +kernel
theorem dX8_nextRow_71 : decode cX8_nextRow 71 = .ok (.istore 4, 2) := by decide +kernel
theorem dX8_nextRow_73 : decode cX8_nextRow 73 = .ok (.iload_n 1, 1) := by decide +kernel
theorem dX8_nextRow_74 : decode cX8_nextRow 74 = .ok (.iconst 1, 1) := by decide +kernel
theorem dX8_nextRow_75 : decode cX8_nextRow 75 = .ok (.isub, 1) := by decide +kernel
theorem dX8_nextRow_76 : decode cX8_nextRow 76 = .ok (.istore 5, 2) := by decide +kernel
theorem dX8_nextRow_78 : decode cX8_nextRow 78 = .ok (.iload 4, 2) := by decide +kernel
theorem dX8_nextRow_80 : decode cX8_nextRow 80 = .ok (.iload 5, 2) := by decide +kernel
theorem dX8_nextRow_82 : decode cX8_nextRow 82 = .ok (.if_icmp .ge 20, 3) := by decide +kernel
theorem dX8_nextRow_85 : decode cX8_nextRow 85 = .ok (.aload_n 0, 1) := by decide +kernel
theorem dX8_nextRow_86 : decode cX8_nextRow 86 = .ok (.iload 4, 2) := by decide +kernel
theorem dX8_nextRow_88 : decode cX8_nextRow 88 = .ok (.iload 5, 2) := by decide +kernel
theorem dX8_nextRow_90 : decode cX8_nextRow 90 = .ok (.invokevirtual 169, 3) := by decide +kernel
theorem dX8_nextRow_93 : decode cX8_nextRow 93 = .ok (.iinc 4 1, 3) := by decide +kernel
theorem dX8_nextRow_96 : decode cX8_nextRow 96 = .ok (.iinc 5 (-1), 3) := by decide +kernel
theorem dX8_nextRow_99 : decode cX8_nextRow 99 = .ok (.goto (-21), 3) := by decide +kernel
theorem dX8_nextRow_102 : decode cX8_nextRow 102 = .ok (.iconst 1, 1) := by decide +kernel
theorem dX8_nextRow_103 : decode cX8_nextRow 103 = .ok (.ireturn, 1) := by decide +kernel
theorem dX8_findBestRow_0 : decode cX8_findBestRow 0 = .ok (.iconst 1, 1) := by decide +kernel
theorem dX8_findBestRow_1 : decode cX8_findBestRow 1 = .ok (.istore_n 3, 1) := by decide +kernel
theorem dX8_findBestRow_2 : decode cX8_findBestRow 2 = .ok (.iload_n 3, 1) := by decide +kernel
theorem dX8_findBestRow_3 : decode cX8_findBestRow 3 = .ok (.iload_n 2, 1) := by decide +kernel
theorem dX8_findBestRow_4 : decode cX8_findBestRow 4 = .ok (.if_icmp .ge 52, 3) := by decide +kernel
theorem dX8_findBestRow_7 : decode cX8_findBestRow 7 = .ok (.iload_n 3, 1) := by decide +kernel
theorem dX8_findBestRow_8 : decode cX8_findBestRow 8 = .ok (.istore 4, 2) := by decide +kernel
theorem dX8_findBestRow_10 : decode cX8_findBestRow 10 = .ok (.iload 4, 2) := by decide +kernel
theorem dX8_findBestRow_12 : decode cX8_findBestRow 12 = .ok (.ifCond .le 38, 3) := by decide +kernel
theorem dX8_findBestRow_15 : decode cX8_findBestRow 15 = .ok (.aload_n 0, 1) := by decide +kernel
theorem dX8_findBestRow_16 : decode cX8_findBestRow 16 = .ok (.getfield 52, 3) := by decide +kernel
theorem dX8_findBestRow_19 : decode cX8_findBestRow 19 = .ok (.iload 4, 2) := by decide +kernel
theorem dX8_findBestRow_21 : decode cX8_findBestRow 21 = .ok (.iaload, 1) := by decide +kernel
theorem dX8_findBestRow_22 : decode cX8_findBestRow 22 = .ok (.aload_n 0, 1) := by decide +kernel
theorem dX8_findBestRow_23 : decode cX8_findBestRow 23 = .ok (.getfield 52, 3) := by decide +kernel
theorem dX8_findBestRow_26 : decode cX8_findBestRow 26 = .ok (.iload 4, 2) := by decide +kernel
theorem dX8_findBestRow_28 : decode cX8_findBestRow 28 = .ok (.iconst 1, 1) := by decide +kernel
theorem dX8_findBestRow_29 : decode cX8_findBestRow 29 = .ok (.isub, 1) := by decide +kernel
theorem dX8_findBestRow_30 : decode cX8_findBestRow 30 = .ok (.iaload, 1) := by decide +kernel
theorem dX8_findBestRow_31 : decode cX8_findBestRow 31 = .ok (.if_icmp .ge 19, 3) := by decide +kernel
theorem dX8_findBestRow_34 : decode cX8_findBestRow 34 = .ok (.aload_n 0, 1) := by decide +kernel
theorem dX8_findBestRow_35 : decode cX8_findBestRow 35 = .ok (.iload 4, 2) := by decide +kernel
theorem dX8_findBestRow_37 : decode cX8_findBestRow 37 = .ok (.iload 4, 2) := by decide +kernel
theorem dX8_findBestRow_39 : decode cX8_findBestRow 39 = .ok (.iconst 1, 1) := by decide +kernel
theorem dX8_findBestRow_40 : decode cX8_findBestRow 40 = .ok (.isub, 1) := by decide +kernel
theorem dX8_findBestRow_41 : decode cX8_findBestRow 41 = .ok (.invokevirtual 169, 3) := by decide +kernel
theorem dX8_findBestRow_44 : decode cX8_findBestRow 44 = .ok (.iinc 4 (-1), 3) := by decide +kernel
theorem dX8_findBestRow_47 : decode cX8_findBestRow 47 = .ok (.goto (-37), 3) := by decide +kernel
theorem dX8_findBestRow_50 : decode cX8_findBestRow 50 = .ok (.iinc 3 1, 3) := by decide +kernel
theorem dX8_findBestRow_53 : decode cX8_findBestRow 53 = .ok (.goto (-51), 3) := by decide +kernel
theorem dX8_findBestRow_56 : decode cX8_findBestRow 56 = .ok (.bipush (-9), 2) := by decide +kernel
theorem dX8_findBestRow_58 : decode cX8_findBestRow 58 = .ok (.istore_n 3, 1) := by decide +kernel
theorem dX8_findBestRow_59 : decode cX8_findBestRow 59 = .ok (.iconst 1, 1) := by decide +kernel
theorem dX8_findBestRow_60 : decode cX8_findBestRow 60 = .ok (.istore 4, 2) := by decide +kernel
theorem dX8_findBestRow_62 : decode cX8_findBestRow 62 = .ok (.iload 4, 2) := by decide +kernel
theorem dX8_findBestRow_64 : decode cX8_findBestRow 64 = .ok (.ifCond .eq 66, 3) := by decide +kernel
theorem dX8_findBestRow_67 : decode cX8_findBestRow 67 = .ok (.aload_n 0, 1) := by decide +kernel
theorem dX8_findBestRow_68 : decode cX8_findBestRow 68 = .ok (.iload_n 1, 1) := by decide +kernel
theorem dX8_findBestRow_69 : decode cX8_findBestRow 69 = .ok (.iload_n 2, 1) := by decide +kernel
theorem dX8_findBestRow_70 : decode cX8_findBestRow 70 = .ok (.iconst 2, 1) := by decide +kernel
theorem dX8_findBestRow_71 : decode cX8_findBestRow 71 = .ok (.invokevirtual 166, 3) := by decide +kernel
theorem dX8_findBestRow_74 : decode cX8_findBestRow 74 = .ok (.istore 5, 2) := by decide +kernel
theorem dX8_findBestRow_76 : decode cX8_findBestRow 76 = .ok (.iload_n 3, 1) := by decide +kernel
theorem dX8_findBestRow_77 : decode cX8_findBestRow 77 = .ok (.bipush (-9), 2) := by decide +kernel
theorem dX8_findBestRow_79 : decode cX8_findBestRow 79 = .ok (.if_icmp .eq 9, 3) := by decide +kernel
theorem dX8_findBestRow_82 : decode cX8_findBestRow 82 = .ok (.iload 5, 2) := by decide +kernel
theorem dX8_findBestRow_84 : decode cX8_findBestRow 84 = .ok (.iload_n 3, 1) := by decide +kernel
theorem dX8_findBestRow_85 : decode cX8_findBestRow 85 = .ok (.if_icmp .ge 35, 3) := by decide +kernel
theorem dX8_findBestRow_88 : decode cX8_findBestRow 88 = .ok (.iload 5, 2) := by decide +kernel
theorem dX8_findBestRow_90 : decode cX8_findBestRow 90 = .ok (.istore_n 3, 1) := by decide +kernel
theorem dX8_findBestRow_91 : decode cX8_findBestRow 91 = .ok (.iconst 0, 1) := by decide +kernel
theorem dX8_findBestRow_92 : decode cX8_findBestRow 92 = .ok (.istore 6, 2) := by decide +kernel
theorem dX8_findBestRow_94 : decode cX8_findBestRow 94 = .ok (.iload 6, 2) := by decide +kernel
theorem dX8_findBestRow_96 : decode cX8_findBestRow 96 = .ok (.iload_n 2, 1) := by decide +kernel
theorem dX8_findBestRow_97 : decode cX8_findBestRow 97 = .ok (.if_icmp .ge 23, 3) := by decide +kernel
theorem dX8_findBestRow_100 : decode cX8_findBestRow 100 = .ok (.aload_n 0, 1) := by decide +kernel
theorem dX8_findBestRow_101 : decode cX8_findBestRow 101 = .ok (.getfield 55, 3) := by decide +kernel
theorem dX8_findBestRow_104 : decode cX8_findBestRow 104 = .ok (.iload 6, 2) := by decide +kernel
theorem dX8_findBestRow_106 : decode cX8_findBestRow 106 = .ok (.aload_n 0, 1) := by decide +kernel
theorem dX8_findBestRow_107 : decode cX8_findBestRow 107 = .ok (.getfield 52, 3) := by decide +kernel
theorem dX8_findBestRow_110 : decode cX8_findBestRow 110 = .ok (.iload 6, 2) := by decide +kernel
theorem dX8_findBestRow_112 : decode cX8_findBestRow 112 = .ok (.iaload, 1) := by decide +kernel
theorem dX8_findBestRow_113 : decode cX8_findBestRow 113 = .ok (.iastore, 1) := by decide +kernel
theorem dX8_findBestRow_114 : decode cX8_findBestRow 114 = .ok (.iinc 6 1, 3) := by decide +kernel
theorem dX8_findBestRow_117 : decode cX8_findBestRow 117 = .ok (.goto (-23), 3) := by decide +kernel
theorem dX8_findBestRow_120 : decode cX8_findBestRow 120 = .ok (.aload_n 0, 1) := by decide +kernel
theorem dX8_findBestRow_121 : decode cX8_findBestRow 121 = .ok (.iload_n 2, 1) := by decide +kernel
theorem dX8_findBestRow_122 : decode cX8_findBestRow 122 = .ok (.invokevirtual 172, 3) := by decide +kernel
theorem dX8_findBestRow_125 : decode cX8_findBestRow 125 = .ok (.istore 4, 2) := by decide +kernel
theorem dX8_findBestRow_127 : decode cX8_findBestRow 127 = .ok (.goto (-65), 3) := by decide +kernel
theorem dX8_findBestRow_130 : decode cX8_findBestRow 130 = .ok (.iload_n 3, 1) := by decide +kernel
theorem dX8_findBestRow_131 : decode cX8_findBestRow 131 = .ok (.ireturn, 1) := by decide +kernel
theorem dX8_bestRow_0 : decode cX8_bestRow 0 = .ok (.aload_n 0, 1) := by decide +kernel
theorem dX8_bestRow_1 : decode cX8_bestRow 1 = .ok (.iconst 0, 1) := by decide +kernel
theorem dX8_bestRow_2 : decode cX8_bestRow 2 = .ok (.putfield 58, 3) := by decide +kernel
theorem dX8_bestRow_5 : decode cX8_bestRow 5 = .ok (.iload_n 2, 1) := by decide +kernel
theorem dX8_bestRow_6 : decode cX8_bestRow 6 = .ok (.invokestatic 71, 3) := by decide +kernel
theorem dX8_bestRow_9 : decode cX8_bestRow 9 = .ok (.ifCond .ne 5, 3) := by decide +kernel
theorem dX8_bestRow_12 : decode cX8_bestRow 12 = .ok (.iconst (-1), 1) := by decide +kernel
theorem dX8_bestRow_13 : decode cX8_bestRow 13 = .ok (.ireturn, 1) := by decide +kernel
theorem dX8_bestRow_14 : decode cX8_bestRow 14 = .ok (.iload_n 3, 1) := by decide +kernel
theorem dX8_bestRow_15 : decode cX8_bestRow 15 = .ok (.invokestatic 75, 3) := by decide +kernel
theorem dX8_bestRow_18 : decode cX8_bestRow 18 = .ok (.ifCond .eq 10, 3) := by decide +kernel
theorem dX8_bestRow_21 : decode cX8_bestRow 21 = .ok (.iload_n 1, 1) := by decide +kernel
theorem dX8_bestRow_22 : decode cX8_bestRow 22 = .ok (.invokestatic 104, 3) := by decide +kernel
theorem dX8_bestRow_25 : decode cX8_bestRow 25 = .ok (.ifCond .ne 6, 3) := by decide +kernel
theorem dX8_bestRow_28 : decode cX8_bestRow 28 = .ok (.bipush (-2), 2) := by decide +kernel
theorem dX8_bestRow_30 : decode cX8_bestRow 30 = .ok (.ireturn, 1) := by decide +kernel
theorem dX8_bestRow_31 : decode cX8_bestRow 31 = .ok (.aload_n 0, 1) := by decide +kernel
theorem dX8_bestRow_32 : decode cX8_bestRow 32 = .ok (.iload_n 2, 1) := by decide +kernel
theorem dX8_bestRow_33 : decode cX8_bestRow 33 = .ok (.iload_n 3, 1) := by decide +kernel
theorem dX8_bestRow_34 : decode cX8_bestRow 34 = .ok (.iload 4, 2) := by decide +kernel
theorem dX8_bestRow_36 : decode cX8_bestRow 36 = .ok (.iload 5, 2) := by decide +kernel
theorem dX8_bestRow_38 : decode cX8_bestRow 38 = .ok (.invokevirtual 78, 3) := by decide +kernel
theorem dX8_bestRow_41 : decode cX8_bestRow 41 = .ok (.istore 7, 2) := by decide +kernel
theorem dX8_bestRow_43 : decode cX8_bestRow 43 = .ok (.iload 7, 2) := by decide +kernel
theorem dX8_bestRow_45 : decode cX8_bestRow 45 = .ok (.ifCond .eq 10, 3) := by decide +kernel
theorem dX8_bestRow_48 : decode cX8_bestRow 48 = .ok (.aload_n 0, 1) := by decide +kernel
theorem dX8_bestRow_49 : decode cX8_bestRow 49 = .ok (.iload 7, 2) := by decide +kernel
theorem dX8_bestRow_51 : decode cX8_bestRow 51 = .ok (.invokevirtual 82, 3) := by decide +kernel
theorem dX8_bestRow_54 : decode cX8_bestRow 54 = .ok (.ireturn, 1) := by decide +kernel
theorem dX8_bestRow_55 : decode cX8_bestRow 55 = .ok (.aload_n 0, 1) := by decide +kernel
theorem dX8_bestRow_56 : decode cX8_bestRow 56 = .ok (.iload_n 2, 1) := by decide +kernel
theorem dX8_bestRow_57 : decode cX8_bestRow 57 = .ok (.iload 4, 2) := by decide +kernel
theorem dX8_bestRow_59 : decode cX8_bestRow 59 = .ok (.iload 5, 2) := by decide +kernel
theorem dX8_bestRow_61 : decode cX8_bestRow 61 = .ok (.invokevirtual 162, 3) := by decide +kernel
theorem dX8_bestRow_64 : decode cX8_bestRow 64 = .ok (.istore 8, 2) := by decide +kernel
theorem dX8_bestRow_66 : decode cX8_bestRow 66 = .ok (.iload 8, 2) := by decide +kernel
theorem dX8_bestRow_68 : decode cX8_bestRow 68 = .ok (.ifCond .eq 6, 3) := by decide +kernel
theorem dX8_bestRow_71 : decode cX8_bestRow 71 = .ok (.iload 8, 2) := by decide +kernel
theorem dX8_bestRow_73 : decode cX8_bestRow 73 = .ok (.ireturn, 1) := by decide +kernel
theorem dX8_bestRow_74 : decode cX8_bestRow 74 = .ok (.iload 6, 2) := by decide +kernel
theorem dX8_bestRow_76 : decode cX8_bestRow 76 = .ok (.iconst (-1), 1) := by decide +kernel
theorem dX8_bestRow_77 : decode cX8_bestRow 77 = .ok (.iload 5, 2) := by decide +kernel
theorem dX8_bestRow_79 : decode cX8_bestRow 79 = .ok (.iconst 1, 1) := by decide +kernel
theorem dX8_bestRow_80 : decode cX8_bestRow 80 = .ok (.isub, 1) := by decide +kernel
theorem dX8_bestRow_81 : decode cX8_bestRow 81 = .ok (.invokestatic 64, 3) := by decide +kernel
theorem dX8_bestRow_84 : decode cX8_bestRow 84 = .ok (.ifCond .ne 5, 3) := by decide +kernel
theorem dX8_bestRow_87 : decode cX8_bestRow 87 = .ok (.iconst (-1), 1) := by decide +kernel
theorem dX8_bestRow_88 : decode cX8_bestRow 88 = .ok (.ireturn, 1) := by decide +kernel
theorem dX8_bestRow_89 : decode cX8_bestRow 89 = .ok (.aload_n 0, 1) := by decide +kernel
theorem dX8_bestRow_90 : decode cX8_bestRow 90 = .ok (.iload_n 1, 1) := by decide +kernel
theorem dX8_bestRow_91 : decode cX8_bestRow 91 = .ok (.iload 5, 2) := by decide +kernel
theorem dX8_bestRow_93 : decode cX8_bestRow 93 = .ok (.invokevirtual 175, 3) := by decide +kernel
theorem dX8_bestRow_96 : decode cX8_bestRow 96 = .ok (.istore 9, 2) := by decide +kernel
theorem dX8_bestRow_98 : decode cX8_bestRow 98 = .ok (.iload 6, 2) := by decide +kernel
theorem dX8_bestRow_100 : decode cX8_bestRow 100 = .ok (.iconst (-1), 1) := by decide +kernel
theorem dX8_bestRow_101 : decode cX8_bestRow 101 = .ok (.if_icmp .ne 8, 3) := by decide +kernel
theorem dX8_bestRow_104 : decode cX8_bestRow 104 = .ok (.iload 9, 2) := by decide +kernel
theorem dX8_bestRow_106 : decode cX8_bestRow 106 = .ok (.goto 10, 3) := by decide +kernel
theorem dX8_bestRow_109 : decode cX8_bestRow 109 = .ok (.aload_n 0, 1) := by decide +kernel
theorem dX8_bestRow_110 : decode cX8_bestRow 110 = .ok (.getfield 55, 3) := by decide +kernel
theorem dX8_bestRow_113 : decode cX8_bestRow 113 = .ok (.iload 6, 2) := by decide +kernel
theorem dX8_bestRow_115 : decode cX8_bestRow 115 = .ok (.iaload, 1) := by decide +kernel
theorem dX8_bestRow_116 : decode cX8_bestRow 116 = .ok (.ireturn, 1) := by decide +kernel
theorem dX8_sumOf_0 : decode cX8_sumOf 0 = .ok (.iconst 0, 1) := by decide +kernel
theorem dX8_sumOf_1 : decode cX8_sumOf 1 = .ok (.istore_n 2, 1) := by decide +kernel
theorem dX8_sumOf_2 : decode cX8_sumOf 2 = .ok (.iconst 0, 1) := by decide +kernel
theorem dX8_sumOf_3 : decode cX8_sumOf 3 = .ok (.istore_n 3, 1) := by decide +kernel
theorem dX8_sumOf_4 : decode cX8_sumOf 4 = .ok (.iload_n 3, 1) := by decide +kernel
theorem dX8_sumOf_5 : decode cX8_sumOf 5 = .ok (.aload_n 0, 1) := by decide +kernel
theorem dX8_sumOf_6 : decode cX8_sumOf 6 = .ok (.getfield 68, 3) := by decide +kernel
theorem dX8_sumOf_9 : decode cX8_sumOf 9 = .ok (.if_icmp .ge 31, 3) := by decide +kernel
theorem dX8_sumOf_12 : decode cX8_sumOf 12 = .ok (.iload_n 2, 1) := by decide +kernel
theorem dX8_sumOf_13 : decode cX8_sumOf 13 = .ok (.iload_n 1, 1) := by decide +kernel
theorem dX8_sumOf_14 : decode cX8_sumOf 14 = .ok (.iload_n 3, 1) := by decide +kernel
theorem dX8_sumOf_15 : decode cX8_sumOf 15 = .ok (.ishr, 1) := by decide +kernel
theorem dX8_sumOf_16 : decode cX8_sumOf 16 = .ok (.iconst 1, 1) := by decide +kernel
theorem dX8_sumOf_17 : decode cX8_sumOf 17 = .ok (.iand, 1) := by decide +kernel
theorem dX8_sumOf_18 : decode cX8_sumOf 18 = .ok (.iconst 1, 1) := by decide +kernel
theorem dX8_sumOf_19 : decode cX8_sumOf 19 = .ok (.if_icmp .ne 12, 3) := by decide +kernel
theorem dX8_sumOf_22 : decode cX8_sumOf 22 = .ok (.aload_n 0, 1) := by decide +kernel
theorem dX8_sumOf_23 : decode cX8_sumOf 23 = .ok (.getfield 19, 3) := by decide +kernel
theorem dX8_sumOf_26 : decode cX8_sumOf 26 = .ok (.iload_n 3, 1) := by decide +kernel
theorem dX8_sumOf_27 : decode cX8_sumOf 27 = .ok (.iaload, 1) := by decide +kernel
theorem dX8_sumOf_28 : decode cX8_sumOf 28 = .ok (.goto 4, 3) := by decide +kernel
theorem dX8_sumOf_31 : decode cX8_sumOf 31 = .ok (.iconst 0, 1) := by decide +kernel
theorem dX8_sumOf_32 : decode cX8_sumOf 32 = .ok (.iadd, 1) := by decide +kernel
theorem dX8_sumOf_33 : decode cX8_sumOf 33 = .ok (.istore_n 2, 1) := by decide +kernel
theorem dX8_sumOf_34 : decode cX8_sumOf 34 = .ok (.iinc 3 1, 3) := by decide +kernel
theorem dX8_sumOf_37 : decode cX8_sumOf 37 = .ok (.goto (-33), 3) := by decide +kernel
theorem dX8_sumOf_40 : decode cX8_sumOf 40 = .ok (.iload_n 2, 1) := by decide +kernel
theorem dX8_sumOf_41 : decode cX8_sumOf 41 = .ok (.ireturn, 1) := by decide +kernel
theorem dX8_areEven_0 : decode cX8_areEven 0 = .ok (.aload_n 0, 1) := by decide +kernel
theorem dX8_areEven_1 : decode cX8_areEven 1 = .ok (.iload_n 1, 1) := by decide +kernel
theorem dX8_areEven_2 : decode cX8_areEven 2 = .ok (.aload_n 0, 1) := by decide +kernel
theorem dX8_areEven_3 : decode cX8_areEven 3 = .ok (.iload_n 2, 1) := by decide +kernel
theorem dX8_areEven_4 : decode cX8_areEven 4 = .ok (.invokevirtual 178, 3) := by decide +kernel
theorem dX8_areEven_7 : decode cX8_areEven 7 = .ok (.aload_n 0, 1) := by decide +kernel
theorem dX8_areEven_8 : decode cX8_areEven 8 = .ok (.iload_n 3, 1) := by decide +kernel
theorem dX8_areEven_9 : decode cX8_areEven 9 = .ok (.invokevirtual 178, 3) := by decide +kernel
theorem dX8_areEven_12 : decode cX8_areEven 12 = .ok (.invokevirtual 113, 3) := by decide +kernel
theorem dX8_areEven_15 : decode cX8_areEven 15 = .ok (.ifCond .ne 25, 3) := by decide +kernel
theorem dX8_areEven_18 : decode cX8_areEven 18 = .ok (.aload_n 0, 1) := by decide +kernel
theorem dX8_areEven_19 : decode cX8_areEven 19 = .ok (.iload_n 1, 1) := by decide +kernel
theorem dX8_areEven_20 : decode cX8_areEven 20 = .ok (.aload_n 0, 1) := by decide +kernel
theorem dX8_areEven_21 : decode cX8_areEven 21 = .ok (.iload_n 3, 1) := by decide +kernel
theorem dX8_areEven_22 : decode cX8_areEven 22 = .ok (.invokevirtual 178, 3) := by decide +kernel
theorem dX8_areEven_25 : decode cX8_areEven 25 = .ok (.aload_n 0, 1) := by decide +kernel
theorem dX8_areEven_26 : decode cX8_areEven 26 = .ok (.iload_n 2, 1) := by decide +kernel
theorem dX8_areEven_27 : decode cX8_areEven 27 = .ok (.invokevirtual 178, 3) := by decide +kernel
theorem dX8_areEven_30 : decode cX8_areEven 30 = .ok (.invokevirtual 113, 3) := by decide +kernel
theorem dX8_areEven_33 : decode cX8_areEven 33 = .ok (.ifCond .ne 7, 3) := by decide +kernel
theorem dX8_areEven_36 : decode cX8_areEven 36 = .ok (.iconst 1, 1) := by decide +kernel
theorem dX8_areEven_37 : decode cX8_areEven 37 = .ok (.goto 4, 3) := by decide +kernel
theorem dX8_areEven_40 : decode cX8_areEven 40 = .ok (.iconst 0, 1) := by decide +kernel
theorem dX8_areEven_41 : decode cX8_areEven 41 = .ok (.ireturn, 1) := by decide +kernel
theorem dX8_even_0 : decode cX8_even 0 = .ok (.aload_n 0, 1) := by decide +kernel
theorem dX8_even_1 : decode cX8_even 1 = .ok (.iload_n 1, 1) := by decide +kernel
theorem dX8_even_2 : decode cX8_even 2 = .ok (.invokevirtual 107, 3) := by decide +kernel
theorem dX8_even_5 : decode cX8_even 5 = .ok (.ifCond .ne 5, 3) := by decide +kernel
theorem dX8_even_8 : decode cX8_even 8 = .ok (.iconst (-1), 1) := by decide +kernel
theorem dX8_even_9 : decode cX8_even 9 = .ok (.ireturn, 1) := by decide +kernel
theorem dX8_even_10 : decode cX8_even 10 = .ok (.iload_n 2, 1) := by decide +kernel
theorem dX8_even_11 : decode cX8_even 11 = .ok (.iconst 0, 1) := by decide +kernel
theorem dX8_even_12 : decode cX8_even 12 = .ok (.iconst 1, 1) := by decide +kernel
theorem dX8_even_13 : decode cX8_even 13 = .ok (.invokestatic 64, 3) := by decide +kernel
theorem dX8_even_16 : decode cX8_even 16 = .ok (.ifCond .ne 6, 3) := by decide +kernel
theorem dX8_even_19 : decode cX8_even 19 = .ok (.bipush (-2), 2) := by decide +kernel
theorem dX8_even_21 : decode cX8_even 21 = .ok (.ireturn, 1) := by decide +kernel
theorem dX8_even_22 : decode cX8_even 22 = .ok (.bipush (-9), 2) := by decide +kernel
theorem dX8_even_24 : decode cX8_even 24 = .ok (.istore_n 3, 1) := by decide +kernel
theorem dX8_even_25 : decode cX8_even 25 = .ok (.bipush (-9), 2) := by decide +kernel
theorem dX8_even_27 : decode cX8_even 27 = .ok (.istore 4, 2) := by decide +kernel
theorem dX8_even_29 : decode cX8_even 29 = .ok (.iconst 0, 1) := by decide +kernel
theorem dX8_even_30 : decode cX8_even 30 = .ok (.istore 5, 2) := by decide +kernel
theorem dX8_even_32 : decode cX8_even 32 = .ok (.iconst 1, 1) := by decide +kernel
theorem dX8_even_33 : decode cX8_even 33 = .ok (.istore 6, 2) := by decide +kernel
theorem dX8_even_35 : decode cX8_even 35 = .ok (.iload 6, 2) := by decide +kernel
theorem dX8_even_37 : decode cX8_even 37 = .ok (.iconst 1, 1) := by decide +kernel
theorem dX8_even_38 : decode cX8_even 38 = .ok (.aload_n 0, 1) := by decide +kernel
theorem dX8_even_39 : decode cX8_even 39 = .ok (.getfield 68, 3) := by decide +kernel
theorem dX8_even_42 : decode cX8_even 42 = .ok (.ishl, 1) := by decide +kernel
theorem dX8_even_43 : decode cX8_even 43 = .ok (.if_icmp .ge 88, 3) := by decide +kernel
theorem dX8_even_46 : decode cX8_even 46 = .ok (.iload 6, 2) := by decide +kernel
theorem dX8_even_48 : decode cX8_even 48 = .ok (.iconst 1, 1) := by decide +kernel
theorem dX8_even_49 : decode cX8_even 49 = .ok (.iadd, 1) := by decide +kernel
theorem dX8_even_50 : decode cX8_even 50 = .ok (.istore 7, 2) := by decide +kernel
theorem dX8_even_52 : decode cX8_even 52 = .ok (.iload 7, 2) := by decide +kernel
theorem dX8_even_54 : decode cX8_even 54 = .ok (.iconst 1, 1) := by decide +kernel
theorem dX8_even_55 : decode cX8_even 55 = .ok (.aload_n 0, 1) := by decide +kernel
theorem dX8_even_56 : decode cX8_even 56 = .ok (.getfield 68, 3) := by decide +kernel
theorem dX8_even_59 : decode cX8_even 59 = .ok (.ishl, 1) := by decide +kernel
theorem dX8_even_60 : decode cX8_even 60 = .ok (.if_icmp .ge 65, 3) := by decide +kernel
theorem dX8_even_63 : decode cX8_even 63 = .ok (.iload 6, 2) := by decide +kernel
theorem dX8_even_65 : decode cX8_even 65 = .ok (.iload 7, 2) := by decide +kernel
theorem dX8_even_67 : decode cX8_even 67 = .ok (.iand, 1) := by decide +kernel
theorem dX8_even_68 : decode cX8_even 68 = .ok (.ifCond .ne 51, 3) := by decide +kernel
theorem dX8_even_71 : decode cX8_even 71 = .ok (.iload 6, 2) := by decide +kernel
theorem dX8_even_73 : decode cX8_even 73 = .ok (.invokestatic 149, 3) := by decide +kernel
theorem dX8_even_76 : decode cX8_even 76 = .ok (.iload 7, 2) := by decide +kernel
theorem dX8_even_78 : decode cX8_even 78 = .ok (.invokestatic 149, 3) := by decide +kernel
theorem dX8_even_81 : decode cX8_even 81 = .ok (.iadd, 1) := by decide +kernel
theorem dX8_even_82 : decode cX8_even 82 = .ok (.iload 5, 2) := by decide +kernel
theorem dX8_even_84 : decode cX8_even 84 = .ok (.if_icmp .le 35, 3) := by decide +kernel
theorem dX8_even_87 : decode cX8_even 87 = .ok (.aload_n 0, 1) := by decide +kernel
theorem dX8_even_88 : decode cX8_even 88 = .ok (.iload_n 1, 1) := by decide +kernel
theorem dX8_even_89 : decode cX8_even 89 = .ok (.iload 6, 2) := by decide +kernel
theorem dX8_even_91 : decode cX8_even 91 = .ok (.iload 7, 2) := by decide +kernel
theorem dX8_even_93 : decode cX8_even 93 = .ok (.invokevirtual 181, 3) := by decide +kernel
theorem dX8_even_96 : decode cX8_even 96 = .ok (.ifCond .eq 23, 3) := by decide +kernel
theorem dX8_even_99 : decode cX8_even 99 = .ok (.iload 6, 2) := by decide +kernel
theorem dX8_even_101 : decode cX8_even 101 = .ok (.invokestatic 149, 3) := by decide +kernel
theorem dX8_even_104 : decode cX8_even 104 = .ok (.iload 7, 2) := by decide +kernel
theorem dX8_even_106 : decode cX8_even 106 = .ok (.invokestatic 149, 3) := by decide +kernel
theorem dX8_even_109 : decode cX8_even 109 = .ok (.iadd, 1) := by decide +kernel
theorem dX8_even_110 : decode cX8_even 110 = .ok (.istore 5, 2) := by decide +kernel
theorem dX8_even_112 : decode cX8_even 112 = .ok (.iload 6, 2) := by decide +kernel
theorem dX8_even_114 : decode cX8_even 114 = .ok (.istore_n 3, 1) := by decide +kernel
theorem dX8_even_115 : decode cX8_even 115 = .ok (.iload 7, 2) := by decide +kernel
theorem dX8_even_117 : decode cX8_even 117 = .ok (.istore 4, 2) := by decide +kernel
theorem dX8_even_119 : decode cX8_even 119 = .ok (.iinc 7 1, 3) := by decide +kernel
theorem dX8_even_122 : decode cX8_even 122 = .ok (.goto (-70), 3) := by decide +kernel
theorem dX8_even_125 : decode cX8_even 125 = .ok (.iinc 6 1, 3) := by decide +kernel
theorem dX8_even_128 : decode cX8_even 128 = .ok (.goto (-93), 3) := by decide +kernel
theorem dX8_even_131 : decode cX8_even 131 = .ok (.iload_n 2, 1) := by decide +kernel
theorem dX8_even_132 : decode cX8_even 132 = .ok (.ifCond .ne 7, 3) := by decide +kernel
theorem dX8_even_135 : decode cX8_even 135 = .ok (.iload_n 3, 1) := by decide +kernel
theorem dX8_even_136 : decode cX8_even 136 = .ok (.goto 5, 3) := by decide +kernel
theorem dX8_even_139 : decode cX8_even 139 = .ok (.iload 4, 2) := by decide +kernel
theorem dX8_even_141 : decode cX8_even 141 = .ok (.ireturn, 1) := by decide +kernel
theorem dX8_odds_0 : decode cX8_odds 0 = .ok (.aload_n 0, 1) := by decide +kernel
theorem dX8_odds_1 : decode cX8_odds 1 = .ok (.iload_n 1, 1) := by decide +kernel
theorem dX8_odds_2 : decode cX8_odds 2 = .ok (.invokevirtual 107, 3) := by decide +kernel
theorem dX8_odds_5 : decode cX8_odds 5 = .ok (.ifCond .eq 12, 3) := by decide +kernel
theorem dX8_odds_8 : decode cX8_odds 8 = .ok (.iload_n 2, 1) := by decide +kernel
theorem dX8_odds_9 : decode cX8_odds 9 = .ok (.iconst 0, 1) := by decide +kernel
theorem dX8_odds_10 : decode cX8_odds 10 = .ok (.iconst 1, 1) := by decide +kernel
theorem dX8_odds_11 : decode cX8_odds 11 = .ok (.invokestatic 64, 3) := by decide +kernel
theorem dX8_odds_14 : decode cX8_odds 14 = .ok (.ifCond .ne 7, 3) := by decide +kernel
theorem dX8_odds_17 : decode cX8_odds 17 = .ok (.ldc2_w 62, 3) := by decide +kernel
theorem dX8_odds_20 : decode cX8_odds 20 = .ok (.lreturn, 1) := by decide +kernel
theorem dX8_odds_21 : decode cX8_odds 21 = .ok (.iconst 0, 1) := by decide +kernel
theorem dX8_odds_22 : decode cX8_odds 22 = .ok (.istore_n 3, 1) := by decide +kernel
theorem dX8_odds_23 : decode cX8_odds 23 = .ok (.iconst 0, 1) := by decide +kernel
theorem dX8_odds_24 : decode cX8_odds 24 = .ok (.istore 4, 2) := by decide +kernel
theorem dX8_odds_26 : decode cX8_odds 26 = .ok (.iload 4, 2) := by decide +kernel
theorem dX8_odds_28 : decode cX8_odds 28 = .ok (.aload_n 0, 1) := by decide +kernel
theorem dX8_odds_29 : decode cX8_odds 29 = .ok (.getfield 68, 3) := by decide +kernel
theorem dX8_odds_32 : decode cX8_odds 32 = .ok (.if_icmp .ge 45, 3) := by decide +kernel
theorem dX8_odds_35 : decode cX8_odds 35 = .ok (.iconst 0, 1) := by decide +kernel
theorem dX8_odds_36 : decode cX8_odds 36 = .ok (.istore 5, 2) := by decide +kernel
theorem dX8_odds_38 : decode cX8_odds 38 = .ok (.iload 5, 2) := by decide +kernel
theorem dX8_odds_40 : decode cX8_odds 40 = .ok (.iload 4, 2) := by decide +kernel
theorem dX8_odds_42 : decode cX8_odds 42 = .ok (.if_icmp .ge 29, 3) := by decide +kernel
theorem dX8_odds_45 : decode cX8_odds 45 = .ok (.iload_n 3, 1) := by decide +kernel
theorem dX8_odds_46 : decode cX8_odds 46 = .ok (.aload_n 0, 1) := by decide +kernel
theorem dX8_odds_47 : decode cX8_odds 47 = .ok (.iload_n 1, 1) := by decide +kernel
theorem dX8_odds_48 : decode cX8_odds 48 = .ok (.iload 4, 2) := by decide +kernel
theorem dX8_odds_50 : decode cX8_odds 50 = .ok (.iload 5, 2) := by decide +kernel
theorem dX8_odds_52 : decode cX8_odds 52 = .ok (.invokevirtual 119, 3) := by decide +kernel
theorem dX8_odds_55 : decode cX8_odds 55 = .ok (.ifCond .eq 7, 3) := by decide +kernel
theorem dX8_odds_58 : decode cX8_odds 58 = .ok (.iconst 0, 1) := by decide +kernel
theorem dX8_odds_59 : decode cX8_odds 59 = .ok (.goto 4, 3) := by decide +kernel
theorem dX8_odds_62 : decode cX8_odds 62 = .ok (.iconst 1, 1) := by decide +kernel
theorem dX8_odds_63 : decode cX8_odds 63 = .ok (.iadd, 1) := by decide +kernel
theorem dX8_odds_64 : decode cX8_odds 64 = .ok (.istore_n 3, 1) := by decide +kernel
theorem dX8_odds_65 : decode cX8_odds 65 = .ok (.iinc 5 1, 3) := by decide +kernel
theorem dX8_odds_68 : decode cX8_odds 68 = .ok (.goto (-30), 3) := by decide +kernel
theorem dX8_odds_71 : decode cX8_odds 71 = .ok (.iinc 4 1, 3) := by decide +kernel
theorem dX8_odds_74 : decode cX8_odds 74 = .ok (.goto (-48), 3) := by decide +kernel
theorem dX8_odds_77 : decode cX8_odds 77 = .ok (.iload_n 3, 1) := by decide +kernel
theorem dX8_odds_78 : decode cX8_odds 78 = .ok (.i2l, 1) := by decide +kernel
theorem dX8_odds_79 : decode cX8_odds 79 = .ok (.aload_n 0, 1) := by decide +kernel
theorem dX8_odds_80 : decode cX8_odds 80 = .ok (.getfield 68, 3) := by decide +kernel
theorem dX8_odds_83 : decode cX8_odds 83 = .ok (.aload_n 0, 1) := by decide +kernel
theorem dX8_odds_84 : decode cX8_odds 84 = .ok (.getfield 68, 3) := by decide +kernel
theorem dX8_odds_87 : decode cX8_odds 87 = .ok (.iconst 1, 1) := by decide +kernel
theorem dX8_odds_88 : decode cX8_odds 88 = .ok (.isub, 1) := by decide +kernel
theorem dX8_odds_89 : decode cX8_odds 89 = .ok (.imul, 1) := by decide +kernel
theorem dX8_odds_90 : decode cX8_odds 90 = .ok (.iconst 2, 1) := by decide +kernel
theorem dX8_odds_91 : decode cX8_odds 91 = .ok (.idiv, 1) := by decide +kernel
theorem dX8_odds_92 : decode cX8_odds 92 = .ok (.i2l, 1) := by decide +kernel
theorem dX8_odds_93 : decode cX8_odds 93 = .ok (.iload_n 2, 1) := by decide +kernel
theorem dX8_odds_94 : decode cX8_odds 94 = .ok (.invokestatic 184, 3) := by decide +kernel
theorem dX8_odds_97 : decode cX8_odds 97 = .ok (.lreturn, 1) := by decide +kernel
theorem dX8_sheet_0 : decode cX8_sheet 0 = .ok (.aload_n 0, 1) := by decide +kernel
theorem dX8_sheet_1 : decode cX8_sheet 1 = .ok (.iconst 0, 1) := by decide +kernel
theorem dX8_sheet_2 : decode cX8_sheet 2 = .ok (.putfield 58, 3) := by decide +kernel
theorem dX8_sheet_5 : decode cX8_sheet 5 = .ok (.iload_n 1, 1) := by decide +kernel
theorem dX8_sheet_6 : decode cX8_sheet 6 = .ok (.invokestatic 71, 3) := by decide +kernel
theorem dX8_sheet_9 : decode cX8_sheet 9 = .ok (.ifCond .ne 5, 3) := by decide +kernel
theorem dX8_sheet_12 : decode cX8_sheet 12 = .ok (.iconst (-1), 1) := by decide +kernel
theorem dX8_sheet_13 : decode cX8_sheet 13 = .ok (.ireturn, 1) := by decide +kernel
theorem dX8_sheet_14 : decode cX8_sheet 14 = .ok (.iload_n 2, 1) := by decide +kernel
theorem dX8_sheet_15 : decode cX8_sheet 15 = .ok (.invokestatic 75, 3) := by decide +kernel
theorem dX8_sheet_18 : decode cX8_sheet 18 = .ok (.ifCond .eq 9, 3) := by decide +kernel
theorem dX8_sheet_21 : decode cX8_sheet 21 = .ok (.iload_n 3, 1) := by decide +kernel
theorem dX8_sheet_22 : decode cX8_sheet 22 = .ok (.bipush 40, 2) := by decide +kernel
theorem dX8_sheet_24 : decode cX8_sheet 24 = .ok (.if_icmp .le 6, 3) := by decide +kernel
theorem dX8_sheet_27 : decode cX8_sheet 27 = .ok (.bipush (-2), 2) := by decide +kernel
theorem dX8_sheet_29 : decode cX8_sheet 29 = .ok (.ireturn, 1) := by decide +kernel
theorem dX8_sheet_30 : decode cX8_sheet 30 = .ok (.iload_n 3, 1) := by decide +kernel
theorem dX8_sheet_31 : decode cX8_sheet 31 = .ok (.ifCond .ge 9, 3) := by decide +kernel
theorem dX8_sheet_34 : decode cX8_sheet 34 = .ok (.aload_n 0, 1) := by decide +kernel
theorem dX8_sheet_35 : decode cX8_sheet 35 = .ok (.iconst 4, 1) := by decide +kernel
theorem dX8_sheet_36 : decode cX8_sheet 36 = .ok (.invokevirtual 82, 3) := by decide +kernel
theorem dX8_sheet_39 : decode cX8_sheet 39 = .ok (.ireturn, 1) := by decide +kernel
theorem dX8_sheet_40 : decode cX8_sheet 40 = .ok (.aload_n 0, 1) := by decide +kernel
theorem dX8_sheet_41 : decode cX8_sheet 41 = .ok (.getfield 9, 3) := by decide +kernel
theorem dX8_sheet_44 : decode cX8_sheet 44 = .ok (.iload_n 1, 1) := by decide +kernel
theorem dX8_sheet_45 : decode cX8_sheet 45 = .ok (.iload_n 2, 1) := by decide +kernel
theorem dX8_sheet_46 : decode cX8_sheet 46 = .ok (.iastore, 1) := by decide +kernel
theorem dX8_sheet_47 : decode cX8_sheet 47 = .ok (.aload_n 0, 1) := by decide +kernel
theorem dX8_sheet_48 : decode cX8_sheet 48 = .ok (.getfield 13, 3) := by decide +kernel
theorem dX8_sheet_51 : decode cX8_sheet 51 = .ok (.iload_n 1, 1) := by decide +kernel
theorem dX8_sheet_52 : decode cX8_sheet 52 = .ok (.iload_n 3, 1) := by decide +kernel
theorem dX8_sheet_53 : decode cX8_sheet 53 = .ok (.iastore, 1) := by decide +kernel
theorem dX8_sheet_54 : decode cX8_sheet 54 = .ok (.iconst 0, 1) := by decide +kernel
theorem dX8_sheet_55 : decode cX8_sheet 55 = .ok (.istore 4, 2) := by decide +kernel
theorem dX8_sheet_57 : decode cX8_sheet 57 = .ok (.iload 4, 2) := by decide +kernel
theorem dX8_sheet_59 : decode cX8_sheet 59 = .ok (.bipush 40, 2) := by decide +kernel
theorem dX8_sheet_61 : decode cX8_sheet 61 = .ok (.if_icmp .ge 22, 3) := by decide +kernel
theorem dX8_sheet_64 : decode cX8_sheet 64 = .ok (.aload_n 0, 1) := by decide +kernel
theorem dX8_sheet_65 : decode cX8_sheet 65 = .ok (.getfield 16, 3) := by decide +kernel
theorem dX8_sheet_68 : decode cX8_sheet 68 = .ok (.bipush 40, 2) := by decide +kernel
theorem dX8_sheet_70 : decode cX8_sheet 70 = .ok (.iload_n 1, 1) := by decide +kernel
theorem dX8_sheet_71 : decode cX8_sheet 71 = .ok (.imul, 1) := by decide +kernel
theorem dX8_sheet_72 : decode cX8_sheet 72 = .ok (.iload 4, 2) := by decide +kernel
theorem dX8_sheet_74 : decode cX8_sheet 74 = .ok (.iadd, 1) := by decide +kernel
theorem dX8_sheet_75 : decode cX8_sheet 75 = .ok (.iconst 0, 1) := by decide +kernel
theorem dX8_sheet_76 : decode cX8_sheet 76 = .ok (.iastore, 1) := by decide +kernel
theorem dX8_sheet_77 : decode cX8_sheet 77 = .ok (.iinc 4 1, 3) := by decide +kernel
theorem dX8_sheet_80 : decode cX8_sheet 80 = .ok (.goto (-23), 3) := by decide +kernel
theorem dX8_sheet_83 : decode cX8_sheet 83 = .ok (.iconst 1, 1) := by decide +kernel
theorem dX8_sheet_84 : decode cX8_sheet 84 = .ok (.ireturn, 1) := by decide +kernel
theorem dX8_lose_0 : decode cX8_lose 0 = .ok (.iload_n 1, 1) := by decide +kernel
theorem dX8_lose_1 : decode cX8_lose 1 = .ok (.invokestatic 71, 3) := by decide +kernel
theorem dX8_lose_4 : decode cX8_lose 4 = .ok (.ifCond .ne 5, 3) := by decide +kernel
theorem dX8_lose_7 : decode cX8_lose 7 = .ok (.iconst (-1), 1) := by decide +kernel
theorem dX8_lose_8 : decode cX8_lose 8 = .ok (.ireturn, 1) := by decide +kernel
theorem dX8_lose_9 : decode cX8_lose 9 = .ok (.aload_n 0, 1) := by decide +kernel
theorem dX8_lose_10 : decode cX8_lose 10 = .ok (.getfield 9, 3) := by decide +kernel
theorem dX8_lose_13 : decode cX8_lose 13 = .ok (.iload_n 1, 1) := by decide +kernel
theorem dX8_lose_14 : decode cX8_lose 14 = .ok (.iaload, 1) := by decide +kernel
theorem dX8_lose_15 : decode cX8_lose 15 = .ok (.bipush (-9), 2) := by decide +kernel
theorem dX8_lose_17 : decode cX8_lose 17 = .ok (.if_icmp .ne 7, 3) := by decide +kernel
theorem dX8_lose_20 : decode cX8_lose 20 = .ok (.iconst 0, 1) := by decide +kernel
theorem dX8_lose_21 : decode cX8_lose 21 = .ok (.goto 4, 3) := by decide +kernel
theorem dX8_lose_24 : decode cX8_lose 24 = .ok (.iconst 1, 1) := by decide +kernel
theorem dX8_lose_25 : decode cX8_lose 25 = .ok (.istore_n 2, 1) := by decide +kernel
theorem dX8_lose_26 : decode cX8_lose 26 = .ok (.aload_n 0, 1) := by decide +kernel
theorem dX8_lose_27 : decode cX8_lose 27 = .ok (.getfield 9, 3) := by decide +kernel
theorem dX8_lose_30 : decode cX8_lose 30 = .ok (.iload_n 1, 1) := by decide +kernel
theorem dX8_lose_31 : decode cX8_lose 31 = .ok (.bipush (-9), 2) := by decide +kernel
theorem dX8_lose_33 : decode cX8_lose 33 = .ok (.iastore, 1) := by decide +kernel
theorem dX8_lose_34 : decode cX8_lose 34 = .ok (.iload_n 2, 1) := by decide +kernel
theorem dX8_lose_35 : decode cX8_lose 35 = .ok (.ireturn, 1) := by decide +kernel
theorem dX8_put_0 : decode cX8_put 0 = .ok (.aload_n 0, 1) := by decide +kernel
theorem dX8_put_1 : decode cX8_put 1 = .ok (.iconst 0, 1) := by decide +kernel
theorem dX8_put_2 : decode cX8_put 2 = .ok (.putfield 58, 3) := by decide +kernel
theorem dX8_put_5 : decode cX8_put 5 = .ok (.iload_n 1, 1) := by decide +kernel
theorem dX8_put_6 : decode cX8_put 6 = .ok (.invokestatic 71, 3) := by decide +kernel
theorem dX8_put_9 : decode cX8_put 9 = .ok (.ifCond .ne 5, 3) := by decide +kernel
theorem dX8_put_12 : decode cX8_put 12 = .ok (.iconst (-1), 1) := by decide +kernel
theorem dX8_put_13 : decode cX8_put 13 = .ok (.ireturn, 1) := by decide +kernel
theorem dX8_put_14 : decode cX8_put 14 = .ok (.aload_n 0, 1) := by decide +kernel
theorem dX8_put_15 : decode cX8_put 15 = .ok (.getfield 9, 3) := by decide +kernel
theorem dX8_put_18 : decode cX8_put 18 = .ok (.iload_n 1, 1) := by decide +kernel
theorem dX8_put_19 : decode cX8_put 19 = .ok (.iaload, 1) := by decide +kernel
theorem dX8_put_20 : decode cX8_put 20 = .ok (.bipush (-9), 2) := by decide +kernel
theorem dX8_put_22 : decode cX8_put 22 = .ok (.if_icmp .ne 9, 3) := by decide +kernel
theorem dX8_put_25 : decode cX8_put 25 = .ok (.aload_n 0, 1) := by decide +kernel
theorem dX8_put_26 : decode cX8_put 26 = .ok (.iconst 1, 1) := by decide +kernel
theorem dX8_put_27 : decode cX8_put 27 = .ok (.invokevirtual 82, 3) := by decide +kernel
theorem dX8_put_30 : decode cX8_put 30 = .ok (.ireturn, 1) := by decide +kernel
theorem dX8_put_31 : decode cX8_put 31 = .ok (.iload_n 2, 1) := by decide +kernel
theorem dX8_put_32 : decode cX8_put 32 = .ok (.iconst 0, 1) := by decide +kernel
theorem dX8_put_33 : decode cX8_put 33 = .ok (.aload_n 0, 1) := by decide +kernel
theorem dX8_put_34 : decode cX8_put 34 = .ok (.getfield 13, 3) := by decide +kernel
theorem dX8_put_37 : decode cX8_put 37 = .ok (.iload_n 1, 1) := by decide +kernel
theorem dX8_put_38 : decode cX8_put 38 = .ok (.iaload, 1) := by decide +kernel
theorem dX8_put_39 : decode cX8_put 39 = .ok (.iconst 1, 1) := by decide +kernel
theorem dX8_put_40 : decode cX8_put 40 = .ok (.isub, 1) := by decide +kernel
theorem dX8_put_41 : decode cX8_put 41 = .ok (.invokestatic 64, 3) := by decide +kernel
theorem dX8_put_44 : decode cX8_put 44 = .ok (.ifCond .ne 9, 3) := by decide +kernel
theorem dX8_put_47 : decode cX8_put 47 = .ok (.aload_n 0, 1) := by decide +kernel
theorem dX8_put_48 : decode cX8_put 48 = .ok (.iconst 3, 1) := by decide +kernel
theorem dX8_put_49 : decode cX8_put 49 = .ok (.invokevirtual 82, 3) := by decide +kernel
theorem dX8_put_52 : decode cX8_put 52 = .ok (.ireturn, 1) := by decide +kernel
theorem dX8_put_53 : decode cX8_put 53 = .ok (.aload_n 0, 1) := by decide +kernel
theorem dX8_put_54 : decode cX8_put 54 = .ok (.getfield 16, 3) := by decide +kernel
theorem dX8_put_57 : decode cX8_put 57 = .ok (.bipush 40, 2) := by decide +kernel
theorem dX8_put_59 : decode cX8_put 59 = .ok (.iload_n 1, 1) := by decide +kernel
theorem dX8_put_60 : decode cX8_put 60 = .ok (.imul, 1) := by decide +kernel
theorem dX8_put_61 : decode cX8_put 61 = .ok (.iload_n 2, 1) := by decide +kernel
theorem dX8_put_62 : decode cX8_put 62 = .ok (.iadd, 1) := by decide +kernel
theorem dX8_put_63 : decode cX8_put 63 = .ok (.aload_n 0, 1) := by decide +kernel
theorem dX8_put_64 : decode cX8_put 64 = .ok (.getfield 9, 3) := by decide +kernel
theorem dX8_put_67 : decode cX8_put 67 = .ok (.iload_n 1, 1) := by decide +kernel
theorem dX8_put_68 : decode cX8_put 68 = .ok (.iaload, 1) := by decide +kernel
theorem dX8_put_69 : decode cX8_put 69 = .ok (.ifCond .ne 8, 3) := by decide +kernel
theorem dX8_put_72 : decode cX8_put 72 = .ok (.iload_n 3, 1) := by decide +kernel
theorem dX8_put_73 : decode cX8_put 73 = .ok (.i2b, 1) := by decide +kernel
theorem dX8_put_74 : decode cX8_put 74 = .ok (.goto 19, 3) := by decide +kernel
theorem dX8_put_77 : decode cX8_put 77 = .ok (.aload_n 0, 1) := by decide +kernel
theorem dX8_put_78 : decode cX8_put 78 = .ok (.getfield 9, 3) := by decide +kernel
theorem dX8_put_81 : decode cX8_put 81 = .ok (.iload_n 1, 1) := by decide +kernel
theorem dX8_put_82 : decode cX8_put 82 = .ok (.iaload, 1) := by decide +kernel
theorem dX8_put_83 : decode cX8_put 83 = .ok (.iconst 1, 1) := by decide +kernel
theorem dX8_put_84 : decode cX8_put 84 = .ok (.if_icmp .ne 8, 3) := by decide +kernel
theorem dX8_put_87 : decode cX8_put 87 = .ok (.iload_n 3, 1) := by decide +kernel
theorem dX8_put_88 : decode cX8_put 88 = .ok (.i2s, 1) := by decide +kernel
theorem dX8_put_89 : decode cX8_put 89 = .ok (.goto 4, 3) := by decide +kernel
theorem dX8_put_92 : decode cX8_put 92 = .ok (.iload_n 3, 1) := by decide +kernel
theorem dX8_put_93 : decode cX8_put 93 = .ok (.iastore, 1) := by decide +kernel
theorem dX8_put_94 : decode cX8_put 94 = .ok (.iconst 1, 1) := by decide +kernel
theorem dX8_put_95 : decode cX8_put 95 = .ok (.ireturn, 1) := by decide +kernel
theorem dX8_cell_0 : decode cX8_cell 0 = .ok (.aload_n 0, 1) := by decide +kernel
theorem dX8_cell_1 : decode cX8_cell 1 = .ok (.iconst 0, 1) := by decide +kernel
theorem dX8_cell_2 : decode cX8_cell 2 = .ok (.putfield 58, 3) := by decide +kernel
theorem dX8_cell_5 : decode cX8_cell 5 = .ok (.iload_n 1, 1) := by decide +kernel
theorem dX8_cell_6 : decode cX8_cell 6 = .ok (.invokestatic 71, 3) := by decide +kernel
theorem dX8_cell_9 : decode cX8_cell 9 = .ok (.ifCond .eq 10, 3) := by decide +kernel
theorem dX8_cell_12 : decode cX8_cell 12 = .ok (.iload_n 3, 1) := by decide +kernel
theorem dX8_cell_13 : decode cX8_cell 13 = .ok (.invokestatic 75, 3) := by decide +kernel
theorem dX8_cell_16 : decode cX8_cell 16 = .ok (.ifCond .ne 7, 3) := by decide +kernel
theorem dX8_cell_19 : decode cX8_cell 19 = .ok (.ldc2_w 62, 3) := by decide +kernel
theorem dX8_cell_22 : decode cX8_cell 22 = .ok (.lreturn, 1) := by decide +kernel
theorem dX8_cell_23 : decode cX8_cell 23 = .ok (.aload_n 0, 1) := by decide +kernel
theorem dX8_cell_24 : decode cX8_cell 24 = .ok (.getfield 9, 3) := by decide +kernel
theorem dX8_cell_27 : decode cX8_cell 27 = .ok (.iload_n 1, 1) := by decide +kernel
theorem dX8_cell_28 : decode cX8_cell 28 = .ok (.iaload, 1) := by decide +kernel
theorem dX8_cell_29 : decode cX8_cell 29 = .ok (.bipush (-9), 2) := by decide +kernel
theorem dX8_cell_31 : decode cX8_cell 31 = .ok (.if_icmp .eq 19, 3) := by decide +kernel
theorem dX8_cell_34 : decode cX8_cell 34 = .ok (.aload_n 0, 1) := by decide +kernel
theorem dX8_cell_35 : decode cX8_cell 35 = .ok (.getfield 9, 3) := by decide +kernel
theorem dX8_cell_38 : decode cX8_cell 38 = .ok (.iload_n 1, 1) := by decide +kernel
theorem dX8_cell_39 : decode cX8_cell 39 = .ok (.iaload, 1) := by decide +kernel
theorem dX8_cell_40 : decode cX8_cell 40 = .ok (.iload_n 3, 1) := by decide +kernel
theorem dX8_cell_41 : decode cX8_cell 41 = .ok (.if_icmp .eq 9, 3) := by decide +kernel
theorem dX8_cell_44 : decode cX8_cell 44 = .ok (.aload_n 0, 1) := by decide +kernel
theorem dX8_cell_45 : decode cX8_cell 45 = .ok (.iconst 2, 1) := by decide +kernel
theorem dX8_cell_46 : decode cX8_cell 46 = .ok (.invokevirtual 188, 3) := by decide +kernel
theorem dX8_cell_49 : decode cX8_cell 49 = .ok (.lreturn, 1) := by decide +kernel
theorem dX8_cell_50 : decode cX8_cell 50 = .ok (.aload_n 0, 1) := by decide +kernel
theorem dX8_cell_51 : decode cX8_cell 51 = .ok (.getfield 9, 3) := by decide +kernel
theorem dX8_cell_54 : decode cX8_cell 54 = .ok (.iload_n 1, 1) := by decide +kernel
theorem dX8_cell_55 : decode cX8_cell 55 = .ok (.iaload, 1) := by decide +kernel
theorem dX8_cell_56 : decode cX8_cell 56 = .ok (.bipush (-9), 2) := by decide +kernel
theorem dX8_cell_58 : decode cX8_cell 58 = .ok (.if_icmp .ne 9, 3) := by decide +kernel
theorem dX8_cell_61 : decode cX8_cell 61 = .ok (.aload_n 0, 1) := by decide +kernel
theorem dX8_cell_62 : decode cX8_cell 62 = .ok (.iconst 1, 1) := by decide +kernel
theorem dX8_cell_63 : decode cX8_cell 63 = .ok (.invokevirtual 188, 3) := by decide +kernel
theorem dX8_cell_66 : decode cX8_cell 66 = .ok (.lreturn, 1) := by decide +kernel
theorem dX8_cell_67 : decode cX8_cell 67 = .ok (.iload_n 2, 1) := by decide +kernel
theorem dX8_cell_68 : decode cX8_cell 68 = .ok (.iconst 0, 1) := by decide +kernel
theorem dX8_cell_69 : decode cX8_cell 69 = .ok (.aload_n 0, 1) := by decide +kernel
theorem dX8_cell_70 : decode cX8_cell 70 = .ok (.getfield 13, 3) := by decide +kernel
theorem dX8_cell_73 : decode cX8_cell 73 = .ok (.iload_n 1, 1) := by decide +kernel
theorem dX8_cell_74 : decode cX8_cell 74 = .ok (.iaload, 1) := by decide +kernel
theorem dX8_cell_75 : decode cX8_cell 75 = .ok (.iconst 1, 1) := by decide +kernel
theorem dX8_cell_76 : decode cX8_cell 76 = .ok (.isub, 1) := by decide +kernel
theorem dX8_cell_77 : decode cX8_cell 77 = .ok (.invokestatic 64, 3) := by decide +kernel
theorem dX8_cell_80 : decode cX8_cell 80 = .ok (.ifCond .ne 9, 3) := by decide +kernel
theorem dX8_cell_83 : decode cX8_cell 83 = .ok (.aload_n 0, 1) := by decide +kernel
theorem dX8_cell_84 : decode cX8_cell 84 = .ok (.iconst 3, 1) := by decide +kernel
theorem dX8_cell_85 : decode cX8_cell 85 = .ok (.invokevirtual 188, 3) := by decide +kernel
theorem dX8_cell_88 : decode cX8_cell 88 = .ok (.lreturn, 1) := by decide +kernel
theorem dX8_cell_89 : decode cX8_cell 89 = .ok (.aload_n 0, 1) := by decide +kernel
theorem dX8_cell_90 : decode cX8_cell 90 = .ok (.getfield 16, 3) := by decide +kernel
theorem dX8_cell_93 : decode cX8_cell 93 = .ok (.bipush 40, 2) := by decide +kernel
theorem dX8_cell_95 : decode cX8_cell 95 = .ok (.iload_n 1, 1) := by decide +kernel
theorem dX8_cell_96 : decode cX8_cell 96 = .ok (.imul, 1) := by decide +kernel
theorem dX8_cell_97 : decode cX8_cell 97 = .ok (.iload_n 2, 1) := by decide +kernel
theorem dX8_cell_98 : decode cX8_cell 98 = .ok (.iadd, 1) := by decide +kernel
theorem dX8_cell_99 : decode cX8_cell 99 = .ok (.iaload, 1) := by decide +kernel
theorem dX8_cell_100 : decode cX8_cell 100 = .ok (.i2l, 1) := by decide +kernel
theorem dX8_cell_101 : decode cX8_cell 101 = .ok (.lreturn, 1) := by decide +kernel
theorem dX8_copy_0 : decode cX8_copy 0 = .ok (.aload_n 0, 1) := by decide +kernel
theorem dX8_copy_1 : decode cX8_copy 1 = .ok (.iconst 0, 1) := by decide +kernel
theorem dX8_copy_2 : decode cX8_copy 2 = .ok (.putfield 58, 3) := by decide +kernel
theorem dX8_copy_5 : decode cX8_copy 5 = .ok (.iload_n 1, 1) := by decide +kernel
theorem dX8_copy_6 : decode cX8_copy 6 = .ok (.invokestatic 71, 3) := by decide +kernel
theorem dX8_copy_9 : decode cX8_copy 9 = .ok (.ifCond .eq 10, 3) := by decide +kernel
theorem dX8_copy_12 : decode cX8_copy 12 = .ok (.iload_n 3, 1) := by decide +kernel
theorem dX8_copy_13 : decode cX8_copy 13 = .ok (.invokestatic 71, 3) := by decide +kernel
theorem dX8_copy_16 : decode cX8_copy 16 = .ok (.ifCond .ne 5, 3) := by decide +kernel
theorem dX8_copy_19 : decode cX8_copy 19 = .ok (.iconst (-1), 1) := by decide +kernel
theorem dX8_copy_20 : decode cX8_copy 20 = .ok (.ireturn, 1) := by decide +kernel
theorem dX8_copy_21 : decode cX8_copy 21 = .ok (.aload_n 0, 1) := by decide +kernel
theorem dX8_copy_22 : decode cX8_copy 22 = .ok (.getfield 9, 3) := by decide +kernel
theorem dX8_copy_25 : decode cX8_copy 25 = .ok (.iload_n 1, 1) := by decide +kernel
theorem dX8_copy_26 : decode cX8_copy 26 = .ok (.iaload, 1) := by decide +kernel
theorem dX8_copy_27 : decode cX8_copy 27 = .ok (.bipush (-9), 2) := by decide +kernel
theorem dX8_copy_29 : decode cX8_copy 29 = .ok (.if_icmp .eq 14, 3) := by decide +kernel
theorem dX8_copy_32 : decode cX8_copy 32 = .ok (.aload_n 0, 1) := by decide +kernel
theorem dX8_copy_33 : decode cX8_copy 33 = .ok (.getfield 9, 3) := by decide +kernel
theorem dX8_copy_36 : decode cX8_copy 36 = .ok (.iload_n 3, 1) := by decide +kernel
theorem dX8_copy_37 : decode cX8_copy 37 = .ok (.iaload, 1) := by decide +kernel
theorem dX8_copy_38 : decode cX8_copy 38 = .ok (.bipush (-9), 2) := by decide +kernel
theorem dX8_copy_40 : decode cX8_copy 40 = .ok (.if_icmp .ne 9, 3) := by decide +kernel
theorem dX8_copy_43 : decode cX8_copy 43 = .ok (.aload_n 0, 1) := by decide +kernel
theorem dX8_copy_44 : decode cX8_copy 44 = .ok (.iconst 1, 1) := by decide +kernel
theorem dX8_copy_45 : decode cX8_copy 45 = .ok (.invokevirtual 82, 3) := by decide +kernel
theorem dX8_copy_48 : decode cX8_copy 48 = .ok (.ireturn, 1) := by decide +kernel
theorem dX8_copy_49 : decode cX8_copy 49 = .ok (.aload_n 0, 1) := by decide +kernel
theorem dX8_copy_50 : decode cX8_copy 50 = .ok (.getfield 9, 3) := by decide +kernel
theorem dX8_copy_53 : decode cX8_copy 53 = .ok (.iload_n 1, 1) := by decide +kernel
theorem dX8_copy_54 : decode cX8_copy 54 = .ok (.iaload, 1) := by decide +kernel
theorem dX8_copy_55 : decode cX8_copy 55 = .ok (.aload_n 0, 1) := by decide +kernel
theorem dX8_copy_56 : decode cX8_copy 56 = .ok (.getfield 9, 3) := by decide +kernel
theorem dX8_copy_59 : decode cX8_copy 59 = .ok (.iload_n 3, 1) := by decide +kernel
theorem dX8_copy_60 : decode cX8_copy 60 = .ok (.iaload, 1) := by decide +kernel
theorem dX8_copy_61 : decode cX8_copy 61 = .ok (.if_icmp .eq 9, 3) := by decide +kernel
theorem dX8_copy_64 : decode cX8_copy 64 = .ok (.aload_n 0, 1) := by decide +kernel
theorem dX8_copy_65 : decode cX8_copy 65 = .ok (.iconst 2, 1) := by decide +kernel
theorem dX8_copy_66 : decode cX8_copy 66 = .ok (.invokevirtual 82, 3) := by decide +kernel
theorem dX8_copy_69 : decode cX8_copy 69 = .ok (.ireturn, 1) := by decide +kernel
theorem dX8_copy_70 : decode cX8_copy 70 = .ok (.iload_n 2, 1) := by decide +kernel
theorem dX8_copy_71 : decode cX8_copy 71 = .ok (.ifCond .lt 38, 3) := by decide +kernel
theorem dX8_copy_74 : decode cX8_copy 74 = .ok (.iload 4, 2) := by decide +kernel
theorem dX8_copy_76 : decode cX8_copy 76 = .ok (.ifCond .lt 33, 3) := by decide +kernel
theorem dX8_copy_79 : decode cX8_copy 79 = .ok (.iload 5, 2) := by decide +kernel
theorem dX8_copy_81 : decode cX8_copy 81 = .ok (.ifCond .lt 28, 3) := by decide +kernel
theorem dX8_copy_84 : decode cX8_copy 84 = .ok (.iload_n 2, 1) := by decide +kernel
theorem dX8_copy_85 : decode cX8_copy 85 = .ok (.aload_n 0, 1) := by decide +kernel
theorem dX8_copy_86 : decode cX8_copy 86 = .ok (.getfield 13, 3) := by decide +kernel
theorem dX8_copy_89 : decode cX8_copy 89 = .ok (.iload_n 1, 1) := by decide +kernel
theorem dX8_copy_90 : decode cX8_copy 90 = .ok (.iaload, 1) := by decide +kernel
theorem dX8_copy_91 : decode cX8_copy 91 = .ok (.if_icmp .gt 18, 3) := by decide +kernel
theorem dX8_copy_94 : decode cX8_copy 94 = .ok (.iload 4, 2) := by decide +kernel
theorem dX8_copy_96 : decode cX8_copy 96 = .ok (.aload_n 0, 1) := by decide +kernel
theorem dX8_copy_97 : decode cX8_copy 97 = .ok (.getfield 13, 3) := by decide +kernel
theorem dX8_copy_100 : decode cX8_copy 100 = .ok (.iload_n 3, 1) := by decide +kernel
theorem dX8_copy_101 : decode cX8_copy 101 = .ok (.iaload, 1) := by decide +kernel
theorem dX8_copy_102 : decode cX8_copy 102 = .ok (.if_icmp .gt 7, 3) := by decide +kernel
theorem dX8_copy_105 : decode cX8_copy 105 = .ok (.iconst 1, 1) := by decide +kernel
theorem dX8_copy_106 : decode cX8_copy 106 = .ok (.goto 4, 3) := by decide +kernel
theorem dX8_copy_109 : decode cX8_copy 109 = .ok (.iconst 0, 1) := by decide +kernel
theorem dX8_copy_110 : decode cX8_copy 110 = .ok (.istore 6, 2) := by decide +kernel
theorem dX8_copy_112 : decode cX8_copy 112 = .ok (.iload 6, 2) := by decide +kernel
theorem dX8_copy_114 : decode cX8_copy 114 = .ok (.ifCond .eq 30, 3) := by decide +kernel
theorem dX8_copy_117 : decode cX8_copy 117 = .ok (.iload 5, 2) := by decide +kernel
theorem dX8_copy_119 : decode cX8_copy 119 = .ok (.aload_n 0, 1) := by decide +kernel
theorem dX8_copy_120 : decode cX8_copy 120 = .ok (.getfield 13, 3) := by decide +kernel
theorem dX8_copy_123 : decode cX8_copy 123 = .ok (.iload_n 1, 1) := by decide +kernel
theorem dX8_copy_124 : decode cX8_copy 124 = .ok (.iaload, 1) := by decide +kernel
theorem dX8_copy_125 : decode cX8_copy 125 = .ok (.iload_n 2, 1) := by decide +kernel
theorem dX8_copy_126 : decode cX8_copy 126 = .ok (.isub, 1) := by decide +kernel
theorem dX8_copy_127 : decode cX8_copy 127 = .ok (.if_icmp .gt 17, 3) := by decide +kernel
theorem dX8_copy_130 : decode cX8_copy 130 = .ok (.iload 5, 2) := by decide +kernel
theorem dX8_copy_132 : decode cX8_copy 132 = .ok (.aload_n 0, 1) := by decide +kernel
theorem dX8_copy_133 : decode cX8_copy 133 = .ok (.getfield 13, 3) := by decide +kernel
theorem dX8_copy_136 : decode cX8_copy 136 = .ok (.iload_n 3, 1) := by decide +kernel
theorem dX8_copy_137 : decode cX8_copy 137 = .ok (.iaload, 1) := by decide +kernel
theorem dX8_copy_138 : decode cX8_copy 138 = .ok (.iload 4, 2) := by decide +kernel
theorem dX8_copy_140 : decode cX8_copy 140 = .ok (.isub, 1) := by decide +kernel
theorem dX8_copy_141 : decode cX8_copy 141 = .ok (.if_icmp .le 9, 3) := by decide +kernel
theorem dX8_copy_144 : decode cX8_copy 144 = .ok (.aload_n 0, 1) := by decide +kernel
theorem dX8_copy_145 : decode cX8_copy 145 = .ok (.iconst 3, 1) := by decide +kernel
theorem dX8_copy_146 : decode cX8_copy 146 = .ok (.invokevirtual 82, 3) := by decide +kernel
theorem dX8_copy_149 : decode cX8_copy 149 = .ok (.ireturn, 1) := by decide +kernel
theorem dX8_copy_150 : decode cX8_copy 150 = .ok (.iload_n 2, 1) := by decide +kernel
theorem dX8_copy_151 : decode cX8_copy 151 = .ok (.iload 4, 2) := by decide +kernel
theorem dX8_copy_153 : decode cX8_copy 153 = .ok (.if_icmp .ge 7, 3) := by decide +kernel
theorem dX8_copy_156 : decode cX8_copy 156 = .ok (.iconst 1, 1) := by decide +kernel
theorem dX8_copy_157 : decode cX8_copy 157 = .ok (.goto 4, 3) := by decide +kernel
theorem dX8_copy_160 : decode cX8_copy 160 = .ok (.iconst 0, 1) := by decide +kernel
theorem dX8_copy_161 : decode cX8_copy 161 = .ok (.istore 7, 2) := by decide +kernel
theorem dX8_copy_163 : decode cX8_copy 163 = .ok (.iconst 0, 1) := by decide +kernel
theorem dX8_copy_164 : decode cX8_copy 164 = .ok (.istore 8, 2) := by decide +kernel
theorem dX8_copy_166 : decode cX8_copy 166 = .ok (.iload 8, 2) := by decide +kernel
theorem dX8_copy_168 : decode cX8_copy 168 = .ok (.iload 5, 2) := by decide +kernel
theorem dX8_copy_170 : decode cX8_copy 170 = .ok (.if_icmp .ge 57, 3) := by decide +kernel
theorem dX8_copy_173 : decode cX8_copy 173 = .ok (.iload 7, 2) := by decide +kernel
theorem dX8_copy_175 : decode cX8_copy 175 = .ok (.ifCond .eq 13, 3) := by decide +kernel
theorem dX8_copy_178 : decode cX8_copy 178 = .ok (.iload 5, 2) := by decide +kernel
theorem dX8_copy_180 : decode cX8_copy 180 = .ok (.iconst 1, 1) := by decide +kernel
theorem dX8_copy_181 : decode cX8_copy 181 = .ok (.isub, 1) := by decide +kernel
theorem dX8_copy_182 : decode cX8_copy 182 = .ok (.iload 8, 2) := by decide +kernel
theorem dX8_copy_184 : decode cX8_copy 184 = .ok (.isub, 1) := by decide +kernel
theorem dX8_copy_185 : decode cX8_copy 185 = .ok (.goto 5, 3) := by decide +kernel
theorem dX8_copy_188 : decode cX8_copy 188 = .ok (.iload 8, 2) := by decide +kernel
theorem dX8_copy_190 : decode cX8_copy 190 = .ok (.istore 9, 2) := by decide +kernel
theorem dX8_copy_192 : decode cX8_copy 192 = .ok (.aload_n 0, 1) := by decide +kernel
theorem dX8_copy_193 : decode cX8_copy 193 = .ok (.getfield 16, 3) := by decide +kernel
theorem dX8_copy_196 : decode cX8_copy 196 = .ok (.bipush 40, 2) := by decide +kernel
theorem dX8_copy_198 : decode cX8_copy 198 = .ok (.iload_n 3, 1) := by decide +kernel
theorem dX8_copy_199 : decode cX8_copy 199 = .ok (.imul, 1) := by decide +kernel
theorem dX8_copy_200 : decode cX8_copy 200 = .ok (.iload 4, 2) := by decide +kernel
theorem dX8_copy_202 : decode cX8_copy 202 = .ok (.iadd, 1) := by decide +kernel
theorem dX8_copy_203 : decode cX8_copy 203 = .ok (.iload 9, 2) := by decide +kernel
theorem dX8_copy_205 : decode cX8_copy 205 = .ok (.iadd, 1) := by decide +kernel
theorem dX8_copy_206 : decode cX8_copy 206 = .ok (.aload_n 0, 1) := by decide +kernel
theorem dX8_copy_207 : decode cX8_copy 207 = .ok (.getfield 16, 3) := by decide +kernel
theorem dX8_copy_210 : decode cX8_copy 210 = .ok (.bipush 40, 2) := by decide +kernel
theorem dX8_copy_212 : decode cX8_copy 212 = .ok (.iload_n 1, 1) := by decide +kernel
theorem dX8_copy_213 : decode cX8_copy 213 = .ok (.imul, 1) := by decide +kernel
theorem dX8_copy_214 : decode cX8_copy 214 = .ok (.iload_n 2, 1) := by decide +kernel
theorem dX8_copy_215 : decode cX8_copy 215 = .ok (.iadd, 1) := by decide +kernel
theorem dX8_copy_216 : decode cX8_copy 216 = .ok (.iload 9, 2) := by decide +kernel
theorem dX8_copy_218 : decode cX8_copy 218 = .ok (.iadd, 1) := by decide +kernel
theorem dX8_copy_219 : decode cX8_copy 219 = .ok (.iaload, 1) := by decide +kernel
theorem dX8_copy_220 : decode cX8_copy 220 = .ok (.iastore, 1) := by decide +kernel
theorem dX8_copy_221 : decode cX8_copy 221 = .ok (.iinc 8 1, 3) := by decide +kernel
theorem dX8_copy_224 : decode cX8_copy 224 = .ok (.goto (-58), 3) := by decide +kernel
theorem dX8_copy_227 : decode cX8_copy 227 = .ok (.iload 5, 2) := by decide +kernel
theorem dX8_copy_229 : decode cX8_copy 229 = .ok (.ireturn, 1) := by decide +kernel
theorem dX8_begins_0 : decode cX8_begins 0 = .ok (.aload_n 0, 1) := by decide +kernel
theorem dX8_begins_1 : decode cX8_begins 1 = .ok (.bipush 31, 2) := by decide +kernel
theorem dX8_begins_3 : decode cX8_begins 3 = .ok (.aload_n 0, 1) := by decide +kernel
theorem dX8_begins_4 : decode cX8_begins 4 = .ok (.getfield 192, 3) := by decide +kernel
theorem dX8_begins_7 : decode cX8_begins 7 = .ok (.imul, 1) := by decide +kernel
theorem dX8_begins_8 : decode cX8_begins 8 = .ok (.iload_n 1, 1) := by decide +kernel
theorem dX8_begins_9 : decode cX8_begins 9 = .ok (.iadd, 1) := by decide +kernel
theorem dX8_begins_10 : decode cX8_begins 10 = .ok (.putfield 192, 3) := by decide +kernel
theorem dX8_begins_13 : decode cX8_begins 13 = .ok (.return_, 1) := by decide +kernel
theorem dX8_tell_0 : decode cX8_tell 0 = .ok (.aload_n 0, 1) := by decide +kernel
theorem dX8_tell_1 : decode cX8_tell 1 = .ok (.iload_n 1, 1) := by decide +kernel
theorem dX8_tell_2 : decode cX8_tell 2 = .ok (.invokevirtual 107, 3) := by decide +kernel
theorem dX8_tell_5 : decode cX8_tell 5 = .ok (.ifCond .ne 5, 3) := by decide +kernel
theorem dX8_tell_8 : decode cX8_tell 8 = .ok (.iconst (-1), 1) := by decide +kernel
theorem dX8_tell_9 : decode cX8_tell 9 = .ok (.ireturn, 1) := by decide +kernel
theorem dX8_tell_10 : decode cX8_tell 10 = .ok (.aload_n 0, 1) := by decide +kernel
theorem dX8_tell_11 : decode cX8_tell 11 = .ok (.getfield 28, 3) := by decide +kernel
theorem dX8_tell_14 : decode cX8_tell 14 = .ok (.iload_n 1, 1) := by decide +kernel
theorem dX8_tell_15 : decode cX8_tell 15 = .ok (.iaload, 1) := by decide +kernel
theorem dX8_tell_16 : decode cX8_tell 16 = .ok (.istore_n 2, 1) := by decide +kernel
theorem dX8_tell_17 : decode cX8_tell 17 = .ok (.aload_n 0, 1) := by decide +kernel
theorem dX8_tell_18 : decode cX8_tell 18 = .ok (.getfield 25, 3) := by decide +kernel
theorem dX8_tell_21 : decode cX8_tell 21 = .ok (.iload_n 1, 1) := by decide +kernel
theorem dX8_tell_22 : decode cX8_tell 22 = .ok (.iaload, 1) := by decide +kernel
theorem dX8_tell_23 : decode cX8_tell 23 = .ok (.lookupswitch 67 #[(1, 25), (2, 40)], 25) := by decide +kernel
theorem dX8_tell_48 : decode cX8_tell 48 = .ok (.aload_n 0, 1) := by decide +kernel
theorem dX8_tell_49 : decode cX8_tell 49 = .ok (.iconst 2, 1) := by decide +kernel
theorem dX8_tell_50 : decode cX8_tell 50 = .ok (.invokevirtual 195, 3) := by decide +kernel
theorem dX8_tell_53 : decode cX8_tell 53 = .ok (.aload_n 0, 1) := by decide +kernel
theorem dX8_tell_54 : decode cX8_tell 54 = .ok (.iconst 1, 1) := by decide +kernel
theorem dX8_tell_55 : decode cX8_tell 55 = .ok (.invokevirtual 195, 3) := by decide +kernel
theorem dX8_tell_58 : decode cX8_tell 58 = .ok (.iload_n 2, 1) := by decide +kernel
theorem dX8_tell_59 : decode cX8_tell 59 = .ok (.bipush 100, 2) := by decide +kernel
theorem dX8_tell_61 : decode cX8_tell 61 = .ok (.iadd, 1) := by decide +kernel
theorem dX8_tell_62 : decode cX8_tell 62 = .ok (.ireturn, 1) := by decide +kernel
theorem dX8_tell_63 : decode cX8_tell 63 = .ok (.aload_n 0, 1) := by decide +kernel
theorem dX8_tell_64 : decode cX8_tell 64 = .ok (.iconst 3, 1) := by decide +kernel
theorem dX8_tell_65 : decode cX8_tell 65 = .ok (.invokevirtual 195, 3) := by decide +kernel
theorem dX8_tell_68 : decode cX8_tell 68 = .ok (.aload_n 0, 1) := by decide +kernel
theorem dX8_tell_69 : decode cX8_tell 69 = .ok (.iconst 2, 1) := by decide +kernel
theorem dX8_tell_70 : decode cX8_tell 70 = .ok (.invokevirtual 195, 3) := by decide +kernel
theorem dX8_tell_73 : decode cX8_tell 73 = .ok (.aload_n 0, 1) := by decide +kernel
theorem dX8_tell_74 : decode cX8_tell 74 = .ok (.iconst 1, 1) := by decide +kernel
theorem dX8_tell_75 : decode cX8_tell 75 = .ok (.invokevirtual 195, 3) := by decide +kernel
theorem dX8_tell_78 : decode cX8_tell 78 = .ok (.aload_n 0, 1) := by decide +kernel
theorem dX8_tell_79 : decode cX8_tell 79 = .ok (.iconst 1, 1) := by decide +kernel
theorem dX8_tell_80 : decode cX8_tell 80 = .ok (.invokevirtual 195, 3) := by decide +kernel
theorem dX8_tell_83 : decode cX8_tell 83 = .ok (.iconst 2, 1) := by decide +kernel
theorem dX8_tell_84 : decode cX8_tell 84 = .ok (.iload_n 2, 1) := by decide +kernel
theorem dX8_tell_85 : decode cX8_tell 85 = .ok (.imul, 1) := by decide +kernel
theorem dX8_tell_86 : decode cX8_tell 86 = .ok (.bipush 100, 2) := by decide +kernel
theorem dX8_tell_88 : decode cX8_tell 88 = .ok (.iadd, 1) := by decide +kernel
theorem dX8_tell_89 : decode cX8_tell 89 = .ok (.ireturn, 1) := by decide +kernel
theorem dX8_tell_90 : decode cX8_tell 90 = .ok (.aload_n 0, 1) := by decide +kernel
theorem dX8_tell_91 : decode cX8_tell 91 = .ok (.iconst 1, 1) := by decide +kernel
theorem dX8_tell_92 : decode cX8_tell 92 = .ok (.invokevirtual 195, 3) := by decide +kernel
theorem dX8_tell_95 : decode cX8_tell 95 = .ok (.iload_n 2, 1) := by decide +kernel
theorem dX8_tell_96 : decode cX8_tell 96 = .ok (.ireturn, 1) := by decide +kernel
theorem dX8_shake_0 : decode cX8_shake 0 = .ok (.aload_n 0, 1) := by decide +kernel
theorem dX8_shake_1 : decode cX8_shake 1 = .ok (.iload_n 1, 1) := by decide +kernel
theorem dX8_shake_2 : decode cX8_shake 2 = .ok (.invokevirtual 107, 3) := by decide +kernel
theorem dX8_shake_5 : decode cX8_shake 5 = .ok (.ifCond .ne 5, 3) := by decide +kernel
theorem dX8_shake_8 : decode cX8_shake 8 = .ok (.iconst (-1), 1) := by decide +kernel
theorem dX8_shake_9 : decode cX8_shake 9 = .ok (.ireturn, 1) := by decide +kernel
theorem dX8_shake_10 : decode cX8_shake 10 = .ok (.aload_n 0, 1) := by decide +kernel
theorem dX8_shake_11 : decode cX8_shake 11 = .ok (.aload_n 0, 1) := by decide +kernel
theorem dX8_shake_12 : decode cX8_shake 12 = .ok (.getfield 25, 3) := by decide +kernel
theorem dX8_shake_15 : decode cX8_shake 15 = .ok (.iload_n 1, 1) := by decide +kernel
theorem dX8_shake_16 : decode cX8_shake 16 = .ok (.iaload, 1) := by decide +kernel
theorem dX8_shake_17 : decode cX8_shake 17 = .ok (.iconst 2, 1) := by decide +kernel
theorem dX8_shake_18 : decode cX8_shake 18 = .ok (.if_icmp .ne 7, 3) := by decide +kernel
theorem dX8_shake_21 : decode cX8_shake 21 = .ok (.iconst 5, 1) := by decide +kernel
theorem dX8_shake_22 : decode cX8_shake 22 = .ok (.goto 4, 3) := by decide +kernel
theorem dX8_shake_25 : decode cX8_shake 25 = .ok (.iconst 4, 1) := by decide +kernel
theorem dX8_shake_26 : decode cX8_shake 26 = .ok (.invokevirtual 195, 3) := by decide +kernel
theorem dX8_shake_29 : decode cX8_shake 29 = .ok (.aload_n 0, 1) := by decide +kernel
theorem dX8_shake_30 : decode cX8_shake 30 = .ok (.getfield 25, 3) := by decide +kernel
theorem dX8_shake_33 : decode cX8_shake 33 = .ok (.iload_n 1, 1) := by decide +kernel
theorem dX8_shake_34 : decode cX8_shake 34 = .ok (.iaload, 1) := by decide +kernel
theorem dX8_shake_35 : decode cX8_shake 35 = .ok (.iconst 2, 1) := by decide +kernel
theorem dX8_shake_36 : decode cX8_shake 36 = .ok (.if_icmp .ne 8, 3) := by decide +kernel
theorem dX8_shake_39 : decode cX8_shake 39 = .ok (.bipush 60, 2) := by decide +kernel
theorem dX8_shake_41 : decode cX8_shake 41 = .ok (.goto 4, 3) := by decide +kernel
theorem dX8_shake_44 : decode cX8_shake 44 = .ok (.iload_n 1, 1) := by decide +kernel
theorem dX8_shake_45 : decode cX8_shake 45 = .ok (.ireturn, 1) := by decide +kernel
theorem dX8_as_0 : decode cX8_as 0 = .ok (.aload_n 0, 1) := by decide +kernel
theorem dX8_as_1 : decode cX8_as 1 = .ok (.iconst 0, 1) := by decide +kernel
theorem dX8_as_2 : decode cX8_as 2 = .ok (.putfield 58, 3) := by decide +kernel
theorem dX8_as_5 : decode cX8_as 5 = .ok (.aload_n 0, 1) := by decide +kernel
theorem dX8_as_6 : decode cX8_as 6 = .ok (.iload_n 1, 1) := by decide +kernel
theorem dX8_as_7 : decode cX8_as 7 = .ok (.invokevirtual 107, 3) := by decide +kernel
theorem dX8_as_10 : decode cX8_as 10 = .ok (.ifCond .ne 5, 3) := by decide +kernel
theorem dX8_as_13 : decode cX8_as 13 = .ok (.iconst (-1), 1) := by decide +kernel
theorem dX8_as_14 : decode cX8_as 14 = .ok (.ireturn, 1) := by decide +kernel
theorem dX8_as_15 : decode cX8_as 15 = .ok (.iload_n 2, 1) := by decide +kernel
theorem dX8_as_16 : decode cX8_as 16 = .ok (.iconst 0, 1) := by decide +kernel
theorem dX8_as_17 : decode cX8_as 17 = .ok (.iconst 2, 1) := by decide +kernel
theorem dX8_as_18 : decode cX8_as 18 = .ok (.invokestatic 64, 3) := by decide +kernel
theorem dX8_as_21 : decode cX8_as 21 = .ok (.ifCond .ne 6, 3) := by decide +kernel
theorem dX8_as_24 : decode cX8_as 24 = .ok (.bipush (-2), 2) := by decide +kernel
theorem dX8_as_26 : decode cX8_as 26 = .ok (.ireturn, 1) := by decide +kernel
theorem dX8_as_27 : decode cX8_as 27 = .ok (.aload_n 0, 1) := by decide +kernel
theorem dX8_as_28 : decode cX8_as 28 = .ok (.getfield 25, 3) := by decide +kernel
theorem dX8_as_31 : decode cX8_as 31 = .ok (.iload_n 1, 1) := by decide +kernel
theorem dX8_as_32 : decode cX8_as 32 = .ok (.iaload, 1) := by decide +kernel
theorem dX8_as_33 : decode cX8_as 33 = .ok (.iload_n 2, 1) := by decide +kernel
theorem dX8_as_34 : decode cX8_as 34 = .ok (.if_icmp .lt 7, 3) := by decide +kernel
theorem dX8_as_37 : decode cX8_as 37 = .ok (.iconst 1, 1) := by decide +kernel
theorem dX8_as_38 : decode cX8_as 38 = .ok (.goto 8, 3) := by decide +kernel
theorem dX8_as_41 : decode cX8_as 41 = .ok (.aload_n 0, 1) := by decide +kernel
theorem dX8_as_42 : decode cX8_as 42 = .ok (.iconst 2, 1) := by decide +kernel
theorem dX8_as_43 : decode cX8_as 43 = .ok (.invokevirtual 82, 3) := by decide +kernel
theorem dX8_as_46 : decode cX8_as 46 = .ok (.ireturn, 1) := by decide +kernel
theorem dX8_trace_0 : decode cX8_trace 0 = .ok (.aload_n 0, 1) := by decide +kernel
theorem dX8_trace_1 : decode cX8_trace 1 = .ok (.getfield 192, 3) := by decide +kernel
theorem dX8_trace_4 : decode cX8_trace 4 = .ok (.ireturn, 1) := by decide +kernel
theorem dX8_fault_0 : decode cX8_fault 0 = .ok (.aload_n 0, 1) := by decide +kernel
theorem dX8_fault_1 : decode cX8_fault 1 = .ok (.getfield 58, 3) := by decide +kernel
theorem dX8_fault_4 : decode cX8_fault 4 = .ok (.ireturn, 1) := by decide +kernel
theorem dX8_many_0 : decode cX8_many 0 = .ok (.iload_n 1, 1) := by decide +kernel
theorem dX8_many_1 : decode cX8_many 1 = .ok (.ifCond .ne 10, 3) := by decide +kernel
theorem dX8_many_4 : decode cX8_many 4 = .ok (.aload_n 0, 1) := by decide +kernel
theorem dX8_many_5 : decode cX8_many 5 = .ok (.getfield 68, 3) := by decide +kernel
theorem dX8_many_8 : decode cX8_many 8 = .ok (.goto 29, 3) := by decide +kernel
theorem dX8_many_11 : decode cX8_many 11 = .ok (.iload_n 1, 1) := by decide +kernel
theorem dX8_many_12 : decode cX8_many 12 = .ok (.iconst 1, 1) := by decide +kernel
theorem dX8_many_13 : decode cX8_many 13 = .ok (.if_icmp .ne 10, 3) := by decide +kernel
theorem dX8_many_16 : decode cX8_many 16 = .ok (.aload_n 0, 1) := by decide +kernel
theorem dX8_many_17 : decode cX8_many 17 = .ok (.getfield 95, 3) := by decide +kernel
theorem dX8_many_20 : decode cX8_many 20 = .ok (.goto 17, 3) := by decide +kernel
theorem dX8_many_23 : decode cX8_many 23 = .ok (.iload_n 1, 1) := by decide +kernel
theorem dX8_many_24 : decode cX8_many 24 = .ok (.iconst 2, 1) := by decide +kernel
theorem dX8_many_25 : decode cX8_many 25 = .ok (.if_icmp .ne 10, 3) := by decide +kernel
theorem dX8_many_28 : decode cX8_many 28 = .ok (.aload_n 0, 1) := by decide +kernel
theorem dX8_many_29 : decode cX8_many 29 = .ok (.getfield 98, 3) := by decide +kernel
theorem dX8_many_32 : decode cX8_many 32 = .ok (.goto 5, 3) := by decide +kernel
theorem dX8_many_35 : decode cX8_many 35 = .ok (.bipush (-2), 2) := by decide +kernel
theorem dX8_many_37 : decode cX8_many 37 = .ok (.ireturn, 1) := by decide +kernel
theorem dJ6_bitCount_0f7a4_0 : decode cJ6_bitCount_0f7a4 0 = .ok (.iload_n 0, 1) := by decide +kernel
theorem dJ6_bitCount_0f7a4_1 : decode cJ6_bitCount_0f7a4 1 = .ok (.iload_n 0, 1) := by decide +kernel
theorem dJ6_bitCount_0f7a4_2 : decode cJ6_bitCount_0f7a4 2 = .ok (.iconst 1, 1) := by decide +kernel
theorem dJ6_bitCount_0f7a4_3 : decode cJ6_bitCount_0f7a4 3 = .ok (.iushr, 1) := by decide +kernel
theorem dJ6_bitCount_0f7a4_4 : decode cJ6_bitCount_0f7a4 4 = .ok (.ldc_w 265, 3) := by decide +kernel
theorem dJ6_bitCount_0f7a4_7 : decode cJ6_bitCount_0f7a4 7 = .ok (.iand, 1) := by decide +kernel
theorem dJ6_bitCount_0f7a4_8 : decode cJ6_bitCount_0f7a4 8 = .ok (.isub, 1) := by decide +kernel
theorem dJ6_bitCount_0f7a4_9 : decode cJ6_bitCount_0f7a4 9 = .ok (.istore_n 0, 1) := by decide +kernel
theorem dJ6_bitCount_0f7a4_10 : decode cJ6_bitCount_0f7a4 10 = .ok (.iload_n 0, 1) := by decide +kernel
theorem dJ6_bitCount_0f7a4_11 : decode cJ6_bitCount_0f7a4 11 = .ok (.ldc_w 266, 3) := by decide +kernel
theorem dJ6_bitCount_0f7a4_14 : decode cJ6_bitCount_0f7a4 14 = .ok (.iand, 1) := by decide +kernel
theorem dJ6_bitCount_0f7a4_15 : decode cJ6_bitCount_0f7a4 15 = .ok (.iload_n 0, 1) := by decide +kernel
theorem dJ6_bitCount_0f7a4_16 : decode cJ6_bitCount_0f7a4 16 = .ok (.iconst 2, 1) := by decide +kernel
theorem dJ6_bitCount_0f7a4_17 : decode cJ6_bitCount_0f7a4 17 = .ok (.iushr, 1) := by decide +kernel
theorem dJ6_bitCount_0f7a4_18 : decode cJ6_bitCount_0f7a4 18 = .ok (.ldc_w 266, 3) := by decide +kernel
theorem dJ6_bitCount_0f7a4_21 : decode cJ6_bitCount_0f7a4 21 = .ok (.iand, 1) := by decide +kernel
theorem dJ6_bitCount_0f7a4_22 : decode cJ6_bitCount_0f7a4 22 = .ok (.iadd, 1) := by decide +kernel
theorem dJ6_bitCount_0f7a4_23 : decode cJ6_bitCount_0f7a4 23 = .ok (.istore_n 0, 1) := by decide +kernel
theorem dJ6_bitCount_0f7a4_24 : decode cJ6_bitCount_0f7a4 24 = .ok (.iload_n 0, 1) := by decide +kernel
theorem dJ6_bitCount_0f7a4_25 : decode cJ6_bitCount_0f7a4 25 = .ok (.iload_n 0, 1) := by decide +kernel
theorem dJ6_bitCount_0f7a4_26 : decode cJ6_bitCount_0f7a4 26 = .ok (.iconst 4, 1) := by decide +kernel
theorem dJ6_bitCount_0f7a4_27 : decode cJ6_bitCount_0f7a4 27 = .ok (.iushr, 1) := by decide +kernel
theorem dJ6_bitCount_0f7a4_28 : decode cJ6_bitCount_0f7a4 28 = .ok (.iadd, 1) := by decide +kernel
theorem dJ6_bitCount_0f7a4_29 : decode cJ6_bitCount_0f7a4 29 = .ok (.ldc_w 267, 3) := by decide +kernel
theorem dJ6_bitCount_0f7a4_32 : decode cJ6_bitCount_0f7a4 32 = .ok (.iand, 1) := by decide +kernel
theorem dJ6_bitCount_0f7a4_33 : decode cJ6_bitCount_0f7a4 33 = .ok (.istore_n 0, 1) := by decide +kernel
theorem dJ6_bitCount_0f7a4_34 : decode cJ6_bitCount_0f7a4 34 = .ok (.iload_n 0, 1) := by decide +kernel
theorem dJ6_bitCount_0f7a4_35 : decode cJ6_bitCount_0f7a4 35 = .ok (.iload_n 0, 1) := by decide +kernel
theorem dJ6_bitCount_0f7a4_36 : decode cJ6_bitCount_0f7a4 36 = .ok (.bipush 8, 2) := by decide +kernel
theorem dJ6_bitCount_0f7a4_38 : decode cJ6_bitCount_0f7a4 38 = .ok (.iushr, 1) := by decide +kernel
theorem dJ6_bitCount_0f7a4_39 : decode cJ6_bitCount_0f7a4 39 = .ok (.iadd, 1) := by decide +kernel
theorem dJ6_bitCount_0f7a4_40 : decode cJ6_bitCount_0f7a4 40 = .ok (.istore_n 0, 1) := by decide +kernel
theorem dJ6_bitCount_0f7a4_41 : decode cJ6_bitCount_0f7a4 41 = .ok (.iload_n 0, 1) := by decide +kernel
theorem dJ6_bitCount_0f7a4_42 : decode cJ6_bitCount_0f7a4 42 = .ok (.iload_n 0, 1) := by decide +kernel
theorem dJ6_bitCount_0f7a4_43 : decode cJ6_bitCount_0f7a4 43 = .ok (.bipush 16, 2) := by decide +kernel
theorem dJ6_bitCount_0f7a4_45 : decode cJ6_bitCount_0f7a4 45 = .ok (.iushr, 1) := by decide +kernel
theorem dJ6_bitCount_0f7a4_46 : decode cJ6_bitCount_0f7a4 46 = .ok (.iadd, 1) := by decide +kernel
theorem dJ6_bitCount_0f7a4_47 : decode cJ6_bitCount_0f7a4 47 = .ok (.istore_n 0, 1) := by decide +kernel
theorem dJ6_bitCount_0f7a4_48 : decode cJ6_bitCount_0f7a4 48 = .ok (.iload_n 0, 1) := by decide +kernel
theorem dJ6_bitCount_0f7a4_49 : decode cJ6_bitCount_0f7a4 49 = .ok (.bipush 63, 2) := by decide +kernel
theorem dJ6_bitCount_0f7a4_51 : decode cJ6_bitCount_0f7a4 51 = .ok (.iand, 1) := by decide +kernel
theorem dJ6_bitCount_0f7a4_52 : decode cJ6_bitCount_0f7a4 52 = .ok (.ireturn, 1) := by decide +kernel
theorem dJ9_max_7cf53_0 : decode cJ9_max_7cf53 0 = .ok (.iload_n 0, 1) := by decide +kernel
theorem dJ9_max_7cf53_1 : decode cJ9_max_7cf53 1 = .ok (.iload_n 1, 1) := by decide +kernel
theorem dJ9_max_7cf53_2 : decode cJ9_max_7cf53 2 = .ok (.if_icmp .lt 7, 3) := by decide +kernel
theorem dJ9_max_7cf53_5 : decode cJ9_max_7cf53 5 = .ok (.iload_n 0, 1) := by decide +kernel
theorem dJ9_max_7cf53_6 : decode cJ9_max_7cf53 6 = .ok (.goto 4, 3) := by decide +kernel
theorem dJ9_max_7cf53_9 : decode cJ9_max_7cf53 9 = .ok (.iload_n 1, 1) := by decide +kernel
theorem dJ9_max_7cf53_10 : decode cJ9_max_7cf53 10 = .ok (.ireturn, 1) := by decide +kernel
theorem dJ9_min_7cf53_0 : decode cJ9_min_7cf53 0 = .ok (.iload_n 0, 1) := by decide +kernel
theorem dJ9_min_7cf53_1 : decode cJ9_min_7cf53 1 = .ok (.iload_n 1, 1) := by decide +kernel
theorem dJ9_min_7cf53_2 : decode cJ9_min_7cf53 2 = .ok (.if_icmp .gt 7, 3) := by decide +kernel
theorem dJ9_min_7cf53_5 : decode cJ9_min_7cf53 5 = .ok (.iload_n 0, 1) := by decide +kernel
theorem dJ9_min_7cf53_6 : decode cJ9_min_7cf53 6 = .ok (.goto 4, 3) := by decide +kernel
theorem dJ9_min_7cf53_9 : decode cJ9_min_7cf53 9 = .ok (.iload_n 1, 1) := by decide +kernel
theorem dJ9_min_7cf53_10 : decode cJ9_min_7cf53 10 = .ok (.ireturn, 1) := by decide +kernel
theorem dL_law_0 : decode cL_law 0 = .ok (.new 7, 3) := by decide +kernel
theorem dL_law_3 : decode cL_law 3 = .ok (.dup, 1) := by decide +kernel
theorem dL_law_4 : decode cL_law 4 = .ok (.invokespecial 9, 3) := by decide +kernel
theorem dL_law_7 : decode cL_law 7 = .ok (.astore_n 1, 1) := by decide +kernel
theorem dL_law_8 : decode cL_law 8 = .ok (.new 10, 3) := by decide +kernel
theorem dL_law_11 : decode cL_law 11 = .ok (.dup, 1) := by decide +kernel
theorem dL_law_12 : decode cL_law 12 = .ok (.invokespecial 12, 3) := by decide +kernel
theorem dL_law_15 : decode cL_law 15 = .ok (.astore_n 2, 1) := by decide +kernel
theorem dL_law_16 : decode cL_law 16 = .ok (.iconst 0, 1) := by decide +kernel
theorem dL_law_17 : decode cL_law 17 = .ok (.istore_n 3, 1) := by decide +kernel
theorem dL_law_18 : decode cL_law 18 = .ok (.iload_n 3, 1) := by decide +kernel
theorem dL_law_19 : decode cL_law 19 = .ok (.aload_n 0, 1) := by decide +kernel
theorem dL_law_20 : decode cL_law 20 = .ok (.arraylength, 1) := by decide +kernel
theorem dL_law_21 : decode cL_law 21 = .ok (.bipush 7, 2) := by decide +kernel
theorem dL_law_23 : decode cL_law 23 = .ok (.isub, 1) := by decide +kernel
theorem dL_law_24 : decode cL_law 24 = .ok (.if_icmp .gt 1441, 3) := by decide +kernel
theorem dL_law_27 : decode cL_law 27 = .ok (.aload_n 0, 1) := by decide +kernel
theorem dL_law_28 : decode cL_law 28 = .ok (.iload_n 3, 1) := by decide +kernel
theorem dL_law_29 : decode cL_law 29 = .ok (.iaload, 1) := by decide +kernel
theorem dL_law_30 : decode cL_law 30 = .ok (.bipush 63, 2) := by decide +kernel
theorem dL_law_32 : decode cL_law 32 = .ok (.iand, 1) := by decide +kernel
theorem dL_law_33 : decode cL_law 33 = .ok (.tableswitch 1426 0 34 #[155, 208, 231, 264, 297, 330, 373, 406, 439, 492, 535, 598, 651, 674, 687, 720, 753, 786, 809, 832, 865, 940, 1015, 1048, 1082, 1125, 1148, 1191, 1235, 1298, 1321, 1344, 1377, 1390, 1403], 155) := by decide +kernel
theorem dL_law_188 : decode cL_law 188 = .ok (.aload_n 1, 1) := by decide +kernel
theorem dL_law_189 : decode cL_law 189 = .ok (.aload_n 0, 1) := by decide +kernel
theorem dL_law_190 : decode cL_law 190 = .ok (.iload_n 3, 1) := by decide +kernel
theorem dL_law_191 : decode cL_law 191 = .ok (.iconst 1, 1) := by decide +kernel
theorem dL_law_192 : decode cL_law 192 = .ok (.iadd, 1) := by decide +kernel
theorem dL_law_193 : decode cL_law 193 = .ok (.iaload, 1) := by decide +kernel
theorem dL_law_194 : decode cL_law 194 = .ok (.aload_n 0, 1) := by decide +kernel
theorem dL_law_195 : decode cL_law 195 = .ok (.iload_n 3, 1) := by decide +kernel
theorem dL_law_196 : decode cL_law 196 = .ok (.iconst 2, 1) := by decide +kernel
theorem dL_law_197 : decode cL_law 197 = .ok (.iadd, 1) := by decide +kernel
theorem dL_law_198 : decode cL_law 198 = .ok (.iaload, 1) := by decide +kernel
theorem dL_law_199 : decode cL_law 199 = .ok (.aload_n 0, 1) := by decide +kernel
theorem dL_law_200 : decode cL_law 200 = .ok (.iload_n 3, 1) := by decide +kernel
theorem dL_law_201 : decode cL_law 201 = .ok (.iconst 3, 1) := by decide +kernel
theorem dL_law_202 : decode cL_law 202 = .ok (.iadd, 1) := by decide +kernel
theorem dL_law_203 : decode cL_law 203 = .ok (.iaload, 1) := by decide +kernel
theorem dL_law_204 : decode cL_law 204 = .ok (.aload_n 0, 1) := by decide +kernel
theorem dL_law_205 : decode cL_law 205 = .ok (.iload_n 3, 1) := by decide +kernel
theorem dL_law_206 : decode cL_law 206 = .ok (.iconst 4, 1) := by decide +kernel
theorem dL_law_207 : decode cL_law 207 = .ok (.iadd, 1) := by decide +kernel
theorem dL_law_208 : decode cL_law 208 = .ok (.iaload, 1) := by decide +kernel
theorem dL_law_209 : decode cL_law 209 = .ok (.invokevirtual 13, 3) := by decide +kernel
theorem dL_law_212 : decode cL_law 212 = .ok (.aload_n 2, 1) := by decide +kernel
theorem dL_law_213 : decode cL_law 213 = .ok (.aload_n 0, 1) := by decide +kernel
theorem dL_law_214 : decode cL_law 214 = .ok (.iload_n 3, 1) := by decide +kernel
theorem dL_law_215 : decode cL_law 215 = .ok (.iconst 1, 1) := by decide +kernel
theorem dL_law_216 : decode cL_law 216 = .ok (.iadd, 1) := by decide +kernel
theorem dL_law_217 : decode cL_law 217 = .ok (.iaload, 1) := by decide +kernel
theorem dL_law_218 : decode cL_law 218 = .ok (.aload_n 0, 1) := by decide +kernel
theorem dL_law_219 : decode cL_law 219 = .ok (.iload_n 3, 1) := by decide +kernel
theorem dL_law_220 : decode cL_law 220 = .ok (.iconst 2, 1) := by decide +kernel
theorem dL_law_221 : decode cL_law 221 = .ok (.iadd, 1) := by decide +kernel
theorem dL_law_222 : decode cL_law 222 = .ok (.iaload, 1) := by decide +kernel
theorem dL_law_223 : decode cL_law 223 = .ok (.aload_n 0, 1) := by decide +kernel
theorem dL_law_224 : decode cL_law 224 = .ok (.iload_n 3, 1) := by decide +kernel
theorem dL_law_225 : decode cL_law 225 = .ok (.iconst 3, 1) := by decide +kernel
theorem dL_law_226 : decode cL_law 226 = .ok (.iadd, 1) := by decide +kernel
theorem dL_law_227 : decode cL_law 227 = .ok (.iaload, 1) := by decide +kernel
theorem dL_law_228 : decode cL_law 228 = .ok (.aload_n 0, 1) := by decide +kernel
theorem dL_law_229 : decode cL_law 229 = .ok (.iload_n 3, 1) := by decide +kernel
theorem dL_law_230 : decode cL_law 230 = .ok (.iconst 4, 1) := by decide +kernel
theorem dL_law_231 : decode cL_law 231 = .ok (.iadd, 1) := by decide +kernel
theorem dL_law_232 : decode cL_law 232 = .ok (.iaload, 1) := by decide +kernel
theorem dL_law_233 : decode cL_law 233 = .ok (.invokevirtual 17, 3) := by decide +kernel
theorem dL_law_236 : decode cL_law 236 = .ok (.if_icmp .eq 1223, 3) := by decide +kernel
theorem dL_law_239 : decode cL_law 239 = .ok (.iconst 0, 1) := by decide +kernel
theorem dL_law_240 : decode cL_law 240 = .ok (.ireturn, 1) := by decide +kernel
theorem dL_law_241 : decode cL_law 241 = .ok (.aload_n 1, 1) := by decide +kernel
theorem dL_law_242 : decode cL_law 242 = .ok (.aload_n 0, 1) := by decide +kernel
theorem dL_law_243 : decode cL_law 243 = .ok (.iload_n 3, 1) := by decide +kernel
theorem dL_law_244 : decode cL_law 244 = .ok (.iconst 1, 1) := by decide +kernel
theorem dL_law_245 : decode cL_law 245 = .ok (.iadd, 1) := by decide +kernel
theorem dL_law_246 : decode cL_law 246 = .ok (.iaload, 1) := by decide +kernel
theorem dL_law_247 : decode cL_law 247 = .ok (.invokevirtual 18, 3) := by decide +kernel
theorem dL_law_250 : decode cL_law 250 = .ok (.aload_n 2, 1) := by decide +kernel
theorem dL_law_251 : decode cL_law 251 = .ok (.aload_n 0, 1) := by decide +kernel
theorem dL_law_252 : decode cL_law 252 = .ok (.iload_n 3, 1) := by decide +kernel
theorem dL_law_253 : decode cL_law 253 = .ok (.iconst 1, 1) := by decide +kernel
theorem dL_law_254 : decode cL_law 254 = .ok (.iadd, 1) := by decide +kernel
theorem dL_law_255 : decode cL_law 255 = .ok (.iaload, 1) := by decide +kernel
theorem dL_law_256 : decode cL_law 256 = .ok (.invokevirtual 22, 3) := by decide +kernel
theorem dL_law_259 : decode cL_law 259 = .ok (.if_icmp .eq 1200, 3) := by decide +kernel
theorem dL_law_262 : decode cL_law 262 = .ok (.iconst 0, 1) := by decide +kernel
theorem dL_law_263 : decode cL_law 263 = .ok (.ireturn, 1) := by decide +kernel
theorem dL_law_264 : decode cL_law 264 = .ok (.aload_n 1, 1) := by decide +kernel
theorem dL_law_265 : decode cL_law 265 = .ok (.aload_n 0, 1) := by decide +kernel
theorem dL_law_266 : decode cL_law 266 = .ok (.iload_n 3, 1) := by decide +kernel
theorem dL_law_267 : decode cL_law 267 = .ok (.iconst 1, 1) := by decide +kernel
theorem dL_law_268 : decode cL_law 268 = .ok (.iadd, 1) := by decide +kernel
theorem dL_law_269 : decode cL_law 269 = .ok (.iaload, 1) := by decide +kernel
theorem dL_law_270 : decode cL_law 270 = .ok (.aload_n 0, 1) := by decide +kernel
theorem dL_law_271 : decode cL_law 271 = .ok (.iload_n 3, 1) := by decide +kernel
theorem dL_law_272 : decode cL_law 272 = .ok (.iconst 2, 1) := by decide +kernel
theorem dL_law_273 : decode cL_law 273 = .ok (.iadd, 1) := by decide +kernel
theorem dL_law_274 : decode cL_law 274 = .ok (.iaload, 1) := by decide +kernel
theorem dL_law_275 : decode cL_law 275 = .ok (.invokevirtual 23, 3) := by decide +kernel
theorem dL_law_278 : decode cL_law 278 = .ok (.aload_n 2, 1) := by decide +kernel
theorem dL_law_279 : decode cL_law 279 = .ok (.aload_n 0, 1) := by decide +kernel
theorem dL_law_280 : decode cL_law 280 = .ok (.iload_n 3, 1) := by decide +kernel
theorem dL_law_281 : decode cL_law 281 = .ok (.iconst 1, 1) := by decide +kernel
theorem dL_law_282 : decode cL_law 282 = .ok (.iadd, 1) := by decide +kernel
theorem dL_law_283 : decode cL_law 283 = .ok (.iaload, 1) := by decide +kernel
theorem dL_law_284 : decode cL_law 284 = .ok (.aload_n 0, 1) := by decide +kernel
theorem dL_law_285 : decode cL_law 285 = .ok (.iload_n 3, 1) := by decide +kernel
theorem dL_law_286 : decode cL_law 286 = .ok (.iconst 2, 1) := by decide +kernel
theorem dL_law_287 : decode cL_law 287 = .ok (.iadd, 1) := by decide +kernel
theorem dL_law_288 : decode cL_law 288 = .ok (.iaload, 1) := by decide +kernel
theorem dL_law_289 : decode cL_law 289 = .ok (.invokevirtual 27, 3) := by decide +kernel
theorem dL_law_292 : decode cL_law 292 = .ok (.if_icmp .eq 1167, 3) := by decide +kernel
theorem dL_law_295 : decode cL_law 295 = .ok (.iconst 0, 1) := by decide +kernel
theorem dL_law_296 : decode cL_law 296 = .ok (.ireturn, 1) := by decide +kernel
theorem dL_law_297 : decode cL_law 297 = .ok (.aload_n 1, 1) := by decide +kernel
theorem dL_law_298 : decode cL_law 298 = .ok (.aload_n 0, 1) := by decide +kernel
theorem dL_law_299 : decode cL_law 299 = .ok (.iload_n 3, 1) := by decide +kernel
theorem dL_law_300 : decode cL_law 300 = .ok (.iconst 1, 1) := by decide +kernel
theorem dL_law_301 : decode cL_law 301 = .ok (.iadd, 1) := by decide +kernel
theorem dL_law_302 : decode cL_law 302 = .ok (.iaload, 1) := by decide +kernel
theorem dL_law_303 : decode cL_law 303 = .ok (.aload_n 0, 1) := by decide +kernel
theorem dL_law_304 : decode cL_law 304 = .ok (.iload_n 3, 1) := by decide +kernel
theorem dL_law_305 : decode cL_law 305 = .ok (.iconst 2, 1) := by decide +kernel
theorem dL_law_306 : decode cL_law 306 = .ok (.iadd, 1) := by decide +kernel
theorem dL_law_307 : decode cL_law 307 = .ok (.iaload, 1) := by decide +kernel
theorem dL_law_308 : decode cL_law 308 = .ok (.invokevirtual 28, 3) := by decide +kernel
theorem dL_law_311 : decode cL_law 311 = .ok (.aload_n 2, 1) := by decide +kernel
theorem dL_law_312 : decode cL_law 312 = .ok (.aload_n 0, 1) := by decide +kernel
theorem dL_law_313 : decode cL_law 313 = .ok (.iload_n 3, 1) := by decide +kernel
theorem dL_law_314 : decode cL_law 314 = .ok (.iconst 1, 1) := by decide +kernel
theorem dL_law_315 : decode cL_law 315 = .ok (.iadd, 1) := by decide +kernel
theorem dL_law_316 : decode cL_law 316 = .ok (.iaload, 1) := by decide +kernel
theorem dL_law_317 : decode cL_law 317 = .ok (.aload_n 0, 1) := by decide +kernel
theorem dL_law_318 : decode cL_law 318 = .ok (.iload_n 3, 1) := by decide +kernel
theorem dL_law_319 : decode cL_law 319 = .ok (.iconst 2, 1) := by decide +kernel
theorem dL_law_320 : decode cL_law 320 = .ok (.iadd, 1) := by decide +kernel
theorem dL_law_321 : decode cL_law 321 = .ok (.iaload, 1) := by decide +kernel
theorem dL_law_322 : decode cL_law 322 = .ok (.invokevirtual 31, 3) := by decide +kernel
theorem dL_law_325 : decode cL_law 325 = .ok (.if_icmp .eq 1134, 3) := by decide +kernel
theorem dL_law_328 : decode cL_law 328 = .ok (.iconst 0, 1) := by decide +kernel
theorem dL_law_329 : decode cL_law 329 = .ok (.ireturn, 1) := by decide +kernel
theorem dL_law_330 : decode cL_law 330 = .ok (.aload_n 1, 1) := by decide +kernel
theorem dL_law_331 : decode cL_law 331 = .ok (.aload_n 0, 1) := by decide +kernel
theorem dL_law_332 : decode cL_law 332 = .ok (.iload_n 3, 1) := by decide +kernel
theorem dL_law_333 : decode cL_law 333 = .ok (.iconst 1, 1) := by decide +kernel
theorem dL_law_334 : decode cL_law 334 = .ok (.iadd, 1) := by decide +kernel
theorem dL_law_335 : decode cL_law 335 = .ok (.iaload, 1) := by decide +kernel
theorem dL_law_336 : decode cL_law 336 = .ok (.aload_n 0, 1) := by decide +kernel
theorem dL_law_337 : decode cL_law 337 = .ok (.iload_n 3, 1) := by decide +kernel
theorem dL_law_338 : decode cL_law 338 = .ok (.iconst 2, 1) := by decide +kernel
theorem dL_law_339 : decode cL_law 339 = .ok (.iadd, 1) := by decide +kernel
theorem dL_law_340 : decode cL_law 340 = .ok (.iaload, 1) := by decide +kernel
theorem dL_law_341 : decode cL_law 341 = .ok (.invokevirtual 32, 3) := by decide +kernel
theorem dL_law_344 : decode cL_law 344 = .ok (.aload_n 2, 1) := by decide +kernel
theorem dL_law_345 : decode cL_law 345 = .ok (.aload_n 0, 1) := by decide +kernel
theorem dL_law_346 : decode cL_law 346 = .ok (.iload_n 3, 1) := by decide +kernel
theorem dL_law_347 : decode cL_law 347 = .ok (.iconst 1, 1) := by decide +kernel
theorem dL_law_348 : decode cL_law 348 = .ok (.iadd, 1) := by decide +kernel
theorem dL_law_349 : decode cL_law 349 = .ok (.iaload, 1) := by decide +kernel
theorem dL_law_350 : decode cL_law 350 = .ok (.aload_n 0, 1) := by decide +kernel
theorem dL_law_351 : decode cL_law 351 = .ok (.iload_n 3, 1) := by decide +kernel
theorem dL_law_352 : decode cL_law 352 = .ok (.iconst 2, 1) := by decide +kernel
theorem dL_law_353 : decode cL_law 353 = .ok (.iadd, 1) := by decide +kernel
theorem dL_law_354 : decode cL_law 354 = .ok (.iaload, 1) := by decide +kernel
theorem dL_law_355 : decode cL_law 355 = .ok (.invokevirtual 35, 3) := by decide +kernel
theorem dL_law_358 : decode cL_law 358 = .ok (.if_icmp .eq 1101, 3) := by decide +kernel
theorem dL_law_361 : decode cL_law 361 = .ok (.iconst 0, 1) := by decide +kernel
theorem dL_law_362 : decode cL_law 362 = .ok (.ireturn, 1) := by decide +kernel
theorem dL_law_363 : decode cL_law 363 = .ok (.aload_n 1, 1) := by decide +kernel
theorem dL_law_364 : decode cL_law 364 = .ok (.aload_n 0, 1) := by decide +kernel
theorem dL_law_365 : decode cL_law 365 = .ok (.iload_n 3, 1) := by decide +kernel
theorem dL_law_366 : decode cL_law 366 = .ok (.iconst 1, 1) := by decide +kernel
theorem dL_law_367 : decode cL_law 367 = .ok (.iadd, 1) := by decide +kernel
theorem dL_law_368 : decode cL_law 368 = .ok (.iaload, 1) := by decide +kernel
theorem dL_law_369 : decode cL_law 369 = .ok (.aload_n 0, 1) := by decide +kernel
theorem dL_law_370 : decode cL_law 370 = .ok (.iload_n 3, 1) := by decide +kernel
theorem dL_law_371 : decode cL_law 371 = .ok (.iconst 2, 1) := by decide +kernel
theorem dL_law_372 : decode cL_law 372 = .ok (.iadd, 1) := by decide +kernel
theorem dL_law_373 : decode cL_law 373 = .ok (.iaload, 1) := by decide +kernel
theorem dL_law_374 : decode cL_law 374 = .ok (.aload_n 0, 1) := by decide +kernel
theorem dL_law_375 : decode cL_law 375 = .ok (.iload_n 3, 1) := by decide +kernel
theorem dL_law_376 : decode cL_law 376 = .ok (.iconst 3, 1) := by decide +kernel
theorem dL_law_377 : decode cL_law 377 = .ok (.iadd, 1) := by decide +kernel
theorem dL_law_378 : decode cL_law 378 = .ok (.iaload, 1) := by decide +kernel
theorem dL_law_379 : decode cL_law 379 = .ok (.invokevirtual 36, 3) := by decide +kernel
theorem dL_law_382 : decode cL_law 382 = .ok (.aload_n 2, 1) := by decide +kernel
theorem dL_law_383 : decode cL_law 383 = .ok (.aload_n 0, 1) := by decide +kernel
theorem dL_law_384 : decode cL_law 384 = .ok (.iload_n 3, 1) := by decide +kernel
theorem dL_law_385 : decode cL_law 385 = .ok (.iconst 1, 1) := by decide +kernel
theorem dL_law_386 : decode cL_law 386 = .ok (.iadd, 1) := by decide +kernel
theorem dL_law_387 : decode cL_law 387 = .ok (.iaload, 1) := by decide +kernel
theorem dL_law_388 : decode cL_law 388 = .ok (.aload_n 0, 1) := by decide +kernel
theorem dL_law_389 : decode cL_law 389 = .ok (.iload_n 3, 1) := by decide +kernel
theorem dL_law_390 : decode cL_law 390 = .ok (.iconst 2, 1) := by decide +kernel
theorem dL_law_391 : decode cL_law 391 = .ok (.iadd, 1) := by decide +kernel
theorem dL_law_392 : decode cL_law 392 = .ok (.iaload, 1) := by decide +kernel
theorem dL_law_393 : decode cL_law 393 = .ok (.aload_n 0, 1) := by decide +kernel
theorem dL_law_394 : decode cL_law 394 = .ok (.iload_n 3, 1) := by decide +kernel
theorem dL_law_395 : decode cL_law 395 = .ok (.iconst 3, 1) := by decide +kernel
theorem dL_law_396 : decode cL_law 396 = .ok (.iadd, 1) := by decide +kernel
theorem dL_law_397 : decode cL_law 397 = .ok (.iaload, 1) := by decide +kernel
theorem dL_law_398 : decode cL_law 398 = .ok (.invokevirtual 40, 3) := by decide +kernel
theorem dL_law_401 : decode cL_law 401 = .ok (.if_icmp .eq 1058, 3) := by decide +kernel
theorem dL_law_404 : decode cL_law 404 = .ok (.iconst 0, 1) := by decide +kernel
theorem dL_law_405 : decode cL_law 405 = .ok (.ireturn, 1) := by decide +kernel
theorem dL_law_406 : decode cL_law 406 = .ok (.aload_n 1, 1) := by decide +kernel
theorem dL_law_407 : decode cL_law 407 = .ok (.aload_n 0, 1) := by decide +kernel
theorem dL_law_408 : decode cL_law 408 = .ok (.iload_n 3, 1) := by decide +kernel
theorem dL_law_409 : decode cL_law 409 = .ok (.iconst 1, 1) := by decide +kernel
theorem dL_law_410 : decode cL_law 410 = .ok (.iadd, 1) := by decide +kernel
theorem dL_law_411 : decode cL_law 411 = .ok (.iaload, 1) := by decide +kernel
theorem dL_law_412 : decode cL_law 412 = .ok (.aload_n 0, 1) := by decide +kernel
theorem dL_law_413 : decode cL_law 413 = .ok (.iload_n 3, 1) := by decide +kernel
theorem dL_law_414 : decode cL_law 414 = .ok (.iconst 2, 1) := by decide +kernel
theorem dL_law_415 : decode cL_law 415 = .ok (.iadd, 1) := by decide +kernel
theorem dL_law_416 : decode cL_law 416 = .ok (.iaload, 1) := by decide +kernel
theorem dL_law_417 : decode cL_law 417 = .ok (.invokevirtual 41, 3) := by decide +kernel
theorem dL_law_420 : decode cL_law 420 = .ok (.aload_n 2, 1) := by decide +kernel
theorem dL_law_421 : decode cL_law 421 = .ok (.aload_n 0, 1) := by decide +kernel
theorem dL_law_422 : decode cL_law 422 = .ok (.iload_n 3, 1) := by decide +kernel
theorem dL_law_423 : decode cL_law 423 = .ok (.iconst 1, 1) := by decide +kernel
theorem dL_law_424 : decode cL_law 424 = .ok (.iadd, 1) := by decide +kernel
theorem dL_law_425 : decode cL_law 425 = .ok (.iaload, 1) := by decide +kernel
theorem dL_law_426 : decode cL_law 426 = .ok (.aload_n 0, 1) := by decide +kernel
theorem dL_law_427 : decode cL_law 427 = .ok (.iload_n 3, 1) := by decide +kernel
theorem dL_law_428 : decode cL_law 428 = .ok (.iconst 2, 1) := by decide +kernel
theorem dL_law_429 : decode cL_law 429 = .ok (.iadd, 1) := by decide +kernel
theorem dL_law_430 : decode cL_law 430 = .ok (.iaload, 1) := by decide +kernel
theorem dL_law_431 : decode cL_law 431 = .ok (.invokevirtual 44, 3) := by decide +kernel
theorem dL_law_434 : decode cL_law 434 = .ok (.if_icmp .eq 1025, 3) := by decide +kernel
theorem dL_law_437 : decode cL_law 437 = .ok (.iconst 0, 1) := by decide +kernel
theorem dL_law_438 : decode cL_law 438 = .ok (.ireturn, 1) := by decide +kernel
theorem dL_law_439 : decode cL_law 439 = .ok (.aload_n 1, 1) := by decide +kernel
theorem dL_law_440 : decode cL_law 440 = .ok (.aload_n 0, 1) := by decide +kernel
theorem dL_law_441 : decode cL_law 441 = .ok (.iload_n 3, 1) := by decide +kernel
theorem dL_law_442 : decode cL_law 442 = .ok (.iconst 1, 1) := by decide +kernel
theorem dL_law_443 : decode cL_law 443 = .ok (.iadd, 1) := by decide +kernel
theorem dL_law_444 : decode cL_law 444 = .ok (.iaload, 1) := by decide +kernel
theorem dL_law_445 : decode cL_law 445 = .ok (.aload_n 0, 1) := by decide +kernel
theorem dL_law_446 : decode cL_law 446 = .ok (.iload_n 3, 1) := by decide +kernel
theorem dL_law_447 : decode cL_law 447 = .ok (.iconst 2, 1) := by decide +kernel
theorem dL_law_448 : decode cL_law 448 = .ok (.iadd, 1) := by decide +kernel
theorem dL_law_449 : decode cL_law 449 = .ok (.iaload, 1) := by decide +kernel
theorem dL_law_450 : decode cL_law 450 = .ok (.invokevirtual 45, 3) := by decide +kernel
theorem dL_law_453 : decode cL_law 453 = .ok (.aload_n 2, 1) := by decide +kernel
theorem dL_law_454 : decode cL_law 454 = .ok (.aload_n 0, 1) := by decide +kernel
theorem dL_law_455 : decode cL_law 455 = .ok (.iload_n 3, 1) := by decide +kernel
theorem dL_law_456 : decode cL_law 456 = .ok (.iconst 1, 1) := by decide +kernel
theorem dL_law_457 : decode cL_law 457 = .ok (.iadd, 1) := by decide +kernel
theorem dL_law_458 : decode cL_law 458 = .ok (.iaload, 1) := by decide +kernel
theorem dL_law_459 : decode cL_law 459 = .ok (.aload_n 0, 1) := by decide +kernel
theorem dL_law_460 : decode cL_law 460 = .ok (.iload_n 3, 1) := by decide +kernel
theorem dL_law_461 : decode cL_law 461 = .ok (.iconst 2, 1) := by decide +kernel
theorem dL_law_462 : decode cL_law 462 = .ok (.iadd, 1) := by decide +kernel
theorem dL_law_463 : decode cL_law 463 = .ok (.iaload, 1) := by decide +kernel
theorem dL_law_464 : decode cL_law 464 = .ok (.invokevirtual 48, 3) := by decide +kernel
theorem dL_law_467 : decode cL_law 467 = .ok (.if_icmp .eq 992, 3) := by decide +kernel
theorem dL_law_470 : decode cL_law 470 = .ok (.iconst 0, 1) := by decide +kernel
theorem dL_law_471 : decode cL_law 471 = .ok (.ireturn, 1) := by decide +kernel
theorem dL_law_472 : decode cL_law 472 = .ok (.aload_n 1, 1) := by decide +kernel
theorem dL_law_473 : decode cL_law 473 = .ok (.aload_n 0, 1) := by decide +kernel
theorem dL_law_474 : decode cL_law 474 = .ok (.iload_n 3, 1) := by decide +kernel
theorem dL_law_475 : decode cL_law 475 = .ok (.iconst 1, 1) := by decide +kernel
theorem dL_law_476 : decode cL_law 476 = .ok (.iadd, 1) := by decide +kernel
theorem dL_law_477 : decode cL_law 477 = .ok (.iaload, 1) := by decide +kernel
theorem dL_law_478 : decode cL_law 478 = .ok (.aload_n 0, 1) := by decide +kernel
theorem dL_law_479 : decode cL_law 479 = .ok (.iload_n 3, 1) := by decide +kernel
theorem dL_law_480 : decode cL_law 480 = .ok (.iconst 2, 1) := by decide +kernel
theorem dL_law_481 : decode cL_law 481 = .ok (.iadd, 1) := by decide +kernel
theorem dL_law_482 : decode cL_law 482 = .ok (.iaload, 1) := by decide +kernel
theorem dL_law_483 : decode cL_law 483 = .ok (.aload_n 0, 1) := by decide +kernel
theorem dL_law_484 : decode cL_law 484 = .ok (.iload_n 3, 1) := by decide +kernel
theorem dL_law_485 : decode cL_law 485 = .ok (.iconst 3, 1) := by decide +kernel
theorem dL_law_486 : decode cL_law 486 = .ok (.iadd, 1) := by decide +kernel
theorem dL_law_487 : decode cL_law 487 = .ok (.iaload, 1) := by decide +kernel
theorem dL_law_488 : decode cL_law 488 = .ok (.aload_n 0, 1) := by decide +kernel
theorem dL_law_489 : decode cL_law 489 = .ok (.iload_n 3, 1) := by decide +kernel
theorem dL_law_490 : decode cL_law 490 = .ok (.iconst 4, 1) := by decide +kernel
theorem dL_law_491 : decode cL_law 491 = .ok (.iadd, 1) := by decide +kernel
theorem dL_law_492 : decode cL_law 492 = .ok (.iaload, 1) := by decide +kernel
theorem dL_law_493 : decode cL_law 493 = .ok (.invokevirtual 49, 3) := by decide +kernel
theorem dL_law_496 : decode cL_law 496 = .ok (.aload_n 2, 1) := by decide +kernel
theorem dL_law_497 : decode cL_law 497 = .ok (.aload_n 0, 1) := by decide +kernel
theorem dL_law_498 : decode cL_law 498 = .ok (.iload_n 3, 1) := by decide +kernel
theorem dL_law_499 : decode cL_law 499 = .ok (.iconst 1, 1) := by decide +kernel
theorem dL_law_500 : decode cL_law 500 = .ok (.iadd, 1) := by decide +kernel
theorem dL_law_501 : decode cL_law 501 = .ok (.iaload, 1) := by decide +kernel
theorem dL_law_502 : decode cL_law 502 = .ok (.aload_n 0, 1) := by decide +kernel
theorem dL_law_503 : decode cL_law 503 = .ok (.iload_n 3, 1) := by decide +kernel
theorem dL_law_504 : decode cL_law 504 = .ok (.iconst 2, 1) := by decide +kernel
theorem dL_law_505 : decode cL_law 505 = .ok (.iadd, 1) := by decide +kernel
theorem dL_law_506 : decode cL_law 506 = .ok (.iaload, 1) := by decide +kernel
theorem dL_law_507 : decode cL_law 507 = .ok (.aload_n 0, 1) := by decide +kernel
theorem dL_law_508 : decode cL_law 508 = .ok (.iload_n 3, 1) := by decide +kernel
theorem dL_law_509 : decode cL_law 509 = .ok (.iconst 3, 1) := by decide +kernel
theorem dL_law_510 : decode cL_law 510 = .ok (.iadd, 1) := by decide +kernel
theorem dL_law_511 : decode cL_law 511 = .ok (.iaload, 1) := by decide +kernel
theorem dL_law_512 : decode cL_law 512 = .ok (.aload_n 0, 1) := by decide +kernel
theorem dL_law_513 : decode cL_law 513 = .ok (.iload_n 3, 1) := by decide +kernel
theorem dL_law_514 : decode cL_law 514 = .ok (.iconst 4, 1) := by decide +kernel
theorem dL_law_515 : decode cL_law 515 = .ok (.iadd, 1) := by decide +kernel
theorem dL_law_516 : decode cL_law 516 = .ok (.iaload, 1) := by decide +kernel
theorem dL_law_517 : decode cL_law 517 = .ok (.invokevirtual 52, 3) := by decide +kernel
theorem dL_law_520 : decode cL_law 520 = .ok (.if_icmp .eq 939, 3) := by decide +kernel
theorem dL_law_523 : decode cL_law 523 = .ok (.iconst 0, 1) := by decide +kernel
theorem dL_law_524 : decode cL_law 524 = .ok (.ireturn, 1) := by decide +kernel
theorem dL_law_525 : decode cL_law 525 = .ok (.aload_n 1, 1) := by decide +kernel
theorem dL_law_526 : decode cL_law 526 = .ok (.aload_n 0, 1) := by decide +kernel
theorem dL_law_527 : decode cL_law 527 = .ok (.iload_n 3, 1) := by decide +kernel
theorem dL_law_528 : decode cL_law 528 = .ok (.iconst 1, 1) := by decide +kernel
theorem dL_law_529 : decode cL_law 529 = .ok (.iadd, 1) := by decide +kernel
theorem dL_law_530 : decode cL_law 530 = .ok (.iaload, 1) := by decide +kernel
theorem dL_law_531 : decode cL_law 531 = .ok (.aload_n 0, 1) := by decide +kernel
theorem dL_law_532 : decode cL_law 532 = .ok (.iload_n 3, 1) := by decide +kernel
theorem dL_law_533 : decode cL_law 533 = .ok (.iconst 2, 1) := by decide +kernel
theorem dL_law_534 : decode cL_law 534 = .ok (.iadd, 1) := by decide +kernel
theorem dL_law_535 : decode cL_law 535 = .ok (.iaload, 1) := by decide +kernel
theorem dL_law_536 : decode cL_law 536 = .ok (.aload_n 0, 1) := by decide +kernel
theorem dL_law_537 : decode cL_law 537 = .ok (.iload_n 3, 1) := by decide +kernel
theorem dL_law_538 : decode cL_law 538 = .ok (.iconst 3, 1) := by decide +kernel
theorem dL_law_539 : decode cL_law 539 = .ok (.iadd, 1) := by decide +kernel
theorem dL_law_540 : decode cL_law 540 = .ok (.iaload, 1) := by decide +kernel
theorem dL_law_541 : decode cL_law 541 = .ok (.invokevirtual 53, 3) := by decide +kernel
theorem dL_law_544 : decode cL_law 544 = .ok (.aload_n 2, 1) := by decide +kernel
theorem dL_law_545 : decode cL_law 545 = .ok (.aload_n 0, 1) := by decide +kernel
theorem dL_law_546 : decode cL_law 546 = .ok (.iload_n 3, 1) := by decide +kernel
theorem dL_law_547 : decode cL_law 547 = .ok (.iconst 1, 1) := by decide +kernel
theorem dL_law_548 : decode cL_law 548 = .ok (.iadd, 1) := by decide +kernel
theorem dL_law_549 : decode cL_law 549 = .ok (.iaload, 1) := by decide +kernel
theorem dL_law_550 : decode cL_law 550 = .ok (.aload_n 0, 1) := by decide +kernel
theorem dL_law_551 : decode cL_law 551 = .ok (.iload_n 3, 1) := by decide +kernel
theorem dL_law_552 : decode cL_law 552 = .ok (.iconst 2, 1) := by decide +kernel
theorem dL_law_553 : decode cL_law 553 = .ok (.iadd, 1) := by decide +kernel
theorem dL_law_554 : decode cL_law 554 = .ok (.iaload, 1) := by decide +kernel
theorem dL_law_555 : decode cL_law 555 = .ok (.aload_n 0, 1) := by decide +kernel
theorem dL_law_556 : decode cL_law 556 = .ok (.iload_n 3, 1) := by decide +kernel
theorem dL_law_557 : decode cL_law 557 = .ok (.iconst 3, 1) := by decide +kernel
theorem dL_law_558 : decode cL_law 558 = .ok (.iadd, 1) := by decide +kernel
theorem dL_law_559 : decode cL_law 559 = .ok (.iaload, 1) := by decide +kernel
theorem dL_law_560 : decode cL_law 560 = .ok (.invokevirtual 56, 3) := by decide +kernel
theorem dL_law_563 : decode cL_law 563 = .ok (.if_icmp .eq 896, 3) := by decide +kernel
theorem dL_law_566 : decode cL_law 566 = .ok (.iconst 0, 1) := by decide +kernel
theorem dL_law_567 : decode cL_law 567 = .ok (.ireturn, 1) := by decide +kernel
theorem dL_law_568 : decode cL_law 568 = .ok (.aload_n 1, 1) := by decide +kernel
theorem dL_law_569 : decode cL_law 569 = .ok (.aload_n 0, 1) := by decide +kernel
theorem dL_law_570 : decode cL_law 570 = .ok (.iload_n 3, 1) := by decide +kernel
theorem dL_law_571 : decode cL_law 571 = .ok (.iconst 1, 1) := by decide +kernel
theorem dL_law_572 : decode cL_law 572 = .ok (.iadd, 1) := by decide +kernel
theorem dL_law_573 : decode cL_law 573 = .ok (.iaload, 1) := by decide +kernel
theorem dL_law_574 : decode cL_law 574 = .ok (.aload_n 0, 1) := by decide +kernel
theorem dL_law_575 : decode cL_law 575 = .ok (.iload_n 3, 1) := by decide +kernel
theorem dL_law_576 : decode cL_law 576 = .ok (.iconst 2, 1) := by decide +kernel
theorem dL_law_577 : decode cL_law 577 = .ok (.iadd, 1) := by decide +kernel
theorem dL_law_578 : decode cL_law 578 = .ok (.iaload, 1) := by decide +kernel
theorem dL_law_579 : decode cL_law 579 = .ok (.aload_n 0, 1) := by decide +kernel
theorem dL_law_580 : decode cL_law 580 = .ok (.iload_n 3, 1) := by decide +kernel
theorem dL_law_581 : decode cL_law 581 = .ok (.iconst 3, 1) := by decide +kernel
theorem dL_law_582 : decode cL_law 582 = .ok (.iadd, 1) := by decide +kernel
theorem dL_law_583 : decode cL_law 583 = .ok (.iaload, 1) := by decide +kernel
theorem dL_law_584 : decode cL_law 584 = .ok (.aload_n 0, 1) := by decide +kernel
theorem dL_law_585 : decode cL_law 585 = .ok (.iload_n 3, 1) := by decide +kernel
theorem dL_law_586 : decode cL_law 586 = .ok (.iconst 4, 1) := by decide +kernel
theorem dL_law_587 : decode cL_law 587 = .ok (.iadd, 1) := by decide +kernel
theorem dL_law_588 : decode cL_law 588 = .ok (.iaload, 1) := by decide +kernel
theorem dL_law_589 : decode cL_law 589 = .ok (.aload_n 0, 1) := by decide +kernel
theorem dL_law_590 : decode cL_law 590 = .ok (.iload_n 3, 1) := by decide +kernel
theorem dL_law_591 : decode cL_law 591 = .ok (.iconst 5, 1) := by decide +kernel
theorem dL_law_592 : decode cL_law 592 = .ok (.iadd, 1) := by decide +kernel
theorem dL_law_593 : decode cL_law 593 = .ok (.iaload, 1) := by decide +kernel
theorem dL_law_594 : decode cL_law 594 = .ok (.invokevirtual 57, 3) := by decide +kernel
theorem dL_law_597 : decode cL_law 597 = .ok (.aload_n 2, 1) := by decide +kernel
theorem dL_law_598 : decode cL_law 598 = .ok (.aload_n 0, 1) := by decide +kernel
theorem dL_law_599 : decode cL_law 599 = .ok (.iload_n 3, 1) := by decide +kernel
theorem dL_law_600 : decode cL_law 600 = .ok (.iconst 1, 1) := by decide +kernel
theorem dL_law_601 : decode cL_law 601 = .ok (.iadd, 1) := by decide +kernel
theorem dL_law_602 : decode cL_law 602 = .ok (.iaload, 1) := by decide +kernel
theorem dL_law_603 : decode cL_law 603 = .ok (.aload_n 0, 1) := by decide +kernel
theorem dL_law_604 : decode cL_law 604 = .ok (.iload_n 3, 1) := by decide +kernel
theorem dL_law_605 : decode cL_law 605 = .ok (.iconst 2, 1) := by decide +kernel
theorem dL_law_606 : decode cL_law 606 = .ok (.iadd, 1) := by decide +kernel
theorem dL_law_607 : decode cL_law 607 = .ok (.iaload, 1) := by decide +kernel
theorem dL_law_608 : decode cL_law 608 = .ok (.aload_n 0, 1) := by decide +kernel
theorem dL_law_609 : decode cL_law 609 = .ok (.iload_n 3, 1) := by decide +kernel
theorem dL_law_610 : decode cL_law 610 = .ok (.iconst 3, 1) := by decide +kernel
theorem dL_law_611 : decode cL_law 611 = .ok (.iadd, 1) := by decide +kernel
theorem dL_law_612 : decode cL_law 612 = .ok (.iaload, 1) := by decide +kernel
theorem dL_law_613 : decode cL_law 613 = .ok (.aload_n 0, 1) := by decide +kernel
theorem dL_law_614 : decode cL_law 614 = .ok (.iload_n 3, 1) := by decide +kernel
theorem dL_law_615 : decode cL_law 615 = .ok (.iconst 4, 1) := by decide +kernel
theorem dL_law_616 : decode cL_law 616 = .ok (.iadd, 1) := by decide +kernel
theorem dL_law_617 : decode cL_law 617 = .ok (.iaload, 1) := by decide +kernel
theorem dL_law_618 : decode cL_law 618 = .ok (.aload_n 0, 1) := by decide +kernel
theorem dL_law_619 : decode cL_law 619 = .ok (.iload_n 3, 1) := by decide +kernel
theorem dL_law_620 : decode cL_law 620 = .ok (.iconst 5, 1) := by decide +kernel
theorem dL_law_621 : decode cL_law 621 = .ok (.iadd, 1) := by decide +kernel
theorem dL_law_622 : decode cL_law 622 = .ok (.iaload, 1) := by decide +kernel
theorem dL_law_623 : decode cL_law 623 = .ok (.invokevirtual 61, 3) := by decide +kernel
theorem dL_law_626 : decode cL_law 626 = .ok (.if_icmp .eq 833, 3) := by decide +kernel
theorem dL_law_629 : decode cL_law 629 = .ok (.iconst 0, 1) := by decide +kernel
theorem dL_law_630 : decode cL_law 630 = .ok (.ireturn, 1) := by decide +kernel
theorem dL_law_631 : decode cL_law 631 = .ok (.aload_n 1, 1) := by decide +kernel
theorem dL_law_632 : decode cL_law 632 = .ok (.aload_n 0, 1) := by decide +kernel
theorem dL_law_633 : decode cL_law 633 = .ok (.iload_n 3, 1) := by decide +kernel
theorem dL_law_634 : decode cL_law 634 = .ok (.iconst 1, 1) := by decide +kernel
theorem dL_law_635 : decode cL_law 635 = .ok (.iadd, 1) := by decide +kernel
theorem dL_law_636 : decode cL_law 636 = .ok (.iaload, 1) := by decide +kernel
theorem dL_law_637 : decode cL_law 637 = .ok (.aload_n 0, 1) := by decide +kernel
theorem dL_law_638 : decode cL_law 638 = .ok (.iload_n 3, 1) := by decide +kernel
theorem dL_law_639 : decode cL_law 639 = .ok (.iconst 2, 1) := by decide +kernel
theorem dL_law_640 : decode cL_law 640 = .ok (.iadd, 1) := by decide +kernel
theorem dL_law_641 : decode cL_law 641 = .ok (.iaload, 1) := by decide +kernel
theorem dL_law_642 : decode cL_law 642 = .ok (.aload_n 0, 1) := by decide +kernel
theorem dL_law_643 : decode cL_law 643 = .ok (.iload_n 3, 1) := by decide +kernel
theorem dL_law_644 : decode cL_law 644 = .ok (.iconst 3, 1) := by decide +kernel
theorem dL_law_645 : decode cL_law 645 = .ok (.iadd, 1) := by decide +kernel
theorem dL_law_646 : decode cL_law 646 = .ok (.iaload, 1) := by decide +kernel
theorem dL_law_647 : decode cL_law 647 = .ok (.aload_n 0, 1) := by decide +kernel
theorem dL_law_648 : decode cL_law 648 = .ok (.iload_n 3, 1) := by decide +kernel
theorem dL_law_649 : decode cL_law 649 = .ok (.iconst 4, 1) := by decide +kernel
theorem dL_law_650 : decode cL_law 650 = .ok (.iadd, 1) := by decide +kernel
theorem dL_law_651 : decode cL_law 651 = .ok (.iaload, 1) := by decide +kernel
theorem dL_law_652 : decode cL_law 652 = .ok (.invokevirtual 62, 3) := by decide +kernel
theorem dL_law_655 : decode cL_law 655 = .ok (.aload_n 2, 1) := by decide +kernel
theorem dL_law_656 : decode cL_law 656 = .ok (.aload_n 0, 1) := by decide +kernel
theorem dL_law_657 : decode cL_law 657 = .ok (.iload_n 3, 1) := by decide +kernel
theorem dL_law_658 : decode cL_law 658 = .ok (.iconst 1, 1) := by decide +kernel
theorem dL_law_659 : decode cL_law 659 = .ok (.iadd, 1) := by decide +kernel
theorem dL_law_660 : decode cL_law 660 = .ok (.iaload, 1) := by decide +kernel
theorem dL_law_661 : decode cL_law 661 = .ok (.aload_n 0, 1) := by decide +kernel
theorem dL_law_662 : decode cL_law 662 = .ok (.iload_n 3, 1) := by decide +kernel
theorem dL_law_663 : decode cL_law 663 = .ok (.iconst 2, 1) := by decide +kernel
theorem dL_law_664 : decode cL_law 664 = .ok (.iadd, 1) := by decide +kernel
theorem dL_law_665 : decode cL_law 665 = .ok (.iaload, 1) := by decide +kernel
theorem dL_law_666 : decode cL_law 666 = .ok (.aload_n 0, 1) := by decide +kernel
theorem dL_law_667 : decode cL_law 667 = .ok (.iload_n 3, 1) := by decide +kernel
theorem dL_law_668 : decode cL_law 668 = .ok (.iconst 3, 1) := by decide +kernel
theorem dL_law_669 : decode cL_law 669 = .ok (.iadd, 1) := by decide +kernel
theorem dL_law_670 : decode cL_law 670 = .ok (.iaload, 1) := by decide +kernel
theorem dL_law_671 : decode cL_law 671 = .ok (.aload_n 0, 1) := by decide +kernel
theorem dL_law_672 : decode cL_law 672 = .ok (.iload_n 3, 1) := by decide +kernel
theorem dL_law_673 : decode cL_law 673 = .ok (.iconst 4, 1) := by decide +kernel
theorem dL_law_674 : decode cL_law 674 = .ok (.iadd, 1) := by decide +kernel
theorem dL_law_675 : decode cL_law 675 = .ok (.iaload, 1) := by decide +kernel
theorem dL_law_676 : decode cL_law 676 = .ok (.invokevirtual 65, 3) := by decide +kernel
theorem dL_law_679 : decode cL_law 679 = .ok (.if_icmp .eq 780, 3) := by decide +kernel
theorem dL_law_682 : decode cL_law 682 = .ok (.iconst 0, 1) := by decide +kernel
theorem dL_law_683 : decode cL_law 683 = .ok (.ireturn, 1) := by decide +kernel
theorem dL_law_684 : decode cL_law 684 = .ok (.aload_n 1, 1) := by decide +kernel
theorem dL_law_685 : decode cL_law 685 = .ok (.aload_n 0, 1) := by decide +kernel
theorem dL_law_686 : decode cL_law 686 = .ok (.iload_n 3, 1) := by decide +kernel
theorem dL_law_687 : decode cL_law 687 = .ok (.iconst 1, 1) := by decide +kernel
theorem dL_law_688 : decode cL_law 688 = .ok (.iadd, 1) := by decide +kernel
theorem dL_law_689 : decode cL_law 689 = .ok (.iaload, 1) := by decide +kernel
theorem dL_law_690 : decode cL_law 690 = .ok (.invokevirtual 66, 3) := by decide +kernel
theorem dL_law_693 : decode cL_law 693 = .ok (.aload_n 2, 1) := by decide +kernel
theorem dL_law_694 : decode cL_law 694 = .ok (.aload_n 0, 1) := by decide +kernel
theorem dL_law_695 : decode cL_law 695 = .ok (.iload_n 3, 1) := by decide +kernel
theorem dL_law_696 : decode cL_law 696 = .ok (.iconst 1, 1) := by decide +kernel
theorem dL_law_697 : decode cL_law 697 = .ok (.iadd, 1) := by decide +kernel
theorem dL_law_698 : decode cL_law 698 = .ok (.iaload, 1) := by decide +kernel
theorem dL_law_699 : decode cL_law 699 = .ok (.invokevirtual 69, 3) := by decide +kernel
theorem dL_law_702 : decode cL_law 702 = .ok (.if_icmp .eq 757, 3) := by decide +kernel
theorem dL_law_705 : decode cL_law 705 = .ok (.iconst 0, 1) := by decide +kernel
theorem dL_law_706 : decode cL_law 706 = .ok (.ireturn, 1) := by decide +kernel
theorem dL_law_707 : decode cL_law 707 = .ok (.aload_n 1, 1) := by decide +kernel
theorem dL_law_708 : decode cL_law 708 = .ok (.invokevirtual 70, 3) := by decide +kernel
theorem dL_law_711 : decode cL_law 711 = .ok (.aload_n 2, 1) := by decide +kernel
theorem dL_law_712 : decode cL_law 712 = .ok (.invokevirtual 74, 3) := by decide +kernel
theorem dL_law_715 : decode cL_law 715 = .ok (.if_icmp .eq 744, 3) := by decide +kernel
theorem dL_law_718 : decode cL_law 718 = .ok (.iconst 0, 1) := by decide +kernel
theorem dL_law_719 : decode cL_law 719 = .ok (.ireturn, 1) := by decide +kernel
theorem dL_law_720 : decode cL_law 720 = .ok (.aload_n 1, 1) := by decide +kernel
theorem dL_law_721 : decode cL_law 721 = .ok (.aload_n 0, 1) := by decide +kernel
theorem dL_law_722 : decode cL_law 722 = .ok (.iload_n 3, 1) := by decide +kernel
theorem dL_law_723 : decode cL_law 723 = .ok (.iconst 1, 1) := by decide +kernel
theorem dL_law_724 : decode cL_law 724 = .ok (.iadd, 1) := by decide +kernel
theorem dL_law_725 : decode cL_law 725 = .ok (.iaload, 1) := by decide +kernel
theorem dL_law_726 : decode cL_law 726 = .ok (.aload_n 0, 1) := by decide +kernel
theorem dL_law_727 : decode cL_law 727 = .ok (.iload_n 3, 1) := by decide +kernel
theorem dL_law_728 : decode cL_law 728 = .ok (.iconst 2, 1) := by decide +kernel
theorem dL_law_729 : decode cL_law 729 = .ok (.iadd, 1) := by decide +kernel
theorem dL_law_730 : decode cL_law 730 = .ok (.iaload, 1) := by decide +kernel
theorem dL_law_731 : decode cL_law 731 = .ok (.invokevirtual 75, 3) := by decide +kernel
theorem dL_law_734 : decode cL_law 734 = .ok (.aload_n 2, 1) := by decide +kernel
theorem dL_law_735 : decode cL_law 735 = .ok (.aload_n 0, 1) := by decide +kernel
theorem dL_law_736 : decode cL_law 736 = .ok (.iload_n 3, 1) := by decide +kernel
theorem dL_law_737 : decode cL_law 737 = .ok (.iconst 1, 1) := by decide +kernel
theorem dL_law_738 : decode cL_law 738 = .ok (.iadd, 1) := by decide +kernel
theorem dL_law_739 : decode cL_law 739 = .ok (.iaload, 1) := by decide +kernel
theorem dL_law_740 : decode cL_law 740 = .ok (.aload_n 0, 1) := by decide +kernel
theorem dL_law_741 : decode cL_law 741 = .ok (.iload_n 3, 1) := by decide +kernel
theorem dL_law_742 : decode cL_law 742 = .ok (.iconst 2, 1) := by decide +kernel
theorem dL_law_743 : decode cL_law 743 = .ok (.iadd, 1) := by decide +kernel
theorem dL_law_744 : decode cL_law 744 = .ok (.iaload, 1) := by decide +kernel
theorem dL_law_745 : decode cL_law 745 = .ok (.invokevirtual 78, 3) := by decide +kernel
theorem dL_law_748 : decode cL_law 748 = .ok (.if_icmp .eq 711, 3) := by decide +kernel
theorem dL_law_751 : decode cL_law 751 = .ok (.iconst 0, 1) := by decide +kernel
theorem dL_law_752 : decode cL_law 752 = .ok (.ireturn, 1) := by decide +kernel
theorem dL_law_753 : decode cL_law 753 = .ok (.aload_n 1, 1) := by decide +kernel
theorem dL_law_754 : decode cL_law 754 = .ok (.aload_n 0, 1) := by decide +kernel
theorem dL_law_755 : decode cL_law 755 = .ok (.iload_n 3, 1) := by decide +kernel
theorem dL_law_756 : decode cL_law 756 = .ok (.iconst 1, 1) := by decide +kernel
theorem dL_law_757 : decode cL_law 757 = .ok (.iadd, 1) := by decide +kernel
theorem dL_law_758 : decode cL_law 758 = .ok (.iaload, 1) := by decide +kernel
theorem dL_law_759 : decode cL_law 759 = .ok (.aload_n 0, 1) := by decide +kernel
theorem dL_law_760 : decode cL_law 760 = .ok (.iload_n 3, 1) := by decide +kernel
theorem dL_law_761 : decode cL_law 761 = .ok (.iconst 2, 1) := by decide +kernel
theorem dL_law_762 : decode cL_law 762 = .ok (.iadd, 1) := by decide +kernel
theorem dL_law_763 : decode cL_law 763 = .ok (.iaload, 1) := by decide +kernel
theorem dL_law_764 : decode cL_law 764 = .ok (.invokevirtual 79, 3) := by decide +kernel
theorem dL_law_767 : decode cL_law 767 = .ok (.aload_n 2, 1) := by decide +kernel
theorem dL_law_768 : decode cL_law 768 = .ok (.aload_n 0, 1) := by decide +kernel
theorem dL_law_769 : decode cL_law 769 = .ok (.iload_n 3, 1) := by decide +kernel
theorem dL_law_770 : decode cL_law 770 = .ok (.iconst 1, 1) := by decide +kernel
theorem dL_law_771 : decode cL_law 771 = .ok (.iadd, 1) := by decide +kernel
theorem dL_law_772 : decode cL_law 772 = .ok (.iaload, 1) := by decide +kernel
theorem dL_law_773 : decode cL_law 773 = .ok (.aload_n 0, 1) := by decide +kernel
theorem dL_law_774 : decode cL_law 774 = .ok (.iload_n 3, 1) := by decide +kernel
theorem dL_law_775 : decode cL_law 775 = .ok (.iconst 2, 1) := by decide +kernel
theorem dL_law_776 : decode cL_law 776 = .ok (.iadd, 1) := by decide +kernel
theorem dL_law_777 : decode cL_law 777 = .ok (.iaload, 1) := by decide +kernel
theorem dL_law_778 : decode cL_law 778 = .ok (.invokevirtual 82, 3) := by decide +kernel
theorem dL_law_781 : decode cL_law 781 = .ok (.if_icmp .eq 678, 3) := by decide +kernel
theorem dL_law_784 : decode cL_law 784 = .ok (.iconst 0, 1) := by decide +kernel
theorem dL_law_785 : decode cL_law 785 = .ok (.ireturn, 1) := by decide +kernel
theorem dL_law_786 : decode cL_law 786 = .ok (.aload_n 1, 1) := by decide +kernel
theorem dL_law_787 : decode cL_law 787 = .ok (.aload_n 0, 1) := by decide +kernel
theorem dL_law_788 : decode cL_law 788 = .ok (.iload_n 3, 1) := by decide +kernel
theorem dL_law_789 : decode cL_law 789 = .ok (.iconst 1, 1) := by decide +kernel
theorem dL_law_790 : decode cL_law 790 = .ok (.iadd, 1) := by decide +kernel
theorem dL_law_791 : decode cL_law 791 = .ok (.iaload, 1) := by decide +kernel
theorem dL_law_792 : decode cL_law 792 = .ok (.aload_n 0, 1) := by decide +kernel
theorem dL_law_793 : decode cL_law 793 = .ok (.iload_n 3, 1) := by decide +kernel
theorem dL_law_794 : decode cL_law 794 = .ok (.iconst 2, 1) := by decide +kernel
theorem dL_law_795 : decode cL_law 795 = .ok (.iadd, 1) := by decide +kernel
theorem dL_law_796 : decode cL_law 796 = .ok (.iaload, 1) := by decide +kernel
theorem dL_law_797 : decode cL_law 797 = .ok (.invokevirtual 83, 3) := by decide +kernel
theorem dL_law_800 : decode cL_law 800 = .ok (.aload_n 2, 1) := by decide +kernel
theorem dL_law_801 : decode cL_law 801 = .ok (.aload_n 0, 1) := by decide +kernel
theorem dL_law_802 : decode cL_law 802 = .ok (.iload_n 3, 1) := by decide +kernel
theorem dL_law_803 : decode cL_law 803 = .ok (.iconst 1, 1) := by decide +kernel
theorem dL_law_804 : decode cL_law 804 = .ok (.iadd, 1) := by decide +kernel
theorem dL_law_805 : decode cL_law 805 = .ok (.iaload, 1) := by decide +kernel
theorem dL_law_806 : decode cL_law 806 = .ok (.aload_n 0, 1) := by decide +kernel
theorem dL_law_807 : decode cL_law 807 = .ok (.iload_n 3, 1) := by decide +kernel
theorem dL_law_808 : decode cL_law 808 = .ok (.iconst 2, 1) := by decide +kernel
theorem dL_law_809 : decode cL_law 809 = .ok (.iadd, 1) := by decide +kernel
theorem dL_law_810 : decode cL_law 810 = .ok (.iaload, 1) := by decide +kernel
theorem dL_law_811 : decode cL_law 811 = .ok (.invokevirtual 86, 3) := by decide +kernel
theorem dL_law_814 : decode cL_law 814 = .ok (.if_icmp .eq 645, 3) := by decide +kernel
theorem dL_law_817 : decode cL_law 817 = .ok (.iconst 0, 1) := by decide +kernel
theorem dL_law_818 : decode cL_law 818 = .ok (.ireturn, 1) := by decide +kernel
theorem dL_law_819 : decode cL_law 819 = .ok (.aload_n 1, 1) := by decide +kernel
theorem dL_law_820 : decode cL_law 820 = .ok (.aload_n 0, 1) := by decide +kernel
theorem dL_law_821 : decode cL_law 821 = .ok (.iload_n 3, 1) := by decide +kernel
theorem dL_law_822 : decode cL_law 822 = .ok (.iconst 1, 1) := by decide +kernel
theorem dL_law_823 : decode cL_law 823 = .ok (.iadd, 1) := by decide +kernel
theorem dL_law_824 : decode cL_law 824 = .ok (.iaload, 1) := by decide +kernel
theorem dL_law_825 : decode cL_law 825 = .ok (.invokevirtual 87, 3) := by decide +kernel
theorem dL_law_828 : decode cL_law 828 = .ok (.aload_n 2, 1) := by decide +kernel
theorem dL_law_829 : decode cL_law 829 = .ok (.aload_n 0, 1) := by decide +kernel
theorem dL_law_830 : decode cL_law 830 = .ok (.iload_n 3, 1) := by decide +kernel
theorem dL_law_831 : decode cL_law 831 = .ok (.iconst 1, 1) := by decide +kernel
theorem dL_law_832 : decode cL_law 832 = .ok (.iadd, 1) := by decide +kernel
theorem dL_law_833 : decode cL_law 833 = .ok (.iaload, 1) := by decide +kernel
theorem dL_law_834 : decode cL_law 834 = .ok (.invokevirtual 90, 3) := by decide +kernel
theorem dL_law_837 : decode cL_law 837 = .ok (.if_icmp .eq 622, 3) := by decide +kernel
theorem dL_law_840 : decode cL_law 840 = .ok (.iconst 0, 1) := by decide +kernel
theorem dL_law_841 : decode cL_law 841 = .ok (.ireturn, 1) := by decide +kernel
theorem dL_law_842 : decode cL_law 842 = .ok (.aload_n 1, 1) := by decide +kernel
theorem dL_law_843 : decode cL_law 843 = .ok (.aload_n 0, 1) := by decide +kernel
theorem dL_law_844 : decode cL_law 844 = .ok (.iload_n 3, 1) := by decide +kernel
theorem dL_law_845 : decode cL_law 845 = .ok (.iconst 1, 1) := by decide +kernel
theorem dL_law_846 : decode cL_law 846 = .ok (.iadd, 1) := by decide +kernel
theorem dL_law_847 : decode cL_law 847 = .ok (.iaload, 1) := by decide +kernel
theorem dL_law_848 : decode cL_law 848 = .ok (.invokevirtual 91, 3) := by decide +kernel
theorem dL_law_851 : decode cL_law 851 = .ok (.aload_n 2, 1) := by decide +kernel
theorem dL_law_852 : decode cL_law 852 = .ok (.aload_n 0, 1) := by decide +kernel
theorem dL_law_853 : decode cL_law 853 = .ok (.iload_n 3, 1) := by decide +kernel
theorem dL_law_854 : decode cL_law 854 = .ok (.iconst 1, 1) := by decide +kernel
theorem dL_law_855 : decode cL_law 855 = .ok (.iadd, 1) := by decide +kernel
theorem dL_law_856 : decode cL_law 856 = .ok (.iaload, 1) := by decide +kernel
theorem dL_law_857 : decode cL_law 857 = .ok (.invokevirtual 94, 3) := by decide +kernel
theorem dL_law_860 : decode cL_law 860 = .ok (.if_icmp .eq 599, 3) := by decide +kernel
theorem dL_law_863 : decode cL_law 863 = .ok (.iconst 0, 1) := by decide +kernel
theorem dL_law_864 : decode cL_law 864 = .ok (.ireturn, 1) := by decide +kernel
theorem dL_law_865 : decode cL_law 865 = .ok (.aload_n 1, 1) := by decide +kernel
theorem dL_law_866 : decode cL_law 866 = .ok (.aload_n 0, 1) := by decide +kernel
theorem dL_law_867 : decode cL_law 867 = .ok (.iload_n 3, 1) := by decide +kernel
theorem dL_law_868 : decode cL_law 868 = .ok (.iconst 1, 1) := by decide +kernel
theorem dL_law_869 : decode cL_law 869 = .ok (.iadd, 1) := by decide +kernel
theorem dL_law_870 : decode cL_law 870 = .ok (.iaload, 1) := by decide +kernel
theorem dL_law_871 : decode cL_law 871 = .ok (.aload_n 0, 1) := by decide +kernel
theorem dL_law_872 : decode cL_law 872 = .ok (.iload_n 3, 1) := by decide +kernel
theorem dL_law_873 : decode cL_law 873 = .ok (.iconst 2, 1) := by decide +kernel
theorem dL_law_874 : decode cL_law 874 = .ok (.iadd, 1) := by decide +kernel
theorem dL_law_875 : decode cL_law 875 = .ok (.iaload, 1) := by decide +kernel
theorem dL_law_876 : decode cL_law 876 = .ok (.invokevirtual 95, 3) := by decide +kernel
theorem dL_law_879 : decode cL_law 879 = .ok (.aload_n 2, 1) := by decide +kernel
theorem dL_law_880 : decode cL_law 880 = .ok (.aload_n 0, 1) := by decide +kernel
theorem dL_law_881 : decode cL_law 881 = .ok (.iload_n 3, 1) := by decide +kernel
theorem dL_law_882 : decode cL_law 882 = .ok (.iconst 1, 1) := by decide +kernel
theorem dL_law_883 : decode cL_law 883 = .ok (.iadd, 1) := by decide +kernel
theorem dL_law_884 : decode cL_law 884 = .ok (.iaload, 1) := by decide +kernel
theorem dL_law_885 : decode cL_law 885 = .ok (.aload_n 0, 1) := by decide +kernel
theorem dL_law_886 : decode cL_law 886 = .ok (.iload_n 3, 1) := by decide +kernel
theorem dL_law_887 : decode cL_law 887 = .ok (.iconst 2, 1) := by decide +kernel
theorem dL_law_888 : decode cL_law 888 = .ok (.iadd, 1) := by decide +kernel
theorem dL_law_889 : decode cL_law 889 = .ok (.iaload, 1) := by decide +kernel
theorem dL_law_890 : decode cL_law 890 = .ok (.invokevirtual 98, 3) := by decide +kernel
theorem dL_law_893 : decode cL_law 893 = .ok (.if_icmp .eq 566, 3) := by decide +kernel
theorem dL_law_896 : decode cL_law 896 = .ok (.iconst 0, 1) := by decide +kernel
theorem dL_law_897 : decode cL_law 897 = .ok (.ireturn, 1) := by decide +kernel
theorem dL_law_898 : decode cL_law 898 = .ok (.aload_n 1, 1) := by decide +kernel
theorem dL_law_899 : decode cL_law 899 = .ok (.aload_n 0, 1) := by decide +kernel
theorem dL_law_900 : decode cL_law 900 = .ok (.iload_n 3, 1) := by decide +kernel
theorem dL_law_901 : decode cL_law 901 = .ok (.iconst 1, 1) := by decide +kernel
theorem dL_law_902 : decode cL_law 902 = .ok (.iadd, 1) := by decide +kernel
theorem dL_law_903 : decode cL_law 903 = .ok (.iaload, 1) := by decide +kernel
theorem dL_law_904 : decode cL_law 904 = .ok (.aload_n 0, 1) := by decide +kernel
theorem dL_law_905 : decode cL_law 905 = .ok (.iload_n 3, 1) := by decide +kernel
theorem dL_law_906 : decode cL_law 906 = .ok (.iconst 2, 1) := by decide +kernel
theorem dL_law_907 : decode cL_law 907 = .ok (.iadd, 1) := by decide +kernel
theorem dL_law_908 : decode cL_law 908 = .ok (.iaload, 1) := by decide +kernel
theorem dL_law_909 : decode cL_law 909 = .ok (.aload_n 0, 1) := by decide +kernel
theorem dL_law_910 : decode cL_law 910 = .ok (.iload_n 3, 1) := by decide +kernel
theorem dL_law_911 : decode cL_law 911 = .ok (.iconst 3, 1) := by decide +kernel
theorem dL_law_912 : decode cL_law 912 = .ok (.iadd, 1) := by decide +kernel
theorem dL_law_913 : decode cL_law 913 = .ok (.iaload, 1) := by decide +kernel
theorem dL_law_914 : decode cL_law 914 = .ok (.aload_n 0, 1) := by decide +kernel
theorem dL_law_915 : decode cL_law 915 = .ok (.iload_n 3, 1) := by decide +kernel
theorem dL_law_916 : decode cL_law 916 = .ok (.iconst 4, 1) := by decide +kernel
theorem dL_law_917 : decode cL_law 917 = .ok (.iadd, 1) := by decide +kernel
theorem dL_law_918 : decode cL_law 918 = .ok (.iaload, 1) := by decide +kernel
theorem dL_law_919 : decode cL_law 919 = .ok (.aload_n 0, 1) := by decide +kernel
theorem dL_law_920 : decode cL_law 920 = .ok (.iload_n 3, 1) := by decide +kernel
theorem dL_law_921 : decode cL_law 921 = .ok (.iconst 5, 1) := by decide +kernel
theorem dL_law_922 : decode cL_law 922 = .ok (.iadd, 1) := by decide +kernel
theorem dL_law_923 : decode cL_law 923 = .ok (.iaload, 1) := by decide +kernel
theorem dL_law_924 : decode cL_law 924 = .ok (.aload_n 0, 1) := by decide +kernel
theorem dL_law_925 : decode cL_law 925 = .ok (.iload_n 3, 1) := by decide +kernel
theorem dL_law_926 : decode cL_law 926 = .ok (.bipush 6, 2) := by decide +kernel
theorem dL_law_928 : decode cL_law 928 = .ok (.iadd, 1) := by decide +kernel
theorem dL_law_929 : decode cL_law 929 = .ok (.iaload, 1) := by decide +kernel
theorem dL_law_930 : decode cL_law 930 = .ok (.invokevirtual 99, 3) := by decide +kernel
theorem dL_law_933 : decode cL_law 933 = .ok (.aload_n 2, 1) := by decide +kernel
theorem dL_law_934 : decode cL_law 934 = .ok (.aload_n 0, 1) := by decide +kernel
theorem dL_law_935 : decode cL_law 935 = .ok (.iload_n 3, 1) := by decide +kernel
theorem dL_law_936 : decode cL_law 936 = .ok (.iconst 1, 1) := by decide +kernel
theorem dL_law_937 : decode cL_law 937 = .ok (.iadd, 1) := by decide +kernel
theorem dL_law_938 : decode cL_law 938 = .ok (.iaload, 1) := by decide +kernel
theorem dL_law_939 : decode cL_law 939 = .ok (.aload_n 0, 1) := by decide +kernel
theorem dL_law_940 : decode cL_law 940 = .ok (.iload_n 3, 1) := by decide +kernel
theorem dL_law_941 : decode cL_law 941 = .ok (.iconst 2, 1) := by decide +kernel
theorem dL_law_942 : decode cL_law 942 = .ok (.iadd, 1) := by decide +kernel
theorem dL_law_943 : decode cL_law 943 = .ok (.iaload, 1) := by decide +kernel
theorem dL_law_944 : decode cL_law 944 = .ok (.aload_n 0, 1) := by decide +kernel
theorem dL_law_945 : decode cL_law 945 = .ok (.iload_n 3, 1) := by decide +kernel
theorem dL_law_946 : decode cL_law 946 = .ok (.iconst 3, 1) := by decide +kernel
theorem dL_law_947 : decode cL_law 947 = .ok (.iadd, 1) := by decide +kernel
theorem dL_law_948 : decode cL_law 948 = .ok (.iaload, 1) := by decide +kernel
theorem dL_law_949 : decode cL_law 949 = .ok (.aload_n 0, 1) := by decide +kernel
theorem dL_law_950 : decode cL_law 950 = .ok (.iload_n 3, 1) := by decide +kernel
theorem dL_law_951 : decode cL_law 951 = .ok (.iconst 4, 1) := by decide +kernel
theorem dL_law_952 : decode cL_law 952 = .ok (.iadd, 1) := by decide +kernel
theorem dL_law_953 : decode cL_law 953 = .ok (.iaload, 1) := by decide +kernel
theorem dL_law_954 : decode cL_law 954 = .ok (.aload_n 0, 1) := by decide +kernel
theorem dL_law_955 : decode cL_law 955 = .ok (.iload_n 3, 1) := by decide +kernel
theorem dL_law_956 : decode cL_law 956 = .ok (.iconst 5, 1) := by decide +kernel
theorem dL_law_957 : decode cL_law 957 = .ok (.iadd, 1) := by decide +kernel
theorem dL_law_958 : decode cL_law 958 = .ok (.iaload, 1) := by decide +kernel
theorem dL_law_959 : decode cL_law 959 = .ok (.aload_n 0, 1) := by decide +kernel
theorem dL_law_960 : decode cL_law 960 = .ok (.iload_n 3, 1) := by decide +kernel
theorem dL_law_961 : decode cL_law 961 = .ok (.bipush 6, 2) := by decide +kernel
theorem dL_law_963 : decode cL_law 963 = .ok (.iadd, 1) := by decide +kernel
theorem dL_law_964 : decode cL_law 964 = .ok (.iaload, 1) := by decide +kernel
theorem dL_law_965 : decode cL_law 965 = .ok (.invokevirtual 103, 3) := by decide +kernel
theorem dL_law_968 : decode cL_law 968 = .ok (.if_icmp .eq 491, 3) := by decide +kernel
theorem dL_law_971 : decode cL_law 971 = .ok (.iconst 0, 1) := by decide +kernel
theorem dL_law_972 : decode cL_law 972 = .ok (.ireturn, 1) := by decide +kernel
theorem dL_law_973 : decode cL_law 973 = .ok (.aload_n 1, 1) := by decide +kernel
theorem dL_law_974 : decode cL_law 974 = .ok (.aload_n 0, 1) := by decide +kernel
theorem dL_law_975 : decode cL_law 975 = .ok (.iload_n 3, 1) := by decide +kernel
theorem dL_law_976 : decode cL_law 976 = .ok (.iconst 1, 1) := by decide +kernel
theorem dL_law_977 : decode cL_law 977 = .ok (.iadd, 1) := by decide +kernel
theorem dL_law_978 : decode cL_law 978 = .ok (.iaload, 1) := by decide +kernel
theorem dL_law_979 : decode cL_law 979 = .ok (.aload_n 0, 1) := by decide +kernel
theorem dL_law_980 : decode cL_law 980 = .ok (.iload_n 3, 1) := by decide +kernel
theorem dL_law_981 : decode cL_law 981 = .ok (.iconst 2, 1) := by decide +kernel
theorem dL_law_982 : decode cL_law 982 = .ok (.iadd, 1) := by decide +kernel
theorem dL_law_983 : decode cL_law 983 = .ok (.iaload, 1) := by decide +kernel
theorem dL_law_984 : decode cL_law 984 = .ok (.aload_n 0, 1) := by decide +kernel
theorem dL_law_985 : decode cL_law 985 = .ok (.iload_n 3, 1) := by decide +kernel
theorem dL_law_986 : decode cL_law 986 = .ok (.iconst 3, 1) := by decide +kernel
theorem dL_law_987 : decode cL_law 987 = .ok (.iadd, 1) := by decide +kernel
theorem dL_law_988 : decode cL_law 988 = .ok (.iaload, 1) := by decide +kernel
theorem dL_law_989 : decode cL_law 989 = .ok (.aload_n 0, 1) := by decide +kernel
theorem dL_law_990 : decode cL_law 990 = .ok (.iload_n 3, 1) := by decide +kernel
theorem dL_law_991 : decode cL_law 991 = .ok (.iconst 4, 1) := by decide +kernel
theorem dL_law_992 : decode cL_law 992 = .ok (.iadd, 1) := by decide +kernel
theorem dL_law_993 : decode cL_law 993 = .ok (.iaload, 1) := by decide +kernel
theorem dL_law_994 : decode cL_law 994 = .ok (.aload_n 0, 1) := by decide +kernel
theorem dL_law_995 : decode cL_law 995 = .ok (.iload_n 3, 1) := by decide +kernel
theorem dL_law_996 : decode cL_law 996 = .ok (.iconst 5, 1) := by decide +kernel
theorem dL_law_997 : decode cL_law 997 = .ok (.iadd, 1) := by decide +kernel
theorem dL_law_998 : decode cL_law 998 = .ok (.iaload, 1) := by decide +kernel
theorem dL_law_999 : decode cL_law 999 = .ok (.aload_n 0, 1) := by decide +kernel
theorem dL_law_1000 : decode cL_law 1000 = .ok (.iload_n 3, 1) := by decide +kernel
theorem dL_law_1001 : decode cL_law 1001 = .ok (.bipush 6, 2) := by decide +kernel
theorem dL_law_1003 : decode cL_law 1003 = .ok (.iadd, 1) := by decide +kernel
theorem dL_law_1004 : decode cL_law 1004 = .ok (.iaload, 1) := by decide +kernel
theorem dL_law_1005 : decode cL_law 1005 = .ok (.invokevirtual 104, 3) := by decide +kernel
theorem dL_law_1008 : decode cL_law 1008 = .ok (.aload_n 2, 1) := by decide +kernel
theorem dL_law_1009 : decode cL_law 1009 = .ok (.aload_n 0, 1) := by decide +kernel
theorem dL_law_1010 : decode cL_law 1010 = .ok (.iload_n 3, 1) := by decide +kernel
theorem dL_law_1011 : decode cL_law 1011 = .ok (.iconst 1, 1) := by decide +kernel
theorem dL_law_1012 : decode cL_law 1012 = .ok (.iadd, 1) := by decide +kernel
theorem dL_law_1013 : decode cL_law 1013 = .ok (.iaload, 1) := by decide +kernel
theorem dL_law_1014 : decode cL_law 1014 = .ok (.aload_n 0, 1) := by decide +kernel
theorem dL_law_1015 : decode cL_law 1015 = .ok (.iload_n 3, 1) := by decide +kernel
theorem dL_law_1016 : decode cL_law 1016 = .ok (.iconst 2, 1) := by decide +kernel
theorem dL_law_1017 : decode cL_law 1017 = .ok (.iadd, 1) := by decide +kernel
theorem dL_law_1018 : decode cL_law 1018 = .ok (.iaload, 1) := by decide +kernel
theorem dL_law_1019 : decode cL_law 1019 = .ok (.aload_n 0, 1) := by decide +kernel
theorem dL_law_1020 : decode cL_law 1020 = .ok (.iload_n 3, 1) := by decide +kernel
theorem dL_law_1021 : decode cL_law 1021 = .ok (.iconst 3, 1) := by decide +kernel
theorem dL_law_1022 : decode cL_law 1022 = .ok (.iadd, 1) := by decide +kernel
theorem dL_law_1023 : decode cL_law 1023 = .ok (.iaload, 1) := by decide +kernel
theorem dL_law_1024 : decode cL_law 1024 = .ok (.aload_n 0, 1) := by decide +kernel
theorem dL_law_1025 : decode cL_law 1025 = .ok (.iload_n 3, 1) := by decide +kernel
theorem dL_law_1026 : decode cL_law 1026 = .ok (.iconst 4, 1) := by decide +kernel
theorem dL_law_1027 : decode cL_law 1027 = .ok (.iadd, 1) := by decide +kernel
theorem dL_law_1028 : decode cL_law 1028 = .ok (.iaload, 1) := by decide +kernel
theorem dL_law_1029 : decode cL_law 1029 = .ok (.aload_n 0, 1) := by decide +kernel
theorem dL_law_1030 : decode cL_law 1030 = .ok (.iload_n 3, 1) := by decide +kernel
theorem dL_law_1031 : decode cL_law 1031 = .ok (.iconst 5, 1) := by decide +kernel
theorem dL_law_1032 : decode cL_law 1032 = .ok (.iadd, 1) := by decide +kernel
theorem dL_law_1033 : decode cL_law 1033 = .ok (.iaload, 1) := by decide +kernel
theorem dL_law_1034 : decode cL_law 1034 = .ok (.aload_n 0, 1) := by decide +kernel
theorem dL_law_1035 : decode cL_law 1035 = .ok (.iload_n 3, 1) := by decide +kernel
theorem dL_law_1036 : decode cL_law 1036 = .ok (.bipush 6, 2) := by decide +kernel
theorem dL_law_1038 : decode cL_law 1038 = .ok (.iadd, 1) := by decide +kernel
theorem dL_law_1039 : decode cL_law 1039 = .ok (.iaload, 1) := by decide +kernel
theorem dL_law_1040 : decode cL_law 1040 = .ok (.invokevirtual 107, 3) := by decide +kernel
theorem dL_law_1043 : decode cL_law 1043 = .ok (.if_icmp .eq 416, 3) := by decide +kernel
theorem dL_law_1046 : decode cL_law 1046 = .ok (.iconst 0, 1) := by decide +kernel
theorem dL_law_1047 : decode cL_law 1047 = .ok (.ireturn, 1) := by decide +kernel
theorem dL_law_1048 : decode cL_law 1048 = .ok (.aload_n 1, 1) := by decide +kernel
theorem dL_law_1049 : decode cL_law 1049 = .ok (.aload_n 0, 1) := by decide +kernel
theorem dL_law_1050 : decode cL_law 1050 = .ok (.iload_n 3, 1) := by decide +kernel
theorem dL_law_1051 : decode cL_law 1051 = .ok (.iconst 1, 1) := by decide +kernel
theorem dL_law_1052 : decode cL_law 1052 = .ok (.iadd, 1) := by decide +kernel
theorem dL_law_1053 : decode cL_law 1053 = .ok (.iaload, 1) := by decide +kernel
theorem dL_law_1054 : decode cL_law 1054 = .ok (.aload_n 0, 1) := by decide +kernel
theorem dL_law_1055 : decode cL_law 1055 = .ok (.iload_n 3, 1) := by decide +kernel
theorem dL_law_1056 : decode cL_law 1056 = .ok (.iconst 2, 1) := by decide +kernel
theorem dL_law_1057 : decode cL_law 1057 = .ok (.iadd, 1) := by decide +kernel
theorem dL_law_1058 : decode cL_law 1058 = .ok (.iaload, 1) := by decide +kernel
theorem dL_law_1059 : decode cL_law 1059 = .ok (.invokevirtual 108, 3) := by decide +kernel
theorem dL_law_1062 : decode cL_law 1062 = .ok (.aload_n 2, 1) := by decide +kernel
theorem dL_law_1063 : decode cL_law 1063 = .ok (.aload_n 0, 1) := by decide +kernel
theorem dL_law_1064 : decode cL_law 1064 = .ok (.iload_n 3, 1) := by decide +kernel
theorem dL_law_1065 : decode cL_law 1065 = .ok (.iconst 1, 1) := by decide +kernel
theorem dL_law_1066 : decode cL_law 1066 = .ok (.iadd, 1) := by decide +kernel
theorem dL_law_1067 : decode cL_law 1067 = .ok (.iaload, 1) := by decide +kernel
theorem dL_law_1068 : decode cL_law 1068 = .ok (.aload_n 0, 1) := by decide +kernel
theorem dL_law_1069 : decode cL_law 1069 = .ok (.iload_n 3, 1) := by decide +kernel
theorem dL_law_1070 : decode cL_law 1070 = .ok (.iconst 2, 1) := by decide +kernel
theorem dL_law_1071 : decode cL_law 1071 = .ok (.iadd, 1) := by decide +kernel
theorem dL_law_1072 : decode cL_law 1072 = .ok (.iaload, 1) := by decide +kernel
theorem dL_law_1073 : decode cL_law 1073 = .ok (.invokevirtual 111, 3) := by decide +kernel
theorem dL_law_1076 : decode cL_law 1076 = .ok (.if_icmp .eq 383, 3) := by decide +kernel
theorem dL_law_1079 : decode cL_law 1079 = .ok (.iconst 0, 1) := by decide +kernel
theorem dL_law_1080 : decode cL_law 1080 = .ok (.ireturn, 1) := by decide +kernel
theorem dL_law_1081 : decode cL_law 1081 = .ok (.aload_n 1, 1) := by decide +kernel
theorem dL_law_1082 : decode cL_law 1082 = .ok (.aload_n 0, 1) := by decide +kernel
theorem dL_law_1083 : decode cL_law 1083 = .ok (.iload_n 3, 1) := by decide +kernel
theorem dL_law_1084 : decode cL_law 1084 = .ok (.iconst 1, 1) := by decide +kernel
theorem dL_law_1085 : decode cL_law 1085 = .ok (.iadd, 1) := by decide +kernel
theorem dL_law_1086 : decode cL_law 1086 = .ok (.iaload, 1) := by decide +kernel
theorem dL_law_1087 : decode cL_law 1087 = .ok (.aload_n 0, 1) := by decide +kernel
theorem dL_law_1088 : decode cL_law 1088 = .ok (.iload_n 3, 1) := by decide +kernel
theorem dL_law_1089 : decode cL_law 1089 = .ok (.iconst 2, 1) := by decide +kernel
theorem dL_law_1090 : decode cL_law 1090 = .ok (.iadd, 1) := by decide +kernel
theorem dL_law_1091 : decode cL_law 1091 = .ok (.iaload, 1) := by decide +kernel
theorem dL_law_1092 : decode cL_law 1092 = .ok (.invokevirtual 112, 3) := by decide +kernel
theorem dL_law_1095 : decode cL_law 1095 = .ok (.aload_n 2, 1) := by decide +kernel
theorem dL_law_1096 : decode cL_law 1096 = .ok (.aload_n 0, 1) := by decide +kernel
theorem dL_law_1097 : decode cL_law 1097 = .ok (.iload_n 3, 1) := by decide +kernel
theorem dL_law_1098 : decode cL_law 1098 = .ok (.iconst 1, 1) := by decide +kernel
theorem dL_law_1099 : decode cL_law 1099 = .ok (.iadd, 1) := by decide +kernel
theorem dL_law_1100 : decode cL_law 1100 = .ok (.iaload, 1) := by decide +kernel
theorem dL_law_1101 : decode cL_law 1101 = .ok (.aload_n 0, 1) := by decide +kernel
theorem dL_law_1102 : decode cL_law 1102 = .ok (.iload_n 3, 1) := by decide +kernel
theorem dL_law_1103 : decode cL_law 1103 = .ok (.iconst 2, 1) := by decide +kernel
theorem dL_law_1104 : decode cL_law 1104 = .ok (.iadd, 1) := by decide +kernel
theorem dL_law_1105 : decode cL_law 1105 = .ok (.iaload, 1) := by decide +kernel
theorem dL_law_1106 : decode cL_law 1106 = .ok (.invokevirtual 116, 3) := by decide +kernel
theorem dL_law_1109 : decode cL_law 1109 = .ok (.lcmp, 1) := by decide +kernel
theorem dL_law_1110 : decode cL_law 1110 = .ok (.ifCond .eq 349, 3) := by decide +kernel
theorem dL_law_1113 : decode cL_law 1113 = .ok (.iconst 0, 1) := by decide +kernel
theorem dL_law_1114 : decode cL_law 1114 = .ok (.ireturn, 1) := by decide +kernel
theorem dL_law_1115 : decode cL_law 1115 = .ok (.aload_n 1, 1) := by decide +kernel
theorem dL_law_1116 : decode cL_law 1116 = .ok (.aload_n 0, 1) := by decide +kernel
theorem dL_law_1117 : decode cL_law 1117 = .ok (.iload_n 3, 1) := by decide +kernel
theorem dL_law_1118 : decode cL_law 1118 = .ok (.iconst 1, 1) := by decide +kernel
theorem dL_law_1119 : decode cL_law 1119 = .ok (.iadd, 1) := by decide +kernel
theorem dL_law_1120 : decode cL_law 1120 = .ok (.iaload, 1) := by decide +kernel
theorem dL_law_1121 : decode cL_law 1121 = .ok (.aload_n 0, 1) := by decide +kernel
theorem dL_law_1122 : decode cL_law 1122 = .ok (.iload_n 3, 1) := by decide +kernel
theorem dL_law_1123 : decode cL_law 1123 = .ok (.iconst 2, 1) := by decide +kernel
theorem dL_law_1124 : decode cL_law 1124 = .ok (.iadd, 1) := by decide +kernel
theorem dL_law_1125 : decode cL_law 1125 = .ok (.iaload, 1) := by decide +kernel
theorem dL_law_1126 : decode cL_law 1126 = .ok (.aload_n 0, 1) := by decide +kernel
theorem dL_law_1127 : decode cL_law 1127 = .ok (.iload_n 3, 1) := by decide +kernel
theorem dL_law_1128 : decode cL_law 1128 = .ok (.iconst 3, 1) := by decide +kernel
theorem dL_law_1129 : decode cL_law 1129 = .ok (.iadd, 1) := by decide +kernel
theorem dL_law_1130 : decode cL_law 1130 = .ok (.iaload, 1) := by decide +kernel
theorem dL_law_1131 : decode cL_law 1131 = .ok (.invokevirtual 117, 3) := by decide +kernel
theorem dL_law_1134 : decode cL_law 1134 = .ok (.aload_n 2, 1) := by decide +kernel
theorem dL_law_1135 : decode cL_law 1135 = .ok (.aload_n 0, 1) := by decide +kernel
theorem dL_law_1136 : decode cL_law 1136 = .ok (.iload_n 3, 1) := by decide +kernel
theorem dL_law_1137 : decode cL_law 1137 = .ok (.iconst 1, 1) := by decide +kernel
theorem dL_law_1138 : decode cL_law 1138 = .ok (.iadd, 1) := by decide +kernel
theorem dL_law_1139 : decode cL_law 1139 = .ok (.iaload, 1) := by decide +kernel
theorem dL_law_1140 : decode cL_law 1140 = .ok (.aload_n 0, 1) := by decide +kernel
theorem dL_law_1141 : decode cL_law 1141 = .ok (.iload_n 3, 1) := by decide +kernel
theorem dL_law_1142 : decode cL_law 1142 = .ok (.iconst 2, 1) := by decide +kernel
theorem dL_law_1143 : decode cL_law 1143 = .ok (.iadd, 1) := by decide +kernel
theorem dL_law_1144 : decode cL_law 1144 = .ok (.iaload, 1) := by decide +kernel
theorem dL_law_1145 : decode cL_law 1145 = .ok (.aload_n 0, 1) := by decide +kernel
theorem dL_law_1146 : decode cL_law 1146 = .ok (.iload_n 3, 1) := by decide +kernel
theorem dL_law_1147 : decode cL_law 1147 = .ok (.iconst 3, 1) := by decide +kernel
theorem dL_law_1148 : decode cL_law 1148 = .ok (.iadd, 1) := by decide +kernel
theorem dL_law_1149 : decode cL_law 1149 = .ok (.iaload, 1) := by decide +kernel
theorem dL_law_1150 : decode cL_law 1150 = .ok (.invokevirtual 120, 3) := by decide +kernel
theorem dL_law_1153 : decode cL_law 1153 = .ok (.if_icmp .eq 306, 3) := by decide +kernel
theorem dL_law_1156 : decode cL_law 1156 = .ok (.iconst 0, 1) := by decide +kernel
theorem dL_law_1157 : decode cL_law 1157 = .ok (.ireturn, 1) := by decide +kernel
theorem dL_law_1158 : decode cL_law 1158 = .ok (.aload_n 1, 1) := by decide +kernel
theorem dL_law_1159 : decode cL_law 1159 = .ok (.aload_n 0, 1) := by decide +kernel
theorem dL_law_1160 : decode cL_law 1160 = .ok (.iload_n 3, 1) := by decide +kernel
theorem dL_law_1161 : decode cL_law 1161 = .ok (.iconst 1, 1) := by decide +kernel
theorem dL_law_1162 : decode cL_law 1162 = .ok (.iadd, 1) := by decide +kernel
theorem dL_law_1163 : decode cL_law 1163 = .ok (.iaload, 1) := by decide +kernel
theorem dL_law_1164 : decode cL_law 1164 = .ok (.invokevirtual 121, 3) := by decide +kernel
theorem dL_law_1167 : decode cL_law 1167 = .ok (.aload_n 2, 1) := by decide +kernel
theorem dL_law_1168 : decode cL_law 1168 = .ok (.aload_n 0, 1) := by decide +kernel
theorem dL_law_1169 : decode cL_law 1169 = .ok (.iload_n 3, 1) := by decide +kernel
theorem dL_law_1170 : decode cL_law 1170 = .ok (.iconst 1, 1) := by decide +kernel
theorem dL_law_1171 : decode cL_law 1171 = .ok (.iadd, 1) := by decide +kernel
theorem dL_law_1172 : decode cL_law 1172 = .ok (.iaload, 1) := by decide +kernel
theorem dL_law_1173 : decode cL_law 1173 = .ok (.invokevirtual 124, 3) := by decide +kernel
theorem dL_law_1176 : decode cL_law 1176 = .ok (.if_icmp .eq 283, 3) := by decide +kernel
theorem dL_law_1179 : decode cL_law 1179 = .ok (.iconst 0, 1) := by decide +kernel
theorem dL_law_1180 : decode cL_law 1180 = .ok (.ireturn, 1) := by decide +kernel
theorem dL_law_1181 : decode cL_law 1181 = .ok (.aload_n 1, 1) := by decide +kernel
theorem dL_law_1182 : decode cL_law 1182 = .ok (.aload_n 0, 1) := by decide +kernel
theorem dL_law_1183 : decode cL_law 1183 = .ok (.iload_n 3, 1) := by decide +kernel
theorem dL_law_1184 : decode cL_law 1184 = .ok (.iconst 1, 1) := by decide +kernel
theorem dL_law_1185 : decode cL_law 1185 = .ok (.iadd, 1) := by decide +kernel
theorem dL_law_1186 : decode cL_law 1186 = .ok (.iaload, 1) := by decide +kernel
theorem dL_law_1187 : decode cL_law 1187 = .ok (.aload_n 0, 1) := by decide +kernel
theorem dL_law_1188 : decode cL_law 1188 = .ok (.iload_n 3, 1) := by decide +kernel
theorem dL_law_1189 : decode cL_law 1189 = .ok (.iconst 2, 1) := by decide +kernel
theorem dL_law_1190 : decode cL_law 1190 = .ok (.iadd, 1) := by decide +kernel
theorem dL_law_1191 : decode cL_law 1191 = .ok (.iaload, 1) := by decide +kernel
theorem dL_law_1192 : decode cL_law 1192 = .ok (.aload_n 0, 1) := by decide +kernel
theorem dL_law_1193 : decode cL_law 1193 = .ok (.iload_n 3, 1) := by decide +kernel
theorem dL_law_1194 : decode cL_law 1194 = .ok (.iconst 3, 1) := by decide +kernel
theorem dL_law_1195 : decode cL_law 1195 = .ok (.iadd, 1) := by decide +kernel
theorem dL_law_1196 : decode cL_law 1196 = .ok (.iaload, 1) := by decide +kernel
theorem dL_law_1197 : decode cL_law 1197 = .ok (.invokevirtual 125, 3) := by decide +kernel
theorem dL_law_1200 : decode cL_law 1200 = .ok (.aload_n 2, 1) := by decide +kernel
theorem dL_law_1201 : decode cL_law 1201 = .ok (.aload_n 0, 1) := by decide +kernel
theorem dL_law_1202 : decode cL_law 1202 = .ok (.iload_n 3, 1) := by decide +kernel
theorem dL_law_1203 : decode cL_law 1203 = .ok (.iconst 1, 1) := by decide +kernel
theorem dL_law_1204 : decode cL_law 1204 = .ok (.iadd, 1) := by decide +kernel
theorem dL_law_1205 : decode cL_law 1205 = .ok (.iaload, 1) := by decide +kernel
theorem dL_law_1206 : decode cL_law 1206 = .ok (.aload_n 0, 1) := by decide +kernel
theorem dL_law_1207 : decode cL_law 1207 = .ok (.iload_n 3, 1) := by decide +kernel
theorem dL_law_1208 : decode cL_law 1208 = .ok (.iconst 2, 1) := by decide +kernel
theorem dL_law_1209 : decode cL_law 1209 = .ok (.iadd, 1) := by decide +kernel
theorem dL_law_1210 : decode cL_law 1210 = .ok (.iaload, 1) := by decide +kernel
theorem dL_law_1211 : decode cL_law 1211 = .ok (.aload_n 0, 1) := by decide +kernel
theorem dL_law_1212 : decode cL_law 1212 = .ok (.iload_n 3, 1) := by decide +kernel
theorem dL_law_1213 : decode cL_law 1213 = .ok (.iconst 3, 1) := by decide +kernel
theorem dL_law_1214 : decode cL_law 1214 = .ok (.iadd, 1) := by decide +kernel
theorem dL_law_1215 : decode cL_law 1215 = .ok (.iaload, 1) := by decide +kernel
theorem dL_law_1216 : decode cL_law 1216 = .ok (.invokevirtual 128, 3) := by decide +kernel
theorem dL_law_1219 : decode cL_law 1219 = .ok (.if_icmp .eq 240, 3) := by decide +kernel
theorem dL_law_1222 : decode cL_law 1222 = .ok (.iconst 0, 1) := by decide +kernel
theorem dL_law_1223 : decode cL_law 1223 = .ok (.ireturn, 1) := by decide +kernel
theorem dL_law_1224 : decode cL_law 1224 = .ok (.aload_n 1, 1) := by decide +kernel
theorem dL_law_1225 : decode cL_law 1225 = .ok (.aload_n 0, 1) := by decide +kernel
theorem dL_law_1226 : decode cL_law 1226 = .ok (.iload_n 3, 1) := by decide +kernel
theorem dL_law_1227 : decode cL_law 1227 = .ok (.iconst 1, 1) := by decide +kernel
theorem dL_law_1228 : decode cL_law 1228 = .ok (.iadd, 1) := by decide +kernel
theorem dL_law_1229 : decode cL_law 1229 = .ok (.iaload, 1) := by decide +kernel
theorem dL_law_1230 : decode cL_law 1230 = .ok (.aload_n 0, 1) := by decide +kernel
theorem dL_law_1231 : decode cL_law 1231 = .ok (.iload_n 3, 1) := by decide +kernel
theorem dL_law_1232 : decode cL_law 1232 = .ok (.iconst 2, 1) := by decide +kernel
theorem dL_law_1233 : decode cL_law 1233 = .ok (.iadd, 1) := by decide +kernel
theorem dL_law_1234 : decode cL_law 1234 = .ok (.iaload, 1) := by decide +kernel
theorem dL_law_1235 : decode cL_law 1235 = .ok (.aload_n 0, 1) := by decide +kernel
theorem dL_law_1236 : decode cL_law 1236 = .ok (.iload_n 3, 1) := by decide +kernel
theorem dL_law_1237 : decode cL_law 1237 = .ok (.iconst 3, 1) := by decide +kernel
theorem dL_law_1238 : decode cL_law 1238 = .ok (.iadd, 1) := by decide +kernel
theorem dL_law_1239 : decode cL_law 1239 = .ok (.iaload, 1) := by decide +kernel
theorem dL_law_1240 : decode cL_law 1240 = .ok (.invokevirtual 129, 3) := by decide +kernel
theorem dL_law_1243 : decode cL_law 1243 = .ok (.aload_n 2, 1) := by decide +kernel
theorem dL_law_1244 : decode cL_law 1244 = .ok (.aload_n 0, 1) := by decide +kernel
theorem dL_law_1245 : decode cL_law 1245 = .ok (.iload_n 3, 1) := by decide +kernel
theorem dL_law_1246 : decode cL_law 1246 = .ok (.iconst 1, 1) := by decide +kernel
theorem dL_law_1247 : decode cL_law 1247 = .ok (.iadd, 1) := by decide +kernel
theorem dL_law_1248 : decode cL_law 1248 = .ok (.iaload, 1) := by decide +kernel
theorem dL_law_1249 : decode cL_law 1249 = .ok (.aload_n 0, 1) := by decide +kernel
theorem dL_law_1250 : decode cL_law 1250 = .ok (.iload_n 3, 1) := by decide +kernel
theorem dL_law_1251 : decode cL_law 1251 = .ok (.iconst 2, 1) := by decide +kernel
theorem dL_law_1252 : decode cL_law 1252 = .ok (.iadd, 1) := by decide +kernel
theorem dL_law_1253 : decode cL_law 1253 = .ok (.iaload, 1) := by decide +kernel
theorem dL_law_1254 : decode cL_law 1254 = .ok (.aload_n 0, 1) := by decide +kernel
theorem dL_law_1255 : decode cL_law 1255 = .ok (.iload_n 3, 1) := by decide +kernel
theorem dL_law_1256 : decode cL_law 1256 = .ok (.iconst 3, 1) := by decide +kernel
theorem dL_law_1257 : decode cL_law 1257 = .ok (.iadd, 1) := by decide +kernel
theorem dL_law_1258 : decode cL_law 1258 = .ok (.iaload, 1) := by decide +kernel
theorem dL_law_1259 : decode cL_law 1259 = .ok (.invokevirtual 133, 3) := by decide +kernel
theorem dL_law_1262 : decode cL_law 1262 = .ok (.lcmp, 1) := by decide +kernel
theorem dL_law_1263 : decode cL_law 1263 = .ok (.ifCond .eq 196, 3) := by decide +kernel
theorem dL_law_1266 : decode cL_law 1266 = .ok (.iconst 0, 1) := by decide +kernel
theorem dL_law_1267 : decode cL_law 1267 = .ok (.ireturn, 1) := by decide +kernel
theorem dL_law_1268 : decode cL_law 1268 = .ok (.aload_n 1, 1) := by decide +kernel
theorem dL_law_1269 : decode cL_law 1269 = .ok (.aload_n 0, 1) := by decide +kernel
theorem dL_law_1270 : decode cL_law 1270 = .ok (.iload_n 3, 1) := by decide +kernel
theorem dL_law_1271 : decode cL_law 1271 = .ok (.iconst 1, 1) := by decide +kernel
theorem dL_law_1272 : decode cL_law 1272 = .ok (.iadd, 1) := by decide +kernel
theorem dL_law_1273 : decode cL_law 1273 = .ok (.iaload, 1) := by decide +kernel
theorem dL_law_1274 : decode cL_law 1274 = .ok (.aload_n 0, 1) := by decide +kernel
theorem dL_law_1275 : decode cL_law 1275 = .ok (.iload_n 3, 1) := by decide +kernel
theorem dL_law_1276 : decode cL_law 1276 = .ok (.iconst 2, 1) := by decide +kernel
theorem dL_law_1277 : decode cL_law 1277 = .ok (.iadd, 1) := by decide +kernel
theorem dL_law_1278 : decode cL_law 1278 = .ok (.iaload, 1) := by decide +kernel
theorem dL_law_1279 : decode cL_law 1279 = .ok (.aload_n 0, 1) := by decide +kernel
theorem dL_law_1280 : decode cL_law 1280 = .ok (.iload_n 3, 1) := by decide +kernel
theorem dL_law_1281 : decode cL_law 1281 = .ok (.iconst 3, 1) := by decide +kernel
theorem dL_law_1282 : decode cL_law 1282 = .ok (.iadd, 1) := by decide +kernel
theorem dL_law_1283 : decode cL_law 1283 = .ok (.iaload, 1) := by decide +kernel
theorem dL_law_1284 : decode cL_law 1284 = .ok (.aload_n 0, 1) := by decide +kernel
theorem dL_law_1285 : decode cL_law 1285 = .ok (.iload_n 3, 1) := by decide +kernel
theorem dL_law_1286 : decode cL_law 1286 = .ok (.iconst 4, 1) := by decide +kernel
theorem dL_law_1287 : decode cL_law 1287 = .ok (.iadd, 1) := by decide +kernel
theorem dL_law_1288 : decode cL_law 1288 = .ok (.iaload, 1) := by decide +kernel
theorem dL_law_1289 : decode cL_law 1289 = .ok (.aload_n 0, 1) := by decide +kernel
theorem dL_law_1290 : decode cL_law 1290 = .ok (.iload_n 3, 1) := by decide +kernel
theorem dL_law_1291 : decode cL_law 1291 = .ok (.iconst 5, 1) := by decide +kernel
theorem dL_law_1292 : decode cL_law 1292 = .ok (.iadd, 1) := by decide +kernel
theorem dL_law_1293 : decode cL_law 1293 = .ok (.iaload, 1) := by decide +kernel
theorem dL_law_1294 : decode cL_law 1294 = .ok (.invokevirtual 134, 3) := by decide +kernel
theorem dL_law_1297 : decode cL_law 1297 = .ok (.aload_n 2, 1) := by decide +kernel
theorem dL_law_1298 : decode cL_law 1298 = .ok (.aload_n 0, 1) := by decide +kernel
theorem dL_law_1299 : decode cL_law 1299 = .ok (.iload_n 3, 1) := by decide +kernel
theorem dL_law_1300 : decode cL_law 1300 = .ok (.iconst 1, 1) := by decide +kernel
theorem dL_law_1301 : decode cL_law 1301 = .ok (.iadd, 1) := by decide +kernel
theorem dL_law_1302 : decode cL_law 1302 = .ok (.iaload, 1) := by decide +kernel
theorem dL_law_1303 : decode cL_law 1303 = .ok (.aload_n 0, 1) := by decide +kernel
theorem dL_law_1304 : decode cL_law 1304 = .ok (.iload_n 3, 1) := by decide +kernel
theorem dL_law_1305 : decode cL_law 1305 = .ok (.iconst 2, 1) := by decide +kernel
theorem dL_law_1306 : decode cL_law 1306 = .ok (.iadd, 1) := by decide +kernel
theorem dL_law_1307 : decode cL_law 1307 = .ok (.iaload, 1) := by decide +kernel
theorem dL_law_1308 : decode cL_law 1308 = .ok (.aload_n 0, 1) := by decide +kernel
theorem dL_law_1309 : decode cL_law 1309 = .ok (.iload_n 3, 1) := by decide +kernel
theorem dL_law_1310 : decode cL_law 1310 = .ok (.iconst 3, 1) := by decide +kernel
theorem dL_law_1311 : decode cL_law 1311 = .ok (.iadd, 1) := by decide +kernel
theorem dL_law_1312 : decode cL_law 1312 = .ok (.iaload, 1) := by decide +kernel
theorem dL_law_1313 : decode cL_law 1313 = .ok (.aload_n 0, 1) := by decide +kernel
theorem dL_law_1314 : decode cL_law 1314 = .ok (.iload_n 3, 1) := by decide +kernel
theorem dL_law_1315 : decode cL_law 1315 = .ok (.iconst 4, 1) := by decide +kernel
theorem dL_law_1316 : decode cL_law 1316 = .ok (.iadd, 1) := by decide +kernel
theorem dL_law_1317 : decode cL_law 1317 = .ok (.iaload, 1) := by decide +kernel
theorem dL_law_1318 : decode cL_law 1318 = .ok (.aload_n 0, 1) := by decide +kernel
theorem dL_law_1319 : decode cL_law 1319 = .ok (.iload_n 3, 1) := by decide +kernel
theorem dL_law_1320 : decode cL_law 1320 = .ok (.iconst 5, 1) := by decide +kernel
theorem dL_law_1321 : decode cL_law 1321 = .ok (.iadd, 1) := by decide +kernel
theorem dL_law_1322 : decode cL_law 1322 = .ok (.iaload, 1) := by decide +kernel
theorem dL_law_1323 : decode cL_law 1323 = .ok (.invokevirtual 137, 3) := by decide +kernel
theorem dL_law_1326 : decode cL_law 1326 = .ok (.if_icmp .eq 133, 3) := by decide +kernel
theorem dL_law_1329 : decode cL_law 1329 = .ok (.iconst 0, 1) := by decide +kernel
theorem dL_law_1330 : decode cL_law 1330 = .ok (.ireturn, 1) := by decide +kernel
theorem dL_law_1331 : decode cL_law 1331 = .ok (.aload_n 1, 1) := by decide +kernel
theorem dL_law_1332 : decode cL_law 1332 = .ok (.aload_n 0, 1) := by decide +kernel
theorem dL_law_1333 : decode cL_law 1333 = .ok (.iload_n 3, 1) := by decide +kernel
theorem dL_law_1334 : decode cL_law 1334 = .ok (.iconst 1, 1) := by decide +kernel
theorem dL_law_1335 : decode cL_law 1335 = .ok (.iadd, 1) := by decide +kernel
theorem dL_law_1336 : decode cL_law 1336 = .ok (.iaload, 1) := by decide +kernel
theorem dL_law_1337 : decode cL_law 1337 = .ok (.invokevirtual 138, 3) := by decide +kernel
theorem dL_law_1340 : decode cL_law 1340 = .ok (.aload_n 2, 1) := by decide +kernel
theorem dL_law_1341 : decode cL_law 1341 = .ok (.aload_n 0, 1) := by decide +kernel
theorem dL_law_1342 : decode cL_law 1342 = .ok (.iload_n 3, 1) := by decide +kernel
theorem dL_law_1343 : decode cL_law 1343 = .ok (.iconst 1, 1) := by decide +kernel
theorem dL_law_1344 : decode cL_law 1344 = .ok (.iadd, 1) := by decide +kernel
theorem dL_law_1345 : decode cL_law 1345 = .ok (.iaload, 1) := by decide +kernel
theorem dL_law_1346 : decode cL_law 1346 = .ok (.invokevirtual 141, 3) := by decide +kernel
theorem dL_law_1349 : decode cL_law 1349 = .ok (.if_icmp .eq 110, 3) := by decide +kernel
theorem dL_law_1352 : decode cL_law 1352 = .ok (.iconst 0, 1) := by decide +kernel
theorem dL_law_1353 : decode cL_law 1353 = .ok (.ireturn, 1) := by decide +kernel
theorem dL_law_1354 : decode cL_law 1354 = .ok (.aload_n 1, 1) := by decide +kernel
theorem dL_law_1355 : decode cL_law 1355 = .ok (.aload_n 0, 1) := by decide +kernel
theorem dL_law_1356 : decode cL_law 1356 = .ok (.iload_n 3, 1) := by decide +kernel
theorem dL_law_1357 : decode cL_law 1357 = .ok (.iconst 1, 1) := by decide +kernel
theorem dL_law_1358 : decode cL_law 1358 = .ok (.iadd, 1) := by decide +kernel
theorem dL_law_1359 : decode cL_law 1359 = .ok (.iaload, 1) := by decide +kernel
theorem dL_law_1360 : decode cL_law 1360 = .ok (.invokevirtual 142, 3) := by decide +kernel
theorem dL_law_1363 : decode cL_law 1363 = .ok (.aload_n 2, 1) := by decide +kernel
theorem dL_law_1364 : decode cL_law 1364 = .ok (.aload_n 0, 1) := by decide +kernel
theorem dL_law_1365 : decode cL_law 1365 = .ok (.iload_n 3, 1) := by decide +kernel
theorem dL_law_1366 : decode cL_law 1366 = .ok (.iconst 1, 1) := by decide +kernel
theorem dL_law_1367 : decode cL_law 1367 = .ok (.iadd, 1) := by decide +kernel
theorem dL_law_1368 : decode cL_law 1368 = .ok (.iaload, 1) := by decide +kernel
theorem dL_law_1369 : decode cL_law 1369 = .ok (.invokevirtual 145, 3) := by decide +kernel
theorem dL_law_1372 : decode cL_law 1372 = .ok (.if_icmp .eq 87, 3) := by decide +kernel
theorem dL_law_1375 : decode cL_law 1375 = .ok (.iconst 0, 1) := by decide +kernel
theorem dL_law_1376 : decode cL_law 1376 = .ok (.ireturn, 1) := by decide +kernel
theorem dL_law_1377 : decode cL_law 1377 = .ok (.aload_n 1, 1) := by decide +kernel
theorem dL_law_1378 : decode cL_law 1378 = .ok (.aload_n 0, 1) := by decide +kernel
theorem dL_law_1379 : decode cL_law 1379 = .ok (.iload_n 3, 1) := by decide +kernel
theorem dL_law_1380 : decode cL_law 1380 = .ok (.iconst 1, 1) := by decide +kernel
theorem dL_law_1381 : decode cL_law 1381 = .ok (.iadd, 1) := by decide +kernel
theorem dL_law_1382 : decode cL_law 1382 = .ok (.iaload, 1) := by decide +kernel
theorem dL_law_1383 : decode cL_law 1383 = .ok (.aload_n 0, 1) := by decide +kernel
theorem dL_law_1384 : decode cL_law 1384 = .ok (.iload_n 3, 1) := by decide +kernel
theorem dL_law_1385 : decode cL_law 1385 = .ok (.iconst 2, 1) := by decide +kernel
theorem dL_law_1386 : decode cL_law 1386 = .ok (.iadd, 1) := by decide +kernel
theorem dL_law_1387 : decode cL_law 1387 = .ok (.iaload, 1) := by decide +kernel
theorem dL_law_1388 : decode cL_law 1388 = .ok (.invokevirtual 146, 3) := by decide +kernel
theorem dL_law_1391 : decode cL_law 1391 = .ok (.aload_n 2, 1) := by decide +kernel
theorem dL_law_1392 : decode cL_law 1392 = .ok (.aload_n 0, 1) := by decide +kernel
theorem dL_law_1393 : decode cL_law 1393 = .ok (.iload_n 3, 1) := by decide +kernel
theorem dL_law_1394 : decode cL_law 1394 = .ok (.iconst 1, 1) := by decide +kernel
theorem dL_law_1395 : decode cL_law 1395 = .ok (.iadd, 1) := by decide +kernel
theorem dL_law_1396 : decode cL_law 1396 = .ok (.iaload, 1) := by decide +kernel
theorem dL_law_1397 : decode cL_law 1397 = .ok (.aload_n 0, 1) := by decide +kernel
theorem dL_law_1398 : decode cL_law 1398 = .ok (.iload_n 3, 1) := by decide +kernel
theorem dL_law_1399 : decode cL_law 1399 = .ok (.iconst 2, 1) := by decide +kernel
theorem dL_law_1400 : decode cL_law 1400 = .ok (.iadd, 1) := by decide +kernel
theorem dL_law_1401 : decode cL_law 1401 = .ok (.iaload, 1) := by decide +kernel
theorem dL_law_1402 : decode cL_law 1402 = .ok (.invokevirtual 149, 3) := by decide +kernel
theorem dL_law_1405 : decode cL_law 1405 = .ok (.if_icmp .eq 54, 3) := by decide +kernel
theorem dL_law_1408 : decode cL_law 1408 = .ok (.iconst 0, 1) := by decide +kernel
theorem dL_law_1409 : decode cL_law 1409 = .ok (.ireturn, 1) := by decide +kernel
theorem dL_law_1410 : decode cL_law 1410 = .ok (.aload_n 1, 1) := by decide +kernel
theorem dL_law_1411 : decode cL_law 1411 = .ok (.invokevirtual 150, 3) := by decide +kernel
theorem dL_law_1414 : decode cL_law 1414 = .ok (.aload_n 2, 1) := by decide +kernel
theorem dL_law_1415 : decode cL_law 1415 = .ok (.invokevirtual 153, 3) := by decide +kernel
theorem dL_law_1418 : decode cL_law 1418 = .ok (.if_icmp .eq 41, 3) := by decide +kernel
theorem dL_law_1421 : decode cL_law 1421 = .ok (.iconst 0, 1) := by decide +kernel
theorem dL_law_1422 : decode cL_law 1422 = .ok (.ireturn, 1) := by decide +kernel
theorem dL_law_1423 : decode cL_law 1423 = .ok (.aload_n 1, 1) := by decide +kernel
theorem dL_law_1424 : decode cL_law 1424 = .ok (.invokevirtual 154, 3) := by decide +kernel
theorem dL_law_1427 : decode cL_law 1427 = .ok (.aload_n 2, 1) := by decide +kernel
theorem dL_law_1428 : decode cL_law 1428 = .ok (.invokevirtual 157, 3) := by decide +kernel
theorem dL_law_1431 : decode cL_law 1431 = .ok (.if_icmp .eq 28, 3) := by decide +kernel
theorem dL_law_1434 : decode cL_law 1434 = .ok (.iconst 0, 1) := by decide +kernel
theorem dL_law_1435 : decode cL_law 1435 = .ok (.ireturn, 1) := by decide +kernel
theorem dL_law_1436 : decode cL_law 1436 = .ok (.aload_n 1, 1) := by decide +kernel
theorem dL_law_1437 : decode cL_law 1437 = .ok (.aload_n 0, 1) := by decide +kernel
theorem dL_law_1438 : decode cL_law 1438 = .ok (.iload_n 3, 1) := by decide +kernel
theorem dL_law_1439 : decode cL_law 1439 = .ok (.iconst 1, 1) := by decide +kernel
theorem dL_law_1440 : decode cL_law 1440 = .ok (.iadd, 1) := by decide +kernel
theorem dL_law_1441 : decode cL_law 1441 = .ok (.iaload, 1) := by decide +kernel
theorem dL_law_1442 : decode cL_law 1442 = .ok (.invokevirtual 158, 3) := by decide +kernel
theorem dL_law_1445 : decode cL_law 1445 = .ok (.aload_n 2, 1) := by decide +kernel
theorem dL_law_1446 : decode cL_law 1446 = .ok (.aload_n 0, 1) := by decide +kernel
theorem dL_law_1447 : decode cL_law 1447 = .ok (.iload_n 3, 1) := by decide +kernel
theorem dL_law_1448 : decode cL_law 1448 = .ok (.iconst 1, 1) := by decide +kernel
theorem dL_law_1449 : decode cL_law 1449 = .ok (.iadd, 1) := by decide +kernel
theorem dL_law_1450 : decode cL_law 1450 = .ok (.iaload, 1) := by decide +kernel
theorem dL_law_1451 : decode cL_law 1451 = .ok (.invokevirtual 161, 3) := by decide +kernel
theorem dL_law_1454 : decode cL_law 1454 = .ok (.if_icmp .eq 5, 3) := by decide +kernel
theorem dL_law_1457 : decode cL_law 1457 = .ok (.iconst 0, 1) := by decide +kernel
theorem dL_law_1458 : decode cL_law 1458 = .ok (.ireturn, 1) := by decide +kernel
theorem dL_law_1459 : decode cL_law 1459 = .ok (.iinc 3 7, 3) := by decide +kernel
theorem dL_law_1462 : decode cL_law 1462 = .ok (.goto (-1444), 3) := by decide +kernel
theorem dL_law_1465 : decode cL_law 1465 = .ok (.iconst 1, 1) := by decide +kernel
theorem dL_law_1466 : decode cL_law 1466 = .ok (.ireturn, 1) := by decide +kernel
