theorem dX8_init_91 : decode cX8_init 91 = .ok (.iconst 2, 1) := by decide +kernel
theorem dX8_init_92 : decode cX8_init 92 = .ok (.newarray .int, 2) := by decide +kernel
theorem dX8_init_94 : decode cX8_init 94 = .ok (.putfield 46, 3) := by decide +kernel
theorem dX8_init_97 : decode cX8_init 97 = .ok (.aload_n 0, 1) := by decide +kernel
theorem dX8_init_98 : decode cX8_init 98 = .ok (.sipush 4001, 3) := by decide +kernel
theorem dX8_init_101 : decode cX8_init 101 = .ok (.newarray .int, 2) := by decide +kernel
theorem dX8_init_103 : decode cX8_init 103 = .ok (.putfield 49, 3) := by decide +kernel
theorem dX8_init_106 : decode cX8_init 106 = .ok (.aload_n 0, 1) := by decide +kernel
theorem dX8_init_107 : decode cX8_init 107 = .ok (.sipush 4001, 3) := by decide +kernel
theorem dX8_init_110 : decode cX8_init 110 = .ok (.newarray .int, 2) := by decide +kernel
theorem dX8_init_112 : decode cX8_init 112 = .ok (.putfield 52, 3) := by decide +kernel
theorem dX8_init_115 : decode cX8_init 115 = .ok (.aload_n 0, 1) := by decide +kernel
theorem dX8_init_116 : decode cX8_init 116 = .ok (.sipush 16384, 3) := by decide +kernel
theorem dX8_init_119 : decode cX8_init 119 = .ok (.newarray .int, 2) := by decide +kernel
theorem dX8_init_121 : decode cX8_init 121 = .ok (.putfield 55, 3) := by decide +kernel
theorem dX8_init_124 : decode cX8_init 124 = .ok (.aload_n 0, 1) := by decide +kernel
theorem dX8_init_125 : decode cX8_init 125 = .ok (.sipush 4001, 3) := by decide +kernel
theorem dX8_init_128 : decode cX8_init 128 = .ok (.newarray .byte, 2) := by decide +kernel
theorem dX8_init_130 : decode cX8_init 130 = .ok (.putfield 58, 3) := by decide +kernel
theorem dX8_init_133 : decode cX8_init 133 = .ok (.aload_n 0, 1) := by decide +kernel
theorem dX8_init_134 : decode cX8_init 134 = .ok (.sipush 4001, 3) := by decide +kernel
theorem dX8_init_137 : decode cX8_init 137 = .ok (.newarray .byte, 2) := by decide +kernel
theorem dX8_init_139 : decode cX8_init 139 = .ok (.putfield 61, 3) := by decide +kernel
theorem dX8_init_142 : decode cX8_init 142 = .ok (.aload_n 0, 1) := by decide +kernel
theorem dX8_init_143 : decode cX8_init 143 = .ok (.iconst 0, 1) := by decide +kernel
theorem dX8_init_144 : decode cX8_init 144 = .ok (.iconst 4, 1) := by decide +kernel
theorem dX8_init_145 : decode cX8_init 145 = .ok (.iconst 0, 1) := by decide +kernel
theorem dX8_init_146 : decode cX8_init 146 = .ok (.invokevirtual 64, 3) := by decide +kernel
theorem dX8_init_149 : decode cX8_init 149 = .ok (.return_, 1) := by decide +kernel
theorem dX8_feed_0 : decode cX8_feed 0 = .ok (.aload_n 0, 1) := by decide +kernel
theorem dX8_feed_1 : decode cX8_feed 1 = .ok (.getfield 68, 3) := by decide +kernel
theorem dX8_feed_4 : decode cX8_feed 4 = .ok (.bipush 20, 2) := by decide +kernel
theorem dX8_feed_6 : decode cX8_feed 6 = .ok (.iadd, 1) := by decide +kernel
theorem dX8_feed_7 : decode cX8_feed 7 = .ok (.bipush 100, 2) := by decide +kernel
theorem dX8_feed_9 : decode cX8_feed 9 = .ok (.if_icmp .le 5, 3) := by decide +kernel
theorem dX8_feed_12 : decode cX8_feed 12 = .ok (.iconst (-1), 1) := by decide +kernel
theorem dX8_feed_13 : decode cX8_feed 13 = .ok (.ireturn, 1) := by decide +kernel
theorem dX8_feed_14 : decode cX8_feed 14 = .ok (.aload_n 0, 1) := by decide +kernel
theorem dX8_feed_15 : decode cX8_feed 15 = .ok (.iload_n 1, 1) := by decide +kernel
theorem dX8_feed_16 : decode cX8_feed 16 = .ok (.invokevirtual 71, 3) := by decide +kernel
theorem dX8_feed_19 : decode cX8_feed 19 = .ok (.aload_n 0, 1) := by decide +kernel
theorem dX8_feed_20 : decode cX8_feed 20 = .ok (.iload_n 2, 1) := by decide +kernel
theorem dX8_feed_21 : decode cX8_feed 21 = .ok (.invokevirtual 71, 3) := by decide +kernel
theorem dX8_feed_24 : decode cX8_feed 24 = .ok (.aload_n 0, 1) := by decide +kernel
theorem dX8_feed_25 : decode cX8_feed 25 = .ok (.iload_n 3, 1) := by decide +kernel
theorem dX8_feed_26 : decode cX8_feed 26 = .ok (.invokevirtual 71, 3) := by decide +kernel
theorem dX8_feed_29 : decode cX8_feed 29 = .ok (.aload_n 0, 1) := by decide +kernel
theorem dX8_feed_30 : decode cX8_feed 30 = .ok (.iload 4, 2) := by decide +kernel
theorem dX8_feed_32 : decode cX8_feed 32 = .ok (.invokevirtual 71, 3) := by decide +kernel
theorem dX8_feed_35 : decode cX8_feed 35 = .ok (.aload_n 0, 1) := by decide +kernel
theorem dX8_feed_36 : decode cX8_feed 36 = .ok (.iload 5, 2) := by decide +kernel
theorem dX8_feed_38 : decode cX8_feed 38 = .ok (.invokevirtual 71, 3) := by decide +kernel
theorem dX8_feed_41 : decode cX8_feed 41 = .ok (.aload_n 0, 1) := by decide +kernel
theorem dX8_feed_42 : decode cX8_feed 42 = .ok (.getfield 68, 3) := by decide +kernel
theorem dX8_feed_45 : decode cX8_feed 45 = .ok (.ireturn, 1) := by decide +kernel
theorem dX8_four_0 : decode cX8_four 0 = .ok (.bipush 24, 2) := by decide +kernel
theorem dX8_four_2 : decode cX8_four 2 = .ok (.istore_n 2, 1) := by decide +kernel
theorem dX8_four_3 : decode cX8_four 3 = .ok (.iload_n 2, 1) := by decide +kernel
theorem dX8_four_4 : decode cX8_four 4 = .ok (.ifCond .lt 32, 3) := by decide +kernel
theorem dX8_four_7 : decode cX8_four 7 = .ok (.aload_n 0, 1) := by decide +kernel
theorem dX8_four_8 : decode cX8_four 8 = .ok (.getfield 7, 3) := by decide +kernel
theorem dX8_four_11 : decode cX8_four 11 = .ok (.aload_n 0, 1) := by decide +kernel
theorem dX8_four_12 : decode cX8_four 12 = .ok (.getfield 68, 3) := by decide +kernel
theorem dX8_four_15 : decode cX8_four 15 = .ok (.iload_n 1, 1) := by decide +kernel
theorem dX8_four_16 : decode cX8_four 16 = .ok (.iload_n 2, 1) := by decide +kernel
theorem dX8_four_17 : decode cX8_four 17 = .ok (.ishr, 1) := by decide +kernel
theorem dX8_four_18 : decode cX8_four 18 = .ok (.i2b, 1) := by decide +kernel
theorem dX8_four_19 : decode cX8_four 19 = .ok (.bastore, 1) := by decide +kernel
theorem dX8_four_20 : decode cX8_four 20 = .ok (.aload_n 0, 1) := by decide +kernel
theorem dX8_four_21 : decode cX8_four 21 = .ok (.dup, 1) := by decide +kernel
theorem dX8_four_22 : decode cX8_four 22 = .ok (.getfield 68, 3) := by decide +kernel
theorem dX8_four_25 : decode cX8_four 25 = .ok (.iconst 1, 1) := by decide +kernel
theorem dX8_four_26 : decode cX8_four 26 = .ok (.iadd, 1) := by decide +kernel
theorem dX8_four_27 : decode cX8_four 27 = .ok (.putfield 68, 3) := by decide +kernel
theorem dX8_four_30 : decode cX8_four 30 = .ok (.iinc 2 (-8), 3) := by decide +kernel
theorem dX8_four_33 : decode cX8_four 33 = .ok (.goto (-30), 3) := by decide +kernel
theorem dX8_four_36 : decode cX8_four 36 = .ok (.return_, 1) := by decide +kernel
theorem dX8_end_0 : decode cX8_end 0 = .ok (.iload_n 1, 1) := by decide +kernel
theorem dX8_end_1 : decode cX8_end 1 = .ok (.ifCond .lt 11, 3) := by decide +kernel
theorem dX8_end_4 : decode cX8_end 4 = .ok (.iload_n 1, 1) := by decide +kernel
theorem dX8_end_5 : decode cX8_end 5 = .ok (.aload_n 0, 1) := by decide +kernel
theorem dX8_end_6 : decode cX8_end 6 = .ok (.getfield 68, 3) := by decide +kernel
theorem dX8_end_9 : decode cX8_end 9 = .ok (.if_icmp .le 5, 3) := by decide +kernel
theorem dX8_end_12 : decode cX8_end 12 = .ok (.iconst 0, 1) := by decide +kernel
theorem dX8_end_13 : decode cX8_end 13 = .ok (.ireturn, 1) := by decide +kernel
theorem dX8_end_14 : decode cX8_end 14 = .ok (.aload_n 0, 1) := by decide +kernel
theorem dX8_end_15 : decode cX8_end 15 = .ok (.iload_n 1, 1) := by decide +kernel
theorem dX8_end_16 : decode cX8_end 16 = .ok (.putfield 68, 3) := by decide +kernel
theorem dX8_end_19 : decode cX8_end 19 = .ok (.iconst 1, 1) := by decide +kernel
theorem dX8_end_20 : decode cX8_end 20 = .ok (.ireturn, 1) := by decide +kernel
theorem dX8_taken_0 : decode cX8_taken 0 = .ok (.aload_n 0, 1) := by decide +kernel
theorem dX8_taken_1 : decode cX8_taken 1 = .ok (.aload_n 0, 1) := by decide +kernel
theorem dX8_taken_2 : decode cX8_taken 2 = .ok (.getfield 68, 3) := by decide +kernel
theorem dX8_taken_5 : decode cX8_taken 5 = .ok (.putfield 75, 3) := by decide +kernel
theorem dX8_taken_8 : decode cX8_taken 8 = .ok (.aload_n 0, 1) := by decide +kernel
theorem dX8_taken_9 : decode cX8_taken 9 = .ok (.iconst 0, 1) := by decide +kernel
theorem dX8_taken_10 : decode cX8_taken 10 = .ok (.putfield 68, 3) := by decide +kernel
theorem dX8_taken_13 : decode cX8_taken 13 = .ok (.return_, 1) := by decide +kernel
theorem dX8_isIn_0 : decode cX8_isIn 0 = .ok (.iload_n 0, 1) := by decide +kernel
theorem dX8_isIn_1 : decode cX8_isIn 1 = .ok (.iload_n 1, 1) := by decide +kernel
theorem dX8_isIn_2 : decode cX8_isIn 2 = .ok (.if_icmp .lt 12, 3) := by decide +kernel
theorem dX8_isIn_5 : decode cX8_isIn 5 = .ok (.iload_n 0, 1) := by decide +kernel
theorem dX8_isIn_6 : decode cX8_isIn 6 = .ok (.iload_n 2, 1) := by decide +kernel
theorem dX8_isIn_7 : decode cX8_isIn 7 = .ok (.if_icmp .gt 7, 3) := by decide +kernel
theorem dX8_isIn_10 : decode cX8_isIn 10 = .ok (.iconst 1, 1) := by decide +kernel
theorem dX8_isIn_11 : decode cX8_isIn 11 = .ok (.goto 4, 3) := by decide +kernel
theorem dX8_isIn_14 : decode cX8_isIn 14 = .ok (.iconst 0, 1) := by decide +kernel
theorem dX8_isIn_15 : decode cX8_isIn 15 = .ok (.ireturn, 1) := by decide +kernel
theorem dX8_bitOf_0 : decode cX8_bitOf 0 = .ok (.iload_n 0, 1) := by decide +kernel
theorem dX8_bitOf_1 : decode cX8_bitOf 1 = .ok (.iload_n 1, 1) := by decide +kernel
theorem dX8_bitOf_2 : decode cX8_bitOf 2 = .ok (.ishr, 1) := by decide +kernel
theorem dX8_bitOf_3 : decode cX8_bitOf 3 = .ok (.iconst 1, 1) := by decide +kernel
theorem dX8_bitOf_4 : decode cX8_bitOf 4 = .ok (.iand, 1) := by decide +kernel
theorem dX8_bitOf_5 : decode cX8_bitOf 5 = .ok (.iconst 1, 1) := by decide +kernel
theorem dX8_bitOf_6 : decode cX8_bitOf 6 = .ok (.if_icmp .ne 7, 3) := by decide +kernel
theorem dX8_bitOf_9 : decode cX8_bitOf 9 = .ok (.iconst 1, 1) := by decide +kernel
theorem dX8_bitOf_10 : decode cX8_bitOf 10 = .ok (.goto 4, 3) := by decide +kernel
theorem dX8_bitOf_13 : decode cX8_bitOf 13 = .ok (.iconst 0, 1) := by decide +kernel
theorem dX8_bitOf_14 : decode cX8_bitOf 14 = .ok (.ireturn, 1) := by decide +kernel
theorem dX8_sets_0 : decode cX8_sets 0 = .ok (.iconst 0, 1) := by decide +kernel
theorem dX8_sets_1 : decode cX8_sets 1 = .ok (.istore 4, 2) := by decide +kernel
theorem dX8_sets_3 : decode cX8_sets 3 = .ok (.iload 4, 2) := by decide +kernel
theorem dX8_sets_5 : decode cX8_sets 5 = .ok (.sipush 4668, 3) := by decide +kernel
theorem dX8_sets_8 : decode cX8_sets 8 = .ok (.if_icmp .ge 17, 3) := by decide +kernel
theorem dX8_sets_11 : decode cX8_sets 11 = .ok (.aload_n 0, 1) := by decide +kernel
theorem dX8_sets_12 : decode cX8_sets 12 = .ok (.getfield 13, 3) := by decide +kernel
theorem dX8_sets_15 : decode cX8_sets 15 = .ok (.iload 4, 2) := by decide +kernel
theorem dX8_sets_17 : decode cX8_sets 17 = .ok (.iconst 0, 1) := by decide +kernel
theorem dX8_sets_18 : decode cX8_sets 18 = .ok (.iastore, 1) := by decide +kernel
theorem dX8_sets_19 : decode cX8_sets 19 = .ok (.iinc 4 1, 3) := by decide +kernel
theorem dX8_sets_22 : decode cX8_sets 22 = .ok (.goto (-19), 3) := by decide +kernel
theorem dX8_sets_25 : decode cX8_sets 25 = .ok (.aload_n 0, 1) := by decide +kernel
theorem dX8_sets_26 : decode cX8_sets 26 = .ok (.getfield 13, 3) := by decide +kernel
theorem dX8_sets_29 : decode cX8_sets 29 = .ok (.iconst 0, 1) := by decide +kernel
theorem dX8_sets_30 : decode cX8_sets 30 = .ok (.iload_n 1, 1) := by decide +kernel
theorem dX8_sets_31 : decode cX8_sets 31 = .ok (.iastore, 1) := by decide +kernel
theorem dX8_sets_32 : decode cX8_sets 32 = .ok (.aload_n 0, 1) := by decide +kernel
theorem dX8_sets_33 : decode cX8_sets 33 = .ok (.getfield 13, 3) := by decide +kernel
theorem dX8_sets_36 : decode cX8_sets 36 = .ok (.iconst 1, 1) := by decide +kernel
theorem dX8_sets_37 : decode cX8_sets 37 = .ok (.iload_n 2, 1) := by decide +kernel
theorem dX8_sets_38 : decode cX8_sets 38 = .ok (.iastore, 1) := by decide +kernel
theorem dX8_sets_39 : decode cX8_sets 39 = .ok (.aload_n 0, 1) := by decide +kernel
theorem dX8_sets_40 : decode cX8_sets 40 = .ok (.getfield 13, 3) := by decide +kernel
theorem dX8_sets_43 : decode cX8_sets 43 = .ok (.iconst 2, 1) := by decide +kernel
theorem dX8_sets_44 : decode cX8_sets 44 = .ok (.iload_n 3, 1) := by decide +kernel
theorem dX8_sets_45 : decode cX8_sets 45 = .ok (.iastore, 1) := by decide +kernel
theorem dX8_sets_46 : decode cX8_sets 46 = .ok (.aload_n 0, 1) := by decide +kernel
theorem dX8_sets_47 : decode cX8_sets 47 = .ok (.getfield 13, 3) := by decide +kernel
theorem dX8_sets_50 : decode cX8_sets 50 = .ok (.bipush 17, 2) := by decide +kernel
theorem dX8_sets_52 : decode cX8_sets 52 = .ok (.iconst (-1), 1) := by decide +kernel
theorem dX8_sets_53 : decode cX8_sets 53 = .ok (.iastore, 1) := by decide +kernel
theorem dX8_sets_54 : decode cX8_sets 54 = .ok (.aload_n 0, 1) := by decide +kernel
theorem dX8_sets_55 : decode cX8_sets 55 = .ok (.invokevirtual 78, 3) := by decide +kernel
theorem dX8_sets_58 : decode cX8_sets 58 = .ok (.return_, 1) := by decide +kernel
theorem dX8_clearsRows_0 : decode cX8_clearsRows 0 = .ok (.sipush 144, 3) := by decide +kernel
theorem dX8_clearsRows_3 : decode cX8_clearsRows 3 = .ok (.istore_n 1, 1) := by decide +kernel
theorem dX8_clearsRows_4 : decode cX8_clearsRows 4 = .ok (.iload_n 1, 1) := by decide +kernel
theorem dX8_clearsRows_5 : decode cX8_clearsRows 5 = .ok (.sipush 168, 3) := by decide +kernel
theorem dX8_clearsRows_8 : decode cX8_clearsRows 8 = .ok (.if_icmp .ge 16, 3) := by decide +kernel
theorem dX8_clearsRows_11 : decode cX8_clearsRows 11 = .ok (.aload_n 0, 1) := by decide +kernel
theorem dX8_clearsRows_12 : decode cX8_clearsRows 12 = .ok (.getfield 13, 3) := by decide +kernel
theorem dX8_clearsRows_15 : decode cX8_clearsRows 15 = .ok (.iload_n 1, 1) := by decide +kernel
theorem dX8_clearsRows_16 : decode cX8_clearsRows 16 = .ok (.iconst (-1), 1) := by decide +kernel
theorem dX8_clearsRows_17 : decode cX8_clearsRows 17 = .ok (.iastore, 1) := by decide +kernel
theorem dX8_clearsRows_18 : decode cX8_clearsRows 18 = .ok (.iinc 1 1, 3) := by decide +kernel
theorem dX8_clearsRows_21 : decode cX8_clearsRows 21 = .ok (.goto (-17), 3) := by decide +kernel
theorem dX8_clearsRows_24 : decode cX8_clearsRows 24 = .ok (.return_, 1) := by decide +kernel
theorem dX8_isPacked_0 : decode cX8_isPacked 0 = .ok (.aload_n 0, 1) := by decide +kernel
theorem dX8_isPacked_1 : decode cX8_isPacked 1 = .ok (.getfield 13, 3) := by decide +kernel
theorem dX8_isPacked_4 : decode cX8_isPacked 4 = .ok (.iconst 0, 1) := by decide +kernel
theorem dX8_isPacked_5 : decode cX8_isPacked 5 = .ok (.iaload, 1) := by decide +kernel
theorem dX8_isPacked_6 : decode cX8_isPacked 6 = .ok (.iconst 1, 1) := by decide +kernel
theorem dX8_isPacked_7 : decode cX8_isPacked 7 = .ok (.if_icmp .ne 7, 3) := by decide +kernel
theorem dX8_isPacked_10 : decode cX8_isPacked 10 = .ok (.iconst 1, 1) := by decide +kernel
theorem dX8_isPacked_11 : decode cX8_isPacked 11 = .ok (.goto 4, 3) := by decide +kernel
theorem dX8_isPacked_14 : decode cX8_isPacked 14 = .ok (.iconst 0, 1) := by decide +kernel
theorem dX8_isPacked_15 : decode cX8_isPacked 15 = .ok (.ireturn, 1) := by decide +kernel
theorem dX8_has_0 : decode cX8_has 0 = .ok (.aload_n 0, 1) := by decide +kernel
theorem dX8_has_1 : decode cX8_has 1 = .ok (.getfield 13, 3) := by decide +kernel
theorem dX8_has_4 : decode cX8_has 4 = .ok (.iconst 2, 1) := by decide +kernel
theorem dX8_has_5 : decode cX8_has 5 = .ok (.iaload, 1) := by decide +kernel
theorem dX8_has_6 : decode cX8_has 6 = .ok (.iload_n 1, 1) := by decide +kernel
theorem dX8_has_7 : decode cX8_has 7 = .ok (.invokestatic 81, 3) := by decide +kernel
theorem dX8_has_10 : decode cX8_has 10 = .ok (.ireturn, 1) := by decide +kernel
theorem dX8_wrapsAt_0 : decode cX8_wrapsAt 0 = .ok (.aload_n 0, 1) := by decide +kernel
theorem dX8_wrapsAt_1 : decode cX8_wrapsAt 1 = .ok (.invokevirtual 85, 3) := by decide +kernel
theorem dX8_wrapsAt_4 : decode cX8_wrapsAt 4 = .ok (.ifCond .eq 14, 3) := by decide +kernel
theorem dX8_wrapsAt_7 : decode cX8_wrapsAt 7 = .ok (.iconst 2, 1) := by decide +kernel
theorem dX8_wrapsAt_8 : decode cX8_wrapsAt 8 = .ok (.aload_n 0, 1) := by decide +kernel
theorem dX8_wrapsAt_9 : decode cX8_wrapsAt 9 = .ok (.getfield 13, 3) := by decide +kernel
theorem dX8_wrapsAt_12 : decode cX8_wrapsAt 12 = .ok (.iconst 1, 1) := by decide +kernel
theorem dX8_wrapsAt_13 : decode cX8_wrapsAt 13 = .ok (.iaload, 1) := by decide +kernel
theorem dX8_wrapsAt_14 : decode cX8_wrapsAt 14 = .ok (.imul, 1) := by decide +kernel
theorem dX8_wrapsAt_15 : decode cX8_wrapsAt 15 = .ok (.goto 5, 3) := by decide +kernel
theorem dX8_wrapsAt_18 : decode cX8_wrapsAt 18 = .ok (.bipush 16, 2) := by decide +kernel
theorem dX8_wrapsAt_20 : decode cX8_wrapsAt 20 = .ok (.ireturn, 1) := by decide +kernel
theorem dX8_moved_0 : decode cX8_moved 0 = .ok (.iload_n 1, 1) := by decide +kernel
theorem dX8_moved_1 : decode cX8_moved 1 = .ok (.iload_n 2, 1) := by decide +kernel
theorem dX8_moved_2 : decode cX8_moved 2 = .ok (.iadd, 1) := by decide +kernel
theorem dX8_moved_3 : decode cX8_moved 3 = .ok (.aload_n 0, 1) := by decide +kernel
theorem dX8_moved_4 : decode cX8_moved 4 = .ok (.invokevirtual 89, 3) := by decide +kernel
theorem dX8_moved_7 : decode cX8_moved 7 = .ok (.irem, 1) := by decide +kernel
theorem dX8_moved_8 : decode cX8_moved 8 = .ok (.ireturn, 1) := by decide +kernel
theorem dX8_placeOf_0 : decode cX8_placeOf 0 = .ok (.iload_n 1, 1) := by decide +kernel
theorem dX8_placeOf_1 : decode cX8_placeOf 1 = .ok (.aload_n 0, 1) := by decide +kernel
theorem dX8_placeOf_2 : decode cX8_placeOf 2 = .ok (.getfield 13, 3) := by decide +kernel
theorem dX8_placeOf_5 : decode cX8_placeOf 5 = .ok (.iconst 1, 1) := by decide +kernel
theorem dX8_placeOf_6 : decode cX8_placeOf 6 = .ok (.iaload, 1) := by decide +kernel
theorem dX8_placeOf_7 : decode cX8_placeOf 7 = .ok (.irem, 1) := by decide +kernel
theorem dX8_placeOf_8 : decode cX8_placeOf 8 = .ok (.ireturn, 1) := by decide +kernel
theorem dX8_isWrap_0 : decode cX8_isWrap 0 = .ok (.iload_n 1, 1) := by decide +kernel
theorem dX8_isWrap_1 : decode cX8_isWrap 1 = .ok (.aload_n 0, 1) := by decide +kernel
theorem dX8_isWrap_2 : decode cX8_isWrap 2 = .ok (.getfield 13, 3) := by decide +kernel
theorem dX8_isWrap_5 : decode cX8_isWrap 5 = .ok (.iconst 1, 1) := by decide +kernel
theorem dX8_isWrap_6 : decode cX8_isWrap 6 = .ok (.iaload, 1) := by decide +kernel
theorem dX8_isWrap_7 : decode cX8_isWrap 7 = .ok (.if_icmp .ge 7, 3) := by decide +kernel
theorem dX8_isWrap_10 : decode cX8_isWrap 10 = .ok (.iconst 1, 1) := by decide +kernel
theorem dX8_isWrap_11 : decode cX8_isWrap 11 = .ok (.goto 4, 3) := by decide +kernel
theorem dX8_isWrap_14 : decode cX8_isWrap 14 = .ok (.iconst 0, 1) := by decide +kernel
theorem dX8_isWrap_15 : decode cX8_isWrap 15 = .ok (.ireturn, 1) := by decide +kernel
theorem dX8_at_0 : decode cX8_at 0 = .ok (.bipush 24, 2) := by decide +kernel
theorem dX8_at_2 : decode cX8_at 2 = .ok (.bipush 24, 2) := by decide +kernel
theorem dX8_at_4 : decode cX8_at 4 = .ok (.iload_n 0, 1) := by decide +kernel
theorem dX8_at_5 : decode cX8_at 5 = .ok (.imul, 1) := by decide +kernel
theorem dX8_at_6 : decode cX8_at 6 = .ok (.iadd, 1) := by decide +kernel
theorem dX8_at_7 : decode cX8_at 7 = .ok (.iconst 3, 1) := by decide +kernel
theorem dX8_at_8 : decode cX8_at 8 = .ok (.iload_n 1, 1) := by decide +kernel
theorem dX8_at_9 : decode cX8_at 9 = .ok (.imul, 1) := by decide +kernel
theorem dX8_at_10 : decode cX8_at 10 = .ok (.iadd, 1) := by decide +kernel
theorem dX8_at_11 : decode cX8_at 11 = .ok (.iload_n 2, 1) := by decide +kernel
theorem dX8_at_12 : decode cX8_at 12 = .ok (.iadd, 1) := by decide +kernel
theorem dX8_at_13 : decode cX8_at 13 = .ok (.ireturn, 1) := by decide +kernel
theorem dX8_of_0 : decode cX8_of 0 = .ok (.sipush 168, 3) := by decide +kernel
theorem dX8_of_3 : decode cX8_of 3 = .ok (.sipush 500, 3) := by decide +kernel
theorem dX8_of_6 : decode cX8_of 6 = .ok (.iload_n 1, 1) := by decide +kernel
theorem dX8_of_7 : decode cX8_of 7 = .ok (.imul, 1) := by decide +kernel
theorem dX8_of_8 : decode cX8_of 8 = .ok (.iadd, 1) := by decide +kernel
theorem dX8_of_9 : decode cX8_of 9 = .ok (.iload_n 0, 1) := by decide +kernel
theorem dX8_of_10 : decode cX8_of 10 = .ok (.iadd, 1) := by decide +kernel
theorem dX8_of_11 : decode cX8_of 11 = .ok (.ireturn, 1) := by decide +kernel
theorem dX8_isBuffer_0 : decode cX8_isBuffer 0 = .ok (.iload_n 1, 1) := by decide +kernel
theorem dX8_isBuffer_1 : decode cX8_isBuffer 1 = .ok (.iconst 0, 1) := by decide +kernel
theorem dX8_isBuffer_2 : decode cX8_isBuffer 2 = .ok (.aload_n 0, 1) := by decide +kernel
theorem dX8_isBuffer_3 : decode cX8_isBuffer 3 = .ok (.getfield 13, 3) := by decide +kernel
theorem dX8_isBuffer_6 : decode cX8_isBuffer 6 = .ok (.bipush 16, 2) := by decide +kernel
theorem dX8_isBuffer_8 : decode cX8_isBuffer 8 = .ok (.iaload, 1) := by decide +kernel
theorem dX8_isBuffer_9 : decode cX8_isBuffer 9 = .ok (.iconst 1, 1) := by decide +kernel
theorem dX8_isBuffer_10 : decode cX8_isBuffer 10 = .ok (.isub, 1) := by decide +kernel
theorem dX8_isBuffer_11 : decode cX8_isBuffer 11 = .ok (.invokestatic 93, 3) := by decide +kernel
theorem dX8_isBuffer_14 : decode cX8_isBuffer 14 = .ok (.ireturn, 1) := by decide +kernel
theorem dX8_isOut_0 : decode cX8_isOut 0 = .ok (.aload_n 0, 1) := by decide +kernel
theorem dX8_isOut_1 : decode cX8_isOut 1 = .ok (.getfield 13, 3) := by decide +kernel
theorem dX8_isOut_4 : decode cX8_isOut 4 = .ok (.iload_n 1, 1) := by decide +kernel
theorem dX8_isOut_5 : decode cX8_isOut 5 = .ok (.iconst 0, 1) := by decide +kernel
theorem dX8_isOut_6 : decode cX8_isOut 6 = .ok (.invokestatic 97, 3) := by decide +kernel
theorem dX8_isOut_9 : decode cX8_isOut 9 = .ok (.iaload, 1) := by decide +kernel
theorem dX8_isOut_10 : decode cX8_isOut 10 = .ok (.iconst 3, 1) := by decide +kernel
theorem dX8_isOut_11 : decode cX8_isOut 11 = .ok (.if_icmp .ge 7, 3) := by decide +kernel
theorem dX8_isOut_14 : decode cX8_isOut 14 = .ok (.iconst 1, 1) := by decide +kernel
theorem dX8_isOut_15 : decode cX8_isOut 15 = .ok (.goto 4, 3) := by decide +kernel
theorem dX8_isOut_18 : decode cX8_isOut 18 = .ok (.iconst 0, 1) := by decide +kernel
theorem dX8_isOut_19 : decode cX8_isOut 19 = .ok (.ireturn, 1) := by decide +kernel
theorem dX8_heldBits_0 : decode cX8_heldBits 0 = .ok (.iconst 0, 1) := by decide +kernel
theorem dX8_heldBits_1 : decode cX8_heldBits 1 = .ok (.istore_n 1, 1) := by decide +kernel
theorem dX8_heldBits_2 : decode cX8_heldBits 2 = .ok (.iconst 0, 1) := by decide +kernel
theorem dX8_heldBits_3 : decode cX8_heldBits 3 = .ok (.istore_n 2, 1) := by decide +kernel
theorem dX8_heldBits_4 : decode cX8_heldBits 4 = .ok (.iload_n 2, 1) := by decide +kernel
theorem dX8_heldBits_5 : decode cX8_heldBits 5 = .ok (.aload_n 0, 1) := by decide +kernel
theorem dX8_heldBits_6 : decode cX8_heldBits 6 = .ok (.getfield 13, 3) := by decide +kernel
theorem dX8_heldBits_9 : decode cX8_heldBits 9 = .ok (.bipush 16, 2) := by decide +kernel
theorem dX8_heldBits_11 : decode cX8_heldBits 11 = .ok (.iaload, 1) := by decide +kernel
theorem dX8_heldBits_12 : decode cX8_heldBits 12 = .ok (.if_icmp .ge 31, 3) := by decide +kernel
theorem dX8_heldBits_15 : decode cX8_heldBits 15 = .ok (.aload_n 0, 1) := by decide +kernel
theorem dX8_heldBits_16 : decode cX8_heldBits 16 = .ok (.iload_n 2, 1) := by decide +kernel
theorem dX8_heldBits_17 : decode cX8_heldBits 17 = .ok (.invokevirtual 101, 3) := by decide +kernel
theorem dX8_heldBits_20 : decode cX8_heldBits 20 = .ok (.ifCond .eq 17, 3) := by decide +kernel
theorem dX8_heldBits_23 : decode cX8_heldBits 23 = .ok (.iload_n 1, 1) := by decide +kernel
theorem dX8_heldBits_24 : decode cX8_heldBits 24 = .ok (.aload_n 0, 1) := by decide +kernel
theorem dX8_heldBits_25 : decode cX8_heldBits 25 = .ok (.getfield 13, 3) := by decide +kernel
theorem dX8_heldBits_28 : decode cX8_heldBits 28 = .ok (.iload_n 2, 1) := by decide +kernel
theorem dX8_heldBits_29 : decode cX8_heldBits 29 = .ok (.bipush 8, 2) := by decide +kernel
theorem dX8_heldBits_31 : decode cX8_heldBits 31 = .ok (.invokestatic 97, 3) := by decide +kernel
theorem dX8_heldBits_34 : decode cX8_heldBits 34 = .ok (.iaload, 1) := by decide +kernel
theorem dX8_heldBits_35 : decode cX8_heldBits 35 = .ok (.ior, 1) := by decide +kernel
theorem dX8_heldBits_36 : decode cX8_heldBits 36 = .ok (.istore_n 1, 1) := by decide +kernel
theorem dX8_heldBits_37 : decode cX8_heldBits 37 = .ok (.iinc 2 1, 3) := by decide +kernel
theorem dX8_heldBits_40 : decode cX8_heldBits 40 = .ok (.goto (-36), 3) := by decide +kernel
theorem dX8_heldBits_43 : decode cX8_heldBits 43 = .ok (.iload_n 1, 1) := by decide +kernel
theorem dX8_heldBits_44 : decode cX8_heldBits 44 = .ok (.ireturn, 1) := by decide +kernel
theorem dX8_freePlaces_0 : decode cX8_freePlaces 0 = .ok (.aload_n 0, 1) := by decide +kernel
theorem dX8_freePlaces_1 : decode cX8_freePlaces 1 = .ok (.getfield 13, 3) := by decide +kernel
theorem dX8_freePlaces_4 : decode cX8_freePlaces 4 = .ok (.iconst 1, 1) := by decide +kernel
theorem dX8_freePlaces_5 : decode cX8_freePlaces 5 = .ok (.iaload, 1) := by decide +kernel
theorem dX8_freePlaces_6 : decode cX8_freePlaces 6 = .ok (.istore_n 1, 1) := by decide +kernel
theorem dX8_freePlaces_7 : decode cX8_freePlaces 7 = .ok (.iconst 0, 1) := by decide +kernel
theorem dX8_freePlaces_8 : decode cX8_freePlaces 8 = .ok (.istore_n 2, 1) := by decide +kernel
theorem dX8_freePlaces_9 : decode cX8_freePlaces 9 = .ok (.iload_n 2, 1) := by decide +kernel
theorem dX8_freePlaces_10 : decode cX8_freePlaces 10 = .ok (.aload_n 0, 1) := by decide +kernel
theorem dX8_freePlaces_11 : decode cX8_freePlaces 11 = .ok (.getfield 13, 3) := by decide +kernel
theorem dX8_freePlaces_14 : decode cX8_freePlaces 14 = .ok (.bipush 16, 2) := by decide +kernel
theorem dX8_freePlaces_16 : decode cX8_freePlaces 16 = .ok (.iaload, 1) := by decide +kernel
theorem dX8_freePlaces_17 : decode cX8_freePlaces 17 = .ok (.if_icmp .ge 31, 3) := by decide +kernel
theorem dX8_freePlaces_20 : decode cX8_freePlaces 20 = .ok (.aload_n 0, 1) := by decide +kernel
theorem dX8_freePlaces_21 : decode cX8_freePlaces 21 = .ok (.iload_n 2, 1) := by decide +kernel
theorem dX8_freePlaces_22 : decode cX8_freePlaces 22 = .ok (.invokevirtual 101, 3) := by decide +kernel
theorem dX8_freePlaces_25 : decode cX8_freePlaces 25 = .ok (.ifCond .eq 17, 3) := by decide +kernel
theorem dX8_freePlaces_28 : decode cX8_freePlaces 28 = .ok (.iload_n 1, 1) := by decide +kernel
theorem dX8_freePlaces_29 : decode cX8_freePlaces 29 = .ok (.aload_n 0, 1) := by decide +kernel
theorem dX8_freePlaces_30 : decode cX8_freePlaces 30 = .ok (.getfield 13, 3) := by decide +kernel
theorem dX8_freePlaces_33 : decode cX8_freePlaces 33 = .ok (.iload_n 2, 1) := by decide +kernel
theorem dX8_freePlaces_34 : decode cX8_freePlaces 34 = .ok (.bipush 7, 2) := by decide +kernel
theorem dX8_freePlaces_36 : decode cX8_freePlaces 36 = .ok (.invokestatic 97, 3) := by decide +kernel
theorem dX8_freePlaces_39 : decode cX8_freePlaces 39 = .ok (.iaload, 1) := by decide +kernel
theorem dX8_freePlaces_40 : decode cX8_freePlaces 40 = .ok (.isub, 1) := by decide +kernel
theorem dX8_freePlaces_41 : decode cX8_freePlaces 41 = .ok (.istore_n 1, 1) := by decide +kernel
theorem dX8_freePlaces_42 : decode cX8_freePlaces 42 = .ok (.iinc 2 1, 3) := by decide +kernel
theorem dX8_freePlaces_45 : decode cX8_freePlaces 45 = .ok (.goto (-36), 3) := by decide +kernel
theorem dX8_freePlaces_48 : decode cX8_freePlaces 48 = .ok (.iload_n 1, 1) := by decide +kernel
theorem dX8_freePlaces_49 : decode cX8_freePlaces 49 = .ok (.ireturn, 1) := by decide +kernel
theorem dX8_isHeld_0 : decode cX8_isHeld 0 = .ok (.iconst 0, 1) := by decide +kernel
theorem dX8_isHeld_1 : decode cX8_isHeld 1 = .ok (.istore_n 3, 1) := by decide +kernel
theorem dX8_isHeld_2 : decode cX8_isHeld 2 = .ok (.iconst 0, 1) := by decide +kernel
theorem dX8_isHeld_3 : decode cX8_isHeld 3 = .ok (.istore 4, 2) := by decide +kernel
theorem dX8_isHeld_5 : decode cX8_isHeld 5 = .ok (.iload 4, 2) := by decide +kernel
theorem dX8_isHeld_7 : decode cX8_isHeld 7 = .ok (.aload_n 0, 1) := by decide +kernel
theorem dX8_isHeld_8 : decode cX8_isHeld 8 = .ok (.getfield 13, 3) := by decide +kernel
theorem dX8_isHeld_11 : decode cX8_isHeld 11 = .ok (.bipush 16, 2) := by decide +kernel
theorem dX8_isHeld_13 : decode cX8_isHeld 13 = .ok (.iaload, 1) := by decide +kernel
theorem dX8_isHeld_14 : decode cX8_isHeld 14 = .ok (.if_icmp .ge 43, 3) := by decide +kernel
theorem dX8_isHeld_17 : decode cX8_isHeld 17 = .ok (.iload_n 3, 1) := by decide +kernel
theorem dX8_isHeld_18 : decode cX8_isHeld 18 = .ok (.ifCond .ne 27, 3) := by decide +kernel
theorem dX8_isHeld_21 : decode cX8_isHeld 21 = .ok (.aload_n 0, 1) := by decide +kernel
theorem dX8_isHeld_22 : decode cX8_isHeld 22 = .ok (.iload 4, 2) := by decide +kernel
theorem dX8_isHeld_24 : decode cX8_isHeld 24 = .ok (.invokevirtual 101, 3) := by decide +kernel
theorem dX8_isHeld_27 : decode cX8_isHeld 27 = .ok (.ifCond .eq 22, 3) := by decide +kernel
theorem dX8_isHeld_30 : decode cX8_isHeld 30 = .ok (.aload_n 0, 1) := by decide +kernel
theorem dX8_isHeld_31 : decode cX8_isHeld 31 = .ok (.getfield 13, 3) := by decide +kernel
theorem dX8_isHeld_34 : decode cX8_isHeld 34 = .ok (.iload 4, 2) := by decide +kernel
theorem dX8_isHeld_36 : decode cX8_isHeld 36 = .ok (.iload_n 1, 1) := by decide +kernel
theorem dX8_isHeld_37 : decode cX8_isHeld 37 = .ok (.invokestatic 97, 3) := by decide +kernel
theorem dX8_isHeld_40 : decode cX8_isHeld 40 = .ok (.iaload, 1) := by decide +kernel
theorem dX8_isHeld_41 : decode cX8_isHeld 41 = .ok (.iload_n 2, 1) := by decide +kernel
theorem dX8_isHeld_42 : decode cX8_isHeld 42 = .ok (.if_icmp .ne 7, 3) := by decide +kernel
theorem dX8_isHeld_45 : decode cX8_isHeld 45 = .ok (.iconst 1, 1) := by decide +kernel
theorem dX8_isHeld_46 : decode cX8_isHeld 46 = .ok (.goto 4, 3) := by decide +kernel
theorem dX8_isHeld_49 : decode cX8_isHeld 49 = .ok (.iconst 0, 1) := by decide +kernel
theorem dX8_isHeld_50 : decode cX8_isHeld 50 = .ok (.istore_n 3, 1) := by decide +kernel
theorem dX8_isHeld_51 : decode cX8_isHeld 51 = .ok (.iinc 4 1, 3) := by decide +kernel
theorem dX8_isHeld_54 : decode cX8_isHeld 54 = .ok (.goto (-49), 3) := by decide +kernel
theorem dX8_isHeld_57 : decode cX8_isHeld 57 = .ok (.iload_n 3, 1) := by decide +kernel
theorem dX8_isHeld_58 : decode cX8_isHeld 58 = .ok (.ireturn, 1) := by decide +kernel
theorem dX8_stepOf_0 : decode cX8_stepOf 0 = .ok (.aload_n 0, 1) := by decide +kernel
theorem dX8_stepOf_1 : decode cX8_stepOf 1 = .ok (.invokevirtual 85, 3) := by decide +kernel
theorem dX8_stepOf_4 : decode cX8_stepOf 4 = .ok (.ifCond .eq 17, 3) := by decide +kernel
theorem dX8_stepOf_7 : decode cX8_stepOf 7 = .ok (.aload_n 0, 1) := by decide +kernel
theorem dX8_stepOf_8 : decode cX8_stepOf 8 = .ok (.getfield 13, 3) := by decide +kernel
theorem dX8_stepOf_11 : decode cX8_stepOf 11 = .ok (.iload_n 1, 1) := by decide +kernel
theorem dX8_stepOf_12 : decode cX8_stepOf 12 = .ok (.bipush 7, 2) := by decide +kernel
theorem dX8_stepOf_14 : decode cX8_stepOf 14 = .ok (.invokestatic 97, 3) := by decide +kernel
theorem dX8_stepOf_17 : decode cX8_stepOf 17 = .ok (.iaload, 1) := by decide +kernel
theorem dX8_stepOf_18 : decode cX8_stepOf 18 = .ok (.goto 4, 3) := by decide +kernel
theorem dX8_stepOf_21 : decode cX8_stepOf 21 = .ok (.iconst 1, 1) := by decide +kernel
theorem dX8_stepOf_22 : decode cX8_stepOf 22 = .ok (.ireturn, 1) := by decide +kernel
theorem dX8_setup_0 : decode cX8_setup 0 = .ok (.iload_n 1, 1) := by decide +kernel
theorem dX8_setup_1 : decode cX8_setup 1 = .ok (.iconst 0, 1) := by decide +kernel
theorem dX8_setup_2 : decode cX8_setup 2 = .ok (.iconst 1, 1) := by decide +kernel
theorem dX8_setup_3 : decode cX8_setup 3 = .ok (.invokestatic 93, 3) := by decide +kernel
theorem dX8_setup_6 : decode cX8_setup 6 = .ok (.ifCond .eq 29, 3) := by decide +kernel
theorem dX8_setup_9 : decode cX8_setup 9 = .ok (.iload_n 2, 1) := by decide +kernel
theorem dX8_setup_10 : decode cX8_setup 10 = .ok (.iconst 2, 1) := by decide +kernel
theorem dX8_setup_11 : decode cX8_setup 11 = .ok (.if_icmp .eq 14, 3) := by decide +kernel
theorem dX8_setup_14 : decode cX8_setup 14 = .ok (.iload_n 2, 1) := by decide +kernel
theorem dX8_setup_15 : decode cX8_setup 15 = .ok (.iconst 4, 1) := by decide +kernel
theorem dX8_setup_16 : decode cX8_setup 16 = .ok (.if_icmp .eq 9, 3) := by decide +kernel
theorem dX8_setup_19 : decode cX8_setup 19 = .ok (.iload_n 2, 1) := by decide +kernel
theorem dX8_setup_20 : decode cX8_setup 20 = .ok (.bipush 8, 2) := by decide +kernel
theorem dX8_setup_22 : decode cX8_setup 22 = .ok (.if_icmp .ne 13, 3) := by decide +kernel
theorem dX8_setup_25 : decode cX8_setup 25 = .ok (.iload_n 3, 1) := by decide +kernel
theorem dX8_setup_26 : decode cX8_setup 26 = .ok (.iconst 0, 1) := by decide +kernel
theorem dX8_setup_27 : decode cX8_setup 27 = .ok (.bipush 7, 2) := by decide +kernel
theorem dX8_setup_29 : decode cX8_setup 29 = .ok (.invokestatic 93, 3) := by decide +kernel
theorem dX8_setup_32 : decode cX8_setup 32 = .ok (.ifCond .ne 5, 3) := by decide +kernel
theorem dX8_setup_35 : decode cX8_setup 35 = .ok (.iconst (-1), 1) := by decide +kernel
theorem dX8_setup_36 : decode cX8_setup 36 = .ok (.ireturn, 1) := by decide +kernel
theorem dX8_setup_37 : decode cX8_setup 37 = .ok (.aload_n 0, 1) := by decide +kernel
theorem dX8_setup_38 : decode cX8_setup 38 = .ok (.iload_n 1, 1) := by decide +kernel
theorem dX8_setup_39 : decode cX8_setup 39 = .ok (.iload_n 2, 1) := by decide +kernel
theorem dX8_setup_40 : decode cX8_setup 40 = .ok (.iload_n 3, 1) := by decide +kernel
theorem dX8_setup_41 : decode cX8_setup 41 = .ok (.invokevirtual 64, 3) := by decide +kernel
theorem dX8_setup_44 : decode cX8_setup 44 = .ok (.iconst 0, 1) := by decide +kernel
theorem dX8_setup_45 : decode cX8_setup 45 = .ok (.ireturn, 1) := by decide +kernel
theorem dX8_blanks_0 : decode cX8_blanks 0 = .ok (.aload_n 0, 1) := by decide +kernel
theorem dX8_blanks_1 : decode cX8_blanks 1 = .ok (.getfield 105, 3) := by decide +kernel
theorem dX8_blanks_4 : decode cX8_blanks 4 = .ok (.aload_n 0, 1) := by decide +kernel
theorem dX8_blanks_5 : decode cX8_blanks 5 = .ok (.getfield 75, 3) := by decide +kernel
theorem dX8_blanks_8 : decode cX8_blanks 8 = .ok (.if_icmp .ge 30, 3) := by decide +kernel
theorem dX8_blanks_11 : decode cX8_blanks 11 = .ok (.aload_n 0, 1) := by decide +kernel
theorem dX8_blanks_12 : decode cX8_blanks 12 = .ok (.getfield 7, 3) := by decide +kernel
theorem dX8_blanks_15 : decode cX8_blanks 15 = .ok (.aload_n 0, 1) := by decide +kernel
theorem dX8_blanks_16 : decode cX8_blanks 16 = .ok (.getfield 105, 3) := by decide +kernel
theorem dX8_blanks_19 : decode cX8_blanks 19 = .ok (.baload, 1) := by decide +kernel
theorem dX8_blanks_20 : decode cX8_blanks 20 = .ok (.bipush 32, 2) := by decide +kernel
theorem dX8_blanks_22 : decode cX8_blanks 22 = .ok (.if_icmp .ne 16, 3) := by decide +kernel
theorem dX8_blanks_25 : decode cX8_blanks 25 = .ok (.aload_n 0, 1) := by decide +kernel
theorem dX8_blanks_26 : decode cX8_blanks 26 = .ok (.dup, 1) := by decide +kernel
theorem dX8_blanks_27 : decode cX8_blanks 27 = .ok (.getfield 105, 3) := by decide +kernel
theorem dX8_blanks_30 : decode cX8_blanks 30 = .ok (.iconst 1, 1) := by decide +kernel
theorem dX8_blanks_31 : decode cX8_blanks 31 = .ok (.iadd, 1) := by decide +kernel
theorem dX8_blanks_32 : decode cX8_blanks 32 = .ok (.putfield 105, 3) := by decide +kernel
theorem dX8_blanks_35 : decode cX8_blanks 35 = .ok (.goto (-35), 3) := by decide +kernel
theorem dX8_blanks_38 : decode cX8_blanks 38 = .ok (.return_, 1) := by decide +kernel
theorem dX8_bad_0 : decode cX8_bad 0 = .ok (.aload_n 0, 1) := by decide +kernel
theorem dX8_bad_1 : decode cX8_bad 1 = .ok (.iload_n 1, 1) := by decide +kernel
theorem dX8_bad_2 : decode cX8_bad 2 = .ok (.putfield 108, 3) := by decide +kernel
theorem dX8_bad_5 : decode cX8_bad 5 = .ok (.iconst 0, 1) := by decide +kernel
theorem dX8_bad_6 : decode cX8_bad 6 = .ok (.ireturn, 1) := by decide +kernel
theorem dX8_isDigit_0 : decode cX8_isDigit 0 = .ok (.iload_n 0, 1) := by decide +kernel
theorem dX8_isDigit_1 : decode cX8_isDigit 1 = .ok (.bipush 48, 2) := by decide +kernel
theorem dX8_isDigit_3 : decode cX8_isDigit 3 = .ok (.if_icmp .lt 13, 3) := by decide +kernel
theorem dX8_isDigit_6 : decode cX8_isDigit 6 = .ok (.iload_n 0, 1) := by decide +kernel
theorem dX8_isDigit_7 : decode cX8_isDigit 7 = .ok (.bipush 57, 2) := by decide +kernel
theorem dX8_isDigit_9 : decode cX8_isDigit 9 = .ok (.if_icmp .gt 7, 3) := by decide +kernel
theorem dX8_isDigit_12 : decode cX8_isDigit 12 = .ok (.iconst 1, 1) := by decide +kernel
theorem dX8_isDigit_13 : decode cX8_isDigit 13 = .ok (.goto 4, 3) := by decide +kernel
theorem dX8_isDigit_16 : decode cX8_isDigit 16 = .ok (.iconst 0, 1) := by decide +kernel
theorem dX8_isDigit_17 : decode cX8_isDigit 17 = .ok (.ireturn, 1) := by decide +kernel
theorem dX8_isLetter_0 : decode cX8_isLetter 0 = .ok (.iload_n 0, 1) := by decide +kernel
theorem dX8_isLetter_1 : decode cX8_isLetter 1 = .ok (.bipush 97, 2) := by decide +kernel
theorem dX8_isLetter_3 : decode cX8_isLetter 3 = .ok (.if_icmp .lt 13, 3) := by decide +kernel
theorem dX8_isLetter_6 : decode cX8_isLetter 6 = .ok (.iload_n 0, 1) := by decide +kernel
theorem dX8_isLetter_7 : decode cX8_isLetter 7 = .ok (.bipush 122, 2) := by decide +kernel
theorem dX8_isLetter_9 : decode cX8_isLetter 9 = .ok (.if_icmp .gt 7, 3) := by decide +kernel
theorem dX8_isLetter_12 : decode cX8_isLetter 12 = .ok (.iconst 1, 1) := by decide +kernel
theorem dX8_isLetter_13 : decode cX8_isLetter 13 = .ok (.goto 4, 3) := by decide +kernel
theorem dX8_isLetter_16 : decode cX8_isLetter 16 = .ok (.iconst 0, 1) := by decide +kernel
theorem dX8_isLetter_17 : decode cX8_isLetter 17 = .ok (.ireturn, 1) := by decide +kernel
theorem dX8_readsChain_0 : decode cX8_readsChain 0 = .ok (.aload_n 0, 1) := by decide +kernel
theorem dX8_readsChain_1 : decode cX8_readsChain 1 = .ok (.iconst 0, 1) := by decide +kernel
theorem dX8_readsChain_2 : decode cX8_readsChain 2 = .ok (.putfield 111, 3) := by decide +kernel
theorem dX8_readsChain_5 : decode cX8_readsChain 5 = .ok (.aload_n 0, 1) := by decide +kernel
theorem dX8_readsChain_6 : decode cX8_readsChain 6 = .ok (.iconst 0, 1) := by decide +kernel
theorem dX8_readsChain_7 : decode cX8_readsChain 7 = .ok (.putfield 114, 3) := by decide +kernel
theorem dX8_readsChain_10 : decode cX8_readsChain 10 = .ok (.aload_n 0, 1) := by decide +kernel
theorem dX8_readsChain_11 : decode cX8_readsChain 11 = .ok (.iconst 0, 1) := by decide +kernel
theorem dX8_readsChain_12 : decode cX8_readsChain 12 = .ok (.putfield 105, 3) := by decide +kernel
theorem dX8_readsChain_15 : decode cX8_readsChain 15 = .ok (.aload_n 0, 1) := by decide +kernel
theorem dX8_readsChain_16 : decode cX8_readsChain 16 = .ok (.invokevirtual 117, 3) := by decide +kernel
theorem dX8_readsChain_19 : decode cX8_readsChain 19 = .ok (.aload_n 0, 1) := by decide +kernel
theorem dX8_readsChain_20 : decode cX8_readsChain 20 = .ok (.getfield 105, 3) := by decide +kernel
theorem dX8_readsChain_23 : decode cX8_readsChain 23 = .ok (.aload_n 0, 1) := by decide +kernel
theorem dX8_readsChain_24 : decode cX8_readsChain 24 = .ok (.getfield 75, 3) := by decide +kernel
theorem dX8_readsChain_27 : decode cX8_readsChain 27 = .ok (.if_icmp .ge 228, 3) := by decide +kernel
theorem dX8_readsChain_30 : decode cX8_readsChain 30 = .ok (.aload_n 0, 1) := by decide +kernel
theorem dX8_readsChain_31 : decode cX8_readsChain 31 = .ok (.getfield 7, 3) := by decide +kernel
theorem dX8_readsChain_34 : decode cX8_readsChain 34 = .ok (.aload_n 0, 1) := by decide +kernel
theorem dX8_readsChain_35 : decode cX8_readsChain 35 = .ok (.getfield 105, 3) := by decide +kernel
theorem dX8_readsChain_38 : decode cX8_readsChain 38 = .ok (.baload, 1) := by decide +kernel
theorem dX8_readsChain_39 : decode cX8_readsChain 39 = .ok (.istore_n 1, 1) := by decide +kernel
theorem dX8_readsChain_40 : decode cX8_readsChain 40 = .ok (.iload_n 1, 1) := by decide +kernel
theorem dX8_readsChain_41 : decode cX8_readsChain 41 = .ok (.bipush 114, 2) := by decide +kernel
theorem dX8_readsChain_43 : decode cX8_readsChain 43 = .ok (.if_icmp .eq 9, 3) := by decide +kernel
theorem dX8_readsChain_46 : decode cX8_readsChain 46 = .ok (.iload_n 1, 1) := by decide +kernel
theorem dX8_readsChain_47 : decode cX8_readsChain 47 = .ok (.bipush 119, 2) := by decide +kernel
theorem dX8_readsChain_49 : decode cX8_readsChain 49 = .ok (.if_icmp .ne 12, 3) := by decide +kernel
theorem dX8_readsChain_52 : decode cX8_readsChain 52 = .ok (.aload_n 0, 1) := by decide +kernel
theorem dX8_readsChain_53 : decode cX8_readsChain 53 = .ok (.getfield 111, 3) := by decide +kernel
theorem dX8_readsChain_56 : decode cX8_readsChain 56 = .ok (.bipush 8, 2) := by decide +kernel
theorem dX8_readsChain_58 : decode cX8_readsChain 58 = .ok (.if_icmp .ne 12, 3) := by decide +kernel
theorem dX8_readsChain_61 : decode cX8_readsChain 61 = .ok (.aload_n 0, 1) := by decide +kernel
theorem dX8_readsChain_62 : decode cX8_readsChain 62 = .ok (.aload_n 0, 1) := by decide +kernel
theorem dX8_readsChain_63 : decode cX8_readsChain 63 = .ok (.getfield 105, 3) := by decide +kernel
theorem dX8_readsChain_66 : decode cX8_readsChain 66 = .ok (.invokevirtual 120, 3) := by decide +kernel
theorem dX8_readsChain_69 : decode cX8_readsChain 69 = .ok (.ireturn, 1) := by decide +kernel
theorem dX8_readsChain_70 : decode cX8_readsChain 70 = .ok (.aload_n 0, 1) := by decide +kernel
theorem dX8_readsChain_71 : decode cX8_readsChain 71 = .ok (.dup, 1) := by decide +kernel
theorem dX8_readsChain_72 : decode cX8_readsChain 72 = .ok (.getfield 105, 3) := by decide +kernel
theorem dX8_readsChain_75 : decode cX8_readsChain 75 = .ok (.iconst 1, 1) := by decide +kernel
theorem dX8_readsChain_76 : decode cX8_readsChain 76 = .ok (.iadd, 1) := by decide +kernel
theorem dX8_readsChain_77 : decode cX8_readsChain 77 = .ok (.putfield 105, 3) := by decide +kernel
theorem dX8_readsChain_80 : decode cX8_readsChain 80 = .ok (.aload_n 0, 1) := by decide +kernel
theorem dX8_readsChain_81 : decode cX8_readsChain 81 = .ok (.invokevirtual 117, 3) := by decide +kernel
theorem dX8_readsChain_84 : decode cX8_readsChain 84 = .ok (.aload_n 0, 1) := by decide +kernel
theorem dX8_readsChain_85 : decode cX8_readsChain 85 = .ok (.getfield 105, 3) := by decide +kernel
theorem dX8_readsChain_88 : decode cX8_readsChain 88 = .ok (.aload_n 0, 1) := by decide +kernel
theorem dX8_readsChain_89 : decode cX8_readsChain 89 = .ok (.getfield 75, 3) := by decide +kernel
theorem dX8_readsChain_92 : decode cX8_readsChain 92 = .ok (.if_icmp .eq 18, 3) := by decide +kernel
theorem dX8_readsChain_95 : decode cX8_readsChain 95 = .ok (.aload_n 0, 1) := by decide +kernel
theorem dX8_readsChain_96 : decode cX8_readsChain 96 = .ok (.getfield 7, 3) := by decide +kernel
theorem dX8_readsChain_99 : decode cX8_readsChain 99 = .ok (.aload_n 0, 1) := by decide +kernel
theorem dX8_readsChain_100 : decode cX8_readsChain 100 = .ok (.getfield 105, 3) := by decide +kernel
theorem dX8_readsChain_103 : decode cX8_readsChain 103 = .ok (.baload, 1) := by decide +kernel
theorem dX8_readsChain_104 : decode cX8_readsChain 104 = .ok (.invokestatic 123, 3) := by decide +kernel
theorem dX8_readsChain_107 : decode cX8_readsChain 107 = .ok (.ifCond .ne 12, 3) := by decide +kernel
theorem dX8_readsChain_110 : decode cX8_readsChain 110 = .ok (.aload_n 0, 1) := by decide +kernel
theorem dX8_readsChain_111 : decode cX8_readsChain 111 = .ok (.aload_n 0, 1) := by decide +kernel
theorem dX8_readsChain_112 : decode cX8_readsChain 112 = .ok (.getfield 105, 3) := by decide +kernel
theorem dX8_readsChain_115 : decode cX8_readsChain 115 = .ok (.invokevirtual 120, 3) := by decide +kernel
theorem dX8_readsChain_118 : decode cX8_readsChain 118 = .ok (.ireturn, 1) := by decide +kernel
theorem dX8_readsChain_119 : decode cX8_readsChain 119 = .ok (.aload_n 0, 1) := by decide +kernel
theorem dX8_readsChain_120 : decode cX8_readsChain 120 = .ok (.getfield 105, 3) := by decide +kernel
theorem dX8_readsChain_123 : decode cX8_readsChain 123 = .ok (.istore_n 2, 1) := by decide +kernel
theorem dX8_readsChain_124 : decode cX8_readsChain 124 = .ok (.iconst 0, 1) := by decide +kernel
theorem dX8_readsChain_125 : decode cX8_readsChain 125 = .ok (.istore_n 3, 1) := by decide +kernel
theorem dX8_readsChain_126 : decode cX8_readsChain 126 = .ok (.aload_n 0, 1) := by decide +kernel
theorem dX8_readsChain_127 : decode cX8_readsChain 127 = .ok (.getfield 105, 3) := by decide +kernel
theorem dX8_readsChain_130 : decode cX8_readsChain 130 = .ok (.aload_n 0, 1) := by decide +kernel
theorem dX8_readsChain_131 : decode cX8_readsChain 131 = .ok (.getfield 75, 3) := by decide +kernel
theorem dX8_readsChain_134 : decode cX8_readsChain 134 = .ok (.if_icmp .ge 60, 3) := by decide +kernel
theorem dX8_readsChain_137 : decode cX8_readsChain 137 = .ok (.aload_n 0, 1) := by decide +kernel
theorem dX8_readsChain_138 : decode cX8_readsChain 138 = .ok (.getfield 7, 3) := by decide +kernel
theorem dX8_readsChain_141 : decode cX8_readsChain 141 = .ok (.aload_n 0, 1) := by decide +kernel
theorem dX8_readsChain_142 : decode cX8_readsChain 142 = .ok (.getfield 105, 3) := by decide +kernel
theorem dX8_readsChain_145 : decode cX8_readsChain 145 = .ok (.baload, 1) := by decide +kernel
theorem dX8_readsChain_146 : decode cX8_readsChain 146 = .ok (.invokestatic 123, 3) := by decide +kernel
theorem dX8_readsChain_149 : decode cX8_readsChain 149 = .ok (.ifCond .eq 45, 3) := by decide +kernel
theorem dX8_readsChain_152 : decode cX8_readsChain 152 = .ok (.iload_n 3, 1) := by decide +kernel
theorem dX8_readsChain_153 : decode cX8_readsChain 153 = .ok (.sipush 999, 3) := by decide +kernel
theorem dX8_readsChain_156 : decode cX8_readsChain 156 = .ok (.if_icmp .le 7, 3) := by decide +kernel
theorem dX8_readsChain_159 : decode cX8_readsChain 159 = .ok (.iload_n 3, 1) := by decide +kernel
theorem dX8_readsChain_160 : decode cX8_readsChain 160 = .ok (.goto 20, 3) := by decide +kernel
theorem dX8_readsChain_163 : decode cX8_readsChain 163 = .ok (.bipush 10, 2) := by decide +kernel
theorem dX8_readsChain_165 : decode cX8_readsChain 165 = .ok (.iload_n 3, 1) := by decide +kernel
theorem dX8_readsChain_166 : decode cX8_readsChain 166 = .ok (.imul, 1) := by decide +kernel
theorem dX8_readsChain_167 : decode cX8_readsChain 167 = .ok (.aload_n 0, 1) := by decide +kernel
theorem dX8_readsChain_168 : decode cX8_readsChain 168 = .ok (.getfield 7, 3) := by decide +kernel
theorem dX8_readsChain_171 : decode cX8_readsChain 171 = .ok (.aload_n 0, 1) := by decide +kernel
theorem dX8_readsChain_172 : decode cX8_readsChain 172 = .ok (.getfield 105, 3) := by decide +kernel
theorem dX8_readsChain_175 : decode cX8_readsChain 175 = .ok (.baload, 1) := by decide +kernel
theorem dX8_readsChain_176 : decode cX8_readsChain 176 = .ok (.iadd, 1) := by decide +kernel
theorem dX8_readsChain_177 : decode cX8_readsChain 177 = .ok (.bipush 48, 2) := by decide +kernel
theorem dX8_readsChain_179 : decode cX8_readsChain 179 = .ok (.isub, 1) := by decide +kernel
theorem dX8_readsChain_180 : decode cX8_readsChain 180 = .ok (.istore_n 3, 1) := by decide +kernel
theorem dX8_readsChain_181 : decode cX8_readsChain 181 = .ok (.aload_n 0, 1) := by decide +kernel
theorem dX8_readsChain_182 : decode cX8_readsChain 182 = .ok (.dup, 1) := by decide +kernel
theorem dX8_readsChain_183 : decode cX8_readsChain 183 = .ok (.getfield 105, 3) := by decide +kernel
theorem dX8_readsChain_186 : decode cX8_readsChain 186 = .ok (.iconst 1, 1) := by decide +kernel
theorem dX8_readsChain_187 : decode cX8_readsChain 187 = .ok (.iadd, 1) := by decide +kernel
theorem dX8_readsChain_188 : decode cX8_readsChain 188 = .ok (.putfield 105, 3) := by decide +kernel
theorem dX8_readsChain_191 : decode cX8_readsChain 191 = .ok (.goto (-65), 3) := by decide +kernel
theorem dX8_readsChain_194 : decode cX8_readsChain 194 = .ok (.iload_n 3, 1) := by decide +kernel
theorem dX8_readsChain_195 : decode cX8_readsChain 195 = .ok (.sipush 999, 3) := by decide +kernel
theorem dX8_readsChain_198 : decode cX8_readsChain 198 = .ok (.if_icmp .le 9, 3) := by decide +kernel
theorem dX8_readsChain_201 : decode cX8_readsChain 201 = .ok (.aload_n 0, 1) := by decide +kernel
theorem dX8_readsChain_202 : decode cX8_readsChain 202 = .ok (.iload_n 2, 1) := by decide +kernel
theorem dX8_readsChain_203 : decode cX8_readsChain 203 = .ok (.invokevirtual 120, 3) := by decide +kernel
theorem dX8_readsChain_206 : decode cX8_readsChain 206 = .ok (.ireturn, 1) := by decide +kernel
theorem dX8_readsChain_207 : decode cX8_readsChain 207 = .ok (.aload_n 0, 1) := by decide +kernel
theorem dX8_readsChain_208 : decode cX8_readsChain 208 = .ok (.getfield 24, 3) := by decide +kernel
theorem dX8_readsChain_211 : decode cX8_readsChain 211 = .ok (.aload_n 0, 1) := by decide +kernel
theorem dX8_readsChain_212 : decode cX8_readsChain 212 = .ok (.getfield 111, 3) := by decide +kernel
theorem dX8_readsChain_215 : decode cX8_readsChain 215 = .ok (.iload_n 3, 1) := by decide +kernel
theorem dX8_readsChain_216 : decode cX8_readsChain 216 = .ok (.iastore, 1) := by decide +kernel
theorem dX8_readsChain_217 : decode cX8_readsChain 217 = .ok (.iload_n 1, 1) := by decide +kernel
theorem dX8_readsChain_218 : decode cX8_readsChain 218 = .ok (.bipush 119, 2) := by decide +kernel
theorem dX8_readsChain_220 : decode cX8_readsChain 220 = .ok (.if_icmp .ne 18, 3) := by decide +kernel
theorem dX8_readsChain_223 : decode cX8_readsChain 223 = .ok (.aload_n 0, 1) := by decide +kernel
theorem dX8_readsChain_224 : decode cX8_readsChain 224 = .ok (.dup, 1) := by decide +kernel
theorem dX8_readsChain_225 : decode cX8_readsChain 225 = .ok (.getfield 114, 3) := by decide +kernel
theorem dX8_readsChain_228 : decode cX8_readsChain 228 = .ok (.iconst 1, 1) := by decide +kernel
theorem dX8_readsChain_229 : decode cX8_readsChain 229 = .ok (.aload_n 0, 1) := by decide +kernel
theorem dX8_readsChain_230 : decode cX8_readsChain 230 = .ok (.getfield 111, 3) := by decide +kernel
theorem dX8_readsChain_233 : decode cX8_readsChain 233 = .ok (.ishl, 1) := by decide +kernel
theorem dX8_readsChain_234 : decode cX8_readsChain 234 = .ok (.ior, 1) := by decide +kernel
theorem dX8_readsChain_235 : decode cX8_readsChain 235 = .ok (.putfield 114, 3) := by decide +kernel
theorem dX8_readsChain_238 : decode cX8_readsChain 238 = .ok (.aload_n 0, 1) := by decide +kernel
theorem dX8_readsChain_239 : decode cX8_readsChain 239 = .ok (.dup, 1) := by decide +kernel
theorem dX8_readsChain_240 : decode cX8_readsChain 240 = .ok (.getfield 111, 3) := by decide +kernel
theorem dX8_readsChain_243 : decode cX8_readsChain 243 = .ok (.iconst 1, 1) := by decide +kernel
theorem dX8_readsChain_244 : decode cX8_readsChain 244 = .ok (.iadd, 1) := by decide +kernel
theorem dX8_readsChain_245 : decode cX8_readsChain 245 = .ok (.putfield 111, 3) := by decide +kernel
theorem dX8_readsChain_248 : decode cX8_readsChain 248 = .ok (.aload_n 0, 1) := by decide +kernel
theorem dX8_readsChain_249 : decode cX8_readsChain 249 = .ok (.invokevirtual 117, 3) := by decide +kernel
theorem dX8_readsChain_252 : decode cX8_readsChain 252 = .ok (.goto (-233), 3) := by decide +kernel
theorem dX8_readsChain_255 : decode cX8_readsChain 255 = .ok (.aload_n 0, 1) := by decide +kernel
theorem dX8_readsChain_256 : decode cX8_readsChain 256 = .ok (.getfield 111, 3) := by decide +kernel
theorem dX8_readsChain_259 : decode cX8_readsChain 259 = .ok (.ifCond .gt 14, 3) := by decide +kernel
theorem dX8_readsChain_262 : decode cX8_readsChain 262 = .ok (.aload_n 0, 1) := by decide +kernel
theorem dX8_readsChain_263 : decode cX8_readsChain 263 = .ok (.aload_n 0, 1) := by decide +kernel
theorem dX8_readsChain_264 : decode cX8_readsChain 264 = .ok (.getfield 75, 3) := by decide +kernel
theorem dX8_readsChain_267 : decode cX8_readsChain 267 = .ok (.invokevirtual 120, 3) := by decide +kernel
theorem dX8_readsChain_270 : decode cX8_readsChain 270 = .ok (.ifCond .eq 7, 3) := by decide +kernel
theorem dX8_readsChain_273 : decode cX8_readsChain 273 = .ok (.iconst 1, 1) := by decide +kernel
theorem dX8_readsChain_274 : decode cX8_readsChain 274 = .ok (.goto 4, 3) := by decide +kernel
theorem dX8_readsChain_277 : decode cX8_readsChain 277 = .ok (.iconst 0, 1) := by decide +kernel
theorem dX8_readsChain_278 : decode cX8_readsChain 278 = .ok (.ireturn, 1) := by decide +kernel
theorem dX8_lays_0 : decode cX8_lays 0 = .ok (.aload_n 0, 1) := by decide +kernel
theorem dX8_lays_1 : decode cX8_lays 1 = .ok (.getfield 13, 3) := by decide +kernel
theorem dX8_lays_4 : decode cX8_lays 4 = .ok (.iload_n 1, 1) := by decide +kernel
theorem dX8_lays_5 : decode cX8_lays 5 = .ok (.iload_n 2, 1) := by decide +kernel
theorem dX8_lays_6 : decode cX8_lays 6 = .ok (.iconst 0, 1) := by decide +kernel
theorem dX8_lays_7 : decode cX8_lays 7 = .ok (.invokestatic 126, 3) := by decide +kernel
theorem dX8_lays_10 : decode cX8_lays 10 = .ok (.iload_n 3, 1) := by decide +kernel
theorem dX8_lays_11 : decode cX8_lays 11 = .ok (.iastore, 1) := by decide +kernel
theorem dX8_lays_12 : decode cX8_lays 12 = .ok (.aload_n 0, 1) := by decide +kernel
theorem dX8_lays_13 : decode cX8_lays 13 = .ok (.getfield 13, 3) := by decide +kernel
theorem dX8_lays_16 : decode cX8_lays 16 = .ok (.iload_n 1, 1) := by decide +kernel
theorem dX8_lays_17 : decode cX8_lays 17 = .ok (.iload_n 2, 1) := by decide +kernel
theorem dX8_lays_18 : decode cX8_lays 18 = .ok (.iconst 1, 1) := by decide +kernel
theorem dX8_lays_19 : decode cX8_lays 19 = .ok (.invokestatic 126, 3) := by decide +kernel
theorem dX8_lays_22 : decode cX8_lays 22 = .ok (.iload 4, 2) := by decide +kernel
theorem dX8_lays_24 : decode cX8_lays 24 = .ok (.iastore, 1) := by decide +kernel
theorem dX8_lays_25 : decode cX8_lays 25 = .ok (.aload_n 0, 1) := by decide +kernel
theorem dX8_lays_26 : decode cX8_lays 26 = .ok (.getfield 13, 3) := by decide +kernel
theorem dX8_lays_29 : decode cX8_lays 29 = .ok (.iload_n 1, 1) := by decide +kernel
theorem dX8_lays_30 : decode cX8_lays 30 = .ok (.iload_n 2, 1) := by decide +kernel
theorem dX8_lays_31 : decode cX8_lays 31 = .ok (.iconst 2, 1) := by decide +kernel
theorem dX8_lays_32 : decode cX8_lays 32 = .ok (.invokestatic 126, 3) := by decide +kernel
theorem dX8_lays_35 : decode cX8_lays 35 = .ok (.iload 5, 2) := by decide +kernel
theorem dX8_lays_37 : decode cX8_lays 37 = .ok (.iastore, 1) := by decide +kernel
theorem dX8_lays_38 : decode cX8_lays 38 = .ok (.return_, 1) := by decide +kernel
theorem dX8_flagsOf_0 : decode cX8_flagsOf 0 = .ok (.aload_n 0, 1) := by decide +kernel
theorem dX8_flagsOf_1 : decode cX8_flagsOf 1 = .ok (.getfield 114, 3) := by decide +kernel
theorem dX8_flagsOf_4 : decode cX8_flagsOf 4 = .ok (.iload_n 1, 1) := by decide +kernel
theorem dX8_flagsOf_5 : decode cX8_flagsOf 5 = .ok (.invokestatic 81, 3) := by decide +kernel
theorem dX8_flagsOf_8 : decode cX8_flagsOf 8 = .ok (.ifCond .eq 7, 3) := by decide +kernel
theorem dX8_flagsOf_11 : decode cX8_flagsOf 11 = .ok (.iconst 2, 1) := by decide +kernel
theorem dX8_flagsOf_12 : decode cX8_flagsOf 12 = .ok (.goto 4, 3) := by decide +kernel
theorem dX8_flagsOf_15 : decode cX8_flagsOf 15 = .ok (.iconst 0, 1) := by decide +kernel
theorem dX8_flagsOf_16 : decode cX8_flagsOf 16 = .ok (.iload_n 1, 1) := by decide +kernel
theorem dX8_flagsOf_17 : decode cX8_flagsOf 17 = .ok (.aload_n 0, 1) := by decide +kernel
theorem dX8_flagsOf_18 : decode cX8_flagsOf 18 = .ok (.getfield 111, 3) := by decide +kernel
theorem dX8_flagsOf_21 : decode cX8_flagsOf 21 = .ok (.iconst 1, 1) := by decide +kernel
theorem dX8_flagsOf_22 : decode cX8_flagsOf 22 = .ok (.isub, 1) := by decide +kernel
theorem dX8_flagsOf_23 : decode cX8_flagsOf 23 = .ok (.if_icmp .ge 7, 3) := by decide +kernel
theorem dX8_flagsOf_26 : decode cX8_flagsOf 26 = .ok (.iconst 1, 1) := by decide +kernel
theorem dX8_flagsOf_27 : decode cX8_flagsOf 27 = .ok (.goto 4, 3) := by decide +kernel
theorem dX8_flagsOf_30 : decode cX8_flagsOf 30 = .ok (.iconst 0, 1) := by decide +kernel
theorem dX8_flagsOf_31 : decode cX8_flagsOf 31 = .ok (.ior, 1) := by decide +kernel
theorem dX8_flagsOf_32 : decode cX8_flagsOf 32 = .ok (.ireturn, 1) := by decide +kernel
theorem dX8_marks_0 : decode cX8_marks 0 = .ok (.aload_n 0, 1) := by decide +kernel
theorem dX8_marks_1 : decode cX8_marks 1 = .ok (.iload_n 1, 1) := by decide +kernel
theorem dX8_marks_2 : decode cX8_marks 2 = .ok (.invokevirtual 130, 3) := by decide +kernel
theorem dX8_marks_5 : decode cX8_marks 5 = .ok (.ifCond .eq 8, 3) := by decide +kernel
theorem dX8_marks_8 : decode cX8_marks 8 = .ok (.bipush 8, 2) := by decide +kernel
theorem dX8_marks_10 : decode cX8_marks 10 = .ok (.goto 5, 3) := by decide +kernel
theorem dX8_marks_13 : decode cX8_marks 13 = .ok (.bipush 16, 2) := by decide +kernel
theorem dX8_marks_15 : decode cX8_marks 15 = .ok (.ireturn, 1) := by decide +kernel
theorem dX8_laysTable_0 : decode cX8_laysTable 0 = .ok (.aload_n 0, 1) := by decide +kernel
theorem dX8_laysTable_1 : decode cX8_laysTable 1 = .ok (.getfield 13, 3) := by decide +kernel
theorem dX8_laysTable_4 : decode cX8_laysTable 4 = .ok (.bipush 19, 2) := by decide +kernel
theorem dX8_laysTable_6 : decode cX8_laysTable 6 = .ok (.iload_n 1, 1) := by decide +kernel
theorem dX8_laysTable_7 : decode cX8_laysTable 7 = .ok (.iadd, 1) := by decide +kernel
theorem dX8_laysTable_8 : decode cX8_laysTable 8 = .ok (.aload_n 0, 1) := by decide +kernel
theorem dX8_laysTable_9 : decode cX8_laysTable 9 = .ok (.getfield 111, 3) := by decide +kernel
theorem dX8_laysTable_12 : decode cX8_laysTable 12 = .ok (.iastore, 1) := by decide +kernel
theorem dX8_laysTable_13 : decode cX8_laysTable 13 = .ok (.iconst 0, 1) := by decide +kernel
theorem dX8_laysTable_14 : decode cX8_laysTable 14 = .ok (.istore_n 2, 1) := by decide +kernel
theorem dX8_laysTable_15 : decode cX8_laysTable 15 = .ok (.iload_n 2, 1) := by decide +kernel
theorem dX8_laysTable_16 : decode cX8_laysTable 16 = .ok (.aload_n 0, 1) := by decide +kernel
theorem dX8_laysTable_17 : decode cX8_laysTable 17 = .ok (.getfield 111, 3) := by decide +kernel
theorem dX8_laysTable_20 : decode cX8_laysTable 20 = .ok (.if_icmp .ge 43, 3) := by decide +kernel
theorem dX8_laysTable_23 : decode cX8_laysTable 23 = .ok (.aload_n 0, 1) := by decide +kernel
theorem dX8_laysTable_24 : decode cX8_laysTable 24 = .ok (.iload_n 1, 1) := by decide +kernel
theorem dX8_laysTable_25 : decode cX8_laysTable 25 = .ok (.iload_n 2, 1) := by decide +kernel
theorem dX8_laysTable_26 : decode cX8_laysTable 26 = .ok (.aload_n 0, 1) := by decide +kernel
theorem dX8_laysTable_27 : decode cX8_laysTable 27 = .ok (.getfield 24, 3) := by decide +kernel
theorem dX8_laysTable_30 : decode cX8_laysTable 30 = .ok (.iload_n 2, 1) := by decide +kernel
theorem dX8_laysTable_31 : decode cX8_laysTable 31 = .ok (.iaload, 1) := by decide +kernel
theorem dX8_laysTable_32 : decode cX8_laysTable 32 = .ok (.aload_n 0, 1) := by decide +kernel
theorem dX8_laysTable_33 : decode cX8_laysTable 33 = .ok (.iload_n 2, 1) := by decide +kernel
theorem dX8_laysTable_34 : decode cX8_laysTable 34 = .ok (.invokevirtual 133, 3) := by decide +kernel
theorem dX8_laysTable_37 : decode cX8_laysTable 37 = .ok (.iload_n 2, 1) := by decide +kernel
theorem dX8_laysTable_38 : decode cX8_laysTable 38 = .ok (.aload_n 0, 1) := by decide +kernel
theorem dX8_laysTable_39 : decode cX8_laysTable 39 = .ok (.getfield 111, 3) := by decide +kernel
theorem dX8_laysTable_42 : decode cX8_laysTable 42 = .ok (.iconst 1, 1) := by decide +kernel
theorem dX8_laysTable_43 : decode cX8_laysTable 43 = .ok (.isub, 1) := by decide +kernel
theorem dX8_laysTable_44 : decode cX8_laysTable 44 = .ok (.if_icmp .ge 9, 3) := by decide +kernel
theorem dX8_laysTable_47 : decode cX8_laysTable 47 = .ok (.iload_n 2, 1) := by decide +kernel
theorem dX8_laysTable_48 : decode cX8_laysTable 48 = .ok (.iconst 1, 1) := by decide +kernel
theorem dX8_laysTable_49 : decode cX8_laysTable 49 = .ok (.iadd, 1) := by decide +kernel
theorem dX8_laysTable_50 : decode cX8_laysTable 50 = .ok (.goto 4, 3) := by decide +kernel
theorem dX8_laysTable_53 : decode cX8_laysTable 53 = .ok (.iconst 0, 1) := by decide +kernel
theorem dX8_laysTable_54 : decode cX8_laysTable 54 = .ok (.invokevirtual 137, 3) := by decide +kernel
theorem dX8_laysTable_57 : decode cX8_laysTable 57 = .ok (.iinc 2 1, 3) := by decide +kernel
theorem dX8_laysTable_60 : decode cX8_laysTable 60 = .ok (.goto (-45), 3) := by decide +kernel
theorem dX8_laysTable_63 : decode cX8_laysTable 63 = .ok (.return_, 1) := by decide +kernel
theorem dX8_offers_0 : decode cX8_offers 0 = .ok (.aload_n 0, 1) := by decide +kernel
theorem dX8_offers_1 : decode cX8_offers 1 = .ok (.getfield 13, 3) := by decide +kernel
theorem dX8_offers_4 : decode cX8_offers 4 = .ok (.bipush 16, 2) := by decide +kernel
theorem dX8_offers_6 : decode cX8_offers 6 = .ok (.iaload, 1) := by decide +kernel
theorem dX8_offers_7 : decode cX8_offers 7 = .ok (.istore 4, 2) := by decide +kernel
theorem dX8_offers_9 : decode cX8_offers 9 = .ok (.iload_n 1, 1) := by decide +kernel
theorem dX8_offers_10 : decode cX8_offers 10 = .ok (.ifCond .eq 7, 3) := by decide +kernel
theorem dX8_offers_13 : decode cX8_offers 13 = .ok (.iconst 1, 1) := by decide +kernel
theorem dX8_offers_14 : decode cX8_offers 14 = .ok (.goto 7, 3) := by decide +kernel
theorem dX8_offers_17 : decode cX8_offers 17 = .ok (.aload_n 0, 1) := by decide +kernel
theorem dX8_offers_18 : decode cX8_offers 18 = .ok (.getfield 111, 3) := by decide +kernel
theorem dX8_offers_21 : decode cX8_offers 21 = .ok (.istore 5, 2) := by decide +kernel
theorem dX8_offers_23 : decode cX8_offers 23 = .ok (.aload_n 0, 1) := by decide +kernel
theorem dX8_offers_24 : decode cX8_offers 24 = .ok (.invokevirtual 141, 3) := by decide +kernel
theorem dX8_offers_27 : decode cX8_offers 27 = .ok (.istore 6, 2) := by decide +kernel
theorem dX8_offers_29 : decode cX8_offers 29 = .ok (.iconst 0, 1) := by decide +kernel
theorem dX8_offers_30 : decode cX8_offers 30 = .ok (.istore 7, 2) := by decide +kernel
theorem dX8_offers_32 : decode cX8_offers 32 = .ok (.aload_n 0, 1) := by decide +kernel
theorem dX8_offers_33 : decode cX8_offers 33 = .ok (.getfield 13, 3) := by decide +kernel
theorem dX8_offers_36 : decode cX8_offers 36 = .ok (.bipush 16, 2) := by decide +kernel
theorem dX8_offers_38 : decode cX8_offers 38 = .ok (.dup2, 1) := by decide +kernel
theorem dX8_offers_39 : decode cX8_offers 39 = .ok (.iaload, 1) := by decide +kernel
theorem dX8_offers_40 : decode cX8_offers 40 = .ok (.iconst 1, 1) := by decide +kernel
theorem dX8_offers_41 : decode cX8_offers 41 = .ok (.iadd, 1) := by decide +kernel
theorem dX8_offers_42 : decode cX8_offers 42 = .ok (.iastore, 1) := by decide +kernel
theorem dX8_offers_43 : decode cX8_offers 43 = .ok (.iload_n 1, 1) := by decide +kernel
theorem dX8_offers_44 : decode cX8_offers 44 = .ok (.ifCond .eq 8, 3) := by decide +kernel
theorem dX8_offers_47 : decode cX8_offers 47 = .ok (.aload_n 0, 1) := by decide +kernel
theorem dX8_offers_48 : decode cX8_offers 48 = .ok (.iload_n 3, 1) := by decide +kernel
theorem dX8_offers_49 : decode cX8_offers 49 = .ok (.invokevirtual 144, 3) := by decide +kernel
theorem dX8_offers_52 : decode cX8_offers 52 = .ok (.aload_n 0, 1) := by decide +kernel
theorem dX8_offers_53 : decode cX8_offers 53 = .ok (.invokevirtual 85, 3) := by decide +kernel
theorem dX8_offers_56 : decode cX8_offers 56 = .ok (.ifCond .eq 99, 3) := by decide +kernel
theorem dX8_offers_59 : decode cX8_offers 59 = .ok (.iconst 0, 1) := by decide +kernel
theorem dX8_offers_60 : decode cX8_offers 60 = .ok (.istore 8, 2) := by decide +kernel
theorem dX8_offers_62 : decode cX8_offers 62 = .ok (.iload 8, 2) := by decide +kernel
theorem dX8_offers_64 : decode cX8_offers 64 = .ok (.iload 5, 2) := by decide +kernel
theorem dX8_offers_66 : decode cX8_offers 66 = .ok (.if_icmp .ge 86, 3) := by decide +kernel
theorem dX8_offers_69 : decode cX8_offers 69 = .ok (.aload_n 0, 1) := by decide +kernel
theorem dX8_offers_70 : decode cX8_offers 70 = .ok (.aload_n 0, 1) := by decide +kernel
theorem dX8_offers_71 : decode cX8_offers 71 = .ok (.getfield 13, 3) := by decide +kernel
theorem dX8_offers_74 : decode cX8_offers 74 = .ok (.iconst 3, 1) := by decide +kernel
theorem dX8_offers_75 : decode cX8_offers 75 = .ok (.iaload, 1) := by decide +kernel
theorem dX8_offers_76 : decode cX8_offers 76 = .ok (.iload 8, 2) := by decide +kernel
theorem dX8_offers_78 : decode cX8_offers 78 = .ok (.invokevirtual 147, 3) := by decide +kernel
theorem dX8_offers_81 : decode cX8_offers 81 = .ok (.istore 9, 2) := by decide +kernel
theorem dX8_offers_83 : decode cX8_offers 83 = .ok (.iload_n 1, 1) := by decide +kernel
theorem dX8_offers_84 : decode cX8_offers 84 = .ok (.ifCond .eq 30, 3) := by decide +kernel
theorem dX8_offers_87 : decode cX8_offers 87 = .ok (.aload_n 0, 1) := by decide +kernel
theorem dX8_offers_88 : decode cX8_offers 88 = .ok (.iconst 0, 1) := by decide +kernel
theorem dX8_offers_89 : decode cX8_offers 89 = .ok (.aload_n 0, 1) := by decide +kernel
theorem dX8_offers_90 : decode cX8_offers 90 = .ok (.iload 9, 2) := by decide +kernel
theorem dX8_offers_92 : decode cX8_offers 92 = .ok (.invokevirtual 150, 3) := by decide +kernel
theorem dX8_offers_95 : decode cX8_offers 95 = .ok (.aload_n 0, 1) := by decide +kernel
theorem dX8_offers_96 : decode cX8_offers 96 = .ok (.getfield 111, 3) := by decide +kernel
theorem dX8_offers_99 : decode cX8_offers 99 = .ok (.iconst 4, 1) := by decide +kernel
theorem dX8_offers_100 : decode cX8_offers 100 = .ok (.aload_n 0, 1) := by decide +kernel
theorem dX8_offers_101 : decode cX8_offers 101 = .ok (.iload 9, 2) := by decide +kernel
theorem dX8_offers_103 : decode cX8_offers 103 = .ok (.invokevirtual 153, 3) := by decide +kernel
theorem dX8_offers_106 : decode cX8_offers 106 = .ok (.ior, 1) := by decide +kernel
theorem dX8_offers_107 : decode cX8_offers 107 = .ok (.iload_n 2, 1) := by decide +kernel
theorem dX8_offers_108 : decode cX8_offers 108 = .ok (.invokevirtual 137, 3) := by decide +kernel
theorem dX8_offers_111 : decode cX8_offers 111 = .ok (.goto 35, 3) := by decide +kernel
theorem dX8_offers_114 : decode cX8_offers 114 = .ok (.aload_n 0, 1) := by decide +kernel
theorem dX8_offers_115 : decode cX8_offers 115 = .ok (.iconst 0, 1) := by decide +kernel
theorem dX8_offers_116 : decode cX8_offers 116 = .ok (.aload_n 0, 1) := by decide +kernel
theorem dX8_offers_117 : decode cX8_offers 117 = .ok (.iload 9, 2) := by decide +kernel
theorem dX8_offers_119 : decode cX8_offers 119 = .ok (.invokevirtual 150, 3) := by decide +kernel
theorem dX8_offers_122 : decode cX8_offers 122 = .ok (.aload_n 0, 1) := by decide +kernel
theorem dX8_offers_123 : decode cX8_offers 123 = .ok (.getfield 24, 3) := by decide +kernel
theorem dX8_offers_126 : decode cX8_offers 126 = .ok (.iload 8, 2) := by decide +kernel
theorem dX8_offers_128 : decode cX8_offers 128 = .ok (.iaload, 1) := by decide +kernel
theorem dX8_offers_129 : decode cX8_offers 129 = .ok (.aload_n 0, 1) := by decide +kernel
theorem dX8_offers_130 : decode cX8_offers 130 = .ok (.iload 8, 2) := by decide +kernel
theorem dX8_offers_132 : decode cX8_offers 132 = .ok (.invokevirtual 133, 3) := by decide +kernel
theorem dX8_offers_135 : decode cX8_offers 135 = .ok (.aload_n 0, 1) := by decide +kernel
theorem dX8_offers_136 : decode cX8_offers 136 = .ok (.iload 9, 2) := by decide +kernel
theorem dX8_offers_138 : decode cX8_offers 138 = .ok (.invokevirtual 153, 3) := by decide +kernel
theorem dX8_offers_141 : decode cX8_offers 141 = .ok (.ior, 1) := by decide +kernel
theorem dX8_offers_142 : decode cX8_offers 142 = .ok (.iload_n 2, 1) := by decide +kernel
theorem dX8_offers_143 : decode cX8_offers 143 = .ok (.invokevirtual 137, 3) := by decide +kernel
theorem dX8_offers_146 : decode cX8_offers 146 = .ok (.iinc 8 1, 3) := by decide +kernel
theorem dX8_offers_149 : decode cX8_offers 149 = .ok (.goto (-87), 3) := by decide +kernel
theorem dX8_offers_152 : decode cX8_offers 152 = .ok (.goto 134, 3) := by decide +kernel
theorem dX8_offers_155 : decode cX8_offers 155 = .ok (.iconst (-1), 1) := by decide +kernel
theorem dX8_offers_156 : decode cX8_offers 156 = .ok (.istore 8, 2) := by decide +kernel
theorem dX8_offers_158 : decode cX8_offers 158 = .ok (.iconst 0, 1) := by decide +kernel
theorem dX8_offers_159 : decode cX8_offers 159 = .ok (.istore 9, 2) := by decide +kernel
theorem dX8_offers_161 : decode cX8_offers 161 = .ok (.iconst 0, 1) := by decide +kernel
theorem dX8_offers_162 : decode cX8_offers 162 = .ok (.istore 10, 2) := by decide +kernel
theorem dX8_offers_164 : decode cX8_offers 164 = .ok (.iload 9, 2) := by decide +kernel
theorem dX8_offers_166 : decode cX8_offers 166 = .ok (.iload 5, 2) := by decide +kernel
theorem dX8_offers_168 : decode cX8_offers 168 = .ok (.if_icmp .ge 98, 3) := by decide +kernel
theorem dX8_offers_171 : decode cX8_offers 171 = .ok (.iload 6, 2) := by decide +kernel
theorem dX8_offers_173 : decode cX8_offers 173 = .ok (.iload 10, 2) := by decide +kernel
theorem dX8_offers_175 : decode cX8_offers 175 = .ok (.invokestatic 81, 3) := by decide +kernel
theorem dX8_offers_178 : decode cX8_offers 178 = .ok (.ifCond .eq 6, 3) := by decide +kernel
theorem dX8_offers_181 : decode cX8_offers 181 = .ok (.goto 79, 3) := by decide +kernel
theorem dX8_offers_184 : decode cX8_offers 184 = .ok (.iload 7, 2) := by decide +kernel
theorem dX8_offers_186 : decode cX8_offers 186 = .ok (.iconst 1, 1) := by decide +kernel
theorem dX8_offers_187 : decode cX8_offers 187 = .ok (.iload 10, 2) := by decide +kernel
theorem dX8_offers_189 : decode cX8_offers 189 = .ok (.ishl, 1) := by decide +kernel
theorem dX8_offers_190 : decode cX8_offers 190 = .ok (.ior, 1) := by decide +kernel
theorem dX8_offers_191 : decode cX8_offers 191 = .ok (.istore 7, 2) := by decide +kernel
theorem dX8_offers_193 : decode cX8_offers 193 = .ok (.iload_n 1, 1) := by decide +kernel
theorem dX8_offers_194 : decode cX8_offers 194 = .ok (.ifCond .eq 19, 3) := by decide +kernel
theorem dX8_offers_197 : decode cX8_offers 197 = .ok (.aload_n 0, 1) := by decide +kernel
theorem dX8_offers_198 : decode cX8_offers 198 = .ok (.iconst 0, 1) := by decide +kernel
theorem dX8_offers_199 : decode cX8_offers 199 = .ok (.iload 10, 2) := by decide +kernel
theorem dX8_offers_201 : decode cX8_offers 201 = .ok (.aload_n 0, 1) := by decide +kernel
theorem dX8_offers_202 : decode cX8_offers 202 = .ok (.getfield 111, 3) := by decide +kernel
theorem dX8_offers_205 : decode cX8_offers 205 = .ok (.iconst 4, 1) := by decide +kernel
theorem dX8_offers_206 : decode cX8_offers 206 = .ok (.iload_n 3, 1) := by decide +kernel
theorem dX8_offers_207 : decode cX8_offers 207 = .ok (.invokevirtual 137, 3) := by decide +kernel
theorem dX8_offers_210 : decode cX8_offers 210 = .ok (.goto 24, 3) := by decide +kernel
theorem dX8_offers_213 : decode cX8_offers 213 = .ok (.aload_n 0, 1) := by decide +kernel
theorem dX8_offers_214 : decode cX8_offers 214 = .ok (.iconst 0, 1) := by decide +kernel
theorem dX8_offers_215 : decode cX8_offers 215 = .ok (.iload 10, 2) := by decide +kernel
theorem dX8_offers_217 : decode cX8_offers 217 = .ok (.aload_n 0, 1) := by decide +kernel
theorem dX8_offers_218 : decode cX8_offers 218 = .ok (.getfield 24, 3) := by decide +kernel
theorem dX8_offers_221 : decode cX8_offers 221 = .ok (.iload 9, 2) := by decide +kernel
theorem dX8_offers_223 : decode cX8_offers 223 = .ok (.iaload, 1) := by decide +kernel
theorem dX8_offers_224 : decode cX8_offers 224 = .ok (.aload_n 0, 1) := by decide +kernel
theorem dX8_offers_225 : decode cX8_offers 225 = .ok (.iload 9, 2) := by decide +kernel
theorem dX8_offers_227 : decode cX8_offers 227 = .ok (.invokevirtual 133, 3) := by decide +kernel
theorem dX8_offers_230 : decode cX8_offers 230 = .ok (.iconst 0, 1) := by decide +kernel
theorem dX8_offers_231 : decode cX8_offers 231 = .ok (.invokevirtual 137, 3) := by decide +kernel
theorem dX8_offers_234 : decode cX8_offers 234 = .ok (.iload 8, 2) := by decide +kernel
theorem dX8_offers_236 : decode cX8_offers 236 = .ok (.ifCond .lt 17, 3) := by decide +kernel
theorem dX8_offers_239 : decode cX8_offers 239 = .ok (.aload_n 0, 1) := by decide +kernel
theorem dX8_offers_240 : decode cX8_offers 240 = .ok (.getfield 13, 3) := by decide +kernel
theorem dX8_offers_243 : decode cX8_offers 243 = .ok (.iconst 0, 1) := by decide +kernel
theorem dX8_offers_244 : decode cX8_offers 244 = .ok (.iload 8, 2) := by decide +kernel
theorem dX8_offers_246 : decode cX8_offers 246 = .ok (.iconst 2, 1) := by decide +kernel
theorem dX8_offers_247 : decode cX8_offers 247 = .ok (.invokestatic 126, 3) := by decide +kernel
theorem dX8_offers_250 : decode cX8_offers 250 = .ok (.iload 10, 2) := by decide +kernel
theorem dX8_offers_252 : decode cX8_offers 252 = .ok (.iastore, 1) := by decide +kernel
theorem dX8_offers_253 : decode cX8_offers 253 = .ok (.iload 10, 2) := by decide +kernel
theorem dX8_offers_255 : decode cX8_offers 255 = .ok (.istore 8, 2) := by decide +kernel
theorem dX8_offers_257 : decode cX8_offers 257 = .ok (.iinc 9 1, 3) := by decide +kernel
theorem dX8_offers_260 : decode cX8_offers 260 = .ok (.iinc 10 1, 3) := by decide +kernel
theorem dX8_offers_263 : decode cX8_offers 263 = .ok (.goto (-99), 3) := by decide +kernel
theorem dX8_offers_266 : decode cX8_offers 266 = .ok (.aload_n 0, 1) := by decide +kernel
theorem dX8_offers_267 : decode cX8_offers 267 = .ok (.getfield 13, 3) := by decide +kernel
theorem dX8_offers_270 : decode cX8_offers 270 = .ok (.sipush 144, 3) := by decide +kernel
theorem dX8_offers_273 : decode cX8_offers 273 = .ok (.aload_n 0, 1) := by decide +kernel
theorem dX8_offers_274 : decode cX8_offers 274 = .ok (.aload_n 0, 1) := by decide +kernel
theorem dX8_offers_275 : decode cX8_offers 275 = .ok (.getfield 13, 3) := by decide +kernel
theorem dX8_offers_278 : decode cX8_offers 278 = .ok (.iconst 3, 1) := by decide +kernel
theorem dX8_offers_279 : decode cX8_offers 279 = .ok (.iaload, 1) := by decide +kernel
theorem dX8_offers_280 : decode cX8_offers 280 = .ok (.invokevirtual 150, 3) := by decide +kernel
theorem dX8_offers_283 : decode cX8_offers 283 = .ok (.iadd, 1) := by decide +kernel
theorem dX8_offers_284 : decode cX8_offers 284 = .ok (.iload_n 2, 1) := by decide +kernel
theorem dX8_offers_285 : decode cX8_offers 285 = .ok (.iastore, 1) := by decide +kernel
theorem dX8_offers_286 : decode cX8_offers 286 = .ok (.aload_n 0, 1) := by decide +kernel
theorem dX8_offers_287 : decode cX8_offers 287 = .ok (.getfield 13, 3) := by decide +kernel
theorem dX8_offers_290 : decode cX8_offers 290 = .ok (.iload 4, 2) := by decide +kernel
theorem dX8_offers_292 : decode cX8_offers 292 = .ok (.iconst 0, 1) := by decide +kernel
theorem dX8_offers_293 : decode cX8_offers 293 = .ok (.invokestatic 97, 3) := by decide +kernel
theorem dX8_offers_296 : decode cX8_offers 296 = .ok (.iconst 0, 1) := by decide +kernel
theorem dX8_offers_297 : decode cX8_offers 297 = .ok (.iastore, 1) := by decide +kernel
theorem dX8_offers_298 : decode cX8_offers 298 = .ok (.aload_n 0, 1) := by decide +kernel
theorem dX8_offers_299 : decode cX8_offers 299 = .ok (.getfield 13, 3) := by decide +kernel
theorem dX8_offers_302 : decode cX8_offers 302 = .ok (.iload 4, 2) := by decide +kernel
theorem dX8_offers_304 : decode cX8_offers 304 = .ok (.iconst 1, 1) := by decide +kernel
theorem dX8_offers_305 : decode cX8_offers 305 = .ok (.invokestatic 97, 3) := by decide +kernel
theorem dX8_offers_308 : decode cX8_offers 308 = .ok (.aload_n 0, 1) := by decide +kernel
theorem dX8_offers_309 : decode cX8_offers 309 = .ok (.getfield 111, 3) := by decide +kernel
theorem dX8_offers_312 : decode cX8_offers 312 = .ok (.iastore, 1) := by decide +kernel
theorem dX8_offers_313 : decode cX8_offers 313 = .ok (.aload_n 0, 1) := by decide +kernel
theorem dX8_offers_314 : decode cX8_offers 314 = .ok (.getfield 13, 3) := by decide +kernel
theorem dX8_offers_317 : decode cX8_offers 317 = .ok (.iload 4, 2) := by decide +kernel
theorem dX8_offers_319 : decode cX8_offers 319 = .ok (.iconst 2, 1) := by decide +kernel
theorem dX8_offers_320 : decode cX8_offers 320 = .ok (.invokestatic 97, 3) := by decide +kernel
theorem dX8_offers_323 : decode cX8_offers 323 = .ok (.iload_n 2, 1) := by decide +kernel
theorem dX8_offers_324 : decode cX8_offers 324 = .ok (.iastore, 1) := by decide +kernel
theorem dX8_offers_325 : decode cX8_offers 325 = .ok (.aload_n 0, 1) := by decide +kernel
theorem dX8_offers_326 : decode cX8_offers 326 = .ok (.getfield 13, 3) := by decide +kernel
theorem dX8_offers_329 : decode cX8_offers 329 = .ok (.iload 4, 2) := by decide +kernel
theorem dX8_offers_331 : decode cX8_offers 331 = .ok (.iconst 3, 1) := by decide +kernel
theorem dX8_offers_332 : decode cX8_offers 332 = .ok (.invokestatic 97, 3) := by decide +kernel
theorem dX8_offers_335 : decode cX8_offers 335 = .ok (.iload_n 1, 1) := by decide +kernel
theorem dX8_offers_336 : decode cX8_offers 336 = .ok (.ifCond .eq 7, 3) := by decide +kernel
theorem dX8_offers_339 : decode cX8_offers 339 = .ok (.iload_n 3, 1) := by decide +kernel
theorem dX8_offers_340 : decode cX8_offers 340 = .ok (.goto 4, 3) := by decide +kernel
theorem dX8_offers_343 : decode cX8_offers 343 = .ok (.iconst (-1), 1) := by decide +kernel
theorem dX8_offers_344 : decode cX8_offers 344 = .ok (.iastore, 1) := by decide +kernel
theorem dX8_offers_345 : decode cX8_offers 345 = .ok (.aload_n 0, 1) := by decide +kernel
theorem dX8_offers_346 : decode cX8_offers 346 = .ok (.getfield 13, 3) := by decide +kernel
theorem dX8_offers_349 : decode cX8_offers 349 = .ok (.iload 4, 2) := by decide +kernel
theorem dX8_offers_351 : decode cX8_offers 351 = .ok (.iconst 4, 1) := by decide +kernel
theorem dX8_offers_352 : decode cX8_offers 352 = .ok (.invokestatic 97, 3) := by decide +kernel
theorem dX8_offers_355 : decode cX8_offers 355 = .ok (.iconst (-1), 1) := by decide +kernel
theorem dX8_offers_356 : decode cX8_offers 356 = .ok (.iastore, 1) := by decide +kernel
theorem dX8_offers_357 : decode cX8_offers 357 = .ok (.aload_n 0, 1) := by decide +kernel
theorem dX8_offers_358 : decode cX8_offers 358 = .ok (.getfield 13, 3) := by decide +kernel
theorem dX8_offers_361 : decode cX8_offers 361 = .ok (.iload 4, 2) := by decide +kernel
theorem dX8_offers_363 : decode cX8_offers 363 = .ok (.iconst 5, 1) := by decide +kernel
theorem dX8_offers_364 : decode cX8_offers 364 = .ok (.invokestatic 97, 3) := by decide +kernel
theorem dX8_offers_367 : decode cX8_offers 367 = .ok (.iconst (-1), 1) := by decide +kernel
theorem dX8_offers_368 : decode cX8_offers 368 = .ok (.iastore, 1) := by decide +kernel
theorem dX8_offers_369 : decode cX8_offers 369 = .ok (.aload_n 0, 1) := by decide +kernel
theorem dX8_offers_370 : decode cX8_offers 370 = .ok (.getfield 13, 3) := by decide +kernel
theorem dX8_offers_373 : decode cX8_offers 373 = .ok (.iload 4, 2) := by decide +kernel
theorem dX8_offers_375 : decode cX8_offers 375 = .ok (.bipush 6, 2) := by decide +kernel
theorem dX8_offers_377 : decode cX8_offers 377 = .ok (.invokestatic 97, 3) := by decide +kernel
theorem dX8_offers_380 : decode cX8_offers 380 = .ok (.iconst (-1), 1) := by decide +kernel
theorem dX8_offers_381 : decode cX8_offers 381 = .ok (.iastore, 1) := by decide +kernel
theorem dX8_offers_382 : decode cX8_offers 382 = .ok (.aload_n 0, 1) := by decide +kernel
theorem dX8_offers_383 : decode cX8_offers 383 = .ok (.getfield 13, 3) := by decide +kernel
theorem dX8_offers_386 : decode cX8_offers 386 = .ok (.iload 4, 2) := by decide +kernel
theorem dX8_offers_388 : decode cX8_offers 388 = .ok (.bipush 7, 2) := by decide +kernel
theorem dX8_offers_390 : decode cX8_offers 390 = .ok (.invokestatic 97, 3) := by decide +kernel
theorem dX8_offers_393 : decode cX8_offers 393 = .ok (.iload 5, 2) := by decide +kernel
theorem dX8_offers_395 : decode cX8_offers 395 = .ok (.iastore, 1) := by decide +kernel
theorem dX8_offers_396 : decode cX8_offers 396 = .ok (.aload_n 0, 1) := by decide +kernel
theorem dX8_offers_397 : decode cX8_offers 397 = .ok (.getfield 13, 3) := by decide +kernel
theorem dX8_offers_400 : decode cX8_offers 400 = .ok (.iload 4, 2) := by decide +kernel
theorem dX8_offers_402 : decode cX8_offers 402 = .ok (.bipush 8, 2) := by decide +kernel
theorem dX8_offers_404 : decode cX8_offers 404 = .ok (.invokestatic 97, 3) := by decide +kernel
theorem dX8_offers_407 : decode cX8_offers 407 = .ok (.iload 7, 2) := by decide +kernel
theorem dX8_offers_409 : decode cX8_offers 409 = .ok (.iastore, 1) := by decide +kernel
theorem dX8_offers_410 : decode cX8_offers 410 = .ok (.aload_n 0, 1) := by decide +kernel
theorem dX8_offers_411 : decode cX8_offers 411 = .ok (.getfield 13, 3) := by decide +kernel
theorem dX8_offers_414 : decode cX8_offers 414 = .ok (.iconst 3, 1) := by decide +kernel
theorem dX8_offers_415 : decode cX8_offers 415 = .ok (.aload_n 0, 1) := by decide +kernel
theorem dX8_offers_416 : decode cX8_offers 416 = .ok (.aload_n 0, 1) := by decide +kernel
theorem dX8_offers_417 : decode cX8_offers 417 = .ok (.getfield 13, 3) := by decide +kernel
theorem dX8_offers_420 : decode cX8_offers 420 = .ok (.iconst 3, 1) := by decide +kernel
theorem dX8_offers_421 : decode cX8_offers 421 = .ok (.iaload, 1) := by decide +kernel
theorem dX8_offers_422 : decode cX8_offers 422 = .ok (.aload_n 0, 1) := by decide +kernel
theorem dX8_offers_423 : decode cX8_offers 423 = .ok (.iload 4, 2) := by decide +kernel
theorem dX8_offers_425 : decode cX8_offers 425 = .ok (.invokevirtual 156, 3) := by decide +kernel
theorem dX8_offers_428 : decode cX8_offers 428 = .ok (.invokevirtual 147, 3) := by decide +kernel
theorem dX8_offers_431 : decode cX8_offers 431 = .ok (.iastore, 1) := by decide +kernel
theorem dX8_offers_432 : decode cX8_offers 432 = .ok (.iload 4, 2) := by decide +kernel
theorem dX8_offers_434 : decode cX8_offers 434 = .ok (.ireturn, 1) := by decide +kernel
theorem dX8_tryOffer_0 : decode cX8_tryOffer 0 = .ok (.aload_n 0, 1) := by decide +kernel
theorem dX8_tryOffer_1 : decode cX8_tryOffer 1 = .ok (.getfield 13, 3) := by decide +kernel
theorem dX8_tryOffer_4 : decode cX8_tryOffer 4 = .ok (.bipush 13, 2) := by decide +kernel
theorem dX8_tryOffer_6 : decode cX8_tryOffer 6 = .ok (.iaload, 1) := by decide +kernel
theorem dX8_tryOffer_7 : decode cX8_tryOffer 7 = .ok (.ifCond .le 6, 3) := by decide +kernel
theorem dX8_tryOffer_10 : decode cX8_tryOffer 10 = .ok (.bipush (-3), 2) := by decide +kernel
theorem dX8_tryOffer_12 : decode cX8_tryOffer 12 = .ok (.ireturn, 1) := by decide +kernel
theorem dX8_tryOffer_13 : decode cX8_tryOffer 13 = .ok (.iload_n 1, 1) := by decide +kernel
theorem dX8_tryOffer_14 : decode cX8_tryOffer 14 = .ok (.ifCond .eq 14, 3) := by decide +kernel
theorem dX8_tryOffer_17 : decode cX8_tryOffer 17 = .ok (.aload_n 0, 1) := by decide +kernel
theorem dX8_tryOffer_18 : decode cX8_tryOffer 18 = .ok (.iconst 1, 1) := by decide +kernel
theorem dX8_tryOffer_19 : decode cX8_tryOffer 19 = .ok (.invokevirtual 159, 3) := by decide +kernel
theorem dX8_tryOffer_22 : decode cX8_tryOffer 22 = .ok (.ifCond .ne 6, 3) := by decide +kernel
theorem dX8_tryOffer_25 : decode cX8_tryOffer 25 = .ok (.bipush (-4), 2) := by decide +kernel
theorem dX8_tryOffer_27 : decode cX8_tryOffer 27 = .ok (.ireturn, 1) := by decide +kernel
theorem dX8_tryOffer_28 : decode cX8_tryOffer 28 = .ok (.aload_n 0, 1) := by decide +kernel
theorem dX8_tryOffer_29 : decode cX8_tryOffer 29 = .ok (.invokevirtual 162, 3) := by decide +kernel
theorem dX8_tryOffer_32 : decode cX8_tryOffer 32 = .ok (.iload_n 1, 1) := by decide +kernel
theorem dX8_tryOffer_33 : decode cX8_tryOffer 33 = .ok (.ifCond .eq 7, 3) := by decide +kernel
theorem dX8_tryOffer_36 : decode cX8_tryOffer 36 = .ok (.iconst 1, 1) := by decide +kernel
theorem dX8_tryOffer_37 : decode cX8_tryOffer 37 = .ok (.goto 7, 3) := by decide +kernel
theorem dX8_tryOffer_40 : decode cX8_tryOffer 40 = .ok (.aload_n 0, 1) := by decide +kernel
theorem dX8_tryOffer_41 : decode cX8_tryOffer 41 = .ok (.getfield 111, 3) := by decide +kernel
theorem dX8_tryOffer_44 : decode cX8_tryOffer 44 = .ok (.if_icmp .ge 6, 3) := by decide +kernel
theorem dX8_tryOffer_47 : decode cX8_tryOffer 47 = .ok (.bipush (-5), 2) := by decide +kernel
theorem dX8_tryOffer_49 : decode cX8_tryOffer 49 = .ok (.ireturn, 1) := by decide +kernel
theorem dX8_tryOffer_50 : decode cX8_tryOffer 50 = .ok (.iconst 0, 1) := by decide +kernel
theorem dX8_tryOffer_51 : decode cX8_tryOffer 51 = .ok (.istore_n 2, 1) := by decide +kernel
theorem dX8_tryOffer_52 : decode cX8_tryOffer 52 = .ok (.aload_n 0, 1) := by decide +kernel
theorem dX8_tryOffer_53 : decode cX8_tryOffer 53 = .ok (.invokevirtual 85, 3) := by decide +kernel
theorem dX8_tryOffer_56 : decode cX8_tryOffer 56 = .ok (.ifCond .eq 18, 3) := by decide +kernel
theorem dX8_tryOffer_59 : decode cX8_tryOffer 59 = .ok (.aload_n 0, 1) := by decide +kernel
theorem dX8_tryOffer_60 : decode cX8_tryOffer 60 = .ok (.iconst 2, 1) := by decide +kernel
theorem dX8_tryOffer_61 : decode cX8_tryOffer 61 = .ok (.iload_n 2, 1) := by decide +kernel
theorem dX8_tryOffer_62 : decode cX8_tryOffer 62 = .ok (.invokevirtual 165, 3) := by decide +kernel
theorem dX8_tryOffer_65 : decode cX8_tryOffer 65 = .ok (.ifCond .eq 26, 3) := by decide +kernel
theorem dX8_tryOffer_68 : decode cX8_tryOffer 68 = .ok (.iinc 2 1, 3) := by decide +kernel
theorem dX8_tryOffer_71 : decode cX8_tryOffer 71 = .ok (.goto (-12), 3) := by decide +kernel
theorem dX8_tryOffer_74 : decode cX8_tryOffer 74 = .ok (.aload_n 0, 1) := by decide +kernel
theorem dX8_tryOffer_75 : decode cX8_tryOffer 75 = .ok (.invokevirtual 141, 3) := by decide +kernel
theorem dX8_tryOffer_78 : decode cX8_tryOffer 78 = .ok (.iload_n 2, 1) := by decide +kernel
theorem dX8_tryOffer_79 : decode cX8_tryOffer 79 = .ok (.invokestatic 81, 3) := by decide +kernel
theorem dX8_tryOffer_82 : decode cX8_tryOffer 82 = .ok (.ifCond .eq 9, 3) := by decide +kernel
theorem dX8_tryOffer_85 : decode cX8_tryOffer 85 = .ok (.iinc 2 1, 3) := by decide +kernel
theorem dX8_tryOffer_88 : decode cX8_tryOffer 88 = .ok (.goto (-14), 3) := by decide +kernel
theorem dX8_tryOffer_91 : decode cX8_tryOffer 91 = .ok (.aload_n 0, 1) := by decide +kernel
theorem dX8_tryOffer_92 : decode cX8_tryOffer 92 = .ok (.invokevirtual 85, 3) := by decide +kernel
theorem dX8_tryOffer_95 : decode cX8_tryOffer 95 = .ok (.ifCond .eq 11, 3) := by decide +kernel
theorem dX8_tryOffer_98 : decode cX8_tryOffer 98 = .ok (.iload_n 2, 1) := by decide +kernel
theorem dX8_tryOffer_99 : decode cX8_tryOffer 99 = .ok (.iconst 4, 1) := by decide +kernel
theorem dX8_tryOffer_100 : decode cX8_tryOffer 100 = .ok (.irem, 1) := by decide +kernel
theorem dX8_tryOffer_101 : decode cX8_tryOffer 101 = .ok (.iconst 1, 1) := by decide +kernel
theorem dX8_tryOffer_102 : decode cX8_tryOffer 102 = .ok (.iadd, 1) := by decide +kernel
theorem dX8_tryOffer_103 : decode cX8_tryOffer 103 = .ok (.goto 4, 3) := by decide +kernel
theorem dX8_tryOffer_106 : decode cX8_tryOffer 106 = .ok (.iconst 1, 1) := by decide +kernel
theorem dX8_tryOffer_107 : decode cX8_tryOffer 107 = .ok (.istore_n 3, 1) := by decide +kernel
theorem dX8_tryOffer_108 : decode cX8_tryOffer 108 = .ok (.iload_n 1, 1) := by decide +kernel
theorem dX8_tryOffer_109 : decode cX8_tryOffer 109 = .ok (.ifCond .eq 30, 3) := by decide +kernel
theorem dX8_tryOffer_112 : decode cX8_tryOffer 112 = .ok (.aload_n 0, 1) := by decide +kernel
theorem dX8_tryOffer_113 : decode cX8_tryOffer 113 = .ok (.invokevirtual 85, 3) := by decide +kernel
theorem dX8_tryOffer_116 : decode cX8_tryOffer 116 = .ok (.ifCond .ne 23, 3) := by decide +kernel
theorem dX8_tryOffer_119 : decode cX8_tryOffer 119 = .ok (.iload_n 3, 1) := by decide +kernel
theorem dX8_tryOffer_120 : decode cX8_tryOffer 120 = .ok (.iconst 5, 1) := by decide +kernel
theorem dX8_tryOffer_121 : decode cX8_tryOffer 121 = .ok (.if_icmp .ge 18, 3) := by decide +kernel
theorem dX8_tryOffer_124 : decode cX8_tryOffer 124 = .ok (.aload_n 0, 1) := by decide +kernel
theorem dX8_tryOffer_125 : decode cX8_tryOffer 125 = .ok (.iconst 3, 1) := by decide +kernel
theorem dX8_tryOffer_126 : decode cX8_tryOffer 126 = .ok (.iload_n 3, 1) := by decide +kernel
theorem dX8_tryOffer_127 : decode cX8_tryOffer 127 = .ok (.invokevirtual 165, 3) := by decide +kernel
theorem dX8_tryOffer_130 : decode cX8_tryOffer 130 = .ok (.ifCond .eq 9, 3) := by decide +kernel
theorem dX8_tryOffer_133 : decode cX8_tryOffer 133 = .ok (.iinc 3 1, 3) := by decide +kernel
theorem dX8_tryOffer_136 : decode cX8_tryOffer 136 = .ok (.goto (-17), 3) := by decide +kernel
theorem dX8_tryOffer_139 : decode cX8_tryOffer 139 = .ok (.iload_n 1, 1) := by decide +kernel
theorem dX8_tryOffer_140 : decode cX8_tryOffer 140 = .ok (.ifCond .eq 20, 3) := by decide +kernel
theorem dX8_tryOffer_143 : decode cX8_tryOffer 143 = .ok (.iload_n 3, 1) := by decide +kernel
theorem dX8_tryOffer_144 : decode cX8_tryOffer 144 = .ok (.iconst 5, 1) := by decide +kernel
theorem dX8_tryOffer_145 : decode cX8_tryOffer 145 = .ok (.if_icmp .eq 12, 3) := by decide +kernel
theorem dX8_tryOffer_148 : decode cX8_tryOffer 148 = .ok (.aload_n 0, 1) := by decide +kernel
theorem dX8_tryOffer_149 : decode cX8_tryOffer 149 = .ok (.iconst 3, 1) := by decide +kernel
theorem dX8_tryOffer_150 : decode cX8_tryOffer 150 = .ok (.iload_n 3, 1) := by decide +kernel
theorem dX8_tryOffer_151 : decode cX8_tryOffer 151 = .ok (.invokevirtual 165, 3) := by decide +kernel
theorem dX8_tryOffer_154 : decode cX8_tryOffer 154 = .ok (.ifCond .eq 6, 3) := by decide +kernel
theorem dX8_tryOffer_157 : decode cX8_tryOffer 157 = .ok (.bipush (-6), 2) := by decide +kernel
theorem dX8_tryOffer_159 : decode cX8_tryOffer 159 = .ok (.ireturn, 1) := by decide +kernel
theorem dX8_tryOffer_160 : decode cX8_tryOffer 160 = .ok (.aload_n 0, 1) := by decide +kernel
theorem dX8_tryOffer_161 : decode cX8_tryOffer 161 = .ok (.getfield 13, 3) := by decide +kernel
theorem dX8_tryOffer_164 : decode cX8_tryOffer 164 = .ok (.bipush 16, 2) := by decide +kernel
theorem dX8_tryOffer_166 : decode cX8_tryOffer 166 = .ok (.iaload, 1) := by decide +kernel
theorem dX8_tryOffer_167 : decode cX8_tryOffer 167 = .ok (.sipush 500, 3) := by decide +kernel
theorem dX8_tryOffer_170 : decode cX8_tryOffer 170 = .ok (.if_icmp .ne 8, 3) := by decide +kernel
theorem dX8_tryOffer_173 : decode cX8_tryOffer 173 = .ok (.bipush (-7), 2) := by decide +kernel
theorem dX8_tryOffer_175 : decode cX8_tryOffer 175 = .ok (.goto 10, 3) := by decide +kernel
theorem dX8_tryOffer_178 : decode cX8_tryOffer 178 = .ok (.aload_n 0, 1) := by decide +kernel
theorem dX8_tryOffer_179 : decode cX8_tryOffer 179 = .ok (.iload_n 1, 1) := by decide +kernel
theorem dX8_tryOffer_180 : decode cX8_tryOffer 180 = .ok (.iload_n 2, 1) := by decide +kernel
theorem dX8_tryOffer_181 : decode cX8_tryOffer 181 = .ok (.iload_n 3, 1) := by decide +kernel
theorem dX8_tryOffer_182 : decode cX8_tryOffer 182 = .ok (.invokevirtual 168, 3) := by decide +kernel
theorem dX8_tryOffer_185 : decode cX8_tryOffer 185 = .ok (.ireturn, 1) := by decide +kernel
theorem dX8_offer_0 : decode cX8_offer 0 = .ok (.aload_n 0, 1) := by decide +kernel
theorem dX8_offer_1 : decode cX8_offer 1 = .ok (.invokevirtual 172, 3) := by decide +kernel
theorem dX8_offer_4 : decode cX8_offer 4 = .ok (.iload_n 1, 1) := by decide +kernel
theorem dX8_offer_5 : decode cX8_offer 5 = .ok (.iconst 0, 1) := by decide +kernel
theorem dX8_offer_6 : decode cX8_offer 6 = .ok (.iconst 1, 1) := by decide +kernel
theorem dX8_offer_7 : decode cX8_offer 7 = .ok (.invokestatic 93, 3) := by decide +kernel
theorem dX8_offer_10 : decode cX8_offer 10 = .ok (.ifCond .ne 6, 3) := by decide +kernel
theorem dX8_offer_13 : decode cX8_offer 13 = .ok (.bipush (-2), 2) := by decide +kernel
theorem dX8_offer_15 : decode cX8_offer 15 = .ok (.ireturn, 1) := by decide +kernel
theorem dX8_offer_16 : decode cX8_offer 16 = .ok (.aload_n 0, 1) := by decide +kernel
theorem dX8_offer_17 : decode cX8_offer 17 = .ok (.getfield 75, 3) := by decide +kernel
theorem dX8_offer_20 : decode cX8_offer 20 = .ok (.bipush 60, 2) := by decide +kernel
theorem dX8_offer_22 : decode cX8_offer 22 = .ok (.if_icmp .le 7, 3) := by decide +kernel
theorem dX8_offer_25 : decode cX8_offer 25 = .ok (.sipush (-1060), 3) := by decide +kernel
theorem dX8_offer_28 : decode cX8_offer 28 = .ok (.ireturn, 1) := by decide +kernel
theorem dX8_offer_29 : decode cX8_offer 29 = .ok (.aload_n 0, 1) := by decide +kernel
theorem dX8_offer_30 : decode cX8_offer 30 = .ok (.invokevirtual 175, 3) := by decide +kernel
theorem dX8_offer_33 : decode cX8_offer 33 = .ok (.ifCond .ne 12, 3) := by decide +kernel
theorem dX8_offer_36 : decode cX8_offer 36 = .ok (.sipush (-1000), 3) := by decide +kernel
theorem dX8_offer_39 : decode cX8_offer 39 = .ok (.aload_n 0, 1) := by decide +kernel
theorem dX8_offer_40 : decode cX8_offer 40 = .ok (.getfield 108, 3) := by decide +kernel
theorem dX8_offer_43 : decode cX8_offer 43 = .ok (.isub, 1) := by decide +kernel
theorem dX8_offer_44 : decode cX8_offer 44 = .ok (.ireturn, 1) := by decide +kernel
theorem dX8_offer_45 : decode cX8_offer 45 = .ok (.aload_n 0, 1) := by decide +kernel
theorem dX8_offer_46 : decode cX8_offer 46 = .ok (.iload_n 1, 1) := by decide +kernel
theorem dX8_offer_47 : decode cX8_offer 47 = .ok (.iconst 1, 1) := by decide +kernel
theorem dX8_offer_48 : decode cX8_offer 48 = .ok (.if_icmp .ne 7, 3) := by decide +kernel
theorem dX8_offer_51 : decode cX8_offer 51 = .ok (.iconst 1, 1) := by decide +kernel
theorem dX8_offer_52 : decode cX8_offer 52 = .ok (.goto 4, 3) := by decide +kernel
theorem dX8_offer_55 : decode cX8_offer 55 = .ok (.iconst 0, 1) := by decide +kernel
theorem dX8_offer_56 : decode cX8_offer 56 = .ok (.invokevirtual 178, 3) := by decide +kernel
theorem dX8_offer_59 : decode cX8_offer 59 = .ok (.ireturn, 1) := by decide +kernel
theorem dX8_logs_0 : decode cX8_logs 0 = .ok (.aload_n 0, 1) := by decide +kernel
theorem dX8_logs_1 : decode cX8_logs 1 = .ok (.getfield 27, 3) := by decide +kernel
theorem dX8_logs_4 : decode cX8_logs 4 = .ok (.aload_n 0, 1) := by decide +kernel
theorem dX8_logs_5 : decode cX8_logs 5 = .ok (.getfield 182, 3) := by decide +kernel
theorem dX8_logs_8 : decode cX8_logs 8 = .ok (.iload_n 1, 1) := by decide +kernel
theorem dX8_logs_9 : decode cX8_logs 9 = .ok (.iastore, 1) := by decide +kernel
theorem dX8_logs_10 : decode cX8_logs 10 = .ok (.aload_n 0, 1) := by decide +kernel
theorem dX8_logs_11 : decode cX8_logs 11 = .ok (.dup, 1) := by decide +kernel
theorem dX8_logs_12 : decode cX8_logs 12 = .ok (.getfield 182, 3) := by decide +kernel
theorem dX8_logs_15 : decode cX8_logs 15 = .ok (.iconst 1, 1) := by decide +kernel
theorem dX8_logs_16 : decode cX8_logs 16 = .ok (.iadd, 1) := by decide +kernel
theorem dX8_logs_17 : decode cX8_logs 17 = .ok (.putfield 182, 3) := by decide +kernel
theorem dX8_logs_20 : decode cX8_logs 20 = .ok (.return_, 1) := by decide +kernel
theorem dX8_counts_0 : decode cX8_counts 0 = .ok (.iload_n 1, 1) := by decide +kernel
theorem dX8_counts_1 : decode cX8_counts 1 = .ok (.iconst 2, 1) := by decide +kernel
theorem dX8_counts_2 : decode cX8_counts 2 = .ok (.iand, 1) := by decide +kernel
theorem dX8_counts_3 : decode cX8_counts 3 = .ok (.ifCond .eq 7, 3) := by decide +kernel
theorem dX8_counts_6 : decode cX8_counts 6 = .ok (.iconst 1, 1) := by decide +kernel
theorem dX8_counts_7 : decode cX8_counts 7 = .ok (.goto 4, 3) := by decide +kernel
theorem dX8_counts_10 : decode cX8_counts 10 = .ok (.iconst 0, 1) := by decide +kernel
theorem dX8_counts_11 : decode cX8_counts 11 = .ok (.istore_n 3, 1) := by decide +kernel
theorem dX8_counts_12 : decode cX8_counts 12 = .ok (.iload_n 3, 1) := by decide +kernel
theorem dX8_counts_13 : decode cX8_counts 13 = .ok (.ifCond .ne 12, 3) := by decide +kernel
theorem dX8_counts_16 : decode cX8_counts 16 = .ok (.aload_n 0, 1) := by decide +kernel
theorem dX8_counts_17 : decode cX8_counts 17 = .ok (.getfield 185, 3) := by decide +kernel
theorem dX8_counts_20 : decode cX8_counts 20 = .ok (.ifCond .eq 5, 3) := by decide +kernel
theorem dX8_counts_23 : decode cX8_counts 23 = .ok (.iconst 0, 1) := by decide +kernel
theorem dX8_counts_24 : decode cX8_counts 24 = .ok (.ireturn, 1) := by decide +kernel
theorem dX8_counts_25 : decode cX8_counts 25 = .ok (.aload_n 0, 1) := by decide +kernel
theorem dX8_counts_26 : decode cX8_counts 26 = .ok (.aload_n 0, 1) := by decide +kernel
theorem dX8_counts_27 : decode cX8_counts 27 = .ok (.getfield 185, 3) := by decide +kernel
theorem dX8_counts_30 : decode cX8_counts 30 = .ok (.ifCond .ne 7, 3) := by decide +kernel
theorem dX8_counts_33 : decode cX8_counts 33 = .ok (.iload_n 3, 1) := by decide +kernel
theorem dX8_counts_34 : decode cX8_counts 34 = .ok (.ifCond .eq 7, 3) := by decide +kernel
theorem dX8_counts_37 : decode cX8_counts 37 = .ok (.iconst 1, 1) := by decide +kernel
theorem dX8_counts_38 : decode cX8_counts 38 = .ok (.goto 4, 3) := by decide +kernel
theorem dX8_counts_41 : decode cX8_counts 41 = .ok (.iconst 0, 1) := by decide +kernel
theorem dX8_counts_42 : decode cX8_counts 42 = .ok (.putfield 185, 3) := by decide +kernel
theorem dX8_counts_45 : decode cX8_counts 45 = .ok (.iload_n 3, 1) := by decide +kernel
theorem dX8_counts_46 : decode cX8_counts 46 = .ok (.ifCond .eq 16, 3) := by decide +kernel
theorem dX8_counts_49 : decode cX8_counts 49 = .ok (.aload_n 0, 1) := by decide +kernel
theorem dX8_counts_50 : decode cX8_counts 50 = .ok (.dup, 1) := by decide +kernel
theorem dX8_counts_51 : decode cX8_counts 51 = .ok (.getfield 189, 3) := by decide +kernel
theorem dX8_counts_54 : decode cX8_counts 54 = .ok (.iload_n 2, 1) := by decide +kernel
theorem dX8_counts_55 : decode cX8_counts 55 = .ok (.iadd, 1) := by decide +kernel
theorem dX8_counts_56 : decode cX8_counts 56 = .ok (.putfield 189, 3) := by decide +kernel
theorem dX8_counts_59 : decode cX8_counts 59 = .ok (.goto 13, 3) := by decide +kernel
theorem dX8_counts_62 : decode cX8_counts 62 = .ok (.aload_n 0, 1) := by decide +kernel
theorem dX8_counts_63 : decode cX8_counts 63 = .ok (.dup, 1) := by decide +kernel
theorem dX8_counts_64 : decode cX8_counts 64 = .ok (.getfield 192, 3) := by decide +kernel
theorem dX8_counts_67 : decode cX8_counts 67 = .ok (.iload_n 2, 1) := by decide +kernel
theorem dX8_counts_68 : decode cX8_counts 68 = .ok (.iadd, 1) := by decide +kernel
theorem dX8_counts_69 : decode cX8_counts 69 = .ok (.putfield 192, 3) := by decide +kernel
theorem dX8_counts_72 : decode cX8_counts 72 = .ok (.aload_n 0, 1) := by decide +kernel
theorem dX8_counts_73 : decode cX8_counts 73 = .ok (.dup, 1) := by decide +kernel
theorem dX8_counts_74 : decode cX8_counts 74 = .ok (.getfield 195, 3) := by decide +kernel
theorem dX8_counts_77 : decode cX8_counts 77 = .ok (.iconst 1, 1) := by decide +kernel
theorem dX8_counts_78 : decode cX8_counts 78 = .ok (.iadd, 1) := by decide +kernel
theorem dX8_counts_79 : decode cX8_counts 79 = .ok (.putfield 195, 3) := by decide +kernel
theorem dX8_counts_82 : decode cX8_counts 82 = .ok (.iconst 1, 1) := by decide +kernel
theorem dX8_counts_83 : decode cX8_counts 83 = .ok (.ireturn, 1) := by decide +kernel
theorem dX8_walksTable_0 : decode cX8_walksTable 0 = .ok (.iconst 0, 1) := by decide +kernel
theorem dX8_walksTable_1 : decode cX8_walksTable 1 = .ok (.istore_n 3, 1) := by decide +kernel
theorem dX8_walksTable_2 : decode cX8_walksTable 2 = .ok (.iconst 0, 1) := by decide +kernel
theorem dX8_walksTable_3 : decode cX8_walksTable 3 = .ok (.istore 4, 2) := by decide +kernel
theorem dX8_walksTable_5 : decode cX8_walksTable 5 = .ok (.iload_n 3, 1) := by decide +kernel
theorem dX8_walksTable_6 : decode cX8_walksTable 6 = .ok (.iconst 0, 1) := by decide +kernel
theorem dX8_walksTable_7 : decode cX8_walksTable 7 = .ok (.iload_n 2, 1) := by decide +kernel
theorem dX8_walksTable_8 : decode cX8_walksTable 8 = .ok (.iconst 1, 1) := by decide +kernel
theorem dX8_walksTable_9 : decode cX8_walksTable 9 = .ok (.isub, 1) := by decide +kernel
theorem dX8_walksTable_10 : decode cX8_walksTable 10 = .ok (.invokestatic 93, 3) := by decide +kernel
theorem dX8_walksTable_13 : decode cX8_walksTable 13 = .ok (.ifCond .ne 5, 3) := by decide +kernel
theorem dX8_walksTable_16 : decode cX8_walksTable 16 = .ok (.iconst 1, 1) := by decide +kernel
theorem dX8_walksTable_17 : decode cX8_walksTable 17 = .ok (.ireturn, 1) := by decide +kernel
theorem dX8_walksTable_18 : decode cX8_walksTable 18 = .ok (.iload 4, 2) := by decide +kernel
theorem dX8_walksTable_20 : decode cX8_walksTable 20 = .ok (.iload_n 3, 1) := by decide +kernel
theorem dX8_walksTable_21 : decode cX8_walksTable 21 = .ok (.invokestatic 81, 3) := by decide +kernel
theorem dX8_walksTable_24 : decode cX8_walksTable 24 = .ok (.ifCond .eq 5, 3) := by decide +kernel
theorem dX8_walksTable_27 : decode cX8_walksTable 27 = .ok (.iconst 2, 1) := by decide +kernel
theorem dX8_walksTable_28 : decode cX8_walksTable 28 = .ok (.ireturn, 1) := by decide +kernel
theorem dX8_walksTable_29 : decode cX8_walksTable 29 = .ok (.iload 4, 2) := by decide +kernel
theorem dX8_walksTable_31 : decode cX8_walksTable 31 = .ok (.iconst 1, 1) := by decide +kernel
theorem dX8_walksTable_32 : decode cX8_walksTable 32 = .ok (.iload_n 3, 1) := by decide +kernel
theorem dX8_walksTable_33 : decode cX8_walksTable 33 = .ok (.ishl, 1) := by decide +kernel
theorem dX8_walksTable_34 : decode cX8_walksTable 34 = .ok (.ior, 1) := by decide +kernel
theorem dX8_walksTable_35 : decode cX8_walksTable 35 = .ok (.istore 4, 2) := by decide +kernel
theorem dX8_walksTable_37 : decode cX8_walksTable 37 = .ok (.aload_n 0, 1) := by decide +kernel
theorem dX8_walksTable_38 : decode cX8_walksTable 38 = .ok (.getfield 13, 3) := by decide +kernel
theorem dX8_walksTable_41 : decode cX8_walksTable 41 = .ok (.iload_n 1, 1) := by decide +kernel
theorem dX8_walksTable_42 : decode cX8_walksTable 42 = .ok (.iload_n 3, 1) := by decide +kernel
theorem dX8_walksTable_43 : decode cX8_walksTable 43 = .ok (.iconst 1, 1) := by decide +kernel
theorem dX8_walksTable_44 : decode cX8_walksTable 44 = .ok (.invokestatic 126, 3) := by decide +kernel
theorem dX8_walksTable_47 : decode cX8_walksTable 47 = .ok (.iaload, 1) := by decide +kernel
theorem dX8_walksTable_48 : decode cX8_walksTable 48 = .ok (.istore 5, 2) := by decide +kernel
theorem dX8_walksTable_50 : decode cX8_walksTable 50 = .ok (.iload 5, 2) := by decide +kernel
theorem dX8_walksTable_52 : decode cX8_walksTable 52 = .ok (.iconst 4, 1) := by decide +kernel
theorem dX8_walksTable_53 : decode cX8_walksTable 53 = .ok (.iand, 1) := by decide +kernel
theorem dX8_walksTable_54 : decode cX8_walksTable 54 = .ok (.ifCond .eq 5, 3) := by decide +kernel
theorem dX8_walksTable_57 : decode cX8_walksTable 57 = .ok (.iconst 4, 1) := by decide +kernel
theorem dX8_walksTable_58 : decode cX8_walksTable 58 = .ok (.ireturn, 1) := by decide +kernel
theorem dX8_walksTable_59 : decode cX8_walksTable 59 = .ok (.aload_n 0, 1) := by decide +kernel
theorem dX8_walksTable_60 : decode cX8_walksTable 60 = .ok (.iload 5, 2) := by decide +kernel
theorem dX8_walksTable_62 : decode cX8_walksTable 62 = .ok (.aload_n 0, 1) := by decide +kernel
theorem dX8_walksTable_63 : decode cX8_walksTable 63 = .ok (.getfield 13, 3) := by decide +kernel
theorem dX8_walksTable_66 : decode cX8_walksTable 66 = .ok (.iload_n 1, 1) := by decide +kernel
theorem dX8_walksTable_67 : decode cX8_walksTable 67 = .ok (.iload_n 3, 1) := by decide +kernel
theorem dX8_walksTable_68 : decode cX8_walksTable 68 = .ok (.iconst 0, 1) := by decide +kernel
theorem dX8_walksTable_69 : decode cX8_walksTable 69 = .ok (.invokestatic 126, 3) := by decide +kernel
theorem dX8_walksTable_72 : decode cX8_walksTable 72 = .ok (.iaload, 1) := by decide +kernel
theorem dX8_walksTable_73 : decode cX8_walksTable 73 = .ok (.invokevirtual 198, 3) := by decide +kernel
theorem dX8_walksTable_76 : decode cX8_walksTable 76 = .ok (.ifCond .ne 6, 3) := by decide +kernel
theorem dX8_walksTable_79 : decode cX8_walksTable 79 = .ok (.bipush 6, 2) := by decide +kernel
theorem dX8_walksTable_81 : decode cX8_walksTable 81 = .ok (.ireturn, 1) := by decide +kernel
theorem dX8_walksTable_82 : decode cX8_walksTable 82 = .ok (.iload 5, 2) := by decide +kernel
theorem dX8_walksTable_84 : decode cX8_walksTable 84 = .ok (.iconst 1, 1) := by decide +kernel
theorem dX8_walksTable_85 : decode cX8_walksTable 85 = .ok (.iand, 1) := by decide +kernel
theorem dX8_walksTable_86 : decode cX8_walksTable 86 = .ok (.ifCond .ne 5, 3) := by decide +kernel
theorem dX8_walksTable_89 : decode cX8_walksTable 89 = .ok (.iconst 0, 1) := by decide +kernel
theorem dX8_walksTable_90 : decode cX8_walksTable 90 = .ok (.ireturn, 1) := by decide +kernel
theorem dX8_walksTable_91 : decode cX8_walksTable 91 = .ok (.aload_n 0, 1) := by decide +kernel
theorem dX8_walksTable_92 : decode cX8_walksTable 92 = .ok (.getfield 13, 3) := by decide +kernel
theorem dX8_walksTable_95 : decode cX8_walksTable 95 = .ok (.iload_n 1, 1) := by decide +kernel
theorem dX8_walksTable_96 : decode cX8_walksTable 96 = .ok (.iload_n 3, 1) := by decide +kernel
theorem dX8_walksTable_97 : decode cX8_walksTable 97 = .ok (.iconst 2, 1) := by decide +kernel
theorem dX8_walksTable_98 : decode cX8_walksTable 98 = .ok (.invokestatic 126, 3) := by decide +kernel
theorem dX8_walksTable_101 : decode cX8_walksTable 101 = .ok (.iaload, 1) := by decide +kernel
theorem dX8_walksTable_102 : decode cX8_walksTable 102 = .ok (.istore_n 3, 1) := by decide +kernel
theorem dX8_walksTable_103 : decode cX8_walksTable 103 = .ok (.goto (-98), 3) := by decide +kernel
theorem dX8_whyIndirect_0 : decode cX8_whyIndirect 0 = .ok (.aload_n 0, 1) := by decide +kernel
theorem dX8_whyIndirect_1 : decode cX8_whyIndirect 1 = .ok (.iconst 1, 1) := by decide +kernel
theorem dX8_whyIndirect_2 : decode cX8_whyIndirect 2 = .ok (.invokevirtual 159, 3) := by decide +kernel
theorem dX8_whyIndirect_5 : decode cX8_whyIndirect 5 = .ok (.ifCond .ne 5, 3) := by decide +kernel
theorem dX8_whyIndirect_8 : decode cX8_whyIndirect 8 = .ok (.iconst 3, 1) := by decide +kernel
theorem dX8_whyIndirect_9 : decode cX8_whyIndirect 9 = .ok (.ireturn, 1) := by decide +kernel
theorem dX8_whyIndirect_10 : decode cX8_whyIndirect 10 = .ok (.iload_n 2, 1) := by decide +kernel
theorem dX8_whyIndirect_11 : decode cX8_whyIndirect 11 = .ok (.iconst 1, 1) := by decide +kernel
theorem dX8_whyIndirect_12 : decode cX8_whyIndirect 12 = .ok (.iand, 1) := by decide +kernel
theorem dX8_whyIndirect_13 : decode cX8_whyIndirect 13 = .ok (.ifCond .ne 10, 3) := by decide +kernel
theorem dX8_whyIndirect_16 : decode cX8_whyIndirect 16 = .ok (.aload_n 0, 1) := by decide +kernel
theorem dX8_whyIndirect_17 : decode cX8_whyIndirect 17 = .ok (.getfield 201, 3) := by decide +kernel
theorem dX8_whyIndirect_20 : decode cX8_whyIndirect 20 = .ok (.ifCond .le 5, 3) := by decide +kernel
theorem dX8_whyIndirect_23 : decode cX8_whyIndirect 23 = .ok (.iconst 4, 1) := by decide +kernel
theorem dX8_whyIndirect_24 : decode cX8_whyIndirect 24 = .ok (.ireturn, 1) := by decide +kernel
theorem dX8_whyIndirect_25 : decode cX8_whyIndirect 25 = .ok (.aload_n 0, 1) := by decide +kernel
theorem dX8_whyIndirect_26 : decode cX8_whyIndirect 26 = .ok (.getfield 13, 3) := by decide +kernel
theorem dX8_whyIndirect_29 : decode cX8_whyIndirect 29 = .ok (.iconst 0, 1) := by decide +kernel
theorem dX8_whyIndirect_30 : decode cX8_whyIndirect 30 = .ok (.iload_n 1, 1) := by decide +kernel
theorem dX8_whyIndirect_31 : decode cX8_whyIndirect 31 = .ok (.iconst 2, 1) := by decide +kernel
theorem dX8_whyIndirect_32 : decode cX8_whyIndirect 32 = .ok (.invokestatic 126, 3) := by decide +kernel
theorem dX8_whyIndirect_35 : decode cX8_whyIndirect 35 = .ok (.iaload, 1) := by decide +kernel
theorem dX8_whyIndirect_36 : decode cX8_whyIndirect 36 = .ok (.istore_n 3, 1) := by decide +kernel
theorem dX8_whyIndirect_37 : decode cX8_whyIndirect 37 = .ok (.aload_n 0, 1) := by decide +kernel
theorem dX8_whyIndirect_38 : decode cX8_whyIndirect 38 = .ok (.getfield 13, 3) := by decide +kernel
theorem dX8_whyIndirect_41 : decode cX8_whyIndirect 41 = .ok (.iconst 0, 1) := by decide +kernel
theorem dX8_whyIndirect_42 : decode cX8_whyIndirect 42 = .ok (.iload_n 1, 1) := by decide +kernel
theorem dX8_whyIndirect_43 : decode cX8_whyIndirect 43 = .ok (.iconst 0, 1) := by decide +kernel
theorem dX8_whyIndirect_44 : decode cX8_whyIndirect 44 = .ok (.invokestatic 126, 3) := by decide +kernel
theorem dX8_whyIndirect_47 : decode cX8_whyIndirect 47 = .ok (.iaload, 1) := by decide +kernel
theorem dX8_whyIndirect_48 : decode cX8_whyIndirect 48 = .ok (.istore 4, 2) := by decide +kernel
theorem dX8_whyIndirect_50 : decode cX8_whyIndirect 50 = .ok (.aload_n 0, 1) := by decide +kernel
theorem dX8_whyIndirect_51 : decode cX8_whyIndirect 51 = .ok (.invokevirtual 85, 3) := by decide +kernel
theorem dX8_whyIndirect_54 : decode cX8_whyIndirect 54 = .ok (.ifCond .ne 14, 3) := by decide +kernel
theorem dX8_whyIndirect_57 : decode cX8_whyIndirect 57 = .ok (.iload_n 3, 1) := by decide +kernel
theorem dX8_whyIndirect_58 : decode cX8_whyIndirect 58 = .ok (.iconst 1, 1) := by decide +kernel
theorem dX8_whyIndirect_59 : decode cX8_whyIndirect 59 = .ok (.iconst 4, 1) := by decide +kernel
theorem dX8_whyIndirect_60 : decode cX8_whyIndirect 60 = .ok (.invokestatic 93, 3) := by decide +kernel
theorem dX8_whyIndirect_63 : decode cX8_whyIndirect 63 = .ok (.ifCond .ne 5, 3) := by decide +kernel
theorem dX8_whyIndirect_66 : decode cX8_whyIndirect 66 = .ok (.iconst 5, 1) := by decide +kernel
theorem dX8_whyIndirect_67 : decode cX8_whyIndirect 67 = .ok (.ireturn, 1) := by decide +kernel
theorem dX8_whyIndirect_68 : decode cX8_whyIndirect 68 = .ok (.iload 4, 2) := by decide +kernel
theorem dX8_whyIndirect_70 : decode cX8_whyIndirect 70 = .ok (.ifCond .eq 21, 3) := by decide +kernel
theorem dX8_whyIndirect_73 : decode cX8_whyIndirect 73 = .ok (.iload 4, 2) := by decide +kernel
theorem dX8_whyIndirect_75 : decode cX8_whyIndirect 75 = .ok (.aload_n 0, 1) := by decide +kernel
theorem dX8_whyIndirect_76 : decode cX8_whyIndirect 76 = .ok (.getfield 13, 3) := by decide +kernel
theorem dX8_whyIndirect_79 : decode cX8_whyIndirect 79 = .ok (.bipush 19, 2) := by decide +kernel
theorem dX8_whyIndirect_81 : decode cX8_whyIndirect 81 = .ok (.aload_n 0, 1) := by decide +kernel
theorem dX8_whyIndirect_82 : decode cX8_whyIndirect 82 = .ok (.iload_n 3, 1) := by decide +kernel
theorem dX8_whyIndirect_83 : decode cX8_whyIndirect 83 = .ok (.invokevirtual 204, 3) := by decide +kernel
theorem dX8_whyIndirect_86 : decode cX8_whyIndirect 86 = .ok (.iadd, 1) := by decide +kernel
theorem dX8_whyIndirect_87 : decode cX8_whyIndirect 87 = .ok (.iaload, 1) := by decide +kernel
theorem dX8_whyIndirect_88 : decode cX8_whyIndirect 88 = .ok (.if_icmp .le 7, 3) := by decide +kernel
theorem dX8_whyIndirect_91 : decode cX8_whyIndirect 91 = .ok (.iconst 5, 1) := by decide +kernel
theorem dX8_whyIndirect_92 : decode cX8_whyIndirect 92 = .ok (.goto 4, 3) := by decide +kernel
theorem dX8_whyIndirect_95 : decode cX8_whyIndirect 95 = .ok (.iconst 0, 1) := by decide +kernel
theorem dX8_whyIndirect_96 : decode cX8_whyIndirect 96 = .ok (.ireturn, 1) := by decide +kernel
theorem dX8_tableBy_0 : decode cX8_tableBy 0 = .ok (.aload_n 0, 1) := by decide +kernel
theorem dX8_tableBy_1 : decode cX8_tableBy 1 = .ok (.invokevirtual 85, 3) := by decide +kernel
theorem dX8_tableBy_4 : decode cX8_tableBy 4 = .ok (.ifCond .eq 11, 3) := by decide +kernel
theorem dX8_tableBy_7 : decode cX8_tableBy 7 = .ok (.iload_n 1, 1) := by decide +kernel
theorem dX8_tableBy_8 : decode cX8_tableBy 8 = .ok (.iconst 4, 1) := by decide +kernel
theorem dX8_tableBy_9 : decode cX8_tableBy 9 = .ok (.irem, 1) := by decide +kernel
theorem dX8_tableBy_10 : decode cX8_tableBy 10 = .ok (.iconst 1, 1) := by decide +kernel
theorem dX8_tableBy_11 : decode cX8_tableBy 11 = .ok (.iadd, 1) := by decide +kernel
theorem dX8_tableBy_12 : decode cX8_tableBy 12 = .ok (.goto 4, 3) := by decide +kernel
theorem dX8_tableBy_15 : decode cX8_tableBy 15 = .ok (.iload_n 1, 1) := by decide +kernel
theorem dX8_tableBy_16 : decode cX8_tableBy 16 = .ok (.ireturn, 1) := by decide +kernel
theorem dX8_walksIn_0 : decode cX8_walksIn 0 = .ok (.iload_n 1, 1) := by decide +kernel
theorem dX8_walksIn_1 : decode cX8_walksIn 1 = .ok (.istore_n 2, 1) := by decide +kernel
theorem dX8_walksIn_2 : decode cX8_walksIn 2 = .ok (.iconst 0, 1) := by decide +kernel
theorem dX8_walksIn_3 : decode cX8_walksIn 3 = .ok (.istore_n 3, 1) := by decide +kernel
theorem dX8_walksIn_4 : decode cX8_walksIn 4 = .ok (.aload_n 0, 1) := by decide +kernel
theorem dX8_walksIn_5 : decode cX8_walksIn 5 = .ok (.invokevirtual 85, 3) := by decide +kernel
theorem dX8_walksIn_8 : decode cX8_walksIn 8 = .ok (.ifCond .eq 11, 3) := by decide +kernel
theorem dX8_walksIn_11 : decode cX8_walksIn 11 = .ok (.aload_n 0, 1) := by decide +kernel
theorem dX8_walksIn_12 : decode cX8_walksIn 12 = .ok (.iload_n 2, 1) := by decide +kernel
theorem dX8_walksIn_13 : decode cX8_walksIn 13 = .ok (.invokevirtual 150, 3) := by decide +kernel
theorem dX8_walksIn_16 : decode cX8_walksIn 16 = .ok (.goto 4, 3) := by decide +kernel
theorem dX8_walksIn_19 : decode cX8_walksIn 19 = .ok (.iload_n 2, 1) := by decide +kernel
theorem dX8_walksIn_20 : decode cX8_walksIn 20 = .ok (.istore 4, 2) := by decide +kernel
theorem dX8_walksIn_22 : decode cX8_walksIn 22 = .ok (.aload_n 0, 1) := by decide +kernel
theorem dX8_walksIn_23 : decode cX8_walksIn 23 = .ok (.invokevirtual 85, 3) := by decide +kernel
theorem dX8_walksIn_26 : decode cX8_walksIn 26 = .ok (.ifCond .eq 50, 3) := by decide +kernel
theorem dX8_walksIn_29 : decode cX8_walksIn 29 = .ok (.aload_n 0, 1) := by decide +kernel
theorem dX8_walksIn_30 : decode cX8_walksIn 30 = .ok (.getfield 13, 3) := by decide +kernel
theorem dX8_walksIn_33 : decode cX8_walksIn 33 = .ok (.iconst 0, 1) := by decide +kernel
theorem dX8_walksIn_34 : decode cX8_walksIn 34 = .ok (.iload 4, 2) := by decide +kernel
theorem dX8_walksIn_36 : decode cX8_walksIn 36 = .ok (.iconst 1, 1) := by decide +kernel
theorem dX8_walksIn_37 : decode cX8_walksIn 37 = .ok (.invokestatic 126, 3) := by decide +kernel
theorem dX8_walksIn_40 : decode cX8_walksIn 40 = .ok (.iaload, 1) := by decide +kernel
theorem dX8_walksIn_41 : decode cX8_walksIn 41 = .ok (.bipush 24, 2) := by decide +kernel
theorem dX8_walksIn_43 : decode cX8_walksIn 43 = .ok (.iand, 1) := by decide +kernel
theorem dX8_walksIn_44 : decode cX8_walksIn 44 = .ok (.istore 5, 2) := by decide +kernel
theorem dX8_walksIn_46 : decode cX8_walksIn 46 = .ok (.iload 5, 2) := by decide +kernel
theorem dX8_walksIn_48 : decode cX8_walksIn 48 = .ok (.aload_n 0, 1) := by decide +kernel
theorem dX8_walksIn_49 : decode cX8_walksIn 49 = .ok (.iload_n 2, 1) := by decide +kernel
theorem dX8_walksIn_50 : decode cX8_walksIn 50 = .ok (.invokevirtual 153, 3) := by decide +kernel
theorem dX8_walksIn_53 : decode cX8_walksIn 53 = .ok (.if_icmp .eq 5, 3) := by decide +kernel
theorem dX8_walksIn_56 : decode cX8_walksIn 56 = .ok (.iconst 1, 1) := by decide +kernel
theorem dX8_walksIn_57 : decode cX8_walksIn 57 = .ok (.ireturn, 1) := by decide +kernel
theorem dX8_walksIn_58 : decode cX8_walksIn 58 = .ok (.aload_n 0, 1) := by decide +kernel
theorem dX8_walksIn_59 : decode cX8_walksIn 59 = .ok (.getfield 201, 3) := by decide +kernel
theorem dX8_walksIn_62 : decode cX8_walksIn 62 = .ok (.aload_n 0, 1) := by decide +kernel
theorem dX8_walksIn_63 : decode cX8_walksIn 63 = .ok (.getfield 13, 3) := by decide +kernel
theorem dX8_walksIn_66 : decode cX8_walksIn 66 = .ok (.iconst 1, 1) := by decide +kernel
theorem dX8_walksIn_67 : decode cX8_walksIn 67 = .ok (.iaload, 1) := by decide +kernel
theorem dX8_walksIn_68 : decode cX8_walksIn 68 = .ok (.if_icmp .ne 5, 3) := by decide +kernel
theorem dX8_walksIn_71 : decode cX8_walksIn 71 = .ok (.iconst 2, 1) := by decide +kernel
theorem dX8_walksIn_72 : decode cX8_walksIn 72 = .ok (.ireturn, 1) := by decide +kernel
theorem dX8_walksIn_73 : decode cX8_walksIn 73 = .ok (.goto 31, 3) := by decide +kernel
theorem dX8_walksIn_76 : decode cX8_walksIn 76 = .ok (.iload_n 2, 1) := by decide +kernel
theorem dX8_walksIn_77 : decode cX8_walksIn 77 = .ok (.iconst 0, 1) := by decide +kernel
theorem dX8_walksIn_78 : decode cX8_walksIn 78 = .ok (.aload_n 0, 1) := by decide +kernel
theorem dX8_walksIn_79 : decode cX8_walksIn 79 = .ok (.getfield 13, 3) := by decide +kernel
theorem dX8_walksIn_82 : decode cX8_walksIn 82 = .ok (.iconst 1, 1) := by decide +kernel
theorem dX8_walksIn_83 : decode cX8_walksIn 83 = .ok (.iaload, 1) := by decide +kernel
theorem dX8_walksIn_84 : decode cX8_walksIn 84 = .ok (.iconst 1, 1) := by decide +kernel
theorem dX8_walksIn_85 : decode cX8_walksIn 85 = .ok (.isub, 1) := by decide +kernel
theorem dX8_walksIn_86 : decode cX8_walksIn 86 = .ok (.invokestatic 93, 3) := by decide +kernel
theorem dX8_walksIn_89 : decode cX8_walksIn 89 = .ok (.ifCond .ne 5, 3) := by decide +kernel
theorem dX8_walksIn_92 : decode cX8_walksIn 92 = .ok (.iconst 1, 1) := by decide +kernel
theorem dX8_walksIn_93 : decode cX8_walksIn 93 = .ok (.ireturn, 1) := by decide +kernel
theorem dX8_walksIn_94 : decode cX8_walksIn 94 = .ok (.iload_n 3, 1) := by decide +kernel
theorem dX8_walksIn_95 : decode cX8_walksIn 95 = .ok (.iload_n 2, 1) := by decide +kernel
theorem dX8_walksIn_96 : decode cX8_walksIn 96 = .ok (.invokestatic 81, 3) := by decide +kernel
theorem dX8_walksIn_99 : decode cX8_walksIn 99 = .ok (.ifCond .eq 5, 3) := by decide +kernel
theorem dX8_walksIn_102 : decode cX8_walksIn 102 = .ok (.iconst 2, 1) := by decide +kernel
theorem dX8_walksIn_103 : decode cX8_walksIn 103 = .ok (.ireturn, 1) := by decide +kernel
theorem dX8_walksIn_104 : decode cX8_walksIn 104 = .ok (.iload_n 3, 1) := by decide +kernel
theorem dX8_walksIn_105 : decode cX8_walksIn 105 = .ok (.iconst 1, 1) := by decide +kernel
theorem dX8_walksIn_106 : decode cX8_walksIn 106 = .ok (.iload 4, 2) := by decide +kernel
theorem dX8_walksIn_108 : decode cX8_walksIn 108 = .ok (.ishl, 1) := by decide +kernel
theorem dX8_walksIn_109 : decode cX8_walksIn 109 = .ok (.ior, 1) := by decide +kernel
theorem dX8_walksIn_110 : decode cX8_walksIn 110 = .ok (.istore_n 3, 1) := by decide +kernel
theorem dX8_walksIn_111 : decode cX8_walksIn 111 = .ok (.aload_n 0, 1) := by decide +kernel
theorem dX8_walksIn_112 : decode cX8_walksIn 112 = .ok (.getfield 13, 3) := by decide +kernel
theorem dX8_walksIn_115 : decode cX8_walksIn 115 = .ok (.iconst 0, 1) := by decide +kernel
theorem dX8_walksIn_116 : decode cX8_walksIn 116 = .ok (.iload 4, 2) := by decide +kernel
theorem dX8_walksIn_118 : decode cX8_walksIn 118 = .ok (.iconst 1, 1) := by decide +kernel
theorem dX8_walksIn_119 : decode cX8_walksIn 119 = .ok (.invokestatic 126, 3) := by decide +kernel
theorem dX8_walksIn_122 : decode cX8_walksIn 122 = .ok (.iaload, 1) := by decide +kernel
theorem dX8_walksIn_123 : decode cX8_walksIn 123 = .ok (.istore 5, 2) := by decide +kernel
theorem dX8_walksIn_125 : decode cX8_walksIn 125 = .ok (.aload_n 0, 1) := by decide +kernel
theorem dX8_walksIn_126 : decode cX8_walksIn 126 = .ok (.iload 4, 2) := by decide +kernel
theorem dX8_walksIn_128 : decode cX8_walksIn 128 = .ok (.putfield 207, 3) := by decide +kernel
theorem dX8_walksIn_131 : decode cX8_walksIn 131 = .ok (.iload 5, 2) := by decide +kernel
theorem dX8_walksIn_133 : decode cX8_walksIn 133 = .ok (.iconst 4, 1) := by decide +kernel
theorem dX8_walksIn_134 : decode cX8_walksIn 134 = .ok (.iand, 1) := by decide +kernel
theorem dX8_walksIn_135 : decode cX8_walksIn 135 = .ok (.ifCond .eq 94, 3) := by decide +kernel
theorem dX8_walksIn_138 : decode cX8_walksIn 138 = .ok (.aload_n 0, 1) := by decide +kernel
theorem dX8_walksIn_139 : decode cX8_walksIn 139 = .ok (.iload 4, 2) := by decide +kernel
theorem dX8_walksIn_141 : decode cX8_walksIn 141 = .ok (.iload 5, 2) := by decide +kernel
theorem dX8_walksIn_143 : decode cX8_walksIn 143 = .ok (.invokevirtual 210, 3) := by decide +kernel
theorem dX8_walksIn_146 : decode cX8_walksIn 146 = .ok (.istore 6, 2) := by decide +kernel
theorem dX8_walksIn_148 : decode cX8_walksIn 148 = .ok (.iload 6, 2) := by decide +kernel
theorem dX8_walksIn_150 : decode cX8_walksIn 150 = .ok (.ifCond .le 6, 3) := by decide +kernel
theorem dX8_walksIn_153 : decode cX8_walksIn 153 = .ok (.iload 6, 2) := by decide +kernel
theorem dX8_walksIn_155 : decode cX8_walksIn 155 = .ok (.ireturn, 1) := by decide +kernel
theorem dX8_walksIn_156 : decode cX8_walksIn 156 = .ok (.aload_n 0, 1) := by decide +kernel
theorem dX8_walksIn_157 : decode cX8_walksIn 157 = .ok (.dup, 1) := by decide +kernel
theorem dX8_walksIn_158 : decode cX8_walksIn 158 = .ok (.getfield 201, 3) := by decide +kernel
theorem dX8_walksIn_161 : decode cX8_walksIn 161 = .ok (.iconst 1, 1) := by decide +kernel
theorem dX8_walksIn_162 : decode cX8_walksIn 162 = .ok (.iadd, 1) := by decide +kernel
theorem dX8_walksIn_163 : decode cX8_walksIn 163 = .ok (.putfield 201, 3) := by decide +kernel
theorem dX8_walksIn_166 : decode cX8_walksIn 166 = .ok (.aload_n 0, 1) := by decide +kernel
theorem dX8_walksIn_167 : decode cX8_walksIn 167 = .ok (.aload_n 0, 1) := by decide +kernel
theorem dX8_walksIn_168 : decode cX8_walksIn 168 = .ok (.getfield 13, 3) := by decide +kernel
theorem dX8_walksIn_171 : decode cX8_walksIn 171 = .ok (.iconst 0, 1) := by decide +kernel
theorem dX8_walksIn_172 : decode cX8_walksIn 172 = .ok (.iload 4, 2) := by decide +kernel
theorem dX8_walksIn_174 : decode cX8_walksIn 174 = .ok (.iconst 2, 1) := by decide +kernel
theorem dX8_walksIn_175 : decode cX8_walksIn 175 = .ok (.invokestatic 126, 3) := by decide +kernel
theorem dX8_walksIn_178 : decode cX8_walksIn 178 = .ok (.iaload, 1) := by decide +kernel
theorem dX8_walksIn_179 : decode cX8_walksIn 179 = .ok (.invokevirtual 204, 3) := by decide +kernel
theorem dX8_walksIn_182 : decode cX8_walksIn 182 = .ok (.istore 7, 2) := by decide +kernel
theorem dX8_walksIn_184 : decode cX8_walksIn 184 = .ok (.aload_n 0, 1) := by decide +kernel
theorem dX8_walksIn_185 : decode cX8_walksIn 185 = .ok (.bipush 10, 2) := by decide +kernel
theorem dX8_walksIn_187 : decode cX8_walksIn 187 = .ok (.iload 7, 2) := by decide +kernel
theorem dX8_walksIn_189 : decode cX8_walksIn 189 = .ok (.imul, 1) := by decide +kernel
theorem dX8_walksIn_190 : decode cX8_walksIn 190 = .ok (.iconst 1, 1) := by decide +kernel
theorem dX8_walksIn_191 : decode cX8_walksIn 191 = .ok (.iadd, 1) := by decide +kernel
theorem dX8_walksIn_192 : decode cX8_walksIn 192 = .ok (.invokevirtual 213, 3) := by decide +kernel
theorem dX8_walksIn_195 : decode cX8_walksIn 195 = .ok (.aload_n 0, 1) := by decide +kernel
theorem dX8_walksIn_196 : decode cX8_walksIn 196 = .ok (.iload 7, 2) := by decide +kernel
theorem dX8_walksIn_198 : decode cX8_walksIn 198 = .ok (.aload_n 0, 1) := by decide +kernel
theorem dX8_walksIn_199 : decode cX8_walksIn 199 = .ok (.getfield 13, 3) := by decide +kernel
theorem dX8_walksIn_202 : decode cX8_walksIn 202 = .ok (.iconst 0, 1) := by decide +kernel
theorem dX8_walksIn_203 : decode cX8_walksIn 203 = .ok (.iload 4, 2) := by decide +kernel
theorem dX8_walksIn_205 : decode cX8_walksIn 205 = .ok (.iconst 0, 1) := by decide +kernel
theorem dX8_walksIn_206 : decode cX8_walksIn 206 = .ok (.invokestatic 126, 3) := by decide +kernel
theorem dX8_walksIn_209 : decode cX8_walksIn 209 = .ok (.iaload, 1) := by decide +kernel
theorem dX8_walksIn_210 : decode cX8_walksIn 210 = .ok (.invokevirtual 216, 3) := by decide +kernel
theorem dX8_walksIn_213 : decode cX8_walksIn 213 = .ok (.istore 6, 2) := by decide +kernel
theorem dX8_walksIn_215 : decode cX8_walksIn 215 = .ok (.aload_n 0, 1) := by decide +kernel
theorem dX8_walksIn_216 : decode cX8_walksIn 216 = .ok (.bipush 10, 2) := by decide +kernel
theorem dX8_walksIn_218 : decode cX8_walksIn 218 = .ok (.iload 7, 2) := by decide +kernel
theorem dX8_walksIn_220 : decode cX8_walksIn 220 = .ok (.imul, 1) := by decide +kernel
theorem dX8_walksIn_221 : decode cX8_walksIn 221 = .ok (.iconst 2, 1) := by decide +kernel
theorem dX8_walksIn_222 : decode cX8_walksIn 222 = .ok (.iadd, 1) := by decide +kernel
theorem dX8_walksIn_223 : decode cX8_walksIn 223 = .ok (.invokevirtual 213, 3) := by decide +kernel
theorem dX8_walksIn_226 : decode cX8_walksIn 226 = .ok (.iload 6, 2) := by decide +kernel
theorem dX8_walksIn_228 : decode cX8_walksIn 228 = .ok (.ireturn, 1) := by decide +kernel
theorem dX8_walksIn_229 : decode cX8_walksIn 229 = .ok (.aload_n 0, 1) := by decide +kernel
theorem dX8_walksIn_230 : decode cX8_walksIn 230 = .ok (.iload 5, 2) := by decide +kernel
theorem dX8_walksIn_232 : decode cX8_walksIn 232 = .ok (.aload_n 0, 1) := by decide +kernel
theorem dX8_walksIn_233 : decode cX8_walksIn 233 = .ok (.getfield 13, 3) := by decide +kernel
theorem dX8_walksIn_236 : decode cX8_walksIn 236 = .ok (.iconst 0, 1) := by decide +kernel
theorem dX8_walksIn_237 : decode cX8_walksIn 237 = .ok (.iload 4, 2) := by decide +kernel
theorem dX8_walksIn_239 : decode cX8_walksIn 239 = .ok (.iconst 0, 1) := by decide +kernel
theorem dX8_walksIn_240 : decode cX8_walksIn 240 = .ok (.invokestatic 126, 3) := by decide +kernel
theorem dX8_walksIn_243 : decode cX8_walksIn 243 = .ok (.iaload, 1) := by decide +kernel
theorem dX8_walksIn_244 : decode cX8_walksIn 244 = .ok (.invokevirtual 198, 3) := by decide +kernel
theorem dX8_walksIn_247 : decode cX8_walksIn 247 = .ok (.ifCond .ne 6, 3) := by decide +kernel
theorem dX8_walksIn_250 : decode cX8_walksIn 250 = .ok (.bipush 6, 2) := by decide +kernel
theorem dX8_walksIn_252 : decode cX8_walksIn 252 = .ok (.ireturn, 1) := by decide +kernel
theorem dX8_walksIn_253 : decode cX8_walksIn 253 = .ok (.aload_n 0, 1) := by decide +kernel
theorem dX8_walksIn_254 : decode cX8_walksIn 254 = .ok (.dup, 1) := by decide +kernel
theorem dX8_walksIn_255 : decode cX8_walksIn 255 = .ok (.getfield 201, 3) := by decide +kernel
theorem dX8_walksIn_258 : decode cX8_walksIn 258 = .ok (.iconst 1, 1) := by decide +kernel
theorem dX8_walksIn_259 : decode cX8_walksIn 259 = .ok (.iadd, 1) := by decide +kernel
theorem dX8_walksIn_260 : decode cX8_walksIn 260 = .ok (.putfield 201, 3) := by decide +kernel
theorem dX8_walksIn_263 : decode cX8_walksIn 263 = .ok (.iload 5, 2) := by decide +kernel
theorem dX8_walksIn_265 : decode cX8_walksIn 265 = .ok (.iconst 1, 1) := by decide +kernel
theorem dX8_walksIn_266 : decode cX8_walksIn 266 = .ok (.iand, 1) := by decide +kernel
theorem dX8_walksIn_267 : decode cX8_walksIn 267 = .ok (.ifCond .ne 5, 3) := by decide +kernel
theorem dX8_walksIn_270 : decode cX8_walksIn 270 = .ok (.iconst 0, 1) := by decide +kernel
theorem dX8_walksIn_271 : decode cX8_walksIn 271 = .ok (.ireturn, 1) := by decide +kernel
theorem dX8_walksIn_272 : decode cX8_walksIn 272 = .ok (.aload_n 0, 1) := by decide +kernel
theorem dX8_walksIn_273 : decode cX8_walksIn 273 = .ok (.invokevirtual 85, 3) := by decide +kernel
theorem dX8_walksIn_276 : decode cX8_walksIn 276 = .ok (.ifCond .eq 12, 3) := by decide +kernel
theorem dX8_walksIn_279 : decode cX8_walksIn 279 = .ok (.aload_n 0, 1) := by decide +kernel
theorem dX8_walksIn_280 : decode cX8_walksIn 280 = .ok (.iload_n 2, 1) := by decide +kernel
theorem dX8_walksIn_281 : decode cX8_walksIn 281 = .ok (.iconst 1, 1) := by decide +kernel
theorem dX8_walksIn_282 : decode cX8_walksIn 282 = .ok (.invokevirtual 147, 3) := by decide +kernel
theorem dX8_walksIn_285 : decode cX8_walksIn 285 = .ok (.goto 15, 3) := by decide +kernel
theorem dX8_walksIn_288 : decode cX8_walksIn 288 = .ok (.aload_n 0, 1) := by decide +kernel
theorem dX8_walksIn_289 : decode cX8_walksIn 289 = .ok (.getfield 13, 3) := by decide +kernel
theorem dX8_walksIn_292 : decode cX8_walksIn 292 = .ok (.iconst 0, 1) := by decide +kernel
theorem dX8_walksIn_293 : decode cX8_walksIn 293 = .ok (.iload 4, 2) := by decide +kernel
theorem dX8_walksIn_295 : decode cX8_walksIn 295 = .ok (.iconst 2, 1) := by decide +kernel
theorem dX8_walksIn_296 : decode cX8_walksIn 296 = .ok (.invokestatic 126, 3) := by decide +kernel
theorem dX8_walksIn_299 : decode cX8_walksIn 299 = .ok (.iaload, 1) := by decide +kernel
theorem dX8_walksIn_300 : decode cX8_walksIn 300 = .ok (.istore_n 2, 1) := by decide +kernel
theorem dX8_walksIn_301 : decode cX8_walksIn 301 = .ok (.goto (-297), 3) := by decide +kernel
theorem dX8_walks_0 : decode cX8_walks 0 = .ok (.aload_n 0, 1) := by decide +kernel
theorem dX8_walks_1 : decode cX8_walks 1 = .ok (.iconst 0, 1) := by decide +kernel
theorem dX8_walks_2 : decode cX8_walks 2 = .ok (.putfield 182, 3) := by decide +kernel
theorem dX8_walks_5 : decode cX8_walks 5 = .ok (.aload_n 0, 1) := by decide +kernel
theorem dX8_walks_6 : decode cX8_walks 6 = .ok (.iconst 0, 1) := by decide +kernel
theorem dX8_walks_7 : decode cX8_walks 7 = .ok (.putfield 201, 3) := by decide +kernel
theorem dX8_walks_10 : decode cX8_walks 10 = .ok (.aload_n 0, 1) := by decide +kernel
theorem dX8_walks_11 : decode cX8_walks 11 = .ok (.iconst 0, 1) := by decide +kernel
theorem dX8_walks_12 : decode cX8_walks 12 = .ok (.putfield 195, 3) := by decide +kernel
theorem dX8_walks_15 : decode cX8_walks 15 = .ok (.aload_n 0, 1) := by decide +kernel
theorem dX8_walks_16 : decode cX8_walks 16 = .ok (.iconst 0, 1) := by decide +kernel
theorem dX8_walks_17 : decode cX8_walks 17 = .ok (.putfield 189, 3) := by decide +kernel
theorem dX8_walks_20 : decode cX8_walks 20 = .ok (.aload_n 0, 1) := by decide +kernel
theorem dX8_walks_21 : decode cX8_walks 21 = .ok (.iconst 0, 1) := by decide +kernel
theorem dX8_walks_22 : decode cX8_walks 22 = .ok (.putfield 192, 3) := by decide +kernel
theorem dX8_walks_25 : decode cX8_walks 25 = .ok (.aload_n 0, 1) := by decide +kernel
theorem dX8_walks_26 : decode cX8_walks 26 = .ok (.iconst 0, 1) := by decide +kernel
theorem dX8_walks_27 : decode cX8_walks 27 = .ok (.putfield 185, 3) := by decide +kernel
theorem dX8_walks_30 : decode cX8_walks 30 = .ok (.aload_n 0, 1) := by decide +kernel
theorem dX8_walks_31 : decode cX8_walks 31 = .ok (.iconst 1, 1) := by decide +kernel
theorem dX8_walks_32 : decode cX8_walks 32 = .ok (.invokevirtual 213, 3) := by decide +kernel
theorem dX8_walks_35 : decode cX8_walks 35 = .ok (.aload_n 0, 1) := by decide +kernel
theorem dX8_walks_36 : decode cX8_walks 36 = .ok (.iload_n 1, 1) := by decide +kernel
theorem dX8_walks_37 : decode cX8_walks 37 = .ok (.invokevirtual 219, 3) := by decide +kernel
theorem dX8_walks_40 : decode cX8_walks 40 = .ok (.istore_n 2, 1) := by decide +kernel
theorem dX8_walks_41 : decode cX8_walks 41 = .ok (.aload_n 0, 1) := by decide +kernel
theorem dX8_walks_42 : decode cX8_walks 42 = .ok (.iconst 2, 1) := by decide +kernel
theorem dX8_walks_43 : decode cX8_walks 43 = .ok (.invokevirtual 213, 3) := by decide +kernel
theorem dX8_walks_46 : decode cX8_walks 46 = .ok (.iload_n 2, 1) := by decide +kernel
theorem dX8_walks_47 : decode cX8_walks 47 = .ok (.ireturn, 1) := by decide +kernel
theorem dX8_isThere_0 : decode cX8_isThere 0 = .ok (.aload_n 0, 1) := by decide +kernel
theorem dX8_isThere_1 : decode cX8_isThere 1 = .ok (.invokevirtual 85, 3) := by decide +kernel
theorem dX8_isThere_4 : decode cX8_isThere 4 = .ok (.ifCond .ne 24, 3) := by decide +kernel
theorem dX8_isThere_7 : decode cX8_isThere 7 = .ok (.aload_n 0, 1) := by decide +kernel
theorem dX8_isThere_8 : decode cX8_isThere 8 = .ok (.getfield 13, 3) := by decide +kernel
theorem dX8_isThere_11 : decode cX8_isThere 11 = .ok (.iconst 4, 1) := by decide +kernel
theorem dX8_isThere_12 : decode cX8_isThere 12 = .ok (.iaload, 1) := by decide +kernel
theorem dX8_isThere_13 : decode cX8_isThere 13 = .ok (.aload_n 0, 1) := by decide +kernel
theorem dX8_isThere_14 : decode cX8_isThere 14 = .ok (.getfield 13, 3) := by decide +kernel
theorem dX8_isThere_17 : decode cX8_isThere 17 = .ok (.iconst 3, 1) := by decide +kernel
theorem dX8_isThere_18 : decode cX8_isThere 18 = .ok (.iaload, 1) := by decide +kernel
theorem dX8_isThere_19 : decode cX8_isThere 19 = .ok (.if_icmp .eq 7, 3) := by decide +kernel
theorem dX8_isThere_22 : decode cX8_isThere 22 = .ok (.iconst 1, 1) := by decide +kernel
theorem dX8_isThere_23 : decode cX8_isThere 23 = .ok (.goto 4, 3) := by decide +kernel
theorem dX8_isThere_26 : decode cX8_isThere 26 = .ok (.iconst 0, 1) := by decide +kernel
theorem dX8_isThere_27 : decode cX8_isThere 27 = .ok (.ireturn, 1) := by decide +kernel
theorem dX8_isThere_28 : decode cX8_isThere 28 = .ok (.aload_n 0, 1) := by decide +kernel
theorem dX8_isThere_29 : decode cX8_isThere 29 = .ok (.getfield 13, 3) := by decide +kernel
theorem dX8_isThere_32 : decode cX8_isThere 32 = .ok (.iconst 0, 1) := by decide +kernel
theorem dX8_isThere_33 : decode cX8_isThere 33 = .ok (.aload_n 0, 1) := by decide +kernel
theorem dX8_isThere_34 : decode cX8_isThere 34 = .ok (.aload_n 0, 1) := by decide +kernel
theorem dX8_isThere_35 : decode cX8_isThere 35 = .ok (.getfield 13, 3) := by decide +kernel
theorem dX8_isThere_38 : decode cX8_isThere 38 = .ok (.iconst 4, 1) := by decide +kernel
theorem dX8_isThere_39 : decode cX8_isThere 39 = .ok (.iaload, 1) := by decide +kernel
theorem dX8_isThere_40 : decode cX8_isThere 40 = .ok (.invokevirtual 150, 3) := by decide +kernel
theorem dX8_isThere_43 : decode cX8_isThere 43 = .ok (.iconst 1, 1) := by decide +kernel
theorem dX8_isThere_44 : decode cX8_isThere 44 = .ok (.invokestatic 126, 3) := by decide +kernel
theorem dX8_isThere_47 : decode cX8_isThere 47 = .ok (.iaload, 1) := by decide +kernel
theorem dX8_isThere_48 : decode cX8_isThere 48 = .ok (.bipush 24, 2) := by decide +kernel
theorem dX8_isThere_50 : decode cX8_isThere 50 = .ok (.iand, 1) := by decide +kernel
theorem dX8_isThere_51 : decode cX8_isThere 51 = .ok (.aload_n 0, 1) := by decide +kernel
theorem dX8_isThere_52 : decode cX8_isThere 52 = .ok (.aload_n 0, 1) := by decide +kernel
theorem dX8_isThere_53 : decode cX8_isThere 53 = .ok (.getfield 13, 3) := by decide +kernel
theorem dX8_isThere_56 : decode cX8_isThere 56 = .ok (.iconst 4, 1) := by decide +kernel
theorem dX8_isThere_57 : decode cX8_isThere 57 = .ok (.iaload, 1) := by decide +kernel
theorem dX8_isThere_58 : decode cX8_isThere 58 = .ok (.invokevirtual 153, 3) := by decide +kernel
theorem dX8_isThere_61 : decode cX8_isThere 61 = .ok (.if_icmp .ne 7, 3) := by decide +kernel
theorem dX8_isThere_64 : decode cX8_isThere 64 = .ok (.iconst 1, 1) := by decide +kernel
theorem dX8_isThere_65 : decode cX8_isThere 65 = .ok (.goto 4, 3) := by decide +kernel
theorem dX8_isThere_68 : decode cX8_isThere 68 = .ok (.iconst 0, 1) := by decide +kernel
theorem dX8_isThere_69 : decode cX8_isThere 69 = .ok (.ireturn, 1) := by decide +kernel
theorem dX8_refuses_0 : decode cX8_refuses 0 = .ok (.aload_n 0, 1) := by decide +kernel
theorem dX8_refuses_1 : decode cX8_refuses 1 = .ok (.getfield 13, 3) := by decide +kernel
theorem dX8_refuses_4 : decode cX8_refuses 4 = .ok (.bipush 13, 2) := by decide +kernel
theorem dX8_refuses_6 : decode cX8_refuses 6 = .ok (.iload_n 1, 1) := by decide +kernel
theorem dX8_refuses_7 : decode cX8_refuses 7 = .ok (.iastore, 1) := by decide +kernel
theorem dX8_refuses_8 : decode cX8_refuses 8 = .ok (.bipush (-10), 2) := by decide +kernel
theorem dX8_refuses_10 : decode cX8_refuses 10 = .ok (.iload_n 1, 1) := by decide +kernel
theorem dX8_refuses_11 : decode cX8_refuses 11 = .ok (.isub, 1) := by decide +kernel
theorem dX8_refuses_12 : decode cX8_refuses 12 = .ok (.ireturn, 1) := by decide +kernel
theorem dX8_withHead_0 : decode cX8_withHead 0 = .ok (.iconst 0, 1) := by decide +kernel
theorem dX8_withHead_1 : decode cX8_withHead 1 = .ok (.istore_n 3, 1) := by decide +kernel
theorem dX8_withHead_2 : decode cX8_withHead 2 = .ok (.iload_n 3, 1) := by decide +kernel
theorem dX8_withHead_3 : decode cX8_withHead 3 = .ok (.aload_n 0, 1) := by decide +kernel
theorem dX8_withHead_4 : decode cX8_withHead 4 = .ok (.getfield 13, 3) := by decide +kernel
theorem dX8_withHead_7 : decode cX8_withHead 7 = .ok (.bipush 16, 2) := by decide +kernel
theorem dX8_withHead_9 : decode cX8_withHead 9 = .ok (.iaload, 1) := by decide +kernel
theorem dX8_withHead_10 : decode cX8_withHead 10 = .ok (.if_icmp .ge 39, 3) := by decide +kernel
theorem dX8_withHead_13 : decode cX8_withHead 13 = .ok (.aload_n 0, 1) := by decide +kernel
theorem dX8_withHead_14 : decode cX8_withHead 14 = .ok (.getfield 13, 3) := by decide +kernel
theorem dX8_withHead_17 : decode cX8_withHead 17 = .ok (.iload_n 3, 1) := by decide +kernel
theorem dX8_withHead_18 : decode cX8_withHead 18 = .ok (.iconst 0, 1) := by decide +kernel
theorem dX8_withHead_19 : decode cX8_withHead 19 = .ok (.invokestatic 97, 3) := by decide +kernel
theorem dX8_withHead_22 : decode cX8_withHead 22 = .ok (.iaload, 1) := by decide +kernel
theorem dX8_withHead_23 : decode cX8_withHead 23 = .ok (.iload_n 1, 1) := by decide +kernel
theorem dX8_withHead_24 : decode cX8_withHead 24 = .ok (.if_icmp .ne 19, 3) := by decide +kernel
theorem dX8_withHead_27 : decode cX8_withHead 27 = .ok (.aload_n 0, 1) := by decide +kernel
theorem dX8_withHead_28 : decode cX8_withHead 28 = .ok (.getfield 13, 3) := by decide +kernel
theorem dX8_withHead_31 : decode cX8_withHead 31 = .ok (.iload_n 3, 1) := by decide +kernel
theorem dX8_withHead_32 : decode cX8_withHead 32 = .ok (.iconst 2, 1) := by decide +kernel
theorem dX8_withHead_33 : decode cX8_withHead 33 = .ok (.invokestatic 97, 3) := by decide +kernel
theorem dX8_withHead_36 : decode cX8_withHead 36 = .ok (.iaload, 1) := by decide +kernel
theorem dX8_withHead_37 : decode cX8_withHead 37 = .ok (.iload_n 2, 1) := by decide +kernel
theorem dX8_withHead_38 : decode cX8_withHead 38 = .ok (.if_icmp .ne 5, 3) := by decide +kernel
theorem dX8_withHead_41 : decode cX8_withHead 41 = .ok (.iload_n 3, 1) := by decide +kernel
theorem dX8_withHead_42 : decode cX8_withHead 42 = .ok (.ireturn, 1) := by decide +kernel
theorem dX8_withHead_43 : decode cX8_withHead 43 = .ok (.iinc 3 1, 3) := by decide +kernel
theorem dX8_withHead_46 : decode cX8_withHead 46 = .ok (.goto (-44), 3) := by decide +kernel
theorem dX8_withHead_49 : decode cX8_withHead 49 = .ok (.iconst (-1), 1) := by decide +kernel
theorem dX8_withHead_50 : decode cX8_withHead 50 = .ok (.ireturn, 1) := by decide +kernel
theorem dX8_fetch_0 : decode cX8_fetch 0 = .ok (.aload_n 0, 1) := by decide +kernel
theorem dX8_fetch_1 : decode cX8_fetch 1 = .ok (.getfield 13, 3) := by decide +kernel
theorem dX8_fetch_4 : decode cX8_fetch 4 = .ok (.bipush 13, 2) := by decide +kernel
theorem dX8_fetch_6 : decode cX8_fetch 6 = .ok (.iaload, 1) := by decide +kernel
theorem dX8_fetch_7 : decode cX8_fetch 7 = .ok (.ifCond .le 6, 3) := by decide +kernel
theorem dX8_fetch_10 : decode cX8_fetch 10 = .ok (.bipush (-2), 2) := by decide +kernel
theorem dX8_fetch_12 : decode cX8_fetch 12 = .ok (.ireturn, 1) := by decide +kernel
theorem dX8_fetch_13 : decode cX8_fetch 13 = .ok (.aload_n 0, 1) := by decide +kernel
theorem dX8_fetch_14 : decode cX8_fetch 14 = .ok (.invokevirtual 222, 3) := by decide +kernel
theorem dX8_fetch_17 : decode cX8_fetch 17 = .ok (.ifCond .ne 5, 3) := by decide +kernel
theorem dX8_fetch_20 : decode cX8_fetch 20 = .ok (.iconst (-1), 1) := by decide +kernel
theorem dX8_fetch_21 : decode cX8_fetch 21 = .ok (.ireturn, 1) := by decide +kernel
theorem dX8_fetch_22 : decode cX8_fetch 22 = .ok (.aload_n 0, 1) := by decide +kernel
theorem dX8_fetch_23 : decode cX8_fetch 23 = .ok (.invokevirtual 85, 3) := by decide +kernel
theorem dX8_fetch_26 : decode cX8_fetch 26 = .ok (.ifCond .eq 12, 3) := by decide +kernel
theorem dX8_fetch_29 : decode cX8_fetch 29 = .ok (.aload_n 0, 1) := by decide +kernel
theorem dX8_fetch_30 : decode cX8_fetch 30 = .ok (.getfield 13, 3) := by decide +kernel
theorem dX8_fetch_33 : decode cX8_fetch 33 = .ok (.iconst 4, 1) := by decide +kernel
theorem dX8_fetch_34 : decode cX8_fetch 34 = .ok (.iaload, 1) := by decide +kernel
theorem dX8_fetch_35 : decode cX8_fetch 35 = .ok (.goto 22, 3) := by decide +kernel
theorem dX8_fetch_38 : decode cX8_fetch 38 = .ok (.aload_n 0, 1) := by decide +kernel
theorem dX8_fetch_39 : decode cX8_fetch 39 = .ok (.getfield 13, 3) := by decide +kernel
theorem dX8_fetch_42 : decode cX8_fetch 42 = .ok (.sipush 144, 3) := by decide +kernel
theorem dX8_fetch_45 : decode cX8_fetch 45 = .ok (.aload_n 0, 1) := by decide +kernel
theorem dX8_fetch_46 : decode cX8_fetch 46 = .ok (.aload_n 0, 1) := by decide +kernel
theorem dX8_fetch_47 : decode cX8_fetch 47 = .ok (.getfield 13, 3) := by decide +kernel
theorem dX8_fetch_50 : decode cX8_fetch 50 = .ok (.iconst 4, 1) := by decide +kernel
theorem dX8_fetch_51 : decode cX8_fetch 51 = .ok (.iaload, 1) := by decide +kernel
theorem dX8_fetch_52 : decode cX8_fetch 52 = .ok (.invokevirtual 150, 3) := by decide +kernel
theorem dX8_fetch_55 : decode cX8_fetch 55 = .ok (.iadd, 1) := by decide +kernel
theorem dX8_fetch_56 : decode cX8_fetch 56 = .ok (.iaload, 1) := by decide +kernel
theorem dX8_fetch_57 : decode cX8_fetch 57 = .ok (.istore_n 1, 1) := by decide +kernel
theorem dX8_fetch_58 : decode cX8_fetch 58 = .ok (.aload_n 0, 1) := by decide +kernel
theorem dX8_fetch_59 : decode cX8_fetch 59 = .ok (.iload_n 1, 1) := by decide +kernel
theorem dX8_fetch_60 : decode cX8_fetch 60 = .ok (.invokevirtual 225, 3) := by decide +kernel
theorem dX8_fetch_63 : decode cX8_fetch 63 = .ok (.istore_n 2, 1) := by decide +kernel
theorem dX8_fetch_64 : decode cX8_fetch 64 = .ok (.aload_n 0, 1) := by decide +kernel
theorem dX8_fetch_65 : decode cX8_fetch 65 = .ok (.aload_n 0, 1) := by decide +kernel
theorem dX8_fetch_66 : decode cX8_fetch 66 = .ok (.getfield 182, 3) := by decide +kernel
theorem dX8_fetch_69 : decode cX8_fetch 69 = .ok (.putfield 228, 3) := by decide +kernel
theorem dX8_fetch_72 : decode cX8_fetch 72 = .ok (.iconst 0, 1) := by decide +kernel
theorem dX8_fetch_73 : decode cX8_fetch 73 = .ok (.istore_n 3, 1) := by decide +kernel
theorem dX8_fetch_74 : decode cX8_fetch 74 = .ok (.iload_n 3, 1) := by decide +kernel
theorem dX8_fetch_75 : decode cX8_fetch 75 = .ok (.aload_n 0, 1) := by decide +kernel
theorem dX8_fetch_76 : decode cX8_fetch 76 = .ok (.getfield 182, 3) := by decide +kernel
theorem dX8_fetch_79 : decode cX8_fetch 79 = .ok (.if_icmp .ge 21, 3) := by decide +kernel
theorem dX8_fetch_82 : decode cX8_fetch 82 = .ok (.aload_n 0, 1) := by decide +kernel
theorem dX8_fetch_83 : decode cX8_fetch 83 = .ok (.getfield 30, 3) := by decide +kernel
theorem dX8_fetch_86 : decode cX8_fetch 86 = .ok (.iload_n 3, 1) := by decide +kernel
theorem dX8_fetch_87 : decode cX8_fetch 87 = .ok (.aload_n 0, 1) := by decide +kernel
theorem dX8_fetch_88 : decode cX8_fetch 88 = .ok (.getfield 27, 3) := by decide +kernel
theorem dX8_fetch_91 : decode cX8_fetch 91 = .ok (.iload_n 3, 1) := by decide +kernel
theorem dX8_fetch_92 : decode cX8_fetch 92 = .ok (.iaload, 1) := by decide +kernel
theorem dX8_fetch_93 : decode cX8_fetch 93 = .ok (.iastore, 1) := by decide +kernel
theorem dX8_fetch_94 : decode cX8_fetch 94 = .ok (.iinc 3 1, 3) := by decide +kernel
theorem dX8_fetch_97 : decode cX8_fetch 97 = .ok (.goto (-23), 3) := by decide +kernel
theorem dX8_fetch_100 : decode cX8_fetch 100 = .ok (.iload_n 2, 1) := by decide +kernel
theorem dX8_fetch_101 : decode cX8_fetch 101 = .ok (.ifCond .le 9, 3) := by decide +kernel
theorem dX8_fetch_104 : decode cX8_fetch 104 = .ok (.aload_n 0, 1) := by decide +kernel
theorem dX8_fetch_105 : decode cX8_fetch 105 = .ok (.iload_n 2, 1) := by decide +kernel
theorem dX8_fetch_106 : decode cX8_fetch 106 = .ok (.invokevirtual 231, 3) := by decide +kernel
theorem dX8_fetch_109 : decode cX8_fetch 109 = .ok (.ireturn, 1) := by decide +kernel
theorem dX8_fetch_110 : decode cX8_fetch 110 = .ok (.aload_n 0, 1) := by decide +kernel
theorem dX8_fetch_111 : decode cX8_fetch 111 = .ok (.iconst 0, 1) := by decide +kernel
theorem dX8_fetch_112 : decode cX8_fetch 112 = .ok (.aload_n 0, 1) := by decide +kernel
theorem dX8_fetch_113 : decode cX8_fetch 113 = .ok (.invokevirtual 85, 3) := by decide +kernel
theorem dX8_fetch_116 : decode cX8_fetch 116 = .ok (.ifCond .eq 20, 3) := by decide +kernel
theorem dX8_fetch_119 : decode cX8_fetch 119 = .ok (.aload_n 0, 1) := by decide +kernel
theorem dX8_fetch_120 : decode cX8_fetch 120 = .ok (.getfield 13, 3) := by decide +kernel
theorem dX8_fetch_123 : decode cX8_fetch 123 = .ok (.iconst 0, 1) := by decide +kernel
theorem dX8_fetch_124 : decode cX8_fetch 124 = .ok (.aload_n 0, 1) := by decide +kernel
theorem dX8_fetch_125 : decode cX8_fetch 125 = .ok (.getfield 207, 3) := by decide +kernel
theorem dX8_fetch_128 : decode cX8_fetch 128 = .ok (.iconst 2, 1) := by decide +kernel
theorem dX8_fetch_129 : decode cX8_fetch 129 = .ok (.invokestatic 126, 3) := by decide +kernel
theorem dX8_fetch_132 : decode cX8_fetch 132 = .ok (.iaload, 1) := by decide +kernel
theorem dX8_fetch_133 : decode cX8_fetch 133 = .ok (.goto 4, 3) := by decide +kernel
theorem dX8_fetch_136 : decode cX8_fetch 136 = .ok (.iload_n 1, 1) := by decide +kernel
theorem dX8_fetch_137 : decode cX8_fetch 137 = .ok (.invokevirtual 234, 3) := by decide +kernel
theorem dX8_fetch_140 : decode cX8_fetch 140 = .ok (.istore_n 3, 1) := by decide +kernel
theorem dX8_fetch_141 : decode cX8_fetch 141 = .ok (.iload_n 3, 1) := by decide +kernel
theorem dX8_fetch_142 : decode cX8_fetch 142 = .ok (.ifCond .ge 10, 3) := by decide +kernel
theorem dX8_fetch_145 : decode cX8_fetch 145 = .ok (.aload_n 0, 1) := by decide +kernel
theorem dX8_fetch_146 : decode cX8_fetch 146 = .ok (.bipush 7, 2) := by decide +kernel
theorem dX8_fetch_148 : decode cX8_fetch 148 = .ok (.invokevirtual 231, 3) := by decide +kernel
theorem dX8_fetch_151 : decode cX8_fetch 151 = .ok (.ireturn, 1) := by decide +kernel
theorem dX8_fetch_152 : decode cX8_fetch 152 = .ok (.aload_n 0, 1) := by decide +kernel
theorem dX8_fetch_153 : decode cX8_fetch 153 = .ok (.getfield 13, 3) := by decide +kernel
theorem dX8_fetch_156 : decode cX8_fetch 156 = .ok (.iload_n 3, 1) := by decide +kernel
theorem dX8_fetch_157 : decode cX8_fetch 157 = .ok (.iconst 0, 1) := by decide +kernel
theorem dX8_fetch_158 : decode cX8_fetch 158 = .ok (.invokestatic 97, 3) := by decide +kernel
theorem dX8_fetch_161 : decode cX8_fetch 161 = .ok (.iconst 1, 1) := by decide +kernel
theorem dX8_fetch_162 : decode cX8_fetch 162 = .ok (.iastore, 1) := by decide +kernel
theorem dX8_fetch_163 : decode cX8_fetch 163 = .ok (.aload_n 0, 1) := by decide +kernel
theorem dX8_fetch_164 : decode cX8_fetch 164 = .ok (.getfield 13, 3) := by decide +kernel
theorem dX8_fetch_167 : decode cX8_fetch 167 = .ok (.iload_n 3, 1) := by decide +kernel
theorem dX8_fetch_168 : decode cX8_fetch 168 = .ok (.iconst 4, 1) := by decide +kernel
theorem dX8_fetch_169 : decode cX8_fetch 169 = .ok (.invokestatic 97, 3) := by decide +kernel
theorem dX8_fetch_172 : decode cX8_fetch 172 = .ok (.aload_n 0, 1) := by decide +kernel
theorem dX8_fetch_173 : decode cX8_fetch 173 = .ok (.getfield 189, 3) := by decide +kernel
theorem dX8_fetch_176 : decode cX8_fetch 176 = .ok (.iastore, 1) := by decide +kernel
theorem dX8_fetch_177 : decode cX8_fetch 177 = .ok (.aload_n 0, 1) := by decide +kernel
theorem dX8_fetch_178 : decode cX8_fetch 178 = .ok (.getfield 13, 3) := by decide +kernel
theorem dX8_fetch_181 : decode cX8_fetch 181 = .ok (.iload_n 3, 1) := by decide +kernel
theorem dX8_fetch_182 : decode cX8_fetch 182 = .ok (.iconst 5, 1) := by decide +kernel
theorem dX8_fetch_183 : decode cX8_fetch 183 = .ok (.invokestatic 97, 3) := by decide +kernel
theorem dX8_fetch_186 : decode cX8_fetch 186 = .ok (.aload_n 0, 1) := by decide +kernel
theorem dX8_fetch_187 : decode cX8_fetch 187 = .ok (.getfield 192, 3) := by decide +kernel
theorem dX8_fetch_190 : decode cX8_fetch 190 = .ok (.iastore, 1) := by decide +kernel
theorem dX8_fetch_191 : decode cX8_fetch 191 = .ok (.aload_n 0, 1) := by decide +kernel
theorem dX8_fetch_192 : decode cX8_fetch 192 = .ok (.getfield 13, 3) := by decide +kernel
theorem dX8_fetch_195 : decode cX8_fetch 195 = .ok (.iconst 4, 1) := by decide +kernel
theorem dX8_fetch_196 : decode cX8_fetch 196 = .ok (.aload_n 0, 1) := by decide +kernel
theorem dX8_fetch_197 : decode cX8_fetch 197 = .ok (.aload_n 0, 1) := by decide +kernel
theorem dX8_fetch_198 : decode cX8_fetch 198 = .ok (.getfield 13, 3) := by decide +kernel
theorem dX8_fetch_201 : decode cX8_fetch 201 = .ok (.iconst 4, 1) := by decide +kernel
theorem dX8_fetch_202 : decode cX8_fetch 202 = .ok (.iaload, 1) := by decide +kernel
theorem dX8_fetch_203 : decode cX8_fetch 203 = .ok (.aload_n 0, 1) := by decide +kernel
theorem dX8_fetch_204 : decode cX8_fetch 204 = .ok (.invokevirtual 85, 3) := by decide +kernel
theorem dX8_fetch_207 : decode cX8_fetch 207 = .ok (.ifCond .eq 10, 3) := by decide +kernel
theorem dX8_fetch_210 : decode cX8_fetch 210 = .ok (.aload_n 0, 1) := by decide +kernel
theorem dX8_fetch_211 : decode cX8_fetch 211 = .ok (.getfield 201, 3) := by decide +kernel
theorem dX8_fetch_214 : decode cX8_fetch 214 = .ok (.goto 4, 3) := by decide +kernel
theorem dX8_fetch_217 : decode cX8_fetch 217 = .ok (.iconst 1, 1) := by decide +kernel
theorem dX8_fetch_218 : decode cX8_fetch 218 = .ok (.invokevirtual 147, 3) := by decide +kernel
theorem dX8_fetch_221 : decode cX8_fetch 221 = .ok (.iastore, 1) := by decide +kernel
theorem dX8_fetch_222 : decode cX8_fetch 222 = .ok (.iload_n 3, 1) := by decide +kernel
theorem dX8_fetch_223 : decode cX8_fetch 223 = .ok (.ireturn, 1) := by decide +kernel
theorem dX8_walked_0 : decode cX8_walked 0 = .ok (.iload_n 1, 1) := by decide +kernel
theorem dX8_walked_1 : decode cX8_walked 1 = .ok (.iconst 0, 1) := by decide +kernel
theorem dX8_walked_2 : decode cX8_walked 2 = .ok (.aload_n 0, 1) := by decide +kernel
theorem dX8_walked_3 : decode cX8_walked 3 = .ok (.getfield 228, 3) := by decide +kernel
theorem dX8_walked_6 : decode cX8_walked 6 = .ok (.iconst 1, 1) := by decide +kernel
theorem dX8_walked_7 : decode cX8_walked 7 = .ok (.isub, 1) := by decide +kernel
theorem dX8_walked_8 : decode cX8_walked 8 = .ok (.invokestatic 93, 3) := by decide +kernel
theorem dX8_walked_11 : decode cX8_walked 11 = .ok (.ifCond .eq 12, 3) := by decide +kernel
theorem dX8_walked_14 : decode cX8_walked 14 = .ok (.aload_n 0, 1) := by decide +kernel
theorem dX8_walked_15 : decode cX8_walked 15 = .ok (.getfield 30, 3) := by decide +kernel
theorem dX8_walked_18 : decode cX8_walked 18 = .ok (.iload_n 1, 1) := by decide +kernel
theorem dX8_walked_19 : decode cX8_walked 19 = .ok (.iaload, 1) := by decide +kernel
theorem dX8_walked_20 : decode cX8_walked 20 = .ok (.goto 4, 3) := by decide +kernel
theorem dX8_walked_23 : decode cX8_walked 23 = .ok (.iconst (-1), 1) := by decide +kernel
theorem dX8_walked_24 : decode cX8_walked 24 = .ok (.ireturn, 1) := by decide +kernel
theorem dX8_chain_0 : decode cX8_chain 0 = .ok (.aload_n 0, 1) := by decide +kernel
theorem dX8_chain_1 : decode cX8_chain 1 = .ok (.invokevirtual 85, 3) := by decide +kernel
theorem dX8_chain_4 : decode cX8_chain 4 = .ok (.ifCond .eq 5, 3) := by decide +kernel
theorem dX8_chain_7 : decode cX8_chain 7 = .ok (.iconst (-1), 1) := by decide +kernel
theorem dX8_chain_8 : decode cX8_chain 8 = .ok (.ireturn, 1) := by decide +kernel
theorem dX8_chain_9 : decode cX8_chain 9 = .ok (.aload_n 0, 1) := by decide +kernel
theorem dX8_chain_10 : decode cX8_chain 10 = .ok (.iload_n 1, 1) := by decide +kernel
theorem dX8_chain_11 : decode cX8_chain 11 = .ok (.invokevirtual 225, 3) := by decide +kernel
theorem dX8_chain_14 : decode cX8_chain 14 = .ok (.istore_n 2, 1) := by decide +kernel
theorem dX8_chain_15 : decode cX8_chain 15 = .ok (.iload_n 2, 1) := by decide +kernel
theorem dX8_chain_16 : decode cX8_chain 16 = .ok (.ifCond .le 10, 3) := by decide +kernel
theorem dX8_chain_19 : decode cX8_chain 19 = .ok (.bipush (-10), 2) := by decide +kernel
theorem dX8_chain_21 : decode cX8_chain 21 = .ok (.iload_n 2, 1) := by decide +kernel
theorem dX8_chain_22 : decode cX8_chain 22 = .ok (.isub, 1) := by decide +kernel
theorem dX8_chain_23 : decode cX8_chain 23 = .ok (.goto 7, 3) := by decide +kernel
theorem dX8_chain_26 : decode cX8_chain 26 = .ok (.aload_n 0, 1) := by decide +kernel
theorem dX8_chain_27 : decode cX8_chain 27 = .ok (.getfield 195, 3) := by decide +kernel
theorem dX8_chain_30 : decode cX8_chain 30 = .ok (.ireturn, 1) := by decide +kernel
theorem dX8_isFetched_0 : decode cX8_isFetched 0 = .ok (.aload_n 0, 1) := by decide +kernel
theorem dX8_isFetched_1 : decode cX8_isFetched 1 = .ok (.iload_n 1, 1) := by decide +kernel
theorem dX8_isFetched_2 : decode cX8_isFetched 2 = .ok (.invokevirtual 237, 3) := by decide +kernel
theorem dX8_isFetched_5 : decode cX8_isFetched 5 = .ok (.ifCond .eq 21, 3) := by decide +kernel
theorem dX8_isFetched_8 : decode cX8_isFetched 8 = .ok (.aload_n 0, 1) := by decide +kernel
theorem dX8_isFetched_9 : decode cX8_isFetched 9 = .ok (.getfield 13, 3) := by decide +kernel
theorem dX8_isFetched_12 : decode cX8_isFetched 12 = .ok (.iload_n 1, 1) := by decide +kernel
theorem dX8_isFetched_13 : decode cX8_isFetched 13 = .ok (.iconst 0, 1) := by decide +kernel
theorem dX8_isFetched_14 : decode cX8_isFetched 14 = .ok (.invokestatic 97, 3) := by decide +kernel
theorem dX8_isFetched_17 : decode cX8_isFetched 17 = .ok (.iaload, 1) := by decide +kernel
theorem dX8_isFetched_18 : decode cX8_isFetched 18 = .ok (.iconst 1, 1) := by decide +kernel
theorem dX8_isFetched_19 : decode cX8_isFetched 19 = .ok (.if_icmp .ne 7, 3) := by decide +kernel
theorem dX8_isFetched_22 : decode cX8_isFetched 22 = .ok (.iconst 1, 1) := by decide +kernel
theorem dX8_isFetched_23 : decode cX8_isFetched 23 = .ok (.goto 4, 3) := by decide +kernel
theorem dX8_isFetched_26 : decode cX8_isFetched 26 = .ok (.iconst 0, 1) := by decide +kernel
theorem dX8_isFetched_27 : decode cX8_isFetched 27 = .ok (.ireturn, 1) := by decide +kernel
theorem dX8_tells_0 : decode cX8_tells 0 = .ok (.aload_n 0, 1) := by decide +kernel
theorem dX8_tells_1 : decode cX8_tells 1 = .ok (.aload_n 0, 1) := by decide +kernel
theorem dX8_tells_2 : decode cX8_tells 2 = .ok (.getfield 13, 3) := by decide +kernel
theorem dX8_tells_5 : decode cX8_tells 5 = .ok (.iconst 5, 1) := by decide +kernel
theorem dX8_tells_6 : decode cX8_tells 6 = .ok (.iaload, 1) := by decide +kernel
theorem dX8_tells_7 : decode cX8_tells 7 = .ok (.invokevirtual 150, 3) := by decide +kernel
theorem dX8_tells_10 : decode cX8_tells 10 = .ok (.istore_n 3, 1) := by decide +kernel
theorem dX8_tells_11 : decode cX8_tells 11 = .ok (.aload_n 0, 1) := by decide +kernel
theorem dX8_tells_12 : decode cX8_tells 12 = .ok (.invokevirtual 85, 3) := by decide +kernel
theorem dX8_tells_15 : decode cX8_tells 15 = .ok (.ifCond .eq 42, 3) := by decide +kernel
theorem dX8_tells_18 : decode cX8_tells 18 = .ok (.aload_n 0, 1) := by decide +kernel
theorem dX8_tells_19 : decode cX8_tells 19 = .ok (.iconst 0, 1) := by decide +kernel
theorem dX8_tells_20 : decode cX8_tells 20 = .ok (.iload_n 3, 1) := by decide +kernel
theorem dX8_tells_21 : decode cX8_tells 21 = .ok (.iload_n 2, 1) := by decide +kernel
theorem dX8_tells_22 : decode cX8_tells 22 = .ok (.aload_n 0, 1) := by decide +kernel
theorem dX8_tells_23 : decode cX8_tells 23 = .ok (.aload_n 0, 1) := by decide +kernel
theorem dX8_tells_24 : decode cX8_tells 24 = .ok (.getfield 13, 3) := by decide +kernel
theorem dX8_tells_27 : decode cX8_tells 27 = .ok (.iconst 5, 1) := by decide +kernel
theorem dX8_tells_28 : decode cX8_tells 28 = .ok (.iaload, 1) := by decide +kernel
theorem dX8_tells_29 : decode cX8_tells 29 = .ok (.invokevirtual 130, 3) := by decide +kernel
theorem dX8_tells_32 : decode cX8_tells 32 = .ok (.ifCond .eq 8, 3) := by decide +kernel
theorem dX8_tells_35 : decode cX8_tells 35 = .ok (.bipush 24, 2) := by decide +kernel
theorem dX8_tells_37 : decode cX8_tells 37 = .ok (.goto 4, 3) := by decide +kernel
theorem dX8_tells_40 : decode cX8_tells 40 = .ok (.iconst 0, 1) := by decide +kernel
theorem dX8_tells_41 : decode cX8_tells 41 = .ok (.aload_n 0, 1) := by decide +kernel
theorem dX8_tells_42 : decode cX8_tells 42 = .ok (.getfield 13, 3) := by decide +kernel
theorem dX8_tells_45 : decode cX8_tells 45 = .ok (.iload_n 1, 1) := by decide +kernel
theorem dX8_tells_46 : decode cX8_tells 46 = .ok (.iconst 2, 1) := by decide +kernel
theorem dX8_tells_47 : decode cX8_tells 47 = .ok (.invokestatic 97, 3) := by decide +kernel
theorem dX8_tells_50 : decode cX8_tells 50 = .ok (.iaload, 1) := by decide +kernel
theorem dX8_tells_51 : decode cX8_tells 51 = .ok (.invokevirtual 137, 3) := by decide +kernel
theorem dX8_tells_54 : decode cX8_tells 54 = .ok (.goto 34, 3) := by decide +kernel
theorem dX8_tells_57 : decode cX8_tells 57 = .ok (.aload_n 0, 1) := by decide +kernel
theorem dX8_tells_58 : decode cX8_tells 58 = .ok (.getfield 13, 3) := by decide +kernel
theorem dX8_tells_61 : decode cX8_tells 61 = .ok (.sipush 152, 3) := by decide +kernel
theorem dX8_tells_64 : decode cX8_tells 64 = .ok (.iload_n 3, 1) := by decide +kernel
theorem dX8_tells_65 : decode cX8_tells 65 = .ok (.iadd, 1) := by decide +kernel
theorem dX8_tells_66 : decode cX8_tells 66 = .ok (.aload_n 0, 1) := by decide +kernel
theorem dX8_tells_67 : decode cX8_tells 67 = .ok (.getfield 13, 3) := by decide +kernel
theorem dX8_tells_70 : decode cX8_tells 70 = .ok (.iload_n 1, 1) := by decide +kernel
theorem dX8_tells_71 : decode cX8_tells 71 = .ok (.iconst 2, 1) := by decide +kernel
theorem dX8_tells_72 : decode cX8_tells 72 = .ok (.invokestatic 97, 3) := by decide +kernel
theorem dX8_tells_75 : decode cX8_tells 75 = .ok (.iaload, 1) := by decide +kernel
theorem dX8_tells_76 : decode cX8_tells 76 = .ok (.iastore, 1) := by decide +kernel
theorem dX8_tells_77 : decode cX8_tells 77 = .ok (.aload_n 0, 1) := by decide +kernel
theorem dX8_tells_78 : decode cX8_tells 78 = .ok (.getfield 13, 3) := by decide +kernel
theorem dX8_tells_81 : decode cX8_tells 81 = .ok (.sipush 160, 3) := by decide +kernel
theorem dX8_tells_84 : decode cX8_tells 84 = .ok (.iload_n 3, 1) := by decide +kernel
theorem dX8_tells_85 : decode cX8_tells 85 = .ok (.iadd, 1) := by decide +kernel
theorem dX8_tells_86 : decode cX8_tells 86 = .ok (.iload_n 2, 1) := by decide +kernel
theorem dX8_tells_87 : decode cX8_tells 87 = .ok (.iastore, 1) := by decide +kernel
theorem dX8_tells_88 : decode cX8_tells 88 = .ok (.aload_n 0, 1) := by decide +kernel
theorem dX8_tells_89 : decode cX8_tells 89 = .ok (.getfield 13, 3) := by decide +kernel
theorem dX8_tells_92 : decode cX8_tells 92 = .ok (.iload_n 1, 1) := by decide +kernel
theorem dX8_tells_93 : decode cX8_tells 93 = .ok (.bipush 6, 2) := by decide +kernel
theorem dX8_tells_95 : decode cX8_tells 95 = .ok (.invokestatic 97, 3) := by decide +kernel
theorem dX8_tells_98 : decode cX8_tells 98 = .ok (.iload_n 2, 1) := by decide +kernel
theorem dX8_tells_99 : decode cX8_tells 99 = .ok (.iastore, 1) := by decide +kernel
theorem dX8_tells_100 : decode cX8_tells 100 = .ok (.return_, 1) := by decide +kernel
theorem dX8_firstFetched_0 : decode cX8_firstFetched 0 = .ok (.aload_n 0, 1) := by decide +kernel
theorem dX8_firstFetched_1 : decode cX8_firstFetched 1 = .ok (.iconst 1, 1) := by decide +kernel
theorem dX8_firstFetched_2 : decode cX8_firstFetched 2 = .ok (.invokevirtual 240, 3) := by decide +kernel
theorem dX8_firstFetched_5 : decode cX8_firstFetched 5 = .ok (.ireturn, 1) := by decide +kernel
theorem dX8_firstOf_0 : decode cX8_firstOf 0 = .ok (.iconst 0, 1) := by decide +kernel
theorem dX8_firstOf_1 : decode cX8_firstOf 1 = .ok (.istore_n 2, 1) := by decide +kernel
theorem dX8_firstOf_2 : decode cX8_firstOf 2 = .ok (.iload_n 2, 1) := by decide +kernel
theorem dX8_firstOf_3 : decode cX8_firstOf 3 = .ok (.aload_n 0, 1) := by decide +kernel
theorem dX8_firstOf_4 : decode cX8_firstOf 4 = .ok (.getfield 13, 3) := by decide +kernel
theorem dX8_firstOf_7 : decode cX8_firstOf 7 = .ok (.bipush 16, 2) := by decide +kernel
theorem dX8_firstOf_9 : decode cX8_firstOf 9 = .ok (.iaload, 1) := by decide +kernel
theorem dX8_firstOf_10 : decode cX8_firstOf 10 = .ok (.if_icmp .ge 25, 3) := by decide +kernel
theorem dX8_firstOf_13 : decode cX8_firstOf 13 = .ok (.aload_n 0, 1) := by decide +kernel
theorem dX8_firstOf_14 : decode cX8_firstOf 14 = .ok (.getfield 13, 3) := by decide +kernel
theorem dX8_firstOf_17 : decode cX8_firstOf 17 = .ok (.iload_n 2, 1) := by decide +kernel
theorem dX8_firstOf_18 : decode cX8_firstOf 18 = .ok (.iconst 0, 1) := by decide +kernel
theorem dX8_firstOf_19 : decode cX8_firstOf 19 = .ok (.invokestatic 97, 3) := by decide +kernel
theorem dX8_firstOf_22 : decode cX8_firstOf 22 = .ok (.iaload, 1) := by decide +kernel
theorem dX8_firstOf_23 : decode cX8_firstOf 23 = .ok (.iload_n 1, 1) := by decide +kernel
theorem dX8_firstOf_24 : decode cX8_firstOf 24 = .ok (.if_icmp .ne 5, 3) := by decide +kernel
theorem dX8_firstOf_27 : decode cX8_firstOf 27 = .ok (.iload_n 2, 1) := by decide +kernel
theorem dX8_firstOf_28 : decode cX8_firstOf 28 = .ok (.ireturn, 1) := by decide +kernel
theorem dX8_firstOf_29 : decode cX8_firstOf 29 = .ok (.iinc 2 1, 3) := by decide +kernel
theorem dX8_firstOf_32 : decode cX8_firstOf 32 = .ok (.goto (-30), 3) := by decide +kernel
theorem dX8_firstOf_35 : decode cX8_firstOf 35 = .ok (.iconst (-1), 1) := by decide +kernel
theorem dX8_firstOf_36 : decode cX8_firstOf 36 = .ok (.ireturn, 1) := by decide +kernel
theorem dX8_finish_0 : decode cX8_finish 0 = .ok (.aload_n 0, 1) := by decide +kernel
theorem dX8_finish_1 : decode cX8_finish 1 = .ok (.iload_n 1, 1) := by decide +kernel
theorem dX8_finish_2 : decode cX8_finish 2 = .ok (.invokevirtual 243, 3) := by decide +kernel
theorem dX8_finish_5 : decode cX8_finish 5 = .ok (.ifCond .ne 5, 3) := by decide +kernel
theorem dX8_finish_8 : decode cX8_finish 8 = .ok (.iconst (-1), 1) := by decide +kernel
theorem dX8_finish_9 : decode cX8_finish 9 = .ok (.ireturn, 1) := by decide +kernel
theorem dX8_finish_10 : decode cX8_finish 10 = .ok (.iload_n 2, 1) := by decide +kernel
theorem dX8_finish_11 : decode cX8_finish 11 = .ok (.iconst 0, 1) := by decide +kernel
theorem dX8_finish_12 : decode cX8_finish 12 = .ok (.aload_n 0, 1) := by decide +kernel
theorem dX8_finish_13 : decode cX8_finish 13 = .ok (.getfield 13, 3) := by decide +kernel
theorem dX8_finish_16 : decode cX8_finish 16 = .ok (.iload_n 1, 1) := by decide +kernel
theorem dX8_finish_17 : decode cX8_finish 17 = .ok (.iconst 4, 1) := by decide +kernel
theorem dX8_finish_18 : decode cX8_finish 18 = .ok (.invokestatic 97, 3) := by decide +kernel
theorem dX8_finish_21 : decode cX8_finish 21 = .ok (.iaload, 1) := by decide +kernel
theorem dX8_finish_22 : decode cX8_finish 22 = .ok (.invokestatic 93, 3) := by decide +kernel
theorem dX8_finish_25 : decode cX8_finish 25 = .ok (.ifCond .ne 6, 3) := by decide +kernel
theorem dX8_finish_28 : decode cX8_finish 28 = .ok (.bipush (-2), 2) := by decide +kernel
theorem dX8_finish_30 : decode cX8_finish 30 = .ok (.ireturn, 1) := by decide +kernel
theorem dX8_finish_31 : decode cX8_finish 31 = .ok (.aload_n 0, 1) := by decide +kernel
theorem dX8_finish_32 : decode cX8_finish 32 = .ok (.iconst 0, 1) := by decide +kernel
theorem dX8_finish_33 : decode cX8_finish 33 = .ok (.invokevirtual 159, 3) := by decide +kernel
theorem dX8_finish_36 : decode cX8_finish 36 = .ok (.ifCond .eq 14, 3) := by decide +kernel
theorem dX8_finish_39 : decode cX8_finish 39 = .ok (.aload_n 0, 1) := by decide +kernel
theorem dX8_finish_40 : decode cX8_finish 40 = .ok (.invokevirtual 246, 3) := by decide +kernel
theorem dX8_finish_43 : decode cX8_finish 43 = .ok (.iload_n 1, 1) := by decide +kernel
theorem dX8_finish_44 : decode cX8_finish 44 = .ok (.if_icmp .eq 6, 3) := by decide +kernel
theorem dX8_finish_47 : decode cX8_finish 47 = .ok (.bipush (-3), 2) := by decide +kernel
theorem dX8_finish_49 : decode cX8_finish 49 = .ok (.ireturn, 1) := by decide +kernel
theorem dX8_finish_50 : decode cX8_finish 50 = .ok (.aload_n 0, 1) := by decide +kernel
theorem dX8_finish_51 : decode cX8_finish 51 = .ok (.getfield 13, 3) := by decide +kernel
theorem dX8_finish_54 : decode cX8_finish 54 = .ok (.bipush 13, 2) := by decide +kernel
theorem dX8_finish_56 : decode cX8_finish 56 = .ok (.iaload, 1) := by decide +kernel
theorem dX8_finish_57 : decode cX8_finish 57 = .ok (.ifCond .le 6, 3) := by decide +kernel
theorem dX8_finish_60 : decode cX8_finish 60 = .ok (.bipush (-4), 2) := by decide +kernel
theorem dX8_finish_62 : decode cX8_finish 62 = .ok (.ireturn, 1) := by decide +kernel
theorem dX8_finish_63 : decode cX8_finish 63 = .ok (.aload_n 0, 1) := by decide +kernel
theorem dX8_finish_64 : decode cX8_finish 64 = .ok (.iload_n 1, 1) := by decide +kernel
theorem dX8_finish_65 : decode cX8_finish 65 = .ok (.iload_n 2, 1) := by decide +kernel
theorem dX8_finish_66 : decode cX8_finish 66 = .ok (.invokevirtual 249, 3) := by decide +kernel
theorem dX8_finish_69 : decode cX8_finish 69 = .ok (.aload_n 0, 1) := by decide +kernel
theorem dX8_finish_70 : decode cX8_finish 70 = .ok (.getfield 13, 3) := by decide +kernel
theorem dX8_finish_73 : decode cX8_finish 73 = .ok (.iload_n 1, 1) := by decide +kernel
theorem dX8_finish_74 : decode cX8_finish 74 = .ok (.iconst 0, 1) := by decide +kernel
theorem dX8_finish_75 : decode cX8_finish 75 = .ok (.invokestatic 97, 3) := by decide +kernel
theorem dX8_finish_78 : decode cX8_finish 78 = .ok (.iconst 2, 1) := by decide +kernel
theorem dX8_finish_79 : decode cX8_finish 79 = .ok (.iastore, 1) := by decide +kernel
theorem dX8_finish_80 : decode cX8_finish 80 = .ok (.aload_n 0, 1) := by decide +kernel
theorem dX8_finish_81 : decode cX8_finish 81 = .ok (.getfield 13, 3) := by decide +kernel
theorem dX8_finish_84 : decode cX8_finish 84 = .ok (.iconst 5, 1) := by decide +kernel
theorem dX8_finish_85 : decode cX8_finish 85 = .ok (.aload_n 0, 1) := by decide +kernel
theorem dX8_finish_86 : decode cX8_finish 86 = .ok (.aload_n 0, 1) := by decide +kernel
theorem dX8_finish_87 : decode cX8_finish 87 = .ok (.getfield 13, 3) := by decide +kernel
theorem dX8_finish_90 : decode cX8_finish 90 = .ok (.iconst 5, 1) := by decide +kernel
theorem dX8_finish_91 : decode cX8_finish 91 = .ok (.iaload, 1) := by decide +kernel
theorem dX8_finish_92 : decode cX8_finish 92 = .ok (.aload_n 0, 1) := by decide +kernel
theorem dX8_finish_93 : decode cX8_finish 93 = .ok (.iload_n 1, 1) := by decide +kernel
theorem dX8_finish_94 : decode cX8_finish 94 = .ok (.invokevirtual 156, 3) := by decide +kernel
theorem dX8_finish_97 : decode cX8_finish 97 = .ok (.invokevirtual 147, 3) := by decide +kernel
theorem dX8_finish_100 : decode cX8_finish 100 = .ok (.iastore, 1) := by decide +kernel
theorem dX8_finish_101 : decode cX8_finish 101 = .ok (.iconst 0, 1) := by decide +kernel
theorem dX8_finish_102 : decode cX8_finish 102 = .ok (.ireturn, 1) := by decide +kernel
theorem dX8_batch_0 : decode cX8_batch 0 = .ok (.aload_n 0, 1) := by decide +kernel
theorem dX8_batch_1 : decode cX8_batch 1 = .ok (.iload_n 1, 1) := by decide +kernel
theorem dX8_batch_2 : decode cX8_batch 2 = .ok (.invokevirtual 243, 3) := by decide +kernel
theorem dX8_batch_5 : decode cX8_batch 5 = .ok (.ifCond .ne 5, 3) := by decide +kernel
theorem dX8_batch_8 : decode cX8_batch 8 = .ok (.iconst (-1), 1) := by decide +kernel
theorem dX8_batch_9 : decode cX8_batch 9 = .ok (.ireturn, 1) := by decide +kernel
theorem dX8_batch_10 : decode cX8_batch 10 = .ok (.iload_n 2, 1) := by decide +kernel
theorem dX8_batch_11 : decode cX8_batch 11 = .ok (.iconst 0, 1) := by decide +kernel
theorem dX8_batch_12 : decode cX8_batch 12 = .ok (.aload_n 0, 1) := by decide +kernel
theorem dX8_batch_13 : decode cX8_batch 13 = .ok (.getfield 13, 3) := by decide +kernel
theorem dX8_batch_16 : decode cX8_batch 16 = .ok (.iload_n 1, 1) := by decide +kernel
theorem dX8_batch_17 : decode cX8_batch 17 = .ok (.iconst 4, 1) := by decide +kernel
theorem dX8_batch_18 : decode cX8_batch 18 = .ok (.invokestatic 97, 3) := by decide +kernel
theorem dX8_batch_21 : decode cX8_batch 21 = .ok (.iaload, 1) := by decide +kernel
theorem dX8_batch_22 : decode cX8_batch 22 = .ok (.invokestatic 93, 3) := by decide +kernel
theorem dX8_batch_25 : decode cX8_batch 25 = .ok (.ifCond .ne 6, 3) := by decide +kernel
theorem dX8_batch_28 : decode cX8_batch 28 = .ok (.bipush (-2), 2) := by decide +kernel
theorem dX8_batch_30 : decode cX8_batch 30 = .ok (.ireturn, 1) := by decide +kernel
theorem dX8_batch_31 : decode cX8_batch 31 = .ok (.aload_n 0, 1) := by decide +kernel
theorem dX8_batch_32 : decode cX8_batch 32 = .ok (.iconst 0, 1) := by decide +kernel
theorem dX8_batch_33 : decode cX8_batch 33 = .ok (.invokevirtual 159, 3) := by decide +kernel
theorem dX8_batch_36 : decode cX8_batch 36 = .ok (.ifCond .ne 6, 3) := by decide +kernel
theorem dX8_batch_39 : decode cX8_batch 39 = .ok (.bipush (-3), 2) := by decide +kernel
theorem dX8_batch_41 : decode cX8_batch 41 = .ok (.ireturn, 1) := by decide +kernel
theorem dX8_batch_42 : decode cX8_batch 42 = .ok (.aload_n 0, 1) := by decide +kernel
theorem dX8_batch_43 : decode cX8_batch 43 = .ok (.getfield 13, 3) := by decide +kernel
theorem dX8_batch_46 : decode cX8_batch 46 = .ok (.bipush 13, 2) := by decide +kernel
theorem dX8_batch_48 : decode cX8_batch 48 = .ok (.iaload, 1) := by decide +kernel
theorem dX8_batch_49 : decode cX8_batch 49 = .ok (.ifCond .le 6, 3) := by decide +kernel
theorem dX8_batch_52 : decode cX8_batch 52 = .ok (.bipush (-4), 2) := by decide +kernel
theorem dX8_batch_54 : decode cX8_batch 54 = .ok (.ireturn, 1) := by decide +kernel
theorem dX8_batch_55 : decode cX8_batch 55 = .ok (.aload_n 0, 1) := by decide +kernel
theorem dX8_batch_56 : decode cX8_batch 56 = .ok (.iload_n 1, 1) := by decide +kernel
theorem dX8_batch_57 : decode cX8_batch 57 = .ok (.iload_n 2, 1) := by decide +kernel
theorem dX8_batch_58 : decode cX8_batch 58 = .ok (.invokevirtual 249, 3) := by decide +kernel
theorem dX8_batch_61 : decode cX8_batch 61 = .ok (.iconst 0, 1) := by decide +kernel
theorem dX8_batch_62 : decode cX8_batch 62 = .ok (.istore_n 3, 1) := by decide +kernel
theorem dX8_batch_63 : decode cX8_batch 63 = .ok (.iconst 0, 1) := by decide +kernel
theorem dX8_batch_64 : decode cX8_batch 64 = .ok (.istore 4, 2) := by decide +kernel
theorem dX8_batch_66 : decode cX8_batch 66 = .ok (.iload 4, 2) := by decide +kernel
theorem dX8_batch_68 : decode cX8_batch 68 = .ok (.iload_n 1, 1) := by decide +kernel
theorem dX8_batch_69 : decode cX8_batch 69 = .ok (.if_icmp .gt 64, 3) := by decide +kernel
theorem dX8_batch_72 : decode cX8_batch 72 = .ok (.aload_n 0, 1) := by decide +kernel
theorem dX8_batch_73 : decode cX8_batch 73 = .ok (.getfield 13, 3) := by decide +kernel
theorem dX8_batch_76 : decode cX8_batch 76 = .ok (.iload 4, 2) := by decide +kernel
theorem dX8_batch_78 : decode cX8_batch 78 = .ok (.iconst 0, 1) := by decide +kernel
theorem dX8_batch_79 : decode cX8_batch 79 = .ok (.invokestatic 97, 3) := by decide +kernel
theorem dX8_batch_82 : decode cX8_batch 82 = .ok (.iaload, 1) := by decide +kernel
theorem dX8_batch_83 : decode cX8_batch 83 = .ok (.iconst 1, 1) := by decide +kernel
theorem dX8_batch_84 : decode cX8_batch 84 = .ok (.if_icmp .eq 6, 3) := by decide +kernel
theorem dX8_batch_87 : decode cX8_batch 87 = .ok (.goto 40, 3) := by decide +kernel
theorem dX8_batch_90 : decode cX8_batch 90 = .ok (.aload_n 0, 1) := by decide +kernel
theorem dX8_batch_91 : decode cX8_batch 91 = .ok (.getfield 13, 3) := by decide +kernel
theorem dX8_batch_94 : decode cX8_batch 94 = .ok (.iload 4, 2) := by decide +kernel
theorem dX8_batch_96 : decode cX8_batch 96 = .ok (.iconst 0, 1) := by decide +kernel
theorem dX8_batch_97 : decode cX8_batch 97 = .ok (.invokestatic 97, 3) := by decide +kernel
theorem dX8_batch_100 : decode cX8_batch 100 = .ok (.iconst 2, 1) := by decide +kernel
theorem dX8_batch_101 : decode cX8_batch 101 = .ok (.iastore, 1) := by decide +kernel
theorem dX8_batch_102 : decode cX8_batch 102 = .ok (.aload_n 0, 1) := by decide +kernel
theorem dX8_batch_103 : decode cX8_batch 103 = .ok (.getfield 13, 3) := by decide +kernel
theorem dX8_batch_106 : decode cX8_batch 106 = .ok (.iconst 5, 1) := by decide +kernel
theorem dX8_batch_107 : decode cX8_batch 107 = .ok (.aload_n 0, 1) := by decide +kernel
theorem dX8_batch_108 : decode cX8_batch 108 = .ok (.aload_n 0, 1) := by decide +kernel
theorem dX8_batch_109 : decode cX8_batch 109 = .ok (.getfield 13, 3) := by decide +kernel
theorem dX8_batch_112 : decode cX8_batch 112 = .ok (.iconst 5, 1) := by decide +kernel
theorem dX8_batch_113 : decode cX8_batch 113 = .ok (.iaload, 1) := by decide +kernel
theorem dX8_batch_114 : decode cX8_batch 114 = .ok (.aload_n 0, 1) := by decide +kernel
theorem dX8_batch_115 : decode cX8_batch 115 = .ok (.iload 4, 2) := by decide +kernel
theorem dX8_batch_117 : decode cX8_batch 117 = .ok (.invokevirtual 156, 3) := by decide +kernel
theorem dX8_batch_120 : decode cX8_batch 120 = .ok (.invokevirtual 147, 3) := by decide +kernel
theorem dX8_batch_123 : decode cX8_batch 123 = .ok (.iastore, 1) := by decide +kernel
theorem dX8_batch_124 : decode cX8_batch 124 = .ok (.iinc 3 1, 3) := by decide +kernel
theorem dX8_batch_127 : decode cX8_batch 127 = .ok (.iinc 4 1, 3) := by decide +kernel
theorem dX8_batch_130 : decode cX8_batch 130 = .ok (.goto (-64), 3) := by decide +kernel
theorem dX8_batch_133 : decode cX8_batch 133 = .ok (.iload_n 3, 1) := by decide +kernel
theorem dX8_batch_134 : decode cX8_batch 134 = .ok (.ireturn, 1) := by decide +kernel
theorem dX8_reaps_0 : decode cX8_reaps 0 = .ok (.aload_n 0, 1) := by decide +kernel
theorem dX8_reaps_1 : decode cX8_reaps 1 = .ok (.getfield 13, 3) := by decide +kernel
theorem dX8_reaps_4 : decode cX8_reaps 4 = .ok (.iload_n 1, 1) := by decide +kernel
theorem dX8_reaps_5 : decode cX8_reaps 5 = .ok (.iconst 0, 1) := by decide +kernel
theorem dX8_reaps_6 : decode cX8_reaps 6 = .ok (.invokestatic 97, 3) := by decide +kernel
theorem dX8_reaps_9 : decode cX8_reaps 9 = .ok (.iconst 3, 1) := by decide +kernel
theorem dX8_reaps_10 : decode cX8_reaps 10 = .ok (.iastore, 1) := by decide +kernel
theorem dX8_reaps_11 : decode cX8_reaps 11 = .ok (.aload_n 0, 1) := by decide +kernel
theorem dX8_reaps_12 : decode cX8_reaps 12 = .ok (.getfield 13, 3) := by decide +kernel
theorem dX8_reaps_15 : decode cX8_reaps 15 = .ok (.bipush 6, 2) := by decide +kernel
theorem dX8_reaps_17 : decode cX8_reaps 17 = .ok (.aload_n 0, 1) := by decide +kernel
theorem dX8_reaps_18 : decode cX8_reaps 18 = .ok (.aload_n 0, 1) := by decide +kernel
theorem dX8_reaps_19 : decode cX8_reaps 19 = .ok (.getfield 13, 3) := by decide +kernel
theorem dX8_reaps_22 : decode cX8_reaps 22 = .ok (.bipush 6, 2) := by decide +kernel
theorem dX8_reaps_24 : decode cX8_reaps 24 = .ok (.iaload, 1) := by decide +kernel
theorem dX8_reaps_25 : decode cX8_reaps 25 = .ok (.aload_n 0, 1) := by decide +kernel
theorem dX8_reaps_26 : decode cX8_reaps 26 = .ok (.iload_n 1, 1) := by decide +kernel
theorem dX8_reaps_27 : decode cX8_reaps 27 = .ok (.invokevirtual 156, 3) := by decide +kernel
theorem dX8_reaps_30 : decode cX8_reaps 30 = .ok (.invokevirtual 147, 3) := by decide +kernel
theorem dX8_reaps_33 : decode cX8_reaps 33 = .ok (.iastore, 1) := by decide +kernel
theorem dX8_reaps_34 : decode cX8_reaps 34 = .ok (.aload_n 0, 1) := by decide +kernel
theorem dX8_reaps_35 : decode cX8_reaps 35 = .ok (.iload_n 2, 1) := by decide +kernel
theorem dX8_reaps_36 : decode cX8_reaps 36 = .ok (.putfield 33, 3) := by decide +kernel
theorem dX8_reaps_39 : decode cX8_reaps 39 = .ok (.return_, 1) := by decide +kernel
theorem dX8_looks_0 : decode cX8_looks 0 = .ok (.aload_n 0, 1) := by decide +kernel
theorem dX8_looks_1 : decode cX8_looks 1 = .ok (.aload_n 0, 1) := by decide +kernel
theorem dX8_looks_2 : decode cX8_looks 2 = .ok (.getfield 13, 3) := by decide +kernel
theorem dX8_looks_5 : decode cX8_looks 5 = .ok (.bipush 6, 2) := by decide +kernel
theorem dX8_looks_7 : decode cX8_looks 7 = .ok (.iaload, 1) := by decide +kernel
theorem dX8_looks_8 : decode cX8_looks 8 = .ok (.invokevirtual 150, 3) := by decide +kernel
theorem dX8_looks_11 : decode cX8_looks 11 = .ok (.istore_n 1, 1) := by decide +kernel
theorem dX8_looks_12 : decode cX8_looks 12 = .ok (.aload_n 0, 1) := by decide +kernel
theorem dX8_looks_13 : decode cX8_looks 13 = .ok (.invokevirtual 85, 3) := by decide +kernel
theorem dX8_looks_16 : decode cX8_looks 16 = .ok (.ifCond .eq 75, 3) := by decide +kernel
theorem dX8_looks_19 : decode cX8_looks 19 = .ok (.aload_n 0, 1) := by decide +kernel
theorem dX8_looks_20 : decode cX8_looks 20 = .ok (.getfield 13, 3) := by decide +kernel
theorem dX8_looks_23 : decode cX8_looks 23 = .ok (.iconst 0, 1) := by decide +kernel
theorem dX8_looks_24 : decode cX8_looks 24 = .ok (.iload_n 1, 1) := by decide +kernel
theorem dX8_looks_25 : decode cX8_looks 25 = .ok (.iconst 1, 1) := by decide +kernel
theorem dX8_looks_26 : decode cX8_looks 26 = .ok (.invokestatic 126, 3) := by decide +kernel
theorem dX8_looks_29 : decode cX8_looks 29 = .ok (.iaload, 1) := by decide +kernel
theorem dX8_looks_30 : decode cX8_looks 30 = .ok (.bipush 24, 2) := by decide +kernel
theorem dX8_looks_32 : decode cX8_looks 32 = .ok (.iand, 1) := by decide +kernel
theorem dX8_looks_33 : decode cX8_looks 33 = .ok (.aload_n 0, 1) := by decide +kernel
theorem dX8_looks_34 : decode cX8_looks 34 = .ok (.aload_n 0, 1) := by decide +kernel
theorem dX8_looks_35 : decode cX8_looks 35 = .ok (.getfield 13, 3) := by decide +kernel
theorem dX8_looks_38 : decode cX8_looks 38 = .ok (.bipush 6, 2) := by decide +kernel
theorem dX8_looks_40 : decode cX8_looks 40 = .ok (.iaload, 1) := by decide +kernel
theorem dX8_looks_41 : decode cX8_looks 41 = .ok (.invokevirtual 130, 3) := by decide +kernel
theorem dX8_looks_44 : decode cX8_looks 44 = .ok (.ifCond .eq 8, 3) := by decide +kernel
theorem dX8_looks_47 : decode cX8_looks 47 = .ok (.bipush 24, 2) := by decide +kernel
theorem dX8_looks_49 : decode cX8_looks 49 = .ok (.goto 4, 3) := by decide +kernel
theorem dX8_looks_52 : decode cX8_looks 52 = .ok (.iconst 0, 1) := by decide +kernel
theorem dX8_looks_53 : decode cX8_looks 53 = .ok (.if_icmp .eq 5, 3) := by decide +kernel
theorem dX8_looks_56 : decode cX8_looks 56 = .ok (.iconst (-1), 1) := by decide +kernel
theorem dX8_looks_57 : decode cX8_looks 57 = .ok (.ireturn, 1) := by decide +kernel
theorem dX8_looks_58 : decode cX8_looks 58 = .ok (.aload_n 0, 1) := by decide +kernel
theorem dX8_looks_59 : decode cX8_looks 59 = .ok (.getfield 13, 3) := by decide +kernel
theorem dX8_looks_62 : decode cX8_looks 62 = .ok (.iconst 0, 1) := by decide +kernel
theorem dX8_looks_63 : decode cX8_looks 63 = .ok (.iload_n 1, 1) := by decide +kernel
theorem dX8_looks_64 : decode cX8_looks 64 = .ok (.iconst 2, 1) := by decide +kernel
theorem dX8_looks_65 : decode cX8_looks 65 = .ok (.invokestatic 126, 3) := by decide +kernel
theorem dX8_looks_68 : decode cX8_looks 68 = .ok (.iaload, 1) := by decide +kernel
theorem dX8_looks_69 : decode cX8_looks 69 = .ok (.istore_n 2, 1) := by decide +kernel
theorem dX8_looks_70 : decode cX8_looks 70 = .ok (.aload_n 0, 1) := by decide +kernel
theorem dX8_looks_71 : decode cX8_looks 71 = .ok (.getfield 13, 3) := by decide +kernel
theorem dX8_looks_74 : decode cX8_looks 74 = .ok (.bipush 18, 2) := by decide +kernel
theorem dX8_looks_76 : decode cX8_looks 76 = .ok (.aload_n 0, 1) := by decide +kernel
theorem dX8_looks_77 : decode cX8_looks 77 = .ok (.getfield 13, 3) := by decide +kernel
theorem dX8_looks_80 : decode cX8_looks 80 = .ok (.iconst 0, 1) := by decide +kernel
theorem dX8_looks_81 : decode cX8_looks 81 = .ok (.iload_n 1, 1) := by decide +kernel
theorem dX8_looks_82 : decode cX8_looks 82 = .ok (.iconst 0, 1) := by decide +kernel
theorem dX8_looks_83 : decode cX8_looks 83 = .ok (.invokestatic 126, 3) := by decide +kernel
theorem dX8_looks_86 : decode cX8_looks 86 = .ok (.iaload, 1) := by decide +kernel
theorem dX8_looks_87 : decode cX8_looks 87 = .ok (.iastore, 1) := by decide +kernel
theorem dX8_looks_88 : decode cX8_looks 88 = .ok (.goto 49, 3) := by decide +kernel
theorem dX8_looks_91 : decode cX8_looks 91 = .ok (.aload_n 0, 1) := by decide +kernel
theorem dX8_looks_92 : decode cX8_looks 92 = .ok (.getfield 13, 3) := by decide +kernel
theorem dX8_looks_95 : decode cX8_looks 95 = .ok (.bipush 6, 2) := by decide +kernel
theorem dX8_looks_97 : decode cX8_looks 97 = .ok (.iaload, 1) := by decide +kernel
theorem dX8_looks_98 : decode cX8_looks 98 = .ok (.aload_n 0, 1) := by decide +kernel
theorem dX8_looks_99 : decode cX8_looks 99 = .ok (.getfield 13, 3) := by decide +kernel
theorem dX8_looks_102 : decode cX8_looks 102 = .ok (.iconst 5, 1) := by decide +kernel
theorem dX8_looks_103 : decode cX8_looks 103 = .ok (.iaload, 1) := by decide +kernel
theorem dX8_looks_104 : decode cX8_looks 104 = .ok (.if_icmp .ne 5, 3) := by decide +kernel
theorem dX8_looks_107 : decode cX8_looks 107 = .ok (.iconst (-1), 1) := by decide +kernel
theorem dX8_looks_108 : decode cX8_looks 108 = .ok (.ireturn, 1) := by decide +kernel
theorem dX8_looks_109 : decode cX8_looks 109 = .ok (.aload_n 0, 1) := by decide +kernel
theorem dX8_looks_110 : decode cX8_looks 110 = .ok (.getfield 13, 3) := by decide +kernel
theorem dX8_looks_113 : decode cX8_looks 113 = .ok (.sipush 152, 3) := by decide +kernel
theorem dX8_looks_116 : decode cX8_looks 116 = .ok (.iload_n 1, 1) := by decide +kernel
theorem dX8_looks_117 : decode cX8_looks 117 = .ok (.iadd, 1) := by decide +kernel
theorem dX8_looks_118 : decode cX8_looks 118 = .ok (.iaload, 1) := by decide +kernel
theorem dX8_looks_119 : decode cX8_looks 119 = .ok (.istore_n 2, 1) := by decide +kernel
theorem dX8_looks_120 : decode cX8_looks 120 = .ok (.aload_n 0, 1) := by decide +kernel
theorem dX8_looks_121 : decode cX8_looks 121 = .ok (.getfield 13, 3) := by decide +kernel
theorem dX8_looks_124 : decode cX8_looks 124 = .ok (.bipush 18, 2) := by decide +kernel
theorem dX8_looks_126 : decode cX8_looks 126 = .ok (.aload_n 0, 1) := by decide +kernel
theorem dX8_looks_127 : decode cX8_looks 127 = .ok (.getfield 13, 3) := by decide +kernel
theorem dX8_looks_130 : decode cX8_looks 130 = .ok (.sipush 160, 3) := by decide +kernel
theorem dX8_looks_133 : decode cX8_looks 133 = .ok (.iload_n 1, 1) := by decide +kernel
theorem dX8_looks_134 : decode cX8_looks 134 = .ok (.iadd, 1) := by decide +kernel
theorem dX8_looks_135 : decode cX8_looks 135 = .ok (.iaload, 1) := by decide +kernel
theorem dX8_looks_136 : decode cX8_looks 136 = .ok (.iastore, 1) := by decide +kernel
theorem dX8_looks_137 : decode cX8_looks 137 = .ok (.aload_n 0, 1) := by decide +kernel
theorem dX8_looks_138 : decode cX8_looks 138 = .ok (.iconst 2, 1) := by decide +kernel
theorem dX8_looks_139 : decode cX8_looks 139 = .ok (.iload_n 2, 1) := by decide +kernel
theorem dX8_looks_140 : decode cX8_looks 140 = .ok (.invokevirtual 234, 3) := by decide +kernel
theorem dX8_looks_143 : decode cX8_looks 143 = .ok (.istore_n 3, 1) := by decide +kernel
theorem dX8_looks_144 : decode cX8_looks 144 = .ok (.iload_n 3, 1) := by decide +kernel
theorem dX8_looks_145 : decode cX8_looks 145 = .ok (.ifCond .ge 8, 3) := by decide +kernel
theorem dX8_looks_148 : decode cX8_looks 148 = .ok (.bipush (-2), 2) := by decide +kernel
theorem dX8_looks_150 : decode cX8_looks 150 = .ok (.goto 4, 3) := by decide +kernel
theorem dX8_looks_153 : decode cX8_looks 153 = .ok (.iload_n 3, 1) := by decide +kernel
theorem dX8_looks_154 : decode cX8_looks 154 = .ok (.ireturn, 1) := by decide +kernel
theorem dX8_reap_0 : decode cX8_reap 0 = .ok (.aload_n 0, 1) := by decide +kernel
theorem dX8_reap_1 : decode cX8_reap 1 = .ok (.getfield 13, 3) := by decide +kernel
theorem dX8_reap_4 : decode cX8_reap 4 = .ok (.bipush 17, 2) := by decide +kernel
theorem dX8_reap_6 : decode cX8_reap 6 = .ok (.iaload, 1) := by decide +kernel
theorem dX8_reap_7 : decode cX8_reap 7 = .ok (.istore_n 1, 1) := by decide +kernel
theorem dX8_reap_8 : decode cX8_reap 8 = .ok (.iload_n 1, 1) := by decide +kernel
theorem dX8_reap_9 : decode cX8_reap 9 = .ok (.ifCond .ge 44, 3) := by decide +kernel
theorem dX8_reap_12 : decode cX8_reap 12 = .ok (.aload_n 0, 1) := by decide +kernel
theorem dX8_reap_13 : decode cX8_reap 13 = .ok (.invokevirtual 253, 3) := by decide +kernel
theorem dX8_reap_16 : decode cX8_reap 16 = .ok (.istore_n 1, 1) := by decide +kernel
theorem dX8_reap_17 : decode cX8_reap 17 = .ok (.iload_n 1, 1) := by decide +kernel
theorem dX8_reap_18 : decode cX8_reap 18 = .ok (.ifCond .ge 5, 3) := by decide +kernel
theorem dX8_reap_21 : decode cX8_reap 21 = .ok (.iload_n 1, 1) := by decide +kernel
theorem dX8_reap_22 : decode cX8_reap 22 = .ok (.ireturn, 1) := by decide +kernel
theorem dX8_reap_23 : decode cX8_reap 23 = .ok (.aload_n 0, 1) := by decide +kernel
theorem dX8_reap_24 : decode cX8_reap 24 = .ok (.iconst 0, 1) := by decide +kernel
theorem dX8_reap_25 : decode cX8_reap 25 = .ok (.invokevirtual 159, 3) := by decide +kernel
theorem dX8_reap_28 : decode cX8_reap 28 = .ok (.ifCond .ne 17, 3) := by decide +kernel
theorem dX8_reap_31 : decode cX8_reap 31 = .ok (.aload_n 0, 1) := by decide +kernel
theorem dX8_reap_32 : decode cX8_reap 32 = .ok (.iload_n 1, 1) := by decide +kernel
theorem dX8_reap_33 : decode cX8_reap 33 = .ok (.aload_n 0, 1) := by decide +kernel
theorem dX8_reap_34 : decode cX8_reap 34 = .ok (.getfield 13, 3) := by decide +kernel
theorem dX8_reap_37 : decode cX8_reap 37 = .ok (.bipush 18, 2) := by decide +kernel
theorem dX8_reap_39 : decode cX8_reap 39 = .ok (.iaload, 1) := by decide +kernel
theorem dX8_reap_40 : decode cX8_reap 40 = .ok (.invokevirtual 256, 3) := by decide +kernel
theorem dX8_reap_43 : decode cX8_reap 43 = .ok (.iload_n 1, 1) := by decide +kernel
theorem dX8_reap_44 : decode cX8_reap 44 = .ok (.ireturn, 1) := by decide +kernel
theorem dX8_reap_45 : decode cX8_reap 45 = .ok (.aload_n 0, 1) := by decide +kernel
theorem dX8_reap_46 : decode cX8_reap 46 = .ok (.getfield 13, 3) := by decide +kernel
theorem dX8_reap_49 : decode cX8_reap 49 = .ok (.bipush 17, 2) := by decide +kernel
theorem dX8_reap_51 : decode cX8_reap 51 = .ok (.iload_n 1, 1) := by decide +kernel
theorem dX8_reap_52 : decode cX8_reap 52 = .ok (.iastore, 1) := by decide +kernel
theorem dX8_reap_53 : decode cX8_reap 53 = .ok (.iconst 0, 1) := by decide +kernel
theorem dX8_reap_54 : decode cX8_reap 54 = .ok (.istore_n 2, 1) := by decide +kernel
theorem dX8_reap_55 : decode cX8_reap 55 = .ok (.aload_n 0, 1) := by decide +kernel
theorem dX8_reap_56 : decode cX8_reap 56 = .ok (.iload_n 2, 1) := by decide +kernel
theorem dX8_reap_57 : decode cX8_reap 57 = .ok (.invokevirtual 101, 3) := by decide +kernel
theorem dX8_reap_60 : decode cX8_reap 60 = .ok (.ifCond .ne 9, 3) := by decide +kernel
theorem dX8_reap_63 : decode cX8_reap 63 = .ok (.iinc 2 1, 3) := by decide +kernel
theorem dX8_reap_66 : decode cX8_reap 66 = .ok (.goto (-11), 3) := by decide +kernel
theorem dX8_reap_69 : decode cX8_reap 69 = .ok (.aload_n 0, 1) := by decide +kernel
theorem dX8_reap_70 : decode cX8_reap 70 = .ok (.iload_n 2, 1) := by decide +kernel
theorem dX8_reap_71 : decode cX8_reap 71 = .ok (.iload_n 2, 1) := by decide +kernel
theorem dX8_reap_72 : decode cX8_reap 72 = .ok (.iload_n 1, 1) := by decide +kernel
theorem dX8_reap_73 : decode cX8_reap 73 = .ok (.if_icmp .ne 13, 3) := by decide +kernel
theorem dX8_reap_76 : decode cX8_reap 76 = .ok (.aload_n 0, 1) := by decide +kernel
theorem dX8_reap_77 : decode cX8_reap 77 = .ok (.getfield 13, 3) := by decide +kernel
theorem dX8_reap_80 : decode cX8_reap 80 = .ok (.bipush 18, 2) := by decide +kernel
theorem dX8_reap_82 : decode cX8_reap 82 = .ok (.iaload, 1) := by decide +kernel
theorem dX8_reap_83 : decode cX8_reap 83 = .ok (.goto 4, 3) := by decide +kernel
theorem dX8_reap_86 : decode cX8_reap 86 = .ok (.iconst (-1), 1) := by decide +kernel
theorem dX8_reap_87 : decode cX8_reap 87 = .ok (.invokevirtual 256, 3) := by decide +kernel
theorem dX8_reap_90 : decode cX8_reap 90 = .ok (.iload_n 2, 1) := by decide +kernel
theorem dX8_reap_91 : decode cX8_reap 91 = .ok (.iload_n 1, 1) := by decide +kernel
theorem dX8_reap_92 : decode cX8_reap 92 = .ok (.if_icmp .ne 11, 3) := by decide +kernel
theorem dX8_reap_95 : decode cX8_reap 95 = .ok (.aload_n 0, 1) := by decide +kernel
theorem dX8_reap_96 : decode cX8_reap 96 = .ok (.getfield 13, 3) := by decide +kernel
theorem dX8_reap_99 : decode cX8_reap 99 = .ok (.bipush 17, 2) := by decide +kernel
theorem dX8_reap_101 : decode cX8_reap 101 = .ok (.iconst (-1), 1) := by decide +kernel
theorem dX8_reap_102 : decode cX8_reap 102 = .ok (.iastore, 1) := by decide +kernel
theorem dX8_reap_103 : decode cX8_reap 103 = .ok (.iload_n 2, 1) := by decide +kernel
theorem dX8_reap_104 : decode cX8_reap 104 = .ok (.ireturn, 1) := by decide +kernel
theorem dX8_length_0 : decode cX8_length 0 = .ok (.aload_n 0, 1) := by decide +kernel
theorem dX8_length_1 : decode cX8_length 1 = .ok (.getfield 33, 3) := by decide +kernel
theorem dX8_length_4 : decode cX8_length 4 = .ok (.ireturn, 1) := by decide +kernel
theorem dX8_isDue_0 : decode cX8_isDue 0 = .ok (.iload_n 2, 1) := by decide +kernel
theorem dX8_isDue_1 : decode cX8_isDue 1 = .ok (.iload_n 0, 1) := by decide +kernel
theorem dX8_isDue_2 : decode cX8_isDue 2 = .ok (.isub, 1) := by decide +kernel
theorem dX8_isDue_3 : decode cX8_isDue 3 = .ok (.iconst 1, 1) := by decide +kernel
theorem dX8_isDue_4 : decode cX8_isDue 4 = .ok (.isub, 1) := by decide +kernel
theorem dX8_isDue_5 : decode cX8_isDue 5 = .ok (.iconst 2, 1) := by decide +kernel
theorem dX8_isDue_6 : decode cX8_isDue 6 = .ok (.iload_n 3, 1) := by decide +kernel
theorem dX8_isDue_7 : decode cX8_isDue 7 = .ok (.imul, 1) := by decide +kernel
theorem dX8_isDue_8 : decode cX8_isDue 8 = .ok (.iadd, 1) := by decide +kernel
theorem dX8_isDue_9 : decode cX8_isDue 9 = .ok (.iload_n 3, 1) := by decide +kernel
theorem dX8_isDue_10 : decode cX8_isDue 10 = .ok (.irem, 1) := by decide +kernel
theorem dX8_isDue_11 : decode cX8_isDue 11 = .ok (.iload_n 2, 1) := by decide +kernel
theorem dX8_isDue_12 : decode cX8_isDue 12 = .ok (.iload_n 1, 1) := by decide +kernel
theorem dX8_isDue_13 : decode cX8_isDue 13 = .ok (.isub, 1) := by decide +kernel
theorem dX8_isDue_14 : decode cX8_isDue 14 = .ok (.iload_n 3, 1) := by decide +kernel
theorem dX8_isDue_15 : decode cX8_isDue 15 = .ok (.iadd, 1) := by decide +kernel
theorem dX8_isDue_16 : decode cX8_isDue 16 = .ok (.iload_n 3, 1) := by decide +kernel
theorem dX8_isDue_17 : decode cX8_isDue 17 = .ok (.irem, 1) := by decide +kernel
theorem dX8_isDue_18 : decode cX8_isDue 18 = .ok (.if_icmp .ge 7, 3) := by decide +kernel
theorem dX8_isDue_21 : decode cX8_isDue 21 = .ok (.iconst 1, 1) := by decide +kernel
theorem dX8_isDue_22 : decode cX8_isDue 22 = .ok (.goto 4, 3) := by decide +kernel
theorem dX8_isDue_25 : decode cX8_isDue 25 = .ok (.iconst 0, 1) := by decide +kernel
theorem dX8_isDue_26 : decode cX8_isDue 26 = .ok (.ireturn, 1) := by decide +kernel
theorem dX8_notice_0 : decode cX8_notice 0 = .ok (.aload_n 0, 1) := by decide +kernel
theorem dX8_notice_1 : decode cX8_notice 1 = .ok (.getfield 13, 3) := by decide +kernel
theorem dX8_notice_4 : decode cX8_notice 4 = .ok (.iload_n 1, 1) := by decide +kernel
theorem dX8_notice_5 : decode cX8_notice 5 = .ok (.iaload, 1) := by decide +kernel
theorem dX8_notice_6 : decode cX8_notice 6 = .ok (.istore 5, 2) := by decide +kernel
theorem dX8_notice_8 : decode cX8_notice 8 = .ok (.aload_n 0, 1) := by decide +kernel
theorem dX8_notice_9 : decode cX8_notice 9 = .ok (.iconst 2, 1) := by decide +kernel
theorem dX8_notice_10 : decode cX8_notice 10 = .ok (.invokevirtual 159, 3) := by decide +kernel
theorem dX8_notice_13 : decode cX8_notice 13 = .ok (.ifCond .eq 22, 3) := by decide +kernel
theorem dX8_notice_16 : decode cX8_notice 16 = .ok (.iload_n 3, 1) := by decide +kernel
theorem dX8_notice_17 : decode cX8_notice 17 = .ok (.aload_n 0, 1) := by decide +kernel
theorem dX8_notice_18 : decode cX8_notice 18 = .ok (.getfield 13, 3) := by decide +kernel
theorem dX8_notice_21 : decode cX8_notice 21 = .ok (.iload_n 2, 1) := by decide +kernel
theorem dX8_notice_22 : decode cX8_notice 22 = .ok (.iaload, 1) := by decide +kernel
theorem dX8_notice_23 : decode cX8_notice 23 = .ok (.iload 5, 2) := by decide +kernel
theorem dX8_notice_25 : decode cX8_notice 25 = .ok (.aload_n 0, 1) := by decide +kernel
theorem dX8_notice_26 : decode cX8_notice 26 = .ok (.invokevirtual 89, 3) := by decide +kernel
theorem dX8_notice_29 : decode cX8_notice 29 = .ok (.invokestatic 259, 3) := by decide +kernel
theorem dX8_notice_32 : decode cX8_notice 32 = .ok (.goto 24, 3) := by decide +kernel
theorem dX8_notice_35 : decode cX8_notice 35 = .ok (.iload 5, 2) := by decide +kernel
theorem dX8_notice_37 : decode cX8_notice 37 = .ok (.aload_n 0, 1) := by decide +kernel
theorem dX8_notice_38 : decode cX8_notice 38 = .ok (.getfield 13, 3) := by decide +kernel
theorem dX8_notice_41 : decode cX8_notice 41 = .ok (.iload_n 2, 1) := by decide +kernel
theorem dX8_notice_42 : decode cX8_notice 42 = .ok (.iaload, 1) := by decide +kernel
theorem dX8_notice_43 : decode cX8_notice 43 = .ok (.if_icmp .eq 12, 3) := by decide +kernel
theorem dX8_notice_46 : decode cX8_notice 46 = .ok (.iload 4, 2) := by decide +kernel
theorem dX8_notice_48 : decode cX8_notice 48 = .ok (.ifCond .ne 7, 3) := by decide +kernel
theorem dX8_notice_51 : decode cX8_notice 51 = .ok (.iconst 1, 1) := by decide +kernel
theorem dX8_notice_52 : decode cX8_notice 52 = .ok (.goto 4, 3) := by decide +kernel
theorem dX8_notice_55 : decode cX8_notice 55 = .ok (.iconst 0, 1) := by decide +kernel
theorem dX8_notice_56 : decode cX8_notice 56 = .ok (.istore 6, 2) := by decide +kernel
theorem dX8_notice_58 : decode cX8_notice 58 = .ok (.aload_n 0, 1) := by decide +kernel
theorem dX8_notice_59 : decode cX8_notice 59 = .ok (.getfield 13, 3) := by decide +kernel
theorem dX8_notice_62 : decode cX8_notice 62 = .ok (.iload_n 2, 1) := by decide +kernel
theorem dX8_notice_63 : decode cX8_notice 63 = .ok (.iload 5, 2) := by decide +kernel
theorem dX8_notice_65 : decode cX8_notice 65 = .ok (.iastore, 1) := by decide +kernel
theorem dX8_notice_66 : decode cX8_notice 66 = .ok (.iload 6, 2) := by decide +kernel
theorem dX8_notice_68 : decode cX8_notice 68 = .ok (.ireturn, 1) := by decide +kernel
theorem dX8_kick_0 : decode cX8_kick 0 = .ok (.aload_n 0, 1) := by decide +kernel
theorem dX8_kick_1 : decode cX8_kick 1 = .ok (.iconst 3, 1) := by decide +kernel
theorem dX8_kick_2 : decode cX8_kick 2 = .ok (.bipush 7, 2) := by decide +kernel
theorem dX8_kick_4 : decode cX8_kick 4 = .ok (.aload_n 0, 1) := by decide +kernel
theorem dX8_kick_5 : decode cX8_kick 5 = .ok (.getfield 13, 3) := by decide +kernel
theorem dX8_kick_8 : decode cX8_kick 8 = .ok (.bipush 9, 2) := by decide +kernel
theorem dX8_kick_10 : decode cX8_kick 10 = .ok (.iaload, 1) := by decide +kernel
theorem dX8_kick_11 : decode cX8_kick 11 = .ok (.aload_n 0, 1) := by decide +kernel
theorem dX8_kick_12 : decode cX8_kick 12 = .ok (.getfield 13, 3) := by decide +kernel
theorem dX8_kick_15 : decode cX8_kick 15 = .ok (.bipush 12, 2) := by decide +kernel
theorem dX8_kick_17 : decode cX8_kick 17 = .ok (.iaload, 1) := by decide +kernel
theorem dX8_kick_18 : decode cX8_kick 18 = .ok (.iconst 1, 1) := by decide +kernel
theorem dX8_kick_19 : decode cX8_kick 19 = .ok (.if_icmp .ne 7, 3) := by decide +kernel
theorem dX8_kick_22 : decode cX8_kick 22 = .ok (.iconst 1, 1) := by decide +kernel
theorem dX8_kick_23 : decode cX8_kick 23 = .ok (.goto 4, 3) := by decide +kernel
theorem dX8_kick_26 : decode cX8_kick 26 = .ok (.iconst 0, 1) := by decide +kernel
theorem dX8_kick_27 : decode cX8_kick 27 = .ok (.invokevirtual 263, 3) := by decide +kernel
theorem dX8_kick_30 : decode cX8_kick 30 = .ok (.istore_n 1, 1) := by decide +kernel
theorem dX8_kick_31 : decode cX8_kick 31 = .ok (.aload_n 0, 1) := by decide +kernel
theorem dX8_kick_32 : decode cX8_kick 32 = .ok (.getfield 13, 3) := by decide +kernel
theorem dX8_kick_35 : decode cX8_kick 35 = .ok (.bipush 14, 2) := by decide +kernel
theorem dX8_kick_37 : decode cX8_kick 37 = .ok (.dup2, 1) := by decide +kernel
theorem dX8_kick_38 : decode cX8_kick 38 = .ok (.iaload, 1) := by decide +kernel
theorem dX8_kick_39 : decode cX8_kick 39 = .ok (.iload_n 1, 1) := by decide +kernel
theorem dX8_kick_40 : decode cX8_kick 40 = .ok (.iadd, 1) := by decide +kernel
theorem dX8_kick_41 : decode cX8_kick 41 = .ok (.iastore, 1) := by decide +kernel
theorem dX8_kick_42 : decode cX8_kick 42 = .ok (.iload_n 1, 1) := by decide +kernel
theorem dX8_kick_43 : decode cX8_kick 43 = .ok (.ireturn, 1) := by decide +kernel
theorem dX8_signal_0 : decode cX8_signal 0 = .ok (.aload_n 0, 1) := by decide +kernel
theorem dX8_signal_1 : decode cX8_signal 1 = .ok (.iconst 5, 1) := by decide +kernel
theorem dX8_signal_2 : decode cX8_signal 2 = .ok (.bipush 8, 2) := by decide +kernel
theorem dX8_signal_4 : decode cX8_signal 4 = .ok (.aload_n 0, 1) := by decide +kernel
theorem dX8_signal_5 : decode cX8_signal 5 = .ok (.getfield 13, 3) := by decide +kernel
theorem dX8_signal_8 : decode cX8_signal 8 = .ok (.bipush 10, 2) := by decide +kernel
theorem dX8_signal_10 : decode cX8_signal 10 = .ok (.iaload, 1) := by decide +kernel
theorem dX8_signal_11 : decode cX8_signal 11 = .ok (.aload_n 0, 1) := by decide +kernel
theorem dX8_signal_12 : decode cX8_signal 12 = .ok (.getfield 13, 3) := by decide +kernel
theorem dX8_signal_15 : decode cX8_signal 15 = .ok (.bipush 11, 2) := by decide +kernel
theorem dX8_signal_17 : decode cX8_signal 17 = .ok (.iaload, 1) := by decide +kernel
theorem dX8_signal_18 : decode cX8_signal 18 = .ok (.iconst 1, 1) := by decide +kernel
theorem dX8_signal_19 : decode cX8_signal 19 = .ok (.if_icmp .ne 7, 3) := by decide +kernel
theorem dX8_signal_22 : decode cX8_signal 22 = .ok (.iconst 1, 1) := by decide +kernel
theorem dX8_signal_23 : decode cX8_signal 23 = .ok (.goto 4, 3) := by decide +kernel
theorem dX8_signal_26 : decode cX8_signal 26 = .ok (.iconst 0, 1) := by decide +kernel
theorem dX8_signal_27 : decode cX8_signal 27 = .ok (.invokevirtual 263, 3) := by decide +kernel
theorem dX8_signal_30 : decode cX8_signal 30 = .ok (.istore_n 1, 1) := by decide +kernel
theorem dX8_signal_31 : decode cX8_signal 31 = .ok (.aload_n 0, 1) := by decide +kernel
theorem dX8_signal_32 : decode cX8_signal 32 = .ok (.getfield 13, 3) := by decide +kernel
theorem dX8_signal_35 : decode cX8_signal 35 = .ok (.bipush 15, 2) := by decide +kernel
theorem dX8_signal_37 : decode cX8_signal 37 = .ok (.dup2, 1) := by decide +kernel
theorem dX8_signal_38 : decode cX8_signal 38 = .ok (.iaload, 1) := by decide +kernel
theorem dX8_signal_39 : decode cX8_signal 39 = .ok (.iload_n 1, 1) := by decide +kernel
theorem dX8_signal_40 : decode cX8_signal 40 = .ok (.iadd, 1) := by decide +kernel
theorem dX8_signal_41 : decode cX8_signal 41 = .ok (.iastore, 1) := by decide +kernel
theorem dX8_signal_42 : decode cX8_signal 42 = .ok (.iload_n 1, 1) := by decide +kernel
theorem dX8_signal_43 : decode cX8_signal 43 = .ok (.ireturn, 1) := by decide +kernel
theorem dX8_event_0 : decode cX8_event 0 = .ok (.iload_n 1, 1) := by decide +kernel
theorem dX8_event_1 : decode cX8_event 1 = .ok (.iconst 0, 1) := by decide +kernel
theorem dX8_event_2 : decode cX8_event 2 = .ok (.iconst 1, 1) := by decide +kernel
theorem dX8_event_3 : decode cX8_event 3 = .ok (.invokestatic 93, 3) := by decide +kernel
theorem dX8_event_6 : decode cX8_event 6 = .ok (.ifCond .eq 17, 3) := by decide +kernel
theorem dX8_event_9 : decode cX8_event 9 = .ok (.iload_n 2, 1) := by decide +kernel
theorem dX8_event_10 : decode cX8_event 10 = .ok (.iconst 0, 1) := by decide +kernel
theorem dX8_event_11 : decode cX8_event 11 = .ok (.aload_n 0, 1) := by decide +kernel
theorem dX8_event_12 : decode cX8_event 12 = .ok (.invokevirtual 89, 3) := by decide +kernel
theorem dX8_event_15 : decode cX8_event 15 = .ok (.iconst 1, 1) := by decide +kernel
theorem dX8_event_16 : decode cX8_event 16 = .ok (.isub, 1) := by decide +kernel
theorem dX8_event_17 : decode cX8_event 17 = .ok (.invokestatic 93, 3) := by decide +kernel
theorem dX8_event_20 : decode cX8_event 20 = .ok (.ifCond .ne 5, 3) := by decide +kernel
theorem dX8_event_23 : decode cX8_event 23 = .ok (.iconst (-1), 1) := by decide +kernel
theorem dX8_event_24 : decode cX8_event 24 = .ok (.ireturn, 1) := by decide +kernel
theorem dX8_event_25 : decode cX8_event 25 = .ok (.iload_n 1, 1) := by decide +kernel
theorem dX8_event_26 : decode cX8_event 26 = .ok (.iconst 1, 1) := by decide +kernel
theorem dX8_event_27 : decode cX8_event 27 = .ok (.if_icmp .ne 8, 3) := by decide +kernel
theorem dX8_event_30 : decode cX8_event 30 = .ok (.bipush 9, 2) := by decide +kernel
theorem dX8_event_32 : decode cX8_event 32 = .ok (.goto 5, 3) := by decide +kernel
theorem dX8_event_35 : decode cX8_event 35 = .ok (.bipush 10, 2) := by decide +kernel
theorem dX8_event_37 : decode cX8_event 37 = .ok (.istore_n 3, 1) := by decide +kernel
theorem dX8_event_38 : decode cX8_event 38 = .ok (.aload_n 0, 1) := by decide +kernel
theorem dX8_event_39 : decode cX8_event 39 = .ok (.getfield 13, 3) := by decide +kernel
theorem dX8_event_42 : decode cX8_event 42 = .ok (.iload_n 3, 1) := by decide +kernel
theorem dX8_event_43 : decode cX8_event 43 = .ok (.aload_n 0, 1) := by decide +kernel
theorem dX8_event_44 : decode cX8_event 44 = .ok (.aload_n 0, 1) := by decide +kernel
theorem dX8_event_45 : decode cX8_event 45 = .ok (.getfield 13, 3) := by decide +kernel
theorem dX8_event_48 : decode cX8_event 48 = .ok (.iload_n 1, 1) := by decide +kernel
theorem dX8_event_49 : decode cX8_event 49 = .ok (.iconst 1, 1) := by decide +kernel
theorem dX8_event_50 : decode cX8_event 50 = .ok (.if_icmp .ne 7, 3) := by decide +kernel
theorem dX8_event_53 : decode cX8_event 53 = .ok (.iconst 4, 1) := by decide +kernel
theorem dX8_event_54 : decode cX8_event 54 = .ok (.goto 5, 3) := by decide +kernel
theorem dX8_event_57 : decode cX8_event 57 = .ok (.bipush 6, 2) := by decide +kernel
theorem dX8_event_59 : decode cX8_event 59 = .ok (.iaload, 1) := by decide +kernel
theorem dX8_event_60 : decode cX8_event 60 = .ok (.iload_n 2, 1) := by decide +kernel
