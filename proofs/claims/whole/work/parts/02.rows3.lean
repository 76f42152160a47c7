theorem dX9_restore_18 : decode cX9_restore 18 = .ok (.iconst 0, 1) := by decide +kernel
theorem dX9_restore_19 : decode cX9_restore 19 = .ok (.aload_n 0, 1) := by decide +kernel
theorem dX9_restore_20 : decode cX9_restore 20 = .ok (.getfield 7, 3) := by decide +kernel
theorem dX9_restore_23 : decode cX9_restore 23 = .ok (.iconst 0, 1) := by decide +kernel
theorem dX9_restore_24 : decode cX9_restore 24 = .ok (.invokestatic 41, 3) := by decide +kernel
theorem dX9_restore_27 : decode cX9_restore 27 = .ok (.aload_n 0, 1) := by decide +kernel
theorem dX9_restore_28 : decode cX9_restore 28 = .ok (.getfield 7, 3) := by decide +kernel
theorem dX9_restore_31 : decode cX9_restore 31 = .ok (.iconst 0, 1) := by decide +kernel
theorem dX9_restore_32 : decode cX9_restore 32 = .ok (.iaload, 1) := by decide +kernel
theorem dX9_restore_33 : decode cX9_restore 33 = .ok (.ireturn, 1) := by decide +kernel
theorem dX9_of_0 : decode cX9_of 0 = .ok (.aload_n 0, 1) := by decide +kernel
theorem dX9_of_1 : decode cX9_of 1 = .ok (.bipush 11, 2) := by decide +kernel
theorem dX9_of_3 : decode cX9_of 3 = .ok (.iconst 5, 1) := by decide +kernel
theorem dX9_of_4 : decode cX9_of 4 = .ok (.iload_n 1, 1) := by decide +kernel
theorem dX9_of_5 : decode cX9_of 5 = .ok (.imul, 1) := by decide +kernel
theorem dX9_of_6 : decode cX9_of 6 = .ok (.iadd, 1) := by decide +kernel
theorem dX9_of_7 : decode cX9_of 7 = .ok (.iload_n 2, 1) := by decide +kernel
theorem dX9_of_8 : decode cX9_of 8 = .ok (.iadd, 1) := by decide +kernel
theorem dX9_of_9 : decode cX9_of 9 = .ok (.iaload, 1) := by decide +kernel
theorem dX9_of_10 : decode cX9_of 10 = .ok (.ireturn, 1) := by decide +kernel
theorem dX9_puts_0 : decode cX9_puts 0 = .ok (.aload_n 0, 1) := by decide +kernel
theorem dX9_puts_1 : decode cX9_puts 1 = .ok (.bipush 11, 2) := by decide +kernel
theorem dX9_puts_3 : decode cX9_puts 3 = .ok (.iconst 5, 1) := by decide +kernel
theorem dX9_puts_4 : decode cX9_puts 4 = .ok (.iload_n 1, 1) := by decide +kernel
theorem dX9_puts_5 : decode cX9_puts 5 = .ok (.imul, 1) := by decide +kernel
theorem dX9_puts_6 : decode cX9_puts 6 = .ok (.iadd, 1) := by decide +kernel
theorem dX9_puts_7 : decode cX9_puts 7 = .ok (.iload_n 2, 1) := by decide +kernel
theorem dX9_puts_8 : decode cX9_puts 8 = .ok (.iadd, 1) := by decide +kernel
theorem dX9_puts_9 : decode cX9_puts 9 = .ok (.iload_n 3, 1) := by decide +kernel
theorem dX9_puts_10 : decode cX9_puts 10 = .ok (.iastore, 1) := by decide +kernel
theorem dX9_puts_11 : decode cX9_puts 11 = .ok (.return_, 1) := by decide +kernel
theorem dX9_empties_0 : decode cX9_empties 0 = .ok (.aload_n 0, 1) := by decide +kernel
theorem dX9_empties_1 : decode cX9_empties 1 = .ok (.iload_n 1, 1) := by decide +kernel
theorem dX9_empties_2 : decode cX9_empties 2 = .ok (.iconst 0, 1) := by decide +kernel
theorem dX9_empties_3 : decode cX9_empties 3 = .ok (.bipush (-5), 2) := by decide +kernel
theorem dX9_empties_5 : decode cX9_empties 5 = .ok (.invokestatic 52, 3) := by decide +kernel
theorem dX9_empties_8 : decode cX9_empties 8 = .ok (.return_, 1) := by decide +kernel
theorem dX9_isThere_0 : decode cX9_isThere 0 = .ok (.aload_n 0, 1) := by decide +kernel
theorem dX9_isThere_1 : decode cX9_isThere 1 = .ok (.iload_n 1, 1) := by decide +kernel
theorem dX9_isThere_2 : decode cX9_isThere 2 = .ok (.iconst 0, 1) := by decide +kernel
theorem dX9_isThere_3 : decode cX9_isThere 3 = .ok (.invokestatic 56, 3) := by decide +kernel
theorem dX9_isThere_6 : decode cX9_isThere 6 = .ok (.bipush (-5), 2) := by decide +kernel
theorem dX9_isThere_8 : decode cX9_isThere 8 = .ok (.if_icmp .eq 7, 3) := by decide +kernel
theorem dX9_isThere_11 : decode cX9_isThere 11 = .ok (.iconst 1, 1) := by decide +kernel
theorem dX9_isThere_12 : decode cX9_isThere 12 = .ok (.goto 4, 3) := by decide +kernel
theorem dX9_isThere_15 : decode cX9_isThere 15 = .ok (.iconst 0, 1) := by decide +kernel
theorem dX9_isThere_16 : decode cX9_isThere 16 = .ok (.ireturn, 1) := by decide +kernel
theorem dX9_comes_0 : decode cX9_comes 0 = .ok (.aload_n 0, 1) := by decide +kernel
theorem dX9_comes_1 : decode cX9_comes 1 = .ok (.iload_n 1, 1) := by decide +kernel
theorem dX9_comes_2 : decode cX9_comes 2 = .ok (.iconst 0, 1) := by decide +kernel
theorem dX9_comes_3 : decode cX9_comes 3 = .ok (.iload_n 2, 1) := by decide +kernel
theorem dX9_comes_4 : decode cX9_comes 4 = .ok (.invokestatic 52, 3) := by decide +kernel
theorem dX9_comes_7 : decode cX9_comes 7 = .ok (.aload_n 0, 1) := by decide +kernel
theorem dX9_comes_8 : decode cX9_comes 8 = .ok (.iload_n 1, 1) := by decide +kernel
theorem dX9_comes_9 : decode cX9_comes 9 = .ok (.iconst 1, 1) := by decide +kernel
theorem dX9_comes_10 : decode cX9_comes 10 = .ok (.iload_n 3, 1) := by decide +kernel
theorem dX9_comes_11 : decode cX9_comes 11 = .ok (.invokestatic 52, 3) := by decide +kernel
theorem dX9_comes_14 : decode cX9_comes 14 = .ok (.aload_n 0, 1) := by decide +kernel
theorem dX9_comes_15 : decode cX9_comes 15 = .ok (.iload_n 1, 1) := by decide +kernel
theorem dX9_comes_16 : decode cX9_comes 16 = .ok (.iconst 2, 1) := by decide +kernel
theorem dX9_comes_17 : decode cX9_comes 17 = .ok (.iconst 0, 1) := by decide +kernel
theorem dX9_comes_18 : decode cX9_comes 18 = .ok (.invokestatic 52, 3) := by decide +kernel
theorem dX9_comes_21 : decode cX9_comes 21 = .ok (.aload_n 0, 1) := by decide +kernel
theorem dX9_comes_22 : decode cX9_comes 22 = .ok (.iload_n 1, 1) := by decide +kernel
theorem dX9_comes_23 : decode cX9_comes 23 = .ok (.iconst 3, 1) := by decide +kernel
theorem dX9_comes_24 : decode cX9_comes 24 = .ok (.iconst 0, 1) := by decide +kernel
theorem dX9_comes_25 : decode cX9_comes 25 = .ok (.invokestatic 52, 3) := by decide +kernel
theorem dX9_comes_28 : decode cX9_comes 28 = .ok (.aload_n 0, 1) := by decide +kernel
theorem dX9_comes_29 : decode cX9_comes 29 = .ok (.iload_n 1, 1) := by decide +kernel
theorem dX9_comes_30 : decode cX9_comes 30 = .ok (.iconst 4, 1) := by decide +kernel
theorem dX9_comes_31 : decode cX9_comes 31 = .ok (.iconst 0, 1) := by decide +kernel
theorem dX9_comes_32 : decode cX9_comes 32 = .ok (.invokestatic 52, 3) := by decide +kernel
theorem dX9_comes_35 : decode cX9_comes 35 = .ok (.return_, 1) := by decide +kernel
theorem dX9_by_0 : decode cX9_by 0 = .ok (.iload_n 0, 1) := by decide +kernel
theorem dX9_by_1 : decode cX9_by 1 = .ok (.ifCond .ne 7, 3) := by decide +kernel
theorem dX9_by_4 : decode cX9_by 4 = .ok (.iload_n 1, 1) := by decide +kernel
theorem dX9_by_5 : decode cX9_by 5 = .ok (.goto 13, 3) := by decide +kernel
theorem dX9_by_8 : decode cX9_by 8 = .ok (.iload_n 0, 1) := by decide +kernel
theorem dX9_by_9 : decode cX9_by 9 = .ok (.iconst 1, 1) := by decide +kernel
theorem dX9_by_10 : decode cX9_by 10 = .ok (.if_icmp .ne 7, 3) := by decide +kernel
theorem dX9_by_13 : decode cX9_by 13 = .ok (.iload_n 2, 1) := by decide +kernel
theorem dX9_by_14 : decode cX9_by 14 = .ok (.goto 4, 3) := by decide +kernel
theorem dX9_by_17 : decode cX9_by 17 = .ok (.iload_n 3, 1) := by decide +kernel
theorem dX9_by_18 : decode cX9_by 18 = .ok (.ireturn, 1) := by decide +kernel
theorem dX9_life_0 : decode cX9_life 0 = .ok (.aload_n 0, 1) := by decide +kernel
theorem dX9_life_1 : decode cX9_life 1 = .ok (.iload_n 1, 1) := by decide +kernel
theorem dX9_life_2 : decode cX9_life 2 = .ok (.iconst 0, 1) := by decide +kernel
theorem dX9_life_3 : decode cX9_life 3 = .ok (.invokestatic 56, 3) := by decide +kernel
theorem dX9_life_6 : decode cX9_life 6 = .ok (.sipush 400, 3) := by decide +kernel
theorem dX9_life_9 : decode cX9_life 9 = .ok (.sipush 700, 3) := by decide +kernel
theorem dX9_life_12 : decode cX9_life 12 = .ok (.sipush 200, 3) := by decide +kernel
theorem dX9_life_15 : decode cX9_life 15 = .ok (.invokestatic 60, 3) := by decide +kernel
theorem dX9_life_18 : decode cX9_life 18 = .ok (.aload_n 0, 1) := by decide +kernel
theorem dX9_life_19 : decode cX9_life 19 = .ok (.iload_n 1, 1) := by decide +kernel
theorem dX9_life_20 : decode cX9_life 20 = .ok (.iconst 1, 1) := by decide +kernel
theorem dX9_life_21 : decode cX9_life 21 = .ok (.invokestatic 56, 3) := by decide +kernel
theorem dX9_life_24 : decode cX9_life 24 = .ok (.imul, 1) := by decide +kernel
theorem dX9_life_25 : decode cX9_life 25 = .ok (.bipush 100, 2) := by decide +kernel
theorem dX9_life_27 : decode cX9_life 27 = .ok (.idiv, 1) := by decide +kernel
theorem dX9_life_28 : decode cX9_life 28 = .ok (.ireturn, 1) := by decide +kernel
theorem dX9_nominal_0 : decode cX9_nominal 0 = .ok (.aload_n 0, 1) := by decide +kernel
theorem dX9_nominal_1 : decode cX9_nominal 1 = .ok (.iload_n 1, 1) := by decide +kernel
theorem dX9_nominal_2 : decode cX9_nominal 2 = .ok (.iconst 0, 1) := by decide +kernel
theorem dX9_nominal_3 : decode cX9_nominal 3 = .ok (.invokestatic 56, 3) := by decide +kernel
theorem dX9_nominal_6 : decode cX9_nominal 6 = .ok (.sipush 1000, 3) := by decide +kernel
theorem dX9_nominal_9 : decode cX9_nominal 9 = .ok (.sipush 1400, 3) := by decide +kernel
theorem dX9_nominal_12 : decode cX9_nominal 12 = .ok (.sipush 700, 3) := by decide +kernel
theorem dX9_nominal_15 : decode cX9_nominal 15 = .ok (.invokestatic 60, 3) := by decide +kernel
theorem dX9_nominal_18 : decode cX9_nominal 18 = .ok (.ireturn, 1) := by decide +kernel
theorem dX9_isOut_0 : decode cX9_isOut 0 = .ok (.aload_n 0, 1) := by decide +kernel
theorem dX9_isOut_1 : decode cX9_isOut 1 = .ok (.iload_n 1, 1) := by decide +kernel
theorem dX9_isOut_2 : decode cX9_isOut 2 = .ok (.iconst 2, 1) := by decide +kernel
theorem dX9_isOut_3 : decode cX9_isOut 3 = .ok (.invokestatic 56, 3) := by decide +kernel
theorem dX9_isOut_6 : decode cX9_isOut 6 = .ok (.aload_n 0, 1) := by decide +kernel
theorem dX9_isOut_7 : decode cX9_isOut 7 = .ok (.iload_n 1, 1) := by decide +kernel
theorem dX9_isOut_8 : decode cX9_isOut 8 = .ok (.invokestatic 64, 3) := by decide +kernel
theorem dX9_isOut_11 : decode cX9_isOut 11 = .ok (.if_icmp .lt 7, 3) := by decide +kernel
theorem dX9_isOut_14 : decode cX9_isOut 14 = .ok (.iconst 1, 1) := by decide +kernel
theorem dX9_isOut_15 : decode cX9_isOut 15 = .ok (.goto 4, 3) := by decide +kernel
theorem dX9_isOut_18 : decode cX9_isOut 18 = .ok (.iconst 0, 1) := by decide +kernel
theorem dX9_isOut_19 : decode cX9_isOut 19 = .ok (.ireturn, 1) := by decide +kernel
theorem dX9_current_0 : decode cX9_current 0 = .ok (.aload_n 0, 1) := by decide +kernel
theorem dX9_current_1 : decode cX9_current 1 = .ok (.iload_n 1, 1) := by decide +kernel
theorem dX9_current_2 : decode cX9_current 2 = .ok (.invokestatic 68, 3) := by decide +kernel
theorem dX9_current_5 : decode cX9_current 5 = .ok (.istore_n 2, 1) := by decide +kernel
theorem dX9_current_6 : decode cX9_current 6 = .ok (.aload_n 0, 1) := by decide +kernel
theorem dX9_current_7 : decode cX9_current 7 = .ok (.iload_n 1, 1) := by decide +kernel
theorem dX9_current_8 : decode cX9_current 8 = .ok (.invokestatic 71, 3) := by decide +kernel
theorem dX9_current_11 : decode cX9_current 11 = .ok (.ifCond .eq 7, 3) := by decide +kernel
theorem dX9_current_14 : decode cX9_current 14 = .ok (.iconst 0, 1) := by decide +kernel
theorem dX9_current_15 : decode cX9_current 15 = .ok (.goto 21, 3) := by decide +kernel
theorem dX9_current_18 : decode cX9_current 18 = .ok (.iload_n 2, 1) := by decide +kernel
theorem dX9_current_19 : decode cX9_current 19 = .ok (.iload_n 2, 1) := by decide +kernel
theorem dX9_current_20 : decode cX9_current 20 = .ok (.aload_n 0, 1) := by decide +kernel
theorem dX9_current_21 : decode cX9_current 21 = .ok (.iload_n 1, 1) := by decide +kernel
theorem dX9_current_22 : decode cX9_current 22 = .ok (.iconst 2, 1) := by decide +kernel
theorem dX9_current_23 : decode cX9_current 23 = .ok (.invokestatic 56, 3) := by decide +kernel
theorem dX9_current_26 : decode cX9_current 26 = .ok (.imul, 1) := by decide +kernel
theorem dX9_current_27 : decode cX9_current 27 = .ok (.iconst 4, 1) := by decide +kernel
theorem dX9_current_28 : decode cX9_current 28 = .ok (.aload_n 0, 1) := by decide +kernel
theorem dX9_current_29 : decode cX9_current 29 = .ok (.iload_n 1, 1) := by decide +kernel
theorem dX9_current_30 : decode cX9_current 30 = .ok (.invokestatic 64, 3) := by decide +kernel
theorem dX9_current_33 : decode cX9_current 33 = .ok (.imul, 1) := by decide +kernel
theorem dX9_current_34 : decode cX9_current 34 = .ok (.idiv, 1) := by decide +kernel
theorem dX9_current_35 : decode cX9_current 35 = .ok (.isub, 1) := by decide +kernel
theorem dX9_current_36 : decode cX9_current 36 = .ok (.ireturn, 1) := by decide +kernel
theorem dX9_isBelow_0 : decode cX9_isBelow 0 = .ok (.bipush 100, 2) := by decide +kernel
theorem dX9_isBelow_2 : decode cX9_isBelow 2 = .ok (.aload_n 0, 1) := by decide +kernel
theorem dX9_isBelow_3 : decode cX9_isBelow 3 = .ok (.iload_n 1, 1) := by decide +kernel
theorem dX9_isBelow_4 : decode cX9_isBelow 4 = .ok (.invokestatic 75, 3) := by decide +kernel
theorem dX9_isBelow_7 : decode cX9_isBelow 7 = .ok (.imul, 1) := by decide +kernel
theorem dX9_isBelow_8 : decode cX9_isBelow 8 = .ok (.aload_n 0, 1) := by decide +kernel
theorem dX9_isBelow_9 : decode cX9_isBelow 9 = .ok (.iconst 3, 1) := by decide +kernel
theorem dX9_isBelow_10 : decode cX9_isBelow 10 = .ok (.iaload, 1) := by decide +kernel
theorem dX9_isBelow_11 : decode cX9_isBelow 11 = .ok (.aload_n 0, 1) := by decide +kernel
theorem dX9_isBelow_12 : decode cX9_isBelow 12 = .ok (.iload_n 1, 1) := by decide +kernel
theorem dX9_isBelow_13 : decode cX9_isBelow 13 = .ok (.invokestatic 68, 3) := by decide +kernel
theorem dX9_isBelow_16 : decode cX9_isBelow 16 = .ok (.imul, 1) := by decide +kernel
theorem dX9_isBelow_17 : decode cX9_isBelow 17 = .ok (.if_icmp .ge 7, 3) := by decide +kernel
theorem dX9_isBelow_20 : decode cX9_isBelow 20 = .ok (.iconst 1, 1) := by decide +kernel
theorem dX9_isBelow_21 : decode cX9_isBelow 21 = .ok (.goto 4, 3) := by decide +kernel
theorem dX9_isBelow_24 : decode cX9_isBelow 24 = .ok (.iconst 0, 1) := by decide +kernel
theorem dX9_isBelow_25 : decode cX9_isBelow 25 = .ok (.ireturn, 1) := by decide +kernel
theorem dX9_isGood_0 : decode cX9_isGood 0 = .ok (.aload_n 0, 1) := by decide +kernel
theorem dX9_isGood_1 : decode cX9_isGood 1 = .ok (.iload_n 1, 1) := by decide +kernel
theorem dX9_isGood_2 : decode cX9_isGood 2 = .ok (.invokestatic 78, 3) := by decide +kernel
theorem dX9_isGood_5 : decode cX9_isGood 5 = .ok (.ifCond .eq 29, 3) := by decide +kernel
theorem dX9_isGood_8 : decode cX9_isGood 8 = .ok (.aload_n 0, 1) := by decide +kernel
theorem dX9_isGood_9 : decode cX9_isGood 9 = .ok (.iload_n 1, 1) := by decide +kernel
theorem dX9_isGood_10 : decode cX9_isGood 10 = .ok (.invokestatic 71, 3) := by decide +kernel
theorem dX9_isGood_13 : decode cX9_isGood 13 = .ok (.ifCond .ne 21, 3) := by decide +kernel
theorem dX9_isGood_16 : decode cX9_isGood 16 = .ok (.iload_n 2, 1) := by decide +kernel
theorem dX9_isGood_17 : decode cX9_isGood 17 = .ok (.ifCond .eq 13, 3) := by decide +kernel
theorem dX9_isGood_20 : decode cX9_isGood 20 = .ok (.aload_n 0, 1) := by decide +kernel
theorem dX9_isGood_21 : decode cX9_isGood 21 = .ok (.iload_n 1, 1) := by decide +kernel
theorem dX9_isGood_22 : decode cX9_isGood 22 = .ok (.iconst 3, 1) := by decide +kernel
theorem dX9_isGood_23 : decode cX9_isGood 23 = .ok (.invokestatic 56, 3) := by decide +kernel
theorem dX9_isGood_26 : decode cX9_isGood 26 = .ok (.iconst 1, 1) := by decide +kernel
theorem dX9_isGood_27 : decode cX9_isGood 27 = .ok (.if_icmp .eq 7, 3) := by decide +kernel
theorem dX9_isGood_30 : decode cX9_isGood 30 = .ok (.iconst 1, 1) := by decide +kernel
theorem dX9_isGood_31 : decode cX9_isGood 31 = .ok (.goto 4, 3) := by decide +kernel
theorem dX9_isGood_34 : decode cX9_isGood 34 = .ok (.iconst 0, 1) := by decide +kernel
theorem dX9_isGood_35 : decode cX9_isGood 35 = .ok (.ireturn, 1) := by decide +kernel
theorem dX9_found_0 : decode cX9_found 0 = .ok (.iconst 1, 1) := by decide +kernel
theorem dX9_found_1 : decode cX9_found 1 = .ok (.istore_n 2, 1) := by decide +kernel
theorem dX9_found_2 : decode cX9_found 2 = .ok (.iload_n 2, 1) := by decide +kernel
theorem dX9_found_3 : decode cX9_found 3 = .ok (.bipush 6, 2) := by decide +kernel
theorem dX9_found_5 : decode cX9_found 5 = .ok (.if_icmp .gt 30, 3) := by decide +kernel
theorem dX9_found_8 : decode cX9_found 8 = .ok (.aload_n 0, 1) := by decide +kernel
theorem dX9_found_9 : decode cX9_found 9 = .ok (.bipush 7, 2) := by decide +kernel
theorem dX9_found_11 : decode cX9_found 11 = .ok (.iaload, 1) := by decide +kernel
theorem dX9_found_12 : decode cX9_found 12 = .ok (.iload_n 2, 1) := by decide +kernel
theorem dX9_found_13 : decode cX9_found 13 = .ok (.iadd, 1) := by decide +kernel
theorem dX9_found_14 : decode cX9_found 14 = .ok (.bipush 6, 2) := by decide +kernel
theorem dX9_found_16 : decode cX9_found 16 = .ok (.irem, 1) := by decide +kernel
theorem dX9_found_17 : decode cX9_found 17 = .ok (.istore_n 3, 1) := by decide +kernel
theorem dX9_found_18 : decode cX9_found 18 = .ok (.aload_n 0, 1) := by decide +kernel
theorem dX9_found_19 : decode cX9_found 19 = .ok (.iload_n 3, 1) := by decide +kernel
theorem dX9_found_20 : decode cX9_found 20 = .ok (.iload_n 1, 1) := by decide +kernel
theorem dX9_found_21 : decode cX9_found 21 = .ok (.invokestatic 81, 3) := by decide +kernel
theorem dX9_found_24 : decode cX9_found 24 = .ok (.ifCond .eq 5, 3) := by decide +kernel
theorem dX9_found_27 : decode cX9_found 27 = .ok (.iload_n 3, 1) := by decide +kernel
theorem dX9_found_28 : decode cX9_found 28 = .ok (.ireturn, 1) := by decide +kernel
theorem dX9_found_29 : decode cX9_found 29 = .ok (.iinc 2 1, 3) := by decide +kernel
theorem dX9_found_32 : decode cX9_found 32 = .ok (.goto (-30), 3) := by decide +kernel
theorem dX9_found_35 : decode cX9_found 35 = .ok (.bipush (-5), 2) := by decide +kernel
theorem dX9_found_37 : decode cX9_found 37 = .ok (.ireturn, 1) := by decide +kernel
theorem dX9_next_0 : decode cX9_next 0 = .ok (.aload_n 0, 1) := by decide +kernel
theorem dX9_next_1 : decode cX9_next 1 = .ok (.iconst 1, 1) := by decide +kernel
theorem dX9_next_2 : decode cX9_next 2 = .ok (.invokestatic 85, 3) := by decide +kernel
theorem dX9_next_5 : decode cX9_next 5 = .ok (.istore_n 1, 1) := by decide +kernel
theorem dX9_next_6 : decode cX9_next 6 = .ok (.iload_n 1, 1) := by decide +kernel
theorem dX9_next_7 : decode cX9_next 7 = .ok (.bipush (-5), 2) := by decide +kernel
theorem dX9_next_9 : decode cX9_next 9 = .ok (.if_icmp .ne 11, 3) := by decide +kernel
theorem dX9_next_12 : decode cX9_next 12 = .ok (.aload_n 0, 1) := by decide +kernel
theorem dX9_next_13 : decode cX9_next 13 = .ok (.iconst 0, 1) := by decide +kernel
theorem dX9_next_14 : decode cX9_next 14 = .ok (.invokestatic 85, 3) := by decide +kernel
theorem dX9_next_17 : decode cX9_next 17 = .ok (.goto 4, 3) := by decide +kernel
theorem dX9_next_20 : decode cX9_next 20 = .ok (.iload_n 1, 1) := by decide +kernel
theorem dX9_next_21 : decode cX9_next 21 = .ok (.ireturn, 1) := by decide +kernel
theorem dX9_happens_0 : decode cX9_happens 0 = .ok (.aload_n 0, 1) := by decide +kernel
theorem dX9_happens_1 : decode cX9_happens 1 = .ok (.bipush 80, 2) := by decide +kernel
theorem dX9_happens_3 : decode cX9_happens 3 = .ok (.iaload, 1) := by decide +kernel
theorem dX9_happens_4 : decode cX9_happens 4 = .ok (.bipush 10, 2) := by decide +kernel
theorem dX9_happens_6 : decode cX9_happens 6 = .ok (.if_icmp .ne 34, 3) := by decide +kernel
theorem dX9_happens_9 : decode cX9_happens 9 = .ok (.bipush 81, 2) := by decide +kernel
theorem dX9_happens_11 : decode cX9_happens 11 = .ok (.istore_n 3, 1) := by decide +kernel
theorem dX9_happens_12 : decode cX9_happens 12 = .ok (.iload_n 3, 1) := by decide +kernel
theorem dX9_happens_13 : decode cX9_happens 13 = .ok (.bipush 108, 2) := by decide +kernel
theorem dX9_happens_15 : decode cX9_happens 15 = .ok (.if_icmp .ge 17, 3) := by decide +kernel
theorem dX9_happens_18 : decode cX9_happens 18 = .ok (.aload_n 0, 1) := by decide +kernel
theorem dX9_happens_19 : decode cX9_happens 19 = .ok (.iload_n 3, 1) := by decide +kernel
theorem dX9_happens_20 : decode cX9_happens 20 = .ok (.aload_n 0, 1) := by decide +kernel
theorem dX9_happens_21 : decode cX9_happens 21 = .ok (.iload_n 3, 1) := by decide +kernel
theorem dX9_happens_22 : decode cX9_happens 22 = .ok (.iconst 3, 1) := by decide +kernel
theorem dX9_happens_23 : decode cX9_happens 23 = .ok (.iadd, 1) := by decide +kernel
theorem dX9_happens_24 : decode cX9_happens 24 = .ok (.iaload, 1) := by decide +kernel
theorem dX9_happens_25 : decode cX9_happens 25 = .ok (.iastore, 1) := by decide +kernel
theorem dX9_happens_26 : decode cX9_happens 26 = .ok (.iinc 3 1, 3) := by decide +kernel
theorem dX9_happens_29 : decode cX9_happens 29 = .ok (.goto (-17), 3) := by decide +kernel
theorem dX9_happens_32 : decode cX9_happens 32 = .ok (.aload_n 0, 1) := by decide +kernel
theorem dX9_happens_33 : decode cX9_happens 33 = .ok (.bipush 80, 2) := by decide +kernel
theorem dX9_happens_35 : decode cX9_happens 35 = .ok (.dup2, 1) := by decide +kernel
theorem dX9_happens_36 : decode cX9_happens 36 = .ok (.iaload, 1) := by decide +kernel
theorem dX9_happens_37 : decode cX9_happens 37 = .ok (.iconst 1, 1) := by decide +kernel
theorem dX9_happens_38 : decode cX9_happens 38 = .ok (.isub, 1) := by decide +kernel
theorem dX9_happens_39 : decode cX9_happens 39 = .ok (.iastore, 1) := by decide +kernel
theorem dX9_happens_40 : decode cX9_happens 40 = .ok (.bipush 81, 2) := by decide +kernel
theorem dX9_happens_42 : decode cX9_happens 42 = .ok (.iconst 3, 1) := by decide +kernel
theorem dX9_happens_43 : decode cX9_happens 43 = .ok (.aload_n 0, 1) := by decide +kernel
theorem dX9_happens_44 : decode cX9_happens 44 = .ok (.bipush 80, 2) := by decide +kernel
theorem dX9_happens_46 : decode cX9_happens 46 = .ok (.iaload, 1) := by decide +kernel
theorem dX9_happens_47 : decode cX9_happens 47 = .ok (.imul, 1) := by decide +kernel
theorem dX9_happens_48 : decode cX9_happens 48 = .ok (.iadd, 1) := by decide +kernel
theorem dX9_happens_49 : decode cX9_happens 49 = .ok (.istore_n 3, 1) := by decide +kernel
theorem dX9_happens_50 : decode cX9_happens 50 = .ok (.aload_n 0, 1) := by decide +kernel
theorem dX9_happens_51 : decode cX9_happens 51 = .ok (.iload_n 3, 1) := by decide +kernel
theorem dX9_happens_52 : decode cX9_happens 52 = .ok (.iload_n 1, 1) := by decide +kernel
theorem dX9_happens_53 : decode cX9_happens 53 = .ok (.iastore, 1) := by decide +kernel
theorem dX9_happens_54 : decode cX9_happens 54 = .ok (.aload_n 0, 1) := by decide +kernel
theorem dX9_happens_55 : decode cX9_happens 55 = .ok (.iload_n 3, 1) := by decide +kernel
theorem dX9_happens_56 : decode cX9_happens 56 = .ok (.iconst 1, 1) := by decide +kernel
theorem dX9_happens_57 : decode cX9_happens 57 = .ok (.iadd, 1) := by decide +kernel
theorem dX9_happens_58 : decode cX9_happens 58 = .ok (.iload_n 2, 1) := by decide +kernel
theorem dX9_happens_59 : decode cX9_happens 59 = .ok (.iastore, 1) := by decide +kernel
theorem dX9_happens_60 : decode cX9_happens 60 = .ok (.aload_n 0, 1) := by decide +kernel
theorem dX9_happens_61 : decode cX9_happens 61 = .ok (.iload_n 3, 1) := by decide +kernel
theorem dX9_happens_62 : decode cX9_happens 62 = .ok (.iconst 2, 1) := by decide +kernel
theorem dX9_happens_63 : decode cX9_happens 63 = .ok (.iadd, 1) := by decide +kernel
theorem dX9_happens_64 : decode cX9_happens 64 = .ok (.aload_n 0, 1) := by decide +kernel
theorem dX9_happens_65 : decode cX9_happens 65 = .ok (.iconst 0, 1) := by decide +kernel
theorem dX9_happens_66 : decode cX9_happens 66 = .ok (.iaload, 1) := by decide +kernel
theorem dX9_happens_67 : decode cX9_happens 67 = .ok (.iastore, 1) := by decide +kernel
theorem dX9_happens_68 : decode cX9_happens 68 = .ok (.aload_n 0, 1) := by decide +kernel
theorem dX9_happens_69 : decode cX9_happens 69 = .ok (.bipush 80, 2) := by decide +kernel
theorem dX9_happens_71 : decode cX9_happens 71 = .ok (.dup2, 1) := by decide +kernel
theorem dX9_happens_72 : decode cX9_happens 72 = .ok (.iaload, 1) := by decide +kernel
theorem dX9_happens_73 : decode cX9_happens 73 = .ok (.iconst 1, 1) := by decide +kernel
theorem dX9_happens_74 : decode cX9_happens 74 = .ok (.iadd, 1) := by decide +kernel
theorem dX9_happens_75 : decode cX9_happens 75 = .ok (.iastore, 1) := by decide +kernel
theorem dX9_happens_76 : decode cX9_happens 76 = .ok (.aload_n 0, 1) := by decide +kernel
theorem dX9_happens_77 : decode cX9_happens 77 = .ok (.bipush 47, 2) := by decide +kernel
theorem dX9_happens_79 : decode cX9_happens 79 = .ok (.dup2, 1) := by decide +kernel
theorem dX9_happens_80 : decode cX9_happens 80 = .ok (.iaload, 1) := by decide +kernel
theorem dX9_happens_81 : decode cX9_happens 81 = .ok (.iload_n 1, 1) := by decide +kernel
theorem dX9_happens_82 : decode cX9_happens 82 = .ok (.iconst 4, 1) := by decide +kernel
theorem dX9_happens_83 : decode cX9_happens 83 = .ok (.if_icmp .ge 7, 3) := by decide +kernel
theorem dX9_happens_86 : decode cX9_happens 86 = .ok (.iconst 1, 1) := by decide +kernel
theorem dX9_happens_87 : decode cX9_happens 87 = .ok (.goto 4, 3) := by decide +kernel
theorem dX9_happens_90 : decode cX9_happens 90 = .ok (.iconst 0, 1) := by decide +kernel
theorem dX9_happens_91 : decode cX9_happens 91 = .ok (.iadd, 1) := by decide +kernel
theorem dX9_happens_92 : decode cX9_happens 92 = .ok (.iastore, 1) := by decide +kernel
theorem dX9_happens_93 : decode cX9_happens 93 = .ok (.return_, 1) := by decide +kernel
theorem dX9_turns_0 : decode cX9_turns 0 = .ok (.aload_n 0, 1) := by decide +kernel
theorem dX9_turns_1 : decode cX9_turns 1 = .ok (.bipush 8, 2) := by decide +kernel
theorem dX9_turns_3 : decode cX9_turns 3 = .ok (.iload_n 1, 1) := by decide +kernel
theorem dX9_turns_4 : decode cX9_turns 4 = .ok (.iastore, 1) := by decide +kernel
theorem dX9_turns_5 : decode cX9_turns 5 = .ok (.aload_n 0, 1) := by decide +kernel
theorem dX9_turns_6 : decode cX9_turns 6 = .ok (.bipush 9, 2) := by decide +kernel
theorem dX9_turns_8 : decode cX9_turns 8 = .ok (.iload_n 1, 1) := by decide +kernel
theorem dX9_turns_9 : decode cX9_turns 9 = .ok (.aload_n 0, 1) := by decide +kernel
theorem dX9_turns_10 : decode cX9_turns 10 = .ok (.bipush 7, 2) := by decide +kernel
theorem dX9_turns_12 : decode cX9_turns 12 = .ok (.iaload, 1) := by decide +kernel
theorem dX9_turns_13 : decode cX9_turns 13 = .ok (.isub, 1) := by decide +kernel
theorem dX9_turns_14 : decode cX9_turns 14 = .ok (.bipush 6, 2) := by decide +kernel
theorem dX9_turns_16 : decode cX9_turns 16 = .ok (.iadd, 1) := by decide +kernel
theorem dX9_turns_17 : decode cX9_turns 17 = .ok (.bipush 6, 2) := by decide +kernel
theorem dX9_turns_19 : decode cX9_turns 19 = .ok (.irem, 1) := by decide +kernel
theorem dX9_turns_20 : decode cX9_turns 20 = .ok (.aload_n 0, 1) := by decide +kernel
theorem dX9_turns_21 : decode cX9_turns 21 = .ok (.iconst 5, 1) := by decide +kernel
theorem dX9_turns_22 : decode cX9_turns 22 = .ok (.iaload, 1) := by decide +kernel
theorem dX9_turns_23 : decode cX9_turns 23 = .ok (.imul, 1) := by decide +kernel
theorem dX9_turns_24 : decode cX9_turns 24 = .ok (.iastore, 1) := by decide +kernel
theorem dX9_turns_25 : decode cX9_turns 25 = .ok (.aload_n 0, 1) := by decide +kernel
theorem dX9_turns_26 : decode cX9_turns 26 = .ok (.bipush 10, 2) := by decide +kernel
theorem dX9_turns_28 : decode cX9_turns 28 = .ok (.iconst 0, 1) := by decide +kernel
theorem dX9_turns_29 : decode cX9_turns 29 = .ok (.iastore, 1) := by decide +kernel
theorem dX9_turns_30 : decode cX9_turns 30 = .ok (.return_, 1) := by decide +kernel
theorem dX9_isNight_0 : decode cX9_isNight 0 = .ok (.aload_n 0, 1) := by decide +kernel
theorem dX9_isNight_1 : decode cX9_isNight 1 = .ok (.iconst 0, 1) := by decide +kernel
theorem dX9_isNight_2 : decode cX9_isNight 2 = .ok (.iaload, 1) := by decide +kernel
theorem dX9_isNight_3 : decode cX9_isNight 3 = .ok (.bipush 48, 2) := by decide +kernel
theorem dX9_isNight_5 : decode cX9_isNight 5 = .ok (.irem, 1) := by decide +kernel
theorem dX9_isNight_6 : decode cX9_isNight 6 = .ok (.istore_n 1, 1) := by decide +kernel
theorem dX9_isNight_7 : decode cX9_isNight 7 = .ok (.iload_n 1, 1) := by decide +kernel
theorem dX9_isNight_8 : decode cX9_isNight 8 = .ok (.aload_n 0, 1) := by decide +kernel
theorem dX9_isNight_9 : decode cX9_isNight 9 = .ok (.iconst 1, 1) := by decide +kernel
theorem dX9_isNight_10 : decode cX9_isNight 10 = .ok (.iaload, 1) := by decide +kernel
theorem dX9_isNight_11 : decode cX9_isNight 11 = .ok (.isub, 1) := by decide +kernel
theorem dX9_isNight_12 : decode cX9_isNight 12 = .ok (.bipush 48, 2) := by decide +kernel
theorem dX9_isNight_14 : decode cX9_isNight 14 = .ok (.iadd, 1) := by decide +kernel
theorem dX9_isNight_15 : decode cX9_isNight 15 = .ok (.bipush 48, 2) := by decide +kernel
theorem dX9_isNight_17 : decode cX9_isNight 17 = .ok (.irem, 1) := by decide +kernel
theorem dX9_isNight_18 : decode cX9_isNight 18 = .ok (.aload_n 0, 1) := by decide +kernel
theorem dX9_isNight_19 : decode cX9_isNight 19 = .ok (.iconst 2, 1) := by decide +kernel
theorem dX9_isNight_20 : decode cX9_isNight 20 = .ok (.iaload, 1) := by decide +kernel
theorem dX9_isNight_21 : decode cX9_isNight 21 = .ok (.aload_n 0, 1) := by decide +kernel
theorem dX9_isNight_22 : decode cX9_isNight 22 = .ok (.iconst 1, 1) := by decide +kernel
theorem dX9_isNight_23 : decode cX9_isNight 23 = .ok (.iaload, 1) := by decide +kernel
theorem dX9_isNight_24 : decode cX9_isNight 24 = .ok (.isub, 1) := by decide +kernel
theorem dX9_isNight_25 : decode cX9_isNight 25 = .ok (.bipush 48, 2) := by decide +kernel
theorem dX9_isNight_27 : decode cX9_isNight 27 = .ok (.iadd, 1) := by decide +kernel
theorem dX9_isNight_28 : decode cX9_isNight 28 = .ok (.bipush 48, 2) := by decide +kernel
theorem dX9_isNight_30 : decode cX9_isNight 30 = .ok (.irem, 1) := by decide +kernel
theorem dX9_isNight_31 : decode cX9_isNight 31 = .ok (.if_icmp .ge 7, 3) := by decide +kernel
theorem dX9_isNight_34 : decode cX9_isNight 34 = .ok (.iconst 1, 1) := by decide +kernel
theorem dX9_isNight_35 : decode cX9_isNight 35 = .ok (.goto 4, 3) := by decide +kernel
theorem dX9_isNight_38 : decode cX9_isNight 38 = .ok (.iconst 0, 1) := by decide +kernel
theorem dX9_isNight_39 : decode cX9_isNight 39 = .ok (.ireturn, 1) := by decide +kernel
theorem dX9_burns_0 : decode cX9_burns 0 = .ok (.aload_n 0, 1) := by decide +kernel
theorem dX9_burns_1 : decode cX9_burns 1 = .ok (.iload_n 1, 1) := by decide +kernel
theorem dX9_burns_2 : decode cX9_burns 2 = .ok (.iconst 2, 1) := by decide +kernel
theorem dX9_burns_3 : decode cX9_burns 3 = .ok (.aload_n 0, 1) := by decide +kernel
theorem dX9_burns_4 : decode cX9_burns 4 = .ok (.iload_n 1, 1) := by decide +kernel
theorem dX9_burns_5 : decode cX9_burns 5 = .ok (.iconst 2, 1) := by decide +kernel
theorem dX9_burns_6 : decode cX9_burns 6 = .ok (.invokestatic 56, 3) := by decide +kernel
theorem dX9_burns_9 : decode cX9_burns 9 = .ok (.iconst 1, 1) := by decide +kernel
theorem dX9_burns_10 : decode cX9_burns 10 = .ok (.iadd, 1) := by decide +kernel
theorem dX9_burns_11 : decode cX9_burns 11 = .ok (.invokestatic 52, 3) := by decide +kernel
theorem dX9_burns_14 : decode cX9_burns 14 = .ok (.aload_n 0, 1) := by decide +kernel
theorem dX9_burns_15 : decode cX9_burns 15 = .ok (.iload_n 1, 1) := by decide +kernel
theorem dX9_burns_16 : decode cX9_burns 16 = .ok (.iconst 4, 1) := by decide +kernel
theorem dX9_burns_17 : decode cX9_burns 17 = .ok (.aload_n 0, 1) := by decide +kernel
theorem dX9_burns_18 : decode cX9_burns 18 = .ok (.iload_n 1, 1) := by decide +kernel
theorem dX9_burns_19 : decode cX9_burns 19 = .ok (.invokestatic 89, 3) := by decide +kernel
theorem dX9_burns_22 : decode cX9_burns 22 = .ok (.ifCond .eq 14, 3) := by decide +kernel
theorem dX9_burns_25 : decode cX9_burns 25 = .ok (.aload_n 0, 1) := by decide +kernel
theorem dX9_burns_26 : decode cX9_burns 26 = .ok (.iload_n 1, 1) := by decide +kernel
theorem dX9_burns_27 : decode cX9_burns 27 = .ok (.iconst 4, 1) := by decide +kernel
theorem dX9_burns_28 : decode cX9_burns 28 = .ok (.invokestatic 56, 3) := by decide +kernel
theorem dX9_burns_31 : decode cX9_burns 31 = .ok (.iconst 1, 1) := by decide +kernel
theorem dX9_burns_32 : decode cX9_burns 32 = .ok (.iadd, 1) := by decide +kernel
theorem dX9_burns_33 : decode cX9_burns 33 = .ok (.goto 4, 3) := by decide +kernel
theorem dX9_burns_36 : decode cX9_burns 36 = .ok (.iconst 0, 1) := by decide +kernel
theorem dX9_burns_37 : decode cX9_burns 37 = .ok (.invokestatic 52, 3) := by decide +kernel
theorem dX9_burns_40 : decode cX9_burns 40 = .ok (.aload_n 0, 1) := by decide +kernel
theorem dX9_burns_41 : decode cX9_burns 41 = .ok (.iload_n 1, 1) := by decide +kernel
theorem dX9_burns_42 : decode cX9_burns 42 = .ok (.iconst 4, 1) := by decide +kernel
theorem dX9_burns_43 : decode cX9_burns 43 = .ok (.invokestatic 56, 3) := by decide +kernel
theorem dX9_burns_46 : decode cX9_burns 46 = .ok (.aload_n 0, 1) := by decide +kernel
theorem dX9_burns_47 : decode cX9_burns 47 = .ok (.iconst 4, 1) := by decide +kernel
theorem dX9_burns_48 : decode cX9_burns 48 = .ok (.iaload, 1) := by decide +kernel
theorem dX9_burns_49 : decode cX9_burns 49 = .ok (.if_icmp .lt 25, 3) := by decide +kernel
theorem dX9_burns_52 : decode cX9_burns 52 = .ok (.aload_n 0, 1) := by decide +kernel
theorem dX9_burns_53 : decode cX9_burns 53 = .ok (.iload_n 1, 1) := by decide +kernel
theorem dX9_burns_54 : decode cX9_burns 54 = .ok (.iconst 3, 1) := by decide +kernel
theorem dX9_burns_55 : decode cX9_burns 55 = .ok (.invokestatic 56, 3) := by decide +kernel
theorem dX9_burns_58 : decode cX9_burns 58 = .ok (.ifCond .ne 16, 3) := by decide +kernel
theorem dX9_burns_61 : decode cX9_burns 61 = .ok (.aload_n 0, 1) := by decide +kernel
theorem dX9_burns_62 : decode cX9_burns 62 = .ok (.iload_n 1, 1) := by decide +kernel
theorem dX9_burns_63 : decode cX9_burns 63 = .ok (.iconst 3, 1) := by decide +kernel
theorem dX9_burns_64 : decode cX9_burns 64 = .ok (.iconst 1, 1) := by decide +kernel
theorem dX9_burns_65 : decode cX9_burns 65 = .ok (.invokestatic 52, 3) := by decide +kernel
theorem dX9_burns_68 : decode cX9_burns 68 = .ok (.aload_n 0, 1) := by decide +kernel
theorem dX9_burns_69 : decode cX9_burns 69 = .ok (.iconst 1, 1) := by decide +kernel
theorem dX9_burns_70 : decode cX9_burns 70 = .ok (.iload_n 1, 1) := by decide +kernel
theorem dX9_burns_71 : decode cX9_burns 71 = .ok (.invokestatic 92, 3) := by decide +kernel
theorem dX9_burns_74 : decode cX9_burns 74 = .ok (.aload_n 0, 1) := by decide +kernel
theorem dX9_burns_75 : decode cX9_burns 75 = .ok (.bipush 10, 2) := by decide +kernel
theorem dX9_burns_77 : decode cX9_burns 77 = .ok (.iconst 1, 1) := by decide +kernel
theorem dX9_burns_78 : decode cX9_burns 78 = .ok (.iastore, 1) := by decide +kernel
theorem dX9_burns_79 : decode cX9_burns 79 = .ok (.aload_n 0, 1) := by decide +kernel
theorem dX9_burns_80 : decode cX9_burns 80 = .ok (.iload_n 1, 1) := by decide +kernel
theorem dX9_burns_81 : decode cX9_burns 81 = .ok (.invokestatic 71, 3) := by decide +kernel
theorem dX9_burns_84 : decode cX9_burns 84 = .ok (.ifCond .eq 14, 3) := by decide +kernel
theorem dX9_burns_87 : decode cX9_burns 87 = .ok (.aload_n 0, 1) := by decide +kernel
theorem dX9_burns_88 : decode cX9_burns 88 = .ok (.iconst 0, 1) := by decide +kernel
theorem dX9_burns_89 : decode cX9_burns 89 = .ok (.iload_n 1, 1) := by decide +kernel
theorem dX9_burns_90 : decode cX9_burns 90 = .ok (.invokestatic 92, 3) := by decide +kernel
theorem dX9_burns_93 : decode cX9_burns 93 = .ok (.aload_n 0, 1) := by decide +kernel
theorem dX9_burns_94 : decode cX9_burns 94 = .ok (.bipush 10, 2) := by decide +kernel
theorem dX9_burns_96 : decode cX9_burns 96 = .ok (.iconst 0, 1) := by decide +kernel
theorem dX9_burns_97 : decode cX9_burns 97 = .ok (.iastore, 1) := by decide +kernel
theorem dX9_burns_98 : decode cX9_burns 98 = .ok (.return_, 1) := by decide +kernel
theorem dX9_isLit_0 : decode cX9_isLit 0 = .ok (.aload_n 0, 1) := by decide +kernel
theorem dX9_isLit_1 : decode cX9_isLit 1 = .ok (.bipush 7, 2) := by decide +kernel
theorem dX9_isLit_3 : decode cX9_isLit 3 = .ok (.iaload, 1) := by decide +kernel
theorem dX9_isLit_4 : decode cX9_isLit 4 = .ok (.istore_n 1, 1) := by decide +kernel
theorem dX9_isLit_5 : decode cX9_isLit 5 = .ok (.aload_n 0, 1) := by decide +kernel
theorem dX9_isLit_6 : decode cX9_isLit 6 = .ok (.iload_n 1, 1) := by decide +kernel
theorem dX9_isLit_7 : decode cX9_isLit 7 = .ok (.iconst 0, 1) := by decide +kernel
theorem dX9_isLit_8 : decode cX9_isLit 8 = .ok (.invokestatic 81, 3) := by decide +kernel
theorem dX9_isLit_11 : decode cX9_isLit 11 = .ok (.ifCond .ne 32, 3) := by decide +kernel
theorem dX9_isLit_14 : decode cX9_isLit 14 = .ok (.aload_n 0, 1) := by decide +kernel
theorem dX9_isLit_15 : decode cX9_isLit 15 = .ok (.invokestatic 96, 3) := by decide +kernel
theorem dX9_isLit_18 : decode cX9_isLit 18 = .ok (.istore_n 2, 1) := by decide +kernel
theorem dX9_isLit_19 : decode cX9_isLit 19 = .ok (.iload_n 2, 1) := by decide +kernel
theorem dX9_isLit_20 : decode cX9_isLit 20 = .ok (.bipush (-5), 2) := by decide +kernel
theorem dX9_isLit_22 : decode cX9_isLit 22 = .ok (.if_icmp .eq 19, 3) := by decide +kernel
theorem dX9_isLit_25 : decode cX9_isLit 25 = .ok (.iload_n 2, 1) := by decide +kernel
theorem dX9_isLit_26 : decode cX9_isLit 26 = .ok (.iload_n 1, 1) := by decide +kernel
theorem dX9_isLit_27 : decode cX9_isLit 27 = .ok (.if_icmp .eq 14, 3) := by decide +kernel
theorem dX9_isLit_30 : decode cX9_isLit 30 = .ok (.aload_n 0, 1) := by decide +kernel
theorem dX9_isLit_31 : decode cX9_isLit 31 = .ok (.iload_n 2, 1) := by decide +kernel
theorem dX9_isLit_32 : decode cX9_isLit 32 = .ok (.invokestatic 100, 3) := by decide +kernel
theorem dX9_isLit_35 : decode cX9_isLit 35 = .ok (.aload_n 0, 1) := by decide +kernel
theorem dX9_isLit_36 : decode cX9_isLit 36 = .ok (.iconst 2, 1) := by decide +kernel
theorem dX9_isLit_37 : decode cX9_isLit 37 = .ok (.iload_n 2, 1) := by decide +kernel
theorem dX9_isLit_38 : decode cX9_isLit 38 = .ok (.invokestatic 92, 3) := by decide +kernel
theorem dX9_isLit_41 : decode cX9_isLit 41 = .ok (.iconst 0, 1) := by decide +kernel
theorem dX9_isLit_42 : decode cX9_isLit 42 = .ok (.ireturn, 1) := by decide +kernel
theorem dX9_isLit_43 : decode cX9_isLit 43 = .ok (.aload_n 0, 1) := by decide +kernel
theorem dX9_isLit_44 : decode cX9_isLit 44 = .ok (.bipush 10, 2) := by decide +kernel
theorem dX9_isLit_46 : decode cX9_isLit 46 = .ok (.iaload, 1) := by decide +kernel
theorem dX9_isLit_47 : decode cX9_isLit 47 = .ok (.ifCond .ne 46, 3) := by decide +kernel
theorem dX9_isLit_50 : decode cX9_isLit 50 = .ok (.aload_n 0, 1) := by decide +kernel
theorem dX9_isLit_51 : decode cX9_isLit 51 = .ok (.iload_n 1, 1) := by decide +kernel
theorem dX9_isLit_52 : decode cX9_isLit 52 = .ok (.iconst 2, 1) := by decide +kernel
theorem dX9_isLit_53 : decode cX9_isLit 53 = .ok (.aload_n 0, 1) := by decide +kernel
theorem dX9_isLit_54 : decode cX9_isLit 54 = .ok (.iload_n 1, 1) := by decide +kernel
theorem dX9_isLit_55 : decode cX9_isLit 55 = .ok (.iconst 2, 1) := by decide +kernel
theorem dX9_isLit_56 : decode cX9_isLit 56 = .ok (.invokestatic 56, 3) := by decide +kernel
theorem dX9_isLit_59 : decode cX9_isLit 59 = .ok (.aload_n 0, 1) := by decide +kernel
theorem dX9_isLit_60 : decode cX9_isLit 60 = .ok (.iload_n 1, 1) := by decide +kernel
theorem dX9_isLit_61 : decode cX9_isLit 61 = .ok (.iconst 0, 1) := by decide +kernel
theorem dX9_isLit_62 : decode cX9_isLit 62 = .ok (.invokestatic 56, 3) := by decide +kernel
theorem dX9_isLit_65 : decode cX9_isLit 65 = .ok (.bipush 10, 2) := by decide +kernel
theorem dX9_isLit_67 : decode cX9_isLit 67 = .ok (.bipush 15, 2) := by decide +kernel
theorem dX9_isLit_69 : decode cX9_isLit 69 = .ok (.iconst 5, 1) := by decide +kernel
theorem dX9_isLit_70 : decode cX9_isLit 70 = .ok (.invokestatic 60, 3) := by decide +kernel
theorem dX9_isLit_73 : decode cX9_isLit 73 = .ok (.iadd, 1) := by decide +kernel
theorem dX9_isLit_74 : decode cX9_isLit 74 = .ok (.invokestatic 52, 3) := by decide +kernel
theorem dX9_isLit_77 : decode cX9_isLit 77 = .ok (.aload_n 0, 1) := by decide +kernel
theorem dX9_isLit_78 : decode cX9_isLit 78 = .ok (.iload_n 1, 1) := by decide +kernel
theorem dX9_isLit_79 : decode cX9_isLit 79 = .ok (.invokestatic 71, 3) := by decide +kernel
theorem dX9_isLit_82 : decode cX9_isLit 82 = .ok (.ifCond .eq 11, 3) := by decide +kernel
theorem dX9_isLit_85 : decode cX9_isLit 85 = .ok (.aload_n 0, 1) := by decide +kernel
theorem dX9_isLit_86 : decode cX9_isLit 86 = .ok (.iconst 0, 1) := by decide +kernel
theorem dX9_isLit_87 : decode cX9_isLit 87 = .ok (.iload_n 1, 1) := by decide +kernel
theorem dX9_isLit_88 : decode cX9_isLit 88 = .ok (.invokestatic 92, 3) := by decide +kernel
theorem dX9_isLit_91 : decode cX9_isLit 91 = .ok (.iconst 0, 1) := by decide +kernel
theorem dX9_isLit_92 : decode cX9_isLit 92 = .ok (.ireturn, 1) := by decide +kernel
theorem dX9_isLit_93 : decode cX9_isLit 93 = .ok (.aload_n 0, 1) := by decide +kernel
theorem dX9_isLit_94 : decode cX9_isLit 94 = .ok (.iload_n 1, 1) := by decide +kernel
theorem dX9_isLit_95 : decode cX9_isLit 95 = .ok (.invokestatic 103, 3) := by decide +kernel
theorem dX9_isLit_98 : decode cX9_isLit 98 = .ok (.iconst 1, 1) := by decide +kernel
theorem dX9_isLit_99 : decode cX9_isLit 99 = .ok (.ireturn, 1) := by decide +kernel
theorem dX9_days_0 : decode cX9_days 0 = .ok (.aload_n 0, 1) := by decide +kernel
theorem dX9_days_1 : decode cX9_days 1 = .ok (.bipush 10, 2) := by decide +kernel
theorem dX9_days_3 : decode cX9_days 3 = .ok (.iconst 0, 1) := by decide +kernel
theorem dX9_days_4 : decode cX9_days 4 = .ok (.iastore, 1) := by decide +kernel
theorem dX9_days_5 : decode cX9_days 5 = .ok (.aload_n 0, 1) := by decide +kernel
theorem dX9_days_6 : decode cX9_days 6 = .ok (.iconst 1, 1) := by decide +kernel
theorem dX9_days_7 : decode cX9_days 7 = .ok (.invokestatic 85, 3) := by decide +kernel
theorem dX9_days_10 : decode cX9_days 10 = .ok (.istore_n 1, 1) := by decide +kernel
theorem dX9_days_11 : decode cX9_days 11 = .ok (.aload_n 0, 1) := by decide +kernel
theorem dX9_days_12 : decode cX9_days 12 = .ok (.aload_n 0, 1) := by decide +kernel
theorem dX9_days_13 : decode cX9_days 13 = .ok (.bipush 7, 2) := by decide +kernel
theorem dX9_days_15 : decode cX9_days 15 = .ok (.iaload, 1) := by decide +kernel
theorem dX9_days_16 : decode cX9_days 16 = .ok (.iconst 1, 1) := by decide +kernel
theorem dX9_days_17 : decode cX9_days 17 = .ok (.invokestatic 81, 3) := by decide +kernel
theorem dX9_days_20 : decode cX9_days 20 = .ok (.ifCond .ne 20, 3) := by decide +kernel
theorem dX9_days_23 : decode cX9_days 23 = .ok (.iload_n 1, 1) := by decide +kernel
theorem dX9_days_24 : decode cX9_days 24 = .ok (.bipush (-5), 2) := by decide +kernel
theorem dX9_days_26 : decode cX9_days 26 = .ok (.if_icmp .eq 14, 3) := by decide +kernel
theorem dX9_days_29 : decode cX9_days 29 = .ok (.aload_n 0, 1) := by decide +kernel
theorem dX9_days_30 : decode cX9_days 30 = .ok (.iload_n 1, 1) := by decide +kernel
theorem dX9_days_31 : decode cX9_days 31 = .ok (.invokestatic 100, 3) := by decide +kernel
theorem dX9_days_34 : decode cX9_days 34 = .ok (.aload_n 0, 1) := by decide +kernel
theorem dX9_days_35 : decode cX9_days 35 = .ok (.iconst 3, 1) := by decide +kernel
theorem dX9_days_36 : decode cX9_days 36 = .ok (.iload_n 1, 1) := by decide +kernel
theorem dX9_days_37 : decode cX9_days 37 = .ok (.invokestatic 92, 3) := by decide +kernel
theorem dX9_days_40 : decode cX9_days 40 = .ok (.return_, 1) := by decide +kernel
theorem dX9_lowest_0 : decode cX9_lowest 0 = .ok (.aload_n 0, 1) := by decide +kernel
theorem dX9_lowest_1 : decode cX9_lowest 1 = .ok (.bipush 41, 2) := by decide +kernel
theorem dX9_lowest_3 : decode cX9_lowest 3 = .ok (.iaload, 1) := by decide +kernel
theorem dX9_lowest_4 : decode cX9_lowest 4 = .ok (.ifCond .le 7, 3) := by decide +kernel
theorem dX9_lowest_7 : decode cX9_lowest 7 = .ok (.iconst 0, 1) := by decide +kernel
theorem dX9_lowest_8 : decode cX9_lowest 8 = .ok (.goto 27, 3) := by decide +kernel
theorem dX9_lowest_11 : decode cX9_lowest 11 = .ok (.aload_n 0, 1) := by decide +kernel
theorem dX9_lowest_12 : decode cX9_lowest 12 = .ok (.bipush 42, 2) := by decide +kernel
theorem dX9_lowest_14 : decode cX9_lowest 14 = .ok (.iaload, 1) := by decide +kernel
theorem dX9_lowest_15 : decode cX9_lowest 15 = .ok (.ifCond .le 7, 3) := by decide +kernel
theorem dX9_lowest_18 : decode cX9_lowest 18 = .ok (.iconst 1, 1) := by decide +kernel
theorem dX9_lowest_19 : decode cX9_lowest 19 = .ok (.goto 16, 3) := by decide +kernel
theorem dX9_lowest_22 : decode cX9_lowest 22 = .ok (.aload_n 0, 1) := by decide +kernel
theorem dX9_lowest_23 : decode cX9_lowest 23 = .ok (.bipush 43, 2) := by decide +kernel
theorem dX9_lowest_25 : decode cX9_lowest 25 = .ok (.iaload, 1) := by decide +kernel
theorem dX9_lowest_26 : decode cX9_lowest 26 = .ok (.ifCond .le 7, 3) := by decide +kernel
theorem dX9_lowest_29 : decode cX9_lowest 29 = .ok (.iconst 2, 1) := by decide +kernel
theorem dX9_lowest_30 : decode cX9_lowest 30 = .ok (.goto 5, 3) := by decide +kernel
theorem dX9_lowest_33 : decode cX9_lowest 33 = .ok (.bipush (-5), 2) := by decide +kernel
theorem dX9_lowest_35 : decode cX9_lowest 35 = .ok (.ireturn, 1) := by decide +kernel
theorem dX9_lands_0 : decode cX9_lands 0 = .ok (.aload_n 0, 1) := by decide +kernel
theorem dX9_lands_1 : decode cX9_lands 1 = .ok (.iload_n 1, 1) := by decide +kernel
theorem dX9_lands_2 : decode cX9_lands 2 = .ok (.iconst 1, 1) := by decide +kernel
theorem dX9_lands_3 : decode cX9_lands 3 = .ok (.iadd, 1) := by decide +kernel
theorem dX9_lands_4 : decode cX9_lands 4 = .ok (.iaload, 1) := by decide +kernel
theorem dX9_lands_5 : decode cX9_lands 5 = .ok (.istore_n 2, 1) := by decide +kernel
theorem dX9_lands_6 : decode cX9_lands 6 = .ok (.aload_n 0, 1) := by decide +kernel
theorem dX9_lands_7 : decode cX9_lands 7 = .ok (.bipush 41, 2) := by decide +kernel
theorem dX9_lands_9 : decode cX9_lands 9 = .ok (.iload_n 2, 1) := by decide +kernel
theorem dX9_lands_10 : decode cX9_lands 10 = .ok (.iadd, 1) := by decide +kernel
theorem dX9_lands_11 : decode cX9_lands 11 = .ok (.iaload, 1) := by decide +kernel
theorem dX9_lands_12 : decode cX9_lands 12 = .ok (.aload_n 0, 1) := by decide +kernel
theorem dX9_lands_13 : decode cX9_lands 13 = .ok (.iload_n 1, 1) := by decide +kernel
theorem dX9_lands_14 : decode cX9_lands 14 = .ok (.iconst 2, 1) := by decide +kernel
theorem dX9_lands_15 : decode cX9_lands 15 = .ok (.iadd, 1) := by decide +kernel
theorem dX9_lands_16 : decode cX9_lands 16 = .ok (.iaload, 1) := by decide +kernel
theorem dX9_lands_17 : decode cX9_lands 17 = .ok (.iadd, 1) := by decide +kernel
theorem dX9_lands_18 : decode cX9_lands 18 = .ok (.istore_n 3, 1) := by decide +kernel
theorem dX9_lands_19 : decode cX9_lands 19 = .ok (.aload_n 0, 1) := by decide +kernel
theorem dX9_lands_20 : decode cX9_lands 20 = .ok (.bipush 41, 2) := by decide +kernel
theorem dX9_lands_22 : decode cX9_lands 22 = .ok (.iload_n 2, 1) := by decide +kernel
theorem dX9_lands_23 : decode cX9_lands 23 = .ok (.iadd, 1) := by decide +kernel
theorem dX9_lands_24 : decode cX9_lands 24 = .ok (.iload_n 3, 1) := by decide +kernel
theorem dX9_lands_25 : decode cX9_lands 25 = .ok (.bipush 99, 2) := by decide +kernel
theorem dX9_lands_27 : decode cX9_lands 27 = .ok (.if_icmp .le 8, 3) := by decide +kernel
theorem dX9_lands_30 : decode cX9_lands 30 = .ok (.bipush 99, 2) := by decide +kernel
theorem dX9_lands_32 : decode cX9_lands 32 = .ok (.goto 4, 3) := by decide +kernel
theorem dX9_lands_35 : decode cX9_lands 35 = .ok (.iload_n 3, 1) := by decide +kernel
theorem dX9_lands_36 : decode cX9_lands 36 = .ok (.iastore, 1) := by decide +kernel
theorem dX9_lands_37 : decode cX9_lands 37 = .ok (.iconst 0, 1) := by decide +kernel
theorem dX9_lands_38 : decode cX9_lands 38 = .ok (.istore 4, 2) := by decide +kernel
theorem dX9_lands_40 : decode cX9_lands 40 = .ok (.iload 4, 2) := by decide +kernel
theorem dX9_lands_42 : decode cX9_lands 42 = .ok (.bipush 6, 2) := by decide +kernel
theorem dX9_lands_44 : decode cX9_lands 44 = .ok (.if_icmp .ge 75, 3) := by decide +kernel
theorem dX9_lands_47 : decode cX9_lands 47 = .ok (.aload_n 0, 1) := by decide +kernel
theorem dX9_lands_48 : decode cX9_lands 48 = .ok (.bipush 10, 2) := by decide +kernel
theorem dX9_lands_50 : decode cX9_lands 50 = .ok (.iaload, 1) := by decide +kernel
theorem dX9_lands_51 : decode cX9_lands 51 = .ok (.iconst 1, 1) := by decide +kernel
theorem dX9_lands_52 : decode cX9_lands 52 = .ok (.if_icmp .ne 16, 3) := by decide +kernel
theorem dX9_lands_55 : decode cX9_lands 55 = .ok (.iload 4, 2) := by decide +kernel
theorem dX9_lands_57 : decode cX9_lands 57 = .ok (.aload_n 0, 1) := by decide +kernel
theorem dX9_lands_58 : decode cX9_lands 58 = .ok (.bipush 7, 2) := by decide +kernel
theorem dX9_lands_60 : decode cX9_lands 60 = .ok (.iaload, 1) := by decide +kernel
theorem dX9_lands_61 : decode cX9_lands 61 = .ok (.if_icmp .ne 7, 3) := by decide +kernel
theorem dX9_lands_64 : decode cX9_lands 64 = .ok (.iconst 1, 1) := by decide +kernel
theorem dX9_lands_65 : decode cX9_lands 65 = .ok (.goto 4, 3) := by decide +kernel
theorem dX9_lands_68 : decode cX9_lands 68 = .ok (.iconst 0, 1) := by decide +kernel
theorem dX9_lands_69 : decode cX9_lands 69 = .ok (.istore 5, 2) := by decide +kernel
theorem dX9_lands_71 : decode cX9_lands 71 = .ok (.aload_n 0, 1) := by decide +kernel
theorem dX9_lands_72 : decode cX9_lands 72 = .ok (.iload 4, 2) := by decide +kernel
theorem dX9_lands_74 : decode cX9_lands 74 = .ok (.invokestatic 78, 3) := by decide +kernel
theorem dX9_lands_77 : decode cX9_lands 77 = .ok (.ifCond .eq 36, 3) := by decide +kernel
theorem dX9_lands_80 : decode cX9_lands 80 = .ok (.iload 5, 2) := by decide +kernel
theorem dX9_lands_82 : decode cX9_lands 82 = .ok (.ifCond .ne 31, 3) := by decide +kernel
theorem dX9_lands_85 : decode cX9_lands 85 = .ok (.aload_n 0, 1) := by decide +kernel
theorem dX9_lands_86 : decode cX9_lands 86 = .ok (.iload 4, 2) := by decide +kernel
theorem dX9_lands_88 : decode cX9_lands 88 = .ok (.aload_n 0, 1) := by decide +kernel
theorem dX9_lands_89 : decode cX9_lands 89 = .ok (.bipush 6, 2) := by decide +kernel
theorem dX9_lands_91 : decode cX9_lands 91 = .ok (.iaload, 1) := by decide +kernel
theorem dX9_lands_92 : decode cX9_lands 92 = .ok (.iconst 1, 1) := by decide +kernel
theorem dX9_lands_93 : decode cX9_lands 93 = .ok (.if_icmp .ne 7, 3) := by decide +kernel
theorem dX9_lands_96 : decode cX9_lands 96 = .ok (.iconst 1, 1) := by decide +kernel
theorem dX9_lands_97 : decode cX9_lands 97 = .ok (.goto 4, 3) := by decide +kernel
theorem dX9_lands_100 : decode cX9_lands 100 = .ok (.iconst 0, 1) := by decide +kernel
theorem dX9_lands_101 : decode cX9_lands 101 = .ok (.invokestatic 81, 3) := by decide +kernel
theorem dX9_lands_104 : decode cX9_lands 104 = .ok (.ifCond .ne 9, 3) := by decide +kernel
theorem dX9_lands_107 : decode cX9_lands 107 = .ok (.aload_n 0, 1) := by decide +kernel
theorem dX9_lands_108 : decode cX9_lands 108 = .ok (.iload 4, 2) := by decide +kernel
theorem dX9_lands_110 : decode cX9_lands 110 = .ok (.invokestatic 29, 3) := by decide +kernel
theorem dX9_lands_113 : decode cX9_lands 113 = .ok (.iinc 4 1, 3) := by decide +kernel
theorem dX9_lands_116 : decode cX9_lands 116 = .ok (.goto (-76), 3) := by decide +kernel
theorem dX9_lands_119 : decode cX9_lands 119 = .ok (.iconst 0, 1) := by decide +kernel
theorem dX9_lands_120 : decode cX9_lands 120 = .ok (.istore 4, 2) := by decide +kernel
theorem dX9_lands_122 : decode cX9_lands 122 = .ok (.iconst 0, 1) := by decide +kernel
theorem dX9_lands_123 : decode cX9_lands 123 = .ok (.istore 5, 2) := by decide +kernel
theorem dX9_lands_125 : decode cX9_lands 125 = .ok (.iload 5, 2) := by decide +kernel
theorem dX9_lands_127 : decode cX9_lands 127 = .ok (.bipush 6, 2) := by decide +kernel
theorem dX9_lands_129 : decode cX9_lands 129 = .ok (.if_icmp .ge 55, 3) := by decide +kernel
theorem dX9_lands_132 : decode cX9_lands 132 = .ok (.aload_n 0, 1) := by decide +kernel
theorem dX9_lands_133 : decode cX9_lands 133 = .ok (.invokestatic 106, 3) := by decide +kernel
theorem dX9_lands_136 : decode cX9_lands 136 = .ok (.istore 6, 2) := by decide +kernel
theorem dX9_lands_138 : decode cX9_lands 138 = .ok (.aload_n 0, 1) := by decide +kernel
theorem dX9_lands_139 : decode cX9_lands 139 = .ok (.iload 5, 2) := by decide +kernel
theorem dX9_lands_141 : decode cX9_lands 141 = .ok (.invokestatic 78, 3) := by decide +kernel
theorem dX9_lands_144 : decode cX9_lands 144 = .ok (.ifCond .ne 34, 3) := by decide +kernel
theorem dX9_lands_147 : decode cX9_lands 147 = .ok (.iload 6, 2) := by decide +kernel
theorem dX9_lands_149 : decode cX9_lands 149 = .ok (.bipush (-5), 2) := by decide +kernel
theorem dX9_lands_151 : decode cX9_lands 151 = .ok (.if_icmp .eq 27, 3) := by decide +kernel
theorem dX9_lands_154 : decode cX9_lands 154 = .ok (.aload_n 0, 1) := by decide +kernel
theorem dX9_lands_155 : decode cX9_lands 155 = .ok (.iload 5, 2) := by decide +kernel
theorem dX9_lands_157 : decode cX9_lands 157 = .ok (.iload 6, 2) := by decide +kernel
theorem dX9_lands_159 : decode cX9_lands 159 = .ok (.bipush 100, 2) := by decide +kernel
theorem dX9_lands_161 : decode cX9_lands 161 = .ok (.invokestatic 109, 3) := by decide +kernel
theorem dX9_lands_164 : decode cX9_lands 164 = .ok (.aload_n 0, 1) := by decide +kernel
theorem dX9_lands_165 : decode cX9_lands 165 = .ok (.bipush 41, 2) := by decide +kernel
theorem dX9_lands_167 : decode cX9_lands 167 = .ok (.iload 6, 2) := by decide +kernel
theorem dX9_lands_169 : decode cX9_lands 169 = .ok (.iadd, 1) := by decide +kernel
theorem dX9_lands_170 : decode cX9_lands 170 = .ok (.dup2, 1) := by decide +kernel
theorem dX9_lands_171 : decode cX9_lands 171 = .ok (.iaload, 1) := by decide +kernel
theorem dX9_lands_172 : decode cX9_lands 172 = .ok (.iconst 1, 1) := by decide +kernel
theorem dX9_lands_173 : decode cX9_lands 173 = .ok (.isub, 1) := by decide +kernel
theorem dX9_lands_174 : decode cX9_lands 174 = .ok (.iastore, 1) := by decide +kernel
theorem dX9_lands_175 : decode cX9_lands 175 = .ok (.iinc 4 1, 3) := by decide +kernel
theorem dX9_lands_178 : decode cX9_lands 178 = .ok (.iinc 5 1, 3) := by decide +kernel
theorem dX9_lands_181 : decode cX9_lands 181 = .ok (.goto (-56), 3) := by decide +kernel
theorem dX9_lands_184 : decode cX9_lands 184 = .ok (.aload_n 0, 1) := by decide +kernel
theorem dX9_lands_185 : decode cX9_lands 185 = .ok (.bipush 48, 2) := by decide +kernel
theorem dX9_lands_187 : decode cX9_lands 187 = .ok (.dup2, 1) := by decide +kernel
theorem dX9_lands_188 : decode cX9_lands 188 = .ok (.iaload, 1) := by decide +kernel
theorem dX9_lands_189 : decode cX9_lands 189 = .ok (.iconst 1, 1) := by decide +kernel
theorem dX9_lands_190 : decode cX9_lands 190 = .ok (.iadd, 1) := by decide +kernel
theorem dX9_lands_191 : decode cX9_lands 191 = .ok (.iastore, 1) := by decide +kernel
theorem dX9_lands_192 : decode cX9_lands 192 = .ok (.aload_n 0, 1) := by decide +kernel
theorem dX9_lands_193 : decode cX9_lands 193 = .ok (.iconst 4, 1) := by decide +kernel
theorem dX9_lands_194 : decode cX9_lands 194 = .ok (.iload 4, 2) := by decide +kernel
theorem dX9_lands_196 : decode cX9_lands 196 = .ok (.invokestatic 92, 3) := by decide +kernel
theorem dX9_lands_199 : decode cX9_lands 199 = .ok (.return_, 1) := by decide +kernel
theorem dX9_passes_0 : decode cX9_passes 0 = .ok (.aload_n 0, 1) := by decide +kernel
theorem dX9_passes_1 : decode cX9_passes 1 = .ok (.bipush 8, 2) := by decide +kernel
theorem dX9_passes_3 : decode cX9_passes 3 = .ok (.iaload, 1) := by decide +kernel
theorem dX9_passes_4 : decode cX9_passes 4 = .ok (.bipush (-5), 2) := by decide +kernel
theorem dX9_passes_6 : decode cX9_passes 6 = .ok (.if_icmp .eq 32, 3) := by decide +kernel
theorem dX9_passes_9 : decode cX9_passes 9 = .ok (.aload_n 0, 1) := by decide +kernel
theorem dX9_passes_10 : decode cX9_passes 10 = .ok (.bipush 9, 2) := by decide +kernel
theorem dX9_passes_12 : decode cX9_passes 12 = .ok (.dup2, 1) := by decide +kernel
theorem dX9_passes_13 : decode cX9_passes 13 = .ok (.iaload, 1) := by decide +kernel
theorem dX9_passes_14 : decode cX9_passes 14 = .ok (.iconst 1, 1) := by decide +kernel
theorem dX9_passes_15 : decode cX9_passes 15 = .ok (.isub, 1) := by decide +kernel
theorem dX9_passes_16 : decode cX9_passes 16 = .ok (.iastore, 1) := by decide +kernel
theorem dX9_passes_17 : decode cX9_passes 17 = .ok (.aload_n 0, 1) := by decide +kernel
theorem dX9_passes_18 : decode cX9_passes 18 = .ok (.bipush 9, 2) := by decide +kernel
theorem dX9_passes_20 : decode cX9_passes 20 = .ok (.iaload, 1) := by decide +kernel
theorem dX9_passes_21 : decode cX9_passes 21 = .ok (.ifCond .ne 17, 3) := by decide +kernel
theorem dX9_passes_24 : decode cX9_passes 24 = .ok (.aload_n 0, 1) := by decide +kernel
theorem dX9_passes_25 : decode cX9_passes 25 = .ok (.bipush 7, 2) := by decide +kernel
theorem dX9_passes_27 : decode cX9_passes 27 = .ok (.aload_n 0, 1) := by decide +kernel
theorem dX9_passes_28 : decode cX9_passes 28 = .ok (.bipush 8, 2) := by decide +kernel
theorem dX9_passes_30 : decode cX9_passes 30 = .ok (.iaload, 1) := by decide +kernel
theorem dX9_passes_31 : decode cX9_passes 31 = .ok (.iastore, 1) := by decide +kernel
theorem dX9_passes_32 : decode cX9_passes 32 = .ok (.aload_n 0, 1) := by decide +kernel
theorem dX9_passes_33 : decode cX9_passes 33 = .ok (.bipush 8, 2) := by decide +kernel
theorem dX9_passes_35 : decode cX9_passes 35 = .ok (.bipush (-5), 2) := by decide +kernel
theorem dX9_passes_37 : decode cX9_passes 37 = .ok (.iastore, 1) := by decide +kernel
theorem dX9_passes_38 : decode cX9_passes 38 = .ok (.aload_n 0, 1) := by decide +kernel
theorem dX9_passes_39 : decode cX9_passes 39 = .ok (.invokestatic 112, 3) := by decide +kernel
theorem dX9_passes_42 : decode cX9_passes 42 = .ok (.istore_n 2, 1) := by decide +kernel
theorem dX9_passes_43 : decode cX9_passes 43 = .ok (.aload_n 0, 1) := by decide +kernel
theorem dX9_passes_44 : decode cX9_passes 44 = .ok (.bipush 8, 2) := by decide +kernel
theorem dX9_passes_46 : decode cX9_passes 46 = .ok (.iaload, 1) := by decide +kernel
theorem dX9_passes_47 : decode cX9_passes 47 = .ok (.bipush (-5), 2) := by decide +kernel
theorem dX9_passes_49 : decode cX9_passes 49 = .ok (.if_icmp .ne 7, 3) := by decide +kernel
theorem dX9_passes_52 : decode cX9_passes 52 = .ok (.iconst 1, 1) := by decide +kernel
theorem dX9_passes_53 : decode cX9_passes 53 = .ok (.goto 4, 3) := by decide +kernel
theorem dX9_passes_56 : decode cX9_passes 56 = .ok (.iconst 0, 1) := by decide +kernel
theorem dX9_passes_57 : decode cX9_passes 57 = .ok (.istore_n 3, 1) := by decide +kernel
theorem dX9_passes_58 : decode cX9_passes 58 = .ok (.iload_n 2, 1) := by decide +kernel
theorem dX9_passes_59 : decode cX9_passes 59 = .ok (.ifCond .eq 18, 3) := by decide +kernel
theorem dX9_passes_62 : decode cX9_passes 62 = .ok (.iload_n 3, 1) := by decide +kernel
theorem dX9_passes_63 : decode cX9_passes 63 = .ok (.ifCond .eq 14, 3) := by decide +kernel
theorem dX9_passes_66 : decode cX9_passes 66 = .ok (.aload_n 0, 1) := by decide +kernel
theorem dX9_passes_67 : decode cX9_passes 67 = .ok (.invokestatic 116, 3) := by decide +kernel
theorem dX9_passes_70 : decode cX9_passes 70 = .ok (.ifCond .eq 7, 3) := by decide +kernel
theorem dX9_passes_73 : decode cX9_passes 73 = .ok (.iconst 1, 1) := by decide +kernel
theorem dX9_passes_74 : decode cX9_passes 74 = .ok (.goto 4, 3) := by decide +kernel
theorem dX9_passes_77 : decode cX9_passes 77 = .ok (.iconst 0, 1) := by decide +kernel
theorem dX9_passes_78 : decode cX9_passes 78 = .ok (.istore 4, 2) := by decide +kernel
theorem dX9_passes_80 : decode cX9_passes 80 = .ok (.iload_n 3, 1) := by decide +kernel
theorem dX9_passes_81 : decode cX9_passes 81 = .ok (.ifCond .eq 11, 3) := by decide +kernel
theorem dX9_passes_84 : decode cX9_passes 84 = .ok (.iload_n 2, 1) := by decide +kernel
theorem dX9_passes_85 : decode cX9_passes 85 = .ok (.ifCond .ne 7, 3) := by decide +kernel
theorem dX9_passes_88 : decode cX9_passes 88 = .ok (.aload_n 0, 1) := by decide +kernel
theorem dX9_passes_89 : decode cX9_passes 89 = .ok (.invokestatic 119, 3) := by decide +kernel
theorem dX9_passes_92 : decode cX9_passes 92 = .ok (.iload_n 2, 1) := by decide +kernel
theorem dX9_passes_93 : decode cX9_passes 93 = .ok (.ifCond .eq 12, 3) := by decide +kernel
theorem dX9_passes_96 : decode cX9_passes 96 = .ok (.iload 4, 2) := by decide +kernel
theorem dX9_passes_98 : decode cX9_passes 98 = .ok (.ifCond .ne 7, 3) := by decide +kernel
theorem dX9_passes_101 : decode cX9_passes 101 = .ok (.iconst 1, 1) := by decide +kernel
theorem dX9_passes_102 : decode cX9_passes 102 = .ok (.goto 4, 3) := by decide +kernel
theorem dX9_passes_105 : decode cX9_passes 105 = .ok (.iconst 0, 1) := by decide +kernel
theorem dX9_passes_106 : decode cX9_passes 106 = .ok (.istore 5, 2) := by decide +kernel
theorem dX9_passes_108 : decode cX9_passes 108 = .ok (.aload_n 0, 1) := by decide +kernel
theorem dX9_passes_109 : decode cX9_passes 109 = .ok (.bipush 44, 2) := by decide +kernel
theorem dX9_passes_111 : decode cX9_passes 111 = .ok (.dup2, 1) := by decide +kernel
theorem dX9_passes_112 : decode cX9_passes 112 = .ok (.iaload, 1) := by decide +kernel
theorem dX9_passes_113 : decode cX9_passes 113 = .ok (.iload 5, 2) := by decide +kernel
theorem dX9_passes_115 : decode cX9_passes 115 = .ok (.ifCond .eq 7, 3) := by decide +kernel
theorem dX9_passes_118 : decode cX9_passes 118 = .ok (.iconst 1, 1) := by decide +kernel
theorem dX9_passes_119 : decode cX9_passes 119 = .ok (.goto 4, 3) := by decide +kernel
theorem dX9_passes_122 : decode cX9_passes 122 = .ok (.iconst 0, 1) := by decide +kernel
theorem dX9_passes_123 : decode cX9_passes 123 = .ok (.iadd, 1) := by decide +kernel
theorem dX9_passes_124 : decode cX9_passes 124 = .ok (.iastore, 1) := by decide +kernel
theorem dX9_passes_125 : decode cX9_passes 125 = .ok (.aload_n 0, 1) := by decide +kernel
theorem dX9_passes_126 : decode cX9_passes 126 = .ok (.bipush 45, 2) := by decide +kernel
theorem dX9_passes_128 : decode cX9_passes 128 = .ok (.iload 5, 2) := by decide +kernel
theorem dX9_passes_130 : decode cX9_passes 130 = .ok (.ifCond .eq 12, 3) := by decide +kernel
theorem dX9_passes_133 : decode cX9_passes 133 = .ok (.aload_n 0, 1) := by decide +kernel
theorem dX9_passes_134 : decode cX9_passes 134 = .ok (.bipush 45, 2) := by decide +kernel
theorem dX9_passes_136 : decode cX9_passes 136 = .ok (.iaload, 1) := by decide +kernel
theorem dX9_passes_137 : decode cX9_passes 137 = .ok (.iconst 1, 1) := by decide +kernel
theorem dX9_passes_138 : decode cX9_passes 138 = .ok (.iadd, 1) := by decide +kernel
theorem dX9_passes_139 : decode cX9_passes 139 = .ok (.goto 15, 3) := by decide +kernel
theorem dX9_passes_142 : decode cX9_passes 142 = .ok (.iload_n 2, 1) := by decide +kernel
theorem dX9_passes_143 : decode cX9_passes 143 = .ok (.ifCond .eq 7, 3) := by decide +kernel
theorem dX9_passes_146 : decode cX9_passes 146 = .ok (.iconst 0, 1) := by decide +kernel
theorem dX9_passes_147 : decode cX9_passes 147 = .ok (.goto 7, 3) := by decide +kernel
theorem dX9_passes_150 : decode cX9_passes 150 = .ok (.aload_n 0, 1) := by decide +kernel
theorem dX9_passes_151 : decode cX9_passes 151 = .ok (.bipush 45, 2) := by decide +kernel
theorem dX9_passes_153 : decode cX9_passes 153 = .ok (.iaload, 1) := by decide +kernel
theorem dX9_passes_154 : decode cX9_passes 154 = .ok (.iastore, 1) := by decide +kernel
theorem dX9_passes_155 : decode cX9_passes 155 = .ok (.aload_n 0, 1) := by decide +kernel
theorem dX9_passes_156 : decode cX9_passes 156 = .ok (.bipush 46, 2) := by decide +kernel
theorem dX9_passes_158 : decode cX9_passes 158 = .ok (.aload_n 0, 1) := by decide +kernel
theorem dX9_passes_159 : decode cX9_passes 159 = .ok (.bipush 45, 2) := by decide +kernel
theorem dX9_passes_161 : decode cX9_passes 161 = .ok (.iaload, 1) := by decide +kernel
theorem dX9_passes_162 : decode cX9_passes 162 = .ok (.aload_n 0, 1) := by decide +kernel
theorem dX9_passes_163 : decode cX9_passes 163 = .ok (.bipush 46, 2) := by decide +kernel
theorem dX9_passes_165 : decode cX9_passes 165 = .ok (.iaload, 1) := by decide +kernel
theorem dX9_passes_166 : decode cX9_passes 166 = .ok (.if_icmp .le 10, 3) := by decide +kernel
theorem dX9_passes_169 : decode cX9_passes 169 = .ok (.aload_n 0, 1) := by decide +kernel
theorem dX9_passes_170 : decode cX9_passes 170 = .ok (.bipush 45, 2) := by decide +kernel
theorem dX9_passes_172 : decode cX9_passes 172 = .ok (.iaload, 1) := by decide +kernel
theorem dX9_passes_173 : decode cX9_passes 173 = .ok (.goto 7, 3) := by decide +kernel
theorem dX9_passes_176 : decode cX9_passes 176 = .ok (.aload_n 0, 1) := by decide +kernel
theorem dX9_passes_177 : decode cX9_passes 177 = .ok (.bipush 46, 2) := by decide +kernel
theorem dX9_passes_179 : decode cX9_passes 179 = .ok (.iaload, 1) := by decide +kernel
theorem dX9_passes_180 : decode cX9_passes 180 = .ok (.iastore, 1) := by decide +kernel
theorem dX9_passes_181 : decode cX9_passes 181 = .ok (.iconst 0, 1) := by decide +kernel
theorem dX9_passes_182 : decode cX9_passes 182 = .ok (.istore 6, 2) := by decide +kernel
theorem dX9_passes_184 : decode cX9_passes 184 = .ok (.iload 6, 2) := by decide +kernel
theorem dX9_passes_186 : decode cX9_passes 186 = .ok (.aload_n 0, 1) := by decide +kernel
theorem dX9_passes_187 : decode cX9_passes 187 = .ok (.bipush 49, 2) := by decide +kernel
theorem dX9_passes_189 : decode cX9_passes 189 = .ok (.iaload, 1) := by decide +kernel
theorem dX9_passes_190 : decode cX9_passes 190 = .ok (.if_icmp .ge 39, 3) := by decide +kernel
theorem dX9_passes_193 : decode cX9_passes 193 = .ok (.iload_n 1, 1) := by decide +kernel
theorem dX9_passes_194 : decode cX9_passes 194 = .ok (.ifCond .eq 35, 3) := by decide +kernel
theorem dX9_passes_197 : decode cX9_passes 197 = .ok (.aload_n 0, 1) := by decide +kernel
theorem dX9_passes_198 : decode cX9_passes 198 = .ok (.bipush 50, 2) := by decide +kernel
theorem dX9_passes_200 : decode cX9_passes 200 = .ok (.iconst 3, 1) := by decide +kernel
theorem dX9_passes_201 : decode cX9_passes 201 = .ok (.iload 6, 2) := by decide +kernel
theorem dX9_passes_203 : decode cX9_passes 203 = .ok (.imul, 1) := by decide +kernel
theorem dX9_passes_204 : decode cX9_passes 204 = .ok (.iadd, 1) := by decide +kernel
theorem dX9_passes_205 : decode cX9_passes 205 = .ok (.iaload, 1) := by decide +kernel
theorem dX9_passes_206 : decode cX9_passes 206 = .ok (.aload_n 0, 1) := by decide +kernel
theorem dX9_passes_207 : decode cX9_passes 207 = .ok (.iconst 0, 1) := by decide +kernel
theorem dX9_passes_208 : decode cX9_passes 208 = .ok (.iaload, 1) := by decide +kernel
theorem dX9_passes_209 : decode cX9_passes 209 = .ok (.if_icmp .ne 14, 3) := by decide +kernel
theorem dX9_passes_212 : decode cX9_passes 212 = .ok (.aload_n 0, 1) := by decide +kernel
theorem dX9_passes_213 : decode cX9_passes 213 = .ok (.bipush 50, 2) := by decide +kernel
theorem dX9_passes_215 : decode cX9_passes 215 = .ok (.iconst 3, 1) := by decide +kernel
theorem dX9_passes_216 : decode cX9_passes 216 = .ok (.iload 6, 2) := by decide +kernel
theorem dX9_passes_218 : decode cX9_passes 218 = .ok (.imul, 1) := by decide +kernel
theorem dX9_passes_219 : decode cX9_passes 219 = .ok (.iadd, 1) := by decide +kernel
theorem dX9_passes_220 : decode cX9_passes 220 = .ok (.invokestatic 123, 3) := by decide +kernel
theorem dX9_passes_223 : decode cX9_passes 223 = .ok (.iinc 6 1, 3) := by decide +kernel
theorem dX9_passes_226 : decode cX9_passes 226 = .ok (.goto (-42), 3) := by decide +kernel
theorem dX9_passes_229 : decode cX9_passes 229 = .ok (.aload_n 0, 1) := by decide +kernel
theorem dX9_passes_230 : decode cX9_passes 230 = .ok (.iconst 0, 1) := by decide +kernel
theorem dX9_passes_231 : decode cX9_passes 231 = .ok (.dup2, 1) := by decide +kernel
theorem dX9_passes_232 : decode cX9_passes 232 = .ok (.iaload, 1) := by decide +kernel
theorem dX9_passes_233 : decode cX9_passes 233 = .ok (.iconst 1, 1) := by decide +kernel
theorem dX9_passes_234 : decode cX9_passes 234 = .ok (.iadd, 1) := by decide +kernel
theorem dX9_passes_235 : decode cX9_passes 235 = .ok (.iastore, 1) := by decide +kernel
theorem dX9_passes_236 : decode cX9_passes 236 = .ok (.iload 5, 2) := by decide +kernel
theorem dX9_passes_238 : decode cX9_passes 238 = .ok (.ireturn, 1) := by decide +kernel
theorem dX9_isFor_0 : decode cX9_isFor 0 = .ok (.iload_n 0, 1) := by decide +kernel
theorem dX9_isFor_1 : decode cX9_isFor 1 = .ok (.tableswitch 43 0 2 #[27, 36, 36], 27) := by decide +kernel
theorem dX9_isFor_28 : decode cX9_isFor 28 = .ok (.iload_n 1, 1) := by decide +kernel
theorem dX9_isFor_29 : decode cX9_isFor 29 = .ok (.bipush 75, 2) := by decide +kernel
theorem dX9_isFor_31 : decode cX9_isFor 31 = .ok (.bipush 99, 2) := by decide +kernel
theorem dX9_isFor_33 : decode cX9_isFor 33 = .ok (.invokestatic 33, 3) := by decide +kernel
theorem dX9_isFor_36 : decode cX9_isFor 36 = .ok (.ireturn, 1) := by decide +kernel
theorem dX9_isFor_37 : decode cX9_isFor 37 = .ok (.iload_n 1, 1) := by decide +kernel
theorem dX9_isFor_38 : decode cX9_isFor 38 = .ok (.iconst 1, 1) := by decide +kernel
theorem dX9_isFor_39 : decode cX9_isFor 39 = .ok (.iconst 5, 1) := by decide +kernel
theorem dX9_isFor_40 : decode cX9_isFor 40 = .ok (.invokestatic 33, 3) := by decide +kernel
theorem dX9_isFor_43 : decode cX9_isFor 43 = .ok (.ireturn, 1) := by decide +kernel
theorem dX9_isFor_44 : decode cX9_isFor 44 = .ok (.iload_n 1, 1) := by decide +kernel
theorem dX9_isFor_45 : decode cX9_isFor 45 = .ok (.iconst 0, 1) := by decide +kernel
theorem dX9_isFor_46 : decode cX9_isFor 46 = .ok (.iconst 1, 1) := by decide +kernel
theorem dX9_isFor_47 : decode cX9_isFor 47 = .ok (.invokestatic 33, 3) := by decide +kernel
theorem dX9_isFor_50 : decode cX9_isFor 50 = .ok (.ireturn, 1) := by decide +kernel
theorem dX9_set_0 : decode cX9_set 0 = .ok (.iload_n 1, 1) := by decide +kernel
theorem dX9_set_1 : decode cX9_set 1 = .ok (.iconst 0, 1) := by decide +kernel
theorem dX9_set_2 : decode cX9_set 2 = .ok (.iconst 3, 1) := by decide +kernel
theorem dX9_set_3 : decode cX9_set 3 = .ok (.invokestatic 33, 3) := by decide +kernel
theorem dX9_set_6 : decode cX9_set 6 = .ok (.ifCond .ne 5, 3) := by decide +kernel
theorem dX9_set_9 : decode cX9_set 9 = .ok (.iconst (-1), 1) := by decide +kernel
theorem dX9_set_10 : decode cX9_set 10 = .ok (.ireturn, 1) := by decide +kernel
theorem dX9_set_11 : decode cX9_set 11 = .ok (.iload_n 1, 1) := by decide +kernel
theorem dX9_set_12 : decode cX9_set 12 = .ok (.iload_n 2, 1) := by decide +kernel
theorem dX9_set_13 : decode cX9_set 13 = .ok (.invokestatic 126, 3) := by decide +kernel
theorem dX9_set_16 : decode cX9_set 16 = .ok (.ifCond .ne 6, 3) := by decide +kernel
theorem dX9_set_19 : decode cX9_set 19 = .ok (.bipush (-2), 2) := by decide +kernel
theorem dX9_set_21 : decode cX9_set 21 = .ok (.ireturn, 1) := by decide +kernel
theorem dX9_set_22 : decode cX9_set 22 = .ok (.aload_n 0, 1) := by decide +kernel
theorem dX9_set_23 : decode cX9_set 23 = .ok (.getfield 7, 3) := by decide +kernel
theorem dX9_set_26 : decode cX9_set 26 = .ok (.iconst 3, 1) := by decide +kernel
theorem dX9_set_27 : decode cX9_set 27 = .ok (.iload_n 1, 1) := by decide +kernel
theorem dX9_set_28 : decode cX9_set 28 = .ok (.iadd, 1) := by decide +kernel
theorem dX9_set_29 : decode cX9_set 29 = .ok (.iaload, 1) := by decide +kernel
theorem dX9_set_30 : decode cX9_set 30 = .ok (.istore_n 3, 1) := by decide +kernel
theorem dX9_set_31 : decode cX9_set 31 = .ok (.iload_n 3, 1) := by decide +kernel
theorem dX9_set_32 : decode cX9_set 32 = .ok (.iload_n 2, 1) := by decide +kernel
theorem dX9_set_33 : decode cX9_set 33 = .ok (.if_icmp .ne 6, 3) := by decide +kernel
theorem dX9_set_36 : decode cX9_set 36 = .ok (.bipush (-5), 2) := by decide +kernel
theorem dX9_set_38 : decode cX9_set 38 = .ok (.ireturn, 1) := by decide +kernel
theorem dX9_set_39 : decode cX9_set 39 = .ok (.aload_n 0, 1) := by decide +kernel
theorem dX9_set_40 : decode cX9_set 40 = .ok (.invokevirtual 49, 3) := by decide +kernel
theorem dX9_set_43 : decode cX9_set 43 = .ok (.aload_n 0, 1) := by decide +kernel
theorem dX9_set_44 : decode cX9_set 44 = .ok (.getfield 7, 3) := by decide +kernel
theorem dX9_set_47 : decode cX9_set 47 = .ok (.iconst 3, 1) := by decide +kernel
theorem dX9_set_48 : decode cX9_set 48 = .ok (.iload_n 1, 1) := by decide +kernel
theorem dX9_set_49 : decode cX9_set 49 = .ok (.iadd, 1) := by decide +kernel
theorem dX9_set_50 : decode cX9_set 50 = .ok (.iload_n 2, 1) := by decide +kernel
theorem dX9_set_51 : decode cX9_set 51 = .ok (.iastore, 1) := by decide +kernel
theorem dX9_set_52 : decode cX9_set 52 = .ok (.iload_n 3, 1) := by decide +kernel
theorem dX9_set_53 : decode cX9_set 53 = .ok (.ireturn, 1) := by decide +kernel
theorem dX9_setNight_0 : decode cX9_setNight 0 = .ok (.iload_n 1, 1) := by decide +kernel
theorem dX9_setNight_1 : decode cX9_setNight 1 = .ok (.iconst 0, 1) := by decide +kernel
theorem dX9_setNight_2 : decode cX9_setNight 2 = .ok (.bipush 47, 2) := by decide +kernel
theorem dX9_setNight_4 : decode cX9_setNight 4 = .ok (.invokestatic 33, 3) := by decide +kernel
theorem dX9_setNight_7 : decode cX9_setNight 7 = .ok (.ifCond .eq 18, 3) := by decide +kernel
theorem dX9_setNight_10 : decode cX9_setNight 10 = .ok (.iload_n 2, 1) := by decide +kernel
theorem dX9_setNight_11 : decode cX9_setNight 11 = .ok (.iconst 0, 1) := by decide +kernel
theorem dX9_setNight_12 : decode cX9_setNight 12 = .ok (.bipush 47, 2) := by decide +kernel
theorem dX9_setNight_14 : decode cX9_setNight 14 = .ok (.invokestatic 33, 3) := by decide +kernel
theorem dX9_setNight_17 : decode cX9_setNight 17 = .ok (.ifCond .eq 8, 3) := by decide +kernel
theorem dX9_setNight_20 : decode cX9_setNight 20 = .ok (.iload_n 1, 1) := by decide +kernel
theorem dX9_setNight_21 : decode cX9_setNight 21 = .ok (.iload_n 2, 1) := by decide +kernel
theorem dX9_setNight_22 : decode cX9_setNight 22 = .ok (.if_icmp .ne 6, 3) := by decide +kernel
theorem dX9_setNight_25 : decode cX9_setNight 25 = .ok (.bipush (-2), 2) := by decide +kernel
theorem dX9_setNight_27 : decode cX9_setNight 27 = .ok (.ireturn, 1) := by decide +kernel
theorem dX9_setNight_28 : decode cX9_setNight 28 = .ok (.aload_n 0, 1) := by decide +kernel
theorem dX9_setNight_29 : decode cX9_setNight 29 = .ok (.getfield 7, 3) := by decide +kernel
theorem dX9_setNight_32 : decode cX9_setNight 32 = .ok (.iconst 1, 1) := by decide +kernel
theorem dX9_setNight_33 : decode cX9_setNight 33 = .ok (.iaload, 1) := by decide +kernel
theorem dX9_setNight_34 : decode cX9_setNight 34 = .ok (.iload_n 1, 1) := by decide +kernel
theorem dX9_setNight_35 : decode cX9_setNight 35 = .ok (.if_icmp .ne 16, 3) := by decide +kernel
theorem dX9_setNight_38 : decode cX9_setNight 38 = .ok (.aload_n 0, 1) := by decide +kernel
theorem dX9_setNight_39 : decode cX9_setNight 39 = .ok (.getfield 7, 3) := by decide +kernel
theorem dX9_setNight_42 : decode cX9_setNight 42 = .ok (.iconst 2, 1) := by decide +kernel
theorem dX9_setNight_43 : decode cX9_setNight 43 = .ok (.iaload, 1) := by decide +kernel
theorem dX9_setNight_44 : decode cX9_setNight 44 = .ok (.iload_n 2, 1) := by decide +kernel
theorem dX9_setNight_45 : decode cX9_setNight 45 = .ok (.if_icmp .ne 6, 3) := by decide +kernel
theorem dX9_setNight_48 : decode cX9_setNight 48 = .ok (.bipush (-5), 2) := by decide +kernel
theorem dX9_setNight_50 : decode cX9_setNight 50 = .ok (.ireturn, 1) := by decide +kernel
theorem dX9_setNight_51 : decode cX9_setNight 51 = .ok (.aload_n 0, 1) := by decide +kernel
theorem dX9_setNight_52 : decode cX9_setNight 52 = .ok (.invokevirtual 49, 3) := by decide +kernel
theorem dX9_setNight_55 : decode cX9_setNight 55 = .ok (.aload_n 0, 1) := by decide +kernel
theorem dX9_setNight_56 : decode cX9_setNight 56 = .ok (.getfield 7, 3) := by decide +kernel
theorem dX9_setNight_59 : decode cX9_setNight 59 = .ok (.iconst 1, 1) := by decide +kernel
theorem dX9_setNight_60 : decode cX9_setNight 60 = .ok (.iload_n 1, 1) := by decide +kernel
theorem dX9_setNight_61 : decode cX9_setNight 61 = .ok (.iastore, 1) := by decide +kernel
theorem dX9_setNight_62 : decode cX9_setNight 62 = .ok (.aload_n 0, 1) := by decide +kernel
theorem dX9_setNight_63 : decode cX9_setNight 63 = .ok (.getfield 7, 3) := by decide +kernel
theorem dX9_setNight_66 : decode cX9_setNight 66 = .ok (.iconst 2, 1) := by decide +kernel
theorem dX9_setNight_67 : decode cX9_setNight 67 = .ok (.iload_n 2, 1) := by decide +kernel
theorem dX9_setNight_68 : decode cX9_setNight 68 = .ok (.iastore, 1) := by decide +kernel
theorem dX9_setNight_69 : decode cX9_setNight 69 = .ok (.iload_n 2, 1) := by decide +kernel
theorem dX9_setNight_70 : decode cX9_setNight 70 = .ok (.iload_n 1, 1) := by decide +kernel
theorem dX9_setNight_71 : decode cX9_setNight 71 = .ok (.isub, 1) := by decide +kernel
theorem dX9_setNight_72 : decode cX9_setNight 72 = .ok (.bipush 48, 2) := by decide +kernel
theorem dX9_setNight_74 : decode cX9_setNight 74 = .ok (.iadd, 1) := by decide +kernel
theorem dX9_setNight_75 : decode cX9_setNight 75 = .ok (.bipush 48, 2) := by decide +kernel
theorem dX9_setNight_77 : decode cX9_setNight 77 = .ok (.irem, 1) := by decide +kernel
theorem dX9_setNight_78 : decode cX9_setNight 78 = .ok (.ireturn, 1) := by decide +kernel
theorem dX9_isKind_0 : decode cX9_isKind 0 = .ok (.iload_n 0, 1) := by decide +kernel
theorem dX9_isKind_1 : decode cX9_isKind 1 = .ok (.iconst 0, 1) := by decide +kernel
theorem dX9_isKind_2 : decode cX9_isKind 2 = .ok (.iconst 2, 1) := by decide +kernel
theorem dX9_isKind_3 : decode cX9_isKind 3 = .ok (.invokestatic 33, 3) := by decide +kernel
theorem dX9_isKind_6 : decode cX9_isKind 6 = .ok (.ireturn, 1) := by decide +kernel
theorem dX9_putIn_0 : decode cX9_putIn 0 = .ok (.iload_n 1, 1) := by decide +kernel
theorem dX9_putIn_1 : decode cX9_putIn 1 = .ok (.invokestatic 130, 3) := by decide +kernel
theorem dX9_putIn_4 : decode cX9_putIn 4 = .ok (.ifCond .ne 5, 3) := by decide +kernel
theorem dX9_putIn_7 : decode cX9_putIn 7 = .ok (.iconst (-1), 1) := by decide +kernel
theorem dX9_putIn_8 : decode cX9_putIn 8 = .ok (.ireturn, 1) := by decide +kernel
theorem dX9_putIn_9 : decode cX9_putIn 9 = .ok (.iload_n 2, 1) := by decide +kernel
theorem dX9_putIn_10 : decode cX9_putIn 10 = .ok (.invokestatic 134, 3) := by decide +kernel
theorem dX9_putIn_13 : decode cX9_putIn 13 = .ok (.ifCond .eq 15, 3) := by decide +kernel
theorem dX9_putIn_16 : decode cX9_putIn 16 = .ok (.iload_n 3, 1) := by decide +kernel
theorem dX9_putIn_17 : decode cX9_putIn 17 = .ok (.bipush 50, 2) := by decide +kernel
theorem dX9_putIn_19 : decode cX9_putIn 19 = .ok (.sipush 150, 3) := by decide +kernel
theorem dX9_putIn_22 : decode cX9_putIn 22 = .ok (.invokestatic 33, 3) := by decide +kernel
theorem dX9_putIn_25 : decode cX9_putIn 25 = .ok (.ifCond .ne 6, 3) := by decide +kernel
theorem dX9_putIn_28 : decode cX9_putIn 28 = .ok (.bipush (-2), 2) := by decide +kernel
theorem dX9_putIn_30 : decode cX9_putIn 30 = .ok (.ireturn, 1) := by decide +kernel
theorem dX9_putIn_31 : decode cX9_putIn 31 = .ok (.aload_n 0, 1) := by decide +kernel
theorem dX9_putIn_32 : decode cX9_putIn 32 = .ok (.getfield 7, 3) := by decide +kernel
theorem dX9_putIn_35 : decode cX9_putIn 35 = .ok (.iload_n 1, 1) := by decide +kernel
theorem dX9_putIn_36 : decode cX9_putIn 36 = .ok (.invokestatic 78, 3) := by decide +kernel
theorem dX9_putIn_39 : decode cX9_putIn 39 = .ok (.ifCond .eq 6, 3) := by decide +kernel
theorem dX9_putIn_42 : decode cX9_putIn 42 = .ok (.bipush (-4), 2) := by decide +kernel
theorem dX9_putIn_44 : decode cX9_putIn 44 = .ok (.ireturn, 1) := by decide +kernel
theorem dX9_putIn_45 : decode cX9_putIn 45 = .ok (.aload_n 0, 1) := by decide +kernel
theorem dX9_putIn_46 : decode cX9_putIn 46 = .ok (.invokevirtual 49, 3) := by decide +kernel
theorem dX9_putIn_49 : decode cX9_putIn 49 = .ok (.aload_n 0, 1) := by decide +kernel
theorem dX9_putIn_50 : decode cX9_putIn 50 = .ok (.getfield 7, 3) := by decide +kernel
theorem dX9_putIn_53 : decode cX9_putIn 53 = .ok (.iload_n 1, 1) := by decide +kernel
theorem dX9_putIn_54 : decode cX9_putIn 54 = .ok (.iload_n 2, 1) := by decide +kernel
theorem dX9_putIn_55 : decode cX9_putIn 55 = .ok (.iload_n 3, 1) := by decide +kernel
theorem dX9_putIn_56 : decode cX9_putIn 56 = .ok (.invokestatic 109, 3) := by decide +kernel
theorem dX9_putIn_59 : decode cX9_putIn 59 = .ok (.aload_n 0, 1) := by decide +kernel
theorem dX9_putIn_60 : decode cX9_putIn 60 = .ok (.getfield 7, 3) := by decide +kernel
theorem dX9_putIn_63 : decode cX9_putIn 63 = .ok (.iload_n 1, 1) := by decide +kernel
theorem dX9_putIn_64 : decode cX9_putIn 64 = .ok (.invokestatic 64, 3) := by decide +kernel
theorem dX9_putIn_67 : decode cX9_putIn 67 = .ok (.ireturn, 1) := by decide +kernel
theorem dX9_takeOut_0 : decode cX9_takeOut 0 = .ok (.iload_n 1, 1) := by decide +kernel
theorem dX9_takeOut_1 : decode cX9_takeOut 1 = .ok (.invokestatic 130, 3) := by decide +kernel
theorem dX9_takeOut_4 : decode cX9_takeOut 4 = .ok (.ifCond .ne 5, 3) := by decide +kernel
theorem dX9_takeOut_7 : decode cX9_takeOut 7 = .ok (.iconst (-1), 1) := by decide +kernel
theorem dX9_takeOut_8 : decode cX9_takeOut 8 = .ok (.ireturn, 1) := by decide +kernel
theorem dX9_takeOut_9 : decode cX9_takeOut 9 = .ok (.aload_n 0, 1) := by decide +kernel
theorem dX9_takeOut_10 : decode cX9_takeOut 10 = .ok (.getfield 7, 3) := by decide +kernel
theorem dX9_takeOut_13 : decode cX9_takeOut 13 = .ok (.iload_n 1, 1) := by decide +kernel
theorem dX9_takeOut_14 : decode cX9_takeOut 14 = .ok (.invokestatic 78, 3) := by decide +kernel
theorem dX9_takeOut_17 : decode cX9_takeOut 17 = .ok (.ifCond .eq 25, 3) := by decide +kernel
theorem dX9_takeOut_20 : decode cX9_takeOut 20 = .ok (.aload_n 0, 1) := by decide +kernel
theorem dX9_takeOut_21 : decode cX9_takeOut 21 = .ok (.getfield 7, 3) := by decide +kernel
theorem dX9_takeOut_24 : decode cX9_takeOut 24 = .ok (.bipush 10, 2) := by decide +kernel
theorem dX9_takeOut_26 : decode cX9_takeOut 26 = .ok (.iaload, 1) := by decide +kernel
theorem dX9_takeOut_27 : decode cX9_takeOut 27 = .ok (.iconst 1, 1) := by decide +kernel
theorem dX9_takeOut_28 : decode cX9_takeOut 28 = .ok (.if_icmp .ne 17, 3) := by decide +kernel
theorem dX9_takeOut_31 : decode cX9_takeOut 31 = .ok (.iload_n 1, 1) := by decide +kernel
theorem dX9_takeOut_32 : decode cX9_takeOut 32 = .ok (.aload_n 0, 1) := by decide +kernel
theorem dX9_takeOut_33 : decode cX9_takeOut 33 = .ok (.getfield 7, 3) := by decide +kernel
theorem dX9_takeOut_36 : decode cX9_takeOut 36 = .ok (.bipush 7, 2) := by decide +kernel
theorem dX9_takeOut_38 : decode cX9_takeOut 38 = .ok (.iaload, 1) := by decide +kernel
theorem dX9_takeOut_39 : decode cX9_takeOut 39 = .ok (.if_icmp .ne 6, 3) := by decide +kernel
theorem dX9_takeOut_42 : decode cX9_takeOut 42 = .ok (.bipush (-4), 2) := by decide +kernel
theorem dX9_takeOut_44 : decode cX9_takeOut 44 = .ok (.ireturn, 1) := by decide +kernel
theorem dX9_takeOut_45 : decode cX9_takeOut 45 = .ok (.aload_n 0, 1) := by decide +kernel
theorem dX9_takeOut_46 : decode cX9_takeOut 46 = .ok (.invokevirtual 49, 3) := by decide +kernel
theorem dX9_takeOut_49 : decode cX9_takeOut 49 = .ok (.aload_n 0, 1) := by decide +kernel
theorem dX9_takeOut_50 : decode cX9_takeOut 50 = .ok (.getfield 7, 3) := by decide +kernel
theorem dX9_takeOut_53 : decode cX9_takeOut 53 = .ok (.iload_n 1, 1) := by decide +kernel
theorem dX9_takeOut_54 : decode cX9_takeOut 54 = .ok (.invokestatic 29, 3) := by decide +kernel
theorem dX9_takeOut_57 : decode cX9_takeOut 57 = .ok (.aload_n 0, 1) := by decide +kernel
theorem dX9_takeOut_58 : decode cX9_takeOut 58 = .ok (.getfield 7, 3) := by decide +kernel
theorem dX9_takeOut_61 : decode cX9_takeOut 61 = .ok (.iload_n 1, 1) := by decide +kernel
theorem dX9_takeOut_62 : decode cX9_takeOut 62 = .ok (.iconst 2, 1) := by decide +kernel
theorem dX9_takeOut_63 : decode cX9_takeOut 63 = .ok (.invokestatic 56, 3) := by decide +kernel
theorem dX9_takeOut_66 : decode cX9_takeOut 66 = .ok (.ireturn, 1) := by decide +kernel
theorem dX9_turnTo_0 : decode cX9_turnTo 0 = .ok (.iload_n 1, 1) := by decide +kernel
theorem dX9_turnTo_1 : decode cX9_turnTo 1 = .ok (.invokestatic 130, 3) := by decide +kernel
theorem dX9_turnTo_4 : decode cX9_turnTo 4 = .ok (.ifCond .ne 5, 3) := by decide +kernel
theorem dX9_turnTo_7 : decode cX9_turnTo 7 = .ok (.iconst (-1), 1) := by decide +kernel
theorem dX9_turnTo_8 : decode cX9_turnTo 8 = .ok (.ireturn, 1) := by decide +kernel
theorem dX9_turnTo_9 : decode cX9_turnTo 9 = .ok (.aload_n 0, 1) := by decide +kernel
theorem dX9_turnTo_10 : decode cX9_turnTo 10 = .ok (.getfield 7, 3) := by decide +kernel
theorem dX9_turnTo_13 : decode cX9_turnTo 13 = .ok (.bipush 8, 2) := by decide +kernel
theorem dX9_turnTo_15 : decode cX9_turnTo 15 = .ok (.iaload, 1) := by decide +kernel
theorem dX9_turnTo_16 : decode cX9_turnTo 16 = .ok (.bipush (-5), 2) := by decide +kernel
theorem dX9_turnTo_18 : decode cX9_turnTo 18 = .ok (.if_icmp .eq 6, 3) := by decide +kernel
theorem dX9_turnTo_21 : decode cX9_turnTo 21 = .ok (.bipush (-4), 2) := by decide +kernel
theorem dX9_turnTo_23 : decode cX9_turnTo 23 = .ok (.ireturn, 1) := by decide +kernel
theorem dX9_turnTo_24 : decode cX9_turnTo 24 = .ok (.iload_n 1, 1) := by decide +kernel
theorem dX9_turnTo_25 : decode cX9_turnTo 25 = .ok (.aload_n 0, 1) := by decide +kernel
theorem dX9_turnTo_26 : decode cX9_turnTo 26 = .ok (.getfield 7, 3) := by decide +kernel
theorem dX9_turnTo_29 : decode cX9_turnTo 29 = .ok (.bipush 7, 2) := by decide +kernel
theorem dX9_turnTo_31 : decode cX9_turnTo 31 = .ok (.iaload, 1) := by decide +kernel
theorem dX9_turnTo_32 : decode cX9_turnTo 32 = .ok (.if_icmp .ne 6, 3) := by decide +kernel
theorem dX9_turnTo_35 : decode cX9_turnTo 35 = .ok (.bipush (-5), 2) := by decide +kernel
theorem dX9_turnTo_37 : decode cX9_turnTo 37 = .ok (.ireturn, 1) := by decide +kernel
theorem dX9_turnTo_38 : decode cX9_turnTo 38 = .ok (.aload_n 0, 1) := by decide +kernel
theorem dX9_turnTo_39 : decode cX9_turnTo 39 = .ok (.invokevirtual 49, 3) := by decide +kernel
theorem dX9_turnTo_42 : decode cX9_turnTo 42 = .ok (.aload_n 0, 1) := by decide +kernel
theorem dX9_turnTo_43 : decode cX9_turnTo 43 = .ok (.getfield 7, 3) := by decide +kernel
theorem dX9_turnTo_46 : decode cX9_turnTo 46 = .ok (.iload_n 1, 1) := by decide +kernel
theorem dX9_turnTo_47 : decode cX9_turnTo 47 = .ok (.invokestatic 100, 3) := by decide +kernel
theorem dX9_turnTo_50 : decode cX9_turnTo 50 = .ok (.aload_n 0, 1) := by decide +kernel
theorem dX9_turnTo_51 : decode cX9_turnTo 51 = .ok (.getfield 7, 3) := by decide +kernel
theorem dX9_turnTo_54 : decode cX9_turnTo 54 = .ok (.bipush 9, 2) := by decide +kernel
theorem dX9_turnTo_56 : decode cX9_turnTo 56 = .ok (.iaload, 1) := by decide +kernel
theorem dX9_turnTo_57 : decode cX9_turnTo 57 = .ok (.ireturn, 1) := by decide +kernel
theorem dX9_stock_0 : decode cX9_stock 0 = .ok (.iload_n 1, 1) := by decide +kernel
theorem dX9_stock_1 : decode cX9_stock 1 = .ok (.invokestatic 134, 3) := by decide +kernel
theorem dX9_stock_4 : decode cX9_stock 4 = .ok (.ifCond .eq 13, 3) := by decide +kernel
theorem dX9_stock_7 : decode cX9_stock 7 = .ok (.iload_n 2, 1) := by decide +kernel
theorem dX9_stock_8 : decode cX9_stock 8 = .ok (.iconst 1, 1) := by decide +kernel
theorem dX9_stock_9 : decode cX9_stock 9 = .ok (.bipush 6, 2) := by decide +kernel
theorem dX9_stock_11 : decode cX9_stock 11 = .ok (.invokestatic 33, 3) := by decide +kernel
theorem dX9_stock_14 : decode cX9_stock 14 = .ok (.ifCond .ne 6, 3) := by decide +kernel
theorem dX9_stock_17 : decode cX9_stock 17 = .ok (.bipush (-2), 2) := by decide +kernel
theorem dX9_stock_19 : decode cX9_stock 19 = .ok (.ireturn, 1) := by decide +kernel
theorem dX9_stock_20 : decode cX9_stock 20 = .ok (.aload_n 0, 1) := by decide +kernel
theorem dX9_stock_21 : decode cX9_stock 21 = .ok (.getfield 7, 3) := by decide +kernel
theorem dX9_stock_24 : decode cX9_stock 24 = .ok (.bipush 41, 2) := by decide +kernel
theorem dX9_stock_26 : decode cX9_stock 26 = .ok (.iload_n 1, 1) := by decide +kernel
theorem dX9_stock_27 : decode cX9_stock 27 = .ok (.iadd, 1) := by decide +kernel
theorem dX9_stock_28 : decode cX9_stock 28 = .ok (.iaload, 1) := by decide +kernel
theorem dX9_stock_29 : decode cX9_stock 29 = .ok (.iload_n 2, 1) := by decide +kernel
theorem dX9_stock_30 : decode cX9_stock 30 = .ok (.iadd, 1) := by decide +kernel
theorem dX9_stock_31 : decode cX9_stock 31 = .ok (.bipush 99, 2) := by decide +kernel
theorem dX9_stock_33 : decode cX9_stock 33 = .ok (.if_icmp .le 6, 3) := by decide +kernel
theorem dX9_stock_36 : decode cX9_stock 36 = .ok (.bipush (-3), 2) := by decide +kernel
theorem dX9_stock_38 : decode cX9_stock 38 = .ok (.ireturn, 1) := by decide +kernel
theorem dX9_stock_39 : decode cX9_stock 39 = .ok (.aload_n 0, 1) := by decide +kernel
theorem dX9_stock_40 : decode cX9_stock 40 = .ok (.invokevirtual 49, 3) := by decide +kernel
theorem dX9_stock_43 : decode cX9_stock 43 = .ok (.aload_n 0, 1) := by decide +kernel
theorem dX9_stock_44 : decode cX9_stock 44 = .ok (.getfield 7, 3) := by decide +kernel
theorem dX9_stock_47 : decode cX9_stock 47 = .ok (.bipush 41, 2) := by decide +kernel
theorem dX9_stock_49 : decode cX9_stock 49 = .ok (.iload_n 1, 1) := by decide +kernel
theorem dX9_stock_50 : decode cX9_stock 50 = .ok (.iadd, 1) := by decide +kernel
theorem dX9_stock_51 : decode cX9_stock 51 = .ok (.dup2, 1) := by decide +kernel
theorem dX9_stock_52 : decode cX9_stock 52 = .ok (.iaload, 1) := by decide +kernel
theorem dX9_stock_53 : decode cX9_stock 53 = .ok (.iload_n 2, 1) := by decide +kernel
theorem dX9_stock_54 : decode cX9_stock 54 = .ok (.iadd, 1) := by decide +kernel
theorem dX9_stock_55 : decode cX9_stock 55 = .ok (.iastore, 1) := by decide +kernel
theorem dX9_stock_56 : decode cX9_stock 56 = .ok (.aload_n 0, 1) := by decide +kernel
theorem dX9_stock_57 : decode cX9_stock 57 = .ok (.getfield 7, 3) := by decide +kernel
theorem dX9_stock_60 : decode cX9_stock 60 = .ok (.bipush 41, 2) := by decide +kernel
theorem dX9_stock_62 : decode cX9_stock 62 = .ok (.iload_n 1, 1) := by decide +kernel
theorem dX9_stock_63 : decode cX9_stock 63 = .ok (.iadd, 1) := by decide +kernel
theorem dX9_stock_64 : decode cX9_stock 64 = .ok (.iaload, 1) := by decide +kernel
theorem dX9_stock_65 : decode cX9_stock 65 = .ok (.ireturn, 1) := by decide +kernel
theorem dX9_placeOf_0 : decode cX9_placeOf 0 = .ok (.iconst 0, 1) := by decide +kernel
theorem dX9_placeOf_1 : decode cX9_placeOf 1 = .ok (.istore_n 2, 1) := by decide +kernel
theorem dX9_placeOf_2 : decode cX9_placeOf 2 = .ok (.iload_n 2, 1) := by decide +kernel
theorem dX9_placeOf_3 : decode cX9_placeOf 3 = .ok (.aload_n 0, 1) := by decide +kernel
theorem dX9_placeOf_4 : decode cX9_placeOf 4 = .ok (.getfield 7, 3) := by decide +kernel
theorem dX9_placeOf_7 : decode cX9_placeOf 7 = .ok (.bipush 49, 2) := by decide +kernel
theorem dX9_placeOf_9 : decode cX9_placeOf 9 = .ok (.iaload, 1) := by decide +kernel
theorem dX9_placeOf_10 : decode cX9_placeOf 10 = .ok (.if_icmp .ge 24, 3) := by decide +kernel
theorem dX9_placeOf_13 : decode cX9_placeOf 13 = .ok (.aload_n 0, 1) := by decide +kernel
theorem dX9_placeOf_14 : decode cX9_placeOf 14 = .ok (.getfield 7, 3) := by decide +kernel
theorem dX9_placeOf_17 : decode cX9_placeOf 17 = .ok (.bipush 50, 2) := by decide +kernel
theorem dX9_placeOf_19 : decode cX9_placeOf 19 = .ok (.iconst 3, 1) := by decide +kernel
theorem dX9_placeOf_20 : decode cX9_placeOf 20 = .ok (.iload_n 2, 1) := by decide +kernel
theorem dX9_placeOf_21 : decode cX9_placeOf 21 = .ok (.imul, 1) := by decide +kernel
theorem dX9_placeOf_22 : decode cX9_placeOf 22 = .ok (.iadd, 1) := by decide +kernel
theorem dX9_placeOf_23 : decode cX9_placeOf 23 = .ok (.iaload, 1) := by decide +kernel
theorem dX9_placeOf_24 : decode cX9_placeOf 24 = .ok (.iload_n 1, 1) := by decide +kernel
theorem dX9_placeOf_25 : decode cX9_placeOf 25 = .ok (.if_icmp .ge 9, 3) := by decide +kernel
theorem dX9_placeOf_28 : decode cX9_placeOf 28 = .ok (.iinc 2 1, 3) := by decide +kernel
theorem dX9_placeOf_31 : decode cX9_placeOf 31 = .ok (.goto (-29), 3) := by decide +kernel
theorem dX9_placeOf_34 : decode cX9_placeOf 34 = .ok (.iload_n 2, 1) := by decide +kernel
theorem dX9_placeOf_35 : decode cX9_placeOf 35 = .ok (.ireturn, 1) := by decide +kernel
theorem dX9_isPlanned_0 : decode cX9_isPlanned 0 = .ok (.aload_n 0, 1) := by decide +kernel
theorem dX9_isPlanned_1 : decode cX9_isPlanned 1 = .ok (.iload_n 1, 1) := by decide +kernel
theorem dX9_isPlanned_2 : decode cX9_isPlanned 2 = .ok (.invokevirtual 137, 3) := by decide +kernel
theorem dX9_isPlanned_5 : decode cX9_isPlanned 5 = .ok (.istore_n 2, 1) := by decide +kernel
theorem dX9_isPlanned_6 : decode cX9_isPlanned 6 = .ok (.iload_n 2, 1) := by decide +kernel
theorem dX9_isPlanned_7 : decode cX9_isPlanned 7 = .ok (.aload_n 0, 1) := by decide +kernel
theorem dX9_isPlanned_8 : decode cX9_isPlanned 8 = .ok (.getfield 7, 3) := by decide +kernel
theorem dX9_isPlanned_11 : decode cX9_isPlanned 11 = .ok (.bipush 49, 2) := by decide +kernel
theorem dX9_isPlanned_13 : decode cX9_isPlanned 13 = .ok (.iaload, 1) := by decide +kernel
theorem dX9_isPlanned_14 : decode cX9_isPlanned 14 = .ok (.if_icmp .ge 22, 3) := by decide +kernel
theorem dX9_isPlanned_17 : decode cX9_isPlanned 17 = .ok (.aload_n 0, 1) := by decide +kernel
theorem dX9_isPlanned_18 : decode cX9_isPlanned 18 = .ok (.getfield 7, 3) := by decide +kernel
theorem dX9_isPlanned_21 : decode cX9_isPlanned 21 = .ok (.bipush 50, 2) := by decide +kernel
theorem dX9_isPlanned_23 : decode cX9_isPlanned 23 = .ok (.iconst 3, 1) := by decide +kernel
theorem dX9_isPlanned_24 : decode cX9_isPlanned 24 = .ok (.iload_n 2, 1) := by decide +kernel
theorem dX9_isPlanned_25 : decode cX9_isPlanned 25 = .ok (.imul, 1) := by decide +kernel
theorem dX9_isPlanned_26 : decode cX9_isPlanned 26 = .ok (.iadd, 1) := by decide +kernel
theorem dX9_isPlanned_27 : decode cX9_isPlanned 27 = .ok (.iaload, 1) := by decide +kernel
theorem dX9_isPlanned_28 : decode cX9_isPlanned 28 = .ok (.iload_n 1, 1) := by decide +kernel
theorem dX9_isPlanned_29 : decode cX9_isPlanned 29 = .ok (.if_icmp .ne 7, 3) := by decide +kernel
theorem dX9_isPlanned_32 : decode cX9_isPlanned 32 = .ok (.iconst 1, 1) := by decide +kernel
theorem dX9_isPlanned_33 : decode cX9_isPlanned 33 = .ok (.goto 4, 3) := by decide +kernel
theorem dX9_isPlanned_36 : decode cX9_isPlanned 36 = .ok (.iconst 0, 1) := by decide +kernel
theorem dX9_isPlanned_37 : decode cX9_isPlanned 37 = .ok (.ireturn, 1) := by decide +kernel
theorem dX9_plans_0 : decode cX9_plans 0 = .ok (.bipush 50, 2) := by decide +kernel
theorem dX9_plans_2 : decode cX9_plans 2 = .ok (.iconst 3, 1) := by decide +kernel
theorem dX9_plans_3 : decode cX9_plans 3 = .ok (.aload_n 0, 1) := by decide +kernel
theorem dX9_plans_4 : decode cX9_plans 4 = .ok (.iload_n 1, 1) := by decide +kernel
theorem dX9_plans_5 : decode cX9_plans 5 = .ok (.invokevirtual 137, 3) := by decide +kernel
theorem dX9_plans_8 : decode cX9_plans 8 = .ok (.imul, 1) := by decide +kernel
theorem dX9_plans_9 : decode cX9_plans 9 = .ok (.iadd, 1) := by decide +kernel
theorem dX9_plans_10 : decode cX9_plans 10 = .ok (.istore 4, 2) := by decide +kernel
theorem dX9_plans_12 : decode cX9_plans 12 = .ok (.aload_n 0, 1) := by decide +kernel
theorem dX9_plans_13 : decode cX9_plans 13 = .ok (.iload_n 1, 1) := by decide +kernel
theorem dX9_plans_14 : decode cX9_plans 14 = .ok (.invokevirtual 141, 3) := by decide +kernel
theorem dX9_plans_17 : decode cX9_plans 17 = .ok (.ifCond .ne 59, 3) := by decide +kernel
theorem dX9_plans_20 : decode cX9_plans 20 = .ok (.bipush 50, 2) := by decide +kernel
theorem dX9_plans_22 : decode cX9_plans 22 = .ok (.iconst 3, 1) := by decide +kernel
theorem dX9_plans_23 : decode cX9_plans 23 = .ok (.aload_n 0, 1) := by decide +kernel
theorem dX9_plans_24 : decode cX9_plans 24 = .ok (.getfield 7, 3) := by decide +kernel
theorem dX9_plans_27 : decode cX9_plans 27 = .ok (.bipush 49, 2) := by decide +kernel
theorem dX9_plans_29 : decode cX9_plans 29 = .ok (.iaload, 1) := by decide +kernel
theorem dX9_plans_30 : decode cX9_plans 30 = .ok (.imul, 1) := by decide +kernel
theorem dX9_plans_31 : decode cX9_plans 31 = .ok (.iadd, 1) := by decide +kernel
theorem dX9_plans_32 : decode cX9_plans 32 = .ok (.iconst 1, 1) := by decide +kernel
theorem dX9_plans_33 : decode cX9_plans 33 = .ok (.isub, 1) := by decide +kernel
theorem dX9_plans_34 : decode cX9_plans 34 = .ok (.istore 5, 2) := by decide +kernel
theorem dX9_plans_36 : decode cX9_plans 36 = .ok (.iload 5, 2) := by decide +kernel
theorem dX9_plans_38 : decode cX9_plans 38 = .ok (.iload 4, 2) := by decide +kernel
theorem dX9_plans_40 : decode cX9_plans 40 = .ok (.if_icmp .lt 25, 3) := by decide +kernel
theorem dX9_plans_43 : decode cX9_plans 43 = .ok (.aload_n 0, 1) := by decide +kernel
theorem dX9_plans_44 : decode cX9_plans 44 = .ok (.getfield 7, 3) := by decide +kernel
theorem dX9_plans_47 : decode cX9_plans 47 = .ok (.iload 5, 2) := by decide +kernel
theorem dX9_plans_49 : decode cX9_plans 49 = .ok (.iconst 3, 1) := by decide +kernel
theorem dX9_plans_50 : decode cX9_plans 50 = .ok (.iadd, 1) := by decide +kernel
theorem dX9_plans_51 : decode cX9_plans 51 = .ok (.aload_n 0, 1) := by decide +kernel
theorem dX9_plans_52 : decode cX9_plans 52 = .ok (.getfield 7, 3) := by decide +kernel
theorem dX9_plans_55 : decode cX9_plans 55 = .ok (.iload 5, 2) := by decide +kernel
theorem dX9_plans_57 : decode cX9_plans 57 = .ok (.iaload, 1) := by decide +kernel
theorem dX9_plans_58 : decode cX9_plans 58 = .ok (.iastore, 1) := by decide +kernel
theorem dX9_plans_59 : decode cX9_plans 59 = .ok (.iinc 5 (-1), 3) := by decide +kernel
theorem dX9_plans_62 : decode cX9_plans 62 = .ok (.goto (-26), 3) := by decide +kernel
theorem dX9_plans_65 : decode cX9_plans 65 = .ok (.aload_n 0, 1) := by decide +kernel
theorem dX9_plans_66 : decode cX9_plans 66 = .ok (.getfield 7, 3) := by decide +kernel
theorem dX9_plans_69 : decode cX9_plans 69 = .ok (.bipush 49, 2) := by decide +kernel
theorem dX9_plans_71 : decode cX9_plans 71 = .ok (.dup2, 1) := by decide +kernel
theorem dX9_plans_72 : decode cX9_plans 72 = .ok (.iaload, 1) := by decide +kernel
theorem dX9_plans_73 : decode cX9_plans 73 = .ok (.iconst 1, 1) := by decide +kernel
theorem dX9_plans_74 : decode cX9_plans 74 = .ok (.iadd, 1) := by decide +kernel
theorem dX9_plans_75 : decode cX9_plans 75 = .ok (.iastore, 1) := by decide +kernel
theorem dX9_plans_76 : decode cX9_plans 76 = .ok (.aload_n 0, 1) := by decide +kernel
theorem dX9_plans_77 : decode cX9_plans 77 = .ok (.getfield 7, 3) := by decide +kernel
theorem dX9_plans_80 : decode cX9_plans 80 = .ok (.iload 4, 2) := by decide +kernel
theorem dX9_plans_82 : decode cX9_plans 82 = .ok (.iload_n 1, 1) := by decide +kernel
theorem dX9_plans_83 : decode cX9_plans 83 = .ok (.iastore, 1) := by decide +kernel
theorem dX9_plans_84 : decode cX9_plans 84 = .ok (.aload_n 0, 1) := by decide +kernel
theorem dX9_plans_85 : decode cX9_plans 85 = .ok (.getfield 7, 3) := by decide +kernel
theorem dX9_plans_88 : decode cX9_plans 88 = .ok (.iload 4, 2) := by decide +kernel
theorem dX9_plans_90 : decode cX9_plans 90 = .ok (.iconst 1, 1) := by decide +kernel
theorem dX9_plans_91 : decode cX9_plans 91 = .ok (.iadd, 1) := by decide +kernel
theorem dX9_plans_92 : decode cX9_plans 92 = .ok (.iload_n 2, 1) := by decide +kernel
theorem dX9_plans_93 : decode cX9_plans 93 = .ok (.iastore, 1) := by decide +kernel
theorem dX9_plans_94 : decode cX9_plans 94 = .ok (.aload_n 0, 1) := by decide +kernel
theorem dX9_plans_95 : decode cX9_plans 95 = .ok (.getfield 7, 3) := by decide +kernel
theorem dX9_plans_98 : decode cX9_plans 98 = .ok (.iload 4, 2) := by decide +kernel
theorem dX9_plans_100 : decode cX9_plans 100 = .ok (.iconst 2, 1) := by decide +kernel
theorem dX9_plans_101 : decode cX9_plans 101 = .ok (.iadd, 1) := by decide +kernel
theorem dX9_plans_102 : decode cX9_plans 102 = .ok (.iload_n 3, 1) := by decide +kernel
theorem dX9_plans_103 : decode cX9_plans 103 = .ok (.iastore, 1) := by decide +kernel
theorem dX9_plans_104 : decode cX9_plans 104 = .ok (.return_, 1) := by decide +kernel
theorem dX9_boat_0 : decode cX9_boat 0 = .ok (.iload_n 1, 1) := by decide +kernel
theorem dX9_boat_1 : decode cX9_boat 1 = .ok (.iconst 0, 1) := by decide +kernel
theorem dX9_boat_2 : decode cX9_boat 2 = .ok (.sipush 9999, 3) := by decide +kernel
theorem dX9_boat_5 : decode cX9_boat 5 = .ok (.invokestatic 33, 3) := by decide +kernel
theorem dX9_boat_8 : decode cX9_boat 8 = .ok (.ifCond .eq 20, 3) := by decide +kernel
theorem dX9_boat_11 : decode cX9_boat 11 = .ok (.iload_n 2, 1) := by decide +kernel
theorem dX9_boat_12 : decode cX9_boat 12 = .ok (.invokestatic 134, 3) := by decide +kernel
theorem dX9_boat_15 : decode cX9_boat 15 = .ok (.ifCond .eq 13, 3) := by decide +kernel
theorem dX9_boat_18 : decode cX9_boat 18 = .ok (.iload_n 3, 1) := by decide +kernel
theorem dX9_boat_19 : decode cX9_boat 19 = .ok (.iconst 1, 1) := by decide +kernel
theorem dX9_boat_20 : decode cX9_boat 20 = .ok (.bipush 6, 2) := by decide +kernel
theorem dX9_boat_22 : decode cX9_boat 22 = .ok (.invokestatic 33, 3) := by decide +kernel
theorem dX9_boat_25 : decode cX9_boat 25 = .ok (.ifCond .ne 6, 3) := by decide +kernel
theorem dX9_boat_28 : decode cX9_boat 28 = .ok (.bipush (-2), 2) := by decide +kernel
theorem dX9_boat_30 : decode cX9_boat 30 = .ok (.ireturn, 1) := by decide +kernel
theorem dX9_boat_31 : decode cX9_boat 31 = .ok (.aload_n 0, 1) := by decide +kernel
theorem dX9_boat_32 : decode cX9_boat 32 = .ok (.getfield 7, 3) := by decide +kernel
theorem dX9_boat_35 : decode cX9_boat 35 = .ok (.bipush 49, 2) := by decide +kernel
theorem dX9_boat_37 : decode cX9_boat 37 = .ok (.iaload, 1) := by decide +kernel
theorem dX9_boat_38 : decode cX9_boat 38 = .ok (.bipush 10, 2) := by decide +kernel
theorem dX9_boat_40 : decode cX9_boat 40 = .ok (.if_icmp .ne 14, 3) := by decide +kernel
theorem dX9_boat_43 : decode cX9_boat 43 = .ok (.aload_n 0, 1) := by decide +kernel
theorem dX9_boat_44 : decode cX9_boat 44 = .ok (.iload_n 1, 1) := by decide +kernel
theorem dX9_boat_45 : decode cX9_boat 45 = .ok (.invokevirtual 141, 3) := by decide +kernel
theorem dX9_boat_48 : decode cX9_boat 48 = .ok (.ifCond .ne 6, 3) := by decide +kernel
theorem dX9_boat_51 : decode cX9_boat 51 = .ok (.bipush (-3), 2) := by decide +kernel
theorem dX9_boat_53 : decode cX9_boat 53 = .ok (.ireturn, 1) := by decide +kernel
theorem dX9_boat_54 : decode cX9_boat 54 = .ok (.aload_n 0, 1) := by decide +kernel
theorem dX9_boat_55 : decode cX9_boat 55 = .ok (.invokevirtual 49, 3) := by decide +kernel
theorem dX9_boat_58 : decode cX9_boat 58 = .ok (.aload_n 0, 1) := by decide +kernel
theorem dX9_boat_59 : decode cX9_boat 59 = .ok (.iload_n 1, 1) := by decide +kernel
theorem dX9_boat_60 : decode cX9_boat 60 = .ok (.iload_n 2, 1) := by decide +kernel
theorem dX9_boat_61 : decode cX9_boat 61 = .ok (.iload_n 3, 1) := by decide +kernel
theorem dX9_boat_62 : decode cX9_boat 62 = .ok (.invokevirtual 144, 3) := by decide +kernel
theorem dX9_boat_65 : decode cX9_boat 65 = .ok (.aload_n 0, 1) := by decide +kernel
theorem dX9_boat_66 : decode cX9_boat 66 = .ok (.getfield 7, 3) := by decide +kernel
theorem dX9_boat_69 : decode cX9_boat 69 = .ok (.bipush 49, 2) := by decide +kernel
theorem dX9_boat_71 : decode cX9_boat 71 = .ok (.iaload, 1) := by decide +kernel
theorem dX9_boat_72 : decode cX9_boat 72 = .ok (.ireturn, 1) := by decide +kernel
theorem dX9_pass_0 : decode cX9_pass 0 = .ok (.iload_n 1, 1) := by decide +kernel
theorem dX9_pass_1 : decode cX9_pass 1 = .ok (.iconst 1, 1) := by decide +kernel
theorem dX9_pass_2 : decode cX9_pass 2 = .ok (.sipush 200, 3) := by decide +kernel
theorem dX9_pass_5 : decode cX9_pass 5 = .ok (.invokestatic 33, 3) := by decide +kernel
theorem dX9_pass_8 : decode cX9_pass 8 = .ok (.ifCond .ne 6, 3) := by decide +kernel
theorem dX9_pass_11 : decode cX9_pass 11 = .ok (.bipush (-2), 2) := by decide +kernel
theorem dX9_pass_13 : decode cX9_pass 13 = .ok (.ireturn, 1) := by decide +kernel
theorem dX9_pass_14 : decode cX9_pass 14 = .ok (.aload_n 0, 1) := by decide +kernel
theorem dX9_pass_15 : decode cX9_pass 15 = .ok (.getfield 7, 3) := by decide +kernel
theorem dX9_pass_18 : decode cX9_pass 18 = .ok (.iconst 0, 1) := by decide +kernel
theorem dX9_pass_19 : decode cX9_pass 19 = .ok (.iaload, 1) := by decide +kernel
theorem dX9_pass_20 : decode cX9_pass 20 = .ok (.iload_n 1, 1) := by decide +kernel
theorem dX9_pass_21 : decode cX9_pass 21 = .ok (.iadd, 1) := by decide +kernel
theorem dX9_pass_22 : decode cX9_pass 22 = .ok (.ldc 148, 2) := by decide +kernel
theorem dX9_pass_24 : decode cX9_pass 24 = .ok (.if_icmp .le 6, 3) := by decide +kernel
theorem dX9_pass_27 : decode cX9_pass 27 = .ok (.bipush (-3), 2) := by decide +kernel
theorem dX9_pass_29 : decode cX9_pass 29 = .ok (.ireturn, 1) := by decide +kernel
theorem dX9_pass_30 : decode cX9_pass 30 = .ok (.aload_n 0, 1) := by decide +kernel
theorem dX9_pass_31 : decode cX9_pass 31 = .ok (.invokevirtual 49, 3) := by decide +kernel
theorem dX9_pass_34 : decode cX9_pass 34 = .ok (.iconst 0, 1) := by decide +kernel
theorem dX9_pass_35 : decode cX9_pass 35 = .ok (.istore_n 2, 1) := by decide +kernel
theorem dX9_pass_36 : decode cX9_pass 36 = .ok (.iconst 0, 1) := by decide +kernel
theorem dX9_pass_37 : decode cX9_pass 37 = .ok (.istore_n 3, 1) := by decide +kernel
theorem dX9_pass_38 : decode cX9_pass 38 = .ok (.iload_n 3, 1) := by decide +kernel
theorem dX9_pass_39 : decode cX9_pass 39 = .ok (.iload_n 1, 1) := by decide +kernel
theorem dX9_pass_40 : decode cX9_pass 40 = .ok (.if_icmp .ge 28, 3) := by decide +kernel
theorem dX9_pass_43 : decode cX9_pass 43 = .ok (.iload_n 2, 1) := by decide +kernel
theorem dX9_pass_44 : decode cX9_pass 44 = .ok (.aload_n 0, 1) := by decide +kernel
theorem dX9_pass_45 : decode cX9_pass 45 = .ok (.getfield 7, 3) := by decide +kernel
theorem dX9_pass_48 : decode cX9_pass 48 = .ok (.iconst 1, 1) := by decide +kernel
theorem dX9_pass_49 : decode cX9_pass 49 = .ok (.invokestatic 149, 3) := by decide +kernel
theorem dX9_pass_52 : decode cX9_pass 52 = .ok (.ifCond .eq 7, 3) := by decide +kernel
theorem dX9_pass_55 : decode cX9_pass 55 = .ok (.iconst 1, 1) := by decide +kernel
theorem dX9_pass_56 : decode cX9_pass 56 = .ok (.goto 4, 3) := by decide +kernel
theorem dX9_pass_59 : decode cX9_pass 59 = .ok (.iconst 0, 1) := by decide +kernel
theorem dX9_pass_60 : decode cX9_pass 60 = .ok (.iadd, 1) := by decide +kernel
theorem dX9_pass_61 : decode cX9_pass 61 = .ok (.istore_n 2, 1) := by decide +kernel
theorem dX9_pass_62 : decode cX9_pass 62 = .ok (.iinc 3 1, 3) := by decide +kernel
theorem dX9_pass_65 : decode cX9_pass 65 = .ok (.goto (-27), 3) := by decide +kernel
theorem dX9_pass_68 : decode cX9_pass 68 = .ok (.iload_n 2, 1) := by decide +kernel
theorem dX9_pass_69 : decode cX9_pass 69 = .ok (.ireturn, 1) := by decide +kernel
theorem dX9_type_0 : decode cX9_type 0 = .ok (.aload_n 0, 1) := by decide +kernel
theorem dX9_type_1 : decode cX9_type 1 = .ok (.getfield 153, 3) := by decide +kernel
theorem dX9_type_4 : decode cX9_type 4 = .ok (.bipush 60, 2) := by decide +kernel
theorem dX9_type_6 : decode cX9_type 6 = .ok (.if_icmp .ne 6, 3) := by decide +kernel
theorem dX9_type_9 : decode cX9_type 9 = .ok (.bipush (-3), 2) := by decide +kernel
theorem dX9_type_11 : decode cX9_type 11 = .ok (.ireturn, 1) := by decide +kernel
theorem dX9_type_12 : decode cX9_type 12 = .ok (.aload_n 0, 1) := by decide +kernel
theorem dX9_type_13 : decode cX9_type 13 = .ok (.getfield 22, 3) := by decide +kernel
theorem dX9_type_16 : decode cX9_type 16 = .ok (.aload_n 0, 1) := by decide +kernel
theorem dX9_type_17 : decode cX9_type 17 = .ok (.getfield 153, 3) := by decide +kernel
theorem dX9_type_20 : decode cX9_type 20 = .ok (.iload_n 1, 1) := by decide +kernel
theorem dX9_type_21 : decode cX9_type 21 = .ok (.castore, 1) := by decide +kernel
theorem dX9_type_22 : decode cX9_type 22 = .ok (.aload_n 0, 1) := by decide +kernel
theorem dX9_type_23 : decode cX9_type 23 = .ok (.dup, 1) := by decide +kernel
theorem dX9_type_24 : decode cX9_type 24 = .ok (.getfield 153, 3) := by decide +kernel
theorem dX9_type_27 : decode cX9_type 27 = .ok (.iconst 1, 1) := by decide +kernel
theorem dX9_type_28 : decode cX9_type 28 = .ok (.iadd, 1) := by decide +kernel
theorem dX9_type_29 : decode cX9_type 29 = .ok (.putfield 153, 3) := by decide +kernel
theorem dX9_type_32 : decode cX9_type 32 = .ok (.aload_n 0, 1) := by decide +kernel
theorem dX9_type_33 : decode cX9_type 33 = .ok (.getfield 153, 3) := by decide +kernel
theorem dX9_type_36 : decode cX9_type 36 = .ok (.ireturn, 1) := by decide +kernel
theorem dX9_clearText_0 : decode cX9_clearText 0 = .ok (.aload_n 0, 1) := by decide +kernel
theorem dX9_clearText_1 : decode cX9_clearText 1 = .ok (.getfield 153, 3) := by decide +kernel
theorem dX9_clearText_4 : decode cX9_clearText 4 = .ok (.istore_n 1, 1) := by decide +kernel
theorem dX9_clearText_5 : decode cX9_clearText 5 = .ok (.aload_n 0, 1) := by decide +kernel
theorem dX9_clearText_6 : decode cX9_clearText 6 = .ok (.iconst 0, 1) := by decide +kernel
theorem dX9_clearText_7 : decode cX9_clearText 7 = .ok (.putfield 153, 3) := by decide +kernel
theorem dX9_clearText_10 : decode cX9_clearText 10 = .ok (.iload_n 1, 1) := by decide +kernel
theorem dX9_clearText_11 : decode cX9_clearText 11 = .ok (.ireturn, 1) := by decide +kernel
theorem dX9_sees_0 : decode cX9_sees 0 = .ok (.aload_n 0, 1) := by decide +kernel
theorem dX9_sees_1 : decode cX9_sees 1 = .ok (.getfield 156, 3) := by decide +kernel
theorem dX9_sees_4 : decode cX9_sees 4 = .ok (.aload_n 0, 1) := by decide +kernel
theorem dX9_sees_5 : decode cX9_sees 5 = .ok (.getfield 153, 3) := by decide +kernel
theorem dX9_sees_8 : decode cX9_sees 8 = .ok (.if_icmp .ge 24, 3) := by decide +kernel
theorem dX9_sees_11 : decode cX9_sees 11 = .ok (.aload_n 0, 1) := by decide +kernel
theorem dX9_sees_12 : decode cX9_sees 12 = .ok (.getfield 22, 3) := by decide +kernel
theorem dX9_sees_15 : decode cX9_sees 15 = .ok (.aload_n 0, 1) := by decide +kernel
theorem dX9_sees_16 : decode cX9_sees 16 = .ok (.getfield 156, 3) := by decide +kernel
theorem dX9_sees_19 : decode cX9_sees 19 = .ok (.caload, 1) := by decide +kernel
theorem dX9_sees_20 : decode cX9_sees 20 = .ok (.iload_n 1, 1) := by decide +kernel
theorem dX9_sees_21 : decode cX9_sees 21 = .ok (.iload_n 2, 1) := by decide +kernel
theorem dX9_sees_22 : decode cX9_sees 22 = .ok (.invokestatic 33, 3) := by decide +kernel
theorem dX9_sees_25 : decode cX9_sees 25 = .ok (.ifCond .eq 7, 3) := by decide +kernel
theorem dX9_sees_28 : decode cX9_sees 28 = .ok (.iconst 1, 1) := by decide +kernel
theorem dX9_sees_29 : decode cX9_sees 29 = .ok (.goto 4, 3) := by decide +kernel
theorem dX9_sees_32 : decode cX9_sees 32 = .ok (.iconst 0, 1) := by decide +kernel
theorem dX9_sees_33 : decode cX9_sees 33 = .ok (.ireturn, 1) := by decide +kernel
theorem dX9_takes_0 : decode cX9_takes 0 = .ok (.aload_n 0, 1) := by decide +kernel
theorem dX9_takes_1 : decode cX9_takes 1 = .ok (.iload_n 1, 1) := by decide +kernel
theorem dX9_takes_2 : decode cX9_takes 2 = .ok (.iload_n 1, 1) := by decide +kernel
theorem dX9_takes_3 : decode cX9_takes 3 = .ok (.invokevirtual 159, 3) := by decide +kernel
theorem dX9_takes_6 : decode cX9_takes 6 = .ok (.istore_n 2, 1) := by decide +kernel
theorem dX9_takes_7 : decode cX9_takes 7 = .ok (.aload_n 0, 1) := by decide +kernel
theorem dX9_takes_8 : decode cX9_takes 8 = .ok (.dup, 1) := by decide +kernel
theorem dX9_takes_9 : decode cX9_takes 9 = .ok (.getfield 156, 3) := by decide +kernel
theorem dX9_takes_12 : decode cX9_takes 12 = .ok (.iload_n 2, 1) := by decide +kernel
theorem dX9_takes_13 : decode cX9_takes 13 = .ok (.ifCond .eq 7, 3) := by decide +kernel
theorem dX9_takes_16 : decode cX9_takes 16 = .ok (.iconst 1, 1) := by decide +kernel
theorem dX9_takes_17 : decode cX9_takes 17 = .ok (.goto 4, 3) := by decide +kernel
theorem dX9_takes_20 : decode cX9_takes 20 = .ok (.iconst 0, 1) := by decide +kernel
theorem dX9_takes_21 : decode cX9_takes 21 = .ok (.iadd, 1) := by decide +kernel
theorem dX9_takes_22 : decode cX9_takes 22 = .ok (.putfield 156, 3) := by decide +kernel
theorem dX9_takes_25 : decode cX9_takes 25 = .ok (.iload_n 2, 1) := by decide +kernel
theorem dX9_takes_26 : decode cX9_takes 26 = .ok (.ireturn, 1) := by decide +kernel
theorem dX9_digit_0 : decode cX9_digit 0 = .ok (.aload_n 0, 1) := by decide +kernel
theorem dX9_digit_1 : decode cX9_digit 1 = .ok (.iload_n 1, 1) := by decide +kernel
theorem dX9_digit_2 : decode cX9_digit 2 = .ok (.iload_n 2, 1) := by decide +kernel
theorem dX9_digit_3 : decode cX9_digit 3 = .ok (.invokevirtual 159, 3) := by decide +kernel
theorem dX9_digit_6 : decode cX9_digit 6 = .ok (.ifCond .ne 6, 3) := by decide +kernel
theorem dX9_digit_9 : decode cX9_digit 9 = .ok (.bipush (-5), 2) := by decide +kernel
