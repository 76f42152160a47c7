theorem dX7_copyFrom_18 : decode cX7_copyFrom 18 = .ok (.invokevirtual 30, 3) := by decide +kernel
theorem dX7_copyFrom_21 : decode cX7_copyFrom 21 = .ok (.iinc 2 1, 3) := by decide +kernel
theorem dX7_copyFrom_24 : decode cX7_copyFrom 24 = .ok (.goto (-22), 3) := by decide +kernel
theorem dX7_copyFrom_27 : decode cX7_copyFrom 27 = .ok (.aload_n 0, 1) := by decide +kernel
theorem dX7_copyFrom_28 : decode cX7_copyFrom 28 = .ok (.aload_n 1, 1) := by decide +kernel
theorem dX7_copyFrom_29 : decode cX7_copyFrom 29 = .ok (.getfield 34, 3) := by decide +kernel
theorem dX7_copyFrom_32 : decode cX7_copyFrom 32 = .ok (.putfield 34, 3) := by decide +kernel
theorem dX7_copyFrom_35 : decode cX7_copyFrom 35 = .ok (.aload_n 0, 1) := by decide +kernel
theorem dX7_copyFrom_36 : decode cX7_copyFrom 36 = .ok (.aload_n 1, 1) := by decide +kernel
theorem dX7_copyFrom_37 : decode cX7_copyFrom 37 = .ok (.getfield 22, 3) := by decide +kernel
theorem dX7_copyFrom_40 : decode cX7_copyFrom 40 = .ok (.putfield 22, 3) := by decide +kernel
theorem dX7_copyFrom_43 : decode cX7_copyFrom 43 = .ok (.aload_n 0, 1) := by decide +kernel
theorem dX7_copyFrom_44 : decode cX7_copyFrom 44 = .ok (.aload_n 1, 1) := by decide +kernel
theorem dX7_copyFrom_45 : decode cX7_copyFrom 45 = .ok (.getfield 37, 3) := by decide +kernel
theorem dX7_copyFrom_48 : decode cX7_copyFrom 48 = .ok (.putfield 37, 3) := by decide +kernel
theorem dX7_copyFrom_51 : decode cX7_copyFrom 51 = .ok (.aload_n 0, 1) := by decide +kernel
theorem dX7_copyFrom_52 : decode cX7_copyFrom 52 = .ok (.aload_n 1, 1) := by decide +kernel
theorem dX7_copyFrom_53 : decode cX7_copyFrom 53 = .ok (.getfield 40, 3) := by decide +kernel
theorem dX7_copyFrom_56 : decode cX7_copyFrom 56 = .ok (.putfield 40, 3) := by decide +kernel
theorem dX7_copyFrom_59 : decode cX7_copyFrom 59 = .ok (.return_, 1) := by decide +kernel
theorem dX7_lampAt_0 : decode cX7_lampAt 0 = .ok (.iload_n 1, 1) := by decide +kernel
theorem dX7_lampAt_1 : decode cX7_lampAt 1 = .ok (.ifCond .lt 12, 3) := by decide +kernel
theorem dX7_lampAt_4 : decode cX7_lampAt 4 = .ok (.iload_n 1, 1) := by decide +kernel
theorem dX7_lampAt_5 : decode cX7_lampAt 5 = .ok (.aload_n 0, 1) := by decide +kernel
theorem dX7_lampAt_6 : decode cX7_lampAt 6 = .ok (.getfield 11, 3) := by decide +kernel
theorem dX7_lampAt_9 : decode cX7_lampAt 9 = .ok (.arraylength, 1) := by decide +kernel
theorem dX7_lampAt_10 : decode cX7_lampAt 10 = .ok (.if_icmp .lt 8, 3) := by decide +kernel
theorem dX7_lampAt_13 : decode cX7_lampAt 13 = .ok (.aload_n 0, 1) := by decide +kernel
theorem dX7_lampAt_14 : decode cX7_lampAt 14 = .ok (.getfield 18, 3) := by decide +kernel
theorem dX7_lampAt_17 : decode cX7_lampAt 17 = .ok (.areturn, 1) := by decide +kernel
theorem dX7_lampAt_18 : decode cX7_lampAt 18 = .ok (.aload_n 0, 1) := by decide +kernel
theorem dX7_lampAt_19 : decode cX7_lampAt 19 = .ok (.getfield 11, 3) := by decide +kernel
theorem dX7_lampAt_22 : decode cX7_lampAt 22 = .ok (.iload_n 1, 1) := by decide +kernel
theorem dX7_lampAt_23 : decode cX7_lampAt 23 = .ok (.aaload, 1) := by decide +kernel
theorem dX7_lampAt_24 : decode cX7_lampAt 24 = .ok (.astore_n 2, 1) := by decide +kernel
theorem dX7_lampAt_25 : decode cX7_lampAt 25 = .ok (.aload_n 2, 1) := by decide +kernel
theorem dX7_lampAt_26 : decode cX7_lampAt 26 = .ok (.ifnonnull 10, 3) := by decide +kernel
theorem dX7_lampAt_29 : decode cX7_lampAt 29 = .ok (.aload_n 0, 1) := by decide +kernel
theorem dX7_lampAt_30 : decode cX7_lampAt 30 = .ok (.getfield 18, 3) := by decide +kernel
theorem dX7_lampAt_33 : decode cX7_lampAt 33 = .ok (.goto 4, 3) := by decide +kernel
theorem dX7_lampAt_36 : decode cX7_lampAt 36 = .ok (.aload_n 2, 1) := by decide +kernel
theorem dX7_lampAt_37 : decode cX7_lampAt 37 = .ok (.areturn, 1) := by decide +kernel
theorem dX7_burnsAt_0 : decode cX7_burnsAt 0 = .ok (.aload_n 0, 1) := by decide +kernel
theorem dX7_burnsAt_1 : decode cX7_burnsAt 1 = .ok (.getfield 40, 3) := by decide +kernel
theorem dX7_burnsAt_4 : decode cX7_burnsAt 4 = .ok (.ifCond .eq 15, 3) := by decide +kernel
theorem dX7_burnsAt_7 : decode cX7_burnsAt 7 = .ok (.aload_n 0, 1) := by decide +kernel
theorem dX7_burnsAt_8 : decode cX7_burnsAt 8 = .ok (.getfield 34, 3) := by decide +kernel
theorem dX7_burnsAt_11 : decode cX7_burnsAt 11 = .ok (.iload_n 1, 1) := by decide +kernel
theorem dX7_burnsAt_12 : decode cX7_burnsAt 12 = .ok (.if_icmp .ne 7, 3) := by decide +kernel
theorem dX7_burnsAt_15 : decode cX7_burnsAt 15 = .ok (.iconst 1, 1) := by decide +kernel
theorem dX7_burnsAt_16 : decode cX7_burnsAt 16 = .ok (.goto 4, 3) := by decide +kernel
theorem dX7_burnsAt_19 : decode cX7_burnsAt 19 = .ok (.iconst 0, 1) := by decide +kernel
theorem dX7_burnsAt_20 : decode cX7_burnsAt 20 = .ok (.ireturn, 1) := by decide +kernel
theorem dX7_isTurning_0 : decode cX7_isTurning 0 = .ok (.aload_n 0, 1) := by decide +kernel
theorem dX7_isTurning_1 : decode cX7_isTurning 1 = .ok (.getfield 22, 3) := by decide +kernel
theorem dX7_isTurning_4 : decode cX7_isTurning 4 = .ok (.bipush (-5), 2) := by decide +kernel
theorem dX7_isTurning_6 : decode cX7_isTurning 6 = .ok (.if_icmp .eq 7, 3) := by decide +kernel
theorem dX7_isTurning_9 : decode cX7_isTurning 9 = .ok (.iconst 1, 1) := by decide +kernel
theorem dX7_isTurning_10 : decode cX7_isTurning 10 = .ok (.goto 4, 3) := by decide +kernel
theorem dX7_isTurning_13 : decode cX7_isTurning 13 = .ok (.iconst 0, 1) := by decide +kernel
theorem dX7_isTurning_14 : decode cX7_isTurning 14 = .ok (.ireturn, 1) := by decide +kernel
theorem dX7_startTurn_0 : decode cX7_startTurn 0 = .ok (.aload_n 0, 1) := by decide +kernel
theorem dX7_startTurn_1 : decode cX7_startTurn 1 = .ok (.iconst 0, 1) := by decide +kernel
theorem dX7_startTurn_2 : decode cX7_startTurn 2 = .ok (.putfield 40, 3) := by decide +kernel
theorem dX7_startTurn_5 : decode cX7_startTurn 5 = .ok (.aload_n 0, 1) := by decide +kernel
theorem dX7_startTurn_6 : decode cX7_startTurn 6 = .ok (.iload_n 1, 1) := by decide +kernel
theorem dX7_startTurn_7 : decode cX7_startTurn 7 = .ok (.putfield 22, 3) := by decide +kernel
theorem dX7_startTurn_10 : decode cX7_startTurn 10 = .ok (.aload_n 0, 1) := by decide +kernel
theorem dX7_startTurn_11 : decode cX7_startTurn 11 = .ok (.iload_n 1, 1) := by decide +kernel
theorem dX7_startTurn_12 : decode cX7_startTurn 12 = .ok (.aload_n 0, 1) := by decide +kernel
theorem dX7_startTurn_13 : decode cX7_startTurn 13 = .ok (.getfield 34, 3) := by decide +kernel
theorem dX7_startTurn_16 : decode cX7_startTurn 16 = .ok (.isub, 1) := by decide +kernel
theorem dX7_startTurn_17 : decode cX7_startTurn 17 = .ok (.bipush 6, 2) := by decide +kernel
theorem dX7_startTurn_19 : decode cX7_startTurn 19 = .ok (.invokestatic 44, 3) := by decide +kernel
theorem dX7_startTurn_22 : decode cX7_startTurn 22 = .ok (.iload_n 2, 1) := by decide +kernel
theorem dX7_startTurn_23 : decode cX7_startTurn 23 = .ok (.imul, 1) := by decide +kernel
theorem dX7_startTurn_24 : decode cX7_startTurn 24 = .ok (.putfield 37, 3) := by decide +kernel
theorem dX7_startTurn_27 : decode cX7_startTurn 27 = .ok (.return_, 1) := by decide +kernel
theorem dX7_goOn_0 : decode cX7_goOn 0 = .ok (.aload_n 0, 1) := by decide +kernel
theorem dX7_goOn_1 : decode cX7_goOn 1 = .ok (.invokevirtual 50, 3) := by decide +kernel
theorem dX7_goOn_4 : decode cX7_goOn 4 = .ok (.ifCond .ne 4, 3) := by decide +kernel
theorem dX7_goOn_7 : decode cX7_goOn 7 = .ok (.return_, 1) := by decide +kernel
theorem dX7_goOn_8 : decode cX7_goOn 8 = .ok (.aload_n 0, 1) := by decide +kernel
theorem dX7_goOn_9 : decode cX7_goOn 9 = .ok (.dup, 1) := by decide +kernel
theorem dX7_goOn_10 : decode cX7_goOn 10 = .ok (.getfield 37, 3) := by decide +kernel
theorem dX7_goOn_13 : decode cX7_goOn 13 = .ok (.iconst 1, 1) := by decide +kernel
theorem dX7_goOn_14 : decode cX7_goOn 14 = .ok (.isub, 1) := by decide +kernel
theorem dX7_goOn_15 : decode cX7_goOn 15 = .ok (.putfield 37, 3) := by decide +kernel
theorem dX7_goOn_18 : decode cX7_goOn 18 = .ok (.aload_n 0, 1) := by decide +kernel
theorem dX7_goOn_19 : decode cX7_goOn 19 = .ok (.getfield 37, 3) := by decide +kernel
theorem dX7_goOn_22 : decode cX7_goOn 22 = .ok (.ifCond .gt 22, 3) := by decide +kernel
theorem dX7_goOn_25 : decode cX7_goOn 25 = .ok (.aload_n 0, 1) := by decide +kernel
theorem dX7_goOn_26 : decode cX7_goOn 26 = .ok (.iconst 0, 1) := by decide +kernel
theorem dX7_goOn_27 : decode cX7_goOn 27 = .ok (.putfield 37, 3) := by decide +kernel
theorem dX7_goOn_30 : decode cX7_goOn 30 = .ok (.aload_n 0, 1) := by decide +kernel
theorem dX7_goOn_31 : decode cX7_goOn 31 = .ok (.aload_n 0, 1) := by decide +kernel
theorem dX7_goOn_32 : decode cX7_goOn 32 = .ok (.getfield 22, 3) := by decide +kernel
theorem dX7_goOn_35 : decode cX7_goOn 35 = .ok (.putfield 34, 3) := by decide +kernel
theorem dX7_goOn_38 : decode cX7_goOn 38 = .ok (.aload_n 0, 1) := by decide +kernel
theorem dX7_goOn_39 : decode cX7_goOn 39 = .ok (.bipush (-5), 2) := by decide +kernel
theorem dX7_goOn_41 : decode cX7_goOn 41 = .ok (.putfield 22, 3) := by decide +kernel
theorem dX7_goOn_44 : decode cX7_goOn 44 = .ok (.return_, 1) := by decide +kernel
theorem dX7_nextSocket_0 : decode cX7_nextSocket 0 = .ok (.bipush (-5), 2) := by decide +kernel
theorem dX7_nextSocket_2 : decode cX7_nextSocket 2 = .ok (.istore_n 1, 1) := by decide +kernel
theorem dX7_nextSocket_3 : decode cX7_nextSocket 3 = .ok (.iconst 1, 1) := by decide +kernel
theorem dX7_nextSocket_4 : decode cX7_nextSocket 4 = .ok (.istore_n 2, 1) := by decide +kernel
theorem dX7_nextSocket_5 : decode cX7_nextSocket 5 = .ok (.iload_n 2, 1) := by decide +kernel
theorem dX7_nextSocket_6 : decode cX7_nextSocket 6 = .ok (.bipush 6, 2) := by decide +kernel
theorem dX7_nextSocket_8 : decode cX7_nextSocket 8 = .ok (.if_icmp .gt 52, 3) := by decide +kernel
theorem dX7_nextSocket_11 : decode cX7_nextSocket 11 = .ok (.aload_n 0, 1) := by decide +kernel
theorem dX7_nextSocket_12 : decode cX7_nextSocket 12 = .ok (.getfield 34, 3) := by decide +kernel
theorem dX7_nextSocket_15 : decode cX7_nextSocket 15 = .ok (.iload_n 2, 1) := by decide +kernel
theorem dX7_nextSocket_16 : decode cX7_nextSocket 16 = .ok (.iadd, 1) := by decide +kernel
theorem dX7_nextSocket_17 : decode cX7_nextSocket 17 = .ok (.bipush 6, 2) := by decide +kernel
theorem dX7_nextSocket_19 : decode cX7_nextSocket 19 = .ok (.irem, 1) := by decide +kernel
theorem dX7_nextSocket_20 : decode cX7_nextSocket 20 = .ok (.istore_n 3, 1) := by decide +kernel
theorem dX7_nextSocket_21 : decode cX7_nextSocket 21 = .ok (.aload_n 0, 1) := by decide +kernel
theorem dX7_nextSocket_22 : decode cX7_nextSocket 22 = .ok (.iload_n 3, 1) := by decide +kernel
theorem dX7_nextSocket_23 : decode cX7_nextSocket 23 = .ok (.invokevirtual 26, 3) := by decide +kernel
theorem dX7_nextSocket_26 : decode cX7_nextSocket 26 = .ok (.astore 4, 2) := by decide +kernel
theorem dX7_nextSocket_28 : decode cX7_nextSocket 28 = .ok (.aload 4, 2) := by decide +kernel
theorem dX7_nextSocket_30 : decode cX7_nextSocket 30 = .ok (.invokevirtual 54, 3) := by decide +kernel
theorem dX7_nextSocket_33 : decode cX7_nextSocket 33 = .ok (.ifCond .eq 5, 3) := by decide +kernel
theorem dX7_nextSocket_36 : decode cX7_nextSocket 36 = .ok (.iload_n 3, 1) := by decide +kernel
theorem dX7_nextSocket_37 : decode cX7_nextSocket 37 = .ok (.ireturn, 1) := by decide +kernel
theorem dX7_nextSocket_38 : decode cX7_nextSocket 38 = .ok (.iload_n 1, 1) := by decide +kernel
theorem dX7_nextSocket_39 : decode cX7_nextSocket 39 = .ok (.bipush (-5), 2) := by decide +kernel
theorem dX7_nextSocket_41 : decode cX7_nextSocket 41 = .ok (.if_icmp .ne 13, 3) := by decide +kernel
theorem dX7_nextSocket_44 : decode cX7_nextSocket 44 = .ok (.aload 4, 2) := by decide +kernel
theorem dX7_nextSocket_46 : decode cX7_nextSocket 46 = .ok (.invokevirtual 57, 3) := by decide +kernel
theorem dX7_nextSocket_49 : decode cX7_nextSocket 49 = .ok (.ifCond .eq 5, 3) := by decide +kernel
theorem dX7_nextSocket_52 : decode cX7_nextSocket 52 = .ok (.iload_n 3, 1) := by decide +kernel
theorem dX7_nextSocket_53 : decode cX7_nextSocket 53 = .ok (.istore_n 1, 1) := by decide +kernel
theorem dX7_nextSocket_54 : decode cX7_nextSocket 54 = .ok (.iinc 2 1, 3) := by decide +kernel
theorem dX7_nextSocket_57 : decode cX7_nextSocket 57 = .ok (.goto (-52), 3) := by decide +kernel
theorem dX7_nextSocket_60 : decode cX7_nextSocket 60 = .ok (.iload_n 1, 1) := by decide +kernel
theorem dX7_nextSocket_61 : decode cX7_nextSocket 61 = .ok (.ireturn, 1) := by decide +kernel
theorem dX7_socketOfRank_0 : decode cX7_socketOfRank 0 = .ok (.iconst 0, 1) := by decide +kernel
theorem dX7_socketOfRank_1 : decode cX7_socketOfRank 1 = .ok (.istore_n 2, 1) := by decide +kernel
theorem dX7_socketOfRank_2 : decode cX7_socketOfRank 2 = .ok (.iload_n 2, 1) := by decide +kernel
theorem dX7_socketOfRank_3 : decode cX7_socketOfRank 3 = .ok (.bipush 6, 2) := by decide +kernel
theorem dX7_socketOfRank_5 : decode cX7_socketOfRank 5 = .ok (.if_icmp .ge 31, 3) := by decide +kernel
theorem dX7_socketOfRank_8 : decode cX7_socketOfRank 8 = .ok (.aload_n 0, 1) := by decide +kernel
theorem dX7_socketOfRank_9 : decode cX7_socketOfRank 9 = .ok (.iload_n 2, 1) := by decide +kernel
theorem dX7_socketOfRank_10 : decode cX7_socketOfRank 10 = .ok (.invokevirtual 26, 3) := by decide +kernel
theorem dX7_socketOfRank_13 : decode cX7_socketOfRank 13 = .ok (.invokevirtual 57, 3) := by decide +kernel
theorem dX7_socketOfRank_16 : decode cX7_socketOfRank 16 = .ok (.ifCond .eq 14, 3) := by decide +kernel
theorem dX7_socketOfRank_19 : decode cX7_socketOfRank 19 = .ok (.aload_n 0, 1) := by decide +kernel
theorem dX7_socketOfRank_20 : decode cX7_socketOfRank 20 = .ok (.iload_n 2, 1) := by decide +kernel
theorem dX7_socketOfRank_21 : decode cX7_socketOfRank 21 = .ok (.invokevirtual 60, 3) := by decide +kernel
theorem dX7_socketOfRank_24 : decode cX7_socketOfRank 24 = .ok (.iload_n 1, 1) := by decide +kernel
theorem dX7_socketOfRank_25 : decode cX7_socketOfRank 25 = .ok (.if_icmp .ne 5, 3) := by decide +kernel
theorem dX7_socketOfRank_28 : decode cX7_socketOfRank 28 = .ok (.iload_n 2, 1) := by decide +kernel
theorem dX7_socketOfRank_29 : decode cX7_socketOfRank 29 = .ok (.ireturn, 1) := by decide +kernel
theorem dX7_socketOfRank_30 : decode cX7_socketOfRank 30 = .ok (.iinc 2 1, 3) := by decide +kernel
theorem dX7_socketOfRank_33 : decode cX7_socketOfRank 33 = .ok (.goto (-31), 3) := by decide +kernel
theorem dX7_socketOfRank_36 : decode cX7_socketOfRank 36 = .ok (.bipush (-5), 2) := by decide +kernel
theorem dX7_socketOfRank_38 : decode cX7_socketOfRank 38 = .ok (.ireturn, 1) := by decide +kernel
theorem dX7_usableOnesAheadOf_0 : decode cX7_usableOnesAheadOf 0 = .ok (.aload_n 0, 1) := by decide +kernel
theorem dX7_usableOnesAheadOf_1 : decode cX7_usableOnesAheadOf 1 = .ok (.iload_n 1, 1) := by decide +kernel
theorem dX7_usableOnesAheadOf_2 : decode cX7_usableOnesAheadOf 2 = .ok (.invokevirtual 26, 3) := by decide +kernel
theorem dX7_usableOnesAheadOf_5 : decode cX7_usableOnesAheadOf 5 = .ok (.invokevirtual 64, 3) := by decide +kernel
theorem dX7_usableOnesAheadOf_8 : decode cX7_usableOnesAheadOf 8 = .ok (.istore_n 2, 1) := by decide +kernel
theorem dX7_usableOnesAheadOf_9 : decode cX7_usableOnesAheadOf 9 = .ok (.iconst 0, 1) := by decide +kernel
theorem dX7_usableOnesAheadOf_10 : decode cX7_usableOnesAheadOf 10 = .ok (.istore_n 3, 1) := by decide +kernel
theorem dX7_usableOnesAheadOf_11 : decode cX7_usableOnesAheadOf 11 = .ok (.iconst 0, 1) := by decide +kernel
theorem dX7_usableOnesAheadOf_12 : decode cX7_usableOnesAheadOf 12 = .ok (.istore 4, 2) := by decide +kernel
theorem dX7_usableOnesAheadOf_14 : decode cX7_usableOnesAheadOf 14 = .ok (.iload 4, 2) := by decide +kernel
theorem dX7_usableOnesAheadOf_16 : decode cX7_usableOnesAheadOf 16 = .ok (.bipush 6, 2) := by decide +kernel
theorem dX7_usableOnesAheadOf_18 : decode cX7_usableOnesAheadOf 18 = .ok (.if_icmp .ge 64, 3) := by decide +kernel
theorem dX7_usableOnesAheadOf_21 : decode cX7_usableOnesAheadOf 21 = .ok (.aload_n 0, 1) := by decide +kernel
theorem dX7_usableOnesAheadOf_22 : decode cX7_usableOnesAheadOf 22 = .ok (.iload 4, 2) := by decide +kernel
theorem dX7_usableOnesAheadOf_24 : decode cX7_usableOnesAheadOf 24 = .ok (.invokevirtual 26, 3) := by decide +kernel
theorem dX7_usableOnesAheadOf_27 : decode cX7_usableOnesAheadOf 27 = .ok (.astore 5, 2) := by decide +kernel
theorem dX7_usableOnesAheadOf_29 : decode cX7_usableOnesAheadOf 29 = .ok (.aload 5, 2) := by decide +kernel
theorem dX7_usableOnesAheadOf_31 : decode cX7_usableOnesAheadOf 31 = .ok (.invokevirtual 64, 3) := by decide +kernel
theorem dX7_usableOnesAheadOf_34 : decode cX7_usableOnesAheadOf 34 = .ok (.iload_n 2, 1) := by decide +kernel
theorem dX7_usableOnesAheadOf_35 : decode cX7_usableOnesAheadOf 35 = .ok (.if_icmp .gt 18, 3) := by decide +kernel
theorem dX7_usableOnesAheadOf_38 : decode cX7_usableOnesAheadOf 38 = .ok (.aload 5, 2) := by decide +kernel
theorem dX7_usableOnesAheadOf_40 : decode cX7_usableOnesAheadOf 40 = .ok (.invokevirtual 64, 3) := by decide +kernel
theorem dX7_usableOnesAheadOf_43 : decode cX7_usableOnesAheadOf 43 = .ok (.iload_n 2, 1) := by decide +kernel
theorem dX7_usableOnesAheadOf_44 : decode cX7_usableOnesAheadOf 44 = .ok (.if_icmp .ne 13, 3) := by decide +kernel
theorem dX7_usableOnesAheadOf_47 : decode cX7_usableOnesAheadOf 47 = .ok (.iload 4, 2) := by decide +kernel
theorem dX7_usableOnesAheadOf_49 : decode cX7_usableOnesAheadOf 49 = .ok (.iload_n 1, 1) := by decide +kernel
theorem dX7_usableOnesAheadOf_50 : decode cX7_usableOnesAheadOf 50 = .ok (.if_icmp .ge 7, 3) := by decide +kernel
theorem dX7_usableOnesAheadOf_53 : decode cX7_usableOnesAheadOf 53 = .ok (.iconst 1, 1) := by decide +kernel
theorem dX7_usableOnesAheadOf_54 : decode cX7_usableOnesAheadOf 54 = .ok (.goto 4, 3) := by decide +kernel
theorem dX7_usableOnesAheadOf_57 : decode cX7_usableOnesAheadOf 57 = .ok (.iconst 0, 1) := by decide +kernel
theorem dX7_usableOnesAheadOf_58 : decode cX7_usableOnesAheadOf 58 = .ok (.istore 6, 2) := by decide +kernel
theorem dX7_usableOnesAheadOf_60 : decode cX7_usableOnesAheadOf 60 = .ok (.aload 5, 2) := by decide +kernel
theorem dX7_usableOnesAheadOf_62 : decode cX7_usableOnesAheadOf 62 = .ok (.invokevirtual 57, 3) := by decide +kernel
theorem dX7_usableOnesAheadOf_65 : decode cX7_usableOnesAheadOf 65 = .ok (.ifCond .eq 11, 3) := by decide +kernel
theorem dX7_usableOnesAheadOf_68 : decode cX7_usableOnesAheadOf 68 = .ok (.iload 6, 2) := by decide +kernel
theorem dX7_usableOnesAheadOf_70 : decode cX7_usableOnesAheadOf 70 = .ok (.ifCond .eq 6, 3) := by decide +kernel
theorem dX7_usableOnesAheadOf_73 : decode cX7_usableOnesAheadOf 73 = .ok (.iinc 3 1, 3) := by decide +kernel
theorem dX7_usableOnesAheadOf_76 : decode cX7_usableOnesAheadOf 76 = .ok (.iinc 4 1, 3) := by decide +kernel
theorem dX7_usableOnesAheadOf_79 : decode cX7_usableOnesAheadOf 79 = .ok (.goto (-65), 3) := by decide +kernel
theorem dX7_usableOnesAheadOf_82 : decode cX7_usableOnesAheadOf 82 = .ok (.iload_n 3, 1) := by decide +kernel
theorem dX7_usableOnesAheadOf_83 : decode cX7_usableOnesAheadOf 83 = .ok (.ireturn, 1) := by decide +kernel
theorem dX7_lampsThere_0 : decode cX7_lampsThere 0 = .ok (.iconst 0, 1) := by decide +kernel
theorem dX7_lampsThere_1 : decode cX7_lampsThere 1 = .ok (.istore_n 1, 1) := by decide +kernel
theorem dX7_lampsThere_2 : decode cX7_lampsThere 2 = .ok (.iconst 0, 1) := by decide +kernel
theorem dX7_lampsThere_3 : decode cX7_lampsThere 3 = .ok (.istore_n 2, 1) := by decide +kernel
theorem dX7_lampsThere_4 : decode cX7_lampsThere 4 = .ok (.iload_n 2, 1) := by decide +kernel
theorem dX7_lampsThere_5 : decode cX7_lampsThere 5 = .ok (.bipush 6, 2) := by decide +kernel
theorem dX7_lampsThere_7 : decode cX7_lampsThere 7 = .ok (.if_icmp .ge 23, 3) := by decide +kernel
theorem dX7_lampsThere_10 : decode cX7_lampsThere 10 = .ok (.iload_n 1, 1) := by decide +kernel
theorem dX7_lampsThere_11 : decode cX7_lampsThere 11 = .ok (.aload_n 0, 1) := by decide +kernel
theorem dX7_lampsThere_12 : decode cX7_lampsThere 12 = .ok (.iload_n 2, 1) := by decide +kernel
theorem dX7_lampsThere_13 : decode cX7_lampsThere 13 = .ok (.invokevirtual 26, 3) := by decide +kernel
theorem dX7_lampsThere_16 : decode cX7_lampsThere 16 = .ok (.invokevirtual 68, 3) := by decide +kernel
theorem dX7_lampsThere_19 : decode cX7_lampsThere 19 = .ok (.invokestatic 71, 3) := by decide +kernel
theorem dX7_lampsThere_22 : decode cX7_lampsThere 22 = .ok (.iadd, 1) := by decide +kernel
theorem dX7_lampsThere_23 : decode cX7_lampsThere 23 = .ok (.istore_n 1, 1) := by decide +kernel
theorem dX7_lampsThere_24 : decode cX7_lampsThere 24 = .ok (.iinc 2 1, 3) := by decide +kernel
theorem dX7_lampsThere_27 : decode cX7_lampsThere 27 = .ok (.goto (-23), 3) := by decide +kernel
theorem dX7_lampsThere_30 : decode cX7_lampsThere 30 = .ok (.iload_n 1, 1) := by decide +kernel
theorem dX7_lampsThere_31 : decode cX7_lampsThere 31 = .ok (.ireturn, 1) := by decide +kernel
theorem dX7_lampsBurntOut_0 : decode cX7_lampsBurntOut 0 = .ok (.iconst 0, 1) := by decide +kernel
theorem dX7_lampsBurntOut_1 : decode cX7_lampsBurntOut 1 = .ok (.istore_n 1, 1) := by decide +kernel
theorem dX7_lampsBurntOut_2 : decode cX7_lampsBurntOut 2 = .ok (.iconst 0, 1) := by decide +kernel
theorem dX7_lampsBurntOut_3 : decode cX7_lampsBurntOut 3 = .ok (.istore_n 2, 1) := by decide +kernel
theorem dX7_lampsBurntOut_4 : decode cX7_lampsBurntOut 4 = .ok (.iload_n 2, 1) := by decide +kernel
theorem dX7_lampsBurntOut_5 : decode cX7_lampsBurntOut 5 = .ok (.bipush 6, 2) := by decide +kernel
theorem dX7_lampsBurntOut_7 : decode cX7_lampsBurntOut 7 = .ok (.if_icmp .ge 40, 3) := by decide +kernel
theorem dX7_lampsBurntOut_10 : decode cX7_lampsBurntOut 10 = .ok (.aload_n 0, 1) := by decide +kernel
theorem dX7_lampsBurntOut_11 : decode cX7_lampsBurntOut 11 = .ok (.iload_n 2, 1) := by decide +kernel
theorem dX7_lampsBurntOut_12 : decode cX7_lampsBurntOut 12 = .ok (.invokevirtual 26, 3) := by decide +kernel
theorem dX7_lampsBurntOut_15 : decode cX7_lampsBurntOut 15 = .ok (.astore_n 3, 1) := by decide +kernel
theorem dX7_lampsBurntOut_16 : decode cX7_lampsBurntOut 16 = .ok (.iload_n 1, 1) := by decide +kernel
theorem dX7_lampsBurntOut_17 : decode cX7_lampsBurntOut 17 = .ok (.aload_n 3, 1) := by decide +kernel
theorem dX7_lampsBurntOut_18 : decode cX7_lampsBurntOut 18 = .ok (.invokevirtual 68, 3) := by decide +kernel
theorem dX7_lampsBurntOut_21 : decode cX7_lampsBurntOut 21 = .ok (.ifCond .eq 14, 3) := by decide +kernel
theorem dX7_lampsBurntOut_24 : decode cX7_lampsBurntOut 24 = .ok (.aload_n 3, 1) := by decide +kernel
theorem dX7_lampsBurntOut_25 : decode cX7_lampsBurntOut 25 = .ok (.invokevirtual 75, 3) := by decide +kernel
theorem dX7_lampsBurntOut_28 : decode cX7_lampsBurntOut 28 = .ok (.ifCond .eq 7, 3) := by decide +kernel
theorem dX7_lampsBurntOut_31 : decode cX7_lampsBurntOut 31 = .ok (.iconst 1, 1) := by decide +kernel
theorem dX7_lampsBurntOut_32 : decode cX7_lampsBurntOut 32 = .ok (.goto 4, 3) := by decide +kernel
theorem dX7_lampsBurntOut_35 : decode cX7_lampsBurntOut 35 = .ok (.iconst 0, 1) := by decide +kernel
theorem dX7_lampsBurntOut_36 : decode cX7_lampsBurntOut 36 = .ok (.invokestatic 71, 3) := by decide +kernel
theorem dX7_lampsBurntOut_39 : decode cX7_lampsBurntOut 39 = .ok (.iadd, 1) := by decide +kernel
theorem dX7_lampsBurntOut_40 : decode cX7_lampsBurntOut 40 = .ok (.istore_n 1, 1) := by decide +kernel
theorem dX7_lampsBurntOut_41 : decode cX7_lampsBurntOut 41 = .ok (.iinc 2 1, 3) := by decide +kernel
theorem dX7_lampsBurntOut_44 : decode cX7_lampsBurntOut 44 = .ok (.goto (-40), 3) := by decide +kernel
theorem dX7_lampsBurntOut_47 : decode cX7_lampsBurntOut 47 = .ok (.iload_n 1, 1) := by decide +kernel
theorem dX7_lampsBurntOut_48 : decode cX7_lampsBurntOut 48 = .ok (.ireturn, 1) := by decide +kernel
theorem dX7_lampsTired_0 : decode cX7_lampsTired 0 = .ok (.iconst 0, 1) := by decide +kernel
theorem dX7_lampsTired_1 : decode cX7_lampsTired 1 = .ok (.istore_n 1, 1) := by decide +kernel
theorem dX7_lampsTired_2 : decode cX7_lampsTired 2 = .ok (.iconst 0, 1) := by decide +kernel
theorem dX7_lampsTired_3 : decode cX7_lampsTired 3 = .ok (.istore_n 2, 1) := by decide +kernel
theorem dX7_lampsTired_4 : decode cX7_lampsTired 4 = .ok (.iload_n 2, 1) := by decide +kernel
theorem dX7_lampsTired_5 : decode cX7_lampsTired 5 = .ok (.bipush 6, 2) := by decide +kernel
theorem dX7_lampsTired_7 : decode cX7_lampsTired 7 = .ok (.if_icmp .ge 40, 3) := by decide +kernel
theorem dX7_lampsTired_10 : decode cX7_lampsTired 10 = .ok (.aload_n 0, 1) := by decide +kernel
theorem dX7_lampsTired_11 : decode cX7_lampsTired 11 = .ok (.iload_n 2, 1) := by decide +kernel
theorem dX7_lampsTired_12 : decode cX7_lampsTired 12 = .ok (.invokevirtual 26, 3) := by decide +kernel
theorem dX7_lampsTired_15 : decode cX7_lampsTired 15 = .ok (.astore_n 3, 1) := by decide +kernel
theorem dX7_lampsTired_16 : decode cX7_lampsTired 16 = .ok (.iload_n 1, 1) := by decide +kernel
theorem dX7_lampsTired_17 : decode cX7_lampsTired 17 = .ok (.aload_n 3, 1) := by decide +kernel
theorem dX7_lampsTired_18 : decode cX7_lampsTired 18 = .ok (.invokevirtual 57, 3) := by decide +kernel
theorem dX7_lampsTired_21 : decode cX7_lampsTired 21 = .ok (.ifCond .eq 14, 3) := by decide +kernel
theorem dX7_lampsTired_24 : decode cX7_lampsTired 24 = .ok (.aload_n 3, 1) := by decide +kernel
theorem dX7_lampsTired_25 : decode cX7_lampsTired 25 = .ok (.getfield 78, 3) := by decide +kernel
theorem dX7_lampsTired_28 : decode cX7_lampsTired 28 = .ok (.ifCond .eq 7, 3) := by decide +kernel
theorem dX7_lampsTired_31 : decode cX7_lampsTired 31 = .ok (.iconst 1, 1) := by decide +kernel
theorem dX7_lampsTired_32 : decode cX7_lampsTired 32 = .ok (.goto 4, 3) := by decide +kernel
theorem dX7_lampsTired_35 : decode cX7_lampsTired 35 = .ok (.iconst 0, 1) := by decide +kernel
theorem dX7_lampsTired_36 : decode cX7_lampsTired 36 = .ok (.invokestatic 71, 3) := by decide +kernel
theorem dX7_lampsTired_39 : decode cX7_lampsTired 39 = .ok (.iadd, 1) := by decide +kernel
theorem dX7_lampsTired_40 : decode cX7_lampsTired 40 = .ok (.istore_n 1, 1) := by decide +kernel
theorem dX7_lampsTired_41 : decode cX7_lampsTired 41 = .ok (.iinc 2 1, 3) := by decide +kernel
theorem dX7_lampsTired_44 : decode cX7_lampsTired 44 = .ok (.goto (-40), 3) := by decide +kernel
theorem dX7_lampsTired_47 : decode cX7_lampsTired 47 = .ok (.iload_n 1, 1) := by decide +kernel
theorem dX7_lampsTired_48 : decode cX7_lampsTired 48 = .ok (.ireturn, 1) := by decide +kernel
theorem dX8_init_0 : decode cX8_init 0 = .ok (.aload_n 0, 1) := by decide +kernel
theorem dX8_init_1 : decode cX8_init 1 = .ok (.invokespecial 1, 3) := by decide +kernel
theorem dX8_init_4 : decode cX8_init 4 = .ok (.aload_n 0, 1) := by decide +kernel
theorem dX8_init_5 : decode cX8_init 5 = .ok (.new 7, 3) := by decide +kernel
theorem dX8_init_8 : decode cX8_init 8 = .ok (.dup, 1) := by decide +kernel
theorem dX8_init_9 : decode cX8_init 9 = .ok (.invokespecial 9, 3) := by decide +kernel
theorem dX8_init_12 : decode cX8_init 12 = .ok (.putfield 10, 3) := by decide +kernel
theorem dX8_init_15 : decode cX8_init 15 = .ok (.aload_n 0, 1) := by decide +kernel
theorem dX8_init_16 : decode cX8_init 16 = .ok (.new 7, 3) := by decide +kernel
theorem dX8_init_19 : decode cX8_init 19 = .ok (.dup, 1) := by decide +kernel
theorem dX8_init_20 : decode cX8_init 20 = .ok (.invokespecial 9, 3) := by decide +kernel
theorem dX8_init_23 : decode cX8_init 23 = .ok (.putfield 16, 3) := by decide +kernel
theorem dX8_init_26 : decode cX8_init 26 = .ok (.aload_n 0, 1) := by decide +kernel
theorem dX8_init_27 : decode cX8_init 27 = .ok (.new 7, 3) := by decide +kernel
theorem dX8_init_30 : decode cX8_init 30 = .ok (.dup, 1) := by decide +kernel
theorem dX8_init_31 : decode cX8_init 31 = .ok (.invokespecial 9, 3) := by decide +kernel
theorem dX8_init_34 : decode cX8_init 34 = .ok (.putfield 19, 3) := by decide +kernel
theorem dX8_init_37 : decode cX8_init 37 = .ok (.aload_n 0, 1) := by decide +kernel
theorem dX8_init_38 : decode cX8_init 38 = .ok (.new 22, 3) := by decide +kernel
theorem dX8_init_41 : decode cX8_init 41 = .ok (.dup, 1) := by decide +kernel
theorem dX8_init_42 : decode cX8_init 42 = .ok (.invokespecial 24, 3) := by decide +kernel
theorem dX8_init_45 : decode cX8_init 45 = .ok (.putfield 25, 3) := by decide +kernel
theorem dX8_init_48 : decode cX8_init 48 = .ok (.aload_n 0, 1) := by decide +kernel
theorem dX8_init_49 : decode cX8_init 49 = .ok (.new 29, 3) := by decide +kernel
theorem dX8_init_52 : decode cX8_init 52 = .ok (.dup, 1) := by decide +kernel
theorem dX8_init_53 : decode cX8_init 53 = .ok (.invokespecial 31, 3) := by decide +kernel
theorem dX8_init_56 : decode cX8_init 56 = .ok (.putfield 32, 3) := by decide +kernel
theorem dX8_init_59 : decode cX8_init 59 = .ok (.aload_n 0, 1) := by decide +kernel
theorem dX8_init_60 : decode cX8_init 60 = .ok (.new 36, 3) := by decide +kernel
theorem dX8_init_63 : decode cX8_init 63 = .ok (.dup, 1) := by decide +kernel
theorem dX8_init_64 : decode cX8_init 64 = .ok (.invokespecial 38, 3) := by decide +kernel
theorem dX8_init_67 : decode cX8_init 67 = .ok (.putfield 39, 3) := by decide +kernel
theorem dX8_init_70 : decode cX8_init 70 = .ok (.aload_n 0, 1) := by decide +kernel
theorem dX8_init_71 : decode cX8_init 71 = .ok (.new 43, 3) := by decide +kernel
theorem dX8_init_74 : decode cX8_init 74 = .ok (.dup, 1) := by decide +kernel
theorem dX8_init_75 : decode cX8_init 75 = .ok (.invokespecial 45, 3) := by decide +kernel
theorem dX8_init_78 : decode cX8_init 78 = .ok (.putfield 46, 3) := by decide +kernel
theorem dX8_init_81 : decode cX8_init 81 = .ok (.aload_n 0, 1) := by decide +kernel
theorem dX8_init_82 : decode cX8_init 82 = .ok (.iconst 0, 1) := by decide +kernel
theorem dX8_init_83 : decode cX8_init 83 = .ok (.putfield 50, 3) := by decide +kernel
theorem dX8_init_86 : decode cX8_init 86 = .ok (.return_, 1) := by decide +kernel
theorem dX8_set_0 : decode cX8_set 0 = .ok (.iload_n 1, 1) := by decide +kernel
theorem dX8_set_1 : decode cX8_set 1 = .ok (.invokestatic 54, 3) := by decide +kernel
theorem dX8_set_4 : decode cX8_set 4 = .ok (.ifCond .ne 5, 3) := by decide +kernel
theorem dX8_set_7 : decode cX8_set 7 = .ok (.iconst (-1), 1) := by decide +kernel
theorem dX8_set_8 : decode cX8_set 8 = .ok (.ireturn, 1) := by decide +kernel
theorem dX8_set_9 : decode cX8_set 9 = .ok (.iload_n 2, 1) := by decide +kernel
theorem dX8_set_10 : decode cX8_set 10 = .ok (.getstatic 58, 3) := by decide +kernel
theorem dX8_set_13 : decode cX8_set 13 = .ok (.iload_n 1, 1) := by decide +kernel
theorem dX8_set_14 : decode cX8_set 14 = .ok (.invokestatic 62, 3) := by decide +kernel
theorem dX8_set_17 : decode cX8_set 17 = .ok (.getstatic 68, 3) := by decide +kernel
theorem dX8_set_20 : decode cX8_set 20 = .ok (.iload_n 1, 1) := by decide +kernel
theorem dX8_set_21 : decode cX8_set 21 = .ok (.invokestatic 62, 3) := by decide +kernel
theorem dX8_set_24 : decode cX8_set 24 = .ok (.invokestatic 71, 3) := by decide +kernel
theorem dX8_set_27 : decode cX8_set 27 = .ok (.ifCond .ne 6, 3) := by decide +kernel
theorem dX8_set_30 : decode cX8_set 30 = .ok (.bipush (-2), 2) := by decide +kernel
theorem dX8_set_32 : decode cX8_set 32 = .ok (.ireturn, 1) := by decide +kernel
theorem dX8_set_33 : decode cX8_set 33 = .ok (.aload_n 0, 1) := by decide +kernel
theorem dX8_set_34 : decode cX8_set 34 = .ok (.getfield 10, 3) := by decide +kernel
theorem dX8_set_37 : decode cX8_set 37 = .ok (.getfield 75, 3) := by decide +kernel
theorem dX8_set_40 : decode cX8_set 40 = .ok (.iload_n 1, 1) := by decide +kernel
theorem dX8_set_41 : decode cX8_set 41 = .ok (.invokestatic 62, 3) := by decide +kernel
theorem dX8_set_44 : decode cX8_set 44 = .ok (.istore_n 3, 1) := by decide +kernel
theorem dX8_set_45 : decode cX8_set 45 = .ok (.iload_n 3, 1) := by decide +kernel
theorem dX8_set_46 : decode cX8_set 46 = .ok (.iload_n 2, 1) := by decide +kernel
theorem dX8_set_47 : decode cX8_set 47 = .ok (.if_icmp .ne 6, 3) := by decide +kernel
theorem dX8_set_50 : decode cX8_set 50 = .ok (.bipush (-5), 2) := by decide +kernel
theorem dX8_set_52 : decode cX8_set 52 = .ok (.ireturn, 1) := by decide +kernel
theorem dX8_set_53 : decode cX8_set 53 = .ok (.aload_n 0, 1) := by decide +kernel
theorem dX8_set_54 : decode cX8_set 54 = .ok (.getfield 32, 3) := by decide +kernel
theorem dX8_set_57 : decode cX8_set 57 = .ok (.aload_n 0, 1) := by decide +kernel
theorem dX8_set_58 : decode cX8_set 58 = .ok (.getfield 10, 3) := by decide +kernel
theorem dX8_set_61 : decode cX8_set 61 = .ok (.invokevirtual 78, 3) := by decide +kernel
theorem dX8_set_64 : decode cX8_set 64 = .ok (.aload_n 0, 1) := by decide +kernel
theorem dX8_set_65 : decode cX8_set 65 = .ok (.getfield 10, 3) := by decide +kernel
theorem dX8_set_68 : decode cX8_set 68 = .ok (.getfield 75, 3) := by decide +kernel
theorem dX8_set_71 : decode cX8_set 71 = .ok (.iload_n 1, 1) := by decide +kernel
theorem dX8_set_72 : decode cX8_set 72 = .ok (.iload_n 2, 1) := by decide +kernel
theorem dX8_set_73 : decode cX8_set 73 = .ok (.invokestatic 82, 3) := by decide +kernel
theorem dX8_set_76 : decode cX8_set 76 = .ok (.iload_n 3, 1) := by decide +kernel
theorem dX8_set_77 : decode cX8_set 77 = .ok (.ireturn, 1) := by decide +kernel
theorem dX8_setNight_0 : decode cX8_setNight 0 = .ok (.iload_n 1, 1) := by decide +kernel
theorem dX8_setNight_1 : decode cX8_setNight 1 = .ok (.invokestatic 86, 3) := by decide +kernel
theorem dX8_setNight_4 : decode cX8_setNight 4 = .ok (.ifCond .eq 15, 3) := by decide +kernel
theorem dX8_setNight_7 : decode cX8_setNight 7 = .ok (.iload_n 2, 1) := by decide +kernel
theorem dX8_setNight_8 : decode cX8_setNight 8 = .ok (.invokestatic 86, 3) := by decide +kernel
theorem dX8_setNight_11 : decode cX8_setNight 11 = .ok (.ifCond .eq 8, 3) := by decide +kernel
theorem dX8_setNight_14 : decode cX8_setNight 14 = .ok (.iload_n 1, 1) := by decide +kernel
theorem dX8_setNight_15 : decode cX8_setNight 15 = .ok (.iload_n 2, 1) := by decide +kernel
theorem dX8_setNight_16 : decode cX8_setNight 16 = .ok (.if_icmp .ne 6, 3) := by decide +kernel
theorem dX8_setNight_19 : decode cX8_setNight 19 = .ok (.bipush (-2), 2) := by decide +kernel
theorem dX8_setNight_21 : decode cX8_setNight 21 = .ok (.ireturn, 1) := by decide +kernel
theorem dX8_setNight_22 : decode cX8_setNight 22 = .ok (.aload_n 0, 1) := by decide +kernel
theorem dX8_setNight_23 : decode cX8_setNight 23 = .ok (.getfield 10, 3) := by decide +kernel
theorem dX8_setNight_26 : decode cX8_setNight 26 = .ok (.getfield 89, 3) := by decide +kernel
theorem dX8_setNight_29 : decode cX8_setNight 29 = .ok (.iload_n 1, 1) := by decide +kernel
theorem dX8_setNight_30 : decode cX8_setNight 30 = .ok (.if_icmp .ne 17, 3) := by decide +kernel
theorem dX8_setNight_33 : decode cX8_setNight 33 = .ok (.aload_n 0, 1) := by decide +kernel
theorem dX8_setNight_34 : decode cX8_setNight 34 = .ok (.getfield 10, 3) := by decide +kernel
theorem dX8_setNight_37 : decode cX8_setNight 37 = .ok (.getfield 93, 3) := by decide +kernel
theorem dX8_setNight_40 : decode cX8_setNight 40 = .ok (.iload_n 2, 1) := by decide +kernel
theorem dX8_setNight_41 : decode cX8_setNight 41 = .ok (.if_icmp .ne 6, 3) := by decide +kernel
theorem dX8_setNight_44 : decode cX8_setNight 44 = .ok (.bipush (-5), 2) := by decide +kernel
theorem dX8_setNight_46 : decode cX8_setNight 46 = .ok (.ireturn, 1) := by decide +kernel
theorem dX8_setNight_47 : decode cX8_setNight 47 = .ok (.aload_n 0, 1) := by decide +kernel
theorem dX8_setNight_48 : decode cX8_setNight 48 = .ok (.getfield 32, 3) := by decide +kernel
theorem dX8_setNight_51 : decode cX8_setNight 51 = .ok (.aload_n 0, 1) := by decide +kernel
theorem dX8_setNight_52 : decode cX8_setNight 52 = .ok (.getfield 10, 3) := by decide +kernel
theorem dX8_setNight_55 : decode cX8_setNight 55 = .ok (.invokevirtual 78, 3) := by decide +kernel
theorem dX8_setNight_58 : decode cX8_setNight 58 = .ok (.aload_n 0, 1) := by decide +kernel
theorem dX8_setNight_59 : decode cX8_setNight 59 = .ok (.getfield 10, 3) := by decide +kernel
theorem dX8_setNight_62 : decode cX8_setNight 62 = .ok (.iload_n 1, 1) := by decide +kernel
theorem dX8_setNight_63 : decode cX8_setNight 63 = .ok (.putfield 89, 3) := by decide +kernel
theorem dX8_setNight_66 : decode cX8_setNight 66 = .ok (.aload_n 0, 1) := by decide +kernel
theorem dX8_setNight_67 : decode cX8_setNight 67 = .ok (.getfield 10, 3) := by decide +kernel
theorem dX8_setNight_70 : decode cX8_setNight 70 = .ok (.iload_n 2, 1) := by decide +kernel
theorem dX8_setNight_71 : decode cX8_setNight 71 = .ok (.putfield 93, 3) := by decide +kernel
theorem dX8_setNight_74 : decode cX8_setNight 74 = .ok (.aload_n 0, 1) := by decide +kernel
theorem dX8_setNight_75 : decode cX8_setNight 75 = .ok (.getfield 10, 3) := by decide +kernel
theorem dX8_setNight_78 : decode cX8_setNight 78 = .ok (.invokevirtual 96, 3) := by decide +kernel
theorem dX8_setNight_81 : decode cX8_setNight 81 = .ok (.ireturn, 1) := by decide +kernel
theorem dX8_putIn_0 : decode cX8_putIn 0 = .ok (.iload_n 1, 1) := by decide +kernel
theorem dX8_putIn_1 : decode cX8_putIn 1 = .ok (.invokestatic 100, 3) := by decide +kernel
theorem dX8_putIn_4 : decode cX8_putIn 4 = .ok (.ifCond .ne 5, 3) := by decide +kernel
theorem dX8_putIn_7 : decode cX8_putIn 7 = .ok (.iconst (-1), 1) := by decide +kernel
theorem dX8_putIn_8 : decode cX8_putIn 8 = .ok (.ireturn, 1) := by decide +kernel
theorem dX8_putIn_9 : decode cX8_putIn 9 = .ok (.iload_n 2, 1) := by decide +kernel
theorem dX8_putIn_10 : decode cX8_putIn 10 = .ok (.invokestatic 103, 3) := by decide +kernel
theorem dX8_putIn_13 : decode cX8_putIn 13 = .ok (.ifCond .eq 15, 3) := by decide +kernel
theorem dX8_putIn_16 : decode cX8_putIn 16 = .ok (.iload_n 3, 1) := by decide +kernel
theorem dX8_putIn_17 : decode cX8_putIn 17 = .ok (.bipush 50, 2) := by decide +kernel
theorem dX8_putIn_19 : decode cX8_putIn 19 = .ok (.sipush 150, 3) := by decide +kernel
theorem dX8_putIn_22 : decode cX8_putIn 22 = .ok (.invokestatic 71, 3) := by decide +kernel
theorem dX8_putIn_25 : decode cX8_putIn 25 = .ok (.ifCond .ne 6, 3) := by decide +kernel
theorem dX8_putIn_28 : decode cX8_putIn 28 = .ok (.bipush (-2), 2) := by decide +kernel
theorem dX8_putIn_30 : decode cX8_putIn 30 = .ok (.ireturn, 1) := by decide +kernel
theorem dX8_putIn_31 : decode cX8_putIn 31 = .ok (.aload_n 0, 1) := by decide +kernel
theorem dX8_putIn_32 : decode cX8_putIn 32 = .ok (.getfield 10, 3) := by decide +kernel
theorem dX8_putIn_35 : decode cX8_putIn 35 = .ok (.getfield 106, 3) := by decide +kernel
theorem dX8_putIn_38 : decode cX8_putIn 38 = .ok (.iload_n 1, 1) := by decide +kernel
theorem dX8_putIn_39 : decode cX8_putIn 39 = .ok (.invokevirtual 110, 3) := by decide +kernel
theorem dX8_putIn_42 : decode cX8_putIn 42 = .ok (.astore 4, 2) := by decide +kernel
theorem dX8_putIn_44 : decode cX8_putIn 44 = .ok (.aload 4, 2) := by decide +kernel
theorem dX8_putIn_46 : decode cX8_putIn 46 = .ok (.invokevirtual 116, 3) := by decide +kernel
theorem dX8_putIn_49 : decode cX8_putIn 49 = .ok (.ifCond .eq 6, 3) := by decide +kernel
theorem dX8_putIn_52 : decode cX8_putIn 52 = .ok (.bipush (-4), 2) := by decide +kernel
theorem dX8_putIn_54 : decode cX8_putIn 54 = .ok (.ireturn, 1) := by decide +kernel
theorem dX8_putIn_55 : decode cX8_putIn 55 = .ok (.aload_n 0, 1) := by decide +kernel
theorem dX8_putIn_56 : decode cX8_putIn 56 = .ok (.getfield 32, 3) := by decide +kernel
theorem dX8_putIn_59 : decode cX8_putIn 59 = .ok (.aload_n 0, 1) := by decide +kernel
theorem dX8_putIn_60 : decode cX8_putIn 60 = .ok (.getfield 10, 3) := by decide +kernel
theorem dX8_putIn_63 : decode cX8_putIn 63 = .ok (.invokevirtual 78, 3) := by decide +kernel
theorem dX8_putIn_66 : decode cX8_putIn 66 = .ok (.aload 4, 2) := by decide +kernel
theorem dX8_putIn_68 : decode cX8_putIn 68 = .ok (.iload_n 2, 1) := by decide +kernel
theorem dX8_putIn_69 : decode cX8_putIn 69 = .ok (.iload_n 3, 1) := by decide +kernel
theorem dX8_putIn_70 : decode cX8_putIn 70 = .ok (.invokevirtual 120, 3) := by decide +kernel
theorem dX8_putIn_73 : decode cX8_putIn 73 = .ok (.aload 4, 2) := by decide +kernel
theorem dX8_putIn_75 : decode cX8_putIn 75 = .ok (.getfield 124, 3) := by decide +kernel
theorem dX8_putIn_78 : decode cX8_putIn 78 = .ok (.ireturn, 1) := by decide +kernel
theorem dX8_takeOut_0 : decode cX8_takeOut 0 = .ok (.iload_n 1, 1) := by decide +kernel
theorem dX8_takeOut_1 : decode cX8_takeOut 1 = .ok (.invokestatic 100, 3) := by decide +kernel
theorem dX8_takeOut_4 : decode cX8_takeOut 4 = .ok (.ifCond .ne 5, 3) := by decide +kernel
theorem dX8_takeOut_7 : decode cX8_takeOut 7 = .ok (.iconst (-1), 1) := by decide +kernel
theorem dX8_takeOut_8 : decode cX8_takeOut 8 = .ok (.ireturn, 1) := by decide +kernel
theorem dX8_takeOut_9 : decode cX8_takeOut 9 = .ok (.aload_n 0, 1) := by decide +kernel
theorem dX8_takeOut_10 : decode cX8_takeOut 10 = .ok (.getfield 10, 3) := by decide +kernel
theorem dX8_takeOut_13 : decode cX8_takeOut 13 = .ok (.getfield 106, 3) := by decide +kernel
theorem dX8_takeOut_16 : decode cX8_takeOut 16 = .ok (.iload_n 1, 1) := by decide +kernel
theorem dX8_takeOut_17 : decode cX8_takeOut 17 = .ok (.invokevirtual 110, 3) := by decide +kernel
theorem dX8_takeOut_20 : decode cX8_takeOut 20 = .ok (.astore_n 2, 1) := by decide +kernel
theorem dX8_takeOut_21 : decode cX8_takeOut 21 = .ok (.aload_n 2, 1) := by decide +kernel
theorem dX8_takeOut_22 : decode cX8_takeOut 22 = .ok (.invokevirtual 116, 3) := by decide +kernel
theorem dX8_takeOut_25 : decode cX8_takeOut 25 = .ok (.ifCond .eq 17, 3) := by decide +kernel
theorem dX8_takeOut_28 : decode cX8_takeOut 28 = .ok (.aload_n 0, 1) := by decide +kernel
theorem dX8_takeOut_29 : decode cX8_takeOut 29 = .ok (.getfield 10, 3) := by decide +kernel
theorem dX8_takeOut_32 : decode cX8_takeOut 32 = .ok (.getfield 106, 3) := by decide +kernel
theorem dX8_takeOut_35 : decode cX8_takeOut 35 = .ok (.iload_n 1, 1) := by decide +kernel
theorem dX8_takeOut_36 : decode cX8_takeOut 36 = .ok (.invokevirtual 127, 3) := by decide +kernel
theorem dX8_takeOut_39 : decode cX8_takeOut 39 = .ok (.ifCond .eq 6, 3) := by decide +kernel
theorem dX8_takeOut_42 : decode cX8_takeOut 42 = .ok (.bipush (-4), 2) := by decide +kernel
theorem dX8_takeOut_44 : decode cX8_takeOut 44 = .ok (.ireturn, 1) := by decide +kernel
theorem dX8_takeOut_45 : decode cX8_takeOut 45 = .ok (.aload_n 0, 1) := by decide +kernel
theorem dX8_takeOut_46 : decode cX8_takeOut 46 = .ok (.getfield 32, 3) := by decide +kernel
theorem dX8_takeOut_49 : decode cX8_takeOut 49 = .ok (.aload_n 0, 1) := by decide +kernel
theorem dX8_takeOut_50 : decode cX8_takeOut 50 = .ok (.getfield 10, 3) := by decide +kernel
theorem dX8_takeOut_53 : decode cX8_takeOut 53 = .ok (.invokevirtual 78, 3) := by decide +kernel
theorem dX8_takeOut_56 : decode cX8_takeOut 56 = .ok (.aload_n 2, 1) := by decide +kernel
theorem dX8_takeOut_57 : decode cX8_takeOut 57 = .ok (.getfield 130, 3) := by decide +kernel
theorem dX8_takeOut_60 : decode cX8_takeOut 60 = .ok (.istore_n 3, 1) := by decide +kernel
theorem dX8_takeOut_61 : decode cX8_takeOut 61 = .ok (.aload_n 2, 1) := by decide +kernel
theorem dX8_takeOut_62 : decode cX8_takeOut 62 = .ok (.invokevirtual 133, 3) := by decide +kernel
theorem dX8_takeOut_65 : decode cX8_takeOut 65 = .ok (.iload_n 3, 1) := by decide +kernel
theorem dX8_takeOut_66 : decode cX8_takeOut 66 = .ok (.ireturn, 1) := by decide +kernel
theorem dX8_turnTo_0 : decode cX8_turnTo 0 = .ok (.iload_n 1, 1) := by decide +kernel
theorem dX8_turnTo_1 : decode cX8_turnTo 1 = .ok (.invokestatic 100, 3) := by decide +kernel
theorem dX8_turnTo_4 : decode cX8_turnTo 4 = .ok (.ifCond .ne 5, 3) := by decide +kernel
theorem dX8_turnTo_7 : decode cX8_turnTo 7 = .ok (.iconst (-1), 1) := by decide +kernel
theorem dX8_turnTo_8 : decode cX8_turnTo 8 = .ok (.ireturn, 1) := by decide +kernel
theorem dX8_turnTo_9 : decode cX8_turnTo 9 = .ok (.aload_n 0, 1) := by decide +kernel
theorem dX8_turnTo_10 : decode cX8_turnTo 10 = .ok (.getfield 10, 3) := by decide +kernel
theorem dX8_turnTo_13 : decode cX8_turnTo 13 = .ok (.getfield 106, 3) := by decide +kernel
theorem dX8_turnTo_16 : decode cX8_turnTo 16 = .ok (.invokevirtual 136, 3) := by decide +kernel
theorem dX8_turnTo_19 : decode cX8_turnTo 19 = .ok (.ifCond .eq 6, 3) := by decide +kernel
theorem dX8_turnTo_22 : decode cX8_turnTo 22 = .ok (.bipush (-4), 2) := by decide +kernel
theorem dX8_turnTo_24 : decode cX8_turnTo 24 = .ok (.ireturn, 1) := by decide +kernel
theorem dX8_turnTo_25 : decode cX8_turnTo 25 = .ok (.aload_n 0, 1) := by decide +kernel
theorem dX8_turnTo_26 : decode cX8_turnTo 26 = .ok (.getfield 10, 3) := by decide +kernel
theorem dX8_turnTo_29 : decode cX8_turnTo 29 = .ok (.getfield 106, 3) := by decide +kernel
theorem dX8_turnTo_32 : decode cX8_turnTo 32 = .ok (.getfield 139, 3) := by decide +kernel
theorem dX8_turnTo_35 : decode cX8_turnTo 35 = .ok (.iload_n 1, 1) := by decide +kernel
theorem dX8_turnTo_36 : decode cX8_turnTo 36 = .ok (.if_icmp .ne 6, 3) := by decide +kernel
theorem dX8_turnTo_39 : decode cX8_turnTo 39 = .ok (.bipush (-5), 2) := by decide +kernel
theorem dX8_turnTo_41 : decode cX8_turnTo 41 = .ok (.ireturn, 1) := by decide +kernel
theorem dX8_turnTo_42 : decode cX8_turnTo 42 = .ok (.aload_n 0, 1) := by decide +kernel
theorem dX8_turnTo_43 : decode cX8_turnTo 43 = .ok (.getfield 32, 3) := by decide +kernel
theorem dX8_turnTo_46 : decode cX8_turnTo 46 = .ok (.aload_n 0, 1) := by decide +kernel
theorem dX8_turnTo_47 : decode cX8_turnTo 47 = .ok (.getfield 10, 3) := by decide +kernel
theorem dX8_turnTo_50 : decode cX8_turnTo 50 = .ok (.invokevirtual 78, 3) := by decide +kernel
theorem dX8_turnTo_53 : decode cX8_turnTo 53 = .ok (.aload_n 0, 1) := by decide +kernel
theorem dX8_turnTo_54 : decode cX8_turnTo 54 = .ok (.getfield 10, 3) := by decide +kernel
theorem dX8_turnTo_57 : decode cX8_turnTo 57 = .ok (.getfield 106, 3) := by decide +kernel
theorem dX8_turnTo_60 : decode cX8_turnTo 60 = .ok (.iload_n 1, 1) := by decide +kernel
theorem dX8_turnTo_61 : decode cX8_turnTo 61 = .ok (.aload_n 0, 1) := by decide +kernel
theorem dX8_turnTo_62 : decode cX8_turnTo 62 = .ok (.getfield 10, 3) := by decide +kernel
theorem dX8_turnTo_65 : decode cX8_turnTo 65 = .ok (.getfield 75, 3) := by decide +kernel
theorem dX8_turnTo_68 : decode cX8_turnTo 68 = .ok (.iconst 2, 1) := by decide +kernel
theorem dX8_turnTo_69 : decode cX8_turnTo 69 = .ok (.invokestatic 62, 3) := by decide +kernel
theorem dX8_turnTo_72 : decode cX8_turnTo 72 = .ok (.invokevirtual 142, 3) := by decide +kernel
theorem dX8_turnTo_75 : decode cX8_turnTo 75 = .ok (.aload_n 0, 1) := by decide +kernel
theorem dX8_turnTo_76 : decode cX8_turnTo 76 = .ok (.getfield 10, 3) := by decide +kernel
theorem dX8_turnTo_79 : decode cX8_turnTo 79 = .ok (.getfield 106, 3) := by decide +kernel
theorem dX8_turnTo_82 : decode cX8_turnTo 82 = .ok (.getfield 145, 3) := by decide +kernel
theorem dX8_turnTo_85 : decode cX8_turnTo 85 = .ok (.ireturn, 1) := by decide +kernel
theorem dX8_stock_0 : decode cX8_stock 0 = .ok (.iload_n 1, 1) := by decide +kernel
theorem dX8_stock_1 : decode cX8_stock 1 = .ok (.invokestatic 103, 3) := by decide +kernel
theorem dX8_stock_4 : decode cX8_stock 4 = .ok (.ifCond .eq 10, 3) := by decide +kernel
theorem dX8_stock_7 : decode cX8_stock 7 = .ok (.iload_n 2, 1) := by decide +kernel
theorem dX8_stock_8 : decode cX8_stock 8 = .ok (.invokestatic 148, 3) := by decide +kernel
theorem dX8_stock_11 : decode cX8_stock 11 = .ok (.ifCond .ne 6, 3) := by decide +kernel
theorem dX8_stock_14 : decode cX8_stock 14 = .ok (.bipush (-2), 2) := by decide +kernel
theorem dX8_stock_16 : decode cX8_stock 16 = .ok (.ireturn, 1) := by decide +kernel
theorem dX8_stock_17 : decode cX8_stock 17 = .ok (.aload_n 0, 1) := by decide +kernel
theorem dX8_stock_18 : decode cX8_stock 18 = .ok (.getfield 10, 3) := by decide +kernel
theorem dX8_stock_21 : decode cX8_stock 21 = .ok (.getfield 151, 3) := by decide +kernel
theorem dX8_stock_24 : decode cX8_stock 24 = .ok (.iload_n 1, 1) := by decide +kernel
theorem dX8_stock_25 : decode cX8_stock 25 = .ok (.invokestatic 62, 3) := by decide +kernel
theorem dX8_stock_28 : decode cX8_stock 28 = .ok (.iload_n 2, 1) := by decide +kernel
theorem dX8_stock_29 : decode cX8_stock 29 = .ok (.iadd, 1) := by decide +kernel
theorem dX8_stock_30 : decode cX8_stock 30 = .ok (.istore_n 3, 1) := by decide +kernel
theorem dX8_stock_31 : decode cX8_stock 31 = .ok (.iload_n 3, 1) := by decide +kernel
theorem dX8_stock_32 : decode cX8_stock 32 = .ok (.bipush 99, 2) := by decide +kernel
theorem dX8_stock_34 : decode cX8_stock 34 = .ok (.if_icmp .le 6, 3) := by decide +kernel
theorem dX8_stock_37 : decode cX8_stock 37 = .ok (.bipush (-3), 2) := by decide +kernel
theorem dX8_stock_39 : decode cX8_stock 39 = .ok (.ireturn, 1) := by decide +kernel
theorem dX8_stock_40 : decode cX8_stock 40 = .ok (.aload_n 0, 1) := by decide +kernel
theorem dX8_stock_41 : decode cX8_stock 41 = .ok (.getfield 32, 3) := by decide +kernel
theorem dX8_stock_44 : decode cX8_stock 44 = .ok (.aload_n 0, 1) := by decide +kernel
theorem dX8_stock_45 : decode cX8_stock 45 = .ok (.getfield 10, 3) := by decide +kernel
theorem dX8_stock_48 : decode cX8_stock 48 = .ok (.invokevirtual 78, 3) := by decide +kernel
theorem dX8_stock_51 : decode cX8_stock 51 = .ok (.aload_n 0, 1) := by decide +kernel
theorem dX8_stock_52 : decode cX8_stock 52 = .ok (.getfield 10, 3) := by decide +kernel
theorem dX8_stock_55 : decode cX8_stock 55 = .ok (.getfield 151, 3) := by decide +kernel
theorem dX8_stock_58 : decode cX8_stock 58 = .ok (.iload_n 1, 1) := by decide +kernel
theorem dX8_stock_59 : decode cX8_stock 59 = .ok (.iload_n 3, 1) := by decide +kernel
theorem dX8_stock_60 : decode cX8_stock 60 = .ok (.invokestatic 82, 3) := by decide +kernel
theorem dX8_stock_63 : decode cX8_stock 63 = .ok (.iload_n 3, 1) := by decide +kernel
theorem dX8_stock_64 : decode cX8_stock 64 = .ok (.ireturn, 1) := by decide +kernel
theorem dX8_boat_0 : decode cX8_boat 0 = .ok (.iload_n 1, 1) := by decide +kernel
theorem dX8_boat_1 : decode cX8_boat 1 = .ok (.iconst 0, 1) := by decide +kernel
theorem dX8_boat_2 : decode cX8_boat 2 = .ok (.sipush 9999, 3) := by decide +kernel
theorem dX8_boat_5 : decode cX8_boat 5 = .ok (.invokestatic 71, 3) := by decide +kernel
theorem dX8_boat_8 : decode cX8_boat 8 = .ok (.ifCond .eq 17, 3) := by decide +kernel
theorem dX8_boat_11 : decode cX8_boat 11 = .ok (.iload_n 2, 1) := by decide +kernel
theorem dX8_boat_12 : decode cX8_boat 12 = .ok (.invokestatic 103, 3) := by decide +kernel
theorem dX8_boat_15 : decode cX8_boat 15 = .ok (.ifCond .eq 10, 3) := by decide +kernel
theorem dX8_boat_18 : decode cX8_boat 18 = .ok (.iload_n 3, 1) := by decide +kernel
theorem dX8_boat_19 : decode cX8_boat 19 = .ok (.invokestatic 148, 3) := by decide +kernel
theorem dX8_boat_22 : decode cX8_boat 22 = .ok (.ifCond .ne 6, 3) := by decide +kernel
theorem dX8_boat_25 : decode cX8_boat 25 = .ok (.bipush (-2), 2) := by decide +kernel
theorem dX8_boat_27 : decode cX8_boat 27 = .ok (.ireturn, 1) := by decide +kernel
theorem dX8_boat_28 : decode cX8_boat 28 = .ok (.aload_n 0, 1) := by decide +kernel
theorem dX8_boat_29 : decode cX8_boat 29 = .ok (.getfield 10, 3) := by decide +kernel
theorem dX8_boat_32 : decode cX8_boat 32 = .ok (.getfield 154, 3) := by decide +kernel
theorem dX8_boat_35 : decode cX8_boat 35 = .ok (.iload_n 1, 1) := by decide +kernel
theorem dX8_boat_36 : decode cX8_boat 36 = .ok (.invokevirtual 157, 3) := by decide +kernel
theorem dX8_boat_39 : decode cX8_boat 39 = .ok (.ifCond .ne 6, 3) := by decide +kernel
theorem dX8_boat_42 : decode cX8_boat 42 = .ok (.bipush (-3), 2) := by decide +kernel
theorem dX8_boat_44 : decode cX8_boat 44 = .ok (.ireturn, 1) := by decide +kernel
theorem dX8_boat_45 : decode cX8_boat 45 = .ok (.aload_n 0, 1) := by decide +kernel
theorem dX8_boat_46 : decode cX8_boat 46 = .ok (.getfield 32, 3) := by decide +kernel
theorem dX8_boat_49 : decode cX8_boat 49 = .ok (.aload_n 0, 1) := by decide +kernel
theorem dX8_boat_50 : decode cX8_boat 50 = .ok (.getfield 10, 3) := by decide +kernel
theorem dX8_boat_53 : decode cX8_boat 53 = .ok (.invokevirtual 78, 3) := by decide +kernel
theorem dX8_boat_56 : decode cX8_boat 56 = .ok (.aload_n 0, 1) := by decide +kernel
theorem dX8_boat_57 : decode cX8_boat 57 = .ok (.getfield 10, 3) := by decide +kernel
theorem dX8_boat_60 : decode cX8_boat 60 = .ok (.getfield 154, 3) := by decide +kernel
theorem dX8_boat_63 : decode cX8_boat 63 = .ok (.iload_n 1, 1) := by decide +kernel
theorem dX8_boat_64 : decode cX8_boat 64 = .ok (.iload_n 2, 1) := by decide +kernel
theorem dX8_boat_65 : decode cX8_boat 65 = .ok (.iload_n 3, 1) := by decide +kernel
theorem dX8_boat_66 : decode cX8_boat 66 = .ok (.invokevirtual 160, 3) := by decide +kernel
theorem dX8_boat_69 : decode cX8_boat 69 = .ok (.aload_n 0, 1) := by decide +kernel
theorem dX8_boat_70 : decode cX8_boat 70 = .ok (.getfield 10, 3) := by decide +kernel
theorem dX8_boat_73 : decode cX8_boat 73 = .ok (.getfield 154, 3) := by decide +kernel
theorem dX8_boat_76 : decode cX8_boat 76 = .ok (.getfield 164, 3) := by decide +kernel
theorem dX8_boat_79 : decode cX8_boat 79 = .ok (.ireturn, 1) := by decide +kernel
theorem dX8_readPlan_0 : decode cX8_readPlan 0 = .ok (.aload_n 0, 1) := by decide +kernel
theorem dX8_readPlan_1 : decode cX8_readPlan 1 = .ok (.getfield 39, 3) := by decide +kernel
theorem dX8_readPlan_4 : decode cX8_readPlan 4 = .ok (.aload_n 0, 1) := by decide +kernel
theorem dX8_readPlan_5 : decode cX8_readPlan 5 = .ok (.getfield 46, 3) := by decide +kernel
theorem dX8_readPlan_8 : decode cX8_readPlan 8 = .ok (.invokevirtual 167, 3) := by decide +kernel
theorem dX8_readPlan_11 : decode cX8_readPlan 11 = .ok (.istore_n 1, 1) := by decide +kernel
theorem dX8_readPlan_12 : decode cX8_readPlan 12 = .ok (.iload_n 1, 1) := by decide +kernel
theorem dX8_readPlan_13 : decode cX8_readPlan 13 = .ok (.iconst (-1), 1) := by decide +kernel
theorem dX8_readPlan_14 : decode cX8_readPlan 14 = .ok (.if_icmp .eq 8, 3) := by decide +kernel
theorem dX8_readPlan_17 : decode cX8_readPlan 17 = .ok (.bipush (-100), 2) := by decide +kernel
theorem dX8_readPlan_19 : decode cX8_readPlan 19 = .ok (.iload_n 1, 1) := by decide +kernel
theorem dX8_readPlan_20 : decode cX8_readPlan 20 = .ok (.isub, 1) := by decide +kernel
theorem dX8_readPlan_21 : decode cX8_readPlan 21 = .ok (.ireturn, 1) := by decide +kernel
theorem dX8_readPlan_22 : decode cX8_readPlan 22 = .ok (.aload_n 0, 1) := by decide +kernel
theorem dX8_readPlan_23 : decode cX8_readPlan 23 = .ok (.getfield 39, 3) := by decide +kernel
theorem dX8_readPlan_26 : decode cX8_readPlan 26 = .ok (.getfield 171, 3) := by decide +kernel
theorem dX8_readPlan_29 : decode cX8_readPlan 29 = .ok (.ifCond .eq 6, 3) := by decide +kernel
theorem dX8_readPlan_32 : decode cX8_readPlan 32 = .ok (.bipush (-3), 2) := by decide +kernel
theorem dX8_readPlan_34 : decode cX8_readPlan 34 = .ok (.ireturn, 1) := by decide +kernel
theorem dX8_readPlan_35 : decode cX8_readPlan 35 = .ok (.aload_n 0, 1) := by decide +kernel
theorem dX8_readPlan_36 : decode cX8_readPlan 36 = .ok (.getfield 32, 3) := by decide +kernel
theorem dX8_readPlan_39 : decode cX8_readPlan 39 = .ok (.aload_n 0, 1) := by decide +kernel
theorem dX8_readPlan_40 : decode cX8_readPlan 40 = .ok (.getfield 10, 3) := by decide +kernel
theorem dX8_readPlan_43 : decode cX8_readPlan 43 = .ok (.invokevirtual 78, 3) := by decide +kernel
theorem dX8_readPlan_46 : decode cX8_readPlan 46 = .ok (.aload_n 0, 1) := by decide +kernel
theorem dX8_readPlan_47 : decode cX8_readPlan 47 = .ok (.getfield 10, 3) := by decide +kernel
theorem dX8_readPlan_50 : decode cX8_readPlan 50 = .ok (.getfield 154, 3) := by decide +kernel
theorem dX8_readPlan_53 : decode cX8_readPlan 53 = .ok (.aload_n 0, 1) := by decide +kernel
theorem dX8_readPlan_54 : decode cX8_readPlan 54 = .ok (.getfield 46, 3) := by decide +kernel
theorem dX8_readPlan_57 : decode cX8_readPlan 57 = .ok (.invokevirtual 174, 3) := by decide +kernel
theorem dX8_readPlan_60 : decode cX8_readPlan 60 = .ok (.aload_n 0, 1) := by decide +kernel
theorem dX8_readPlan_61 : decode cX8_readPlan 61 = .ok (.getfield 10, 3) := by decide +kernel
theorem dX8_readPlan_64 : decode cX8_readPlan 64 = .ok (.getfield 154, 3) := by decide +kernel
theorem dX8_readPlan_67 : decode cX8_readPlan 67 = .ok (.getfield 164, 3) := by decide +kernel
theorem dX8_readPlan_70 : decode cX8_readPlan 70 = .ok (.ireturn, 1) := by decide +kernel
theorem dX8_pass_0 : decode cX8_pass 0 = .ok (.iload_n 1, 1) := by decide +kernel
theorem dX8_pass_1 : decode cX8_pass 1 = .ok (.iconst 1, 1) := by decide +kernel
theorem dX8_pass_2 : decode cX8_pass 2 = .ok (.sipush 200, 3) := by decide +kernel
theorem dX8_pass_5 : decode cX8_pass 5 = .ok (.invokestatic 71, 3) := by decide +kernel
theorem dX8_pass_8 : decode cX8_pass 8 = .ok (.ifCond .ne 6, 3) := by decide +kernel
theorem dX8_pass_11 : decode cX8_pass 11 = .ok (.bipush (-2), 2) := by decide +kernel
theorem dX8_pass_13 : decode cX8_pass 13 = .ok (.ireturn, 1) := by decide +kernel
theorem dX8_pass_14 : decode cX8_pass 14 = .ok (.iload_n 1, 1) := by decide +kernel
theorem dX8_pass_15 : decode cX8_pass 15 = .ok (.ldc 178, 2) := by decide +kernel
theorem dX8_pass_17 : decode cX8_pass 17 = .ok (.aload_n 0, 1) := by decide +kernel
theorem dX8_pass_18 : decode cX8_pass 18 = .ok (.getfield 10, 3) := by decide +kernel
theorem dX8_pass_21 : decode cX8_pass 21 = .ok (.getfield 179, 3) := by decide +kernel
theorem dX8_pass_24 : decode cX8_pass 24 = .ok (.isub, 1) := by decide +kernel
theorem dX8_pass_25 : decode cX8_pass 25 = .ok (.if_icmp .le 6, 3) := by decide +kernel
theorem dX8_pass_28 : decode cX8_pass 28 = .ok (.bipush (-3), 2) := by decide +kernel
theorem dX8_pass_30 : decode cX8_pass 30 = .ok (.ireturn, 1) := by decide +kernel
theorem dX8_pass_31 : decode cX8_pass 31 = .ok (.aload_n 0, 1) := by decide +kernel
theorem dX8_pass_32 : decode cX8_pass 32 = .ok (.getfield 32, 3) := by decide +kernel
theorem dX8_pass_35 : decode cX8_pass 35 = .ok (.aload_n 0, 1) := by decide +kernel
theorem dX8_pass_36 : decode cX8_pass 36 = .ok (.getfield 10, 3) := by decide +kernel
theorem dX8_pass_39 : decode cX8_pass 39 = .ok (.invokevirtual 78, 3) := by decide +kernel
theorem dX8_pass_42 : decode cX8_pass 42 = .ok (.aload_n 0, 1) := by decide +kernel
theorem dX8_pass_43 : decode cX8_pass 43 = .ok (.getfield 10, 3) := by decide +kernel
theorem dX8_pass_46 : decode cX8_pass 46 = .ok (.getfield 182, 3) := by decide +kernel
theorem dX8_pass_49 : decode cX8_pass 49 = .ok (.istore_n 2, 1) := by decide +kernel
theorem dX8_pass_50 : decode cX8_pass 50 = .ok (.iconst 0, 1) := by decide +kernel
theorem dX8_pass_51 : decode cX8_pass 51 = .ok (.istore_n 3, 1) := by decide +kernel
theorem dX8_pass_52 : decode cX8_pass 52 = .ok (.iload_n 3, 1) := by decide +kernel
theorem dX8_pass_53 : decode cX8_pass 53 = .ok (.iload_n 1, 1) := by decide +kernel
theorem dX8_pass_54 : decode cX8_pass 54 = .ok (.if_icmp .ge 18, 3) := by decide +kernel
theorem dX8_pass_57 : decode cX8_pass 57 = .ok (.aload_n 0, 1) := by decide +kernel
theorem dX8_pass_58 : decode cX8_pass 58 = .ok (.getfield 10, 3) := by decide +kernel
theorem dX8_pass_61 : decode cX8_pass 61 = .ok (.iconst 1, 1) := by decide +kernel
theorem dX8_pass_62 : decode cX8_pass 62 = .ok (.invokevirtual 185, 3) := by decide +kernel
theorem dX8_pass_65 : decode cX8_pass 65 = .ok (.pop, 1) := by decide +kernel
theorem dX8_pass_66 : decode cX8_pass 66 = .ok (.iinc 3 1, 3) := by decide +kernel
theorem dX8_pass_69 : decode cX8_pass 69 = .ok (.goto (-17), 3) := by decide +kernel
theorem dX8_pass_72 : decode cX8_pass 72 = .ok (.aload_n 0, 1) := by decide +kernel
theorem dX8_pass_73 : decode cX8_pass 73 = .ok (.getfield 10, 3) := by decide +kernel
theorem dX8_pass_76 : decode cX8_pass 76 = .ok (.getfield 182, 3) := by decide +kernel
theorem dX8_pass_79 : decode cX8_pass 79 = .ok (.iload_n 2, 1) := by decide +kernel
theorem dX8_pass_80 : decode cX8_pass 80 = .ok (.isub, 1) := by decide +kernel
theorem dX8_pass_81 : decode cX8_pass 81 = .ok (.ireturn, 1) := by decide +kernel
theorem dX8_type_0 : decode cX8_type 0 = .ok (.aload_n 0, 1) := by decide +kernel
theorem dX8_type_1 : decode cX8_type 1 = .ok (.getfield 39, 3) := by decide +kernel
theorem dX8_type_4 : decode cX8_type 4 = .ok (.iload_n 1, 1) := by decide +kernel
theorem dX8_type_5 : decode cX8_type 5 = .ok (.invokevirtual 189, 3) := by decide +kernel
theorem dX8_type_8 : decode cX8_type 8 = .ok (.ifCond .ne 6, 3) := by decide +kernel
theorem dX8_type_11 : decode cX8_type 11 = .ok (.bipush (-3), 2) := by decide +kernel
theorem dX8_type_13 : decode cX8_type 13 = .ok (.ireturn, 1) := by decide +kernel
theorem dX8_type_14 : decode cX8_type 14 = .ok (.aload_n 0, 1) := by decide +kernel
theorem dX8_type_15 : decode cX8_type 15 = .ok (.getfield 39, 3) := by decide +kernel
theorem dX8_type_18 : decode cX8_type 18 = .ok (.getfield 193, 3) := by decide +kernel
theorem dX8_type_21 : decode cX8_type 21 = .ok (.ireturn, 1) := by decide +kernel
theorem dX8_clearText_0 : decode cX8_clearText 0 = .ok (.aload_n 0, 1) := by decide +kernel
theorem dX8_clearText_1 : decode cX8_clearText 1 = .ok (.getfield 39, 3) := by decide +kernel
theorem dX8_clearText_4 : decode cX8_clearText 4 = .ok (.getfield 193, 3) := by decide +kernel
theorem dX8_clearText_7 : decode cX8_clearText 7 = .ok (.istore_n 1, 1) := by decide +kernel
theorem dX8_clearText_8 : decode cX8_clearText 8 = .ok (.aload_n 0, 1) := by decide +kernel
theorem dX8_clearText_9 : decode cX8_clearText 9 = .ok (.getfield 39, 3) := by decide +kernel
theorem dX8_clearText_12 : decode cX8_clearText 12 = .ok (.iconst 0, 1) := by decide +kernel
theorem dX8_clearText_13 : decode cX8_clearText 13 = .ok (.putfield 193, 3) := by decide +kernel
theorem dX8_clearText_16 : decode cX8_clearText 16 = .ok (.iload_n 1, 1) := by decide +kernel
theorem dX8_clearText_17 : decode cX8_clearText 17 = .ok (.ireturn, 1) := by decide +kernel
theorem dX8_undo_0 : decode cX8_undo 0 = .ok (.aload_n 0, 1) := by decide +kernel
theorem dX8_undo_1 : decode cX8_undo 1 = .ok (.getfield 32, 3) := by decide +kernel
theorem dX8_undo_4 : decode cX8_undo 4 = .ok (.getfield 196, 3) := by decide +kernel
theorem dX8_undo_7 : decode cX8_undo 7 = .ok (.ifCond .ne 6, 3) := by decide +kernel
theorem dX8_undo_10 : decode cX8_undo 10 = .ok (.bipush (-5), 2) := by decide +kernel
theorem dX8_undo_12 : decode cX8_undo 12 = .ok (.ireturn, 1) := by decide +kernel
theorem dX8_undo_13 : decode cX8_undo 13 = .ok (.aload_n 0, 1) := by decide +kernel
theorem dX8_undo_14 : decode cX8_undo 14 = .ok (.getfield 32, 3) := by decide +kernel
theorem dX8_undo_17 : decode cX8_undo 17 = .ok (.aload_n 0, 1) := by decide +kernel
theorem dX8_undo_18 : decode cX8_undo 18 = .ok (.getfield 10, 3) := by decide +kernel
theorem dX8_undo_21 : decode cX8_undo 21 = .ok (.invokevirtual 199, 3) := by decide +kernel
theorem dX8_undo_24 : decode cX8_undo 24 = .ok (.aload_n 0, 1) := by decide +kernel
theorem dX8_undo_25 : decode cX8_undo 25 = .ok (.getfield 32, 3) := by decide +kernel
theorem dX8_undo_28 : decode cX8_undo 28 = .ok (.getfield 196, 3) := by decide +kernel
theorem dX8_undo_31 : decode cX8_undo 31 = .ok (.ireturn, 1) := by decide +kernel
theorem dX8_keep_0 : decode cX8_keep 0 = .ok (.aload_n 0, 1) := by decide +kernel
theorem dX8_keep_1 : decode cX8_keep 1 = .ok (.getfield 16, 3) := by decide +kernel
theorem dX8_keep_4 : decode cX8_keep 4 = .ok (.aload_n 0, 1) := by decide +kernel
theorem dX8_keep_5 : decode cX8_keep 5 = .ok (.getfield 10, 3) := by decide +kernel
theorem dX8_keep_8 : decode cX8_keep 8 = .ok (.invokevirtual 202, 3) := by decide +kernel
theorem dX8_keep_11 : decode cX8_keep 11 = .ok (.aload_n 0, 1) := by decide +kernel
theorem dX8_keep_12 : decode cX8_keep 12 = .ok (.iconst 1, 1) := by decide +kernel
theorem dX8_keep_13 : decode cX8_keep 13 = .ok (.putfield 50, 3) := by decide +kernel
theorem dX8_keep_16 : decode cX8_keep 16 = .ok (.aload_n 0, 1) := by decide +kernel
theorem dX8_keep_17 : decode cX8_keep 17 = .ok (.getfield 10, 3) := by decide +kernel
theorem dX8_keep_20 : decode cX8_keep 20 = .ok (.getfield 179, 3) := by decide +kernel
theorem dX8_keep_23 : decode cX8_keep 23 = .ok (.ireturn, 1) := by decide +kernel
theorem dX8_restore_0 : decode cX8_restore 0 = .ok (.aload_n 0, 1) := by decide +kernel
theorem dX8_restore_1 : decode cX8_restore 1 = .ok (.getfield 50, 3) := by decide +kernel
theorem dX8_restore_4 : decode cX8_restore 4 = .ok (.ifCond .ne 6, 3) := by decide +kernel
theorem dX8_restore_7 : decode cX8_restore 7 = .ok (.bipush (-5), 2) := by decide +kernel
theorem dX8_restore_9 : decode cX8_restore 9 = .ok (.ireturn, 1) := by decide +kernel
theorem dX8_restore_10 : decode cX8_restore 10 = .ok (.aload_n 0, 1) := by decide +kernel
theorem dX8_restore_11 : decode cX8_restore 11 = .ok (.getfield 32, 3) := by decide +kernel
theorem dX8_restore_14 : decode cX8_restore 14 = .ok (.aload_n 0, 1) := by decide +kernel
theorem dX8_restore_15 : decode cX8_restore 15 = .ok (.getfield 10, 3) := by decide +kernel
theorem dX8_restore_18 : decode cX8_restore 18 = .ok (.invokevirtual 78, 3) := by decide +kernel
theorem dX8_restore_21 : decode cX8_restore 21 = .ok (.aload_n 0, 1) := by decide +kernel
theorem dX8_restore_22 : decode cX8_restore 22 = .ok (.getfield 10, 3) := by decide +kernel
theorem dX8_restore_25 : decode cX8_restore 25 = .ok (.aload_n 0, 1) := by decide +kernel
theorem dX8_restore_26 : decode cX8_restore 26 = .ok (.getfield 16, 3) := by decide +kernel
theorem dX8_restore_29 : decode cX8_restore 29 = .ok (.invokevirtual 202, 3) := by decide +kernel
theorem dX8_restore_32 : decode cX8_restore 32 = .ok (.aload_n 0, 1) := by decide +kernel
theorem dX8_restore_33 : decode cX8_restore 33 = .ok (.getfield 10, 3) := by decide +kernel
theorem dX8_restore_36 : decode cX8_restore 36 = .ok (.getfield 179, 3) := by decide +kernel
theorem dX8_restore_39 : decode cX8_restore 39 = .ok (.ireturn, 1) := by decide +kernel
theorem dX8_lamp_0 : decode cX8_lamp 0 = .ok (.iload_n 1, 1) := by decide +kernel
theorem dX8_lamp_1 : decode cX8_lamp 1 = .ok (.invokestatic 100, 3) := by decide +kernel
theorem dX8_lamp_4 : decode cX8_lamp 4 = .ok (.ifCond .ne 5, 3) := by decide +kernel
theorem dX8_lamp_7 : decode cX8_lamp 7 = .ok (.iconst (-1), 1) := by decide +kernel
theorem dX8_lamp_8 : decode cX8_lamp 8 = .ok (.ireturn, 1) := by decide +kernel
theorem dX8_lamp_9 : decode cX8_lamp 9 = .ok (.iload_n 2, 1) := by decide +kernel
theorem dX8_lamp_10 : decode cX8_lamp 10 = .ok (.iconst 0, 1) := by decide +kernel
theorem dX8_lamp_11 : decode cX8_lamp 11 = .ok (.bipush 7, 2) := by decide +kernel
theorem dX8_lamp_13 : decode cX8_lamp 13 = .ok (.invokestatic 71, 3) := by decide +kernel
theorem dX8_lamp_16 : decode cX8_lamp 16 = .ok (.ifCond .ne 6, 3) := by decide +kernel
theorem dX8_lamp_19 : decode cX8_lamp 19 = .ok (.bipush (-2), 2) := by decide +kernel
theorem dX8_lamp_21 : decode cX8_lamp 21 = .ok (.ireturn, 1) := by decide +kernel
theorem dX8_lamp_22 : decode cX8_lamp 22 = .ok (.aload_n 0, 1) := by decide +kernel
theorem dX8_lamp_23 : decode cX8_lamp 23 = .ok (.getfield 10, 3) := by decide +kernel
theorem dX8_lamp_26 : decode cX8_lamp 26 = .ok (.getfield 106, 3) := by decide +kernel
theorem dX8_lamp_29 : decode cX8_lamp 29 = .ok (.iload_n 1, 1) := by decide +kernel
theorem dX8_lamp_30 : decode cX8_lamp 30 = .ok (.invokevirtual 110, 3) := by decide +kernel
theorem dX8_lamp_33 : decode cX8_lamp 33 = .ok (.astore_n 3, 1) := by decide +kernel
theorem dX8_lamp_34 : decode cX8_lamp 34 = .ok (.aload_n 3, 1) := by decide +kernel
theorem dX8_lamp_35 : decode cX8_lamp 35 = .ok (.invokevirtual 116, 3) := by decide +kernel
theorem dX8_lamp_38 : decode cX8_lamp 38 = .ok (.ifCond .ne 6, 3) := by decide +kernel
theorem dX8_lamp_41 : decode cX8_lamp 41 = .ok (.bipush (-5), 2) := by decide +kernel
theorem dX8_lamp_43 : decode cX8_lamp 43 = .ok (.ireturn, 1) := by decide +kernel
theorem dX8_lamp_44 : decode cX8_lamp 44 = .ok (.iload_n 2, 1) := by decide +kernel
theorem dX8_lamp_45 : decode cX8_lamp 45 = .ok (.tableswitch 84 0 6 #[43, 48, 53, 58, 63, 68, 76], 43) := by decide +kernel
theorem dX8_lamp_88 : decode cX8_lamp 88 = .ok (.aload_n 3, 1) := by decide +kernel
theorem dX8_lamp_89 : decode cX8_lamp 89 = .ok (.getfield 204, 3) := by decide +kernel
theorem dX8_lamp_92 : decode cX8_lamp 92 = .ok (.ireturn, 1) := by decide +kernel
theorem dX8_lamp_93 : decode cX8_lamp 93 = .ok (.aload_n 3, 1) := by decide +kernel
theorem dX8_lamp_94 : decode cX8_lamp 94 = .ok (.getfield 207, 3) := by decide +kernel
theorem dX8_lamp_97 : decode cX8_lamp 97 = .ok (.ireturn, 1) := by decide +kernel
theorem dX8_lamp_98 : decode cX8_lamp 98 = .ok (.aload_n 3, 1) := by decide +kernel
theorem dX8_lamp_99 : decode cX8_lamp 99 = .ok (.getfield 130, 3) := by decide +kernel
theorem dX8_lamp_102 : decode cX8_lamp 102 = .ok (.ireturn, 1) := by decide +kernel
theorem dX8_lamp_103 : decode cX8_lamp 103 = .ok (.aload_n 3, 1) := by decide +kernel
theorem dX8_lamp_104 : decode cX8_lamp 104 = .ok (.getfield 124, 3) := by decide +kernel
theorem dX8_lamp_107 : decode cX8_lamp 107 = .ok (.ireturn, 1) := by decide +kernel
theorem dX8_lamp_108 : decode cX8_lamp 108 = .ok (.aload_n 3, 1) := by decide +kernel
theorem dX8_lamp_109 : decode cX8_lamp 109 = .ok (.invokevirtual 210, 3) := by decide +kernel
theorem dX8_lamp_112 : decode cX8_lamp 112 = .ok (.ireturn, 1) := by decide +kernel
theorem dX8_lamp_113 : decode cX8_lamp 113 = .ok (.aload_n 3, 1) := by decide +kernel
theorem dX8_lamp_114 : decode cX8_lamp 114 = .ok (.getfield 213, 3) := by decide +kernel
theorem dX8_lamp_117 : decode cX8_lamp 117 = .ok (.invokestatic 216, 3) := by decide +kernel
theorem dX8_lamp_120 : decode cX8_lamp 120 = .ok (.ireturn, 1) := by decide +kernel
theorem dX8_lamp_121 : decode cX8_lamp 121 = .ok (.aload_n 3, 1) := by decide +kernel
theorem dX8_lamp_122 : decode cX8_lamp 122 = .ok (.invokevirtual 220, 3) := by decide +kernel
theorem dX8_lamp_125 : decode cX8_lamp 125 = .ok (.invokestatic 216, 3) := by decide +kernel
theorem dX8_lamp_128 : decode cX8_lamp 128 = .ok (.ireturn, 1) := by decide +kernel
theorem dX8_lamp_129 : decode cX8_lamp 129 = .ok (.aload_n 3, 1) := by decide +kernel
theorem dX8_lamp_130 : decode cX8_lamp 130 = .ok (.getfield 223, 3) := by decide +kernel
theorem dX8_lamp_133 : decode cX8_lamp 133 = .ok (.ireturn, 1) := by decide +kernel
theorem dX8_wheel_0 : decode cX8_wheel 0 = .ok (.iload_n 1, 1) := by decide +kernel
theorem dX8_wheel_1 : decode cX8_wheel 1 = .ok (.tableswitch 132 0 7 #[47, 58, 69, 80, 94, 105, 116, 124], 47) := by decide +kernel
theorem dX8_wheel_48 : decode cX8_wheel 48 = .ok (.aload_n 0, 1) := by decide +kernel
theorem dX8_wheel_49 : decode cX8_wheel 49 = .ok (.getfield 10, 3) := by decide +kernel
theorem dX8_wheel_52 : decode cX8_wheel 52 = .ok (.getfield 106, 3) := by decide +kernel
theorem dX8_wheel_55 : decode cX8_wheel 55 = .ok (.getfield 139, 3) := by decide +kernel
theorem dX8_wheel_58 : decode cX8_wheel 58 = .ok (.ireturn, 1) := by decide +kernel
theorem dX8_wheel_59 : decode cX8_wheel 59 = .ok (.aload_n 0, 1) := by decide +kernel
theorem dX8_wheel_60 : decode cX8_wheel 60 = .ok (.getfield 10, 3) := by decide +kernel
theorem dX8_wheel_63 : decode cX8_wheel 63 = .ok (.getfield 106, 3) := by decide +kernel
theorem dX8_wheel_66 : decode cX8_wheel 66 = .ok (.getfield 226, 3) := by decide +kernel
theorem dX8_wheel_69 : decode cX8_wheel 69 = .ok (.ireturn, 1) := by decide +kernel
theorem dX8_wheel_70 : decode cX8_wheel 70 = .ok (.aload_n 0, 1) := by decide +kernel
theorem dX8_wheel_71 : decode cX8_wheel 71 = .ok (.getfield 10, 3) := by decide +kernel
theorem dX8_wheel_74 : decode cX8_wheel 74 = .ok (.getfield 106, 3) := by decide +kernel
theorem dX8_wheel_77 : decode cX8_wheel 77 = .ok (.getfield 145, 3) := by decide +kernel
theorem dX8_wheel_80 : decode cX8_wheel 80 = .ok (.ireturn, 1) := by decide +kernel
theorem dX8_wheel_81 : decode cX8_wheel 81 = .ok (.aload_n 0, 1) := by decide +kernel
theorem dX8_wheel_82 : decode cX8_wheel 82 = .ok (.getfield 10, 3) := by decide +kernel
theorem dX8_wheel_85 : decode cX8_wheel 85 = .ok (.getfield 106, 3) := by decide +kernel
theorem dX8_wheel_88 : decode cX8_wheel 88 = .ok (.getfield 229, 3) := by decide +kernel
theorem dX8_wheel_91 : decode cX8_wheel 91 = .ok (.invokestatic 216, 3) := by decide +kernel
theorem dX8_wheel_94 : decode cX8_wheel 94 = .ok (.ireturn, 1) := by decide +kernel
theorem dX8_wheel_95 : decode cX8_wheel 95 = .ok (.aload_n 0, 1) := by decide +kernel
theorem dX8_wheel_96 : decode cX8_wheel 96 = .ok (.getfield 10, 3) := by decide +kernel
theorem dX8_wheel_99 : decode cX8_wheel 99 = .ok (.invokevirtual 232, 3) := by decide +kernel
theorem dX8_wheel_102 : decode cX8_wheel 102 = .ok (.invokestatic 216, 3) := by decide +kernel
theorem dX8_wheel_105 : decode cX8_wheel 105 = .ok (.ireturn, 1) := by decide +kernel
theorem dX8_wheel_106 : decode cX8_wheel 106 = .ok (.aload_n 0, 1) := by decide +kernel
theorem dX8_wheel_107 : decode cX8_wheel 107 = .ok (.getfield 10, 3) := by decide +kernel
theorem dX8_wheel_110 : decode cX8_wheel 110 = .ok (.getfield 106, 3) := by decide +kernel
theorem dX8_wheel_113 : decode cX8_wheel 113 = .ok (.invokevirtual 235, 3) := by decide +kernel
theorem dX8_wheel_116 : decode cX8_wheel 116 = .ok (.ireturn, 1) := by decide +kernel
theorem dX8_wheel_117 : decode cX8_wheel 117 = .ok (.aload_n 0, 1) := by decide +kernel
theorem dX8_wheel_118 : decode cX8_wheel 118 = .ok (.getfield 10, 3) := by decide +kernel
theorem dX8_wheel_121 : decode cX8_wheel 121 = .ok (.getfield 89, 3) := by decide +kernel
theorem dX8_wheel_124 : decode cX8_wheel 124 = .ok (.ireturn, 1) := by decide +kernel
theorem dX8_wheel_125 : decode cX8_wheel 125 = .ok (.aload_n 0, 1) := by decide +kernel
theorem dX8_wheel_126 : decode cX8_wheel 126 = .ok (.getfield 10, 3) := by decide +kernel
theorem dX8_wheel_129 : decode cX8_wheel 129 = .ok (.getfield 93, 3) := by decide +kernel
theorem dX8_wheel_132 : decode cX8_wheel 132 = .ok (.ireturn, 1) := by decide +kernel
theorem dX8_wheel_133 : decode cX8_wheel 133 = .ok (.bipush (-2), 2) := by decide +kernel
theorem dX8_wheel_135 : decode cX8_wheel 135 = .ok (.ireturn, 1) := by decide +kernel
theorem dX8_tiredIn_0 : decode cX8_tiredIn 0 = .ok (.iload_n 1, 1) := by decide +kernel
theorem dX8_tiredIn_1 : decode cX8_tiredIn 1 = .ok (.invokestatic 100, 3) := by decide +kernel
theorem dX8_tiredIn_4 : decode cX8_tiredIn 4 = .ok (.ifCond .ne 5, 3) := by decide +kernel
theorem dX8_tiredIn_7 : decode cX8_tiredIn 7 = .ok (.iconst (-1), 1) := by decide +kernel
theorem dX8_tiredIn_8 : decode cX8_tiredIn 8 = .ok (.ireturn, 1) := by decide +kernel
theorem dX8_tiredIn_9 : decode cX8_tiredIn 9 = .ok (.aload_n 0, 1) := by decide +kernel
theorem dX8_tiredIn_10 : decode cX8_tiredIn 10 = .ok (.getfield 10, 3) := by decide +kernel
theorem dX8_tiredIn_13 : decode cX8_tiredIn 13 = .ok (.getfield 106, 3) := by decide +kernel
theorem dX8_tiredIn_16 : decode cX8_tiredIn 16 = .ok (.iload_n 1, 1) := by decide +kernel
theorem dX8_tiredIn_17 : decode cX8_tiredIn 17 = .ok (.invokevirtual 110, 3) := by decide +kernel
theorem dX8_tiredIn_20 : decode cX8_tiredIn 20 = .ok (.astore_n 2, 1) := by decide +kernel
theorem dX8_tiredIn_21 : decode cX8_tiredIn 21 = .ok (.aload_n 2, 1) := by decide +kernel
theorem dX8_tiredIn_22 : decode cX8_tiredIn 22 = .ok (.invokevirtual 238, 3) := by decide +kernel
theorem dX8_tiredIn_25 : decode cX8_tiredIn 25 = .ok (.ifCond .ne 6, 3) := by decide +kernel
theorem dX8_tiredIn_28 : decode cX8_tiredIn 28 = .ok (.bipush (-4), 2) := by decide +kernel
theorem dX8_tiredIn_30 : decode cX8_tiredIn 30 = .ok (.ireturn, 1) := by decide +kernel
theorem dX8_tiredIn_31 : decode cX8_tiredIn 31 = .ok (.aload_n 2, 1) := by decide +kernel
theorem dX8_tiredIn_32 : decode cX8_tiredIn 32 = .ok (.getfield 213, 3) := by decide +kernel
theorem dX8_tiredIn_35 : decode cX8_tiredIn 35 = .ok (.ifCond .eq 5, 3) := by decide +kernel
theorem dX8_tiredIn_38 : decode cX8_tiredIn 38 = .ok (.iconst 0, 1) := by decide +kernel
theorem dX8_tiredIn_39 : decode cX8_tiredIn 39 = .ok (.ireturn, 1) := by decide +kernel
theorem dX8_tiredIn_40 : decode cX8_tiredIn 40 = .ok (.aload_n 0, 1) := by decide +kernel
theorem dX8_tiredIn_41 : decode cX8_tiredIn 41 = .ok (.getfield 25, 3) := by decide +kernel
theorem dX8_tiredIn_44 : decode cX8_tiredIn 44 = .ok (.aload_n 2, 1) := by decide +kernel
theorem dX8_tiredIn_45 : decode cX8_tiredIn 45 = .ok (.invokevirtual 241, 3) := by decide +kernel
theorem dX8_tiredIn_48 : decode cX8_tiredIn 48 = .ok (.aload_n 0, 1) := by decide +kernel
theorem dX8_tiredIn_49 : decode cX8_tiredIn 49 = .ok (.getfield 10, 3) := by decide +kernel
theorem dX8_tiredIn_52 : decode cX8_tiredIn 52 = .ok (.getfield 75, 3) := by decide +kernel
theorem dX8_tiredIn_55 : decode cX8_tiredIn 55 = .ok (.iconst 0, 1) := by decide +kernel
theorem dX8_tiredIn_56 : decode cX8_tiredIn 56 = .ok (.invokestatic 62, 3) := by decide +kernel
theorem dX8_tiredIn_59 : decode cX8_tiredIn 59 = .ok (.istore_n 3, 1) := by decide +kernel
theorem dX8_tiredIn_60 : decode cX8_tiredIn 60 = .ok (.aload_n 0, 1) := by decide +kernel
theorem dX8_tiredIn_61 : decode cX8_tiredIn 61 = .ok (.getfield 10, 3) := by decide +kernel
theorem dX8_tiredIn_64 : decode cX8_tiredIn 64 = .ok (.getfield 75, 3) := by decide +kernel
theorem dX8_tiredIn_67 : decode cX8_tiredIn 67 = .ok (.iconst 1, 1) := by decide +kernel
theorem dX8_tiredIn_68 : decode cX8_tiredIn 68 = .ok (.invokestatic 62, 3) := by decide +kernel
theorem dX8_tiredIn_71 : decode cX8_tiredIn 71 = .ok (.istore 4, 2) := by decide +kernel
theorem dX8_tiredIn_73 : decode cX8_tiredIn 73 = .ok (.aload_n 2, 1) := by decide +kernel
theorem dX8_tiredIn_74 : decode cX8_tiredIn 74 = .ok (.invokevirtual 244, 3) := by decide +kernel
theorem dX8_tiredIn_77 : decode cX8_tiredIn 77 = .ok (.istore 5, 2) := by decide +kernel
theorem dX8_tiredIn_79 : decode cX8_tiredIn 79 = .ok (.iconst 1, 1) := by decide +kernel
theorem dX8_tiredIn_80 : decode cX8_tiredIn 80 = .ok (.istore 6, 2) := by decide +kernel
theorem dX8_tiredIn_82 : decode cX8_tiredIn 82 = .ok (.iload 6, 2) := by decide +kernel
theorem dX8_tiredIn_84 : decode cX8_tiredIn 84 = .ok (.iload 5, 2) := by decide +kernel
theorem dX8_tiredIn_86 : decode cX8_tiredIn 86 = .ok (.if_icmp .gt 25, 3) := by decide +kernel
theorem dX8_tiredIn_89 : decode cX8_tiredIn 89 = .ok (.aload_n 0, 1) := by decide +kernel
theorem dX8_tiredIn_90 : decode cX8_tiredIn 90 = .ok (.getfield 25, 3) := by decide +kernel
theorem dX8_tiredIn_93 : decode cX8_tiredIn 93 = .ok (.iload_n 3, 1) := by decide +kernel
theorem dX8_tiredIn_94 : decode cX8_tiredIn 94 = .ok (.iload 4, 2) := by decide +kernel
theorem dX8_tiredIn_96 : decode cX8_tiredIn 96 = .ok (.invokevirtual 247, 3) := by decide +kernel
theorem dX8_tiredIn_99 : decode cX8_tiredIn 99 = .ok (.ifCond .eq 6, 3) := by decide +kernel
theorem dX8_tiredIn_102 : decode cX8_tiredIn 102 = .ok (.iload 6, 2) := by decide +kernel
theorem dX8_tiredIn_104 : decode cX8_tiredIn 104 = .ok (.ireturn, 1) := by decide +kernel
theorem dX8_tiredIn_105 : decode cX8_tiredIn 105 = .ok (.iinc 6 1, 3) := by decide +kernel
theorem dX8_tiredIn_108 : decode cX8_tiredIn 108 = .ok (.goto (-26), 3) := by decide +kernel
theorem dX8_tiredIn_111 : decode cX8_tiredIn 111 = .ok (.bipush (-5), 2) := by decide +kernel
theorem dX8_tiredIn_113 : decode cX8_tiredIn 113 = .ok (.ireturn, 1) := by decide +kernel
theorem dX8_darkIn_0 : decode cX8_darkIn 0 = .ok (.aload_n 0, 1) := by decide +kernel
theorem dX8_darkIn_1 : decode cX8_darkIn 1 = .ok (.getfield 19, 3) := by decide +kernel
theorem dX8_darkIn_4 : decode cX8_darkIn 4 = .ok (.aload_n 0, 1) := by decide +kernel
theorem dX8_darkIn_5 : decode cX8_darkIn 5 = .ok (.getfield 10, 3) := by decide +kernel
theorem dX8_darkIn_8 : decode cX8_darkIn 8 = .ok (.invokevirtual 202, 3) := by decide +kernel
theorem dX8_darkIn_11 : decode cX8_darkIn 11 = .ok (.iconst 0, 1) := by decide +kernel
theorem dX8_darkIn_12 : decode cX8_darkIn 12 = .ok (.istore_n 1, 1) := by decide +kernel
theorem dX8_darkIn_13 : decode cX8_darkIn 13 = .ok (.iload_n 1, 1) := by decide +kernel
theorem dX8_darkIn_14 : decode cX8_darkIn 14 = .ok (.sipush 3000, 3) := by decide +kernel
theorem dX8_darkIn_17 : decode cX8_darkIn 17 = .ok (.if_icmp .gt 22, 3) := by decide +kernel
theorem dX8_darkIn_20 : decode cX8_darkIn 20 = .ok (.aload_n 0, 1) := by decide +kernel
theorem dX8_darkIn_21 : decode cX8_darkIn 21 = .ok (.getfield 19, 3) := by decide +kernel
theorem dX8_darkIn_24 : decode cX8_darkIn 24 = .ok (.iconst 0, 1) := by decide +kernel
theorem dX8_darkIn_25 : decode cX8_darkIn 25 = .ok (.invokevirtual 185, 3) := by decide +kernel
theorem dX8_darkIn_28 : decode cX8_darkIn 28 = .ok (.ifCond .eq 5, 3) := by decide +kernel
theorem dX8_darkIn_31 : decode cX8_darkIn 31 = .ok (.iload_n 1, 1) := by decide +kernel
theorem dX8_darkIn_32 : decode cX8_darkIn 32 = .ok (.ireturn, 1) := by decide +kernel
theorem dX8_darkIn_33 : decode cX8_darkIn 33 = .ok (.iinc 1 1, 3) := by decide +kernel
theorem dX8_darkIn_36 : decode cX8_darkIn 36 = .ok (.goto (-23), 3) := by decide +kernel
theorem dX8_darkIn_39 : decode cX8_darkIn 39 = .ok (.bipush (-5), 2) := by decide +kernel
theorem dX8_darkIn_41 : decode cX8_darkIn 41 = .ok (.ireturn, 1) := by decide +kernel
theorem dX8_ranked_0 : decode cX8_ranked 0 = .ok (.iload_n 1, 1) := by decide +kernel
theorem dX8_ranked_1 : decode cX8_ranked 1 = .ok (.ifCond .ge 6, 3) := by decide +kernel
theorem dX8_ranked_4 : decode cX8_ranked 4 = .ok (.bipush (-2), 2) := by decide +kernel
theorem dX8_ranked_6 : decode cX8_ranked 6 = .ok (.ireturn, 1) := by decide +kernel
theorem dX8_ranked_7 : decode cX8_ranked 7 = .ok (.aload_n 0, 1) := by decide +kernel
theorem dX8_ranked_8 : decode cX8_ranked 8 = .ok (.getfield 10, 3) := by decide +kernel
theorem dX8_ranked_11 : decode cX8_ranked 11 = .ok (.getfield 106, 3) := by decide +kernel
theorem dX8_ranked_14 : decode cX8_ranked 14 = .ok (.iload_n 1, 1) := by decide +kernel
theorem dX8_ranked_15 : decode cX8_ranked 15 = .ok (.invokevirtual 251, 3) := by decide +kernel
theorem dX8_ranked_18 : decode cX8_ranked 18 = .ok (.ireturn, 1) := by decide +kernel
theorem dX8_planned_0 : decode cX8_planned 0 = .ok (.iload_n 1, 1) := by decide +kernel
theorem dX8_planned_1 : decode cX8_planned 1 = .ok (.ifCond .lt 12, 3) := by decide +kernel
theorem dX8_planned_4 : decode cX8_planned 4 = .ok (.iload_n 2, 1) := by decide +kernel
theorem dX8_planned_5 : decode cX8_planned 5 = .ok (.iconst 0, 1) := by decide +kernel
theorem dX8_planned_6 : decode cX8_planned 6 = .ok (.iconst 2, 1) := by decide +kernel
theorem dX8_planned_7 : decode cX8_planned 7 = .ok (.invokestatic 71, 3) := by decide +kernel
theorem dX8_planned_10 : decode cX8_planned 10 = .ok (.ifCond .ne 6, 3) := by decide +kernel
theorem dX8_planned_13 : decode cX8_planned 13 = .ok (.bipush (-2), 2) := by decide +kernel
theorem dX8_planned_15 : decode cX8_planned 15 = .ok (.ireturn, 1) := by decide +kernel
theorem dX8_planned_16 : decode cX8_planned 16 = .ok (.aload_n 0, 1) := by decide +kernel
theorem dX8_planned_17 : decode cX8_planned 17 = .ok (.getfield 10, 3) := by decide +kernel
theorem dX8_planned_20 : decode cX8_planned 20 = .ok (.getfield 154, 3) := by decide +kernel
theorem dX8_planned_23 : decode cX8_planned 23 = .ok (.iload_n 1, 1) := by decide +kernel
theorem dX8_planned_24 : decode cX8_planned 24 = .ok (.invokevirtual 255, 3) := by decide +kernel
theorem dX8_planned_27 : decode cX8_planned 27 = .ok (.istore_n 3, 1) := by decide +kernel
theorem dX8_planned_28 : decode cX8_planned 28 = .ok (.iload_n 3, 1) := by decide +kernel
theorem dX8_planned_29 : decode cX8_planned 29 = .ok (.bipush (-5), 2) := by decide +kernel
theorem dX8_planned_31 : decode cX8_planned 31 = .ok (.if_icmp .ne 6, 3) := by decide +kernel
theorem dX8_planned_34 : decode cX8_planned 34 = .ok (.bipush (-5), 2) := by decide +kernel
theorem dX8_planned_36 : decode cX8_planned 36 = .ok (.ireturn, 1) := by decide +kernel
theorem dX8_planned_37 : decode cX8_planned 37 = .ok (.iload_n 2, 1) := by decide +kernel
theorem dX8_planned_38 : decode cX8_planned 38 = .ok (.lookupswitch 56 #[(0, 26), (1, 41)], 26) := by decide +kernel
theorem dX8_planned_64 : decode cX8_planned 64 = .ok (.aload_n 0, 1) := by decide +kernel
theorem dX8_planned_65 : decode cX8_planned 65 = .ok (.getfield 10, 3) := by decide +kernel
theorem dX8_planned_68 : decode cX8_planned 68 = .ok (.getfield 154, 3) := by decide +kernel
theorem dX8_planned_71 : decode cX8_planned 71 = .ok (.getfield 258, 3) := by decide +kernel
theorem dX8_planned_74 : decode cX8_planned 74 = .ok (.iload_n 3, 1) := by decide +kernel
theorem dX8_planned_75 : decode cX8_planned 75 = .ok (.invokestatic 62, 3) := by decide +kernel
theorem dX8_planned_78 : decode cX8_planned 78 = .ok (.ireturn, 1) := by decide +kernel
theorem dX8_planned_79 : decode cX8_planned 79 = .ok (.aload_n 0, 1) := by decide +kernel
theorem dX8_planned_80 : decode cX8_planned 80 = .ok (.getfield 10, 3) := by decide +kernel
theorem dX8_planned_83 : decode cX8_planned 83 = .ok (.getfield 154, 3) := by decide +kernel
theorem dX8_planned_86 : decode cX8_planned 86 = .ok (.getfield 261, 3) := by decide +kernel
theorem dX8_planned_89 : decode cX8_planned 89 = .ok (.iload_n 3, 1) := by decide +kernel
theorem dX8_planned_90 : decode cX8_planned 90 = .ok (.invokestatic 62, 3) := by decide +kernel
theorem dX8_planned_93 : decode cX8_planned 93 = .ok (.ireturn, 1) := by decide +kernel
theorem dX8_planned_94 : decode cX8_planned 94 = .ok (.aload_n 0, 1) := by decide +kernel
theorem dX8_planned_95 : decode cX8_planned 95 = .ok (.getfield 10, 3) := by decide +kernel
theorem dX8_planned_98 : decode cX8_planned 98 = .ok (.getfield 154, 3) := by decide +kernel
theorem dX8_planned_101 : decode cX8_planned 101 = .ok (.getfield 264, 3) := by decide +kernel
theorem dX8_planned_104 : decode cX8_planned 104 = .ok (.iload_n 3, 1) := by decide +kernel
theorem dX8_planned_105 : decode cX8_planned 105 = .ok (.invokestatic 62, 3) := by decide +kernel
theorem dX8_planned_108 : decode cX8_planned 108 = .ok (.ireturn, 1) := by decide +kernel
theorem dX8_event_0 : decode cX8_event 0 = .ok (.iload_n 1, 1) := by decide +kernel
theorem dX8_event_1 : decode cX8_event 1 = .ok (.ifCond .lt 12, 3) := by decide +kernel
theorem dX8_event_4 : decode cX8_event 4 = .ok (.iload_n 2, 1) := by decide +kernel
theorem dX8_event_5 : decode cX8_event 5 = .ok (.iconst 0, 1) := by decide +kernel
theorem dX8_event_6 : decode cX8_event 6 = .ok (.iconst 2, 1) := by decide +kernel
theorem dX8_event_7 : decode cX8_event 7 = .ok (.invokestatic 71, 3) := by decide +kernel
theorem dX8_event_10 : decode cX8_event 10 = .ok (.ifCond .ne 6, 3) := by decide +kernel
theorem dX8_event_13 : decode cX8_event 13 = .ok (.bipush (-2), 2) := by decide +kernel
theorem dX8_event_15 : decode cX8_event 15 = .ok (.ireturn, 1) := by decide +kernel
theorem dX8_event_16 : decode cX8_event 16 = .ok (.aload_n 0, 1) := by decide +kernel
theorem dX8_event_17 : decode cX8_event 17 = .ok (.getfield 10, 3) := by decide +kernel
theorem dX8_event_20 : decode cX8_event 20 = .ok (.getfield 267, 3) := by decide +kernel
theorem dX8_event_23 : decode cX8_event 23 = .ok (.iload_n 1, 1) := by decide +kernel
theorem dX8_event_24 : decode cX8_event 24 = .ok (.invokevirtual 271, 3) := by decide +kernel
theorem dX8_event_27 : decode cX8_event 27 = .ok (.istore_n 3, 1) := by decide +kernel
theorem dX8_event_28 : decode cX8_event 28 = .ok (.iload_n 3, 1) := by decide +kernel
theorem dX8_event_29 : decode cX8_event 29 = .ok (.bipush (-5), 2) := by decide +kernel
theorem dX8_event_31 : decode cX8_event 31 = .ok (.if_icmp .ne 6, 3) := by decide +kernel
theorem dX8_event_34 : decode cX8_event 34 = .ok (.bipush (-5), 2) := by decide +kernel
theorem dX8_event_36 : decode cX8_event 36 = .ok (.ireturn, 1) := by decide +kernel
theorem dX8_event_37 : decode cX8_event 37 = .ok (.iload_n 2, 1) := by decide +kernel
theorem dX8_event_38 : decode cX8_event 38 = .ok (.lookupswitch 56 #[(0, 26), (1, 41)], 26) := by decide +kernel
theorem dX8_event_64 : decode cX8_event 64 = .ok (.aload_n 0, 1) := by decide +kernel
theorem dX8_event_65 : decode cX8_event 65 = .ok (.getfield 10, 3) := by decide +kernel
theorem dX8_event_68 : decode cX8_event 68 = .ok (.getfield 267, 3) := by decide +kernel
theorem dX8_event_71 : decode cX8_event 71 = .ok (.getfield 276, 3) := by decide +kernel
theorem dX8_event_74 : decode cX8_event 74 = .ok (.iload_n 3, 1) := by decide +kernel
theorem dX8_event_75 : decode cX8_event 75 = .ok (.invokestatic 62, 3) := by decide +kernel
theorem dX8_event_78 : decode cX8_event 78 = .ok (.ireturn, 1) := by decide +kernel
theorem dX8_event_79 : decode cX8_event 79 = .ok (.aload_n 0, 1) := by decide +kernel
theorem dX8_event_80 : decode cX8_event 80 = .ok (.getfield 10, 3) := by decide +kernel
theorem dX8_event_83 : decode cX8_event 83 = .ok (.getfield 267, 3) := by decide +kernel
theorem dX8_event_86 : decode cX8_event 86 = .ok (.getfield 279, 3) := by decide +kernel
theorem dX8_event_89 : decode cX8_event 89 = .ok (.iload_n 3, 1) := by decide +kernel
theorem dX8_event_90 : decode cX8_event 90 = .ok (.invokestatic 62, 3) := by decide +kernel
theorem dX8_event_93 : decode cX8_event 93 = .ok (.ireturn, 1) := by decide +kernel
theorem dX8_event_94 : decode cX8_event 94 = .ok (.aload_n 0, 1) := by decide +kernel
theorem dX8_event_95 : decode cX8_event 95 = .ok (.getfield 10, 3) := by decide +kernel
theorem dX8_event_98 : decode cX8_event 98 = .ok (.getfield 267, 3) := by decide +kernel
theorem dX8_event_101 : decode cX8_event 101 = .ok (.getfield 282, 3) := by decide +kernel
theorem dX8_event_104 : decode cX8_event 104 = .ok (.iload_n 3, 1) := by decide +kernel
theorem dX8_event_105 : decode cX8_event 105 = .ok (.invokestatic 62, 3) := by decide +kernel
theorem dX8_event_108 : decode cX8_event 108 = .ok (.ireturn, 1) := by decide +kernel
theorem dX8_count_0 : decode cX8_count 0 = .ok (.iload_n 1, 1) := by decide +kernel
theorem dX8_count_1 : decode cX8_count 1 = .ok (.tableswitch 185 0 13 #[71, 79, 90, 101, 112, 112, 112, 126, 134, 142, 150, 158, 169, 177], 71) := by decide +kernel
theorem dX8_count_72 : decode cX8_count 72 = .ok (.aload_n 0, 1) := by decide +kernel
theorem dX8_count_73 : decode cX8_count 73 = .ok (.getfield 10, 3) := by decide +kernel
theorem dX8_count_76 : decode cX8_count 76 = .ok (.getfield 179, 3) := by decide +kernel
theorem dX8_count_79 : decode cX8_count 79 = .ok (.ireturn, 1) := by decide +kernel
theorem dX8_count_80 : decode cX8_count 80 = .ok (.aload_n 0, 1) := by decide +kernel
theorem dX8_count_81 : decode cX8_count 81 = .ok (.getfield 10, 3) := by decide +kernel
theorem dX8_count_84 : decode cX8_count 84 = .ok (.getfield 106, 3) := by decide +kernel
theorem dX8_count_87 : decode cX8_count 87 = .ok (.invokevirtual 283, 3) := by decide +kernel
theorem dX8_count_90 : decode cX8_count 90 = .ok (.ireturn, 1) := by decide +kernel
theorem dX8_count_91 : decode cX8_count 91 = .ok (.aload_n 0, 1) := by decide +kernel
theorem dX8_count_92 : decode cX8_count 92 = .ok (.getfield 10, 3) := by decide +kernel
theorem dX8_count_95 : decode cX8_count 95 = .ok (.getfield 106, 3) := by decide +kernel
theorem dX8_count_98 : decode cX8_count 98 = .ok (.invokevirtual 286, 3) := by decide +kernel
theorem dX8_count_101 : decode cX8_count 101 = .ok (.ireturn, 1) := by decide +kernel
theorem dX8_count_102 : decode cX8_count 102 = .ok (.aload_n 0, 1) := by decide +kernel
theorem dX8_count_103 : decode cX8_count 103 = .ok (.getfield 10, 3) := by decide +kernel
theorem dX8_count_106 : decode cX8_count 106 = .ok (.getfield 106, 3) := by decide +kernel
theorem dX8_count_109 : decode cX8_count 109 = .ok (.invokevirtual 289, 3) := by decide +kernel
theorem dX8_count_112 : decode cX8_count 112 = .ok (.ireturn, 1) := by decide +kernel
theorem dX8_count_113 : decode cX8_count 113 = .ok (.aload_n 0, 1) := by decide +kernel
theorem dX8_count_114 : decode cX8_count 114 = .ok (.getfield 10, 3) := by decide +kernel
theorem dX8_count_117 : decode cX8_count 117 = .ok (.getfield 151, 3) := by decide +kernel
theorem dX8_count_120 : decode cX8_count 120 = .ok (.iload_n 1, 1) := by decide +kernel
theorem dX8_count_121 : decode cX8_count 121 = .ok (.iconst 4, 1) := by decide +kernel
theorem dX8_count_122 : decode cX8_count 122 = .ok (.isub, 1) := by decide +kernel
theorem dX8_count_123 : decode cX8_count 123 = .ok (.invokestatic 62, 3) := by decide +kernel
theorem dX8_count_126 : decode cX8_count 126 = .ok (.ireturn, 1) := by decide +kernel
theorem dX8_count_127 : decode cX8_count 127 = .ok (.aload_n 0, 1) := by decide +kernel
theorem dX8_count_128 : decode cX8_count 128 = .ok (.getfield 10, 3) := by decide +kernel
theorem dX8_count_131 : decode cX8_count 131 = .ok (.getfield 182, 3) := by decide +kernel
theorem dX8_count_134 : decode cX8_count 134 = .ok (.ireturn, 1) := by decide +kernel
theorem dX8_count_135 : decode cX8_count 135 = .ok (.aload_n 0, 1) := by decide +kernel
theorem dX8_count_136 : decode cX8_count 136 = .ok (.getfield 10, 3) := by decide +kernel
theorem dX8_count_139 : decode cX8_count 139 = .ok (.getfield 292, 3) := by decide +kernel
theorem dX8_count_142 : decode cX8_count 142 = .ok (.ireturn, 1) := by decide +kernel
theorem dX8_count_143 : decode cX8_count 143 = .ok (.aload_n 0, 1) := by decide +kernel
theorem dX8_count_144 : decode cX8_count 144 = .ok (.getfield 10, 3) := by decide +kernel
theorem dX8_count_147 : decode cX8_count 147 = .ok (.getfield 295, 3) := by decide +kernel
theorem dX8_count_150 : decode cX8_count 150 = .ok (.ireturn, 1) := by decide +kernel
theorem dX8_count_151 : decode cX8_count 151 = .ok (.aload_n 0, 1) := by decide +kernel
theorem dX8_count_152 : decode cX8_count 152 = .ok (.getfield 10, 3) := by decide +kernel
theorem dX8_count_155 : decode cX8_count 155 = .ok (.getfield 298, 3) := by decide +kernel
theorem dX8_count_158 : decode cX8_count 158 = .ok (.ireturn, 1) := by decide +kernel
theorem dX8_count_159 : decode cX8_count 159 = .ok (.aload_n 0, 1) := by decide +kernel
theorem dX8_count_160 : decode cX8_count 160 = .ok (.getfield 10, 3) := by decide +kernel
theorem dX8_count_163 : decode cX8_count 163 = .ok (.getfield 154, 3) := by decide +kernel
theorem dX8_count_166 : decode cX8_count 166 = .ok (.getfield 164, 3) := by decide +kernel
theorem dX8_count_169 : decode cX8_count 169 = .ok (.ireturn, 1) := by decide +kernel
theorem dX8_count_170 : decode cX8_count 170 = .ok (.aload_n 0, 1) := by decide +kernel
theorem dX8_count_171 : decode cX8_count 171 = .ok (.getfield 32, 3) := by decide +kernel
theorem dX8_count_174 : decode cX8_count 174 = .ok (.getfield 196, 3) := by decide +kernel
theorem dX8_count_177 : decode cX8_count 177 = .ok (.ireturn, 1) := by decide +kernel
theorem dX8_count_178 : decode cX8_count 178 = .ok (.aload_n 0, 1) := by decide +kernel
theorem dX8_count_179 : decode cX8_count 179 = .ok (.getfield 39, 3) := by decide +kernel
theorem dX8_count_182 : decode cX8_count 182 = .ok (.getfield 193, 3) := by decide +kernel
theorem dX8_count_185 : decode cX8_count 185 = .ok (.ireturn, 1) := by decide +kernel
theorem dX8_count_186 : decode cX8_count 186 = .ok (.bipush (-2), 2) := by decide +kernel
theorem dX8_count_188 : decode cX8_count 188 = .ok (.ireturn, 1) := by decide +kernel
theorem dX8_setting_0 : decode cX8_setting 0 = .ok (.iload_n 1, 1) := by decide +kernel
theorem dX8_setting_1 : decode cX8_setting 1 = .ok (.invokestatic 54, 3) := by decide +kernel
theorem dX8_setting_4 : decode cX8_setting 4 = .ok (.ifCond .ne 5, 3) := by decide +kernel
theorem dX8_setting_7 : decode cX8_setting 7 = .ok (.iconst (-1), 1) := by decide +kernel
theorem dX8_setting_8 : decode cX8_setting 8 = .ok (.ireturn, 1) := by decide +kernel
theorem dX8_setting_9 : decode cX8_setting 9 = .ok (.aload_n 0, 1) := by decide +kernel
theorem dX8_setting_10 : decode cX8_setting 10 = .ok (.getfield 10, 3) := by decide +kernel
theorem dX8_setting_13 : decode cX8_setting 13 = .ok (.getfield 75, 3) := by decide +kernel
theorem dX8_setting_16 : decode cX8_setting 16 = .ok (.iload_n 1, 1) := by decide +kernel
theorem dX8_setting_17 : decode cX8_setting 17 = .ok (.invokestatic 62, 3) := by decide +kernel
theorem dX8_setting_20 : decode cX8_setting 20 = .ok (.ireturn, 1) := by decide +kernel
theorem dX8_isFromTo_0 : decode cX8_isFromTo 0 = .ok (.iload_n 0, 1) := by decide +kernel
theorem dX8_isFromTo_1 : decode cX8_isFromTo 1 = .ok (.iload_n 1, 1) := by decide +kernel
theorem dX8_isFromTo_2 : decode cX8_isFromTo 2 = .ok (.if_icmp .lt 12, 3) := by decide +kernel
theorem dX8_isFromTo_5 : decode cX8_isFromTo 5 = .ok (.iload_n 0, 1) := by decide +kernel
theorem dX8_isFromTo_6 : decode cX8_isFromTo 6 = .ok (.iload_n 2, 1) := by decide +kernel
theorem dX8_isFromTo_7 : decode cX8_isFromTo 7 = .ok (.if_icmp .gt 7, 3) := by decide +kernel
theorem dX8_isFromTo_10 : decode cX8_isFromTo 10 = .ok (.iconst 1, 1) := by decide +kernel
theorem dX8_isFromTo_11 : decode cX8_isFromTo 11 = .ok (.goto 4, 3) := by decide +kernel
theorem dX8_isFromTo_14 : decode cX8_isFromTo 14 = .ok (.iconst 0, 1) := by decide +kernel
theorem dX8_isFromTo_15 : decode cX8_isFromTo 15 = .ok (.ireturn, 1) := by decide +kernel
theorem dX8_isSetting_0 : decode cX8_isSetting 0 = .ok (.iload_n 0, 1) := by decide +kernel
theorem dX8_isSetting_1 : decode cX8_isSetting 1 = .ok (.iconst 0, 1) := by decide +kernel
theorem dX8_isSetting_2 : decode cX8_isSetting 2 = .ok (.getstatic 301, 3) := by decide +kernel
theorem dX8_isSetting_5 : decode cX8_isSetting 5 = .ok (.arraylength, 1) := by decide +kernel
theorem dX8_isSetting_6 : decode cX8_isSetting 6 = .ok (.iconst 1, 1) := by decide +kernel
theorem dX8_isSetting_7 : decode cX8_isSetting 7 = .ok (.isub, 1) := by decide +kernel
theorem dX8_isSetting_8 : decode cX8_isSetting 8 = .ok (.invokestatic 71, 3) := by decide +kernel
theorem dX8_isSetting_11 : decode cX8_isSetting 11 = .ok (.ireturn, 1) := by decide +kernel
theorem dX8_isPlaceOfDay_0 : decode cX8_isPlaceOfDay 0 = .ok (.iload_n 0, 1) := by decide +kernel
theorem dX8_isPlaceOfDay_1 : decode cX8_isPlaceOfDay 1 = .ok (.iconst 0, 1) := by decide +kernel
theorem dX8_isPlaceOfDay_2 : decode cX8_isPlaceOfDay 2 = .ok (.bipush 47, 2) := by decide +kernel
theorem dX8_isPlaceOfDay_4 : decode cX8_isPlaceOfDay 4 = .ok (.invokestatic 71, 3) := by decide +kernel
theorem dX8_isPlaceOfDay_7 : decode cX8_isPlaceOfDay 7 = .ok (.ireturn, 1) := by decide +kernel
theorem dX8_isSocket_0 : decode cX8_isSocket 0 = .ok (.iload_n 0, 1) := by decide +kernel
theorem dX8_isSocket_1 : decode cX8_isSocket 1 = .ok (.iconst 0, 1) := by decide +kernel
theorem dX8_isSocket_2 : decode cX8_isSocket 2 = .ok (.iconst 5, 1) := by decide +kernel
theorem dX8_isSocket_3 : decode cX8_isSocket 3 = .ok (.invokestatic 71, 3) := by decide +kernel
theorem dX8_isSocket_6 : decode cX8_isSocket 6 = .ok (.ireturn, 1) := by decide +kernel
theorem dX8_isKind_0 : decode cX8_isKind 0 = .ok (.iload_n 0, 1) := by decide +kernel
theorem dX8_isKind_1 : decode cX8_isKind 1 = .ok (.iconst 0, 1) := by decide +kernel
theorem dX8_isKind_2 : decode cX8_isKind 2 = .ok (.iconst 2, 1) := by decide +kernel
theorem dX8_isKind_3 : decode cX8_isKind 3 = .ok (.invokestatic 71, 3) := by decide +kernel
theorem dX8_isKind_6 : decode cX8_isKind 6 = .ok (.ireturn, 1) := by decide +kernel
theorem dX8_isLoad_0 : decode cX8_isLoad 0 = .ok (.iload_n 0, 1) := by decide +kernel
theorem dX8_isLoad_1 : decode cX8_isLoad 1 = .ok (.iconst 1, 1) := by decide +kernel
theorem dX8_isLoad_2 : decode cX8_isLoad 2 = .ok (.bipush 6, 2) := by decide +kernel
theorem dX8_isLoad_4 : decode cX8_isLoad 4 = .ok (.invokestatic 71, 3) := by decide +kernel
theorem dX8_isLoad_7 : decode cX8_isLoad 7 = .ok (.ireturn, 1) := by decide +kernel
theorem dX8_oneIf_0 : decode cX8_oneIf 0 = .ok (.iload_n 0, 1) := by decide +kernel
theorem dX8_oneIf_1 : decode cX8_oneIf 1 = .ok (.ifCond .eq 7, 3) := by decide +kernel
theorem dX8_oneIf_4 : decode cX8_oneIf 4 = .ok (.iconst 1, 1) := by decide +kernel
theorem dX8_oneIf_5 : decode cX8_oneIf 5 = .ok (.goto 4, 3) := by decide +kernel
theorem dX8_oneIf_8 : decode cX8_oneIf 8 = .ok (.iconst 0, 1) := by decide +kernel
theorem dX8_oneIf_9 : decode cX8_oneIf 9 = .ok (.ireturn, 1) := by decide +kernel
theorem dJ9_floorMod_7cf53_0 : decode cJ9_floorMod_7cf53 0 = .ok (.iload_n 0, 1) := by decide +kernel
theorem dJ9_floorMod_7cf53_1 : decode cJ9_floorMod_7cf53 1 = .ok (.iload_n 1, 1) := by decide +kernel
theorem dJ9_floorMod_7cf53_2 : decode cJ9_floorMod_7cf53 2 = .ok (.irem, 1) := by decide +kernel
theorem dJ9_floorMod_7cf53_3 : decode cJ9_floorMod_7cf53 3 = .ok (.istore_n 2, 1) := by decide +kernel
theorem dJ9_floorMod_7cf53_4 : decode cJ9_floorMod_7cf53 4 = .ok (.iload_n 0, 1) := by decide +kernel
theorem dJ9_floorMod_7cf53_5 : decode cJ9_floorMod_7cf53 5 = .ok (.iload_n 1, 1) := by decide +kernel
theorem dJ9_floorMod_7cf53_6 : decode cJ9_floorMod_7cf53 6 = .ok (.ixor, 1) := by decide +kernel
theorem dJ9_floorMod_7cf53_7 : decode cJ9_floorMod_7cf53 7 = .ok (.ifCond .ge 11, 3) := by decide +kernel
theorem dJ9_floorMod_7cf53_10 : decode cJ9_floorMod_7cf53 10 = .ok (.iload_n 2, 1) := by decide +kernel
theorem dJ9_floorMod_7cf53_11 : decode cJ9_floorMod_7cf53 11 = .ok (.ifCond .eq 7, 3) := by decide +kernel
theorem dJ9_floorMod_7cf53_14 : decode cJ9_floorMod_7cf53 14 = .ok (.iload_n 2, 1) := by decide +kernel
theorem dJ9_floorMod_7cf53_15 : decode cJ9_floorMod_7cf53 15 = .ok (.iload_n 1, 1) := by decide +kernel
theorem dJ9_floorMod_7cf53_16 : decode cJ9_floorMod_7cf53 16 = .ok (.iadd, 1) := by decide +kernel
theorem dJ9_floorMod_7cf53_17 : decode cJ9_floorMod_7cf53 17 = .ok (.ireturn, 1) := by decide +kernel
theorem dJ9_floorMod_7cf53_18 : decode cJ9_floorMod_7cf53 18 = .ok (.iload_n 2, 1) := by decide +kernel
theorem dJ9_floorMod_7cf53_19 : decode cJ9_floorMod_7cf53 19 = .ok (.ireturn, 1) := by decide +kernel
theorem dJ9_max_7cf53_0 : decode cJ9_max_7cf53 0 = .ok (.iload_n 0, 1) := by decide +kernel
theorem dJ9_max_7cf53_1 : decode cJ9_max_7cf53 1 = .ok (.iload_n 1, 1) := by decide +kernel
theorem dJ9_max_7cf53_2 : decode cJ9_max_7cf53 2 = .ok (.if_icmp .lt 7, 3) := by decide +kernel
theorem dJ9_max_7cf53_5 : decode cJ9_max_7cf53 5 = .ok (.iload_n 0, 1) := by decide +kernel
theorem dJ9_max_7cf53_6 : decode cJ9_max_7cf53 6 = .ok (.goto 4, 3) := by decide +kernel
theorem dJ9_max_7cf53_9 : decode cJ9_max_7cf53 9 = .ok (.iload_n 1, 1) := by decide +kernel
theorem dJ9_max_7cf53_10 : decode cJ9_max_7cf53 10 = .ok (.ireturn, 1) := by decide +kernel
theorem dJ9_min_7cf53_0 : decode cJ9_min_7cf53 0 = .ok (.iload_n 0, 1) := by decide +kernel
theorem dJ9_min_7cf53_1 : decode cJ9_min_7cf53 1 = .ok (.iload_n 1, 1) := by decide +kernel
theorem dJ9_min_7cf53_2 : decode cJ9_min_7cf53 2 = .ok (.if_icmp .gt 7, 3) := by decide +kernel
theorem dJ9_min_7cf53_5 : decode cJ9_min_7cf53 5 = .ok (.iload_n 0, 1) := by decide +kernel
theorem dJ9_min_7cf53_6 : decode cJ9_min_7cf53 6 = .ok (.goto 4, 3) := by decide +kernel
theorem dJ9_min_7cf53_9 : decode cJ9_min_7cf53 9 = .ok (.iload_n 1, 1) := by decide +kernel
theorem dJ9_min_7cf53_10 : decode cJ9_min_7cf53 10 = .ok (.ireturn, 1) := by decide +kernel
theorem dL_part_0 : decode cL_part 0 = .ok (.iload_n 0, 1) := by decide +kernel
theorem dL_part_1 : decode cL_part 1 = .ok (.ldc 7, 2) := by decide +kernel
theorem dL_part_3 : decode cL_part 3 = .ok (.iand, 1) := by decide +kernel
theorem dL_part_4 : decode cL_part 4 = .ok (.iload_n 1, 1) := by decide +kernel
theorem dL_part_5 : decode cL_part 5 = .ok (.irem, 1) := by decide +kernel
theorem dL_part_6 : decode cL_part 6 = .ok (.ireturn, 1) := by decide +kernel
theorem dL_drawn_0 : decode cL_drawn 0 = .ok (.aload_n 0, 1) := by decide +kernel
theorem dL_drawn_1 : decode cL_drawn 1 = .ok (.arraylength, 1) := by decide +kernel
theorem dL_drawn_2 : decode cL_drawn 2 = .ok (.ifCond .ne 13, 3) := by decide +kernel
theorem dL_drawn_5 : decode cL_drawn 5 = .ok (.sipush 7919, 3) := by decide +kernel
theorem dL_drawn_8 : decode cL_drawn 8 = .ok (.iload_n 1, 1) := by decide +kernel
theorem dL_drawn_9 : decode cL_drawn 9 = .ok (.imul, 1) := by decide +kernel
theorem dL_drawn_10 : decode cL_drawn 10 = .ok (.iconst 3, 1) := by decide +kernel
theorem dL_drawn_11 : decode cL_drawn 11 = .ok (.iadd, 1) := by decide +kernel
theorem dL_drawn_12 : decode cL_drawn 12 = .ok (.goto 27, 3) := by decide +kernel
theorem dL_drawn_15 : decode cL_drawn 15 = .ok (.aload_n 0, 1) := by decide +kernel
theorem dL_drawn_16 : decode cL_drawn 16 = .ok (.iload_n 1, 1) := by decide +kernel
theorem dL_drawn_17 : decode cL_drawn 17 = .ok (.aload_n 0, 1) := by decide +kernel
theorem dL_drawn_18 : decode cL_drawn 18 = .ok (.arraylength, 1) := by decide +kernel
theorem dL_drawn_19 : decode cL_drawn 19 = .ok (.irem, 1) := by decide +kernel
theorem dL_drawn_20 : decode cL_drawn 20 = .ok (.iaload, 1) := by decide +kernel
theorem dL_drawn_21 : decode cL_drawn 21 = .ok (.iload_n 1, 1) := by decide +kernel
theorem dL_drawn_22 : decode cL_drawn 22 = .ok (.bipush 7, 2) := by decide +kernel
theorem dL_drawn_24 : decode cL_drawn 24 = .ok (.irem, 1) := by decide +kernel
theorem dL_drawn_25 : decode cL_drawn 25 = .ok (.ishr, 1) := by decide +kernel
theorem dL_drawn_26 : decode cL_drawn 26 = .ok (.iload_n 1, 1) := by decide +kernel
theorem dL_drawn_27 : decode cL_drawn 27 = .ok (.aload_n 0, 1) := by decide +kernel
theorem dL_drawn_28 : decode cL_drawn 28 = .ok (.arraylength, 1) := by decide +kernel
theorem dL_drawn_29 : decode cL_drawn 29 = .ok (.idiv, 1) := by decide +kernel
theorem dL_drawn_30 : decode cL_drawn 30 = .ok (.bipush 31, 2) := by decide +kernel
theorem dL_drawn_32 : decode cL_drawn 32 = .ok (.imul, 1) := by decide +kernel
theorem dL_drawn_33 : decode cL_drawn 33 = .ok (.ixor, 1) := by decide +kernel
theorem dL_drawn_34 : decode cL_drawn 34 = .ok (.iload_n 1, 1) := by decide +kernel
theorem dL_drawn_35 : decode cL_drawn 35 = .ok (.ldc 8, 2) := by decide +kernel
theorem dL_drawn_37 : decode cL_drawn 37 = .ok (.imul, 1) := by decide +kernel
theorem dL_drawn_38 : decode cL_drawn 38 = .ok (.ixor, 1) := by decide +kernel
theorem dL_drawn_39 : decode cL_drawn 39 = .ok (.ireturn, 1) := by decide +kernel
theorem dL_seen_0 : decode cL_seen 0 = .ok (.ldc2_w 9, 3) := by decide +kernel
theorem dL_seen_3 : decode cL_seen 3 = .ok (.lstore_n 1, 1) := by decide +kernel
theorem dL_seen_4 : decode cL_seen 4 = .ok (.iconst 0, 1) := by decide +kernel
theorem dL_seen_5 : decode cL_seen 5 = .ok (.istore_n 3, 1) := by decide +kernel
theorem dL_seen_6 : decode cL_seen 6 = .ok (.iload_n 3, 1) := by decide +kernel
theorem dL_seen_7 : decode cL_seen 7 = .ok (.bipush 12, 2) := by decide +kernel
theorem dL_seen_9 : decode cL_seen 9 = .ok (.if_icmp .ge 22, 3) := by decide +kernel
theorem dL_seen_12 : decode cL_seen 12 = .ok (.ldc2_w 11, 3) := by decide +kernel
theorem dL_seen_15 : decode cL_seen 15 = .ok (.lload_n 1, 1) := by decide +kernel
theorem dL_seen_16 : decode cL_seen 16 = .ok (.lmul, 1) := by decide +kernel
theorem dL_seen_17 : decode cL_seen 17 = .ok (.aload_n 0, 1) := by decide +kernel
theorem dL_seen_18 : decode cL_seen 18 = .ok (.iload_n 3, 1) := by decide +kernel
theorem dL_seen_19 : decode cL_seen 19 = .ok (.invokevirtual 13, 3) := by decide +kernel
theorem dL_seen_22 : decode cL_seen 22 = .ok (.i2l, 1) := by decide +kernel
theorem dL_seen_23 : decode cL_seen 23 = .ok (.ladd, 1) := by decide +kernel
theorem dL_seen_24 : decode cL_seen 24 = .ok (.lstore_n 1, 1) := by decide +kernel
theorem dL_seen_25 : decode cL_seen 25 = .ok (.iinc 3 1, 3) := by decide +kernel
theorem dL_seen_28 : decode cL_seen 28 = .ok (.goto (-22), 3) := by decide +kernel
theorem dL_seen_31 : decode cL_seen 31 = .ok (.iconst 0, 1) := by decide +kernel
theorem dL_seen_32 : decode cL_seen 32 = .ok (.istore_n 3, 1) := by decide +kernel
theorem dL_seen_33 : decode cL_seen 33 = .ok (.iload_n 3, 1) := by decide +kernel
theorem dL_seen_34 : decode cL_seen 34 = .ok (.bipush 8, 2) := by decide +kernel
theorem dL_seen_36 : decode cL_seen 36 = .ok (.if_icmp .ge 22, 3) := by decide +kernel
theorem dL_seen_39 : decode cL_seen 39 = .ok (.ldc2_w 11, 3) := by decide +kernel
theorem dL_seen_42 : decode cL_seen 42 = .ok (.lload_n 1, 1) := by decide +kernel
theorem dL_seen_43 : decode cL_seen 43 = .ok (.lmul, 1) := by decide +kernel
theorem dL_seen_44 : decode cL_seen 44 = .ok (.aload_n 0, 1) := by decide +kernel
theorem dL_seen_45 : decode cL_seen 45 = .ok (.iload_n 3, 1) := by decide +kernel
theorem dL_seen_46 : decode cL_seen 46 = .ok (.invokevirtual 19, 3) := by decide +kernel
theorem dL_seen_49 : decode cL_seen 49 = .ok (.i2l, 1) := by decide +kernel
theorem dL_seen_50 : decode cL_seen 50 = .ok (.ladd, 1) := by decide +kernel
theorem dL_seen_51 : decode cL_seen 51 = .ok (.lstore_n 1, 1) := by decide +kernel
theorem dL_seen_52 : decode cL_seen 52 = .ok (.iinc 3 1, 3) := by decide +kernel
theorem dL_seen_55 : decode cL_seen 55 = .ok (.goto (-22), 3) := by decide +kernel
theorem dL_seen_58 : decode cL_seen 58 = .ok (.iconst 0, 1) := by decide +kernel
theorem dL_seen_59 : decode cL_seen 59 = .ok (.istore_n 3, 1) := by decide +kernel
theorem dL_seen_60 : decode cL_seen 60 = .ok (.iload_n 3, 1) := by decide +kernel
theorem dL_seen_61 : decode cL_seen 61 = .ok (.bipush 48, 2) := by decide +kernel
theorem dL_seen_63 : decode cL_seen 63 = .ok (.if_icmp .ge 29, 3) := by decide +kernel
theorem dL_seen_66 : decode cL_seen 66 = .ok (.ldc2_w 11, 3) := by decide +kernel
theorem dL_seen_69 : decode cL_seen 69 = .ok (.lload_n 1, 1) := by decide +kernel
theorem dL_seen_70 : decode cL_seen 70 = .ok (.lmul, 1) := by decide +kernel
theorem dL_seen_71 : decode cL_seen 71 = .ok (.aload_n 0, 1) := by decide +kernel
theorem dL_seen_72 : decode cL_seen 72 = .ok (.iload_n 3, 1) := by decide +kernel
theorem dL_seen_73 : decode cL_seen 73 = .ok (.bipush 8, 2) := by decide +kernel
theorem dL_seen_75 : decode cL_seen 75 = .ok (.idiv, 1) := by decide +kernel
theorem dL_seen_76 : decode cL_seen 76 = .ok (.iload_n 3, 1) := by decide +kernel
theorem dL_seen_77 : decode cL_seen 77 = .ok (.bipush 8, 2) := by decide +kernel
theorem dL_seen_79 : decode cL_seen 79 = .ok (.irem, 1) := by decide +kernel
theorem dL_seen_80 : decode cL_seen 80 = .ok (.invokevirtual 22, 3) := by decide +kernel
theorem dL_seen_83 : decode cL_seen 83 = .ok (.i2l, 1) := by decide +kernel
theorem dL_seen_84 : decode cL_seen 84 = .ok (.ladd, 1) := by decide +kernel
theorem dL_seen_85 : decode cL_seen 85 = .ok (.lstore_n 1, 1) := by decide +kernel
theorem dL_seen_86 : decode cL_seen 86 = .ok (.iinc 3 1, 3) := by decide +kernel
theorem dL_seen_89 : decode cL_seen 89 = .ok (.goto (-29), 3) := by decide +kernel
theorem dL_seen_92 : decode cL_seen 92 = .ok (.iconst 0, 1) := by decide +kernel
theorem dL_seen_93 : decode cL_seen 93 = .ok (.istore_n 3, 1) := by decide +kernel
theorem dL_seen_94 : decode cL_seen 94 = .ok (.iload_n 3, 1) := by decide +kernel
theorem dL_seen_95 : decode cL_seen 95 = .ok (.bipush 30, 2) := by decide +kernel
theorem dL_seen_97 : decode cL_seen 97 = .ok (.if_icmp .ge 43, 3) := by decide +kernel
theorem dL_seen_100 : decode cL_seen 100 = .ok (.ldc2_w 11, 3) := by decide +kernel
theorem dL_seen_103 : decode cL_seen 103 = .ok (.ldc2_w 11, 3) := by decide +kernel
theorem dL_seen_106 : decode cL_seen 106 = .ok (.lload_n 1, 1) := by decide +kernel
theorem dL_seen_107 : decode cL_seen 107 = .ok (.lmul, 1) := by decide +kernel
theorem dL_seen_108 : decode cL_seen 108 = .ok (.aload_n 0, 1) := by decide +kernel
theorem dL_seen_109 : decode cL_seen 109 = .ok (.iload_n 3, 1) := by decide +kernel
theorem dL_seen_110 : decode cL_seen 110 = .ok (.iconst 3, 1) := by decide +kernel
theorem dL_seen_111 : decode cL_seen 111 = .ok (.idiv, 1) := by decide +kernel
theorem dL_seen_112 : decode cL_seen 112 = .ok (.iload_n 3, 1) := by decide +kernel
theorem dL_seen_113 : decode cL_seen 113 = .ok (.iconst 3, 1) := by decide +kernel
theorem dL_seen_114 : decode cL_seen 114 = .ok (.irem, 1) := by decide +kernel
theorem dL_seen_115 : decode cL_seen 115 = .ok (.invokevirtual 26, 3) := by decide +kernel
theorem dL_seen_118 : decode cL_seen 118 = .ok (.i2l, 1) := by decide +kernel
theorem dL_seen_119 : decode cL_seen 119 = .ok (.ladd, 1) := by decide +kernel
theorem dL_seen_120 : decode cL_seen 120 = .ok (.lmul, 1) := by decide +kernel
theorem dL_seen_121 : decode cL_seen 121 = .ok (.aload_n 0, 1) := by decide +kernel
theorem dL_seen_122 : decode cL_seen 122 = .ok (.iload_n 3, 1) := by decide +kernel
theorem dL_seen_123 : decode cL_seen 123 = .ok (.iconst 3, 1) := by decide +kernel
theorem dL_seen_124 : decode cL_seen 124 = .ok (.idiv, 1) := by decide +kernel
theorem dL_seen_125 : decode cL_seen 125 = .ok (.iload_n 3, 1) := by decide +kernel
theorem dL_seen_126 : decode cL_seen 126 = .ok (.iconst 3, 1) := by decide +kernel
theorem dL_seen_127 : decode cL_seen 127 = .ok (.irem, 1) := by decide +kernel
theorem dL_seen_128 : decode cL_seen 128 = .ok (.invokevirtual 29, 3) := by decide +kernel
theorem dL_seen_131 : decode cL_seen 131 = .ok (.i2l, 1) := by decide +kernel
theorem dL_seen_132 : decode cL_seen 132 = .ok (.ladd, 1) := by decide +kernel
theorem dL_seen_133 : decode cL_seen 133 = .ok (.lstore_n 1, 1) := by decide +kernel
theorem dL_seen_134 : decode cL_seen 134 = .ok (.iinc 3 1, 3) := by decide +kernel
theorem dL_seen_137 : decode cL_seen 137 = .ok (.goto (-43), 3) := by decide +kernel
theorem dL_seen_140 : decode cL_seen 140 = .ok (.iconst 0, 1) := by decide +kernel
theorem dL_seen_141 : decode cL_seen 141 = .ok (.istore_n 3, 1) := by decide +kernel
theorem dL_seen_142 : decode cL_seen 142 = .ok (.iload_n 3, 1) := by decide +kernel
theorem dL_seen_143 : decode cL_seen 143 = .ok (.iconst 4, 1) := by decide +kernel
theorem dL_seen_144 : decode cL_seen 144 = .ok (.if_icmp .ge 22, 3) := by decide +kernel
theorem dL_seen_147 : decode cL_seen 147 = .ok (.ldc2_w 11, 3) := by decide +kernel
theorem dL_seen_150 : decode cL_seen 150 = .ok (.lload_n 1, 1) := by decide +kernel
theorem dL_seen_151 : decode cL_seen 151 = .ok (.lmul, 1) := by decide +kernel
theorem dL_seen_152 : decode cL_seen 152 = .ok (.aload_n 0, 1) := by decide +kernel
theorem dL_seen_153 : decode cL_seen 153 = .ok (.iload_n 3, 1) := by decide +kernel
theorem dL_seen_154 : decode cL_seen 154 = .ok (.invokevirtual 32, 3) := by decide +kernel
theorem dL_seen_157 : decode cL_seen 157 = .ok (.i2l, 1) := by decide +kernel
theorem dL_seen_158 : decode cL_seen 158 = .ok (.ladd, 1) := by decide +kernel
theorem dL_seen_159 : decode cL_seen 159 = .ok (.lstore_n 1, 1) := by decide +kernel
theorem dL_seen_160 : decode cL_seen 160 = .ok (.iinc 3 1, 3) := by decide +kernel
theorem dL_seen_163 : decode cL_seen 163 = .ok (.goto (-21), 3) := by decide +kernel
theorem dL_seen_166 : decode cL_seen 166 = .ok (.lload_n 1, 1) := by decide +kernel
theorem dL_seen_167 : decode cL_seen 167 = .ok (.lreturn, 1) := by decide +kernel
theorem dL_refusesAny_0 : decode cL_refusesAny 0 = .ok (.iload_n 1, 1) := by decide +kernel
theorem dL_refusesAny_1 : decode cL_refusesAny 1 = .ok (.ifCond .ne 7, 3) := by decide +kernel
theorem dL_refusesAny_4 : decode cL_refusesAny 4 = .ok (.iconst (-1), 1) := by decide +kernel
theorem dL_refusesAny_5 : decode cL_refusesAny 5 = .ok (.goto 5, 3) := by decide +kernel
theorem dL_refusesAny_8 : decode cL_refusesAny 8 = .ok (.bipush 6, 2) := by decide +kernel
theorem dL_refusesAny_10 : decode cL_refusesAny 10 = .ok (.istore_n 2, 1) := by decide +kernel
theorem dL_refusesAny_11 : decode cL_refusesAny 11 = .ok (.aload_n 0, 1) := by decide +kernel
theorem dL_refusesAny_12 : decode cL_refusesAny 12 = .ok (.iload_n 1, 1) := by decide +kernel
theorem dL_refusesAny_13 : decode cL_refusesAny 13 = .ok (.ifCond .ne 7, 3) := by decide +kernel
theorem dL_refusesAny_16 : decode cL_refusesAny 16 = .ok (.iconst (-1), 1) := by decide +kernel
theorem dL_refusesAny_17 : decode cL_refusesAny 17 = .ok (.goto 4, 3) := by decide +kernel
theorem dL_refusesAny_20 : decode cL_refusesAny 20 = .ok (.iconst 4, 1) := by decide +kernel
theorem dL_refusesAny_21 : decode cL_refusesAny 21 = .ok (.iconst 1, 1) := by decide +kernel
theorem dL_refusesAny_22 : decode cL_refusesAny 22 = .ok (.invokevirtual 35, 3) := by decide +kernel
theorem dL_refusesAny_25 : decode cL_refusesAny 25 = .ok (.iconst (-1), 1) := by decide +kernel
theorem dL_refusesAny_26 : decode cL_refusesAny 26 = .ok (.if_icmp .ne 172, 3) := by decide +kernel
theorem dL_refusesAny_29 : decode cL_refusesAny 29 = .ok (.aload_n 0, 1) := by decide +kernel
theorem dL_refusesAny_30 : decode cL_refusesAny 30 = .ok (.iconst 0, 1) := by decide +kernel
theorem dL_refusesAny_31 : decode cL_refusesAny 31 = .ok (.iload_n 1, 1) := by decide +kernel
theorem dL_refusesAny_32 : decode cL_refusesAny 32 = .ok (.ifCond .ne 8, 3) := by decide +kernel
