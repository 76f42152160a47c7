theorem dX9_digit_11 : decode cX9_digit 11 = .ok (.ireturn, 1) := by decide +kernel
theorem dX9_digit_12 : decode cX9_digit 12 = .ok (.aload_n 0, 1) := by decide +kernel
theorem dX9_digit_13 : decode cX9_digit 13 = .ok (.dup, 1) := by decide +kernel
theorem dX9_digit_14 : decode cX9_digit 14 = .ok (.getfield 156, 3) := by decide +kernel
theorem dX9_digit_17 : decode cX9_digit 17 = .ok (.iconst 1, 1) := by decide +kernel
theorem dX9_digit_18 : decode cX9_digit 18 = .ok (.iadd, 1) := by decide +kernel
theorem dX9_digit_19 : decode cX9_digit 19 = .ok (.putfield 156, 3) := by decide +kernel
theorem dX9_digit_22 : decode cX9_digit 22 = .ok (.aload_n 0, 1) := by decide +kernel
theorem dX9_digit_23 : decode cX9_digit 23 = .ok (.getfield 22, 3) := by decide +kernel
theorem dX9_digit_26 : decode cX9_digit 26 = .ok (.aload_n 0, 1) := by decide +kernel
theorem dX9_digit_27 : decode cX9_digit 27 = .ok (.getfield 156, 3) := by decide +kernel
theorem dX9_digit_30 : decode cX9_digit 30 = .ok (.iconst 1, 1) := by decide +kernel
theorem dX9_digit_31 : decode cX9_digit 31 = .ok (.isub, 1) := by decide +kernel
theorem dX9_digit_32 : decode cX9_digit 32 = .ok (.caload, 1) := by decide +kernel
theorem dX9_digit_33 : decode cX9_digit 33 = .ok (.bipush 48, 2) := by decide +kernel
theorem dX9_digit_35 : decode cX9_digit 35 = .ok (.isub, 1) := by decide +kernel
theorem dX9_digit_36 : decode cX9_digit 36 = .ok (.ireturn, 1) := by decide +kernel
theorem dX9_number_0 : decode cX9_number 0 = .ok (.aload_n 0, 1) := by decide +kernel
theorem dX9_number_1 : decode cX9_number 1 = .ok (.bipush 48, 2) := by decide +kernel
theorem dX9_number_3 : decode cX9_number 3 = .ok (.bipush 57, 2) := by decide +kernel
theorem dX9_number_5 : decode cX9_number 5 = .ok (.invokevirtual 163, 3) := by decide +kernel
theorem dX9_number_8 : decode cX9_number 8 = .ok (.istore_n 1, 1) := by decide +kernel
theorem dX9_number_9 : decode cX9_number 9 = .ok (.iconst 1, 1) := by decide +kernel
theorem dX9_number_10 : decode cX9_number 10 = .ok (.istore_n 2, 1) := by decide +kernel
theorem dX9_number_11 : decode cX9_number 11 = .ok (.iload_n 2, 1) := by decide +kernel
theorem dX9_number_12 : decode cX9_number 12 = .ok (.iconst 4, 1) := by decide +kernel
theorem dX9_number_13 : decode cX9_number 13 = .ok (.if_icmp .ge 38, 3) := by decide +kernel
theorem dX9_number_16 : decode cX9_number 16 = .ok (.iload_n 1, 1) := by decide +kernel
theorem dX9_number_17 : decode cX9_number 17 = .ok (.ifCond .le 34, 3) := by decide +kernel
theorem dX9_number_20 : decode cX9_number 20 = .ok (.aload_n 0, 1) := by decide +kernel
theorem dX9_number_21 : decode cX9_number 21 = .ok (.bipush 48, 2) := by decide +kernel
theorem dX9_number_23 : decode cX9_number 23 = .ok (.bipush 57, 2) := by decide +kernel
theorem dX9_number_25 : decode cX9_number 25 = .ok (.invokevirtual 159, 3) := by decide +kernel
theorem dX9_number_28 : decode cX9_number 28 = .ok (.ifCond .eq 23, 3) := by decide +kernel
theorem dX9_number_31 : decode cX9_number 31 = .ok (.bipush 10, 2) := by decide +kernel
theorem dX9_number_33 : decode cX9_number 33 = .ok (.iload_n 1, 1) := by decide +kernel
theorem dX9_number_34 : decode cX9_number 34 = .ok (.imul, 1) := by decide +kernel
theorem dX9_number_35 : decode cX9_number 35 = .ok (.aload_n 0, 1) := by decide +kernel
theorem dX9_number_36 : decode cX9_number 36 = .ok (.bipush 48, 2) := by decide +kernel
theorem dX9_number_38 : decode cX9_number 38 = .ok (.bipush 57, 2) := by decide +kernel
theorem dX9_number_40 : decode cX9_number 40 = .ok (.invokevirtual 163, 3) := by decide +kernel
theorem dX9_number_43 : decode cX9_number 43 = .ok (.iadd, 1) := by decide +kernel
theorem dX9_number_44 : decode cX9_number 44 = .ok (.istore_n 1, 1) := by decide +kernel
theorem dX9_number_45 : decode cX9_number 45 = .ok (.iinc 2 1, 3) := by decide +kernel
theorem dX9_number_48 : decode cX9_number 48 = .ok (.goto (-37), 3) := by decide +kernel
theorem dX9_number_51 : decode cX9_number 51 = .ok (.iload_n 1, 1) := by decide +kernel
theorem dX9_number_52 : decode cX9_number 52 = .ok (.ireturn, 1) := by decide +kernel
theorem dX9_readsBoat_0 : decode cX9_readsBoat 0 = .ok (.aload_n 0, 1) := by decide +kernel
theorem dX9_readsBoat_1 : decode cX9_readsBoat 1 = .ok (.invokevirtual 167, 3) := by decide +kernel
theorem dX9_readsBoat_4 : decode cX9_readsBoat 4 = .ok (.istore_n 1, 1) := by decide +kernel
theorem dX9_readsBoat_5 : decode cX9_readsBoat 5 = .ok (.iload_n 1, 1) := by decide +kernel
theorem dX9_readsBoat_6 : decode cX9_readsBoat 6 = .ok (.ifCond .lt 12, 3) := by decide +kernel
theorem dX9_readsBoat_9 : decode cX9_readsBoat 9 = .ok (.aload_n 0, 1) := by decide +kernel
theorem dX9_readsBoat_10 : decode cX9_readsBoat 10 = .ok (.bipush 58, 2) := by decide +kernel
theorem dX9_readsBoat_12 : decode cX9_readsBoat 12 = .ok (.invokevirtual 171, 3) := by decide +kernel
theorem dX9_readsBoat_15 : decode cX9_readsBoat 15 = .ok (.ifCond .ne 5, 3) := by decide +kernel
theorem dX9_readsBoat_18 : decode cX9_readsBoat 18 = .ok (.iconst 0, 1) := by decide +kernel
theorem dX9_readsBoat_19 : decode cX9_readsBoat 19 = .ok (.ireturn, 1) := by decide +kernel
theorem dX9_readsBoat_20 : decode cX9_readsBoat 20 = .ok (.aload_n 0, 1) := by decide +kernel
theorem dX9_readsBoat_21 : decode cX9_readsBoat 21 = .ok (.bipush 48, 2) := by decide +kernel
theorem dX9_readsBoat_23 : decode cX9_readsBoat 23 = .ok (.bipush 50, 2) := by decide +kernel
theorem dX9_readsBoat_25 : decode cX9_readsBoat 25 = .ok (.invokevirtual 163, 3) := by decide +kernel
theorem dX9_readsBoat_28 : decode cX9_readsBoat 28 = .ok (.istore_n 2, 1) := by decide +kernel
theorem dX9_readsBoat_29 : decode cX9_readsBoat 29 = .ok (.iload_n 2, 1) := by decide +kernel
theorem dX9_readsBoat_30 : decode cX9_readsBoat 30 = .ok (.ifCond .lt 12, 3) := by decide +kernel
theorem dX9_readsBoat_33 : decode cX9_readsBoat 33 = .ok (.aload_n 0, 1) := by decide +kernel
theorem dX9_readsBoat_34 : decode cX9_readsBoat 34 = .ok (.bipush 120, 2) := by decide +kernel
theorem dX9_readsBoat_36 : decode cX9_readsBoat 36 = .ok (.invokevirtual 171, 3) := by decide +kernel
theorem dX9_readsBoat_39 : decode cX9_readsBoat 39 = .ok (.ifCond .ne 5, 3) := by decide +kernel
theorem dX9_readsBoat_42 : decode cX9_readsBoat 42 = .ok (.iconst 0, 1) := by decide +kernel
theorem dX9_readsBoat_43 : decode cX9_readsBoat 43 = .ok (.ireturn, 1) := by decide +kernel
theorem dX9_readsBoat_44 : decode cX9_readsBoat 44 = .ok (.aload_n 0, 1) := by decide +kernel
theorem dX9_readsBoat_45 : decode cX9_readsBoat 45 = .ok (.bipush 49, 2) := by decide +kernel
theorem dX9_readsBoat_47 : decode cX9_readsBoat 47 = .ok (.bipush 54, 2) := by decide +kernel
theorem dX9_readsBoat_49 : decode cX9_readsBoat 49 = .ok (.invokevirtual 163, 3) := by decide +kernel
theorem dX9_readsBoat_52 : decode cX9_readsBoat 52 = .ok (.istore_n 3, 1) := by decide +kernel
theorem dX9_readsBoat_53 : decode cX9_readsBoat 53 = .ok (.iload_n 3, 1) := by decide +kernel
theorem dX9_readsBoat_54 : decode cX9_readsBoat 54 = .ok (.ifCond .ge 5, 3) := by decide +kernel
theorem dX9_readsBoat_57 : decode cX9_readsBoat 57 = .ok (.iconst 0, 1) := by decide +kernel
theorem dX9_readsBoat_58 : decode cX9_readsBoat 58 = .ok (.ireturn, 1) := by decide +kernel
theorem dX9_readsBoat_59 : decode cX9_readsBoat 59 = .ok (.aload_n 0, 1) := by decide +kernel
theorem dX9_readsBoat_60 : decode cX9_readsBoat 60 = .ok (.getfield 26, 3) := by decide +kernel
theorem dX9_readsBoat_63 : decode cX9_readsBoat 63 = .ok (.iconst 3, 1) := by decide +kernel
theorem dX9_readsBoat_64 : decode cX9_readsBoat 64 = .ok (.aload_n 0, 1) := by decide +kernel
theorem dX9_readsBoat_65 : decode cX9_readsBoat 65 = .ok (.getfield 175, 3) := by decide +kernel
theorem dX9_readsBoat_68 : decode cX9_readsBoat 68 = .ok (.imul, 1) := by decide +kernel
theorem dX9_readsBoat_69 : decode cX9_readsBoat 69 = .ok (.iload_n 1, 1) := by decide +kernel
theorem dX9_readsBoat_70 : decode cX9_readsBoat 70 = .ok (.iastore, 1) := by decide +kernel
theorem dX9_readsBoat_71 : decode cX9_readsBoat 71 = .ok (.aload_n 0, 1) := by decide +kernel
theorem dX9_readsBoat_72 : decode cX9_readsBoat 72 = .ok (.getfield 26, 3) := by decide +kernel
theorem dX9_readsBoat_75 : decode cX9_readsBoat 75 = .ok (.iconst 3, 1) := by decide +kernel
theorem dX9_readsBoat_76 : decode cX9_readsBoat 76 = .ok (.aload_n 0, 1) := by decide +kernel
theorem dX9_readsBoat_77 : decode cX9_readsBoat 77 = .ok (.getfield 175, 3) := by decide +kernel
theorem dX9_readsBoat_80 : decode cX9_readsBoat 80 = .ok (.imul, 1) := by decide +kernel
theorem dX9_readsBoat_81 : decode cX9_readsBoat 81 = .ok (.iconst 1, 1) := by decide +kernel
theorem dX9_readsBoat_82 : decode cX9_readsBoat 82 = .ok (.iadd, 1) := by decide +kernel
theorem dX9_readsBoat_83 : decode cX9_readsBoat 83 = .ok (.iload_n 2, 1) := by decide +kernel
theorem dX9_readsBoat_84 : decode cX9_readsBoat 84 = .ok (.iastore, 1) := by decide +kernel
theorem dX9_readsBoat_85 : decode cX9_readsBoat 85 = .ok (.aload_n 0, 1) := by decide +kernel
theorem dX9_readsBoat_86 : decode cX9_readsBoat 86 = .ok (.getfield 26, 3) := by decide +kernel
theorem dX9_readsBoat_89 : decode cX9_readsBoat 89 = .ok (.iconst 3, 1) := by decide +kernel
theorem dX9_readsBoat_90 : decode cX9_readsBoat 90 = .ok (.aload_n 0, 1) := by decide +kernel
theorem dX9_readsBoat_91 : decode cX9_readsBoat 91 = .ok (.getfield 175, 3) := by decide +kernel
theorem dX9_readsBoat_94 : decode cX9_readsBoat 94 = .ok (.imul, 1) := by decide +kernel
theorem dX9_readsBoat_95 : decode cX9_readsBoat 95 = .ok (.iconst 2, 1) := by decide +kernel
theorem dX9_readsBoat_96 : decode cX9_readsBoat 96 = .ok (.iadd, 1) := by decide +kernel
theorem dX9_readsBoat_97 : decode cX9_readsBoat 97 = .ok (.iload_n 3, 1) := by decide +kernel
theorem dX9_readsBoat_98 : decode cX9_readsBoat 98 = .ok (.iastore, 1) := by decide +kernel
theorem dX9_readsBoat_99 : decode cX9_readsBoat 99 = .ok (.aload_n 0, 1) := by decide +kernel
theorem dX9_readsBoat_100 : decode cX9_readsBoat 100 = .ok (.dup, 1) := by decide +kernel
theorem dX9_readsBoat_101 : decode cX9_readsBoat 101 = .ok (.getfield 175, 3) := by decide +kernel
theorem dX9_readsBoat_104 : decode cX9_readsBoat 104 = .ok (.iconst 1, 1) := by decide +kernel
theorem dX9_readsBoat_105 : decode cX9_readsBoat 105 = .ok (.iadd, 1) := by decide +kernel
theorem dX9_readsBoat_106 : decode cX9_readsBoat 106 = .ok (.putfield 175, 3) := by decide +kernel
theorem dX9_readsBoat_109 : decode cX9_readsBoat 109 = .ok (.iconst 1, 1) := by decide +kernel
theorem dX9_readsBoat_110 : decode cX9_readsBoat 110 = .ok (.ireturn, 1) := by decide +kernel
theorem dX9_isText_0 : decode cX9_isText 0 = .ok (.aload_n 0, 1) := by decide +kernel
theorem dX9_isText_1 : decode cX9_isText 1 = .ok (.iconst 0, 1) := by decide +kernel
theorem dX9_isText_2 : decode cX9_isText 2 = .ok (.putfield 156, 3) := by decide +kernel
theorem dX9_isText_5 : decode cX9_isText 5 = .ok (.aload_n 0, 1) := by decide +kernel
theorem dX9_isText_6 : decode cX9_isText 6 = .ok (.iconst 0, 1) := by decide +kernel
theorem dX9_isText_7 : decode cX9_isText 7 = .ok (.putfield 175, 3) := by decide +kernel
theorem dX9_isText_10 : decode cX9_isText 10 = .ok (.iconst 1, 1) := by decide +kernel
theorem dX9_isText_11 : decode cX9_isText 11 = .ok (.istore_n 1, 1) := by decide +kernel
theorem dX9_isText_12 : decode cX9_isText 12 = .ok (.iload_n 1, 1) := by decide +kernel
theorem dX9_isText_13 : decode cX9_isText 13 = .ok (.ifCond .eq 22, 3) := by decide +kernel
theorem dX9_isText_16 : decode cX9_isText 16 = .ok (.aload_n 0, 1) := by decide +kernel
theorem dX9_isText_17 : decode cX9_isText 17 = .ok (.invokevirtual 178, 3) := by decide +kernel
theorem dX9_isText_20 : decode cX9_isText 20 = .ok (.ifCond .ne 5, 3) := by decide +kernel
theorem dX9_isText_23 : decode cX9_isText 23 = .ok (.iconst 0, 1) := by decide +kernel
theorem dX9_isText_24 : decode cX9_isText 24 = .ok (.ireturn, 1) := by decide +kernel
theorem dX9_isText_25 : decode cX9_isText 25 = .ok (.aload_n 0, 1) := by decide +kernel
theorem dX9_isText_26 : decode cX9_isText 26 = .ok (.bipush 44, 2) := by decide +kernel
theorem dX9_isText_28 : decode cX9_isText 28 = .ok (.invokevirtual 171, 3) := by decide +kernel
theorem dX9_isText_31 : decode cX9_isText 31 = .ok (.istore_n 1, 1) := by decide +kernel
theorem dX9_isText_32 : decode cX9_isText 32 = .ok (.goto (-20), 3) := by decide +kernel
theorem dX9_isText_35 : decode cX9_isText 35 = .ok (.aload_n 0, 1) := by decide +kernel
theorem dX9_isText_36 : decode cX9_isText 36 = .ok (.getfield 156, 3) := by decide +kernel
theorem dX9_isText_39 : decode cX9_isText 39 = .ok (.aload_n 0, 1) := by decide +kernel
theorem dX9_isText_40 : decode cX9_isText 40 = .ok (.getfield 153, 3) := by decide +kernel
theorem dX9_isText_43 : decode cX9_isText 43 = .ok (.if_icmp .ne 7, 3) := by decide +kernel
theorem dX9_isText_46 : decode cX9_isText 46 = .ok (.iconst 1, 1) := by decide +kernel
theorem dX9_isText_47 : decode cX9_isText 47 = .ok (.goto 4, 3) := by decide +kernel
theorem dX9_isText_50 : decode cX9_isText 50 = .ok (.iconst 0, 1) := by decide +kernel
theorem dX9_isText_51 : decode cX9_isText 51 = .ok (.ireturn, 1) := by decide +kernel
theorem dX9_unlike_0 : decode cX9_unlike 0 = .ok (.iconst 0, 1) := by decide +kernel
theorem dX9_unlike_1 : decode cX9_unlike 1 = .ok (.istore_n 1, 1) := by decide +kernel
theorem dX9_unlike_2 : decode cX9_unlike 2 = .ok (.iconst 0, 1) := by decide +kernel
theorem dX9_unlike_3 : decode cX9_unlike 3 = .ok (.istore_n 2, 1) := by decide +kernel
theorem dX9_unlike_4 : decode cX9_unlike 4 = .ok (.iload_n 2, 1) := by decide +kernel
theorem dX9_unlike_5 : decode cX9_unlike 5 = .ok (.aload_n 0, 1) := by decide +kernel
theorem dX9_unlike_6 : decode cX9_unlike 6 = .ok (.getfield 175, 3) := by decide +kernel
theorem dX9_unlike_9 : decode cX9_unlike 9 = .ok (.if_icmp .ge 68, 3) := by decide +kernel
theorem dX9_unlike_12 : decode cX9_unlike 12 = .ok (.iconst 1, 1) := by decide +kernel
theorem dX9_unlike_13 : decode cX9_unlike 13 = .ok (.istore_n 3, 1) := by decide +kernel
theorem dX9_unlike_14 : decode cX9_unlike 14 = .ok (.iconst 0, 1) := by decide +kernel
theorem dX9_unlike_15 : decode cX9_unlike 15 = .ok (.istore 4, 2) := by decide +kernel
theorem dX9_unlike_17 : decode cX9_unlike 17 = .ok (.iload 4, 2) := by decide +kernel
theorem dX9_unlike_19 : decode cX9_unlike 19 = .ok (.iload_n 2, 1) := by decide +kernel
theorem dX9_unlike_20 : decode cX9_unlike 20 = .ok (.if_icmp .ge 39, 3) := by decide +kernel
theorem dX9_unlike_23 : decode cX9_unlike 23 = .ok (.iload_n 3, 1) := by decide +kernel
theorem dX9_unlike_24 : decode cX9_unlike 24 = .ok (.ifCond .eq 27, 3) := by decide +kernel
theorem dX9_unlike_27 : decode cX9_unlike 27 = .ok (.aload_n 0, 1) := by decide +kernel
theorem dX9_unlike_28 : decode cX9_unlike 28 = .ok (.getfield 26, 3) := by decide +kernel
theorem dX9_unlike_31 : decode cX9_unlike 31 = .ok (.iconst 3, 1) := by decide +kernel
theorem dX9_unlike_32 : decode cX9_unlike 32 = .ok (.iload 4, 2) := by decide +kernel
theorem dX9_unlike_34 : decode cX9_unlike 34 = .ok (.imul, 1) := by decide +kernel
theorem dX9_unlike_35 : decode cX9_unlike 35 = .ok (.iaload, 1) := by decide +kernel
theorem dX9_unlike_36 : decode cX9_unlike 36 = .ok (.aload_n 0, 1) := by decide +kernel
theorem dX9_unlike_37 : decode cX9_unlike 37 = .ok (.getfield 26, 3) := by decide +kernel
theorem dX9_unlike_40 : decode cX9_unlike 40 = .ok (.iconst 3, 1) := by decide +kernel
theorem dX9_unlike_41 : decode cX9_unlike 41 = .ok (.iload_n 2, 1) := by decide +kernel
theorem dX9_unlike_42 : decode cX9_unlike 42 = .ok (.imul, 1) := by decide +kernel
theorem dX9_unlike_43 : decode cX9_unlike 43 = .ok (.iaload, 1) := by decide +kernel
theorem dX9_unlike_44 : decode cX9_unlike 44 = .ok (.if_icmp .eq 7, 3) := by decide +kernel
theorem dX9_unlike_47 : decode cX9_unlike 47 = .ok (.iconst 1, 1) := by decide +kernel
theorem dX9_unlike_48 : decode cX9_unlike 48 = .ok (.goto 4, 3) := by decide +kernel
theorem dX9_unlike_51 : decode cX9_unlike 51 = .ok (.iconst 0, 1) := by decide +kernel
theorem dX9_unlike_52 : decode cX9_unlike 52 = .ok (.istore_n 3, 1) := by decide +kernel
theorem dX9_unlike_53 : decode cX9_unlike 53 = .ok (.iinc 4 1, 3) := by decide +kernel
theorem dX9_unlike_56 : decode cX9_unlike 56 = .ok (.goto (-39), 3) := by decide +kernel
theorem dX9_unlike_59 : decode cX9_unlike 59 = .ok (.iload_n 1, 1) := by decide +kernel
theorem dX9_unlike_60 : decode cX9_unlike 60 = .ok (.iload_n 3, 1) := by decide +kernel
theorem dX9_unlike_61 : decode cX9_unlike 61 = .ok (.ifCond .eq 7, 3) := by decide +kernel
theorem dX9_unlike_64 : decode cX9_unlike 64 = .ok (.iconst 1, 1) := by decide +kernel
theorem dX9_unlike_65 : decode cX9_unlike 65 = .ok (.goto 4, 3) := by decide +kernel
theorem dX9_unlike_68 : decode cX9_unlike 68 = .ok (.iconst 0, 1) := by decide +kernel
theorem dX9_unlike_69 : decode cX9_unlike 69 = .ok (.iadd, 1) := by decide +kernel
theorem dX9_unlike_70 : decode cX9_unlike 70 = .ok (.istore_n 1, 1) := by decide +kernel
theorem dX9_unlike_71 : decode cX9_unlike 71 = .ok (.iinc 2 1, 3) := by decide +kernel
theorem dX9_unlike_74 : decode cX9_unlike 74 = .ok (.goto (-70), 3) := by decide +kernel
theorem dX9_unlike_77 : decode cX9_unlike 77 = .ok (.iload_n 1, 1) := by decide +kernel
theorem dX9_unlike_78 : decode cX9_unlike 78 = .ok (.ireturn, 1) := by decide +kernel
theorem dX9_readPlan_0 : decode cX9_readPlan 0 = .ok (.aload_n 0, 1) := by decide +kernel
theorem dX9_readPlan_1 : decode cX9_readPlan 1 = .ok (.invokevirtual 182, 3) := by decide +kernel
theorem dX9_readPlan_4 : decode cX9_readPlan 4 = .ok (.ifCond .ne 11, 3) := by decide +kernel
theorem dX9_readPlan_7 : decode cX9_readPlan 7 = .ok (.bipush (-100), 2) := by decide +kernel
theorem dX9_readPlan_9 : decode cX9_readPlan 9 = .ok (.aload_n 0, 1) := by decide +kernel
theorem dX9_readPlan_10 : decode cX9_readPlan 10 = .ok (.getfield 156, 3) := by decide +kernel
theorem dX9_readPlan_13 : decode cX9_readPlan 13 = .ok (.isub, 1) := by decide +kernel
theorem dX9_readPlan_14 : decode cX9_readPlan 14 = .ok (.ireturn, 1) := by decide +kernel
theorem dX9_readPlan_15 : decode cX9_readPlan 15 = .ok (.aload_n 0, 1) := by decide +kernel
theorem dX9_readPlan_16 : decode cX9_readPlan 16 = .ok (.invokevirtual 185, 3) := by decide +kernel
theorem dX9_readPlan_19 : decode cX9_readPlan 19 = .ok (.bipush 10, 2) := by decide +kernel
theorem dX9_readPlan_21 : decode cX9_readPlan 21 = .ok (.if_icmp .le 6, 3) := by decide +kernel
theorem dX9_readPlan_24 : decode cX9_readPlan 24 = .ok (.bipush (-3), 2) := by decide +kernel
theorem dX9_readPlan_26 : decode cX9_readPlan 26 = .ok (.ireturn, 1) := by decide +kernel
theorem dX9_readPlan_27 : decode cX9_readPlan 27 = .ok (.aload_n 0, 1) := by decide +kernel
theorem dX9_readPlan_28 : decode cX9_readPlan 28 = .ok (.invokevirtual 49, 3) := by decide +kernel
theorem dX9_readPlan_31 : decode cX9_readPlan 31 = .ok (.aload_n 0, 1) := by decide +kernel
theorem dX9_readPlan_32 : decode cX9_readPlan 32 = .ok (.getfield 7, 3) := by decide +kernel
theorem dX9_readPlan_35 : decode cX9_readPlan 35 = .ok (.bipush 49, 2) := by decide +kernel
theorem dX9_readPlan_37 : decode cX9_readPlan 37 = .ok (.iconst 0, 1) := by decide +kernel
theorem dX9_readPlan_38 : decode cX9_readPlan 38 = .ok (.iastore, 1) := by decide +kernel
theorem dX9_readPlan_39 : decode cX9_readPlan 39 = .ok (.iconst 0, 1) := by decide +kernel
theorem dX9_readPlan_40 : decode cX9_readPlan 40 = .ok (.istore_n 1, 1) := by decide +kernel
theorem dX9_readPlan_41 : decode cX9_readPlan 41 = .ok (.iload_n 1, 1) := by decide +kernel
theorem dX9_readPlan_42 : decode cX9_readPlan 42 = .ok (.aload_n 0, 1) := by decide +kernel
theorem dX9_readPlan_43 : decode cX9_readPlan 43 = .ok (.getfield 175, 3) := by decide +kernel
theorem dX9_readPlan_46 : decode cX9_readPlan 46 = .ok (.if_icmp .ge 41, 3) := by decide +kernel
theorem dX9_readPlan_49 : decode cX9_readPlan 49 = .ok (.aload_n 0, 1) := by decide +kernel
theorem dX9_readPlan_50 : decode cX9_readPlan 50 = .ok (.aload_n 0, 1) := by decide +kernel
theorem dX9_readPlan_51 : decode cX9_readPlan 51 = .ok (.getfield 26, 3) := by decide +kernel
theorem dX9_readPlan_54 : decode cX9_readPlan 54 = .ok (.iconst 3, 1) := by decide +kernel
theorem dX9_readPlan_55 : decode cX9_readPlan 55 = .ok (.iload_n 1, 1) := by decide +kernel
theorem dX9_readPlan_56 : decode cX9_readPlan 56 = .ok (.imul, 1) := by decide +kernel
theorem dX9_readPlan_57 : decode cX9_readPlan 57 = .ok (.iaload, 1) := by decide +kernel
theorem dX9_readPlan_58 : decode cX9_readPlan 58 = .ok (.aload_n 0, 1) := by decide +kernel
theorem dX9_readPlan_59 : decode cX9_readPlan 59 = .ok (.getfield 26, 3) := by decide +kernel
theorem dX9_readPlan_62 : decode cX9_readPlan 62 = .ok (.iconst 3, 1) := by decide +kernel
theorem dX9_readPlan_63 : decode cX9_readPlan 63 = .ok (.iload_n 1, 1) := by decide +kernel
theorem dX9_readPlan_64 : decode cX9_readPlan 64 = .ok (.imul, 1) := by decide +kernel
theorem dX9_readPlan_65 : decode cX9_readPlan 65 = .ok (.iconst 1, 1) := by decide +kernel
theorem dX9_readPlan_66 : decode cX9_readPlan 66 = .ok (.iadd, 1) := by decide +kernel
theorem dX9_readPlan_67 : decode cX9_readPlan 67 = .ok (.iaload, 1) := by decide +kernel
theorem dX9_readPlan_68 : decode cX9_readPlan 68 = .ok (.aload_n 0, 1) := by decide +kernel
theorem dX9_readPlan_69 : decode cX9_readPlan 69 = .ok (.getfield 26, 3) := by decide +kernel
theorem dX9_readPlan_72 : decode cX9_readPlan 72 = .ok (.iconst 3, 1) := by decide +kernel
theorem dX9_readPlan_73 : decode cX9_readPlan 73 = .ok (.iload_n 1, 1) := by decide +kernel
theorem dX9_readPlan_74 : decode cX9_readPlan 74 = .ok (.imul, 1) := by decide +kernel
theorem dX9_readPlan_75 : decode cX9_readPlan 75 = .ok (.iconst 2, 1) := by decide +kernel
theorem dX9_readPlan_76 : decode cX9_readPlan 76 = .ok (.iadd, 1) := by decide +kernel
theorem dX9_readPlan_77 : decode cX9_readPlan 77 = .ok (.iaload, 1) := by decide +kernel
theorem dX9_readPlan_78 : decode cX9_readPlan 78 = .ok (.invokevirtual 144, 3) := by decide +kernel
theorem dX9_readPlan_81 : decode cX9_readPlan 81 = .ok (.iinc 1 1, 3) := by decide +kernel
theorem dX9_readPlan_84 : decode cX9_readPlan 84 = .ok (.goto (-43), 3) := by decide +kernel
theorem dX9_readPlan_87 : decode cX9_readPlan 87 = .ok (.aload_n 0, 1) := by decide +kernel
theorem dX9_readPlan_88 : decode cX9_readPlan 88 = .ok (.getfield 7, 3) := by decide +kernel
theorem dX9_readPlan_91 : decode cX9_readPlan 91 = .ok (.bipush 49, 2) := by decide +kernel
theorem dX9_readPlan_93 : decode cX9_readPlan 93 = .ok (.iaload, 1) := by decide +kernel
theorem dX9_readPlan_94 : decode cX9_readPlan 94 = .ok (.ireturn, 1) := by decide +kernel
theorem dX9_lamp_0 : decode cX9_lamp 0 = .ok (.iload_n 1, 1) := by decide +kernel
theorem dX9_lamp_1 : decode cX9_lamp 1 = .ok (.invokestatic 130, 3) := by decide +kernel
theorem dX9_lamp_4 : decode cX9_lamp 4 = .ok (.ifCond .ne 5, 3) := by decide +kernel
theorem dX9_lamp_7 : decode cX9_lamp 7 = .ok (.iconst (-1), 1) := by decide +kernel
theorem dX9_lamp_8 : decode cX9_lamp 8 = .ok (.ireturn, 1) := by decide +kernel
theorem dX9_lamp_9 : decode cX9_lamp 9 = .ok (.iload_n 2, 1) := by decide +kernel
theorem dX9_lamp_10 : decode cX9_lamp 10 = .ok (.iconst 0, 1) := by decide +kernel
theorem dX9_lamp_11 : decode cX9_lamp 11 = .ok (.bipush 7, 2) := by decide +kernel
theorem dX9_lamp_13 : decode cX9_lamp 13 = .ok (.invokestatic 33, 3) := by decide +kernel
theorem dX9_lamp_16 : decode cX9_lamp 16 = .ok (.ifCond .ne 6, 3) := by decide +kernel
theorem dX9_lamp_19 : decode cX9_lamp 19 = .ok (.bipush (-2), 2) := by decide +kernel
theorem dX9_lamp_21 : decode cX9_lamp 21 = .ok (.ireturn, 1) := by decide +kernel
theorem dX9_lamp_22 : decode cX9_lamp 22 = .ok (.aload_n 0, 1) := by decide +kernel
theorem dX9_lamp_23 : decode cX9_lamp 23 = .ok (.getfield 7, 3) := by decide +kernel
theorem dX9_lamp_26 : decode cX9_lamp 26 = .ok (.iload_n 1, 1) := by decide +kernel
theorem dX9_lamp_27 : decode cX9_lamp 27 = .ok (.invokestatic 78, 3) := by decide +kernel
theorem dX9_lamp_30 : decode cX9_lamp 30 = .ok (.ifCond .ne 6, 3) := by decide +kernel
theorem dX9_lamp_33 : decode cX9_lamp 33 = .ok (.bipush (-5), 2) := by decide +kernel
theorem dX9_lamp_35 : decode cX9_lamp 35 = .ok (.ireturn, 1) := by decide +kernel
theorem dX9_lamp_36 : decode cX9_lamp 36 = .ok (.iload_n 2, 1) := by decide +kernel
theorem dX9_lamp_37 : decode cX9_lamp 37 = .ok (.tableswitch 90 3 7 #[35, 44, 53, 63, 80], 35) := by decide +kernel
theorem dX9_lamp_72 : decode cX9_lamp 72 = .ok (.aload_n 0, 1) := by decide +kernel
theorem dX9_lamp_73 : decode cX9_lamp 73 = .ok (.getfield 7, 3) := by decide +kernel
theorem dX9_lamp_76 : decode cX9_lamp 76 = .ok (.iload_n 1, 1) := by decide +kernel
theorem dX9_lamp_77 : decode cX9_lamp 77 = .ok (.invokestatic 64, 3) := by decide +kernel
theorem dX9_lamp_80 : decode cX9_lamp 80 = .ok (.ireturn, 1) := by decide +kernel
theorem dX9_lamp_81 : decode cX9_lamp 81 = .ok (.aload_n 0, 1) := by decide +kernel
theorem dX9_lamp_82 : decode cX9_lamp 82 = .ok (.getfield 7, 3) := by decide +kernel
theorem dX9_lamp_85 : decode cX9_lamp 85 = .ok (.iload_n 1, 1) := by decide +kernel
theorem dX9_lamp_86 : decode cX9_lamp 86 = .ok (.invokestatic 75, 3) := by decide +kernel
theorem dX9_lamp_89 : decode cX9_lamp 89 = .ok (.ireturn, 1) := by decide +kernel
theorem dX9_lamp_90 : decode cX9_lamp 90 = .ok (.aload_n 0, 1) := by decide +kernel
theorem dX9_lamp_91 : decode cX9_lamp 91 = .ok (.getfield 7, 3) := by decide +kernel
theorem dX9_lamp_94 : decode cX9_lamp 94 = .ok (.iload_n 1, 1) := by decide +kernel
theorem dX9_lamp_95 : decode cX9_lamp 95 = .ok (.iconst 3, 1) := by decide +kernel
theorem dX9_lamp_96 : decode cX9_lamp 96 = .ok (.invokestatic 56, 3) := by decide +kernel
theorem dX9_lamp_99 : decode cX9_lamp 99 = .ok (.ireturn, 1) := by decide +kernel
theorem dX9_lamp_100 : decode cX9_lamp 100 = .ok (.aload_n 0, 1) := by decide +kernel
theorem dX9_lamp_101 : decode cX9_lamp 101 = .ok (.getfield 7, 3) := by decide +kernel
theorem dX9_lamp_104 : decode cX9_lamp 104 = .ok (.iload_n 1, 1) := by decide +kernel
theorem dX9_lamp_105 : decode cX9_lamp 105 = .ok (.invokestatic 71, 3) := by decide +kernel
theorem dX9_lamp_108 : decode cX9_lamp 108 = .ok (.ifCond .eq 7, 3) := by decide +kernel
theorem dX9_lamp_111 : decode cX9_lamp 111 = .ok (.iconst 1, 1) := by decide +kernel
theorem dX9_lamp_112 : decode cX9_lamp 112 = .ok (.goto 4, 3) := by decide +kernel
theorem dX9_lamp_115 : decode cX9_lamp 115 = .ok (.iconst 0, 1) := by decide +kernel
theorem dX9_lamp_116 : decode cX9_lamp 116 = .ok (.ireturn, 1) := by decide +kernel
theorem dX9_lamp_117 : decode cX9_lamp 117 = .ok (.aload_n 0, 1) := by decide +kernel
theorem dX9_lamp_118 : decode cX9_lamp 118 = .ok (.getfield 7, 3) := by decide +kernel
theorem dX9_lamp_121 : decode cX9_lamp 121 = .ok (.iload_n 1, 1) := by decide +kernel
theorem dX9_lamp_122 : decode cX9_lamp 122 = .ok (.iconst 4, 1) := by decide +kernel
theorem dX9_lamp_123 : decode cX9_lamp 123 = .ok (.invokestatic 56, 3) := by decide +kernel
theorem dX9_lamp_126 : decode cX9_lamp 126 = .ok (.ireturn, 1) := by decide +kernel
theorem dX9_lamp_127 : decode cX9_lamp 127 = .ok (.aload_n 0, 1) := by decide +kernel
theorem dX9_lamp_128 : decode cX9_lamp 128 = .ok (.getfield 7, 3) := by decide +kernel
theorem dX9_lamp_131 : decode cX9_lamp 131 = .ok (.iload_n 1, 1) := by decide +kernel
theorem dX9_lamp_132 : decode cX9_lamp 132 = .ok (.iload_n 2, 1) := by decide +kernel
theorem dX9_lamp_133 : decode cX9_lamp 133 = .ok (.invokestatic 56, 3) := by decide +kernel
theorem dX9_lamp_136 : decode cX9_lamp 136 = .ok (.ireturn, 1) := by decide +kernel
theorem dX9_wheel_0 : decode cX9_wheel 0 = .ok (.iload_n 1, 1) := by decide +kernel
theorem dX9_wheel_1 : decode cX9_wheel 1 = .ok (.tableswitch 133 0 7 #[47, 55, 63, 87, 95, 111, 119, 126], 47) := by decide +kernel
theorem dX9_wheel_48 : decode cX9_wheel 48 = .ok (.aload_n 0, 1) := by decide +kernel
theorem dX9_wheel_49 : decode cX9_wheel 49 = .ok (.getfield 7, 3) := by decide +kernel
theorem dX9_wheel_52 : decode cX9_wheel 52 = .ok (.bipush 7, 2) := by decide +kernel
theorem dX9_wheel_54 : decode cX9_wheel 54 = .ok (.iaload, 1) := by decide +kernel
theorem dX9_wheel_55 : decode cX9_wheel 55 = .ok (.ireturn, 1) := by decide +kernel
theorem dX9_wheel_56 : decode cX9_wheel 56 = .ok (.aload_n 0, 1) := by decide +kernel
theorem dX9_wheel_57 : decode cX9_wheel 57 = .ok (.getfield 7, 3) := by decide +kernel
theorem dX9_wheel_60 : decode cX9_wheel 60 = .ok (.bipush 8, 2) := by decide +kernel
theorem dX9_wheel_62 : decode cX9_wheel 62 = .ok (.iaload, 1) := by decide +kernel
theorem dX9_wheel_63 : decode cX9_wheel 63 = .ok (.ireturn, 1) := by decide +kernel
theorem dX9_wheel_64 : decode cX9_wheel 64 = .ok (.aload_n 0, 1) := by decide +kernel
theorem dX9_wheel_65 : decode cX9_wheel 65 = .ok (.getfield 7, 3) := by decide +kernel
theorem dX9_wheel_68 : decode cX9_wheel 68 = .ok (.bipush 8, 2) := by decide +kernel
theorem dX9_wheel_70 : decode cX9_wheel 70 = .ok (.iaload, 1) := by decide +kernel
theorem dX9_wheel_71 : decode cX9_wheel 71 = .ok (.bipush (-5), 2) := by decide +kernel
theorem dX9_wheel_73 : decode cX9_wheel 73 = .ok (.if_icmp .ne 7, 3) := by decide +kernel
theorem dX9_wheel_76 : decode cX9_wheel 76 = .ok (.iconst 0, 1) := by decide +kernel
theorem dX9_wheel_77 : decode cX9_wheel 77 = .ok (.goto 10, 3) := by decide +kernel
theorem dX9_wheel_80 : decode cX9_wheel 80 = .ok (.aload_n 0, 1) := by decide +kernel
theorem dX9_wheel_81 : decode cX9_wheel 81 = .ok (.getfield 7, 3) := by decide +kernel
theorem dX9_wheel_84 : decode cX9_wheel 84 = .ok (.bipush 9, 2) := by decide +kernel
theorem dX9_wheel_86 : decode cX9_wheel 86 = .ok (.iaload, 1) := by decide +kernel
theorem dX9_wheel_87 : decode cX9_wheel 87 = .ok (.ireturn, 1) := by decide +kernel
theorem dX9_wheel_88 : decode cX9_wheel 88 = .ok (.aload_n 0, 1) := by decide +kernel
theorem dX9_wheel_89 : decode cX9_wheel 89 = .ok (.getfield 7, 3) := by decide +kernel
theorem dX9_wheel_92 : decode cX9_wheel 92 = .ok (.bipush 10, 2) := by decide +kernel
theorem dX9_wheel_94 : decode cX9_wheel 94 = .ok (.iaload, 1) := by decide +kernel
theorem dX9_wheel_95 : decode cX9_wheel 95 = .ok (.ireturn, 1) := by decide +kernel
theorem dX9_wheel_96 : decode cX9_wheel 96 = .ok (.aload_n 0, 1) := by decide +kernel
theorem dX9_wheel_97 : decode cX9_wheel 97 = .ok (.getfield 7, 3) := by decide +kernel
theorem dX9_wheel_100 : decode cX9_wheel 100 = .ok (.invokestatic 112, 3) := by decide +kernel
theorem dX9_wheel_103 : decode cX9_wheel 103 = .ok (.ifCond .eq 7, 3) := by decide +kernel
theorem dX9_wheel_106 : decode cX9_wheel 106 = .ok (.iconst 1, 1) := by decide +kernel
theorem dX9_wheel_107 : decode cX9_wheel 107 = .ok (.goto 4, 3) := by decide +kernel
theorem dX9_wheel_110 : decode cX9_wheel 110 = .ok (.iconst 0, 1) := by decide +kernel
theorem dX9_wheel_111 : decode cX9_wheel 111 = .ok (.ireturn, 1) := by decide +kernel
theorem dX9_wheel_112 : decode cX9_wheel 112 = .ok (.aload_n 0, 1) := by decide +kernel
theorem dX9_wheel_113 : decode cX9_wheel 113 = .ok (.getfield 7, 3) := by decide +kernel
theorem dX9_wheel_116 : decode cX9_wheel 116 = .ok (.invokestatic 96, 3) := by decide +kernel
theorem dX9_wheel_119 : decode cX9_wheel 119 = .ok (.ireturn, 1) := by decide +kernel
theorem dX9_wheel_120 : decode cX9_wheel 120 = .ok (.aload_n 0, 1) := by decide +kernel
theorem dX9_wheel_121 : decode cX9_wheel 121 = .ok (.getfield 7, 3) := by decide +kernel
theorem dX9_wheel_124 : decode cX9_wheel 124 = .ok (.iconst 1, 1) := by decide +kernel
theorem dX9_wheel_125 : decode cX9_wheel 125 = .ok (.iaload, 1) := by decide +kernel
theorem dX9_wheel_126 : decode cX9_wheel 126 = .ok (.ireturn, 1) := by decide +kernel
theorem dX9_wheel_127 : decode cX9_wheel 127 = .ok (.aload_n 0, 1) := by decide +kernel
theorem dX9_wheel_128 : decode cX9_wheel 128 = .ok (.getfield 7, 3) := by decide +kernel
theorem dX9_wheel_131 : decode cX9_wheel 131 = .ok (.iconst 2, 1) := by decide +kernel
theorem dX9_wheel_132 : decode cX9_wheel 132 = .ok (.iaload, 1) := by decide +kernel
theorem dX9_wheel_133 : decode cX9_wheel 133 = .ok (.ireturn, 1) := by decide +kernel
theorem dX9_wheel_134 : decode cX9_wheel 134 = .ok (.bipush (-2), 2) := by decide +kernel
theorem dX9_wheel_136 : decode cX9_wheel 136 = .ok (.ireturn, 1) := by decide +kernel
theorem dX9_tiredIn_0 : decode cX9_tiredIn 0 = .ok (.iload_n 1, 1) := by decide +kernel
theorem dX9_tiredIn_1 : decode cX9_tiredIn 1 = .ok (.invokestatic 130, 3) := by decide +kernel
theorem dX9_tiredIn_4 : decode cX9_tiredIn 4 = .ok (.ifCond .ne 5, 3) := by decide +kernel
theorem dX9_tiredIn_7 : decode cX9_tiredIn 7 = .ok (.iconst (-1), 1) := by decide +kernel
theorem dX9_tiredIn_8 : decode cX9_tiredIn 8 = .ok (.ireturn, 1) := by decide +kernel
theorem dX9_tiredIn_9 : decode cX9_tiredIn 9 = .ok (.aload_n 0, 1) := by decide +kernel
theorem dX9_tiredIn_10 : decode cX9_tiredIn 10 = .ok (.getfield 7, 3) := by decide +kernel
theorem dX9_tiredIn_13 : decode cX9_tiredIn 13 = .ok (.iload_n 1, 1) := by decide +kernel
theorem dX9_tiredIn_14 : decode cX9_tiredIn 14 = .ok (.iconst 0, 1) := by decide +kernel
theorem dX9_tiredIn_15 : decode cX9_tiredIn 15 = .ok (.invokestatic 81, 3) := by decide +kernel
theorem dX9_tiredIn_18 : decode cX9_tiredIn 18 = .ok (.ifCond .ne 6, 3) := by decide +kernel
theorem dX9_tiredIn_21 : decode cX9_tiredIn 21 = .ok (.bipush (-4), 2) := by decide +kernel
theorem dX9_tiredIn_23 : decode cX9_tiredIn 23 = .ok (.ireturn, 1) := by decide +kernel
theorem dX9_tiredIn_24 : decode cX9_tiredIn 24 = .ok (.aload_n 0, 1) := by decide +kernel
theorem dX9_tiredIn_25 : decode cX9_tiredIn 25 = .ok (.getfield 7, 3) := by decide +kernel
theorem dX9_tiredIn_28 : decode cX9_tiredIn 28 = .ok (.iconst 0, 1) := by decide +kernel
theorem dX9_tiredIn_29 : decode cX9_tiredIn 29 = .ok (.aload_n 0, 1) := by decide +kernel
theorem dX9_tiredIn_30 : decode cX9_tiredIn 30 = .ok (.getfield 13, 3) := by decide +kernel
theorem dX9_tiredIn_33 : decode cX9_tiredIn 33 = .ok (.iconst 0, 1) := by decide +kernel
theorem dX9_tiredIn_34 : decode cX9_tiredIn 34 = .ok (.invokestatic 41, 3) := by decide +kernel
theorem dX9_tiredIn_37 : decode cX9_tiredIn 37 = .ok (.iconst 0, 1) := by decide +kernel
theorem dX9_tiredIn_38 : decode cX9_tiredIn 38 = .ok (.istore_n 2, 1) := by decide +kernel
theorem dX9_tiredIn_39 : decode cX9_tiredIn 39 = .ok (.aload_n 0, 1) := by decide +kernel
theorem dX9_tiredIn_40 : decode cX9_tiredIn 40 = .ok (.getfield 13, 3) := by decide +kernel
theorem dX9_tiredIn_43 : decode cX9_tiredIn 43 = .ok (.iload_n 1, 1) := by decide +kernel
theorem dX9_tiredIn_44 : decode cX9_tiredIn 44 = .ok (.iconst 3, 1) := by decide +kernel
theorem dX9_tiredIn_45 : decode cX9_tiredIn 45 = .ok (.invokestatic 56, 3) := by decide +kernel
theorem dX9_tiredIn_48 : decode cX9_tiredIn 48 = .ok (.ifCond .ne 28, 3) := by decide +kernel
theorem dX9_tiredIn_51 : decode cX9_tiredIn 51 = .ok (.aload_n 0, 1) := by decide +kernel
theorem dX9_tiredIn_52 : decode cX9_tiredIn 52 = .ok (.getfield 13, 3) := by decide +kernel
theorem dX9_tiredIn_55 : decode cX9_tiredIn 55 = .ok (.iload_n 1, 1) := by decide +kernel
theorem dX9_tiredIn_56 : decode cX9_tiredIn 56 = .ok (.invokestatic 71, 3) := by decide +kernel
theorem dX9_tiredIn_59 : decode cX9_tiredIn 59 = .ok (.ifCond .ne 17, 3) := by decide +kernel
theorem dX9_tiredIn_62 : decode cX9_tiredIn 62 = .ok (.aload_n 0, 1) := by decide +kernel
theorem dX9_tiredIn_63 : decode cX9_tiredIn 63 = .ok (.getfield 13, 3) := by decide +kernel
theorem dX9_tiredIn_66 : decode cX9_tiredIn 66 = .ok (.iload_n 1, 1) := by decide +kernel
theorem dX9_tiredIn_67 : decode cX9_tiredIn 67 = .ok (.invokestatic 103, 3) := by decide +kernel
theorem dX9_tiredIn_70 : decode cX9_tiredIn 70 = .ok (.iinc 2 1, 3) := by decide +kernel
theorem dX9_tiredIn_73 : decode cX9_tiredIn 73 = .ok (.goto (-34), 3) := by decide +kernel
theorem dX9_tiredIn_76 : decode cX9_tiredIn 76 = .ok (.aload_n 0, 1) := by decide +kernel
theorem dX9_tiredIn_77 : decode cX9_tiredIn 77 = .ok (.getfield 13, 3) := by decide +kernel
theorem dX9_tiredIn_80 : decode cX9_tiredIn 80 = .ok (.iload_n 1, 1) := by decide +kernel
theorem dX9_tiredIn_81 : decode cX9_tiredIn 81 = .ok (.iconst 3, 1) := by decide +kernel
theorem dX9_tiredIn_82 : decode cX9_tiredIn 82 = .ok (.invokestatic 56, 3) := by decide +kernel
theorem dX9_tiredIn_85 : decode cX9_tiredIn 85 = .ok (.iconst 1, 1) := by decide +kernel
theorem dX9_tiredIn_86 : decode cX9_tiredIn 86 = .ok (.if_icmp .ne 7, 3) := by decide +kernel
theorem dX9_tiredIn_89 : decode cX9_tiredIn 89 = .ok (.iload_n 2, 1) := by decide +kernel
theorem dX9_tiredIn_90 : decode cX9_tiredIn 90 = .ok (.goto 5, 3) := by decide +kernel
theorem dX9_tiredIn_93 : decode cX9_tiredIn 93 = .ok (.bipush (-5), 2) := by decide +kernel
theorem dX9_tiredIn_95 : decode cX9_tiredIn 95 = .ok (.ireturn, 1) := by decide +kernel
theorem dX9_darkIn_0 : decode cX9_darkIn 0 = .ok (.aload_n 0, 1) := by decide +kernel
theorem dX9_darkIn_1 : decode cX9_darkIn 1 = .ok (.getfield 7, 3) := by decide +kernel
theorem dX9_darkIn_4 : decode cX9_darkIn 4 = .ok (.iconst 0, 1) := by decide +kernel
theorem dX9_darkIn_5 : decode cX9_darkIn 5 = .ok (.aload_n 0, 1) := by decide +kernel
theorem dX9_darkIn_6 : decode cX9_darkIn 6 = .ok (.getfield 13, 3) := by decide +kernel
theorem dX9_darkIn_9 : decode cX9_darkIn 9 = .ok (.iconst 0, 1) := by decide +kernel
theorem dX9_darkIn_10 : decode cX9_darkIn 10 = .ok (.invokestatic 41, 3) := by decide +kernel
theorem dX9_darkIn_13 : decode cX9_darkIn 13 = .ok (.iconst 0, 1) := by decide +kernel
theorem dX9_darkIn_14 : decode cX9_darkIn 14 = .ok (.istore_n 1, 1) := by decide +kernel
theorem dX9_darkIn_15 : decode cX9_darkIn 15 = .ok (.iload_n 1, 1) := by decide +kernel
theorem dX9_darkIn_16 : decode cX9_darkIn 16 = .ok (.sipush 3000, 3) := by decide +kernel
theorem dX9_darkIn_19 : decode cX9_darkIn 19 = .ok (.if_icmp .gt 22, 3) := by decide +kernel
theorem dX9_darkIn_22 : decode cX9_darkIn 22 = .ok (.aload_n 0, 1) := by decide +kernel
theorem dX9_darkIn_23 : decode cX9_darkIn 23 = .ok (.getfield 13, 3) := by decide +kernel
theorem dX9_darkIn_26 : decode cX9_darkIn 26 = .ok (.iconst 0, 1) := by decide +kernel
theorem dX9_darkIn_27 : decode cX9_darkIn 27 = .ok (.invokestatic 149, 3) := by decide +kernel
theorem dX9_darkIn_30 : decode cX9_darkIn 30 = .ok (.ifCond .eq 5, 3) := by decide +kernel
theorem dX9_darkIn_33 : decode cX9_darkIn 33 = .ok (.iload_n 1, 1) := by decide +kernel
theorem dX9_darkIn_34 : decode cX9_darkIn 34 = .ok (.ireturn, 1) := by decide +kernel
theorem dX9_darkIn_35 : decode cX9_darkIn 35 = .ok (.iinc 1 1, 3) := by decide +kernel
theorem dX9_darkIn_38 : decode cX9_darkIn 38 = .ok (.goto (-23), 3) := by decide +kernel
theorem dX9_darkIn_41 : decode cX9_darkIn 41 = .ok (.bipush (-5), 2) := by decide +kernel
theorem dX9_darkIn_43 : decode cX9_darkIn 43 = .ok (.ireturn, 1) := by decide +kernel
theorem dX9_left_0 : decode cX9_left 0 = .ok (.aload_n 0, 1) := by decide +kernel
theorem dX9_left_1 : decode cX9_left 1 = .ok (.getfield 7, 3) := by decide +kernel
theorem dX9_left_4 : decode cX9_left 4 = .ok (.iload_n 1, 1) := by decide +kernel
theorem dX9_left_5 : decode cX9_left 5 = .ok (.invokestatic 64, 3) := by decide +kernel
theorem dX9_left_8 : decode cX9_left 8 = .ok (.aload_n 0, 1) := by decide +kernel
theorem dX9_left_9 : decode cX9_left 9 = .ok (.getfield 7, 3) := by decide +kernel
theorem dX9_left_12 : decode cX9_left 12 = .ok (.iload_n 1, 1) := by decide +kernel
theorem dX9_left_13 : decode cX9_left 13 = .ok (.iconst 2, 1) := by decide +kernel
theorem dX9_left_14 : decode cX9_left 14 = .ok (.invokestatic 56, 3) := by decide +kernel
theorem dX9_left_17 : decode cX9_left 17 = .ok (.isub, 1) := by decide +kernel
theorem dX9_left_18 : decode cX9_left 18 = .ok (.ireturn, 1) := by decide +kernel
theorem dX9_ranked_0 : decode cX9_ranked 0 = .ok (.iload_n 1, 1) := by decide +kernel
theorem dX9_ranked_1 : decode cX9_ranked 1 = .ok (.ifCond .ge 6, 3) := by decide +kernel
theorem dX9_ranked_4 : decode cX9_ranked 4 = .ok (.bipush (-2), 2) := by decide +kernel
theorem dX9_ranked_6 : decode cX9_ranked 6 = .ok (.ireturn, 1) := by decide +kernel
theorem dX9_ranked_7 : decode cX9_ranked 7 = .ok (.iconst 0, 1) := by decide +kernel
theorem dX9_ranked_8 : decode cX9_ranked 8 = .ok (.istore_n 2, 1) := by decide +kernel
theorem dX9_ranked_9 : decode cX9_ranked 9 = .ok (.iload_n 2, 1) := by decide +kernel
theorem dX9_ranked_10 : decode cX9_ranked 10 = .ok (.bipush 6, 2) := by decide +kernel
theorem dX9_ranked_12 : decode cX9_ranked 12 = .ok (.if_icmp .ge 125, 3) := by decide +kernel
theorem dX9_ranked_15 : decode cX9_ranked 15 = .ok (.iconst 0, 1) := by decide +kernel
theorem dX9_ranked_16 : decode cX9_ranked 16 = .ok (.istore_n 3, 1) := by decide +kernel
theorem dX9_ranked_17 : decode cX9_ranked 17 = .ok (.iconst 0, 1) := by decide +kernel
theorem dX9_ranked_18 : decode cX9_ranked 18 = .ok (.istore 4, 2) := by decide +kernel
theorem dX9_ranked_20 : decode cX9_ranked 20 = .ok (.iload 4, 2) := by decide +kernel
theorem dX9_ranked_22 : decode cX9_ranked 22 = .ok (.bipush 6, 2) := by decide +kernel
theorem dX9_ranked_24 : decode cX9_ranked 24 = .ok (.if_icmp .ge 88, 3) := by decide +kernel
theorem dX9_ranked_27 : decode cX9_ranked 27 = .ok (.aload_n 0, 1) := by decide +kernel
theorem dX9_ranked_28 : decode cX9_ranked 28 = .ok (.getfield 7, 3) := by decide +kernel
theorem dX9_ranked_31 : decode cX9_ranked 31 = .ok (.iload_n 2, 1) := by decide +kernel
theorem dX9_ranked_32 : decode cX9_ranked 32 = .ok (.iconst 0, 1) := by decide +kernel
theorem dX9_ranked_33 : decode cX9_ranked 33 = .ok (.invokestatic 81, 3) := by decide +kernel
theorem dX9_ranked_36 : decode cX9_ranked 36 = .ok (.ifCond .eq 76, 3) := by decide +kernel
theorem dX9_ranked_39 : decode cX9_ranked 39 = .ok (.aload_n 0, 1) := by decide +kernel
theorem dX9_ranked_40 : decode cX9_ranked 40 = .ok (.getfield 7, 3) := by decide +kernel
theorem dX9_ranked_43 : decode cX9_ranked 43 = .ok (.iload 4, 2) := by decide +kernel
theorem dX9_ranked_45 : decode cX9_ranked 45 = .ok (.iconst 0, 1) := by decide +kernel
theorem dX9_ranked_46 : decode cX9_ranked 46 = .ok (.invokestatic 81, 3) := by decide +kernel
theorem dX9_ranked_49 : decode cX9_ranked 49 = .ok (.ifCond .eq 41, 3) := by decide +kernel
theorem dX9_ranked_52 : decode cX9_ranked 52 = .ok (.aload_n 0, 1) := by decide +kernel
theorem dX9_ranked_53 : decode cX9_ranked 53 = .ok (.iload 4, 2) := by decide +kernel
theorem dX9_ranked_55 : decode cX9_ranked 55 = .ok (.invokevirtual 188, 3) := by decide +kernel
theorem dX9_ranked_58 : decode cX9_ranked 58 = .ok (.aload_n 0, 1) := by decide +kernel
theorem dX9_ranked_59 : decode cX9_ranked 59 = .ok (.iload_n 2, 1) := by decide +kernel
theorem dX9_ranked_60 : decode cX9_ranked 60 = .ok (.invokevirtual 188, 3) := by decide +kernel
theorem dX9_ranked_63 : decode cX9_ranked 63 = .ok (.if_icmp .gt 23, 3) := by decide +kernel
theorem dX9_ranked_66 : decode cX9_ranked 66 = .ok (.aload_n 0, 1) := by decide +kernel
theorem dX9_ranked_67 : decode cX9_ranked 67 = .ok (.iload 4, 2) := by decide +kernel
theorem dX9_ranked_69 : decode cX9_ranked 69 = .ok (.invokevirtual 188, 3) := by decide +kernel
theorem dX9_ranked_72 : decode cX9_ranked 72 = .ok (.aload_n 0, 1) := by decide +kernel
theorem dX9_ranked_73 : decode cX9_ranked 73 = .ok (.iload_n 2, 1) := by decide +kernel
theorem dX9_ranked_74 : decode cX9_ranked 74 = .ok (.invokevirtual 188, 3) := by decide +kernel
theorem dX9_ranked_77 : decode cX9_ranked 77 = .ok (.if_icmp .ne 13, 3) := by decide +kernel
theorem dX9_ranked_80 : decode cX9_ranked 80 = .ok (.iload 4, 2) := by decide +kernel
theorem dX9_ranked_82 : decode cX9_ranked 82 = .ok (.iload_n 2, 1) := by decide +kernel
theorem dX9_ranked_83 : decode cX9_ranked 83 = .ok (.if_icmp .ge 7, 3) := by decide +kernel
theorem dX9_ranked_86 : decode cX9_ranked 86 = .ok (.iconst 1, 1) := by decide +kernel
theorem dX9_ranked_87 : decode cX9_ranked 87 = .ok (.goto 4, 3) := by decide +kernel
theorem dX9_ranked_90 : decode cX9_ranked 90 = .ok (.iconst 0, 1) := by decide +kernel
theorem dX9_ranked_91 : decode cX9_ranked 91 = .ok (.istore 5, 2) := by decide +kernel
theorem dX9_ranked_93 : decode cX9_ranked 93 = .ok (.iload_n 3, 1) := by decide +kernel
theorem dX9_ranked_94 : decode cX9_ranked 94 = .ok (.iload 5, 2) := by decide +kernel
theorem dX9_ranked_96 : decode cX9_ranked 96 = .ok (.ifCond .eq 7, 3) := by decide +kernel
theorem dX9_ranked_99 : decode cX9_ranked 99 = .ok (.iconst 1, 1) := by decide +kernel
theorem dX9_ranked_100 : decode cX9_ranked 100 = .ok (.goto 4, 3) := by decide +kernel
theorem dX9_ranked_103 : decode cX9_ranked 103 = .ok (.iconst 0, 1) := by decide +kernel
theorem dX9_ranked_104 : decode cX9_ranked 104 = .ok (.iadd, 1) := by decide +kernel
theorem dX9_ranked_105 : decode cX9_ranked 105 = .ok (.istore_n 3, 1) := by decide +kernel
theorem dX9_ranked_106 : decode cX9_ranked 106 = .ok (.iinc 4 1, 3) := by decide +kernel
theorem dX9_ranked_109 : decode cX9_ranked 109 = .ok (.goto (-89), 3) := by decide +kernel
theorem dX9_ranked_112 : decode cX9_ranked 112 = .ok (.aload_n 0, 1) := by decide +kernel
theorem dX9_ranked_113 : decode cX9_ranked 113 = .ok (.getfield 7, 3) := by decide +kernel
theorem dX9_ranked_116 : decode cX9_ranked 116 = .ok (.iload_n 2, 1) := by decide +kernel
theorem dX9_ranked_117 : decode cX9_ranked 117 = .ok (.iconst 0, 1) := by decide +kernel
theorem dX9_ranked_118 : decode cX9_ranked 118 = .ok (.invokestatic 81, 3) := by decide +kernel
theorem dX9_ranked_121 : decode cX9_ranked 121 = .ok (.ifCond .eq 10, 3) := by decide +kernel
theorem dX9_ranked_124 : decode cX9_ranked 124 = .ok (.iload_n 3, 1) := by decide +kernel
theorem dX9_ranked_125 : decode cX9_ranked 125 = .ok (.iload_n 1, 1) := by decide +kernel
theorem dX9_ranked_126 : decode cX9_ranked 126 = .ok (.if_icmp .ne 5, 3) := by decide +kernel
theorem dX9_ranked_129 : decode cX9_ranked 129 = .ok (.iload_n 2, 1) := by decide +kernel
theorem dX9_ranked_130 : decode cX9_ranked 130 = .ok (.ireturn, 1) := by decide +kernel
theorem dX9_ranked_131 : decode cX9_ranked 131 = .ok (.iinc 2 1, 3) := by decide +kernel
theorem dX9_ranked_134 : decode cX9_ranked 134 = .ok (.goto (-125), 3) := by decide +kernel
theorem dX9_ranked_137 : decode cX9_ranked 137 = .ok (.bipush (-5), 2) := by decide +kernel
theorem dX9_ranked_139 : decode cX9_ranked 139 = .ok (.ireturn, 1) := by decide +kernel
theorem dX9_planned_0 : decode cX9_planned 0 = .ok (.iload_n 1, 1) := by decide +kernel
theorem dX9_planned_1 : decode cX9_planned 1 = .ok (.ifCond .lt 12, 3) := by decide +kernel
theorem dX9_planned_4 : decode cX9_planned 4 = .ok (.iload_n 2, 1) := by decide +kernel
theorem dX9_planned_5 : decode cX9_planned 5 = .ok (.iconst 0, 1) := by decide +kernel
theorem dX9_planned_6 : decode cX9_planned 6 = .ok (.iconst 2, 1) := by decide +kernel
theorem dX9_planned_7 : decode cX9_planned 7 = .ok (.invokestatic 33, 3) := by decide +kernel
theorem dX9_planned_10 : decode cX9_planned 10 = .ok (.ifCond .ne 6, 3) := by decide +kernel
theorem dX9_planned_13 : decode cX9_planned 13 = .ok (.bipush (-2), 2) := by decide +kernel
theorem dX9_planned_15 : decode cX9_planned 15 = .ok (.ireturn, 1) := by decide +kernel
theorem dX9_planned_16 : decode cX9_planned 16 = .ok (.iload_n 1, 1) := by decide +kernel
theorem dX9_planned_17 : decode cX9_planned 17 = .ok (.aload_n 0, 1) := by decide +kernel
theorem dX9_planned_18 : decode cX9_planned 18 = .ok (.getfield 7, 3) := by decide +kernel
theorem dX9_planned_21 : decode cX9_planned 21 = .ok (.bipush 49, 2) := by decide +kernel
theorem dX9_planned_23 : decode cX9_planned 23 = .ok (.iaload, 1) := by decide +kernel
theorem dX9_planned_24 : decode cX9_planned 24 = .ok (.if_icmp .ge 19, 3) := by decide +kernel
theorem dX9_planned_27 : decode cX9_planned 27 = .ok (.aload_n 0, 1) := by decide +kernel
theorem dX9_planned_28 : decode cX9_planned 28 = .ok (.getfield 7, 3) := by decide +kernel
theorem dX9_planned_31 : decode cX9_planned 31 = .ok (.bipush 50, 2) := by decide +kernel
theorem dX9_planned_33 : decode cX9_planned 33 = .ok (.iconst 3, 1) := by decide +kernel
theorem dX9_planned_34 : decode cX9_planned 34 = .ok (.iload_n 1, 1) := by decide +kernel
theorem dX9_planned_35 : decode cX9_planned 35 = .ok (.imul, 1) := by decide +kernel
theorem dX9_planned_36 : decode cX9_planned 36 = .ok (.iadd, 1) := by decide +kernel
theorem dX9_planned_37 : decode cX9_planned 37 = .ok (.iload_n 2, 1) := by decide +kernel
theorem dX9_planned_38 : decode cX9_planned 38 = .ok (.iadd, 1) := by decide +kernel
theorem dX9_planned_39 : decode cX9_planned 39 = .ok (.iaload, 1) := by decide +kernel
theorem dX9_planned_40 : decode cX9_planned 40 = .ok (.goto 5, 3) := by decide +kernel
theorem dX9_planned_43 : decode cX9_planned 43 = .ok (.bipush (-5), 2) := by decide +kernel
theorem dX9_planned_45 : decode cX9_planned 45 = .ok (.ireturn, 1) := by decide +kernel
theorem dX9_event_0 : decode cX9_event 0 = .ok (.iload_n 1, 1) := by decide +kernel
theorem dX9_event_1 : decode cX9_event 1 = .ok (.ifCond .lt 12, 3) := by decide +kernel
theorem dX9_event_4 : decode cX9_event 4 = .ok (.iload_n 2, 1) := by decide +kernel
theorem dX9_event_5 : decode cX9_event 5 = .ok (.iconst 0, 1) := by decide +kernel
theorem dX9_event_6 : decode cX9_event 6 = .ok (.iconst 2, 1) := by decide +kernel
theorem dX9_event_7 : decode cX9_event 7 = .ok (.invokestatic 33, 3) := by decide +kernel
theorem dX9_event_10 : decode cX9_event 10 = .ok (.ifCond .ne 6, 3) := by decide +kernel
theorem dX9_event_13 : decode cX9_event 13 = .ok (.bipush (-2), 2) := by decide +kernel
theorem dX9_event_15 : decode cX9_event 15 = .ok (.ireturn, 1) := by decide +kernel
theorem dX9_event_16 : decode cX9_event 16 = .ok (.iload_n 1, 1) := by decide +kernel
theorem dX9_event_17 : decode cX9_event 17 = .ok (.aload_n 0, 1) := by decide +kernel
theorem dX9_event_18 : decode cX9_event 18 = .ok (.getfield 7, 3) := by decide +kernel
theorem dX9_event_21 : decode cX9_event 21 = .ok (.bipush 80, 2) := by decide +kernel
theorem dX9_event_23 : decode cX9_event 23 = .ok (.iaload, 1) := by decide +kernel
theorem dX9_event_24 : decode cX9_event 24 = .ok (.if_icmp .ge 29, 3) := by decide +kernel
theorem dX9_event_27 : decode cX9_event 27 = .ok (.aload_n 0, 1) := by decide +kernel
theorem dX9_event_28 : decode cX9_event 28 = .ok (.getfield 7, 3) := by decide +kernel
theorem dX9_event_31 : decode cX9_event 31 = .ok (.bipush 81, 2) := by decide +kernel
theorem dX9_event_33 : decode cX9_event 33 = .ok (.iconst 3, 1) := by decide +kernel
theorem dX9_event_34 : decode cX9_event 34 = .ok (.aload_n 0, 1) := by decide +kernel
theorem dX9_event_35 : decode cX9_event 35 = .ok (.getfield 7, 3) := by decide +kernel
theorem dX9_event_38 : decode cX9_event 38 = .ok (.bipush 80, 2) := by decide +kernel
theorem dX9_event_40 : decode cX9_event 40 = .ok (.iaload, 1) := by decide +kernel
theorem dX9_event_41 : decode cX9_event 41 = .ok (.iconst 1, 1) := by decide +kernel
theorem dX9_event_42 : decode cX9_event 42 = .ok (.isub, 1) := by decide +kernel
theorem dX9_event_43 : decode cX9_event 43 = .ok (.iload_n 1, 1) := by decide +kernel
theorem dX9_event_44 : decode cX9_event 44 = .ok (.isub, 1) := by decide +kernel
theorem dX9_event_45 : decode cX9_event 45 = .ok (.imul, 1) := by decide +kernel
theorem dX9_event_46 : decode cX9_event 46 = .ok (.iadd, 1) := by decide +kernel
theorem dX9_event_47 : decode cX9_event 47 = .ok (.iload_n 2, 1) := by decide +kernel
theorem dX9_event_48 : decode cX9_event 48 = .ok (.iadd, 1) := by decide +kernel
theorem dX9_event_49 : decode cX9_event 49 = .ok (.iaload, 1) := by decide +kernel
theorem dX9_event_50 : decode cX9_event 50 = .ok (.goto 5, 3) := by decide +kernel
theorem dX9_event_53 : decode cX9_event 53 = .ok (.bipush (-5), 2) := by decide +kernel
theorem dX9_event_55 : decode cX9_event 55 = .ok (.ireturn, 1) := by decide +kernel
theorem dX9_lamps_0 : decode cX9_lamps 0 = .ok (.iconst 0, 1) := by decide +kernel
theorem dX9_lamps_1 : decode cX9_lamps 1 = .ok (.istore_n 2, 1) := by decide +kernel
theorem dX9_lamps_2 : decode cX9_lamps 2 = .ok (.iconst 0, 1) := by decide +kernel
theorem dX9_lamps_3 : decode cX9_lamps 3 = .ok (.istore_n 3, 1) := by decide +kernel
theorem dX9_lamps_4 : decode cX9_lamps 4 = .ok (.iload_n 3, 1) := by decide +kernel
theorem dX9_lamps_5 : decode cX9_lamps 5 = .ok (.bipush 6, 2) := by decide +kernel
theorem dX9_lamps_7 : decode cX9_lamps 7 = .ok (.if_icmp .ge 88, 3) := by decide +kernel
theorem dX9_lamps_10 : decode cX9_lamps 10 = .ok (.aload_n 0, 1) := by decide +kernel
theorem dX9_lamps_11 : decode cX9_lamps 11 = .ok (.getfield 7, 3) := by decide +kernel
theorem dX9_lamps_14 : decode cX9_lamps 14 = .ok (.iload_n 3, 1) := by decide +kernel
theorem dX9_lamps_15 : decode cX9_lamps 15 = .ok (.invokestatic 78, 3) := by decide +kernel
theorem dX9_lamps_18 : decode cX9_lamps 18 = .ok (.ifCond .eq 55, 3) := by decide +kernel
theorem dX9_lamps_21 : decode cX9_lamps 21 = .ok (.iload_n 1, 1) := by decide +kernel
theorem dX9_lamps_22 : decode cX9_lamps 22 = .ok (.iconst 1, 1) := by decide +kernel
theorem dX9_lamps_23 : decode cX9_lamps 23 = .ok (.if_icmp .eq 46, 3) := by decide +kernel
theorem dX9_lamps_26 : decode cX9_lamps 26 = .ok (.iload_n 1, 1) := by decide +kernel
theorem dX9_lamps_27 : decode cX9_lamps 27 = .ok (.iconst 2, 1) := by decide +kernel
theorem dX9_lamps_28 : decode cX9_lamps 28 = .ok (.if_icmp .ne 17, 3) := by decide +kernel
theorem dX9_lamps_31 : decode cX9_lamps 31 = .ok (.aload_n 0, 1) := by decide +kernel
theorem dX9_lamps_32 : decode cX9_lamps 32 = .ok (.getfield 7, 3) := by decide +kernel
theorem dX9_lamps_35 : decode cX9_lamps 35 = .ok (.iload_n 3, 1) := by decide +kernel
theorem dX9_lamps_36 : decode cX9_lamps 36 = .ok (.invokestatic 71, 3) := by decide +kernel
theorem dX9_lamps_39 : decode cX9_lamps 39 = .ok (.ifCond .eq 34, 3) := by decide +kernel
theorem dX9_lamps_42 : decode cX9_lamps 42 = .ok (.goto 27, 3) := by decide +kernel
theorem dX9_lamps_45 : decode cX9_lamps 45 = .ok (.aload_n 0, 1) := by decide +kernel
theorem dX9_lamps_46 : decode cX9_lamps 46 = .ok (.getfield 7, 3) := by decide +kernel
theorem dX9_lamps_49 : decode cX9_lamps 49 = .ok (.iload_n 3, 1) := by decide +kernel
theorem dX9_lamps_50 : decode cX9_lamps 50 = .ok (.iconst 3, 1) := by decide +kernel
theorem dX9_lamps_51 : decode cX9_lamps 51 = .ok (.invokestatic 56, 3) := by decide +kernel
theorem dX9_lamps_54 : decode cX9_lamps 54 = .ok (.iconst 1, 1) := by decide +kernel
theorem dX9_lamps_55 : decode cX9_lamps 55 = .ok (.if_icmp .ne 18, 3) := by decide +kernel
theorem dX9_lamps_58 : decode cX9_lamps 58 = .ok (.aload_n 0, 1) := by decide +kernel
theorem dX9_lamps_59 : decode cX9_lamps 59 = .ok (.getfield 7, 3) := by decide +kernel
theorem dX9_lamps_62 : decode cX9_lamps 62 = .ok (.iload_n 3, 1) := by decide +kernel
theorem dX9_lamps_63 : decode cX9_lamps 63 = .ok (.invokestatic 71, 3) := by decide +kernel
theorem dX9_lamps_66 : decode cX9_lamps 66 = .ok (.ifCond .ne 7, 3) := by decide +kernel
theorem dX9_lamps_69 : decode cX9_lamps 69 = .ok (.iconst 1, 1) := by decide +kernel
theorem dX9_lamps_70 : decode cX9_lamps 70 = .ok (.goto 4, 3) := by decide +kernel
theorem dX9_lamps_73 : decode cX9_lamps 73 = .ok (.iconst 0, 1) := by decide +kernel
theorem dX9_lamps_74 : decode cX9_lamps 74 = .ok (.istore 4, 2) := by decide +kernel
theorem dX9_lamps_76 : decode cX9_lamps 76 = .ok (.iload_n 2, 1) := by decide +kernel
theorem dX9_lamps_77 : decode cX9_lamps 77 = .ok (.iload 4, 2) := by decide +kernel
theorem dX9_lamps_79 : decode cX9_lamps 79 = .ok (.ifCond .eq 7, 3) := by decide +kernel
theorem dX9_lamps_82 : decode cX9_lamps 82 = .ok (.iconst 1, 1) := by decide +kernel
theorem dX9_lamps_83 : decode cX9_lamps 83 = .ok (.goto 4, 3) := by decide +kernel
theorem dX9_lamps_86 : decode cX9_lamps 86 = .ok (.iconst 0, 1) := by decide +kernel
theorem dX9_lamps_87 : decode cX9_lamps 87 = .ok (.iadd, 1) := by decide +kernel
theorem dX9_lamps_88 : decode cX9_lamps 88 = .ok (.istore_n 2, 1) := by decide +kernel
theorem dX9_lamps_89 : decode cX9_lamps 89 = .ok (.iinc 3 1, 3) := by decide +kernel
theorem dX9_lamps_92 : decode cX9_lamps 92 = .ok (.goto (-88), 3) := by decide +kernel
theorem dX9_lamps_95 : decode cX9_lamps 95 = .ok (.iload_n 2, 1) := by decide +kernel
theorem dX9_lamps_96 : decode cX9_lamps 96 = .ok (.ireturn, 1) := by decide +kernel
theorem dX9_count_0 : decode cX9_count 0 = .ok (.iload_n 1, 1) := by decide +kernel
theorem dX9_count_1 : decode cX9_count 1 = .ok (.tableswitch 146 0 13 #[71, 78, 78, 78, 84, 84, 84, 96, 104, 112, 120, 128, 136, 141], 71) := by decide +kernel
theorem dX9_count_72 : decode cX9_count 72 = .ok (.aload_n 0, 1) := by decide +kernel
theorem dX9_count_73 : decode cX9_count 73 = .ok (.getfield 7, 3) := by decide +kernel
theorem dX9_count_76 : decode cX9_count 76 = .ok (.iconst 0, 1) := by decide +kernel
theorem dX9_count_77 : decode cX9_count 77 = .ok (.iaload, 1) := by decide +kernel
theorem dX9_count_78 : decode cX9_count 78 = .ok (.ireturn, 1) := by decide +kernel
theorem dX9_count_79 : decode cX9_count 79 = .ok (.aload_n 0, 1) := by decide +kernel
theorem dX9_count_80 : decode cX9_count 80 = .ok (.iload_n 1, 1) := by decide +kernel
theorem dX9_count_81 : decode cX9_count 81 = .ok (.invokevirtual 191, 3) := by decide +kernel
theorem dX9_count_84 : decode cX9_count 84 = .ok (.ireturn, 1) := by decide +kernel
theorem dX9_count_85 : decode cX9_count 85 = .ok (.aload_n 0, 1) := by decide +kernel
theorem dX9_count_86 : decode cX9_count 86 = .ok (.getfield 7, 3) := by decide +kernel
theorem dX9_count_89 : decode cX9_count 89 = .ok (.bipush 41, 2) := by decide +kernel
theorem dX9_count_91 : decode cX9_count 91 = .ok (.iload_n 1, 1) := by decide +kernel
theorem dX9_count_92 : decode cX9_count 92 = .ok (.iadd, 1) := by decide +kernel
theorem dX9_count_93 : decode cX9_count 93 = .ok (.iconst 4, 1) := by decide +kernel
theorem dX9_count_94 : decode cX9_count 94 = .ok (.isub, 1) := by decide +kernel
theorem dX9_count_95 : decode cX9_count 95 = .ok (.iaload, 1) := by decide +kernel
theorem dX9_count_96 : decode cX9_count 96 = .ok (.ireturn, 1) := by decide +kernel
theorem dX9_count_97 : decode cX9_count 97 = .ok (.aload_n 0, 1) := by decide +kernel
theorem dX9_count_98 : decode cX9_count 98 = .ok (.getfield 7, 3) := by decide +kernel
theorem dX9_count_101 : decode cX9_count 101 = .ok (.bipush 44, 2) := by decide +kernel
theorem dX9_count_103 : decode cX9_count 103 = .ok (.iaload, 1) := by decide +kernel
theorem dX9_count_104 : decode cX9_count 104 = .ok (.ireturn, 1) := by decide +kernel
theorem dX9_count_105 : decode cX9_count 105 = .ok (.aload_n 0, 1) := by decide +kernel
theorem dX9_count_106 : decode cX9_count 106 = .ok (.getfield 7, 3) := by decide +kernel
theorem dX9_count_109 : decode cX9_count 109 = .ok (.bipush 46, 2) := by decide +kernel
theorem dX9_count_111 : decode cX9_count 111 = .ok (.iaload, 1) := by decide +kernel
theorem dX9_count_112 : decode cX9_count 112 = .ok (.ireturn, 1) := by decide +kernel
theorem dX9_count_113 : decode cX9_count 113 = .ok (.aload_n 0, 1) := by decide +kernel
theorem dX9_count_114 : decode cX9_count 114 = .ok (.getfield 7, 3) := by decide +kernel
theorem dX9_count_117 : decode cX9_count 117 = .ok (.bipush 47, 2) := by decide +kernel
theorem dX9_count_119 : decode cX9_count 119 = .ok (.iaload, 1) := by decide +kernel
theorem dX9_count_120 : decode cX9_count 120 = .ok (.ireturn, 1) := by decide +kernel
theorem dX9_count_121 : decode cX9_count 121 = .ok (.aload_n 0, 1) := by decide +kernel
theorem dX9_count_122 : decode cX9_count 122 = .ok (.getfield 7, 3) := by decide +kernel
theorem dX9_count_125 : decode cX9_count 125 = .ok (.bipush 48, 2) := by decide +kernel
theorem dX9_count_127 : decode cX9_count 127 = .ok (.iaload, 1) := by decide +kernel
theorem dX9_count_128 : decode cX9_count 128 = .ok (.ireturn, 1) := by decide +kernel
theorem dX9_count_129 : decode cX9_count 129 = .ok (.aload_n 0, 1) := by decide +kernel
theorem dX9_count_130 : decode cX9_count 130 = .ok (.getfield 7, 3) := by decide +kernel
theorem dX9_count_133 : decode cX9_count 133 = .ok (.bipush 49, 2) := by decide +kernel
theorem dX9_count_135 : decode cX9_count 135 = .ok (.iaload, 1) := by decide +kernel
theorem dX9_count_136 : decode cX9_count 136 = .ok (.ireturn, 1) := by decide +kernel
theorem dX9_count_137 : decode cX9_count 137 = .ok (.aload_n 0, 1) := by decide +kernel
theorem dX9_count_138 : decode cX9_count 138 = .ok (.getfield 37, 3) := by decide +kernel
theorem dX9_count_141 : decode cX9_count 141 = .ok (.ireturn, 1) := by decide +kernel
theorem dX9_count_142 : decode cX9_count 142 = .ok (.aload_n 0, 1) := by decide +kernel
theorem dX9_count_143 : decode cX9_count 143 = .ok (.getfield 153, 3) := by decide +kernel
theorem dX9_count_146 : decode cX9_count 146 = .ok (.ireturn, 1) := by decide +kernel
theorem dX9_count_147 : decode cX9_count 147 = .ok (.bipush (-2), 2) := by decide +kernel
theorem dX9_count_149 : decode cX9_count 149 = .ok (.ireturn, 1) := by decide +kernel
theorem dX9_setting_0 : decode cX9_setting 0 = .ok (.iload_n 1, 1) := by decide +kernel
theorem dX9_setting_1 : decode cX9_setting 1 = .ok (.iconst 0, 1) := by decide +kernel
theorem dX9_setting_2 : decode cX9_setting 2 = .ok (.iconst 3, 1) := by decide +kernel
theorem dX9_setting_3 : decode cX9_setting 3 = .ok (.invokestatic 33, 3) := by decide +kernel
theorem dX9_setting_6 : decode cX9_setting 6 = .ok (.ifCond .eq 14, 3) := by decide +kernel
theorem dX9_setting_9 : decode cX9_setting 9 = .ok (.aload_n 0, 1) := by decide +kernel
theorem dX9_setting_10 : decode cX9_setting 10 = .ok (.getfield 7, 3) := by decide +kernel
theorem dX9_setting_13 : decode cX9_setting 13 = .ok (.iconst 3, 1) := by decide +kernel
theorem dX9_setting_14 : decode cX9_setting 14 = .ok (.iload_n 1, 1) := by decide +kernel
theorem dX9_setting_15 : decode cX9_setting 15 = .ok (.iadd, 1) := by decide +kernel
theorem dX9_setting_16 : decode cX9_setting 16 = .ok (.iaload, 1) := by decide +kernel
theorem dX9_setting_17 : decode cX9_setting 17 = .ok (.goto 4, 3) := by decide +kernel
theorem dX9_setting_20 : decode cX9_setting 20 = .ok (.iconst (-1), 1) := by decide +kernel
theorem dX9_setting_21 : decode cX9_setting 21 = .ok (.ireturn, 1) := by decide +kernel
theorem dJ9_floorMod_7cf53_0 : decode cJ9_floorMod_7cf53 0 = .ok (.iload_n 0, 1) := by decide +kernel
theorem dJ9_floorMod_7cf53_1 : decode cJ9_floorMod_7cf53 1 = .ok (.iload_n 1, 1) := by decide +kernel
theorem dJ9_floorMod_7cf53_2 : decode cJ9_floorMod_7cf53 2 = .ok (.irem, 1) := by decide +kernel
theorem dJ9_floorMod_7cf53_3 : decode cJ9_floorMod_7cf53 3 = .ok (.istore_n 2, 1) := by decide +kernel
theorem dJ9_floorMod_7cf53_4 : decode cJ9_floorMod_7cf53 4 = .ok (.iload_n 0, 1) := by decide +kernel
theorem dJ9_floorMod_7cf53_5 : decode cJ9_floorMod_7cf53 5 = .ok (.iload_n 1, 1) := by decide +kernel
theorem dJ9_floorMod_7cf53_6 : decode cJ9_floorMod_7cf53 6 = .ok (.ixor, 1) := by decide +kernel
theorem dJ9_floorMod_7cf53_7 : decode cJ9_floorMod_7cf53 7 = .ok (.ifCond .ge 11, 3) := by decide +kernel
theorem dJ9_floorMod_7cf53_10 : decode cJ9_floorMod_7cf53 10 = .ok (.iload_n 2, 1) := by decide +kernel
theorem dJ9_floorMod_7cf53_11 : decode cJ9_floorMod_7cf53 11 = .ok (.ifCond .eq 7, 3) := by decide +kernel
theorem dJ9_floorMod_7cf53_14 : decode cJ9_floorMod_7cf53 14 = .ok (.iload_n 2, 1) := by decide +kernel
theorem dJ9_floorMod_7cf53_15 : decode cJ9_floorMod_7cf53 15 = .ok (.iload_n 1, 1) := by decide +kernel
theorem dJ9_floorMod_7cf53_16 : decode cJ9_floorMod_7cf53 16 = .ok (.iadd, 1) := by decide +kernel
theorem dJ9_floorMod_7cf53_17 : decode cJ9_floorMod_7cf53 17 = .ok (.ireturn, 1) := by decide +kernel
theorem dJ9_floorMod_7cf53_18 : decode cJ9_floorMod_7cf53 18 = .ok (.iload_n 2, 1) := by decide +kernel
theorem dJ9_floorMod_7cf53_19 : decode cJ9_floorMod_7cf53 19 = .ok (.ireturn, 1) := by decide +kernel
theorem dJ9_max_7cf53_0 : decode cJ9_max_7cf53 0 = .ok (.iload_n 0, 1) := by decide +kernel
theorem dJ9_max_7cf53_1 : decode cJ9_max_7cf53 1 = .ok (.iload_n 1, 1) := by decide +kernel
theorem dJ9_max_7cf53_2 : decode cJ9_max_7cf53 2 = .ok (.if_icmp .lt 7, 3) := by decide +kernel
theorem dJ9_max_7cf53_5 : decode cJ9_max_7cf53 5 = .ok (.iload_n 0, 1) := by decide +kernel
theorem dJ9_max_7cf53_6 : decode cJ9_max_7cf53 6 = .ok (.goto 4, 3) := by decide +kernel
theorem dJ9_max_7cf53_9 : decode cJ9_max_7cf53 9 = .ok (.iload_n 1, 1) := by decide +kernel
theorem dJ9_max_7cf53_10 : decode cJ9_max_7cf53 10 = .ok (.ireturn, 1) := by decide +kernel
theorem dJ9_min_7cf53_0 : decode cJ9_min_7cf53 0 = .ok (.iload_n 0, 1) := by decide +kernel
theorem dJ9_min_7cf53_1 : decode cJ9_min_7cf53 1 = .ok (.iload_n 1, 1) := by decide +kernel
theorem dJ9_min_7cf53_2 : decode cJ9_min_7cf53 2 = .ok (.if_icmp .gt 7, 3) := by decide +kernel
theorem dJ9_min_7cf53_5 : decode cJ9_min_7cf53 5 = .ok (.iload_n 0, 1) := by decide +kernel
theorem dJ9_min_7cf53_6 : decode cJ9_min_7cf53 6 = .ok (.goto 4, 3) := by decide +kernel
theorem dJ9_min_7cf53_9 : decode cJ9_min_7cf53 9 = .ok (.iload_n 1, 1) := by decide +kernel
theorem dJ9_min_7cf53_10 : decode cJ9_min_7cf53 10 = .ok (.ireturn, 1) := by decide +kernel
theorem dL_law_0 : decode cL_law 0 = .ok (.new 7, 3) := by decide +kernel
theorem dL_law_3 : decode cL_law 3 = .ok (.dup, 1) := by decide +kernel
theorem dL_law_4 : decode cL_law 4 = .ok (.invokespecial 9, 3) := by decide +kernel
theorem dL_law_7 : decode cL_law 7 = .ok (.astore_n 1, 1) := by decide +kernel
theorem dL_law_8 : decode cL_law 8 = .ok (.new 10, 3) := by decide +kernel
theorem dL_law_11 : decode cL_law 11 = .ok (.dup, 1) := by decide +kernel
theorem dL_law_12 : decode cL_law 12 = .ok (.invokespecial 12, 3) := by decide +kernel
theorem dL_law_15 : decode cL_law 15 = .ok (.astore_n 2, 1) := by decide +kernel
theorem dL_law_16 : decode cL_law 16 = .ok (.iconst 0, 1) := by decide +kernel
theorem dL_law_17 : decode cL_law 17 = .ok (.istore_n 3, 1) := by decide +kernel
theorem dL_law_18 : decode cL_law 18 = .ok (.iload_n 3, 1) := by decide +kernel
theorem dL_law_19 : decode cL_law 19 = .ok (.aload_n 0, 1) := by decide +kernel
theorem dL_law_20 : decode cL_law 20 = .ok (.arraylength, 1) := by decide +kernel
theorem dL_law_21 : decode cL_law 21 = .ok (.iconst 4, 1) := by decide +kernel
theorem dL_law_22 : decode cL_law 22 = .ok (.isub, 1) := by decide +kernel
theorem dL_law_23 : decode cL_law 23 = .ok (.if_icmp .gt 694, 3) := by decide +kernel
theorem dL_law_26 : decode cL_law 26 = .ok (.aload_n 0, 1) := by decide +kernel
theorem dL_law_27 : decode cL_law 27 = .ok (.iload_n 3, 1) := by decide +kernel
theorem dL_law_28 : decode cL_law 28 = .ok (.iaload, 1) := by decide +kernel
theorem dL_law_29 : decode cL_law 29 = .ok (.bipush 31, 2) := by decide +kernel
theorem dL_law_31 : decode cL_law 31 = .ok (.iand, 1) := by decide +kernel
theorem dL_law_32 : decode cL_law 32 = .ok (.tableswitch 679 0 22 #[108, 141, 174, 217, 240, 263, 296, 339, 352, 375, 400, 413, 426, 439, 452, 485, 508, 531, 544, 567, 600, 633, 656], 108) := by decide +kernel
theorem dL_law_140 : decode cL_law 140 = .ok (.aload_n 1, 1) := by decide +kernel
theorem dL_law_141 : decode cL_law 141 = .ok (.aload_n 0, 1) := by decide +kernel
theorem dL_law_142 : decode cL_law 142 = .ok (.iload_n 3, 1) := by decide +kernel
theorem dL_law_143 : decode cL_law 143 = .ok (.iconst 1, 1) := by decide +kernel
theorem dL_law_144 : decode cL_law 144 = .ok (.iadd, 1) := by decide +kernel
theorem dL_law_145 : decode cL_law 145 = .ok (.iaload, 1) := by decide +kernel
theorem dL_law_146 : decode cL_law 146 = .ok (.aload_n 0, 1) := by decide +kernel
theorem dL_law_147 : decode cL_law 147 = .ok (.iload_n 3, 1) := by decide +kernel
theorem dL_law_148 : decode cL_law 148 = .ok (.iconst 2, 1) := by decide +kernel
theorem dL_law_149 : decode cL_law 149 = .ok (.iadd, 1) := by decide +kernel
theorem dL_law_150 : decode cL_law 150 = .ok (.iaload, 1) := by decide +kernel
theorem dL_law_151 : decode cL_law 151 = .ok (.invokevirtual 13, 3) := by decide +kernel
theorem dL_law_154 : decode cL_law 154 = .ok (.aload_n 2, 1) := by decide +kernel
theorem dL_law_155 : decode cL_law 155 = .ok (.aload_n 0, 1) := by decide +kernel
theorem dL_law_156 : decode cL_law 156 = .ok (.iload_n 3, 1) := by decide +kernel
theorem dL_law_157 : decode cL_law 157 = .ok (.iconst 1, 1) := by decide +kernel
theorem dL_law_158 : decode cL_law 158 = .ok (.iadd, 1) := by decide +kernel
theorem dL_law_159 : decode cL_law 159 = .ok (.iaload, 1) := by decide +kernel
theorem dL_law_160 : decode cL_law 160 = .ok (.aload_n 0, 1) := by decide +kernel
theorem dL_law_161 : decode cL_law 161 = .ok (.iload_n 3, 1) := by decide +kernel
theorem dL_law_162 : decode cL_law 162 = .ok (.iconst 2, 1) := by decide +kernel
theorem dL_law_163 : decode cL_law 163 = .ok (.iadd, 1) := by decide +kernel
theorem dL_law_164 : decode cL_law 164 = .ok (.iaload, 1) := by decide +kernel
theorem dL_law_165 : decode cL_law 165 = .ok (.invokevirtual 17, 3) := by decide +kernel
theorem dL_law_168 : decode cL_law 168 = .ok (.if_icmp .eq 543, 3) := by decide +kernel
theorem dL_law_171 : decode cL_law 171 = .ok (.iconst 0, 1) := by decide +kernel
theorem dL_law_172 : decode cL_law 172 = .ok (.ireturn, 1) := by decide +kernel
theorem dL_law_173 : decode cL_law 173 = .ok (.aload_n 1, 1) := by decide +kernel
theorem dL_law_174 : decode cL_law 174 = .ok (.aload_n 0, 1) := by decide +kernel
theorem dL_law_175 : decode cL_law 175 = .ok (.iload_n 3, 1) := by decide +kernel
theorem dL_law_176 : decode cL_law 176 = .ok (.iconst 1, 1) := by decide +kernel
theorem dL_law_177 : decode cL_law 177 = .ok (.iadd, 1) := by decide +kernel
theorem dL_law_178 : decode cL_law 178 = .ok (.iaload, 1) := by decide +kernel
theorem dL_law_179 : decode cL_law 179 = .ok (.aload_n 0, 1) := by decide +kernel
theorem dL_law_180 : decode cL_law 180 = .ok (.iload_n 3, 1) := by decide +kernel
theorem dL_law_181 : decode cL_law 181 = .ok (.iconst 2, 1) := by decide +kernel
theorem dL_law_182 : decode cL_law 182 = .ok (.iadd, 1) := by decide +kernel
theorem dL_law_183 : decode cL_law 183 = .ok (.iaload, 1) := by decide +kernel
theorem dL_law_184 : decode cL_law 184 = .ok (.invokevirtual 18, 3) := by decide +kernel
theorem dL_law_187 : decode cL_law 187 = .ok (.aload_n 2, 1) := by decide +kernel
theorem dL_law_188 : decode cL_law 188 = .ok (.aload_n 0, 1) := by decide +kernel
theorem dL_law_189 : decode cL_law 189 = .ok (.iload_n 3, 1) := by decide +kernel
theorem dL_law_190 : decode cL_law 190 = .ok (.iconst 1, 1) := by decide +kernel
theorem dL_law_191 : decode cL_law 191 = .ok (.iadd, 1) := by decide +kernel
theorem dL_law_192 : decode cL_law 192 = .ok (.iaload, 1) := by decide +kernel
theorem dL_law_193 : decode cL_law 193 = .ok (.aload_n 0, 1) := by decide +kernel
theorem dL_law_194 : decode cL_law 194 = .ok (.iload_n 3, 1) := by decide +kernel
theorem dL_law_195 : decode cL_law 195 = .ok (.iconst 2, 1) := by decide +kernel
theorem dL_law_196 : decode cL_law 196 = .ok (.iadd, 1) := by decide +kernel
theorem dL_law_197 : decode cL_law 197 = .ok (.iaload, 1) := by decide +kernel
theorem dL_law_198 : decode cL_law 198 = .ok (.invokevirtual 21, 3) := by decide +kernel
theorem dL_law_201 : decode cL_law 201 = .ok (.if_icmp .eq 510, 3) := by decide +kernel
theorem dL_law_204 : decode cL_law 204 = .ok (.iconst 0, 1) := by decide +kernel
theorem dL_law_205 : decode cL_law 205 = .ok (.ireturn, 1) := by decide +kernel
theorem dL_law_206 : decode cL_law 206 = .ok (.aload_n 1, 1) := by decide +kernel
theorem dL_law_207 : decode cL_law 207 = .ok (.aload_n 0, 1) := by decide +kernel
theorem dL_law_208 : decode cL_law 208 = .ok (.iload_n 3, 1) := by decide +kernel
theorem dL_law_209 : decode cL_law 209 = .ok (.iconst 1, 1) := by decide +kernel
theorem dL_law_210 : decode cL_law 210 = .ok (.iadd, 1) := by decide +kernel
theorem dL_law_211 : decode cL_law 211 = .ok (.iaload, 1) := by decide +kernel
theorem dL_law_212 : decode cL_law 212 = .ok (.aload_n 0, 1) := by decide +kernel
theorem dL_law_213 : decode cL_law 213 = .ok (.iload_n 3, 1) := by decide +kernel
theorem dL_law_214 : decode cL_law 214 = .ok (.iconst 2, 1) := by decide +kernel
theorem dL_law_215 : decode cL_law 215 = .ok (.iadd, 1) := by decide +kernel
theorem dL_law_216 : decode cL_law 216 = .ok (.iaload, 1) := by decide +kernel
theorem dL_law_217 : decode cL_law 217 = .ok (.aload_n 0, 1) := by decide +kernel
theorem dL_law_218 : decode cL_law 218 = .ok (.iload_n 3, 1) := by decide +kernel
theorem dL_law_219 : decode cL_law 219 = .ok (.iconst 3, 1) := by decide +kernel
theorem dL_law_220 : decode cL_law 220 = .ok (.iadd, 1) := by decide +kernel
theorem dL_law_221 : decode cL_law 221 = .ok (.iaload, 1) := by decide +kernel
theorem dL_law_222 : decode cL_law 222 = .ok (.invokevirtual 22, 3) := by decide +kernel
theorem dL_law_225 : decode cL_law 225 = .ok (.aload_n 2, 1) := by decide +kernel
theorem dL_law_226 : decode cL_law 226 = .ok (.aload_n 0, 1) := by decide +kernel
theorem dL_law_227 : decode cL_law 227 = .ok (.iload_n 3, 1) := by decide +kernel
theorem dL_law_228 : decode cL_law 228 = .ok (.iconst 1, 1) := by decide +kernel
theorem dL_law_229 : decode cL_law 229 = .ok (.iadd, 1) := by decide +kernel
theorem dL_law_230 : decode cL_law 230 = .ok (.iaload, 1) := by decide +kernel
theorem dL_law_231 : decode cL_law 231 = .ok (.aload_n 0, 1) := by decide +kernel
theorem dL_law_232 : decode cL_law 232 = .ok (.iload_n 3, 1) := by decide +kernel
theorem dL_law_233 : decode cL_law 233 = .ok (.iconst 2, 1) := by decide +kernel
theorem dL_law_234 : decode cL_law 234 = .ok (.iadd, 1) := by decide +kernel
theorem dL_law_235 : decode cL_law 235 = .ok (.iaload, 1) := by decide +kernel
theorem dL_law_236 : decode cL_law 236 = .ok (.aload_n 0, 1) := by decide +kernel
theorem dL_law_237 : decode cL_law 237 = .ok (.iload_n 3, 1) := by decide +kernel
theorem dL_law_238 : decode cL_law 238 = .ok (.iconst 3, 1) := by decide +kernel
theorem dL_law_239 : decode cL_law 239 = .ok (.iadd, 1) := by decide +kernel
theorem dL_law_240 : decode cL_law 240 = .ok (.iaload, 1) := by decide +kernel
theorem dL_law_241 : decode cL_law 241 = .ok (.invokevirtual 26, 3) := by decide +kernel
theorem dL_law_244 : decode cL_law 244 = .ok (.if_icmp .eq 467, 3) := by decide +kernel
theorem dL_law_247 : decode cL_law 247 = .ok (.iconst 0, 1) := by decide +kernel
theorem dL_law_248 : decode cL_law 248 = .ok (.ireturn, 1) := by decide +kernel
theorem dL_law_249 : decode cL_law 249 = .ok (.aload_n 1, 1) := by decide +kernel
theorem dL_law_250 : decode cL_law 250 = .ok (.aload_n 0, 1) := by decide +kernel
theorem dL_law_251 : decode cL_law 251 = .ok (.iload_n 3, 1) := by decide +kernel
theorem dL_law_252 : decode cL_law 252 = .ok (.iconst 1, 1) := by decide +kernel
theorem dL_law_253 : decode cL_law 253 = .ok (.iadd, 1) := by decide +kernel
theorem dL_law_254 : decode cL_law 254 = .ok (.iaload, 1) := by decide +kernel
theorem dL_law_255 : decode cL_law 255 = .ok (.invokevirtual 27, 3) := by decide +kernel
theorem dL_law_258 : decode cL_law 258 = .ok (.aload_n 2, 1) := by decide +kernel
theorem dL_law_259 : decode cL_law 259 = .ok (.aload_n 0, 1) := by decide +kernel
theorem dL_law_260 : decode cL_law 260 = .ok (.iload_n 3, 1) := by decide +kernel
theorem dL_law_261 : decode cL_law 261 = .ok (.iconst 1, 1) := by decide +kernel
theorem dL_law_262 : decode cL_law 262 = .ok (.iadd, 1) := by decide +kernel
theorem dL_law_263 : decode cL_law 263 = .ok (.iaload, 1) := by decide +kernel
theorem dL_law_264 : decode cL_law 264 = .ok (.invokevirtual 31, 3) := by decide +kernel
theorem dL_law_267 : decode cL_law 267 = .ok (.if_icmp .eq 444, 3) := by decide +kernel
theorem dL_law_270 : decode cL_law 270 = .ok (.iconst 0, 1) := by decide +kernel
theorem dL_law_271 : decode cL_law 271 = .ok (.ireturn, 1) := by decide +kernel
theorem dL_law_272 : decode cL_law 272 = .ok (.aload_n 1, 1) := by decide +kernel
theorem dL_law_273 : decode cL_law 273 = .ok (.aload_n 0, 1) := by decide +kernel
theorem dL_law_274 : decode cL_law 274 = .ok (.iload_n 3, 1) := by decide +kernel
theorem dL_law_275 : decode cL_law 275 = .ok (.iconst 1, 1) := by decide +kernel
theorem dL_law_276 : decode cL_law 276 = .ok (.iadd, 1) := by decide +kernel
theorem dL_law_277 : decode cL_law 277 = .ok (.iaload, 1) := by decide +kernel
theorem dL_law_278 : decode cL_law 278 = .ok (.invokevirtual 32, 3) := by decide +kernel
theorem dL_law_281 : decode cL_law 281 = .ok (.aload_n 2, 1) := by decide +kernel
theorem dL_law_282 : decode cL_law 282 = .ok (.aload_n 0, 1) := by decide +kernel
theorem dL_law_283 : decode cL_law 283 = .ok (.iload_n 3, 1) := by decide +kernel
theorem dL_law_284 : decode cL_law 284 = .ok (.iconst 1, 1) := by decide +kernel
theorem dL_law_285 : decode cL_law 285 = .ok (.iadd, 1) := by decide +kernel
theorem dL_law_286 : decode cL_law 286 = .ok (.iaload, 1) := by decide +kernel
theorem dL_law_287 : decode cL_law 287 = .ok (.invokevirtual 35, 3) := by decide +kernel
theorem dL_law_290 : decode cL_law 290 = .ok (.if_icmp .eq 421, 3) := by decide +kernel
theorem dL_law_293 : decode cL_law 293 = .ok (.iconst 0, 1) := by decide +kernel
theorem dL_law_294 : decode cL_law 294 = .ok (.ireturn, 1) := by decide +kernel
theorem dL_law_295 : decode cL_law 295 = .ok (.aload_n 1, 1) := by decide +kernel
theorem dL_law_296 : decode cL_law 296 = .ok (.aload_n 0, 1) := by decide +kernel
theorem dL_law_297 : decode cL_law 297 = .ok (.iload_n 3, 1) := by decide +kernel
theorem dL_law_298 : decode cL_law 298 = .ok (.iconst 1, 1) := by decide +kernel
theorem dL_law_299 : decode cL_law 299 = .ok (.iadd, 1) := by decide +kernel
theorem dL_law_300 : decode cL_law 300 = .ok (.iaload, 1) := by decide +kernel
theorem dL_law_301 : decode cL_law 301 = .ok (.aload_n 0, 1) := by decide +kernel
theorem dL_law_302 : decode cL_law 302 = .ok (.iload_n 3, 1) := by decide +kernel
theorem dL_law_303 : decode cL_law 303 = .ok (.iconst 2, 1) := by decide +kernel
theorem dL_law_304 : decode cL_law 304 = .ok (.iadd, 1) := by decide +kernel
theorem dL_law_305 : decode cL_law 305 = .ok (.iaload, 1) := by decide +kernel
theorem dL_law_306 : decode cL_law 306 = .ok (.invokevirtual 36, 3) := by decide +kernel
theorem dL_law_309 : decode cL_law 309 = .ok (.aload_n 2, 1) := by decide +kernel
theorem dL_law_310 : decode cL_law 310 = .ok (.aload_n 0, 1) := by decide +kernel
theorem dL_law_311 : decode cL_law 311 = .ok (.iload_n 3, 1) := by decide +kernel
theorem dL_law_312 : decode cL_law 312 = .ok (.iconst 1, 1) := by decide +kernel
theorem dL_law_313 : decode cL_law 313 = .ok (.iadd, 1) := by decide +kernel
theorem dL_law_314 : decode cL_law 314 = .ok (.iaload, 1) := by decide +kernel
theorem dL_law_315 : decode cL_law 315 = .ok (.aload_n 0, 1) := by decide +kernel
theorem dL_law_316 : decode cL_law 316 = .ok (.iload_n 3, 1) := by decide +kernel
theorem dL_law_317 : decode cL_law 317 = .ok (.iconst 2, 1) := by decide +kernel
theorem dL_law_318 : decode cL_law 318 = .ok (.iadd, 1) := by decide +kernel
theorem dL_law_319 : decode cL_law 319 = .ok (.iaload, 1) := by decide +kernel
theorem dL_law_320 : decode cL_law 320 = .ok (.invokevirtual 39, 3) := by decide +kernel
theorem dL_law_323 : decode cL_law 323 = .ok (.if_icmp .eq 388, 3) := by decide +kernel
theorem dL_law_326 : decode cL_law 326 = .ok (.iconst 0, 1) := by decide +kernel
theorem dL_law_327 : decode cL_law 327 = .ok (.ireturn, 1) := by decide +kernel
theorem dL_law_328 : decode cL_law 328 = .ok (.aload_n 1, 1) := by decide +kernel
theorem dL_law_329 : decode cL_law 329 = .ok (.aload_n 0, 1) := by decide +kernel
theorem dL_law_330 : decode cL_law 330 = .ok (.iload_n 3, 1) := by decide +kernel
theorem dL_law_331 : decode cL_law 331 = .ok (.iconst 1, 1) := by decide +kernel
theorem dL_law_332 : decode cL_law 332 = .ok (.iadd, 1) := by decide +kernel
theorem dL_law_333 : decode cL_law 333 = .ok (.iaload, 1) := by decide +kernel
theorem dL_law_334 : decode cL_law 334 = .ok (.aload_n 0, 1) := by decide +kernel
theorem dL_law_335 : decode cL_law 335 = .ok (.iload_n 3, 1) := by decide +kernel
theorem dL_law_336 : decode cL_law 336 = .ok (.iconst 2, 1) := by decide +kernel
theorem dL_law_337 : decode cL_law 337 = .ok (.iadd, 1) := by decide +kernel
theorem dL_law_338 : decode cL_law 338 = .ok (.iaload, 1) := by decide +kernel
theorem dL_law_339 : decode cL_law 339 = .ok (.aload_n 0, 1) := by decide +kernel
theorem dL_law_340 : decode cL_law 340 = .ok (.iload_n 3, 1) := by decide +kernel
theorem dL_law_341 : decode cL_law 341 = .ok (.iconst 3, 1) := by decide +kernel
theorem dL_law_342 : decode cL_law 342 = .ok (.iadd, 1) := by decide +kernel
theorem dL_law_343 : decode cL_law 343 = .ok (.iaload, 1) := by decide +kernel
theorem dL_law_344 : decode cL_law 344 = .ok (.invokevirtual 40, 3) := by decide +kernel
theorem dL_law_347 : decode cL_law 347 = .ok (.aload_n 2, 1) := by decide +kernel
theorem dL_law_348 : decode cL_law 348 = .ok (.aload_n 0, 1) := by decide +kernel
theorem dL_law_349 : decode cL_law 349 = .ok (.iload_n 3, 1) := by decide +kernel
theorem dL_law_350 : decode cL_law 350 = .ok (.iconst 1, 1) := by decide +kernel
theorem dL_law_351 : decode cL_law 351 = .ok (.iadd, 1) := by decide +kernel
theorem dL_law_352 : decode cL_law 352 = .ok (.iaload, 1) := by decide +kernel
theorem dL_law_353 : decode cL_law 353 = .ok (.aload_n 0, 1) := by decide +kernel
theorem dL_law_354 : decode cL_law 354 = .ok (.iload_n 3, 1) := by decide +kernel
theorem dL_law_355 : decode cL_law 355 = .ok (.iconst 2, 1) := by decide +kernel
theorem dL_law_356 : decode cL_law 356 = .ok (.iadd, 1) := by decide +kernel
theorem dL_law_357 : decode cL_law 357 = .ok (.iaload, 1) := by decide +kernel
theorem dL_law_358 : decode cL_law 358 = .ok (.aload_n 0, 1) := by decide +kernel
theorem dL_law_359 : decode cL_law 359 = .ok (.iload_n 3, 1) := by decide +kernel
theorem dL_law_360 : decode cL_law 360 = .ok (.iconst 3, 1) := by decide +kernel
theorem dL_law_361 : decode cL_law 361 = .ok (.iadd, 1) := by decide +kernel
theorem dL_law_362 : decode cL_law 362 = .ok (.iaload, 1) := by decide +kernel
theorem dL_law_363 : decode cL_law 363 = .ok (.invokevirtual 43, 3) := by decide +kernel
theorem dL_law_366 : decode cL_law 366 = .ok (.if_icmp .eq 345, 3) := by decide +kernel
theorem dL_law_369 : decode cL_law 369 = .ok (.iconst 0, 1) := by decide +kernel
theorem dL_law_370 : decode cL_law 370 = .ok (.ireturn, 1) := by decide +kernel
theorem dL_law_371 : decode cL_law 371 = .ok (.aload_n 1, 1) := by decide +kernel
theorem dL_law_372 : decode cL_law 372 = .ok (.invokevirtual 44, 3) := by decide +kernel
theorem dL_law_375 : decode cL_law 375 = .ok (.aload_n 2, 1) := by decide +kernel
theorem dL_law_376 : decode cL_law 376 = .ok (.invokevirtual 48, 3) := by decide +kernel
theorem dL_law_379 : decode cL_law 379 = .ok (.if_icmp .eq 332, 3) := by decide +kernel
theorem dL_law_382 : decode cL_law 382 = .ok (.iconst 0, 1) := by decide +kernel
theorem dL_law_383 : decode cL_law 383 = .ok (.ireturn, 1) := by decide +kernel
theorem dL_law_384 : decode cL_law 384 = .ok (.aload_n 1, 1) := by decide +kernel
theorem dL_law_385 : decode cL_law 385 = .ok (.aload_n 0, 1) := by decide +kernel
theorem dL_law_386 : decode cL_law 386 = .ok (.iload_n 3, 1) := by decide +kernel
theorem dL_law_387 : decode cL_law 387 = .ok (.iconst 1, 1) := by decide +kernel
theorem dL_law_388 : decode cL_law 388 = .ok (.iadd, 1) := by decide +kernel
theorem dL_law_389 : decode cL_law 389 = .ok (.iaload, 1) := by decide +kernel
theorem dL_law_390 : decode cL_law 390 = .ok (.invokevirtual 49, 3) := by decide +kernel
theorem dL_law_393 : decode cL_law 393 = .ok (.aload_n 2, 1) := by decide +kernel
theorem dL_law_394 : decode cL_law 394 = .ok (.aload_n 0, 1) := by decide +kernel
theorem dL_law_395 : decode cL_law 395 = .ok (.iload_n 3, 1) := by decide +kernel
theorem dL_law_396 : decode cL_law 396 = .ok (.iconst 1, 1) := by decide +kernel
theorem dL_law_397 : decode cL_law 397 = .ok (.iadd, 1) := by decide +kernel
theorem dL_law_398 : decode cL_law 398 = .ok (.iaload, 1) := by decide +kernel
theorem dL_law_399 : decode cL_law 399 = .ok (.invokevirtual 52, 3) := by decide +kernel
theorem dL_law_402 : decode cL_law 402 = .ok (.if_icmp .eq 309, 3) := by decide +kernel
theorem dL_law_405 : decode cL_law 405 = .ok (.iconst 0, 1) := by decide +kernel
theorem dL_law_406 : decode cL_law 406 = .ok (.ireturn, 1) := by decide +kernel
theorem dL_law_407 : decode cL_law 407 = .ok (.aload_n 1, 1) := by decide +kernel
theorem dL_law_408 : decode cL_law 408 = .ok (.aload_n 0, 1) := by decide +kernel
theorem dL_law_409 : decode cL_law 409 = .ok (.iload_n 3, 1) := by decide +kernel
theorem dL_law_410 : decode cL_law 410 = .ok (.iconst 1, 1) := by decide +kernel
theorem dL_law_411 : decode cL_law 411 = .ok (.iadd, 1) := by decide +kernel
theorem dL_law_412 : decode cL_law 412 = .ok (.iaload, 1) := by decide +kernel
theorem dL_law_413 : decode cL_law 413 = .ok (.i2c, 1) := by decide +kernel
theorem dL_law_414 : decode cL_law 414 = .ok (.invokevirtual 53, 3) := by decide +kernel
theorem dL_law_417 : decode cL_law 417 = .ok (.aload_n 2, 1) := by decide +kernel
theorem dL_law_418 : decode cL_law 418 = .ok (.aload_n 0, 1) := by decide +kernel
theorem dL_law_419 : decode cL_law 419 = .ok (.iload_n 3, 1) := by decide +kernel
theorem dL_law_420 : decode cL_law 420 = .ok (.iconst 1, 1) := by decide +kernel
theorem dL_law_421 : decode cL_law 421 = .ok (.iadd, 1) := by decide +kernel
theorem dL_law_422 : decode cL_law 422 = .ok (.iaload, 1) := by decide +kernel
theorem dL_law_423 : decode cL_law 423 = .ok (.i2c, 1) := by decide +kernel
theorem dL_law_424 : decode cL_law 424 = .ok (.invokevirtual 57, 3) := by decide +kernel
theorem dL_law_427 : decode cL_law 427 = .ok (.if_icmp .eq 284, 3) := by decide +kernel
theorem dL_law_430 : decode cL_law 430 = .ok (.iconst 0, 1) := by decide +kernel
theorem dL_law_431 : decode cL_law 431 = .ok (.ireturn, 1) := by decide +kernel
theorem dL_law_432 : decode cL_law 432 = .ok (.aload_n 1, 1) := by decide +kernel
theorem dL_law_433 : decode cL_law 433 = .ok (.invokevirtual 58, 3) := by decide +kernel
theorem dL_law_436 : decode cL_law 436 = .ok (.aload_n 2, 1) := by decide +kernel
theorem dL_law_437 : decode cL_law 437 = .ok (.invokevirtual 61, 3) := by decide +kernel
theorem dL_law_440 : decode cL_law 440 = .ok (.if_icmp .eq 271, 3) := by decide +kernel
theorem dL_law_443 : decode cL_law 443 = .ok (.iconst 0, 1) := by decide +kernel
theorem dL_law_444 : decode cL_law 444 = .ok (.ireturn, 1) := by decide +kernel
theorem dL_law_445 : decode cL_law 445 = .ok (.aload_n 1, 1) := by decide +kernel
theorem dL_law_446 : decode cL_law 446 = .ok (.invokevirtual 62, 3) := by decide +kernel
theorem dL_law_449 : decode cL_law 449 = .ok (.aload_n 2, 1) := by decide +kernel
theorem dL_law_450 : decode cL_law 450 = .ok (.invokevirtual 65, 3) := by decide +kernel
theorem dL_law_453 : decode cL_law 453 = .ok (.if_icmp .eq 258, 3) := by decide +kernel
theorem dL_law_456 : decode cL_law 456 = .ok (.iconst 0, 1) := by decide +kernel
theorem dL_law_457 : decode cL_law 457 = .ok (.ireturn, 1) := by decide +kernel
theorem dL_law_458 : decode cL_law 458 = .ok (.aload_n 1, 1) := by decide +kernel
theorem dL_law_459 : decode cL_law 459 = .ok (.invokevirtual 66, 3) := by decide +kernel
theorem dL_law_462 : decode cL_law 462 = .ok (.aload_n 2, 1) := by decide +kernel
theorem dL_law_463 : decode cL_law 463 = .ok (.invokevirtual 69, 3) := by decide +kernel
theorem dL_law_466 : decode cL_law 466 = .ok (.if_icmp .eq 245, 3) := by decide +kernel
theorem dL_law_469 : decode cL_law 469 = .ok (.iconst 0, 1) := by decide +kernel
theorem dL_law_470 : decode cL_law 470 = .ok (.ireturn, 1) := by decide +kernel
theorem dL_law_471 : decode cL_law 471 = .ok (.aload_n 1, 1) := by decide +kernel
theorem dL_law_472 : decode cL_law 472 = .ok (.invokevirtual 70, 3) := by decide +kernel
theorem dL_law_475 : decode cL_law 475 = .ok (.aload_n 2, 1) := by decide +kernel
theorem dL_law_476 : decode cL_law 476 = .ok (.invokevirtual 73, 3) := by decide +kernel
theorem dL_law_479 : decode cL_law 479 = .ok (.if_icmp .eq 232, 3) := by decide +kernel
theorem dL_law_482 : decode cL_law 482 = .ok (.iconst 0, 1) := by decide +kernel
theorem dL_law_483 : decode cL_law 483 = .ok (.ireturn, 1) := by decide +kernel
theorem dL_law_484 : decode cL_law 484 = .ok (.aload_n 1, 1) := by decide +kernel
theorem dL_law_485 : decode cL_law 485 = .ok (.aload_n 0, 1) := by decide +kernel
theorem dL_law_486 : decode cL_law 486 = .ok (.iload_n 3, 1) := by decide +kernel
theorem dL_law_487 : decode cL_law 487 = .ok (.iconst 1, 1) := by decide +kernel
theorem dL_law_488 : decode cL_law 488 = .ok (.iadd, 1) := by decide +kernel
theorem dL_law_489 : decode cL_law 489 = .ok (.iaload, 1) := by decide +kernel
theorem dL_law_490 : decode cL_law 490 = .ok (.aload_n 0, 1) := by decide +kernel
theorem dL_law_491 : decode cL_law 491 = .ok (.iload_n 3, 1) := by decide +kernel
theorem dL_law_492 : decode cL_law 492 = .ok (.iconst 2, 1) := by decide +kernel
theorem dL_law_493 : decode cL_law 493 = .ok (.iadd, 1) := by decide +kernel
theorem dL_law_494 : decode cL_law 494 = .ok (.iaload, 1) := by decide +kernel
theorem dL_law_495 : decode cL_law 495 = .ok (.invokevirtual 74, 3) := by decide +kernel
theorem dL_law_498 : decode cL_law 498 = .ok (.aload_n 2, 1) := by decide +kernel
theorem dL_law_499 : decode cL_law 499 = .ok (.aload_n 0, 1) := by decide +kernel
theorem dL_law_500 : decode cL_law 500 = .ok (.iload_n 3, 1) := by decide +kernel
theorem dL_law_501 : decode cL_law 501 = .ok (.iconst 1, 1) := by decide +kernel
theorem dL_law_502 : decode cL_law 502 = .ok (.iadd, 1) := by decide +kernel
theorem dL_law_503 : decode cL_law 503 = .ok (.iaload, 1) := by decide +kernel
theorem dL_law_504 : decode cL_law 504 = .ok (.aload_n 0, 1) := by decide +kernel
theorem dL_law_505 : decode cL_law 505 = .ok (.iload_n 3, 1) := by decide +kernel
theorem dL_law_506 : decode cL_law 506 = .ok (.iconst 2, 1) := by decide +kernel
theorem dL_law_507 : decode cL_law 507 = .ok (.iadd, 1) := by decide +kernel
theorem dL_law_508 : decode cL_law 508 = .ok (.iaload, 1) := by decide +kernel
theorem dL_law_509 : decode cL_law 509 = .ok (.invokevirtual 77, 3) := by decide +kernel
theorem dL_law_512 : decode cL_law 512 = .ok (.if_icmp .eq 199, 3) := by decide +kernel
theorem dL_law_515 : decode cL_law 515 = .ok (.iconst 0, 1) := by decide +kernel
theorem dL_law_516 : decode cL_law 516 = .ok (.ireturn, 1) := by decide +kernel
theorem dL_law_517 : decode cL_law 517 = .ok (.aload_n 1, 1) := by decide +kernel
theorem dL_law_518 : decode cL_law 518 = .ok (.aload_n 0, 1) := by decide +kernel
theorem dL_law_519 : decode cL_law 519 = .ok (.iload_n 3, 1) := by decide +kernel
theorem dL_law_520 : decode cL_law 520 = .ok (.iconst 1, 1) := by decide +kernel
theorem dL_law_521 : decode cL_law 521 = .ok (.iadd, 1) := by decide +kernel
theorem dL_law_522 : decode cL_law 522 = .ok (.iaload, 1) := by decide +kernel
theorem dL_law_523 : decode cL_law 523 = .ok (.invokevirtual 78, 3) := by decide +kernel
theorem dL_law_526 : decode cL_law 526 = .ok (.aload_n 2, 1) := by decide +kernel
theorem dL_law_527 : decode cL_law 527 = .ok (.aload_n 0, 1) := by decide +kernel
theorem dL_law_528 : decode cL_law 528 = .ok (.iload_n 3, 1) := by decide +kernel
theorem dL_law_529 : decode cL_law 529 = .ok (.iconst 1, 1) := by decide +kernel
theorem dL_law_530 : decode cL_law 530 = .ok (.iadd, 1) := by decide +kernel
theorem dL_law_531 : decode cL_law 531 = .ok (.iaload, 1) := by decide +kernel
theorem dL_law_532 : decode cL_law 532 = .ok (.invokevirtual 81, 3) := by decide +kernel
theorem dL_law_535 : decode cL_law 535 = .ok (.if_icmp .eq 176, 3) := by decide +kernel
theorem dL_law_538 : decode cL_law 538 = .ok (.iconst 0, 1) := by decide +kernel
theorem dL_law_539 : decode cL_law 539 = .ok (.ireturn, 1) := by decide +kernel
theorem dL_law_540 : decode cL_law 540 = .ok (.aload_n 1, 1) := by decide +kernel
theorem dL_law_541 : decode cL_law 541 = .ok (.aload_n 0, 1) := by decide +kernel
theorem dL_law_542 : decode cL_law 542 = .ok (.iload_n 3, 1) := by decide +kernel
theorem dL_law_543 : decode cL_law 543 = .ok (.iconst 1, 1) := by decide +kernel
theorem dL_law_544 : decode cL_law 544 = .ok (.iadd, 1) := by decide +kernel
theorem dL_law_545 : decode cL_law 545 = .ok (.iaload, 1) := by decide +kernel
theorem dL_law_546 : decode cL_law 546 = .ok (.invokevirtual 82, 3) := by decide +kernel
theorem dL_law_549 : decode cL_law 549 = .ok (.aload_n 2, 1) := by decide +kernel
theorem dL_law_550 : decode cL_law 550 = .ok (.aload_n 0, 1) := by decide +kernel
theorem dL_law_551 : decode cL_law 551 = .ok (.iload_n 3, 1) := by decide +kernel
theorem dL_law_552 : decode cL_law 552 = .ok (.iconst 1, 1) := by decide +kernel
theorem dL_law_553 : decode cL_law 553 = .ok (.iadd, 1) := by decide +kernel
theorem dL_law_554 : decode cL_law 554 = .ok (.iaload, 1) := by decide +kernel
theorem dL_law_555 : decode cL_law 555 = .ok (.invokevirtual 85, 3) := by decide +kernel
theorem dL_law_558 : decode cL_law 558 = .ok (.if_icmp .eq 153, 3) := by decide +kernel
theorem dL_law_561 : decode cL_law 561 = .ok (.iconst 0, 1) := by decide +kernel
theorem dL_law_562 : decode cL_law 562 = .ok (.ireturn, 1) := by decide +kernel
theorem dL_law_563 : decode cL_law 563 = .ok (.aload_n 1, 1) := by decide +kernel
theorem dL_law_564 : decode cL_law 564 = .ok (.invokevirtual 86, 3) := by decide +kernel
theorem dL_law_567 : decode cL_law 567 = .ok (.aload_n 2, 1) := by decide +kernel
theorem dL_law_568 : decode cL_law 568 = .ok (.invokevirtual 89, 3) := by decide +kernel
theorem dL_law_571 : decode cL_law 571 = .ok (.if_icmp .eq 140, 3) := by decide +kernel
theorem dL_law_574 : decode cL_law 574 = .ok (.iconst 0, 1) := by decide +kernel
theorem dL_law_575 : decode cL_law 575 = .ok (.ireturn, 1) := by decide +kernel
theorem dL_law_576 : decode cL_law 576 = .ok (.aload_n 1, 1) := by decide +kernel
theorem dL_law_577 : decode cL_law 577 = .ok (.aload_n 0, 1) := by decide +kernel
theorem dL_law_578 : decode cL_law 578 = .ok (.iload_n 3, 1) := by decide +kernel
theorem dL_law_579 : decode cL_law 579 = .ok (.iconst 1, 1) := by decide +kernel
theorem dL_law_580 : decode cL_law 580 = .ok (.iadd, 1) := by decide +kernel
theorem dL_law_581 : decode cL_law 581 = .ok (.iaload, 1) := by decide +kernel
theorem dL_law_582 : decode cL_law 582 = .ok (.invokevirtual 90, 3) := by decide +kernel
theorem dL_law_585 : decode cL_law 585 = .ok (.aload_n 2, 1) := by decide +kernel
theorem dL_law_586 : decode cL_law 586 = .ok (.aload_n 0, 1) := by decide +kernel
theorem dL_law_587 : decode cL_law 587 = .ok (.iload_n 3, 1) := by decide +kernel
theorem dL_law_588 : decode cL_law 588 = .ok (.iconst 1, 1) := by decide +kernel
theorem dL_law_589 : decode cL_law 589 = .ok (.iadd, 1) := by decide +kernel
theorem dL_law_590 : decode cL_law 590 = .ok (.iaload, 1) := by decide +kernel
theorem dL_law_591 : decode cL_law 591 = .ok (.invokevirtual 93, 3) := by decide +kernel
theorem dL_law_594 : decode cL_law 594 = .ok (.if_icmp .eq 117, 3) := by decide +kernel
theorem dL_law_597 : decode cL_law 597 = .ok (.iconst 0, 1) := by decide +kernel
theorem dL_law_598 : decode cL_law 598 = .ok (.ireturn, 1) := by decide +kernel
theorem dL_law_599 : decode cL_law 599 = .ok (.aload_n 1, 1) := by decide +kernel
theorem dL_law_600 : decode cL_law 600 = .ok (.aload_n 0, 1) := by decide +kernel
theorem dL_law_601 : decode cL_law 601 = .ok (.iload_n 3, 1) := by decide +kernel
theorem dL_law_602 : decode cL_law 602 = .ok (.iconst 1, 1) := by decide +kernel
theorem dL_law_603 : decode cL_law 603 = .ok (.iadd, 1) := by decide +kernel
theorem dL_law_604 : decode cL_law 604 = .ok (.iaload, 1) := by decide +kernel
theorem dL_law_605 : decode cL_law 605 = .ok (.aload_n 0, 1) := by decide +kernel
theorem dL_law_606 : decode cL_law 606 = .ok (.iload_n 3, 1) := by decide +kernel
theorem dL_law_607 : decode cL_law 607 = .ok (.iconst 2, 1) := by decide +kernel
theorem dL_law_608 : decode cL_law 608 = .ok (.iadd, 1) := by decide +kernel
theorem dL_law_609 : decode cL_law 609 = .ok (.iaload, 1) := by decide +kernel
theorem dL_law_610 : decode cL_law 610 = .ok (.invokevirtual 94, 3) := by decide +kernel
theorem dL_law_613 : decode cL_law 613 = .ok (.aload_n 2, 1) := by decide +kernel
theorem dL_law_614 : decode cL_law 614 = .ok (.aload_n 0, 1) := by decide +kernel
theorem dL_law_615 : decode cL_law 615 = .ok (.iload_n 3, 1) := by decide +kernel
theorem dL_law_616 : decode cL_law 616 = .ok (.iconst 1, 1) := by decide +kernel
theorem dL_law_617 : decode cL_law 617 = .ok (.iadd, 1) := by decide +kernel
theorem dL_law_618 : decode cL_law 618 = .ok (.iaload, 1) := by decide +kernel
theorem dL_law_619 : decode cL_law 619 = .ok (.aload_n 0, 1) := by decide +kernel
theorem dL_law_620 : decode cL_law 620 = .ok (.iload_n 3, 1) := by decide +kernel
theorem dL_law_621 : decode cL_law 621 = .ok (.iconst 2, 1) := by decide +kernel
theorem dL_law_622 : decode cL_law 622 = .ok (.iadd, 1) := by decide +kernel
theorem dL_law_623 : decode cL_law 623 = .ok (.iaload, 1) := by decide +kernel
theorem dL_law_624 : decode cL_law 624 = .ok (.invokevirtual 97, 3) := by decide +kernel
theorem dL_law_627 : decode cL_law 627 = .ok (.if_icmp .eq 84, 3) := by decide +kernel
theorem dL_law_630 : decode cL_law 630 = .ok (.iconst 0, 1) := by decide +kernel
theorem dL_law_631 : decode cL_law 631 = .ok (.ireturn, 1) := by decide +kernel
theorem dL_law_632 : decode cL_law 632 = .ok (.aload_n 1, 1) := by decide +kernel
theorem dL_law_633 : decode cL_law 633 = .ok (.aload_n 0, 1) := by decide +kernel
theorem dL_law_634 : decode cL_law 634 = .ok (.iload_n 3, 1) := by decide +kernel
theorem dL_law_635 : decode cL_law 635 = .ok (.iconst 1, 1) := by decide +kernel
theorem dL_law_636 : decode cL_law 636 = .ok (.iadd, 1) := by decide +kernel
theorem dL_law_637 : decode cL_law 637 = .ok (.iaload, 1) := by decide +kernel
theorem dL_law_638 : decode cL_law 638 = .ok (.aload_n 0, 1) := by decide +kernel
theorem dL_law_639 : decode cL_law 639 = .ok (.iload_n 3, 1) := by decide +kernel
theorem dL_law_640 : decode cL_law 640 = .ok (.iconst 2, 1) := by decide +kernel
theorem dL_law_641 : decode cL_law 641 = .ok (.iadd, 1) := by decide +kernel
theorem dL_law_642 : decode cL_law 642 = .ok (.iaload, 1) := by decide +kernel
theorem dL_law_643 : decode cL_law 643 = .ok (.invokevirtual 98, 3) := by decide +kernel
theorem dL_law_646 : decode cL_law 646 = .ok (.aload_n 2, 1) := by decide +kernel
theorem dL_law_647 : decode cL_law 647 = .ok (.aload_n 0, 1) := by decide +kernel
theorem dL_law_648 : decode cL_law 648 = .ok (.iload_n 3, 1) := by decide +kernel
theorem dL_law_649 : decode cL_law 649 = .ok (.iconst 1, 1) := by decide +kernel
theorem dL_law_650 : decode cL_law 650 = .ok (.iadd, 1) := by decide +kernel
theorem dL_law_651 : decode cL_law 651 = .ok (.iaload, 1) := by decide +kernel
theorem dL_law_652 : decode cL_law 652 = .ok (.aload_n 0, 1) := by decide +kernel
theorem dL_law_653 : decode cL_law 653 = .ok (.iload_n 3, 1) := by decide +kernel
theorem dL_law_654 : decode cL_law 654 = .ok (.iconst 2, 1) := by decide +kernel
theorem dL_law_655 : decode cL_law 655 = .ok (.iadd, 1) := by decide +kernel
theorem dL_law_656 : decode cL_law 656 = .ok (.iaload, 1) := by decide +kernel
theorem dL_law_657 : decode cL_law 657 = .ok (.invokevirtual 101, 3) := by decide +kernel
theorem dL_law_660 : decode cL_law 660 = .ok (.if_icmp .eq 51, 3) := by decide +kernel
theorem dL_law_663 : decode cL_law 663 = .ok (.iconst 0, 1) := by decide +kernel
theorem dL_law_664 : decode cL_law 664 = .ok (.ireturn, 1) := by decide +kernel
theorem dL_law_665 : decode cL_law 665 = .ok (.aload_n 1, 1) := by decide +kernel
theorem dL_law_666 : decode cL_law 666 = .ok (.aload_n 0, 1) := by decide +kernel
theorem dL_law_667 : decode cL_law 667 = .ok (.iload_n 3, 1) := by decide +kernel
theorem dL_law_668 : decode cL_law 668 = .ok (.iconst 1, 1) := by decide +kernel
theorem dL_law_669 : decode cL_law 669 = .ok (.iadd, 1) := by decide +kernel
theorem dL_law_670 : decode cL_law 670 = .ok (.iaload, 1) := by decide +kernel
theorem dL_law_671 : decode cL_law 671 = .ok (.invokevirtual 102, 3) := by decide +kernel
theorem dL_law_674 : decode cL_law 674 = .ok (.aload_n 2, 1) := by decide +kernel
theorem dL_law_675 : decode cL_law 675 = .ok (.aload_n 0, 1) := by decide +kernel
theorem dL_law_676 : decode cL_law 676 = .ok (.iload_n 3, 1) := by decide +kernel
theorem dL_law_677 : decode cL_law 677 = .ok (.iconst 1, 1) := by decide +kernel
theorem dL_law_678 : decode cL_law 678 = .ok (.iadd, 1) := by decide +kernel
theorem dL_law_679 : decode cL_law 679 = .ok (.iaload, 1) := by decide +kernel
theorem dL_law_680 : decode cL_law 680 = .ok (.invokevirtual 105, 3) := by decide +kernel
theorem dL_law_683 : decode cL_law 683 = .ok (.if_icmp .eq 28, 3) := by decide +kernel
theorem dL_law_686 : decode cL_law 686 = .ok (.iconst 0, 1) := by decide +kernel
theorem dL_law_687 : decode cL_law 687 = .ok (.ireturn, 1) := by decide +kernel
theorem dL_law_688 : decode cL_law 688 = .ok (.aload_n 1, 1) := by decide +kernel
theorem dL_law_689 : decode cL_law 689 = .ok (.aload_n 0, 1) := by decide +kernel
theorem dL_law_690 : decode cL_law 690 = .ok (.iload_n 3, 1) := by decide +kernel
theorem dL_law_691 : decode cL_law 691 = .ok (.iconst 1, 1) := by decide +kernel
theorem dL_law_692 : decode cL_law 692 = .ok (.iadd, 1) := by decide +kernel
theorem dL_law_693 : decode cL_law 693 = .ok (.iaload, 1) := by decide +kernel
theorem dL_law_694 : decode cL_law 694 = .ok (.invokevirtual 106, 3) := by decide +kernel
theorem dL_law_697 : decode cL_law 697 = .ok (.aload_n 2, 1) := by decide +kernel
theorem dL_law_698 : decode cL_law 698 = .ok (.aload_n 0, 1) := by decide +kernel
theorem dL_law_699 : decode cL_law 699 = .ok (.iload_n 3, 1) := by decide +kernel
theorem dL_law_700 : decode cL_law 700 = .ok (.iconst 1, 1) := by decide +kernel
theorem dL_law_701 : decode cL_law 701 = .ok (.iadd, 1) := by decide +kernel
theorem dL_law_702 : decode cL_law 702 = .ok (.iaload, 1) := by decide +kernel
theorem dL_law_703 : decode cL_law 703 = .ok (.invokevirtual 109, 3) := by decide +kernel
theorem dL_law_706 : decode cL_law 706 = .ok (.if_icmp .eq 5, 3) := by decide +kernel
theorem dL_law_709 : decode cL_law 709 = .ok (.iconst 0, 1) := by decide +kernel
theorem dL_law_710 : decode cL_law 710 = .ok (.ireturn, 1) := by decide +kernel
theorem dL_law_711 : decode cL_law 711 = .ok (.iinc 3 4, 3) := by decide +kernel
theorem dL_law_714 : decode cL_law 714 = .ok (.goto (-696), 3) := by decide +kernel
theorem dL_law_717 : decode cL_law 717 = .ok (.iconst 1, 1) := by decide +kernel
theorem dL_law_718 : decode cL_law 718 = .ok (.ireturn, 1) := by decide +kernel
