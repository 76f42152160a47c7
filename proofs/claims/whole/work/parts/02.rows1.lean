theorem dX0_init_0 : decode cX0_init 0 = .ok (.aload_n 0, 1) := by decide +kernel
theorem dX0_init_1 : decode cX0_init 1 = .ok (.invokespecial 3, 3) := by decide +kernel
theorem dX0_init_4 : decode cX0_init 4 = .ok (.aload_n 0, 1) := by decide +kernel
theorem dX0_init_5 : decode cX0_init 5 = .ok (.getstatic 9, 3) := by decide +kernel
theorem dX0_init_8 : decode cX0_init 8 = .ok (.arraylength, 1) := by decide +kernel
theorem dX0_init_9 : decode cX0_init 9 = .ok (.newarray .int, 2) := by decide +kernel
theorem dX0_init_11 : decode cX0_init 11 = .ok (.putfield 13, 3) := by decide +kernel
theorem dX0_init_14 : decode cX0_init 14 = .ok (.iconst 0, 1) := by decide +kernel
theorem dX0_init_15 : decode cX0_init 15 = .ok (.istore_n 1, 1) := by decide +kernel
theorem dX0_init_16 : decode cX0_init 16 = .ok (.iload_n 1, 1) := by decide +kernel
theorem dX0_init_17 : decode cX0_init 17 = .ok (.aload_n 0, 1) := by decide +kernel
theorem dX0_init_18 : decode cX0_init 18 = .ok (.getfield 13, 3) := by decide +kernel
theorem dX0_init_21 : decode cX0_init 21 = .ok (.arraylength, 1) := by decide +kernel
theorem dX0_init_22 : decode cX0_init 22 = .ok (.if_icmp .ge 22, 3) := by decide +kernel
theorem dX0_init_25 : decode cX0_init 25 = .ok (.aload_n 0, 1) := by decide +kernel
theorem dX0_init_26 : decode cX0_init 26 = .ok (.getfield 13, 3) := by decide +kernel
theorem dX0_init_29 : decode cX0_init 29 = .ok (.iload_n 1, 1) := by decide +kernel
theorem dX0_init_30 : decode cX0_init 30 = .ok (.getstatic 9, 3) := by decide +kernel
theorem dX0_init_33 : decode cX0_init 33 = .ok (.iload_n 1, 1) := by decide +kernel
theorem dX0_init_34 : decode cX0_init 34 = .ok (.invokestatic 18, 3) := by decide +kernel
theorem dX0_init_37 : decode cX0_init 37 = .ok (.iastore, 1) := by decide +kernel
theorem dX0_init_38 : decode cX0_init 38 = .ok (.iinc 1 1, 3) := by decide +kernel
theorem dX0_init_41 : decode cX0_init 41 = .ok (.goto (-25), 3) := by decide +kernel
theorem dX0_init_44 : decode cX0_init 44 = .ok (.aload_n 0, 1) := by decide +kernel
theorem dX0_init_45 : decode cX0_init 45 = .ok (.iconst 3, 1) := by decide +kernel
theorem dX0_init_46 : decode cX0_init 46 = .ok (.newarray .int, 2) := by decide +kernel
theorem dX0_init_48 : decode cX0_init 48 = .ok (.putfield 24, 3) := by decide +kernel
theorem dX0_init_51 : decode cX0_init 51 = .ok (.aload_n 0, 1) := by decide +kernel
theorem dX0_init_52 : decode cX0_init 52 = .ok (.new 27, 3) := by decide +kernel
theorem dX0_init_55 : decode cX0_init 55 = .ok (.dup, 1) := by decide +kernel
theorem dX0_init_56 : decode cX0_init 56 = .ok (.invokespecial 29, 3) := by decide +kernel
theorem dX0_init_59 : decode cX0_init 59 = .ok (.putfield 30, 3) := by decide +kernel
theorem dX0_init_62 : decode cX0_init 62 = .ok (.aload_n 0, 1) := by decide +kernel
theorem dX0_init_63 : decode cX0_init 63 = .ok (.new 34, 3) := by decide +kernel
theorem dX0_init_66 : decode cX0_init 66 = .ok (.dup, 1) := by decide +kernel
theorem dX0_init_67 : decode cX0_init 67 = .ok (.invokespecial 36, 3) := by decide +kernel
theorem dX0_init_70 : decode cX0_init 70 = .ok (.putfield 37, 3) := by decide +kernel
theorem dX0_init_73 : decode cX0_init 73 = .ok (.aload_n 0, 1) := by decide +kernel
theorem dX0_init_74 : decode cX0_init 74 = .ok (.new 41, 3) := by decide +kernel
theorem dX0_init_77 : decode cX0_init 77 = .ok (.dup, 1) := by decide +kernel
theorem dX0_init_78 : decode cX0_init 78 = .ok (.invokespecial 43, 3) := by decide +kernel
theorem dX0_init_81 : decode cX0_init 81 = .ok (.putfield 44, 3) := by decide +kernel
theorem dX0_init_84 : decode cX0_init 84 = .ok (.aload_n 0, 1) := by decide +kernel
theorem dX0_init_85 : decode cX0_init 85 = .ok (.bipush 36, 2) := by decide +kernel
theorem dX0_init_87 : decode cX0_init 87 = .ok (.putfield 48, 3) := by decide +kernel
theorem dX0_init_90 : decode cX0_init 90 = .ok (.aload_n 0, 1) := by decide +kernel
theorem dX0_init_91 : decode cX0_init 91 = .ok (.bipush 12, 2) := by decide +kernel
theorem dX0_init_93 : decode cX0_init 93 = .ok (.putfield 52, 3) := by decide +kernel
theorem dX0_init_96 : decode cX0_init 96 = .ok (.return_, 1) := by decide +kernel
theorem dX0_copyFrom_0 : decode cX0_copyFrom 0 = .ok (.aload_n 1, 1) := by decide +kernel
theorem dX0_copyFrom_1 : decode cX0_copyFrom 1 = .ok (.getfield 13, 3) := by decide +kernel
theorem dX0_copyFrom_4 : decode cX0_copyFrom 4 = .ok (.aload_n 0, 1) := by decide +kernel
theorem dX0_copyFrom_5 : decode cX0_copyFrom 5 = .ok (.getfield 13, 3) := by decide +kernel
theorem dX0_copyFrom_8 : decode cX0_copyFrom 8 = .ok (.invokestatic 55, 3) := by decide +kernel
theorem dX0_copyFrom_11 : decode cX0_copyFrom 11 = .ok (.aload_n 1, 1) := by decide +kernel
theorem dX0_copyFrom_12 : decode cX0_copyFrom 12 = .ok (.getfield 24, 3) := by decide +kernel
theorem dX0_copyFrom_15 : decode cX0_copyFrom 15 = .ok (.aload_n 0, 1) := by decide +kernel
theorem dX0_copyFrom_16 : decode cX0_copyFrom 16 = .ok (.getfield 24, 3) := by decide +kernel
theorem dX0_copyFrom_19 : decode cX0_copyFrom 19 = .ok (.invokestatic 55, 3) := by decide +kernel
theorem dX0_copyFrom_22 : decode cX0_copyFrom 22 = .ok (.aload_n 0, 1) := by decide +kernel
theorem dX0_copyFrom_23 : decode cX0_copyFrom 23 = .ok (.getfield 30, 3) := by decide +kernel
theorem dX0_copyFrom_26 : decode cX0_copyFrom 26 = .ok (.aload_n 1, 1) := by decide +kernel
theorem dX0_copyFrom_27 : decode cX0_copyFrom 27 = .ok (.getfield 30, 3) := by decide +kernel
theorem dX0_copyFrom_30 : decode cX0_copyFrom 30 = .ok (.invokevirtual 59, 3) := by decide +kernel
theorem dX0_copyFrom_33 : decode cX0_copyFrom 33 = .ok (.aload_n 0, 1) := by decide +kernel
theorem dX0_copyFrom_34 : decode cX0_copyFrom 34 = .ok (.getfield 37, 3) := by decide +kernel
theorem dX0_copyFrom_37 : decode cX0_copyFrom 37 = .ok (.aload_n 1, 1) := by decide +kernel
theorem dX0_copyFrom_38 : decode cX0_copyFrom 38 = .ok (.getfield 37, 3) := by decide +kernel
theorem dX0_copyFrom_41 : decode cX0_copyFrom 41 = .ok (.invokevirtual 63, 3) := by decide +kernel
theorem dX0_copyFrom_44 : decode cX0_copyFrom 44 = .ok (.aload_n 0, 1) := by decide +kernel
theorem dX0_copyFrom_45 : decode cX0_copyFrom 45 = .ok (.getfield 44, 3) := by decide +kernel
theorem dX0_copyFrom_48 : decode cX0_copyFrom 48 = .ok (.aload_n 1, 1) := by decide +kernel
theorem dX0_copyFrom_49 : decode cX0_copyFrom 49 = .ok (.getfield 44, 3) := by decide +kernel
theorem dX0_copyFrom_52 : decode cX0_copyFrom 52 = .ok (.invokevirtual 66, 3) := by decide +kernel
theorem dX0_copyFrom_55 : decode cX0_copyFrom 55 = .ok (.aload_n 0, 1) := by decide +kernel
theorem dX0_copyFrom_56 : decode cX0_copyFrom 56 = .ok (.aload_n 1, 1) := by decide +kernel
theorem dX0_copyFrom_57 : decode cX0_copyFrom 57 = .ok (.getfield 69, 3) := by decide +kernel
theorem dX0_copyFrom_60 : decode cX0_copyFrom 60 = .ok (.putfield 69, 3) := by decide +kernel
theorem dX0_copyFrom_63 : decode cX0_copyFrom 63 = .ok (.aload_n 0, 1) := by decide +kernel
theorem dX0_copyFrom_64 : decode cX0_copyFrom 64 = .ok (.aload_n 1, 1) := by decide +kernel
theorem dX0_copyFrom_65 : decode cX0_copyFrom 65 = .ok (.getfield 48, 3) := by decide +kernel
theorem dX0_copyFrom_68 : decode cX0_copyFrom 68 = .ok (.putfield 48, 3) := by decide +kernel
theorem dX0_copyFrom_71 : decode cX0_copyFrom 71 = .ok (.aload_n 0, 1) := by decide +kernel
theorem dX0_copyFrom_72 : decode cX0_copyFrom 72 = .ok (.aload_n 1, 1) := by decide +kernel
theorem dX0_copyFrom_73 : decode cX0_copyFrom 73 = .ok (.getfield 52, 3) := by decide +kernel
theorem dX0_copyFrom_76 : decode cX0_copyFrom 76 = .ok (.putfield 52, 3) := by decide +kernel
theorem dX0_copyFrom_79 : decode cX0_copyFrom 79 = .ok (.aload_n 0, 1) := by decide +kernel
theorem dX0_copyFrom_80 : decode cX0_copyFrom 80 = .ok (.aload_n 1, 1) := by decide +kernel
theorem dX0_copyFrom_81 : decode cX0_copyFrom 81 = .ok (.getfield 72, 3) := by decide +kernel
theorem dX0_copyFrom_84 : decode cX0_copyFrom 84 = .ok (.putfield 72, 3) := by decide +kernel
theorem dX0_copyFrom_87 : decode cX0_copyFrom 87 = .ok (.aload_n 0, 1) := by decide +kernel
theorem dX0_copyFrom_88 : decode cX0_copyFrom 88 = .ok (.aload_n 1, 1) := by decide +kernel
theorem dX0_copyFrom_89 : decode cX0_copyFrom 89 = .ok (.getfield 75, 3) := by decide +kernel
theorem dX0_copyFrom_92 : decode cX0_copyFrom 92 = .ok (.putfield 75, 3) := by decide +kernel
theorem dX0_copyFrom_95 : decode cX0_copyFrom 95 = .ok (.aload_n 0, 1) := by decide +kernel
theorem dX0_copyFrom_96 : decode cX0_copyFrom 96 = .ok (.aload_n 1, 1) := by decide +kernel
theorem dX0_copyFrom_97 : decode cX0_copyFrom 97 = .ok (.getfield 78, 3) := by decide +kernel
theorem dX0_copyFrom_100 : decode cX0_copyFrom 100 = .ok (.putfield 78, 3) := by decide +kernel
theorem dX0_copyFrom_103 : decode cX0_copyFrom 103 = .ok (.aload_n 0, 1) := by decide +kernel
theorem dX0_copyFrom_104 : decode cX0_copyFrom 104 = .ok (.aload_n 1, 1) := by decide +kernel
theorem dX0_copyFrom_105 : decode cX0_copyFrom 105 = .ok (.getfield 81, 3) := by decide +kernel
theorem dX0_copyFrom_108 : decode cX0_copyFrom 108 = .ok (.putfield 81, 3) := by decide +kernel
theorem dX0_copyFrom_111 : decode cX0_copyFrom 111 = .ok (.aload_n 0, 1) := by decide +kernel
theorem dX0_copyFrom_112 : decode cX0_copyFrom 112 = .ok (.aload_n 1, 1) := by decide +kernel
theorem dX0_copyFrom_113 : decode cX0_copyFrom 113 = .ok (.getfield 84, 3) := by decide +kernel
theorem dX0_copyFrom_116 : decode cX0_copyFrom 116 = .ok (.putfield 84, 3) := by decide +kernel
theorem dX0_copyFrom_119 : decode cX0_copyFrom 119 = .ok (.return_, 1) := by decide +kernel
theorem dX0_ticksOfNight_0 : decode cX0_ticksOfNight 0 = .ok (.aload_n 0, 1) := by decide +kernel
theorem dX0_ticksOfNight_1 : decode cX0_ticksOfNight 1 = .ok (.getfield 52, 3) := by decide +kernel
theorem dX0_ticksOfNight_4 : decode cX0_ticksOfNight 4 = .ok (.aload_n 0, 1) := by decide +kernel
theorem dX0_ticksOfNight_5 : decode cX0_ticksOfNight 5 = .ok (.getfield 48, 3) := by decide +kernel
theorem dX0_ticksOfNight_8 : decode cX0_ticksOfNight 8 = .ok (.isub, 1) := by decide +kernel
theorem dX0_ticksOfNight_9 : decode cX0_ticksOfNight 9 = .ok (.bipush 48, 2) := by decide +kernel
theorem dX0_ticksOfNight_11 : decode cX0_ticksOfNight 11 = .ok (.invokestatic 87, 3) := by decide +kernel
theorem dX0_ticksOfNight_14 : decode cX0_ticksOfNight 14 = .ok (.ireturn, 1) := by decide +kernel
theorem dX0_isNight_0 : decode cX0_isNight 0 = .ok (.aload_n 0, 1) := by decide +kernel
theorem dX0_isNight_1 : decode cX0_isNight 1 = .ok (.getfield 69, 3) := by decide +kernel
theorem dX0_isNight_4 : decode cX0_isNight 4 = .ok (.aload_n 0, 1) := by decide +kernel
theorem dX0_isNight_5 : decode cX0_isNight 5 = .ok (.getfield 48, 3) := by decide +kernel
theorem dX0_isNight_8 : decode cX0_isNight 8 = .ok (.isub, 1) := by decide +kernel
theorem dX0_isNight_9 : decode cX0_isNight 9 = .ok (.bipush 48, 2) := by decide +kernel
theorem dX0_isNight_11 : decode cX0_isNight 11 = .ok (.invokestatic 87, 3) := by decide +kernel
theorem dX0_isNight_14 : decode cX0_isNight 14 = .ok (.aload_n 0, 1) := by decide +kernel
theorem dX0_isNight_15 : decode cX0_isNight 15 = .ok (.invokevirtual 93, 3) := by decide +kernel
theorem dX0_isNight_18 : decode cX0_isNight 18 = .ok (.if_icmp .ge 7, 3) := by decide +kernel
theorem dX0_isNight_21 : decode cX0_isNight 21 = .ok (.iconst 1, 1) := by decide +kernel
theorem dX0_isNight_22 : decode cX0_isNight 22 = .ok (.goto 4, 3) := by decide +kernel
theorem dX0_isNight_25 : decode cX0_isNight 25 = .ok (.iconst 0, 1) := by decide +kernel
theorem dX0_isNight_26 : decode cX0_isNight 26 = .ok (.ireturn, 1) := by decide +kernel
theorem dX0_passTick_0 : decode cX0_passTick 0 = .ok (.aload_n 0, 1) := by decide +kernel
theorem dX0_passTick_1 : decode cX0_passTick 1 = .ok (.invokevirtual 97, 3) := by decide +kernel
theorem dX0_passTick_4 : decode cX0_passTick 4 = .ok (.istore_n 2, 1) := by decide +kernel
theorem dX0_passTick_5 : decode cX0_passTick 5 = .ok (.iconst 0, 1) := by decide +kernel
theorem dX0_passTick_6 : decode cX0_passTick 6 = .ok (.istore_n 3, 1) := by decide +kernel
theorem dX0_passTick_7 : decode cX0_passTick 7 = .ok (.aload_n 0, 1) := by decide +kernel
theorem dX0_passTick_8 : decode cX0_passTick 8 = .ok (.getfield 30, 3) := by decide +kernel
theorem dX0_passTick_11 : decode cX0_passTick 11 = .ok (.invokevirtual 101, 3) := by decide +kernel
theorem dX0_passTick_14 : decode cX0_passTick 14 = .ok (.aload_n 0, 1) := by decide +kernel
theorem dX0_passTick_15 : decode cX0_passTick 15 = .ok (.getfield 30, 3) := by decide +kernel
theorem dX0_passTick_18 : decode cX0_passTick 18 = .ok (.invokevirtual 104, 3) := by decide +kernel
theorem dX0_passTick_21 : decode cX0_passTick 21 = .ok (.ifCond .ne 19, 3) := by decide +kernel
theorem dX0_passTick_24 : decode cX0_passTick 24 = .ok (.iload_n 2, 1) := by decide +kernel
theorem dX0_passTick_25 : decode cX0_passTick 25 = .ok (.ifCond .eq 11, 3) := by decide +kernel
theorem dX0_passTick_28 : decode cX0_passTick 28 = .ok (.aload_n 0, 1) := by decide +kernel
theorem dX0_passTick_29 : decode cX0_passTick 29 = .ok (.invokevirtual 107, 3) := by decide +kernel
theorem dX0_passTick_32 : decode cX0_passTick 32 = .ok (.istore_n 3, 1) := by decide +kernel
theorem dX0_passTick_33 : decode cX0_passTick 33 = .ok (.goto 7, 3) := by decide +kernel
theorem dX0_passTick_36 : decode cX0_passTick 36 = .ok (.aload_n 0, 1) := by decide +kernel
theorem dX0_passTick_37 : decode cX0_passTick 37 = .ok (.invokevirtual 110, 3) := by decide +kernel
theorem dX0_passTick_40 : decode cX0_passTick 40 = .ok (.iload_n 2, 1) := by decide +kernel
theorem dX0_passTick_41 : decode cX0_passTick 41 = .ok (.ifCond .eq 8, 3) := by decide +kernel
theorem dX0_passTick_44 : decode cX0_passTick 44 = .ok (.aload_n 0, 1) := by decide +kernel
theorem dX0_passTick_45 : decode cX0_passTick 45 = .ok (.iload_n 3, 1) := by decide +kernel
theorem dX0_passTick_46 : decode cX0_passTick 46 = .ok (.invokevirtual 113, 3) := by decide +kernel
theorem dX0_passTick_49 : decode cX0_passTick 49 = .ok (.iload_n 1, 1) := by decide +kernel
theorem dX0_passTick_50 : decode cX0_passTick 50 = .ok (.ifCond .eq 7, 3) := by decide +kernel
theorem dX0_passTick_53 : decode cX0_passTick 53 = .ok (.aload_n 0, 1) := by decide +kernel
theorem dX0_passTick_54 : decode cX0_passTick 54 = .ok (.invokevirtual 117, 3) := by decide +kernel
theorem dX0_passTick_57 : decode cX0_passTick 57 = .ok (.aload_n 0, 1) := by decide +kernel
theorem dX0_passTick_58 : decode cX0_passTick 58 = .ok (.dup, 1) := by decide +kernel
theorem dX0_passTick_59 : decode cX0_passTick 59 = .ok (.getfield 69, 3) := by decide +kernel
theorem dX0_passTick_62 : decode cX0_passTick 62 = .ok (.iconst 1, 1) := by decide +kernel
theorem dX0_passTick_63 : decode cX0_passTick 63 = .ok (.iadd, 1) := by decide +kernel
theorem dX0_passTick_64 : decode cX0_passTick 64 = .ok (.putfield 69, 3) := by decide +kernel
theorem dX0_passTick_67 : decode cX0_passTick 67 = .ok (.iload_n 2, 1) := by decide +kernel
theorem dX0_passTick_68 : decode cX0_passTick 68 = .ok (.ifCond .eq 11, 3) := by decide +kernel
theorem dX0_passTick_71 : decode cX0_passTick 71 = .ok (.iload_n 3, 1) := by decide +kernel
theorem dX0_passTick_72 : decode cX0_passTick 72 = .ok (.ifCond .ne 7, 3) := by decide +kernel
theorem dX0_passTick_75 : decode cX0_passTick 75 = .ok (.iconst 1, 1) := by decide +kernel
theorem dX0_passTick_76 : decode cX0_passTick 76 = .ok (.goto 4, 3) := by decide +kernel
theorem dX0_passTick_79 : decode cX0_passTick 79 = .ok (.iconst 0, 1) := by decide +kernel
theorem dX0_passTick_80 : decode cX0_passTick 80 = .ok (.ireturn, 1) := by decide +kernel
theorem dX0_shine_0 : decode cX0_shine 0 = .ok (.aload_n 0, 1) := by decide +kernel
theorem dX0_shine_1 : decode cX0_shine 1 = .ok (.getfield 30, 3) := by decide +kernel
theorem dX0_shine_4 : decode cX0_shine 4 = .ok (.aload_n 0, 1) := by decide +kernel
theorem dX0_shine_5 : decode cX0_shine 5 = .ok (.getfield 30, 3) := by decide +kernel
theorem dX0_shine_8 : decode cX0_shine 8 = .ok (.getfield 120, 3) := by decide +kernel
theorem dX0_shine_11 : decode cX0_shine 11 = .ok (.invokevirtual 123, 3) := by decide +kernel
theorem dX0_shine_14 : decode cX0_shine 14 = .ok (.astore_n 1, 1) := by decide +kernel
theorem dX0_shine_15 : decode cX0_shine 15 = .ok (.aload_n 1, 1) := by decide +kernel
theorem dX0_shine_16 : decode cX0_shine 16 = .ok (.invokevirtual 127, 3) := by decide +kernel
theorem dX0_shine_19 : decode cX0_shine 19 = .ok (.ifCond .eq 9, 3) := by decide +kernel
theorem dX0_shine_22 : decode cX0_shine 22 = .ok (.aload_n 0, 1) := by decide +kernel
theorem dX0_shine_23 : decode cX0_shine 23 = .ok (.aload_n 1, 1) := by decide +kernel
theorem dX0_shine_24 : decode cX0_shine 24 = .ok (.invokevirtual 132, 3) := by decide +kernel
theorem dX0_shine_27 : decode cX0_shine 27 = .ok (.ireturn, 1) := by decide +kernel
theorem dX0_shine_28 : decode cX0_shine 28 = .ok (.aload_n 0, 1) := by decide +kernel
theorem dX0_shine_29 : decode cX0_shine 29 = .ok (.getfield 30, 3) := by decide +kernel
theorem dX0_shine_32 : decode cX0_shine 32 = .ok (.invokevirtual 136, 3) := by decide +kernel
theorem dX0_shine_35 : decode cX0_shine 35 = .ok (.istore_n 2, 1) := by decide +kernel
theorem dX0_shine_36 : decode cX0_shine 36 = .ok (.iload_n 2, 1) := by decide +kernel
theorem dX0_shine_37 : decode cX0_shine 37 = .ok (.bipush (-5), 2) := by decide +kernel
theorem dX0_shine_39 : decode cX0_shine 39 = .ok (.if_icmp .eq 20, 3) := by decide +kernel
theorem dX0_shine_42 : decode cX0_shine 42 = .ok (.iload_n 2, 1) := by decide +kernel
theorem dX0_shine_43 : decode cX0_shine 43 = .ok (.aload_n 0, 1) := by decide +kernel
theorem dX0_shine_44 : decode cX0_shine 44 = .ok (.getfield 30, 3) := by decide +kernel
theorem dX0_shine_47 : decode cX0_shine 47 = .ok (.getfield 120, 3) := by decide +kernel
theorem dX0_shine_50 : decode cX0_shine 50 = .ok (.if_icmp .eq 9, 3) := by decide +kernel
theorem dX0_shine_53 : decode cX0_shine 53 = .ok (.aload_n 0, 1) := by decide +kernel
theorem dX0_shine_54 : decode cX0_shine 54 = .ok (.iconst 2, 1) := by decide +kernel
theorem dX0_shine_55 : decode cX0_shine 55 = .ok (.iload_n 2, 1) := by decide +kernel
theorem dX0_shine_56 : decode cX0_shine 56 = .ok (.invokevirtual 139, 3) := by decide +kernel
theorem dX0_shine_59 : decode cX0_shine 59 = .ok (.iconst 0, 1) := by decide +kernel
theorem dX0_shine_60 : decode cX0_shine 60 = .ok (.ireturn, 1) := by decide +kernel
theorem dX0_burn_0 : decode cX0_burn 0 = .ok (.aload_n 0, 1) := by decide +kernel
theorem dX0_burn_1 : decode cX0_burn 1 = .ok (.getfield 30, 3) := by decide +kernel
theorem dX0_burn_4 : decode cX0_burn 4 = .ok (.getfield 143, 3) := by decide +kernel
theorem dX0_burn_7 : decode cX0_burn 7 = .ok (.ifCond .ne 7, 3) := by decide +kernel
theorem dX0_burn_10 : decode cX0_burn 10 = .ok (.aload_n 1, 1) := by decide +kernel
theorem dX0_burn_11 : decode cX0_burn 11 = .ok (.invokevirtual 147, 3) := by decide +kernel
theorem dX0_burn_14 : decode cX0_burn 14 = .ok (.aload_n 1, 1) := by decide +kernel
theorem dX0_burn_15 : decode cX0_burn 15 = .ok (.invokevirtual 150, 3) := by decide +kernel
theorem dX0_burn_18 : decode cX0_burn 18 = .ok (.ifCond .ne 7, 3) := by decide +kernel
theorem dX0_burn_21 : decode cX0_burn 21 = .ok (.iconst 1, 1) := by decide +kernel
theorem dX0_burn_22 : decode cX0_burn 22 = .ok (.goto 4, 3) := by decide +kernel
theorem dX0_burn_25 : decode cX0_burn 25 = .ok (.iconst 0, 1) := by decide +kernel
theorem dX0_burn_26 : decode cX0_burn 26 = .ok (.istore_n 2, 1) := by decide +kernel
theorem dX0_burn_27 : decode cX0_burn 27 = .ok (.iload_n 2, 1) := by decide +kernel
theorem dX0_burn_28 : decode cX0_burn 28 = .ok (.ifCond .eq 38, 3) := by decide +kernel
theorem dX0_burn_31 : decode cX0_burn 31 = .ok (.aload_n 1, 1) := by decide +kernel
theorem dX0_burn_32 : decode cX0_burn 32 = .ok (.aload_n 0, 1) := by decide +kernel
theorem dX0_burn_33 : decode cX0_burn 33 = .ok (.getfield 13, 3) := by decide +kernel
theorem dX0_burn_36 : decode cX0_burn 36 = .ok (.iconst 0, 1) := by decide +kernel
theorem dX0_burn_37 : decode cX0_burn 37 = .ok (.invokestatic 18, 3) := by decide +kernel
theorem dX0_burn_40 : decode cX0_burn 40 = .ok (.aload_n 0, 1) := by decide +kernel
theorem dX0_burn_41 : decode cX0_burn 41 = .ok (.getfield 13, 3) := by decide +kernel
theorem dX0_burn_44 : decode cX0_burn 44 = .ok (.iconst 1, 1) := by decide +kernel
theorem dX0_burn_45 : decode cX0_burn 45 = .ok (.invokestatic 18, 3) := by decide +kernel
theorem dX0_burn_48 : decode cX0_burn 48 = .ok (.invokevirtual 153, 3) := by decide +kernel
theorem dX0_burn_51 : decode cX0_burn 51 = .ok (.ifCond .eq 15, 3) := by decide +kernel
theorem dX0_burn_54 : decode cX0_burn 54 = .ok (.aload_n 0, 1) := by decide +kernel
theorem dX0_burn_55 : decode cX0_burn 55 = .ok (.iconst 1, 1) := by decide +kernel
theorem dX0_burn_56 : decode cX0_burn 56 = .ok (.aload_n 0, 1) := by decide +kernel
theorem dX0_burn_57 : decode cX0_burn 57 = .ok (.getfield 30, 3) := by decide +kernel
theorem dX0_burn_60 : decode cX0_burn 60 = .ok (.getfield 120, 3) := by decide +kernel
theorem dX0_burn_63 : decode cX0_burn 63 = .ok (.invokevirtual 157, 3) := by decide +kernel
theorem dX0_burn_66 : decode cX0_burn 66 = .ok (.aload_n 0, 1) := by decide +kernel
theorem dX0_burn_67 : decode cX0_burn 67 = .ok (.getfield 30, 3) := by decide +kernel
theorem dX0_burn_70 : decode cX0_burn 70 = .ok (.aload_n 1, 1) := by decide +kernel
theorem dX0_burn_71 : decode cX0_burn 71 = .ok (.invokevirtual 150, 3) := by decide +kernel
theorem dX0_burn_74 : decode cX0_burn 74 = .ok (.ifCond .ne 7, 3) := by decide +kernel
theorem dX0_burn_77 : decode cX0_burn 77 = .ok (.iconst 1, 1) := by decide +kernel
theorem dX0_burn_78 : decode cX0_burn 78 = .ok (.goto 4, 3) := by decide +kernel
theorem dX0_burn_81 : decode cX0_burn 81 = .ok (.iconst 0, 1) := by decide +kernel
theorem dX0_burn_82 : decode cX0_burn 82 = .ok (.putfield 143, 3) := by decide +kernel
theorem dX0_burn_85 : decode cX0_burn 85 = .ok (.aload_n 0, 1) := by decide +kernel
theorem dX0_burn_86 : decode cX0_burn 86 = .ok (.getfield 30, 3) := by decide +kernel
theorem dX0_burn_89 : decode cX0_burn 89 = .ok (.getfield 143, 3) := by decide +kernel
theorem dX0_burn_92 : decode cX0_burn 92 = .ok (.ifCond .ne 15, 3) := by decide +kernel
theorem dX0_burn_95 : decode cX0_burn 95 = .ok (.aload_n 0, 1) := by decide +kernel
theorem dX0_burn_96 : decode cX0_burn 96 = .ok (.iconst 0, 1) := by decide +kernel
theorem dX0_burn_97 : decode cX0_burn 97 = .ok (.aload_n 0, 1) := by decide +kernel
theorem dX0_burn_98 : decode cX0_burn 98 = .ok (.getfield 30, 3) := by decide +kernel
theorem dX0_burn_101 : decode cX0_burn 101 = .ok (.getfield 120, 3) := by decide +kernel
theorem dX0_burn_104 : decode cX0_burn 104 = .ok (.invokevirtual 157, 3) := by decide +kernel
theorem dX0_burn_107 : decode cX0_burn 107 = .ok (.iload_n 2, 1) := by decide +kernel
theorem dX0_burn_108 : decode cX0_burn 108 = .ok (.ireturn, 1) := by decide +kernel
theorem dX0_rest_0 : decode cX0_rest 0 = .ok (.aload_n 0, 1) := by decide +kernel
theorem dX0_rest_1 : decode cX0_rest 1 = .ok (.getfield 30, 3) := by decide +kernel
theorem dX0_rest_4 : decode cX0_rest 4 = .ok (.iconst 0, 1) := by decide +kernel
theorem dX0_rest_5 : decode cX0_rest 5 = .ok (.putfield 143, 3) := by decide +kernel
theorem dX0_rest_8 : decode cX0_rest 8 = .ok (.aload_n 0, 1) := by decide +kernel
theorem dX0_rest_9 : decode cX0_rest 9 = .ok (.getfield 30, 3) := by decide +kernel
theorem dX0_rest_12 : decode cX0_rest 12 = .ok (.aload_n 0, 1) := by decide +kernel
theorem dX0_rest_13 : decode cX0_rest 13 = .ok (.getfield 30, 3) := by decide +kernel
theorem dX0_rest_16 : decode cX0_rest 16 = .ok (.getfield 120, 3) := by decide +kernel
theorem dX0_rest_19 : decode cX0_rest 19 = .ok (.invokevirtual 123, 3) := by decide +kernel
theorem dX0_rest_22 : decode cX0_rest 22 = .ok (.invokevirtual 160, 3) := by decide +kernel
theorem dX0_rest_25 : decode cX0_rest 25 = .ok (.ifCond .eq 4, 3) := by decide +kernel
theorem dX0_rest_28 : decode cX0_rest 28 = .ok (.return_, 1) := by decide +kernel
theorem dX0_rest_29 : decode cX0_rest 29 = .ok (.aload_n 0, 1) := by decide +kernel
theorem dX0_rest_30 : decode cX0_rest 30 = .ok (.getfield 30, 3) := by decide +kernel
theorem dX0_rest_33 : decode cX0_rest 33 = .ok (.invokevirtual 136, 3) := by decide +kernel
theorem dX0_rest_36 : decode cX0_rest 36 = .ok (.istore_n 1, 1) := by decide +kernel
theorem dX0_rest_37 : decode cX0_rest 37 = .ok (.aload_n 0, 1) := by decide +kernel
theorem dX0_rest_38 : decode cX0_rest 38 = .ok (.getfield 30, 3) := by decide +kernel
theorem dX0_rest_41 : decode cX0_rest 41 = .ok (.iload_n 1, 1) := by decide +kernel
theorem dX0_rest_42 : decode cX0_rest 42 = .ok (.invokevirtual 123, 3) := by decide +kernel
theorem dX0_rest_45 : decode cX0_rest 45 = .ok (.invokevirtual 160, 3) := by decide +kernel
theorem dX0_rest_48 : decode cX0_rest 48 = .ok (.ifCond .eq 9, 3) := by decide +kernel
theorem dX0_rest_51 : decode cX0_rest 51 = .ok (.aload_n 0, 1) := by decide +kernel
theorem dX0_rest_52 : decode cX0_rest 52 = .ok (.iconst 3, 1) := by decide +kernel
theorem dX0_rest_53 : decode cX0_rest 53 = .ok (.iload_n 1, 1) := by decide +kernel
theorem dX0_rest_54 : decode cX0_rest 54 = .ok (.invokevirtual 139, 3) := by decide +kernel
theorem dX0_rest_57 : decode cX0_rest 57 = .ok (.return_, 1) := by decide +kernel
theorem dX0_turnFor_0 : decode cX0_turnFor 0 = .ok (.aload_n 0, 1) := by decide +kernel
theorem dX0_turnFor_1 : decode cX0_turnFor 1 = .ok (.getfield 30, 3) := by decide +kernel
theorem dX0_turnFor_4 : decode cX0_turnFor 4 = .ok (.iload_n 2, 1) := by decide +kernel
theorem dX0_turnFor_5 : decode cX0_turnFor 5 = .ok (.aload_n 0, 1) := by decide +kernel
theorem dX0_turnFor_6 : decode cX0_turnFor 6 = .ok (.getfield 13, 3) := by decide +kernel
theorem dX0_turnFor_9 : decode cX0_turnFor 9 = .ok (.iconst 2, 1) := by decide +kernel
theorem dX0_turnFor_10 : decode cX0_turnFor 10 = .ok (.invokestatic 18, 3) := by decide +kernel
theorem dX0_turnFor_13 : decode cX0_turnFor 13 = .ok (.invokevirtual 163, 3) := by decide +kernel
theorem dX0_turnFor_16 : decode cX0_turnFor 16 = .ok (.aload_n 0, 1) := by decide +kernel
theorem dX0_turnFor_17 : decode cX0_turnFor 17 = .ok (.iload_n 1, 1) := by decide +kernel
theorem dX0_turnFor_18 : decode cX0_turnFor 18 = .ok (.iload_n 2, 1) := by decide +kernel
theorem dX0_turnFor_19 : decode cX0_turnFor 19 = .ok (.invokevirtual 157, 3) := by decide +kernel
theorem dX0_turnFor_22 : decode cX0_turnFor 22 = .ok (.return_, 1) := by decide +kernel
theorem dX0_noteChange_0 : decode cX0_noteChange 0 = .ok (.aload_n 0, 1) := by decide +kernel
theorem dX0_noteChange_1 : decode cX0_noteChange 1 = .ok (.getfield 44, 3) := by decide +kernel
theorem dX0_noteChange_4 : decode cX0_noteChange 4 = .ok (.iload_n 1, 1) := by decide +kernel
theorem dX0_noteChange_5 : decode cX0_noteChange 5 = .ok (.iload_n 2, 1) := by decide +kernel
theorem dX0_noteChange_6 : decode cX0_noteChange 6 = .ok (.aload_n 0, 1) := by decide +kernel
theorem dX0_noteChange_7 : decode cX0_noteChange 7 = .ok (.getfield 69, 3) := by decide +kernel
theorem dX0_noteChange_10 : decode cX0_noteChange 10 = .ok (.invokevirtual 166, 3) := by decide +kernel
theorem dX0_noteChange_13 : decode cX0_noteChange 13 = .ok (.aload_n 0, 1) := by decide +kernel
theorem dX0_noteChange_14 : decode cX0_noteChange 14 = .ok (.dup, 1) := by decide +kernel
theorem dX0_noteChange_15 : decode cX0_noteChange 15 = .ok (.getfield 78, 3) := by decide +kernel
theorem dX0_noteChange_18 : decode cX0_noteChange 18 = .ok (.iconst 1, 1) := by decide +kernel
theorem dX0_noteChange_19 : decode cX0_noteChange 19 = .ok (.iadd, 1) := by decide +kernel
theorem dX0_noteChange_20 : decode cX0_noteChange 20 = .ok (.putfield 78, 3) := by decide +kernel
theorem dX0_noteChange_23 : decode cX0_noteChange 23 = .ok (.return_, 1) := by decide +kernel
theorem dX0_countNightTick_0 : decode cX0_countNightTick 0 = .ok (.iload_n 1, 1) := by decide +kernel
theorem dX0_countNightTick_1 : decode cX0_countNightTick 1 = .ok (.ifCond .eq 9, 3) := by decide +kernel
theorem dX0_countNightTick_4 : decode cX0_countNightTick 4 = .ok (.aload_n 0, 1) := by decide +kernel
theorem dX0_countNightTick_5 : decode cX0_countNightTick 5 = .ok (.iconst 0, 1) := by decide +kernel
theorem dX0_countNightTick_6 : decode cX0_countNightTick 6 = .ok (.putfield 84, 3) := by decide +kernel
theorem dX0_countNightTick_9 : decode cX0_countNightTick 9 = .ok (.return_, 1) := by decide +kernel
theorem dX0_countNightTick_10 : decode cX0_countNightTick 10 = .ok (.aload_n 0, 1) := by decide +kernel
theorem dX0_countNightTick_11 : decode cX0_countNightTick 11 = .ok (.dup, 1) := by decide +kernel
theorem dX0_countNightTick_12 : decode cX0_countNightTick 12 = .ok (.getfield 72, 3) := by decide +kernel
theorem dX0_countNightTick_15 : decode cX0_countNightTick 15 = .ok (.iconst 1, 1) := by decide +kernel
theorem dX0_countNightTick_16 : decode cX0_countNightTick 16 = .ok (.iadd, 1) := by decide +kernel
theorem dX0_countNightTick_17 : decode cX0_countNightTick 17 = .ok (.putfield 72, 3) := by decide +kernel
theorem dX0_countNightTick_20 : decode cX0_countNightTick 20 = .ok (.aload_n 0, 1) := by decide +kernel
theorem dX0_countNightTick_21 : decode cX0_countNightTick 21 = .ok (.dup, 1) := by decide +kernel
theorem dX0_countNightTick_22 : decode cX0_countNightTick 22 = .ok (.getfield 84, 3) := by decide +kernel
theorem dX0_countNightTick_25 : decode cX0_countNightTick 25 = .ok (.iconst 1, 1) := by decide +kernel
theorem dX0_countNightTick_26 : decode cX0_countNightTick 26 = .ok (.iadd, 1) := by decide +kernel
theorem dX0_countNightTick_27 : decode cX0_countNightTick 27 = .ok (.putfield 84, 3) := by decide +kernel
theorem dX0_countNightTick_30 : decode cX0_countNightTick 30 = .ok (.aload_n 0, 1) := by decide +kernel
theorem dX0_countNightTick_31 : decode cX0_countNightTick 31 = .ok (.aload_n 0, 1) := by decide +kernel
theorem dX0_countNightTick_32 : decode cX0_countNightTick 32 = .ok (.getfield 75, 3) := by decide +kernel
theorem dX0_countNightTick_35 : decode cX0_countNightTick 35 = .ok (.aload_n 0, 1) := by decide +kernel
theorem dX0_countNightTick_36 : decode cX0_countNightTick 36 = .ok (.getfield 84, 3) := by decide +kernel
theorem dX0_countNightTick_39 : decode cX0_countNightTick 39 = .ok (.invokestatic 170, 3) := by decide +kernel
theorem dX0_countNightTick_42 : decode cX0_countNightTick 42 = .ok (.putfield 75, 3) := by decide +kernel
theorem dX0_countNightTick_45 : decode cX0_countNightTick 45 = .ok (.return_, 1) := by decide +kernel
theorem dX0_receiveBoat_0 : decode cX0_receiveBoat 0 = .ok (.aload_n 0, 1) := by decide +kernel
theorem dX0_receiveBoat_1 : decode cX0_receiveBoat 1 = .ok (.getfield 37, 3) := by decide +kernel
theorem dX0_receiveBoat_4 : decode cX0_receiveBoat 4 = .ok (.aload_n 0, 1) := by decide +kernel
theorem dX0_receiveBoat_5 : decode cX0_receiveBoat 5 = .ok (.getfield 69, 3) := by decide +kernel
theorem dX0_receiveBoat_8 : decode cX0_receiveBoat 8 = .ok (.invokevirtual 173, 3) := by decide +kernel
theorem dX0_receiveBoat_11 : decode cX0_receiveBoat 11 = .ok (.istore_n 1, 1) := by decide +kernel
theorem dX0_receiveBoat_12 : decode cX0_receiveBoat 12 = .ok (.iload_n 1, 1) := by decide +kernel
theorem dX0_receiveBoat_13 : decode cX0_receiveBoat 13 = .ok (.bipush (-5), 2) := by decide +kernel
theorem dX0_receiveBoat_15 : decode cX0_receiveBoat 15 = .ok (.if_icmp .ne 4, 3) := by decide +kernel
theorem dX0_receiveBoat_18 : decode cX0_receiveBoat 18 = .ok (.return_, 1) := by decide +kernel
theorem dX0_receiveBoat_19 : decode cX0_receiveBoat 19 = .ok (.aload_n 0, 1) := by decide +kernel
theorem dX0_receiveBoat_20 : decode cX0_receiveBoat 20 = .ok (.getfield 37, 3) := by decide +kernel
theorem dX0_receiveBoat_23 : decode cX0_receiveBoat 23 = .ok (.getfield 177, 3) := by decide +kernel
theorem dX0_receiveBoat_26 : decode cX0_receiveBoat 26 = .ok (.iload_n 1, 1) := by decide +kernel
theorem dX0_receiveBoat_27 : decode cX0_receiveBoat 27 = .ok (.invokestatic 18, 3) := by decide +kernel
theorem dX0_receiveBoat_30 : decode cX0_receiveBoat 30 = .ok (.istore_n 2, 1) := by decide +kernel
theorem dX0_receiveBoat_31 : decode cX0_receiveBoat 31 = .ok (.aload_n 0, 1) := by decide +kernel
theorem dX0_receiveBoat_32 : decode cX0_receiveBoat 32 = .ok (.getfield 24, 3) := by decide +kernel
theorem dX0_receiveBoat_35 : decode cX0_receiveBoat 35 = .ok (.iload_n 2, 1) := by decide +kernel
theorem dX0_receiveBoat_36 : decode cX0_receiveBoat 36 = .ok (.invokestatic 18, 3) := by decide +kernel
theorem dX0_receiveBoat_39 : decode cX0_receiveBoat 39 = .ok (.aload_n 0, 1) := by decide +kernel
theorem dX0_receiveBoat_40 : decode cX0_receiveBoat 40 = .ok (.getfield 37, 3) := by decide +kernel
theorem dX0_receiveBoat_43 : decode cX0_receiveBoat 43 = .ok (.getfield 180, 3) := by decide +kernel
theorem dX0_receiveBoat_46 : decode cX0_receiveBoat 46 = .ok (.iload_n 1, 1) := by decide +kernel
theorem dX0_receiveBoat_47 : decode cX0_receiveBoat 47 = .ok (.invokestatic 18, 3) := by decide +kernel
theorem dX0_receiveBoat_50 : decode cX0_receiveBoat 50 = .ok (.iadd, 1) := by decide +kernel
theorem dX0_receiveBoat_51 : decode cX0_receiveBoat 51 = .ok (.istore_n 3, 1) := by decide +kernel
theorem dX0_receiveBoat_52 : decode cX0_receiveBoat 52 = .ok (.aload_n 0, 1) := by decide +kernel
theorem dX0_receiveBoat_53 : decode cX0_receiveBoat 53 = .ok (.getfield 24, 3) := by decide +kernel
theorem dX0_receiveBoat_56 : decode cX0_receiveBoat 56 = .ok (.iload_n 2, 1) := by decide +kernel
theorem dX0_receiveBoat_57 : decode cX0_receiveBoat 57 = .ok (.iload_n 3, 1) := by decide +kernel
theorem dX0_receiveBoat_58 : decode cX0_receiveBoat 58 = .ok (.bipush 99, 2) := by decide +kernel
theorem dX0_receiveBoat_60 : decode cX0_receiveBoat 60 = .ok (.invokestatic 183, 3) := by decide +kernel
theorem dX0_receiveBoat_63 : decode cX0_receiveBoat 63 = .ok (.invokestatic 186, 3) := by decide +kernel
theorem dX0_receiveBoat_66 : decode cX0_receiveBoat 66 = .ok (.aload_n 0, 1) := by decide +kernel
theorem dX0_receiveBoat_67 : decode cX0_receiveBoat 67 = .ok (.invokevirtual 190, 3) := by decide +kernel
theorem dX0_receiveBoat_70 : decode cX0_receiveBoat 70 = .ok (.aload_n 0, 1) := by decide +kernel
theorem dX0_receiveBoat_71 : decode cX0_receiveBoat 71 = .ok (.getfield 44, 3) := by decide +kernel
theorem dX0_receiveBoat_74 : decode cX0_receiveBoat 74 = .ok (.iconst 4, 1) := by decide +kernel
theorem dX0_receiveBoat_75 : decode cX0_receiveBoat 75 = .ok (.aload_n 0, 1) := by decide +kernel
theorem dX0_receiveBoat_76 : decode cX0_receiveBoat 76 = .ok (.invokevirtual 193, 3) := by decide +kernel
theorem dX0_receiveBoat_79 : decode cX0_receiveBoat 79 = .ok (.aload_n 0, 1) := by decide +kernel
theorem dX0_receiveBoat_80 : decode cX0_receiveBoat 80 = .ok (.getfield 69, 3) := by decide +kernel
theorem dX0_receiveBoat_83 : decode cX0_receiveBoat 83 = .ok (.invokevirtual 166, 3) := by decide +kernel
theorem dX0_receiveBoat_86 : decode cX0_receiveBoat 86 = .ok (.aload_n 0, 1) := by decide +kernel
theorem dX0_receiveBoat_87 : decode cX0_receiveBoat 87 = .ok (.dup, 1) := by decide +kernel
theorem dX0_receiveBoat_88 : decode cX0_receiveBoat 88 = .ok (.getfield 81, 3) := by decide +kernel
theorem dX0_receiveBoat_91 : decode cX0_receiveBoat 91 = .ok (.iconst 1, 1) := by decide +kernel
theorem dX0_receiveBoat_92 : decode cX0_receiveBoat 92 = .ok (.iadd, 1) := by decide +kernel
theorem dX0_receiveBoat_93 : decode cX0_receiveBoat 93 = .ok (.putfield 81, 3) := by decide +kernel
theorem dX0_receiveBoat_96 : decode cX0_receiveBoat 96 = .ok (.return_, 1) := by decide +kernel
theorem dX0_takeOldLampsOut_0 : decode cX0_takeOldLampsOut 0 = .ok (.aload_n 0, 1) := by decide +kernel
theorem dX0_takeOldLampsOut_1 : decode cX0_takeOldLampsOut 1 = .ok (.getfield 13, 3) := by decide +kernel
theorem dX0_takeOldLampsOut_4 : decode cX0_takeOldLampsOut 4 = .ok (.iconst 3, 1) := by decide +kernel
theorem dX0_takeOldLampsOut_5 : decode cX0_takeOldLampsOut 5 = .ok (.invokestatic 18, 3) := by decide +kernel
theorem dX0_takeOldLampsOut_8 : decode cX0_takeOldLampsOut 8 = .ok (.iconst 1, 1) := by decide +kernel
theorem dX0_takeOldLampsOut_9 : decode cX0_takeOldLampsOut 9 = .ok (.if_icmp .ne 7, 3) := by decide +kernel
theorem dX0_takeOldLampsOut_12 : decode cX0_takeOldLampsOut 12 = .ok (.iconst 1, 1) := by decide +kernel
theorem dX0_takeOldLampsOut_13 : decode cX0_takeOldLampsOut 13 = .ok (.goto 4, 3) := by decide +kernel
theorem dX0_takeOldLampsOut_16 : decode cX0_takeOldLampsOut 16 = .ok (.iconst 0, 1) := by decide +kernel
theorem dX0_takeOldLampsOut_17 : decode cX0_takeOldLampsOut 17 = .ok (.istore_n 1, 1) := by decide +kernel
theorem dX0_takeOldLampsOut_18 : decode cX0_takeOldLampsOut 18 = .ok (.iconst 0, 1) := by decide +kernel
theorem dX0_takeOldLampsOut_19 : decode cX0_takeOldLampsOut 19 = .ok (.istore_n 2, 1) := by decide +kernel
theorem dX0_takeOldLampsOut_20 : decode cX0_takeOldLampsOut 20 = .ok (.iload_n 2, 1) := by decide +kernel
theorem dX0_takeOldLampsOut_21 : decode cX0_takeOldLampsOut 21 = .ok (.bipush 6, 2) := by decide +kernel
theorem dX0_takeOldLampsOut_23 : decode cX0_takeOldLampsOut 23 = .ok (.if_icmp .ge 63, 3) := by decide +kernel
theorem dX0_takeOldLampsOut_26 : decode cX0_takeOldLampsOut 26 = .ok (.aload_n 0, 1) := by decide +kernel
theorem dX0_takeOldLampsOut_27 : decode cX0_takeOldLampsOut 27 = .ok (.getfield 30, 3) := by decide +kernel
theorem dX0_takeOldLampsOut_30 : decode cX0_takeOldLampsOut 30 = .ok (.iload_n 2, 1) := by decide +kernel
theorem dX0_takeOldLampsOut_31 : decode cX0_takeOldLampsOut 31 = .ok (.invokevirtual 123, 3) := by decide +kernel
theorem dX0_takeOldLampsOut_34 : decode cX0_takeOldLampsOut 34 = .ok (.astore_n 3, 1) := by decide +kernel
theorem dX0_takeOldLampsOut_35 : decode cX0_takeOldLampsOut 35 = .ok (.aload_n 3, 1) := by decide +kernel
theorem dX0_takeOldLampsOut_36 : decode cX0_takeOldLampsOut 36 = .ok (.invokevirtual 150, 3) := by decide +kernel
theorem dX0_takeOldLampsOut_39 : decode cX0_takeOldLampsOut 39 = .ok (.ifCond .ne 14, 3) := by decide +kernel
theorem dX0_takeOldLampsOut_42 : decode cX0_takeOldLampsOut 42 = .ok (.iload_n 1, 1) := by decide +kernel
theorem dX0_takeOldLampsOut_43 : decode cX0_takeOldLampsOut 43 = .ok (.ifCond .eq 14, 3) := by decide +kernel
theorem dX0_takeOldLampsOut_46 : decode cX0_takeOldLampsOut 46 = .ok (.aload_n 3, 1) := by decide +kernel
theorem dX0_takeOldLampsOut_47 : decode cX0_takeOldLampsOut 47 = .ok (.getfield 196, 3) := by decide +kernel
theorem dX0_takeOldLampsOut_50 : decode cX0_takeOldLampsOut 50 = .ok (.ifCond .eq 7, 3) := by decide +kernel
theorem dX0_takeOldLampsOut_53 : decode cX0_takeOldLampsOut 53 = .ok (.iconst 1, 1) := by decide +kernel
theorem dX0_takeOldLampsOut_54 : decode cX0_takeOldLampsOut 54 = .ok (.goto 4, 3) := by decide +kernel
theorem dX0_takeOldLampsOut_57 : decode cX0_takeOldLampsOut 57 = .ok (.iconst 0, 1) := by decide +kernel
theorem dX0_takeOldLampsOut_58 : decode cX0_takeOldLampsOut 58 = .ok (.istore 4, 2) := by decide +kernel
theorem dX0_takeOldLampsOut_60 : decode cX0_takeOldLampsOut 60 = .ok (.iload 4, 2) := by decide +kernel
theorem dX0_takeOldLampsOut_62 : decode cX0_takeOldLampsOut 62 = .ok (.ifCond .eq 18, 3) := by decide +kernel
theorem dX0_takeOldLampsOut_65 : decode cX0_takeOldLampsOut 65 = .ok (.aload_n 0, 1) := by decide +kernel
theorem dX0_takeOldLampsOut_66 : decode cX0_takeOldLampsOut 66 = .ok (.getfield 30, 3) := by decide +kernel
theorem dX0_takeOldLampsOut_69 : decode cX0_takeOldLampsOut 69 = .ok (.iload_n 2, 1) := by decide +kernel
theorem dX0_takeOldLampsOut_70 : decode cX0_takeOldLampsOut 70 = .ok (.invokevirtual 199, 3) := by decide +kernel
theorem dX0_takeOldLampsOut_73 : decode cX0_takeOldLampsOut 73 = .ok (.ifCond .ne 7, 3) := by decide +kernel
theorem dX0_takeOldLampsOut_76 : decode cX0_takeOldLampsOut 76 = .ok (.aload_n 3, 1) := by decide +kernel
theorem dX0_takeOldLampsOut_77 : decode cX0_takeOldLampsOut 77 = .ok (.invokevirtual 203, 3) := by decide +kernel
theorem dX0_takeOldLampsOut_80 : decode cX0_takeOldLampsOut 80 = .ok (.iinc 2 1, 3) := by decide +kernel
theorem dX0_takeOldLampsOut_83 : decode cX0_takeOldLampsOut 83 = .ok (.goto (-63), 3) := by decide +kernel
theorem dX0_takeOldLampsOut_86 : decode cX0_takeOldLampsOut 86 = .ok (.return_, 1) := by decide +kernel
theorem dX0_fillEmptySockets_0 : decode cX0_fillEmptySockets 0 = .ok (.iconst 0, 1) := by decide +kernel
theorem dX0_fillEmptySockets_1 : decode cX0_fillEmptySockets 1 = .ok (.istore_n 1, 1) := by decide +kernel
theorem dX0_fillEmptySockets_2 : decode cX0_fillEmptySockets 2 = .ok (.iconst 0, 1) := by decide +kernel
theorem dX0_fillEmptySockets_3 : decode cX0_fillEmptySockets 3 = .ok (.istore_n 2, 1) := by decide +kernel
theorem dX0_fillEmptySockets_4 : decode cX0_fillEmptySockets 4 = .ok (.iload_n 2, 1) := by decide +kernel
theorem dX0_fillEmptySockets_5 : decode cX0_fillEmptySockets 5 = .ok (.bipush 6, 2) := by decide +kernel
theorem dX0_fillEmptySockets_7 : decode cX0_fillEmptySockets 7 = .ok (.if_icmp .ge 69, 3) := by decide +kernel
theorem dX0_fillEmptySockets_10 : decode cX0_fillEmptySockets 10 = .ok (.aload_n 0, 1) := by decide +kernel
theorem dX0_fillEmptySockets_11 : decode cX0_fillEmptySockets 11 = .ok (.getfield 30, 3) := by decide +kernel
theorem dX0_fillEmptySockets_14 : decode cX0_fillEmptySockets 14 = .ok (.iload_n 2, 1) := by decide +kernel
theorem dX0_fillEmptySockets_15 : decode cX0_fillEmptySockets 15 = .ok (.invokevirtual 123, 3) := by decide +kernel
theorem dX0_fillEmptySockets_18 : decode cX0_fillEmptySockets 18 = .ok (.astore_n 3, 1) := by decide +kernel
theorem dX0_fillEmptySockets_19 : decode cX0_fillEmptySockets 19 = .ok (.aload_n 0, 1) := by decide +kernel
theorem dX0_fillEmptySockets_20 : decode cX0_fillEmptySockets 20 = .ok (.invokevirtual 206, 3) := by decide +kernel
theorem dX0_fillEmptySockets_23 : decode cX0_fillEmptySockets 23 = .ok (.istore 4, 2) := by decide +kernel
theorem dX0_fillEmptySockets_25 : decode cX0_fillEmptySockets 25 = .ok (.aload_n 3, 1) := by decide +kernel
theorem dX0_fillEmptySockets_26 : decode cX0_fillEmptySockets 26 = .ok (.invokevirtual 209, 3) := by decide +kernel
theorem dX0_fillEmptySockets_29 : decode cX0_fillEmptySockets 29 = .ok (.ifCond .ne 41, 3) := by decide +kernel
theorem dX0_fillEmptySockets_32 : decode cX0_fillEmptySockets 32 = .ok (.iload 4, 2) := by decide +kernel
theorem dX0_fillEmptySockets_34 : decode cX0_fillEmptySockets 34 = .ok (.bipush (-5), 2) := by decide +kernel
theorem dX0_fillEmptySockets_36 : decode cX0_fillEmptySockets 36 = .ok (.if_icmp .eq 34, 3) := by decide +kernel
theorem dX0_fillEmptySockets_39 : decode cX0_fillEmptySockets 39 = .ok (.aload_n 0, 1) := by decide +kernel
theorem dX0_fillEmptySockets_40 : decode cX0_fillEmptySockets 40 = .ok (.getfield 24, 3) := by decide +kernel
theorem dX0_fillEmptySockets_43 : decode cX0_fillEmptySockets 43 = .ok (.iload 4, 2) := by decide +kernel
theorem dX0_fillEmptySockets_45 : decode cX0_fillEmptySockets 45 = .ok (.aload_n 0, 1) := by decide +kernel
theorem dX0_fillEmptySockets_46 : decode cX0_fillEmptySockets 46 = .ok (.getfield 24, 3) := by decide +kernel
theorem dX0_fillEmptySockets_49 : decode cX0_fillEmptySockets 49 = .ok (.iload 4, 2) := by decide +kernel
theorem dX0_fillEmptySockets_51 : decode cX0_fillEmptySockets 51 = .ok (.invokestatic 18, 3) := by decide +kernel
theorem dX0_fillEmptySockets_54 : decode cX0_fillEmptySockets 54 = .ok (.iconst 1, 1) := by decide +kernel
theorem dX0_fillEmptySockets_55 : decode cX0_fillEmptySockets 55 = .ok (.isub, 1) := by decide +kernel
theorem dX0_fillEmptySockets_56 : decode cX0_fillEmptySockets 56 = .ok (.invokestatic 186, 3) := by decide +kernel
theorem dX0_fillEmptySockets_59 : decode cX0_fillEmptySockets 59 = .ok (.aload_n 3, 1) := by decide +kernel
theorem dX0_fillEmptySockets_60 : decode cX0_fillEmptySockets 60 = .ok (.iload 4, 2) := by decide +kernel
theorem dX0_fillEmptySockets_62 : decode cX0_fillEmptySockets 62 = .ok (.bipush 100, 2) := by decide +kernel
theorem dX0_fillEmptySockets_64 : decode cX0_fillEmptySockets 64 = .ok (.invokevirtual 212, 3) := by decide +kernel
theorem dX0_fillEmptySockets_67 : decode cX0_fillEmptySockets 67 = .ok (.iinc 1 1, 3) := by decide +kernel
theorem dX0_fillEmptySockets_70 : decode cX0_fillEmptySockets 70 = .ok (.iinc 2 1, 3) := by decide +kernel
theorem dX0_fillEmptySockets_73 : decode cX0_fillEmptySockets 73 = .ok (.goto (-69), 3) := by decide +kernel
theorem dX0_fillEmptySockets_76 : decode cX0_fillEmptySockets 76 = .ok (.iload_n 1, 1) := by decide +kernel
theorem dX0_fillEmptySockets_77 : decode cX0_fillEmptySockets 77 = .ok (.ireturn, 1) := by decide +kernel
theorem dX0_lowestKindInStock_0 : decode cX0_lowestKindInStock 0 = .ok (.iconst 0, 1) := by decide +kernel
theorem dX0_lowestKindInStock_1 : decode cX0_lowestKindInStock 1 = .ok (.istore_n 1, 1) := by decide +kernel
theorem dX0_lowestKindInStock_2 : decode cX0_lowestKindInStock 2 = .ok (.iload_n 1, 1) := by decide +kernel
theorem dX0_lowestKindInStock_3 : decode cX0_lowestKindInStock 3 = .ok (.iconst 3, 1) := by decide +kernel
theorem dX0_lowestKindInStock_4 : decode cX0_lowestKindInStock 4 = .ok (.if_icmp .ge 22, 3) := by decide +kernel
theorem dX0_lowestKindInStock_7 : decode cX0_lowestKindInStock 7 = .ok (.aload_n 0, 1) := by decide +kernel
theorem dX0_lowestKindInStock_8 : decode cX0_lowestKindInStock 8 = .ok (.getfield 24, 3) := by decide +kernel
theorem dX0_lowestKindInStock_11 : decode cX0_lowestKindInStock 11 = .ok (.iload_n 1, 1) := by decide +kernel
theorem dX0_lowestKindInStock_12 : decode cX0_lowestKindInStock 12 = .ok (.invokestatic 18, 3) := by decide +kernel
theorem dX0_lowestKindInStock_15 : decode cX0_lowestKindInStock 15 = .ok (.ifCond .le 5, 3) := by decide +kernel
theorem dX0_lowestKindInStock_18 : decode cX0_lowestKindInStock 18 = .ok (.iload_n 1, 1) := by decide +kernel
theorem dX0_lowestKindInStock_19 : decode cX0_lowestKindInStock 19 = .ok (.ireturn, 1) := by decide +kernel
theorem dX0_lowestKindInStock_20 : decode cX0_lowestKindInStock 20 = .ok (.iinc 1 1, 3) := by decide +kernel
theorem dX0_lowestKindInStock_23 : decode cX0_lowestKindInStock 23 = .ok (.goto (-21), 3) := by decide +kernel
theorem dX0_lowestKindInStock_26 : decode cX0_lowestKindInStock 26 = .ok (.bipush (-5), 2) := by decide +kernel
theorem dX0_lowestKindInStock_28 : decode cX0_lowestKindInStock 28 = .ok (.ireturn, 1) := by decide +kernel
theorem dX1_init_0 : decode cX1_init 0 = .ok (.aload_n 0, 1) := by decide +kernel
theorem dX1_init_1 : decode cX1_init 1 = .ok (.invokespecial 3, 3) := by decide +kernel
theorem dX1_init_4 : decode cX1_init 4 = .ok (.aload_n 0, 1) := by decide +kernel
theorem dX1_init_5 : decode cX1_init 5 = .ok (.bipush 10, 2) := by decide +kernel
theorem dX1_init_7 : decode cX1_init 7 = .ok (.newarray .int, 2) := by decide +kernel
theorem dX1_init_9 : decode cX1_init 9 = .ok (.putfield 9, 3) := by decide +kernel
theorem dX1_init_12 : decode cX1_init 12 = .ok (.aload_n 0, 1) := by decide +kernel
theorem dX1_init_13 : decode cX1_init 13 = .ok (.bipush 10, 2) := by decide +kernel
theorem dX1_init_15 : decode cX1_init 15 = .ok (.newarray .int, 2) := by decide +kernel
theorem dX1_init_17 : decode cX1_init 17 = .ok (.putfield 15, 3) := by decide +kernel
theorem dX1_init_20 : decode cX1_init 20 = .ok (.aload_n 0, 1) := by decide +kernel
theorem dX1_init_21 : decode cX1_init 21 = .ok (.bipush 10, 2) := by decide +kernel
theorem dX1_init_23 : decode cX1_init 23 = .ok (.newarray .int, 2) := by decide +kernel
theorem dX1_init_25 : decode cX1_init 25 = .ok (.putfield 18, 3) := by decide +kernel
theorem dX1_init_28 : decode cX1_init 28 = .ok (.return_, 1) := by decide +kernel
theorem dX1_copyFrom_0 : decode cX1_copyFrom 0 = .ok (.aload_n 1, 1) := by decide +kernel
theorem dX1_copyFrom_1 : decode cX1_copyFrom 1 = .ok (.getfield 9, 3) := by decide +kernel
theorem dX1_copyFrom_4 : decode cX1_copyFrom 4 = .ok (.aload_n 0, 1) := by decide +kernel
theorem dX1_copyFrom_5 : decode cX1_copyFrom 5 = .ok (.getfield 9, 3) := by decide +kernel
theorem dX1_copyFrom_8 : decode cX1_copyFrom 8 = .ok (.invokestatic 21, 3) := by decide +kernel
theorem dX1_copyFrom_11 : decode cX1_copyFrom 11 = .ok (.aload_n 1, 1) := by decide +kernel
theorem dX1_copyFrom_12 : decode cX1_copyFrom 12 = .ok (.getfield 15, 3) := by decide +kernel
theorem dX1_copyFrom_15 : decode cX1_copyFrom 15 = .ok (.aload_n 0, 1) := by decide +kernel
theorem dX1_copyFrom_16 : decode cX1_copyFrom 16 = .ok (.getfield 15, 3) := by decide +kernel
theorem dX1_copyFrom_19 : decode cX1_copyFrom 19 = .ok (.invokestatic 21, 3) := by decide +kernel
theorem dX1_copyFrom_22 : decode cX1_copyFrom 22 = .ok (.aload_n 1, 1) := by decide +kernel
theorem dX1_copyFrom_23 : decode cX1_copyFrom 23 = .ok (.getfield 18, 3) := by decide +kernel
theorem dX1_copyFrom_26 : decode cX1_copyFrom 26 = .ok (.aload_n 0, 1) := by decide +kernel
theorem dX1_copyFrom_27 : decode cX1_copyFrom 27 = .ok (.getfield 18, 3) := by decide +kernel
theorem dX1_copyFrom_30 : decode cX1_copyFrom 30 = .ok (.invokestatic 21, 3) := by decide +kernel
theorem dX1_copyFrom_33 : decode cX1_copyFrom 33 = .ok (.aload_n 0, 1) := by decide +kernel
theorem dX1_copyFrom_34 : decode cX1_copyFrom 34 = .ok (.aload_n 1, 1) := by decide +kernel
theorem dX1_copyFrom_35 : decode cX1_copyFrom 35 = .ok (.getfield 27, 3) := by decide +kernel
theorem dX1_copyFrom_38 : decode cX1_copyFrom 38 = .ok (.putfield 27, 3) := by decide +kernel
theorem dX1_copyFrom_41 : decode cX1_copyFrom 41 = .ok (.aload_n 0, 1) := by decide +kernel
theorem dX1_copyFrom_42 : decode cX1_copyFrom 42 = .ok (.aload_n 1, 1) := by decide +kernel
theorem dX1_copyFrom_43 : decode cX1_copyFrom 43 = .ok (.getfield 31, 3) := by decide +kernel
theorem dX1_copyFrom_46 : decode cX1_copyFrom 46 = .ok (.putfield 31, 3) := by decide +kernel
theorem dX1_copyFrom_49 : decode cX1_copyFrom 49 = .ok (.return_, 1) := by decide +kernel
theorem dX1_note_0 : decode cX1_note 0 = .ok (.aload_n 0, 1) := by decide +kernel
theorem dX1_note_1 : decode cX1_note 1 = .ok (.getfield 9, 3) := by decide +kernel
theorem dX1_note_4 : decode cX1_note 4 = .ok (.aload_n 0, 1) := by decide +kernel
theorem dX1_note_5 : decode cX1_note 5 = .ok (.getfield 31, 3) := by decide +kernel
theorem dX1_note_8 : decode cX1_note 8 = .ok (.iload_n 1, 1) := by decide +kernel
theorem dX1_note_9 : decode cX1_note 9 = .ok (.invokestatic 34, 3) := by decide +kernel
theorem dX1_note_12 : decode cX1_note 12 = .ok (.aload_n 0, 1) := by decide +kernel
theorem dX1_note_13 : decode cX1_note 13 = .ok (.getfield 15, 3) := by decide +kernel
theorem dX1_note_16 : decode cX1_note 16 = .ok (.aload_n 0, 1) := by decide +kernel
theorem dX1_note_17 : decode cX1_note 17 = .ok (.getfield 31, 3) := by decide +kernel
theorem dX1_note_20 : decode cX1_note 20 = .ok (.iload_n 2, 1) := by decide +kernel
theorem dX1_note_21 : decode cX1_note 21 = .ok (.invokestatic 34, 3) := by decide +kernel
theorem dX1_note_24 : decode cX1_note 24 = .ok (.aload_n 0, 1) := by decide +kernel
theorem dX1_note_25 : decode cX1_note 25 = .ok (.getfield 18, 3) := by decide +kernel
theorem dX1_note_28 : decode cX1_note 28 = .ok (.aload_n 0, 1) := by decide +kernel
theorem dX1_note_29 : decode cX1_note 29 = .ok (.getfield 31, 3) := by decide +kernel
theorem dX1_note_32 : decode cX1_note 32 = .ok (.iload_n 3, 1) := by decide +kernel
theorem dX1_note_33 : decode cX1_note 33 = .ok (.invokestatic 34, 3) := by decide +kernel
theorem dX1_note_36 : decode cX1_note 36 = .ok (.aload_n 0, 1) := by decide +kernel
theorem dX1_note_37 : decode cX1_note 37 = .ok (.aload_n 0, 1) := by decide +kernel
theorem dX1_note_38 : decode cX1_note 38 = .ok (.getfield 31, 3) := by decide +kernel
theorem dX1_note_41 : decode cX1_note 41 = .ok (.iconst 1, 1) := by decide +kernel
theorem dX1_note_42 : decode cX1_note 42 = .ok (.iadd, 1) := by decide +kernel
theorem dX1_note_43 : decode cX1_note 43 = .ok (.bipush 10, 2) := by decide +kernel
theorem dX1_note_45 : decode cX1_note 45 = .ok (.irem, 1) := by decide +kernel
theorem dX1_note_46 : decode cX1_note 46 = .ok (.putfield 31, 3) := by decide +kernel
theorem dX1_note_49 : decode cX1_note 49 = .ok (.aload_n 0, 1) := by decide +kernel
theorem dX1_note_50 : decode cX1_note 50 = .ok (.aload_n 0, 1) := by decide +kernel
theorem dX1_note_51 : decode cX1_note 51 = .ok (.getfield 27, 3) := by decide +kernel
theorem dX1_note_54 : decode cX1_note 54 = .ok (.iconst 1, 1) := by decide +kernel
theorem dX1_note_55 : decode cX1_note 55 = .ok (.iadd, 1) := by decide +kernel
theorem dX1_note_56 : decode cX1_note 56 = .ok (.bipush 10, 2) := by decide +kernel
theorem dX1_note_58 : decode cX1_note 58 = .ok (.invokestatic 38, 3) := by decide +kernel
theorem dX1_note_61 : decode cX1_note 61 = .ok (.putfield 27, 3) := by decide +kernel
theorem dX1_note_64 : decode cX1_note 64 = .ok (.return_, 1) := by decide +kernel
theorem dX1_rowBack_0 : decode cX1_rowBack 0 = .ok (.iload_n 1, 1) := by decide +kernel
theorem dX1_rowBack_1 : decode cX1_rowBack 1 = .ok (.ifCond .lt 11, 3) := by decide +kernel
theorem dX1_rowBack_4 : decode cX1_rowBack 4 = .ok (.iload_n 1, 1) := by decide +kernel
theorem dX1_rowBack_5 : decode cX1_rowBack 5 = .ok (.aload_n 0, 1) := by decide +kernel
theorem dX1_rowBack_6 : decode cX1_rowBack 6 = .ok (.getfield 27, 3) := by decide +kernel
theorem dX1_rowBack_9 : decode cX1_rowBack 9 = .ok (.if_icmp .lt 6, 3) := by decide +kernel
theorem dX1_rowBack_12 : decode cX1_rowBack 12 = .ok (.bipush (-5), 2) := by decide +kernel
theorem dX1_rowBack_14 : decode cX1_rowBack 14 = .ok (.ireturn, 1) := by decide +kernel
theorem dX1_rowBack_15 : decode cX1_rowBack 15 = .ok (.aload_n 0, 1) := by decide +kernel
theorem dX1_rowBack_16 : decode cX1_rowBack 16 = .ok (.getfield 31, 3) := by decide +kernel
theorem dX1_rowBack_19 : decode cX1_rowBack 19 = .ok (.iconst 1, 1) := by decide +kernel
theorem dX1_rowBack_20 : decode cX1_rowBack 20 = .ok (.isub, 1) := by decide +kernel
theorem dX1_rowBack_21 : decode cX1_rowBack 21 = .ok (.iload_n 1, 1) := by decide +kernel
theorem dX1_rowBack_22 : decode cX1_rowBack 22 = .ok (.isub, 1) := by decide +kernel
theorem dX1_rowBack_23 : decode cX1_rowBack 23 = .ok (.bipush 10, 2) := by decide +kernel
theorem dX1_rowBack_25 : decode cX1_rowBack 25 = .ok (.invokestatic 44, 3) := by decide +kernel
theorem dX1_rowBack_28 : decode cX1_rowBack 28 = .ok (.ireturn, 1) := by decide +kernel
theorem dX2_init_0 : decode cX2_init 0 = .ok (.aload_n 0, 1) := by decide +kernel
theorem dX2_init_1 : decode cX2_init 1 = .ok (.invokespecial 3, 3) := by decide +kernel
theorem dX2_init_4 : decode cX2_init 4 = .ok (.aload_n 0, 1) := by decide +kernel
theorem dX2_init_5 : decode cX2_init 5 = .ok (.iconst 4, 1) := by decide +kernel
theorem dX2_init_6 : decode cX2_init 6 = .ok (.anewarray 9, 3) := by decide +kernel
theorem dX2_init_9 : decode cX2_init 9 = .ok (.putfield 11, 3) := by decide +kernel
theorem dX2_init_12 : decode cX2_init 12 = .ok (.iconst 0, 1) := by decide +kernel
theorem dX2_init_13 : decode cX2_init 13 = .ok (.istore_n 1, 1) := by decide +kernel
theorem dX2_init_14 : decode cX2_init 14 = .ok (.iload_n 1, 1) := by decide +kernel
theorem dX2_init_15 : decode cX2_init 15 = .ok (.aload_n 0, 1) := by decide +kernel
theorem dX2_init_16 : decode cX2_init 16 = .ok (.getfield 11, 3) := by decide +kernel
theorem dX2_init_19 : decode cX2_init 19 = .ok (.arraylength, 1) := by decide +kernel
theorem dX2_init_20 : decode cX2_init 20 = .ok (.if_icmp .ge 22, 3) := by decide +kernel
theorem dX2_init_23 : decode cX2_init 23 = .ok (.aload_n 0, 1) := by decide +kernel
theorem dX2_init_24 : decode cX2_init 24 = .ok (.getfield 11, 3) := by decide +kernel
theorem dX2_init_27 : decode cX2_init 27 = .ok (.iload_n 1, 1) := by decide +kernel
theorem dX2_init_28 : decode cX2_init 28 = .ok (.new 9, 3) := by decide +kernel
theorem dX2_init_31 : decode cX2_init 31 = .ok (.dup, 1) := by decide +kernel
theorem dX2_init_32 : decode cX2_init 32 = .ok (.invokespecial 17, 3) := by decide +kernel
theorem dX2_init_35 : decode cX2_init 35 = .ok (.aastore, 1) := by decide +kernel
theorem dX2_init_36 : decode cX2_init 36 = .ok (.iinc 1 1, 3) := by decide +kernel
theorem dX2_init_39 : decode cX2_init 39 = .ok (.goto (-25), 3) := by decide +kernel
theorem dX2_init_42 : decode cX2_init 42 = .ok (.return_, 1) := by decide +kernel
theorem dX2_record_0 : decode cX2_record 0 = .ok (.aload_n 0, 1) := by decide +kernel
theorem dX2_record_1 : decode cX2_record 1 = .ok (.getfield 18, 3) := by decide +kernel
theorem dX2_record_4 : decode cX2_record 4 = .ok (.iconst 4, 1) := by decide +kernel
theorem dX2_record_5 : decode cX2_record 5 = .ok (.if_icmp .ne 25, 3) := by decide +kernel
theorem dX2_record_8 : decode cX2_record 8 = .ok (.aload_n 0, 1) := by decide +kernel
theorem dX2_record_9 : decode cX2_record 9 = .ok (.aload_n 0, 1) := by decide +kernel
theorem dX2_record_10 : decode cX2_record 10 = .ok (.getfield 22, 3) := by decide +kernel
theorem dX2_record_13 : decode cX2_record 13 = .ok (.iconst 1, 1) := by decide +kernel
theorem dX2_record_14 : decode cX2_record 14 = .ok (.iadd, 1) := by decide +kernel
theorem dX2_record_15 : decode cX2_record 15 = .ok (.iconst 4, 1) := by decide +kernel
theorem dX2_record_16 : decode cX2_record 16 = .ok (.irem, 1) := by decide +kernel
theorem dX2_record_17 : decode cX2_record 17 = .ok (.putfield 22, 3) := by decide +kernel
theorem dX2_record_20 : decode cX2_record 20 = .ok (.aload_n 0, 1) := by decide +kernel
theorem dX2_record_21 : decode cX2_record 21 = .ok (.dup, 1) := by decide +kernel
theorem dX2_record_22 : decode cX2_record 22 = .ok (.getfield 18, 3) := by decide +kernel
theorem dX2_record_25 : decode cX2_record 25 = .ok (.iconst 1, 1) := by decide +kernel
theorem dX2_record_26 : decode cX2_record 26 = .ok (.isub, 1) := by decide +kernel
theorem dX2_record_27 : decode cX2_record 27 = .ok (.putfield 18, 3) := by decide +kernel
theorem dX2_record_30 : decode cX2_record 30 = .ok (.aload_n 0, 1) := by decide +kernel
theorem dX2_record_31 : decode cX2_record 31 = .ok (.invokevirtual 25, 3) := by decide +kernel
theorem dX2_record_34 : decode cX2_record 34 = .ok (.astore_n 2, 1) := by decide +kernel
theorem dX2_record_35 : decode cX2_record 35 = .ok (.aload_n 2, 1) := by decide +kernel
theorem dX2_record_36 : decode cX2_record 36 = .ok (.ifnull 8, 3) := by decide +kernel
theorem dX2_record_39 : decode cX2_record 39 = .ok (.aload_n 2, 1) := by decide +kernel
theorem dX2_record_40 : decode cX2_record 40 = .ok (.aload_n 1, 1) := by decide +kernel
theorem dX2_record_41 : decode cX2_record 41 = .ok (.invokevirtual 29, 3) := by decide +kernel
theorem dX2_record_44 : decode cX2_record 44 = .ok (.aload_n 0, 1) := by decide +kernel
theorem dX2_record_45 : decode cX2_record 45 = .ok (.dup, 1) := by decide +kernel
theorem dX2_record_46 : decode cX2_record 46 = .ok (.getfield 18, 3) := by decide +kernel
theorem dX2_record_49 : decode cX2_record 49 = .ok (.iconst 1, 1) := by decide +kernel
theorem dX2_record_50 : decode cX2_record 50 = .ok (.iadd, 1) := by decide +kernel
theorem dX2_record_51 : decode cX2_record 51 = .ok (.putfield 18, 3) := by decide +kernel
theorem dX2_record_54 : decode cX2_record 54 = .ok (.return_, 1) := by decide +kernel
theorem dX2_takeBackInto_0 : decode cX2_takeBackInto 0 = .ok (.aload_n 0, 1) := by decide +kernel
theorem dX2_takeBackInto_1 : decode cX2_takeBackInto 1 = .ok (.dup, 1) := by decide +kernel
theorem dX2_takeBackInto_2 : decode cX2_takeBackInto 2 = .ok (.getfield 18, 3) := by decide +kernel
theorem dX2_takeBackInto_5 : decode cX2_takeBackInto 5 = .ok (.iconst 1, 1) := by decide +kernel
theorem dX2_takeBackInto_6 : decode cX2_takeBackInto 6 = .ok (.isub, 1) := by decide +kernel
theorem dX2_takeBackInto_7 : decode cX2_takeBackInto 7 = .ok (.putfield 18, 3) := by decide +kernel
theorem dX2_takeBackInto_10 : decode cX2_takeBackInto 10 = .ok (.aload_n 0, 1) := by decide +kernel
theorem dX2_takeBackInto_11 : decode cX2_takeBackInto 11 = .ok (.invokevirtual 25, 3) := by decide +kernel
theorem dX2_takeBackInto_14 : decode cX2_takeBackInto 14 = .ok (.astore_n 2, 1) := by decide +kernel
theorem dX2_takeBackInto_15 : decode cX2_takeBackInto 15 = .ok (.aload_n 2, 1) := by decide +kernel
theorem dX2_takeBackInto_16 : decode cX2_takeBackInto 16 = .ok (.ifnull 8, 3) := by decide +kernel
theorem dX2_takeBackInto_19 : decode cX2_takeBackInto 19 = .ok (.aload_n 1, 1) := by decide +kernel
theorem dX2_takeBackInto_20 : decode cX2_takeBackInto 20 = .ok (.aload_n 2, 1) := by decide +kernel
theorem dX2_takeBackInto_21 : decode cX2_takeBackInto 21 = .ok (.invokevirtual 29, 3) := by decide +kernel
theorem dX2_takeBackInto_24 : decode cX2_takeBackInto 24 = .ok (.return_, 1) := by decide +kernel
theorem dX2_behindLatest_0 : decode cX2_behindLatest 0 = .ok (.aload_n 0, 1) := by decide +kernel
theorem dX2_behindLatest_1 : decode cX2_behindLatest 1 = .ok (.getfield 22, 3) := by decide +kernel
theorem dX2_behindLatest_4 : decode cX2_behindLatest 4 = .ok (.aload_n 0, 1) := by decide +kernel
theorem dX2_behindLatest_5 : decode cX2_behindLatest 5 = .ok (.getfield 18, 3) := by decide +kernel
theorem dX2_behindLatest_8 : decode cX2_behindLatest 8 = .ok (.iadd, 1) := by decide +kernel
theorem dX2_behindLatest_9 : decode cX2_behindLatest 9 = .ok (.iconst 4, 1) := by decide +kernel
theorem dX2_behindLatest_10 : decode cX2_behindLatest 10 = .ok (.invokestatic 33, 3) := by decide +kernel
theorem dX2_behindLatest_13 : decode cX2_behindLatest 13 = .ok (.istore_n 1, 1) := by decide +kernel
theorem dX2_behindLatest_14 : decode cX2_behindLatest 14 = .ok (.iload_n 1, 1) := by decide +kernel
theorem dX2_behindLatest_15 : decode cX2_behindLatest 15 = .ok (.ifCond .lt 21, 3) := by decide +kernel
theorem dX2_behindLatest_18 : decode cX2_behindLatest 18 = .ok (.iload_n 1, 1) := by decide +kernel
theorem dX2_behindLatest_19 : decode cX2_behindLatest 19 = .ok (.aload_n 0, 1) := by decide +kernel
theorem dX2_behindLatest_20 : decode cX2_behindLatest 20 = .ok (.getfield 11, 3) := by decide +kernel
theorem dX2_behindLatest_23 : decode cX2_behindLatest 23 = .ok (.arraylength, 1) := by decide +kernel
theorem dX2_behindLatest_24 : decode cX2_behindLatest 24 = .ok (.if_icmp .ge 12, 3) := by decide +kernel
theorem dX2_behindLatest_27 : decode cX2_behindLatest 27 = .ok (.aload_n 0, 1) := by decide +kernel
theorem dX2_behindLatest_28 : decode cX2_behindLatest 28 = .ok (.getfield 11, 3) := by decide +kernel
theorem dX2_behindLatest_31 : decode cX2_behindLatest 31 = .ok (.iload_n 1, 1) := by decide +kernel
theorem dX2_behindLatest_32 : decode cX2_behindLatest 32 = .ok (.aaload, 1) := by decide +kernel
theorem dX2_behindLatest_33 : decode cX2_behindLatest 33 = .ok (.goto 4, 3) := by decide +kernel
theorem dX2_behindLatest_36 : decode cX2_behindLatest 36 = .ok (.aconst_null, 1) := by decide +kernel
theorem dX2_behindLatest_37 : decode cX2_behindLatest 37 = .ok (.areturn, 1) := by decide +kernel
theorem dX3_init_0 : decode cX3_init 0 = .ok (.aload_n 0, 1) := by decide +kernel
theorem dX3_init_1 : decode cX3_init 1 = .ok (.invokespecial 1, 3) := by decide +kernel
theorem dX3_init_4 : decode cX3_init 4 = .ok (.aload_n 0, 1) := by decide +kernel
theorem dX3_init_5 : decode cX3_init 5 = .ok (.iconst (-1), 1) := by decide +kernel
theorem dX3_init_6 : decode cX3_init 6 = .ok (.putfield 9, 3) := by decide +kernel
theorem dX3_init_9 : decode cX3_init 9 = .ok (.return_, 1) := by decide +kernel
theorem dX3_makeNew_0 : decode cX3_makeNew 0 = .ok (.aload_n 0, 1) := by decide +kernel
theorem dX3_makeNew_1 : decode cX3_makeNew 1 = .ok (.iload_n 1, 1) := by decide +kernel
theorem dX3_makeNew_2 : decode cX3_makeNew 2 = .ok (.putfield 9, 3) := by decide +kernel
theorem dX3_makeNew_5 : decode cX3_makeNew 5 = .ok (.aload_n 0, 1) := by decide +kernel
theorem dX3_makeNew_6 : decode cX3_makeNew 6 = .ok (.iload_n 2, 1) := by decide +kernel
theorem dX3_makeNew_7 : decode cX3_makeNew 7 = .ok (.putfield 13, 3) := by decide +kernel
theorem dX3_makeNew_10 : decode cX3_makeNew 10 = .ok (.aload_n 0, 1) := by decide +kernel
theorem dX3_makeNew_11 : decode cX3_makeNew 11 = .ok (.getstatic 16, 3) := by decide +kernel
theorem dX3_makeNew_14 : decode cX3_makeNew 14 = .ok (.iload_n 1, 1) := by decide +kernel
theorem dX3_makeNew_15 : decode cX3_makeNew 15 = .ok (.invokestatic 20, 3) := by decide +kernel
theorem dX3_makeNew_18 : decode cX3_makeNew 18 = .ok (.iload_n 2, 1) := by decide +kernel
theorem dX3_makeNew_19 : decode cX3_makeNew 19 = .ok (.imul, 1) := by decide +kernel
theorem dX3_makeNew_20 : decode cX3_makeNew 20 = .ok (.bipush 100, 2) := by decide +kernel
theorem dX3_makeNew_22 : decode cX3_makeNew 22 = .ok (.idiv, 1) := by decide +kernel
theorem dX3_makeNew_23 : decode cX3_makeNew 23 = .ok (.putfield 26, 3) := by decide +kernel
theorem dX3_makeNew_26 : decode cX3_makeNew 26 = .ok (.aload_n 0, 1) := by decide +kernel
theorem dX3_makeNew_27 : decode cX3_makeNew 27 = .ok (.iconst 0, 1) := by decide +kernel
theorem dX3_makeNew_28 : decode cX3_makeNew 28 = .ok (.putfield 29, 3) := by decide +kernel
theorem dX3_makeNew_31 : decode cX3_makeNew 31 = .ok (.aload_n 0, 1) := by decide +kernel
theorem dX3_makeNew_32 : decode cX3_makeNew 32 = .ok (.iconst 0, 1) := by decide +kernel
theorem dX3_makeNew_33 : decode cX3_makeNew 33 = .ok (.putfield 32, 3) := by decide +kernel
theorem dX3_makeNew_36 : decode cX3_makeNew 36 = .ok (.aload_n 0, 1) := by decide +kernel
theorem dX3_makeNew_37 : decode cX3_makeNew 37 = .ok (.iconst 0, 1) := by decide +kernel
theorem dX3_makeNew_38 : decode cX3_makeNew 38 = .ok (.putfield 35, 3) := by decide +kernel
theorem dX3_makeNew_41 : decode cX3_makeNew 41 = .ok (.return_, 1) := by decide +kernel
theorem dX3_remove_0 : decode cX3_remove 0 = .ok (.aload_n 0, 1) := by decide +kernel
theorem dX3_remove_1 : decode cX3_remove 1 = .ok (.iconst (-1), 1) := by decide +kernel
theorem dX3_remove_2 : decode cX3_remove 2 = .ok (.putfield 9, 3) := by decide +kernel
theorem dX3_remove_5 : decode cX3_remove 5 = .ok (.return_, 1) := by decide +kernel
theorem dX3_copyFrom_0 : decode cX3_copyFrom 0 = .ok (.aload_n 0, 1) := by decide +kernel
theorem dX3_copyFrom_1 : decode cX3_copyFrom 1 = .ok (.aload_n 1, 1) := by decide +kernel
theorem dX3_copyFrom_2 : decode cX3_copyFrom 2 = .ok (.getfield 9, 3) := by decide +kernel
theorem dX3_copyFrom_5 : decode cX3_copyFrom 5 = .ok (.putfield 9, 3) := by decide +kernel
theorem dX3_copyFrom_8 : decode cX3_copyFrom 8 = .ok (.aload_n 0, 1) := by decide +kernel
theorem dX3_copyFrom_9 : decode cX3_copyFrom 9 = .ok (.aload_n 1, 1) := by decide +kernel
theorem dX3_copyFrom_10 : decode cX3_copyFrom 10 = .ok (.getfield 13, 3) := by decide +kernel
theorem dX3_copyFrom_13 : decode cX3_copyFrom 13 = .ok (.putfield 13, 3) := by decide +kernel
theorem dX3_copyFrom_16 : decode cX3_copyFrom 16 = .ok (.aload_n 0, 1) := by decide +kernel
theorem dX3_copyFrom_17 : decode cX3_copyFrom 17 = .ok (.aload_n 1, 1) := by decide +kernel
theorem dX3_copyFrom_18 : decode cX3_copyFrom 18 = .ok (.getfield 26, 3) := by decide +kernel
theorem dX3_copyFrom_21 : decode cX3_copyFrom 21 = .ok (.putfield 26, 3) := by decide +kernel
theorem dX3_copyFrom_24 : decode cX3_copyFrom 24 = .ok (.aload_n 0, 1) := by decide +kernel
theorem dX3_copyFrom_25 : decode cX3_copyFrom 25 = .ok (.aload_n 1, 1) := by decide +kernel
theorem dX3_copyFrom_26 : decode cX3_copyFrom 26 = .ok (.getfield 29, 3) := by decide +kernel
theorem dX3_copyFrom_29 : decode cX3_copyFrom 29 = .ok (.putfield 29, 3) := by decide +kernel
theorem dX3_copyFrom_32 : decode cX3_copyFrom 32 = .ok (.aload_n 0, 1) := by decide +kernel
theorem dX3_copyFrom_33 : decode cX3_copyFrom 33 = .ok (.aload_n 1, 1) := by decide +kernel
theorem dX3_copyFrom_34 : decode cX3_copyFrom 34 = .ok (.getfield 32, 3) := by decide +kernel
theorem dX3_copyFrom_37 : decode cX3_copyFrom 37 = .ok (.putfield 32, 3) := by decide +kernel
theorem dX3_copyFrom_40 : decode cX3_copyFrom 40 = .ok (.aload_n 0, 1) := by decide +kernel
theorem dX3_copyFrom_41 : decode cX3_copyFrom 41 = .ok (.aload_n 1, 1) := by decide +kernel
theorem dX3_copyFrom_42 : decode cX3_copyFrom 42 = .ok (.getfield 35, 3) := by decide +kernel
theorem dX3_copyFrom_45 : decode cX3_copyFrom 45 = .ok (.putfield 35, 3) := by decide +kernel
theorem dX3_copyFrom_48 : decode cX3_copyFrom 48 = .ok (.return_, 1) := by decide +kernel
theorem dX3_isThere_0 : decode cX3_isThere 0 = .ok (.aload_n 0, 1) := by decide +kernel
theorem dX3_isThere_1 : decode cX3_isThere 1 = .ok (.getfield 9, 3) := by decide +kernel
theorem dX3_isThere_4 : decode cX3_isThere 4 = .ok (.iconst (-1), 1) := by decide +kernel
theorem dX3_isThere_5 : decode cX3_isThere 5 = .ok (.if_icmp .eq 7, 3) := by decide +kernel
theorem dX3_isThere_8 : decode cX3_isThere 8 = .ok (.iconst 1, 1) := by decide +kernel
theorem dX3_isThere_9 : decode cX3_isThere 9 = .ok (.goto 4, 3) := by decide +kernel
theorem dX3_isThere_12 : decode cX3_isThere 12 = .ok (.iconst 0, 1) := by decide +kernel
theorem dX3_isThere_13 : decode cX3_isThere 13 = .ok (.ireturn, 1) := by decide +kernel
theorem dX3_isBurntOut_0 : decode cX3_isBurntOut 0 = .ok (.aload_n 0, 1) := by decide +kernel
theorem dX3_isBurntOut_1 : decode cX3_isBurntOut 1 = .ok (.getfield 29, 3) := by decide +kernel
theorem dX3_isBurntOut_4 : decode cX3_isBurntOut 4 = .ok (.aload_n 0, 1) := by decide +kernel
theorem dX3_isBurntOut_5 : decode cX3_isBurntOut 5 = .ok (.getfield 26, 3) := by decide +kernel
theorem dX3_isBurntOut_8 : decode cX3_isBurntOut 8 = .ok (.if_icmp .lt 7, 3) := by decide +kernel
theorem dX3_isBurntOut_11 : decode cX3_isBurntOut 11 = .ok (.iconst 1, 1) := by decide +kernel
theorem dX3_isBurntOut_12 : decode cX3_isBurntOut 12 = .ok (.goto 4, 3) := by decide +kernel
theorem dX3_isBurntOut_15 : decode cX3_isBurntOut 15 = .ok (.iconst 0, 1) := by decide +kernel
theorem dX3_isBurntOut_16 : decode cX3_isBurntOut 16 = .ok (.ireturn, 1) := by decide +kernel
theorem dX3_isUsable_0 : decode cX3_isUsable 0 = .ok (.aload_n 0, 1) := by decide +kernel
theorem dX3_isUsable_1 : decode cX3_isUsable 1 = .ok (.invokevirtual 39, 3) := by decide +kernel
theorem dX3_isUsable_4 : decode cX3_isUsable 4 = .ok (.ifCond .eq 14, 3) := by decide +kernel
theorem dX3_isUsable_7 : decode cX3_isUsable 7 = .ok (.aload_n 0, 1) := by decide +kernel
theorem dX3_isUsable_8 : decode cX3_isUsable 8 = .ok (.invokevirtual 43, 3) := by decide +kernel
theorem dX3_isUsable_11 : decode cX3_isUsable 11 = .ok (.ifCond .ne 7, 3) := by decide +kernel
theorem dX3_isUsable_14 : decode cX3_isUsable 14 = .ok (.iconst 1, 1) := by decide +kernel
theorem dX3_isUsable_15 : decode cX3_isUsable 15 = .ok (.goto 4, 3) := by decide +kernel
theorem dX3_isUsable_18 : decode cX3_isUsable 18 = .ok (.iconst 0, 1) := by decide +kernel
theorem dX3_isUsable_19 : decode cX3_isUsable 19 = .ok (.ireturn, 1) := by decide +kernel
theorem dX3_isFresh_0 : decode cX3_isFresh 0 = .ok (.aload_n 0, 1) := by decide +kernel
theorem dX3_isFresh_1 : decode cX3_isFresh 1 = .ok (.invokevirtual 46, 3) := by decide +kernel
theorem dX3_isFresh_4 : decode cX3_isFresh 4 = .ok (.ifCond .eq 14, 3) := by decide +kernel
theorem dX3_isFresh_7 : decode cX3_isFresh 7 = .ok (.aload_n 0, 1) := by decide +kernel
theorem dX3_isFresh_8 : decode cX3_isFresh 8 = .ok (.getfield 35, 3) := by decide +kernel
theorem dX3_isFresh_11 : decode cX3_isFresh 11 = .ok (.ifCond .ne 7, 3) := by decide +kernel
theorem dX3_isFresh_14 : decode cX3_isFresh 14 = .ok (.iconst 1, 1) := by decide +kernel
theorem dX3_isFresh_15 : decode cX3_isFresh 15 = .ok (.goto 4, 3) := by decide +kernel
theorem dX3_isFresh_18 : decode cX3_isFresh 18 = .ok (.iconst 0, 1) := by decide +kernel
theorem dX3_isFresh_19 : decode cX3_isFresh 19 = .ok (.ireturn, 1) := by decide +kernel
theorem dX3_left_0 : decode cX3_left 0 = .ok (.aload_n 0, 1) := by decide +kernel
theorem dX3_left_1 : decode cX3_left 1 = .ok (.getfield 26, 3) := by decide +kernel
theorem dX3_left_4 : decode cX3_left 4 = .ok (.aload_n 0, 1) := by decide +kernel
theorem dX3_left_5 : decode cX3_left 5 = .ok (.getfield 29, 3) := by decide +kernel
theorem dX3_left_8 : decode cX3_left 8 = .ok (.isub, 1) := by decide +kernel
theorem dX3_left_9 : decode cX3_left 9 = .ok (.ireturn, 1) := by decide +kernel
theorem dX3_current_0 : decode cX3_current 0 = .ok (.aload_n 0, 1) := by decide +kernel
theorem dX3_current_1 : decode cX3_current 1 = .ok (.getfield 26, 3) := by decide +kernel
theorem dX3_current_4 : decode cX3_current 4 = .ok (.ifCond .le 10, 3) := by decide +kernel
theorem dX3_current_7 : decode cX3_current 7 = .ok (.aload_n 0, 1) := by decide +kernel
theorem dX3_current_8 : decode cX3_current 8 = .ok (.invokevirtual 43, 3) := by decide +kernel
theorem dX3_current_11 : decode cX3_current 11 = .ok (.ifCond .eq 5, 3) := by decide +kernel
theorem dX3_current_14 : decode cX3_current 14 = .ok (.iconst 0, 1) := by decide +kernel
theorem dX3_current_15 : decode cX3_current 15 = .ok (.ireturn, 1) := by decide +kernel
theorem dX3_current_16 : decode cX3_current 16 = .ok (.getstatic 49, 3) := by decide +kernel
theorem dX3_current_19 : decode cX3_current 19 = .ok (.aload_n 0, 1) := by decide +kernel
theorem dX3_current_20 : decode cX3_current 20 = .ok (.getfield 9, 3) := by decide +kernel
theorem dX3_current_23 : decode cX3_current 23 = .ok (.invokestatic 20, 3) := by decide +kernel
theorem dX3_current_26 : decode cX3_current 26 = .ok (.istore_n 1, 1) := by decide +kernel
theorem dX3_current_27 : decode cX3_current 27 = .ok (.iload_n 1, 1) := by decide +kernel
theorem dX3_current_28 : decode cX3_current 28 = .ok (.iload_n 1, 1) := by decide +kernel
theorem dX3_current_29 : decode cX3_current 29 = .ok (.aload_n 0, 1) := by decide +kernel
theorem dX3_current_30 : decode cX3_current 30 = .ok (.getfield 29, 3) := by decide +kernel
theorem dX3_current_33 : decode cX3_current 33 = .ok (.imul, 1) := by decide +kernel
theorem dX3_current_34 : decode cX3_current 34 = .ok (.iconst 4, 1) := by decide +kernel
theorem dX3_current_35 : decode cX3_current 35 = .ok (.aload_n 0, 1) := by decide +kernel
theorem dX3_current_36 : decode cX3_current 36 = .ok (.getfield 26, 3) := by decide +kernel
theorem dX3_current_39 : decode cX3_current 39 = .ok (.imul, 1) := by decide +kernel
theorem dX3_current_40 : decode cX3_current 40 = .ok (.idiv, 1) := by decide +kernel
theorem dX3_current_41 : decode cX3_current 41 = .ok (.isub, 1) := by decide +kernel
theorem dX3_current_42 : decode cX3_current 42 = .ok (.ireturn, 1) := by decide +kernel
theorem dX3_wearBySwitchingOn_0 : decode cX3_wearBySwitchingOn 0 = .ok (.aload_n 0, 1) := by decide +kernel
theorem dX3_wearBySwitchingOn_1 : decode cX3_wearBySwitchingOn 1 = .ok (.dup, 1) := by decide +kernel
theorem dX3_wearBySwitchingOn_2 : decode cX3_wearBySwitchingOn 2 = .ok (.getfield 29, 3) := by decide +kernel
theorem dX3_wearBySwitchingOn_5 : decode cX3_wearBySwitchingOn 5 = .ok (.getstatic 52, 3) := by decide +kernel
theorem dX3_wearBySwitchingOn_8 : decode cX3_wearBySwitchingOn 8 = .ok (.aload_n 0, 1) := by decide +kernel
theorem dX3_wearBySwitchingOn_9 : decode cX3_wearBySwitchingOn 9 = .ok (.getfield 9, 3) := by decide +kernel
theorem dX3_wearBySwitchingOn_12 : decode cX3_wearBySwitchingOn 12 = .ok (.invokestatic 20, 3) := by decide +kernel
theorem dX3_wearBySwitchingOn_15 : decode cX3_wearBySwitchingOn 15 = .ok (.iadd, 1) := by decide +kernel
theorem dX3_wearBySwitchingOn_16 : decode cX3_wearBySwitchingOn 16 = .ok (.putfield 29, 3) := by decide +kernel
theorem dX3_wearBySwitchingOn_19 : decode cX3_wearBySwitchingOn 19 = .ok (.return_, 1) := by decide +kernel
theorem dX3_growsTiredByBurning_0 : decode cX3_growsTiredByBurning 0 = .ok (.aload_n 0, 1) := by decide +kernel
theorem dX3_growsTiredByBurning_1 : decode cX3_growsTiredByBurning 1 = .ok (.dup, 1) := by decide +kernel
theorem dX3_growsTiredByBurning_2 : decode cX3_growsTiredByBurning 2 = .ok (.getfield 29, 3) := by decide +kernel
theorem dX3_growsTiredByBurning_5 : decode cX3_growsTiredByBurning 5 = .ok (.iconst 1, 1) := by decide +kernel
theorem dX3_growsTiredByBurning_6 : decode cX3_growsTiredByBurning 6 = .ok (.iadd, 1) := by decide +kernel
theorem dX3_growsTiredByBurning_7 : decode cX3_growsTiredByBurning 7 = .ok (.putfield 29, 3) := by decide +kernel
theorem dX3_growsTiredByBurning_10 : decode cX3_growsTiredByBurning 10 = .ok (.bipush 100, 2) := by decide +kernel
theorem dX3_growsTiredByBurning_12 : decode cX3_growsTiredByBurning 12 = .ok (.aload_n 0, 1) := by decide +kernel
theorem dX3_growsTiredByBurning_13 : decode cX3_growsTiredByBurning 13 = .ok (.invokevirtual 55, 3) := by decide +kernel
theorem dX3_growsTiredByBurning_16 : decode cX3_growsTiredByBurning 16 = .ok (.imul, 1) := by decide +kernel
theorem dX3_growsTiredByBurning_17 : decode cX3_growsTiredByBurning 17 = .ok (.iload_n 1, 1) := by decide +kernel
theorem dX3_growsTiredByBurning_18 : decode cX3_growsTiredByBurning 18 = .ok (.getstatic 49, 3) := by decide +kernel
theorem dX3_growsTiredByBurning_21 : decode cX3_growsTiredByBurning 21 = .ok (.aload_n 0, 1) := by decide +kernel
theorem dX3_growsTiredByBurning_22 : decode cX3_growsTiredByBurning 22 = .ok (.getfield 9, 3) := by decide +kernel
theorem dX3_growsTiredByBurning_25 : decode cX3_growsTiredByBurning 25 = .ok (.invokestatic 20, 3) := by decide +kernel
theorem dX3_growsTiredByBurning_28 : decode cX3_growsTiredByBurning 28 = .ok (.imul, 1) := by decide +kernel
theorem dX3_growsTiredByBurning_29 : decode cX3_growsTiredByBurning 29 = .ok (.if_icmp .ge 7, 3) := by decide +kernel
theorem dX3_growsTiredByBurning_32 : decode cX3_growsTiredByBurning 32 = .ok (.iconst 1, 1) := by decide +kernel
theorem dX3_growsTiredByBurning_33 : decode cX3_growsTiredByBurning 33 = .ok (.goto 4, 3) := by decide +kernel
theorem dX3_growsTiredByBurning_36 : decode cX3_growsTiredByBurning 36 = .ok (.iconst 0, 1) := by decide +kernel
theorem dX3_growsTiredByBurning_37 : decode cX3_growsTiredByBurning 37 = .ok (.istore_n 3, 1) := by decide +kernel
theorem dX3_growsTiredByBurning_38 : decode cX3_growsTiredByBurning 38 = .ok (.aload_n 0, 1) := by decide +kernel
theorem dX3_growsTiredByBurning_39 : decode cX3_growsTiredByBurning 39 = .ok (.iload_n 3, 1) := by decide +kernel
theorem dX3_growsTiredByBurning_40 : decode cX3_growsTiredByBurning 40 = .ok (.ifCond .eq 12, 3) := by decide +kernel
theorem dX3_growsTiredByBurning_43 : decode cX3_growsTiredByBurning 43 = .ok (.aload_n 0, 1) := by decide +kernel
theorem dX3_growsTiredByBurning_44 : decode cX3_growsTiredByBurning 44 = .ok (.getfield 32, 3) := by decide +kernel
theorem dX3_growsTiredByBurning_47 : decode cX3_growsTiredByBurning 47 = .ok (.iconst 1, 1) := by decide +kernel
theorem dX3_growsTiredByBurning_48 : decode cX3_growsTiredByBurning 48 = .ok (.iadd, 1) := by decide +kernel
theorem dX3_growsTiredByBurning_49 : decode cX3_growsTiredByBurning 49 = .ok (.goto 4, 3) := by decide +kernel
theorem dX3_growsTiredByBurning_52 : decode cX3_growsTiredByBurning 52 = .ok (.iconst 0, 1) := by decide +kernel
theorem dX3_growsTiredByBurning_53 : decode cX3_growsTiredByBurning 53 = .ok (.putfield 32, 3) := by decide +kernel
theorem dX3_growsTiredByBurning_56 : decode cX3_growsTiredByBurning 56 = .ok (.aload_n 0, 1) := by decide +kernel
theorem dX3_growsTiredByBurning_57 : decode cX3_growsTiredByBurning 57 = .ok (.getfield 35, 3) := by decide +kernel
theorem dX3_growsTiredByBurning_60 : decode cX3_growsTiredByBurning 60 = .ok (.ifCond .ne 15, 3) := by decide +kernel
theorem dX3_growsTiredByBurning_63 : decode cX3_growsTiredByBurning 63 = .ok (.aload_n 0, 1) := by decide +kernel
theorem dX3_growsTiredByBurning_64 : decode cX3_growsTiredByBurning 64 = .ok (.getfield 32, 3) := by decide +kernel
theorem dX3_growsTiredByBurning_67 : decode cX3_growsTiredByBurning 67 = .ok (.iload_n 2, 1) := by decide +kernel
theorem dX3_growsTiredByBurning_68 : decode cX3_growsTiredByBurning 68 = .ok (.if_icmp .lt 7, 3) := by decide +kernel
theorem dX3_growsTiredByBurning_71 : decode cX3_growsTiredByBurning 71 = .ok (.iconst 1, 1) := by decide +kernel
theorem dX3_growsTiredByBurning_72 : decode cX3_growsTiredByBurning 72 = .ok (.goto 4, 3) := by decide +kernel
theorem dX3_growsTiredByBurning_75 : decode cX3_growsTiredByBurning 75 = .ok (.iconst 0, 1) := by decide +kernel
theorem dX3_growsTiredByBurning_76 : decode cX3_growsTiredByBurning 76 = .ok (.istore 4, 2) := by decide +kernel
theorem dX3_growsTiredByBurning_78 : decode cX3_growsTiredByBurning 78 = .ok (.aload_n 0, 1) := by decide +kernel
theorem dX3_growsTiredByBurning_79 : decode cX3_growsTiredByBurning 79 = .ok (.aload_n 0, 1) := by decide +kernel
theorem dX3_growsTiredByBurning_80 : decode cX3_growsTiredByBurning 80 = .ok (.getfield 35, 3) := by decide +kernel
theorem dX3_growsTiredByBurning_83 : decode cX3_growsTiredByBurning 83 = .ok (.ifCond .ne 8, 3) := by decide +kernel
theorem dX3_growsTiredByBurning_86 : decode cX3_growsTiredByBurning 86 = .ok (.iload 4, 2) := by decide +kernel
theorem dX3_growsTiredByBurning_88 : decode cX3_growsTiredByBurning 88 = .ok (.ifCond .eq 7, 3) := by decide +kernel
theorem dX3_growsTiredByBurning_91 : decode cX3_growsTiredByBurning 91 = .ok (.iconst 1, 1) := by decide +kernel
theorem dX3_growsTiredByBurning_92 : decode cX3_growsTiredByBurning 92 = .ok (.goto 4, 3) := by decide +kernel
theorem dX3_growsTiredByBurning_95 : decode cX3_growsTiredByBurning 95 = .ok (.iconst 0, 1) := by decide +kernel
theorem dX3_growsTiredByBurning_96 : decode cX3_growsTiredByBurning 96 = .ok (.putfield 35, 3) := by decide +kernel
theorem dX3_growsTiredByBurning_99 : decode cX3_growsTiredByBurning 99 = .ok (.iload 4, 2) := by decide +kernel
theorem dX3_growsTiredByBurning_101 : decode cX3_growsTiredByBurning 101 = .ok (.ireturn, 1) := by decide +kernel
theorem dX4_init_0 : decode cX4_init 0 = .ok (.aload_n 0, 1) := by decide +kernel
theorem dX4_init_1 : decode cX4_init 1 = .ok (.invokespecial 3, 3) := by decide +kernel
theorem dX4_init_4 : decode cX4_init 4 = .ok (.aload_n 0, 1) := by decide +kernel
theorem dX4_init_5 : decode cX4_init 5 = .ok (.bipush 10, 2) := by decide +kernel
theorem dX4_init_7 : decode cX4_init 7 = .ok (.newarray .int, 2) := by decide +kernel
theorem dX4_init_9 : decode cX4_init 9 = .ok (.putfield 9, 3) := by decide +kernel
theorem dX4_init_12 : decode cX4_init 12 = .ok (.aload_n 0, 1) := by decide +kernel
theorem dX4_init_13 : decode cX4_init 13 = .ok (.bipush 10, 2) := by decide +kernel
theorem dX4_init_15 : decode cX4_init 15 = .ok (.newarray .int, 2) := by decide +kernel
theorem dX4_init_17 : decode cX4_init 17 = .ok (.putfield 15, 3) := by decide +kernel
theorem dX4_init_20 : decode cX4_init 20 = .ok (.aload_n 0, 1) := by decide +kernel
theorem dX4_init_21 : decode cX4_init 21 = .ok (.bipush 10, 2) := by decide +kernel
theorem dX4_init_23 : decode cX4_init 23 = .ok (.newarray .int, 2) := by decide +kernel
theorem dX4_init_25 : decode cX4_init 25 = .ok (.putfield 18, 3) := by decide +kernel
theorem dX4_init_28 : decode cX4_init 28 = .ok (.return_, 1) := by decide +kernel
theorem dX4_copyFrom_0 : decode cX4_copyFrom 0 = .ok (.aload_n 1, 1) := by decide +kernel
theorem dX4_copyFrom_1 : decode cX4_copyFrom 1 = .ok (.getfield 9, 3) := by decide +kernel
theorem dX4_copyFrom_4 : decode cX4_copyFrom 4 = .ok (.aload_n 0, 1) := by decide +kernel
theorem dX4_copyFrom_5 : decode cX4_copyFrom 5 = .ok (.getfield 9, 3) := by decide +kernel
theorem dX4_copyFrom_8 : decode cX4_copyFrom 8 = .ok (.invokestatic 21, 3) := by decide +kernel
theorem dX4_copyFrom_11 : decode cX4_copyFrom 11 = .ok (.aload_n 1, 1) := by decide +kernel
theorem dX4_copyFrom_12 : decode cX4_copyFrom 12 = .ok (.getfield 15, 3) := by decide +kernel
theorem dX4_copyFrom_15 : decode cX4_copyFrom 15 = .ok (.aload_n 0, 1) := by decide +kernel
theorem dX4_copyFrom_16 : decode cX4_copyFrom 16 = .ok (.getfield 15, 3) := by decide +kernel
theorem dX4_copyFrom_19 : decode cX4_copyFrom 19 = .ok (.invokestatic 21, 3) := by decide +kernel
theorem dX4_copyFrom_22 : decode cX4_copyFrom 22 = .ok (.aload_n 1, 1) := by decide +kernel
theorem dX4_copyFrom_23 : decode cX4_copyFrom 23 = .ok (.getfield 18, 3) := by decide +kernel
theorem dX4_copyFrom_26 : decode cX4_copyFrom 26 = .ok (.aload_n 0, 1) := by decide +kernel
theorem dX4_copyFrom_27 : decode cX4_copyFrom 27 = .ok (.getfield 18, 3) := by decide +kernel
theorem dX4_copyFrom_30 : decode cX4_copyFrom 30 = .ok (.invokestatic 21, 3) := by decide +kernel
theorem dX4_copyFrom_33 : decode cX4_copyFrom 33 = .ok (.aload_n 0, 1) := by decide +kernel
theorem dX4_copyFrom_34 : decode cX4_copyFrom 34 = .ok (.aload_n 1, 1) := by decide +kernel
theorem dX4_copyFrom_35 : decode cX4_copyFrom 35 = .ok (.getfield 27, 3) := by decide +kernel
theorem dX4_copyFrom_38 : decode cX4_copyFrom 38 = .ok (.putfield 27, 3) := by decide +kernel
theorem dX4_copyFrom_41 : decode cX4_copyFrom 41 = .ok (.return_, 1) := by decide +kernel
theorem dX4_empty_0 : decode cX4_empty 0 = .ok (.aload_n 0, 1) := by decide +kernel
theorem dX4_empty_1 : decode cX4_empty 1 = .ok (.iconst 0, 1) := by decide +kernel
theorem dX4_empty_2 : decode cX4_empty 2 = .ok (.putfield 27, 3) := by decide +kernel
theorem dX4_empty_5 : decode cX4_empty 5 = .ok (.return_, 1) := by decide +kernel
theorem dX4_rowOfTick_0 : decode cX4_rowOfTick 0 = .ok (.iconst 0, 1) := by decide +kernel
theorem dX4_rowOfTick_1 : decode cX4_rowOfTick 1 = .ok (.istore_n 2, 1) := by decide +kernel
theorem dX4_rowOfTick_2 : decode cX4_rowOfTick 2 = .ok (.iload_n 2, 1) := by decide +kernel
theorem dX4_rowOfTick_3 : decode cX4_rowOfTick 3 = .ok (.aload_n 0, 1) := by decide +kernel
theorem dX4_rowOfTick_4 : decode cX4_rowOfTick 4 = .ok (.getfield 27, 3) := by decide +kernel
theorem dX4_rowOfTick_7 : decode cX4_rowOfTick 7 = .ok (.if_icmp .ge 23, 3) := by decide +kernel
theorem dX4_rowOfTick_10 : decode cX4_rowOfTick 10 = .ok (.aload_n 0, 1) := by decide +kernel
theorem dX4_rowOfTick_11 : decode cX4_rowOfTick 11 = .ok (.getfield 9, 3) := by decide +kernel
theorem dX4_rowOfTick_14 : decode cX4_rowOfTick 14 = .ok (.iload_n 2, 1) := by decide +kernel
theorem dX4_rowOfTick_15 : decode cX4_rowOfTick 15 = .ok (.invokestatic 31, 3) := by decide +kernel
theorem dX4_rowOfTick_18 : decode cX4_rowOfTick 18 = .ok (.iload_n 1, 1) := by decide +kernel
theorem dX4_rowOfTick_19 : decode cX4_rowOfTick 19 = .ok (.if_icmp .ne 5, 3) := by decide +kernel
theorem dX4_rowOfTick_22 : decode cX4_rowOfTick 22 = .ok (.iload_n 2, 1) := by decide +kernel
theorem dX4_rowOfTick_23 : decode cX4_rowOfTick 23 = .ok (.ireturn, 1) := by decide +kernel
theorem dX4_rowOfTick_24 : decode cX4_rowOfTick 24 = .ok (.iinc 2 1, 3) := by decide +kernel
theorem dX4_rowOfTick_27 : decode cX4_rowOfTick 27 = .ok (.goto (-25), 3) := by decide +kernel
theorem dX4_rowOfTick_30 : decode cX4_rowOfTick 30 = .ok (.bipush (-5), 2) := by decide +kernel
theorem dX4_rowOfTick_32 : decode cX4_rowOfTick 32 = .ok (.ireturn, 1) := by decide +kernel
theorem dX4_hasRoomFor_0 : decode cX4_hasRoomFor 0 = .ok (.aload_n 0, 1) := by decide +kernel
theorem dX4_hasRoomFor_1 : decode cX4_hasRoomFor 1 = .ok (.getfield 27, 3) := by decide +kernel
theorem dX4_hasRoomFor_4 : decode cX4_hasRoomFor 4 = .ok (.bipush 10, 2) := by decide +kernel
theorem dX4_hasRoomFor_6 : decode cX4_hasRoomFor 6 = .ok (.if_icmp .lt 13, 3) := by decide +kernel
theorem dX4_hasRoomFor_9 : decode cX4_hasRoomFor 9 = .ok (.aload_n 0, 1) := by decide +kernel
theorem dX4_hasRoomFor_10 : decode cX4_hasRoomFor 10 = .ok (.iload_n 1, 1) := by decide +kernel
theorem dX4_hasRoomFor_11 : decode cX4_hasRoomFor 11 = .ok (.invokevirtual 35, 3) := by decide +kernel
theorem dX4_hasRoomFor_14 : decode cX4_hasRoomFor 14 = .ok (.bipush (-5), 2) := by decide +kernel
theorem dX4_hasRoomFor_16 : decode cX4_hasRoomFor 16 = .ok (.if_icmp .eq 7, 3) := by decide +kernel
theorem dX4_hasRoomFor_19 : decode cX4_hasRoomFor 19 = .ok (.iconst 1, 1) := by decide +kernel
theorem dX4_hasRoomFor_20 : decode cX4_hasRoomFor 20 = .ok (.goto 4, 3) := by decide +kernel
theorem dX4_hasRoomFor_23 : decode cX4_hasRoomFor 23 = .ok (.iconst 0, 1) := by decide +kernel
theorem dX4_hasRoomFor_24 : decode cX4_hasRoomFor 24 = .ok (.ireturn, 1) := by decide +kernel
theorem dX4_enter_0 : decode cX4_enter 0 = .ok (.aload_n 0, 1) := by decide +kernel
theorem dX4_enter_1 : decode cX4_enter 1 = .ok (.iload_n 1, 1) := by decide +kernel
theorem dX4_enter_2 : decode cX4_enter 2 = .ok (.invokevirtual 35, 3) := by decide +kernel
theorem dX4_enter_5 : decode cX4_enter 5 = .ok (.istore 4, 2) := by decide +kernel
theorem dX4_enter_7 : decode cX4_enter 7 = .ok (.iload 4, 2) := by decide +kernel
theorem dX4_enter_9 : decode cX4_enter 9 = .ok (.bipush (-5), 2) := by decide +kernel
theorem dX4_enter_11 : decode cX4_enter 11 = .ok (.if_icmp .ne 19, 3) := by decide +kernel
theorem dX4_enter_14 : decode cX4_enter 14 = .ok (.aload_n 0, 1) := by decide +kernel
theorem dX4_enter_15 : decode cX4_enter 15 = .ok (.getfield 27, 3) := by decide +kernel
theorem dX4_enter_18 : decode cX4_enter 18 = .ok (.istore 4, 2) := by decide +kernel
theorem dX4_enter_20 : decode cX4_enter 20 = .ok (.aload_n 0, 1) := by decide +kernel
theorem dX4_enter_21 : decode cX4_enter 21 = .ok (.dup, 1) := by decide +kernel
theorem dX4_enter_22 : decode cX4_enter 22 = .ok (.getfield 27, 3) := by decide +kernel
theorem dX4_enter_25 : decode cX4_enter 25 = .ok (.iconst 1, 1) := by decide +kernel
theorem dX4_enter_26 : decode cX4_enter 26 = .ok (.iadd, 1) := by decide +kernel
theorem dX4_enter_27 : decode cX4_enter 27 = .ok (.putfield 27, 3) := by decide +kernel
theorem dX4_enter_30 : decode cX4_enter 30 = .ok (.aload_n 0, 1) := by decide +kernel
theorem dX4_enter_31 : decode cX4_enter 31 = .ok (.getfield 9, 3) := by decide +kernel
theorem dX4_enter_34 : decode cX4_enter 34 = .ok (.iload 4, 2) := by decide +kernel
theorem dX4_enter_36 : decode cX4_enter 36 = .ok (.iload_n 1, 1) := by decide +kernel
theorem dX4_enter_37 : decode cX4_enter 37 = .ok (.invokestatic 39, 3) := by decide +kernel
theorem dX4_enter_40 : decode cX4_enter 40 = .ok (.aload_n 0, 1) := by decide +kernel
theorem dX4_enter_41 : decode cX4_enter 41 = .ok (.getfield 15, 3) := by decide +kernel
theorem dX4_enter_44 : decode cX4_enter 44 = .ok (.iload 4, 2) := by decide +kernel
theorem dX4_enter_46 : decode cX4_enter 46 = .ok (.iload_n 2, 1) := by decide +kernel
theorem dX4_enter_47 : decode cX4_enter 47 = .ok (.invokestatic 39, 3) := by decide +kernel
theorem dX4_enter_50 : decode cX4_enter 50 = .ok (.aload_n 0, 1) := by decide +kernel
theorem dX4_enter_51 : decode cX4_enter 51 = .ok (.getfield 18, 3) := by decide +kernel
theorem dX4_enter_54 : decode cX4_enter 54 = .ok (.iload 4, 2) := by decide +kernel
theorem dX4_enter_56 : decode cX4_enter 56 = .ok (.iload_n 3, 1) := by decide +kernel
theorem dX4_enter_57 : decode cX4_enter 57 = .ok (.invokestatic 39, 3) := by decide +kernel
theorem dX4_enter_60 : decode cX4_enter 60 = .ok (.return_, 1) := by decide +kernel
theorem dX4_rowOfPlace_0 : decode cX4_rowOfPlace 0 = .ok (.iconst 0, 1) := by decide +kernel
theorem dX4_rowOfPlace_1 : decode cX4_rowOfPlace 1 = .ok (.istore_n 2, 1) := by decide +kernel
theorem dX4_rowOfPlace_2 : decode cX4_rowOfPlace 2 = .ok (.iload_n 2, 1) := by decide +kernel
theorem dX4_rowOfPlace_3 : decode cX4_rowOfPlace 3 = .ok (.aload_n 0, 1) := by decide +kernel
theorem dX4_rowOfPlace_4 : decode cX4_rowOfPlace 4 = .ok (.getfield 27, 3) := by decide +kernel
theorem dX4_rowOfPlace_7 : decode cX4_rowOfPlace 7 = .ok (.if_icmp .ge 27, 3) := by decide +kernel
theorem dX4_rowOfPlace_10 : decode cX4_rowOfPlace 10 = .ok (.aload_n 0, 1) := by decide +kernel
theorem dX4_rowOfPlace_11 : decode cX4_rowOfPlace 11 = .ok (.aload_n 0, 1) := by decide +kernel
theorem dX4_rowOfPlace_12 : decode cX4_rowOfPlace 12 = .ok (.getfield 9, 3) := by decide +kernel
theorem dX4_rowOfPlace_15 : decode cX4_rowOfPlace 15 = .ok (.iload_n 2, 1) := by decide +kernel
theorem dX4_rowOfPlace_16 : decode cX4_rowOfPlace 16 = .ok (.invokestatic 31, 3) := by decide +kernel
theorem dX4_rowOfPlace_19 : decode cX4_rowOfPlace 19 = .ok (.invokevirtual 43, 3) := by decide +kernel
theorem dX4_rowOfPlace_22 : decode cX4_rowOfPlace 22 = .ok (.iload_n 1, 1) := by decide +kernel
theorem dX4_rowOfPlace_23 : decode cX4_rowOfPlace 23 = .ok (.if_icmp .ne 5, 3) := by decide +kernel
theorem dX4_rowOfPlace_26 : decode cX4_rowOfPlace 26 = .ok (.iload_n 2, 1) := by decide +kernel
theorem dX4_rowOfPlace_27 : decode cX4_rowOfPlace 27 = .ok (.ireturn, 1) := by decide +kernel
theorem dX4_rowOfPlace_28 : decode cX4_rowOfPlace 28 = .ok (.iinc 2 1, 3) := by decide +kernel
theorem dX4_rowOfPlace_31 : decode cX4_rowOfPlace 31 = .ok (.goto (-29), 3) := by decide +kernel
theorem dX4_rowOfPlace_34 : decode cX4_rowOfPlace 34 = .ok (.bipush (-5), 2) := by decide +kernel
theorem dX4_rowOfPlace_36 : decode cX4_rowOfPlace 36 = .ok (.ireturn, 1) := by decide +kernel
theorem dX4_boatsAheadOf_0 : decode cX4_boatsAheadOf 0 = .ok (.iconst 0, 1) := by decide +kernel
theorem dX4_boatsAheadOf_1 : decode cX4_boatsAheadOf 1 = .ok (.istore_n 2, 1) := by decide +kernel
theorem dX4_boatsAheadOf_2 : decode cX4_boatsAheadOf 2 = .ok (.iconst 0, 1) := by decide +kernel
theorem dX4_boatsAheadOf_3 : decode cX4_boatsAheadOf 3 = .ok (.istore_n 3, 1) := by decide +kernel
theorem dX4_boatsAheadOf_4 : decode cX4_boatsAheadOf 4 = .ok (.iload_n 3, 1) := by decide +kernel
theorem dX4_boatsAheadOf_5 : decode cX4_boatsAheadOf 5 = .ok (.aload_n 0, 1) := by decide +kernel
theorem dX4_boatsAheadOf_6 : decode cX4_boatsAheadOf 6 = .ok (.getfield 27, 3) := by decide +kernel
theorem dX4_boatsAheadOf_9 : decode cX4_boatsAheadOf 9 = .ok (.if_icmp .ge 32, 3) := by decide +kernel
theorem dX4_boatsAheadOf_12 : decode cX4_boatsAheadOf 12 = .ok (.iload_n 2, 1) := by decide +kernel
theorem dX4_boatsAheadOf_13 : decode cX4_boatsAheadOf 13 = .ok (.aload_n 0, 1) := by decide +kernel
theorem dX4_boatsAheadOf_14 : decode cX4_boatsAheadOf 14 = .ok (.getfield 9, 3) := by decide +kernel
theorem dX4_boatsAheadOf_17 : decode cX4_boatsAheadOf 17 = .ok (.iload_n 3, 1) := by decide +kernel
theorem dX4_boatsAheadOf_18 : decode cX4_boatsAheadOf 18 = .ok (.invokestatic 31, 3) := by decide +kernel
theorem dX4_boatsAheadOf_21 : decode cX4_boatsAheadOf 21 = .ok (.iload_n 1, 1) := by decide +kernel
theorem dX4_boatsAheadOf_22 : decode cX4_boatsAheadOf 22 = .ok (.if_icmp .ge 7, 3) := by decide +kernel
theorem dX4_boatsAheadOf_25 : decode cX4_boatsAheadOf 25 = .ok (.iconst 1, 1) := by decide +kernel
theorem dX4_boatsAheadOf_26 : decode cX4_boatsAheadOf 26 = .ok (.goto 4, 3) := by decide +kernel
theorem dX4_boatsAheadOf_29 : decode cX4_boatsAheadOf 29 = .ok (.iconst 0, 1) := by decide +kernel
theorem dX4_boatsAheadOf_30 : decode cX4_boatsAheadOf 30 = .ok (.invokestatic 46, 3) := by decide +kernel
theorem dX4_boatsAheadOf_33 : decode cX4_boatsAheadOf 33 = .ok (.iadd, 1) := by decide +kernel
theorem dX4_boatsAheadOf_34 : decode cX4_boatsAheadOf 34 = .ok (.istore_n 2, 1) := by decide +kernel
theorem dX4_boatsAheadOf_35 : decode cX4_boatsAheadOf 35 = .ok (.iinc 3 1, 3) := by decide +kernel
theorem dX4_boatsAheadOf_38 : decode cX4_boatsAheadOf 38 = .ok (.goto (-34), 3) := by decide +kernel
theorem dX4_boatsAheadOf_41 : decode cX4_boatsAheadOf 41 = .ok (.iload_n 2, 1) := by decide +kernel
theorem dX4_boatsAheadOf_42 : decode cX4_boatsAheadOf 42 = .ok (.ireturn, 1) := by decide +kernel
theorem dX5_init_0 : decode cX5_init 0 = .ok (.aload_n 0, 1) := by decide +kernel
theorem dX5_init_1 : decode cX5_init 1 = .ok (.invokespecial 3, 3) := by decide +kernel
theorem dX5_init_4 : decode cX5_init 4 = .ok (.aload_n 0, 1) := by decide +kernel
theorem dX5_init_5 : decode cX5_init 5 = .ok (.bipush 60, 2) := by decide +kernel
theorem dX5_init_7 : decode cX5_init 7 = .ok (.newarray .char, 2) := by decide +kernel
theorem dX5_init_9 : decode cX5_init 9 = .ok (.putfield 9, 3) := by decide +kernel
theorem dX5_init_12 : decode cX5_init 12 = .ok (.return_, 1) := by decide +kernel
theorem dX5_add_0 : decode cX5_add 0 = .ok (.aload_n 0, 1) := by decide +kernel
theorem dX5_add_1 : decode cX5_add 1 = .ok (.getfield 15, 3) := by decide +kernel
theorem dX5_add_4 : decode cX5_add 4 = .ok (.ifCond .lt 15, 3) := by decide +kernel
theorem dX5_add_7 : decode cX5_add 7 = .ok (.aload_n 0, 1) := by decide +kernel
theorem dX5_add_8 : decode cX5_add 8 = .ok (.getfield 15, 3) := by decide +kernel
theorem dX5_add_11 : decode cX5_add 11 = .ok (.aload_n 0, 1) := by decide +kernel
theorem dX5_add_12 : decode cX5_add 12 = .ok (.getfield 9, 3) := by decide +kernel
theorem dX5_add_15 : decode cX5_add 15 = .ok (.arraylength, 1) := by decide +kernel
theorem dX5_add_16 : decode cX5_add 16 = .ok (.if_icmp .lt 5, 3) := by decide +kernel
theorem dX5_add_19 : decode cX5_add 19 = .ok (.iconst 0, 1) := by decide +kernel
theorem dX5_add_20 : decode cX5_add 20 = .ok (.ireturn, 1) := by decide +kernel
theorem dX5_add_21 : decode cX5_add 21 = .ok (.aload_n 0, 1) := by decide +kernel
theorem dX5_add_22 : decode cX5_add 22 = .ok (.getfield 9, 3) := by decide +kernel
theorem dX5_add_25 : decode cX5_add 25 = .ok (.aload_n 0, 1) := by decide +kernel
theorem dX5_add_26 : decode cX5_add 26 = .ok (.getfield 15, 3) := by decide +kernel
theorem dX5_add_29 : decode cX5_add 29 = .ok (.iload_n 1, 1) := by decide +kernel
theorem dX5_add_30 : decode cX5_add 30 = .ok (.castore, 1) := by decide +kernel
theorem dX5_add_31 : decode cX5_add 31 = .ok (.aload_n 0, 1) := by decide +kernel
theorem dX5_add_32 : decode cX5_add 32 = .ok (.dup, 1) := by decide +kernel
theorem dX5_add_33 : decode cX5_add 33 = .ok (.getfield 15, 3) := by decide +kernel
theorem dX5_add_36 : decode cX5_add 36 = .ok (.iconst 1, 1) := by decide +kernel
theorem dX5_add_37 : decode cX5_add 37 = .ok (.iadd, 1) := by decide +kernel
theorem dX5_add_38 : decode cX5_add 38 = .ok (.putfield 15, 3) := by decide +kernel
theorem dX5_add_41 : decode cX5_add 41 = .ok (.iconst 1, 1) := by decide +kernel
theorem dX5_add_42 : decode cX5_add 42 = .ok (.ireturn, 1) := by decide +kernel
theorem dX5_readInto_0 : decode cX5_readInto 0 = .ok (.aload_n 1, 1) := by decide +kernel
theorem dX5_readInto_1 : decode cX5_readInto 1 = .ok (.invokevirtual 19, 3) := by decide +kernel
theorem dX5_readInto_4 : decode cX5_readInto 4 = .ok (.aload_n 0, 1) := by decide +kernel
theorem dX5_readInto_5 : decode cX5_readInto 5 = .ok (.iconst 0, 1) := by decide +kernel
theorem dX5_readInto_6 : decode cX5_readInto 6 = .ok (.putfield 24, 3) := by decide +kernel
theorem dX5_readInto_9 : decode cX5_readInto 9 = .ok (.aload_n 0, 1) := by decide +kernel
theorem dX5_readInto_10 : decode cX5_readInto 10 = .ok (.invokevirtual 28, 3) := by decide +kernel
theorem dX5_readInto_13 : decode cX5_readInto 13 = .ok (.iconst 0, 1) := by decide +kernel
theorem dX5_readInto_14 : decode cX5_readInto 14 = .ok (.istore_n 2, 1) := by decide +kernel
theorem dX5_readInto_15 : decode cX5_readInto 15 = .ok (.iload_n 2, 1) := by decide +kernel
theorem dX5_readInto_16 : decode cX5_readInto 16 = .ok (.aload_n 0, 1) := by decide +kernel
theorem dX5_readInto_17 : decode cX5_readInto 17 = .ok (.getfield 15, 3) := by decide +kernel
theorem dX5_readInto_20 : decode cX5_readInto 20 = .ok (.if_icmp .ge 34, 3) := by decide +kernel
theorem dX5_readInto_23 : decode cX5_readInto 23 = .ok (.iload_n 2, 1) := by decide +kernel
theorem dX5_readInto_24 : decode cX5_readInto 24 = .ok (.aload_n 0, 1) := by decide +kernel
theorem dX5_readInto_25 : decode cX5_readInto 25 = .ok (.getfield 9, 3) := by decide +kernel
theorem dX5_readInto_28 : decode cX5_readInto 28 = .ok (.arraylength, 1) := by decide +kernel
theorem dX5_readInto_29 : decode cX5_readInto 29 = .ok (.if_icmp .ge 25, 3) := by decide +kernel
theorem dX5_readInto_32 : decode cX5_readInto 32 = .ok (.aload_n 0, 1) := by decide +kernel
theorem dX5_readInto_33 : decode cX5_readInto 33 = .ok (.aload_n 0, 1) := by decide +kernel
theorem dX5_readInto_34 : decode cX5_readInto 34 = .ok (.getfield 9, 3) := by decide +kernel
theorem dX5_readInto_37 : decode cX5_readInto 37 = .ok (.iload_n 2, 1) := by decide +kernel
theorem dX5_readInto_38 : decode cX5_readInto 38 = .ok (.caload, 1) := by decide +kernel
theorem dX5_readInto_39 : decode cX5_readInto 39 = .ok (.aload_n 1, 1) := by decide +kernel
theorem dX5_readInto_40 : decode cX5_readInto 40 = .ok (.invokevirtual 31, 3) := by decide +kernel
theorem dX5_readInto_43 : decode cX5_readInto 43 = .ok (.ifCond .ne 5, 3) := by decide +kernel
theorem dX5_readInto_46 : decode cX5_readInto 46 = .ok (.iload_n 2, 1) := by decide +kernel
theorem dX5_readInto_47 : decode cX5_readInto 47 = .ok (.ireturn, 1) := by decide +kernel
theorem dX5_readInto_48 : decode cX5_readInto 48 = .ok (.iinc 2 1, 3) := by decide +kernel
theorem dX5_readInto_51 : decode cX5_readInto 51 = .ok (.goto (-36), 3) := by decide +kernel
theorem dX5_readInto_54 : decode cX5_readInto 54 = .ok (.aload_n 0, 1) := by decide +kernel
theorem dX5_readInto_55 : decode cX5_readInto 55 = .ok (.getfield 35, 3) := by decide +kernel
theorem dX5_readInto_58 : decode cX5_readInto 58 = .ok (.iconst 4, 1) := by decide +kernel
theorem dX5_readInto_59 : decode cX5_readInto 59 = .ok (.if_icmp .ne 7, 3) := by decide +kernel
theorem dX5_readInto_62 : decode cX5_readInto 62 = .ok (.iconst (-1), 1) := by decide +kernel
theorem dX5_readInto_63 : decode cX5_readInto 63 = .ok (.goto 7, 3) := by decide +kernel
theorem dX5_readInto_66 : decode cX5_readInto 66 = .ok (.aload_n 0, 1) := by decide +kernel
theorem dX5_readInto_67 : decode cX5_readInto 67 = .ok (.getfield 15, 3) := by decide +kernel
theorem dX5_readInto_70 : decode cX5_readInto 70 = .ok (.ireturn, 1) := by decide +kernel
theorem dX5_beginBoat_0 : decode cX5_beginBoat 0 = .ok (.aload_n 0, 1) := by decide +kernel
theorem dX5_beginBoat_1 : decode cX5_beginBoat 1 = .ok (.iconst 0, 1) := by decide +kernel
theorem dX5_beginBoat_2 : decode cX5_beginBoat 2 = .ok (.putfield 35, 3) := by decide +kernel
theorem dX5_beginBoat_5 : decode cX5_beginBoat 5 = .ok (.aload_n 0, 1) := by decide +kernel
theorem dX5_beginBoat_6 : decode cX5_beginBoat 6 = .ok (.iconst 0, 1) := by decide +kernel
theorem dX5_beginBoat_7 : decode cX5_beginBoat 7 = .ok (.putfield 38, 3) := by decide +kernel
theorem dX5_beginBoat_10 : decode cX5_beginBoat 10 = .ok (.aload_n 0, 1) := by decide +kernel
theorem dX5_beginBoat_11 : decode cX5_beginBoat 11 = .ok (.iconst 0, 1) := by decide +kernel
theorem dX5_beginBoat_12 : decode cX5_beginBoat 12 = .ok (.putfield 41, 3) := by decide +kernel
theorem dX5_beginBoat_15 : decode cX5_beginBoat 15 = .ok (.return_, 1) := by decide +kernel
theorem dX5_allows_0 : decode cX5_allows 0 = .ok (.aload_n 0, 1) := by decide +kernel
theorem dX5_allows_1 : decode cX5_allows 1 = .ok (.getfield 35, 3) := by decide +kernel
theorem dX5_allows_4 : decode cX5_allows 4 = .ok (.tableswitch 68 0 3 #[32, 38, 44, 61], 32) := by decide +kernel
theorem dX5_allows_36 : decode cX5_allows 36 = .ok (.aload_n 0, 1) := by decide +kernel
theorem dX5_allows_37 : decode cX5_allows 37 = .ok (.iload_n 1, 1) := by decide +kernel
theorem dX5_allows_38 : decode cX5_allows 38 = .ok (.invokevirtual 44, 3) := by decide +kernel
theorem dX5_allows_41 : decode cX5_allows 41 = .ok (.ireturn, 1) := by decide +kernel
theorem dX5_allows_42 : decode cX5_allows 42 = .ok (.aload_n 0, 1) := by decide +kernel
theorem dX5_allows_43 : decode cX5_allows 43 = .ok (.iload_n 1, 1) := by decide +kernel
theorem dX5_allows_44 : decode cX5_allows 44 = .ok (.invokevirtual 48, 3) := by decide +kernel
theorem dX5_allows_47 : decode cX5_allows 47 = .ok (.ireturn, 1) := by decide +kernel
theorem dX5_allows_48 : decode cX5_allows 48 = .ok (.aload_n 0, 1) := by decide +kernel
theorem dX5_allows_49 : decode cX5_allows 49 = .ok (.iconst 3, 1) := by decide +kernel
theorem dX5_allows_50 : decode cX5_allows 50 = .ok (.putfield 35, 3) := by decide +kernel
theorem dX5_allows_53 : decode cX5_allows 53 = .ok (.iload_n 1, 1) := by decide +kernel
theorem dX5_allows_54 : decode cX5_allows 54 = .ok (.bipush 120, 2) := by decide +kernel
theorem dX5_allows_56 : decode cX5_allows 56 = .ok (.if_icmp .ne 7, 3) := by decide +kernel
theorem dX5_allows_59 : decode cX5_allows 59 = .ok (.iconst 1, 1) := by decide +kernel
theorem dX5_allows_60 : decode cX5_allows 60 = .ok (.goto 4, 3) := by decide +kernel
theorem dX5_allows_63 : decode cX5_allows 63 = .ok (.iconst 0, 1) := by decide +kernel
theorem dX5_allows_64 : decode cX5_allows 64 = .ok (.ireturn, 1) := by decide +kernel
theorem dX5_allows_65 : decode cX5_allows 65 = .ok (.aload_n 0, 1) := by decide +kernel
theorem dX5_allows_66 : decode cX5_allows 66 = .ok (.iload_n 1, 1) := by decide +kernel
theorem dX5_allows_67 : decode cX5_allows 67 = .ok (.aload_n 2, 1) := by decide +kernel
theorem dX5_allows_68 : decode cX5_allows 68 = .ok (.invokevirtual 51, 3) := by decide +kernel
theorem dX5_allows_71 : decode cX5_allows 71 = .ok (.ireturn, 1) := by decide +kernel
theorem dX5_allows_72 : decode cX5_allows 72 = .ok (.aload_n 0, 1) := by decide +kernel
theorem dX5_allows_73 : decode cX5_allows 73 = .ok (.invokevirtual 28, 3) := by decide +kernel
theorem dX5_allows_76 : decode cX5_allows 76 = .ok (.iload_n 1, 1) := by decide +kernel
theorem dX5_allows_77 : decode cX5_allows 77 = .ok (.bipush 44, 2) := by decide +kernel
theorem dX5_allows_79 : decode cX5_allows 79 = .ok (.if_icmp .ne 7, 3) := by decide +kernel
theorem dX5_allows_82 : decode cX5_allows 82 = .ok (.iconst 1, 1) := by decide +kernel
theorem dX5_allows_83 : decode cX5_allows 83 = .ok (.goto 4, 3) := by decide +kernel
theorem dX5_allows_86 : decode cX5_allows 86 = .ok (.iconst 0, 1) := by decide +kernel
theorem dX5_allows_87 : decode cX5_allows 87 = .ok (.ireturn, 1) := by decide +kernel
theorem dX5_allowsInTick_0 : decode cX5_allowsInTick 0 = .ok (.iload_n 1, 1) := by decide +kernel
theorem dX5_allowsInTick_1 : decode cX5_allowsInTick 1 = .ok (.bipush 58, 2) := by decide +kernel
theorem dX5_allowsInTick_3 : decode cX5_allowsInTick 3 = .ok (.if_icmp .ne 21, 3) := by decide +kernel
theorem dX5_allowsInTick_6 : decode cX5_allowsInTick 6 = .ok (.aload_n 0, 1) := by decide +kernel
theorem dX5_allowsInTick_7 : decode cX5_allowsInTick 7 = .ok (.iconst 1, 1) := by decide +kernel
theorem dX5_allowsInTick_8 : decode cX5_allowsInTick 8 = .ok (.putfield 35, 3) := by decide +kernel
theorem dX5_allowsInTick_11 : decode cX5_allowsInTick 11 = .ok (.aload_n 0, 1) := by decide +kernel
theorem dX5_allowsInTick_12 : decode cX5_allowsInTick 12 = .ok (.getfield 38, 3) := by decide +kernel
theorem dX5_allowsInTick_15 : decode cX5_allowsInTick 15 = .ok (.ifCond .le 7, 3) := by decide +kernel
theorem dX5_allowsInTick_18 : decode cX5_allowsInTick 18 = .ok (.iconst 1, 1) := by decide +kernel
theorem dX5_allowsInTick_19 : decode cX5_allowsInTick 19 = .ok (.goto 4, 3) := by decide +kernel
theorem dX5_allowsInTick_22 : decode cX5_allowsInTick 22 = .ok (.iconst 0, 1) := by decide +kernel
theorem dX5_allowsInTick_23 : decode cX5_allowsInTick 23 = .ok (.ireturn, 1) := by decide +kernel
theorem dX5_allowsInTick_24 : decode cX5_allowsInTick 24 = .ok (.aload_n 0, 1) := by decide +kernel
theorem dX5_allowsInTick_25 : decode cX5_allowsInTick 25 = .ok (.getfield 38, 3) := by decide +kernel
theorem dX5_allowsInTick_28 : decode cX5_allowsInTick 28 = .ok (.ifCond .le 14, 3) := by decide +kernel
theorem dX5_allowsInTick_31 : decode cX5_allowsInTick 31 = .ok (.aload_n 0, 1) := by decide +kernel
theorem dX5_allowsInTick_32 : decode cX5_allowsInTick 32 = .ok (.getfield 41, 3) := by decide +kernel
theorem dX5_allowsInTick_35 : decode cX5_allowsInTick 35 = .ok (.ifCond .ne 7, 3) := by decide +kernel
theorem dX5_allowsInTick_38 : decode cX5_allowsInTick 38 = .ok (.iconst 1, 1) := by decide +kernel
theorem dX5_allowsInTick_39 : decode cX5_allowsInTick 39 = .ok (.goto 4, 3) := by decide +kernel
theorem dX5_allowsInTick_42 : decode cX5_allowsInTick 42 = .ok (.iconst 0, 1) := by decide +kernel
theorem dX5_allowsInTick_43 : decode cX5_allowsInTick 43 = .ok (.istore_n 2, 1) := by decide +kernel
theorem dX5_allowsInTick_44 : decode cX5_allowsInTick 44 = .ok (.iload_n 1, 1) := by decide +kernel
theorem dX5_allowsInTick_45 : decode cX5_allowsInTick 45 = .ok (.bipush 48, 2) := by decide +kernel
theorem dX5_allowsInTick_47 : decode cX5_allowsInTick 47 = .ok (.bipush 57, 2) := by decide +kernel
theorem dX5_allowsInTick_49 : decode cX5_allowsInTick 49 = .ok (.invokestatic 54, 3) := by decide +kernel
theorem dX5_allowsInTick_52 : decode cX5_allowsInTick 52 = .ok (.ifCond .eq 15, 3) := by decide +kernel
theorem dX5_allowsInTick_55 : decode cX5_allowsInTick 55 = .ok (.aload_n 0, 1) := by decide +kernel
theorem dX5_allowsInTick_56 : decode cX5_allowsInTick 56 = .ok (.getfield 38, 3) := by decide +kernel
theorem dX5_allowsInTick_59 : decode cX5_allowsInTick 59 = .ok (.iconst 4, 1) := by decide +kernel
theorem dX5_allowsInTick_60 : decode cX5_allowsInTick 60 = .ok (.if_icmp .ge 7, 3) := by decide +kernel
theorem dX5_allowsInTick_63 : decode cX5_allowsInTick 63 = .ok (.iload_n 2, 1) := by decide +kernel
theorem dX5_allowsInTick_64 : decode cX5_allowsInTick 64 = .ok (.ifCond .eq 5, 3) := by decide +kernel
theorem dX5_allowsInTick_67 : decode cX5_allowsInTick 67 = .ok (.iconst 0, 1) := by decide +kernel
theorem dX5_allowsInTick_68 : decode cX5_allowsInTick 68 = .ok (.ireturn, 1) := by decide +kernel
theorem dX5_allowsInTick_69 : decode cX5_allowsInTick 69 = .ok (.aload_n 0, 1) := by decide +kernel
theorem dX5_allowsInTick_70 : decode cX5_allowsInTick 70 = .ok (.bipush 10, 2) := by decide +kernel
theorem dX5_allowsInTick_72 : decode cX5_allowsInTick 72 = .ok (.aload_n 0, 1) := by decide +kernel
theorem dX5_allowsInTick_73 : decode cX5_allowsInTick 73 = .ok (.getfield 41, 3) := by decide +kernel
theorem dX5_allowsInTick_76 : decode cX5_allowsInTick 76 = .ok (.imul, 1) := by decide +kernel
theorem dX5_allowsInTick_77 : decode cX5_allowsInTick 77 = .ok (.iload_n 1, 1) := by decide +kernel
theorem dX5_allowsInTick_78 : decode cX5_allowsInTick 78 = .ok (.iadd, 1) := by decide +kernel
theorem dX5_allowsInTick_79 : decode cX5_allowsInTick 79 = .ok (.bipush 48, 2) := by decide +kernel
theorem dX5_allowsInTick_81 : decode cX5_allowsInTick 81 = .ok (.isub, 1) := by decide +kernel
theorem dX5_allowsInTick_82 : decode cX5_allowsInTick 82 = .ok (.putfield 41, 3) := by decide +kernel
theorem dX5_allowsInTick_85 : decode cX5_allowsInTick 85 = .ok (.aload_n 0, 1) := by decide +kernel
theorem dX5_allowsInTick_86 : decode cX5_allowsInTick 86 = .ok (.dup, 1) := by decide +kernel
theorem dX5_allowsInTick_87 : decode cX5_allowsInTick 87 = .ok (.getfield 38, 3) := by decide +kernel
theorem dX5_allowsInTick_90 : decode cX5_allowsInTick 90 = .ok (.iconst 1, 1) := by decide +kernel
theorem dX5_allowsInTick_91 : decode cX5_allowsInTick 91 = .ok (.iadd, 1) := by decide +kernel
theorem dX5_allowsInTick_92 : decode cX5_allowsInTick 92 = .ok (.putfield 38, 3) := by decide +kernel
theorem dX5_allowsInTick_95 : decode cX5_allowsInTick 95 = .ok (.iconst 1, 1) := by decide +kernel
theorem dX5_allowsInTick_96 : decode cX5_allowsInTick 96 = .ok (.ireturn, 1) := by decide +kernel
theorem dX5_allowsAsKind_0 : decode cX5_allowsAsKind 0 = .ok (.aload_n 0, 1) := by decide +kernel
theorem dX5_allowsAsKind_1 : decode cX5_allowsAsKind 1 = .ok (.iload_n 1, 1) := by decide +kernel
theorem dX5_allowsAsKind_2 : decode cX5_allowsAsKind 2 = .ok (.bipush 48, 2) := by decide +kernel
theorem dX5_allowsAsKind_4 : decode cX5_allowsAsKind 4 = .ok (.isub, 1) := by decide +kernel
theorem dX5_allowsAsKind_5 : decode cX5_allowsAsKind 5 = .ok (.putfield 58, 3) := by decide +kernel
theorem dX5_allowsAsKind_8 : decode cX5_allowsAsKind 8 = .ok (.aload_n 0, 1) := by decide +kernel
theorem dX5_allowsAsKind_9 : decode cX5_allowsAsKind 9 = .ok (.iconst 2, 1) := by decide +kernel
theorem dX5_allowsAsKind_10 : decode cX5_allowsAsKind 10 = .ok (.putfield 35, 3) := by decide +kernel
theorem dX5_allowsAsKind_13 : decode cX5_allowsAsKind 13 = .ok (.aload_n 0, 1) := by decide +kernel
theorem dX5_allowsAsKind_14 : decode cX5_allowsAsKind 14 = .ok (.getfield 58, 3) := by decide +kernel
theorem dX5_allowsAsKind_17 : decode cX5_allowsAsKind 17 = .ok (.invokestatic 61, 3) := by decide +kernel
theorem dX5_allowsAsKind_20 : decode cX5_allowsAsKind 20 = .ok (.ireturn, 1) := by decide +kernel
theorem dX5_allowsAsLoad_0 : decode cX5_allowsAsLoad 0 = .ok (.iload_n 1, 1) := by decide +kernel
theorem dX5_allowsAsLoad_1 : decode cX5_allowsAsLoad 1 = .ok (.bipush 48, 2) := by decide +kernel
theorem dX5_allowsAsLoad_3 : decode cX5_allowsAsLoad 3 = .ok (.isub, 1) := by decide +kernel
theorem dX5_allowsAsLoad_4 : decode cX5_allowsAsLoad 4 = .ok (.istore_n 3, 1) := by decide +kernel
theorem dX5_allowsAsLoad_5 : decode cX5_allowsAsLoad 5 = .ok (.iload_n 3, 1) := by decide +kernel
theorem dX5_allowsAsLoad_6 : decode cX5_allowsAsLoad 6 = .ok (.invokestatic 65, 3) := by decide +kernel
theorem dX5_allowsAsLoad_9 : decode cX5_allowsAsLoad 9 = .ok (.ifCond .ne 5, 3) := by decide +kernel
theorem dX5_allowsAsLoad_12 : decode cX5_allowsAsLoad 12 = .ok (.iconst 0, 1) := by decide +kernel
theorem dX5_allowsAsLoad_13 : decode cX5_allowsAsLoad 13 = .ok (.ireturn, 1) := by decide +kernel
theorem dX5_allowsAsLoad_14 : decode cX5_allowsAsLoad 14 = .ok (.aload_n 2, 1) := by decide +kernel
theorem dX5_allowsAsLoad_15 : decode cX5_allowsAsLoad 15 = .ok (.aload_n 0, 1) := by decide +kernel
theorem dX5_allowsAsLoad_16 : decode cX5_allowsAsLoad 16 = .ok (.getfield 41, 3) := by decide +kernel
theorem dX5_allowsAsLoad_19 : decode cX5_allowsAsLoad 19 = .ok (.invokevirtual 68, 3) := by decide +kernel
theorem dX5_allowsAsLoad_22 : decode cX5_allowsAsLoad 22 = .ok (.ifCond .eq 19, 3) := by decide +kernel
theorem dX5_allowsAsLoad_25 : decode cX5_allowsAsLoad 25 = .ok (.aload_n 2, 1) := by decide +kernel
theorem dX5_allowsAsLoad_26 : decode cX5_allowsAsLoad 26 = .ok (.aload_n 0, 1) := by decide +kernel
theorem dX5_allowsAsLoad_27 : decode cX5_allowsAsLoad 27 = .ok (.getfield 41, 3) := by decide +kernel
theorem dX5_allowsAsLoad_30 : decode cX5_allowsAsLoad 30 = .ok (.aload_n 0, 1) := by decide +kernel
theorem dX5_allowsAsLoad_31 : decode cX5_allowsAsLoad 31 = .ok (.getfield 58, 3) := by decide +kernel
theorem dX5_allowsAsLoad_34 : decode cX5_allowsAsLoad 34 = .ok (.iload_n 3, 1) := by decide +kernel
theorem dX5_allowsAsLoad_35 : decode cX5_allowsAsLoad 35 = .ok (.invokevirtual 71, 3) := by decide +kernel
theorem dX5_allowsAsLoad_38 : decode cX5_allowsAsLoad 38 = .ok (.goto 8, 3) := by decide +kernel
theorem dX5_allowsAsLoad_41 : decode cX5_allowsAsLoad 41 = .ok (.aload_n 0, 1) := by decide +kernel
theorem dX5_allowsAsLoad_42 : decode cX5_allowsAsLoad 42 = .ok (.iconst 1, 1) := by decide +kernel
theorem dX5_allowsAsLoad_43 : decode cX5_allowsAsLoad 43 = .ok (.putfield 24, 3) := by decide +kernel
theorem dX5_allowsAsLoad_46 : decode cX5_allowsAsLoad 46 = .ok (.aload_n 0, 1) := by decide +kernel
theorem dX5_allowsAsLoad_47 : decode cX5_allowsAsLoad 47 = .ok (.iconst 4, 1) := by decide +kernel
theorem dX5_allowsAsLoad_48 : decode cX5_allowsAsLoad 48 = .ok (.putfield 35, 3) := by decide +kernel
theorem dX5_allowsAsLoad_51 : decode cX5_allowsAsLoad 51 = .ok (.iconst 1, 1) := by decide +kernel
theorem dX5_allowsAsLoad_52 : decode cX5_allowsAsLoad 52 = .ok (.ireturn, 1) := by decide +kernel
theorem dX6_at_0 : decode cX6_at 0 = .ok (.iload_n 1, 1) := by decide +kernel
theorem dX6_at_1 : decode cX6_at 1 = .ok (.ifCond .lt 15, 3) := by decide +kernel
theorem dX6_at_4 : decode cX6_at 4 = .ok (.iload_n 1, 1) := by decide +kernel
theorem dX6_at_5 : decode cX6_at 5 = .ok (.aload_n 0, 1) := by decide +kernel
theorem dX6_at_6 : decode cX6_at 6 = .ok (.arraylength, 1) := by decide +kernel
theorem dX6_at_7 : decode cX6_at 7 = .ok (.if_icmp .ge 9, 3) := by decide +kernel
theorem dX6_at_10 : decode cX6_at 10 = .ok (.aload_n 0, 1) := by decide +kernel
theorem dX6_at_11 : decode cX6_at 11 = .ok (.iload_n 1, 1) := by decide +kernel
theorem dX6_at_12 : decode cX6_at 12 = .ok (.iaload, 1) := by decide +kernel
theorem dX6_at_13 : decode cX6_at 13 = .ok (.goto 4, 3) := by decide +kernel
theorem dX6_at_16 : decode cX6_at 16 = .ok (.iconst 0, 1) := by decide +kernel
theorem dX6_at_17 : decode cX6_at 17 = .ok (.ireturn, 1) := by decide +kernel
theorem dX6_write_0 : decode cX6_write 0 = .ok (.iload_n 1, 1) := by decide +kernel
theorem dX6_write_1 : decode cX6_write 1 = .ok (.ifCond .lt 13, 3) := by decide +kernel
theorem dX6_write_4 : decode cX6_write 4 = .ok (.iload_n 1, 1) := by decide +kernel
theorem dX6_write_5 : decode cX6_write 5 = .ok (.aload_n 0, 1) := by decide +kernel
theorem dX6_write_6 : decode cX6_write 6 = .ok (.arraylength, 1) := by decide +kernel
theorem dX6_write_7 : decode cX6_write 7 = .ok (.if_icmp .ge 7, 3) := by decide +kernel
theorem dX6_write_10 : decode cX6_write 10 = .ok (.aload_n 0, 1) := by decide +kernel
theorem dX6_write_11 : decode cX6_write 11 = .ok (.iload_n 1, 1) := by decide +kernel
theorem dX6_write_12 : decode cX6_write 12 = .ok (.iload_n 2, 1) := by decide +kernel
theorem dX6_write_13 : decode cX6_write 13 = .ok (.iastore, 1) := by decide +kernel
theorem dX6_write_14 : decode cX6_write 14 = .ok (.return_, 1) := by decide +kernel
theorem dX6_copy_0 : decode cX6_copy 0 = .ok (.aload_n 0, 1) := by decide +kernel
theorem dX6_copy_1 : decode cX6_copy 1 = .ok (.iconst 0, 1) := by decide +kernel
theorem dX6_copy_2 : decode cX6_copy 2 = .ok (.aload_n 1, 1) := by decide +kernel
theorem dX6_copy_3 : decode cX6_copy 3 = .ok (.iconst 0, 1) := by decide +kernel
theorem dX6_copy_4 : decode cX6_copy 4 = .ok (.aload_n 0, 1) := by decide +kernel
theorem dX6_copy_5 : decode cX6_copy 5 = .ok (.arraylength, 1) := by decide +kernel
theorem dX6_copy_6 : decode cX6_copy 6 = .ok (.aload_n 1, 1) := by decide +kernel
theorem dX6_copy_7 : decode cX6_copy 7 = .ok (.arraylength, 1) := by decide +kernel
theorem dX6_copy_8 : decode cX6_copy 8 = .ok (.invokestatic 7, 3) := by decide +kernel
theorem dX6_copy_11 : decode cX6_copy 11 = .ok (.invokestatic 13, 3) := by decide +kernel
theorem dX6_copy_14 : decode cX6_copy 14 = .ok (.return_, 1) := by decide +kernel
theorem dX7_init_0 : decode cX7_init 0 = .ok (.aload_n 0, 1) := by decide +kernel
theorem dX7_init_1 : decode cX7_init 1 = .ok (.invokespecial 3, 3) := by decide +kernel
theorem dX7_init_4 : decode cX7_init 4 = .ok (.aload_n 0, 1) := by decide +kernel
theorem dX7_init_5 : decode cX7_init 5 = .ok (.bipush 6, 2) := by decide +kernel
theorem dX7_init_7 : decode cX7_init 7 = .ok (.anewarray 9, 3) := by decide +kernel
theorem dX7_init_10 : decode cX7_init 10 = .ok (.putfield 11, 3) := by decide +kernel
theorem dX7_init_13 : decode cX7_init 13 = .ok (.iconst 0, 1) := by decide +kernel
theorem dX7_init_14 : decode cX7_init 14 = .ok (.istore_n 1, 1) := by decide +kernel
theorem dX7_init_15 : decode cX7_init 15 = .ok (.iload_n 1, 1) := by decide +kernel
theorem dX7_init_16 : decode cX7_init 16 = .ok (.aload_n 0, 1) := by decide +kernel
theorem dX7_init_17 : decode cX7_init 17 = .ok (.getfield 11, 3) := by decide +kernel
theorem dX7_init_20 : decode cX7_init 20 = .ok (.arraylength, 1) := by decide +kernel
theorem dX7_init_21 : decode cX7_init 21 = .ok (.if_icmp .ge 22, 3) := by decide +kernel
theorem dX7_init_24 : decode cX7_init 24 = .ok (.aload_n 0, 1) := by decide +kernel
theorem dX7_init_25 : decode cX7_init 25 = .ok (.getfield 11, 3) := by decide +kernel
theorem dX7_init_28 : decode cX7_init 28 = .ok (.iload_n 1, 1) := by decide +kernel
theorem dX7_init_29 : decode cX7_init 29 = .ok (.new 9, 3) := by decide +kernel
theorem dX7_init_32 : decode cX7_init 32 = .ok (.dup, 1) := by decide +kernel
theorem dX7_init_33 : decode cX7_init 33 = .ok (.invokespecial 17, 3) := by decide +kernel
theorem dX7_init_36 : decode cX7_init 36 = .ok (.aastore, 1) := by decide +kernel
theorem dX7_init_37 : decode cX7_init 37 = .ok (.iinc 1 1, 3) := by decide +kernel
theorem dX7_init_40 : decode cX7_init 40 = .ok (.goto (-25), 3) := by decide +kernel
theorem dX7_init_43 : decode cX7_init 43 = .ok (.aload_n 0, 1) := by decide +kernel
theorem dX7_init_44 : decode cX7_init 44 = .ok (.new 9, 3) := by decide +kernel
theorem dX7_init_47 : decode cX7_init 47 = .ok (.dup, 1) := by decide +kernel
theorem dX7_init_48 : decode cX7_init 48 = .ok (.invokespecial 17, 3) := by decide +kernel
theorem dX7_init_51 : decode cX7_init 51 = .ok (.putfield 18, 3) := by decide +kernel
theorem dX7_init_54 : decode cX7_init 54 = .ok (.aload_n 0, 1) := by decide +kernel
theorem dX7_init_55 : decode cX7_init 55 = .ok (.bipush (-5), 2) := by decide +kernel
theorem dX7_init_57 : decode cX7_init 57 = .ok (.putfield 22, 3) := by decide +kernel
theorem dX7_init_60 : decode cX7_init 60 = .ok (.return_, 1) := by decide +kernel
theorem dX7_copyFrom_0 : decode cX7_copyFrom 0 = .ok (.iconst 0, 1) := by decide +kernel
theorem dX7_copyFrom_1 : decode cX7_copyFrom 1 = .ok (.istore_n 2, 1) := by decide +kernel
theorem dX7_copyFrom_2 : decode cX7_copyFrom 2 = .ok (.iload_n 2, 1) := by decide +kernel
theorem dX7_copyFrom_3 : decode cX7_copyFrom 3 = .ok (.bipush 6, 2) := by decide +kernel
theorem dX7_copyFrom_5 : decode cX7_copyFrom 5 = .ok (.if_icmp .ge 22, 3) := by decide +kernel
theorem dX7_copyFrom_8 : decode cX7_copyFrom 8 = .ok (.aload_n 0, 1) := by decide +kernel
theorem dX7_copyFrom_9 : decode cX7_copyFrom 9 = .ok (.iload_n 2, 1) := by decide +kernel
theorem dX7_copyFrom_10 : decode cX7_copyFrom 10 = .ok (.invokevirtual 26, 3) := by decide +kernel
theorem dX7_copyFrom_13 : decode cX7_copyFrom 13 = .ok (.aload_n 1, 1) := by decide +kernel
theorem dX7_copyFrom_14 : decode cX7_copyFrom 14 = .ok (.iload_n 2, 1) := by decide +kernel
theorem dX7_copyFrom_15 : decode cX7_copyFrom 15 = .ok (.invokevirtual 26, 3) := by decide +kernel
