theorem dX0_init_0 : decode cX0_init 0 = .ok (.aload_n 0, 1) := by decide +kernel
theorem dX0_init_1 : decode cX0_init 1 = .ok (.invokespecial 3, 3) := by decide +kernel
theorem dX0_init_4 : decode cX0_init 4 = .ok (.aload_n 0, 1) := by decide +kernel
theorem dX0_init_5 : decode cX0_init 5 = .ok (.new 9, 3) := by decide +kernel
theorem dX0_init_8 : decode cX0_init 8 = .ok (.dup, 1) := by decide +kernel
theorem dX0_init_9 : decode cX0_init 9 = .ok (.invokespecial 11, 3) := by decide +kernel
theorem dX0_init_12 : decode cX0_init 12 = .ok (.putfield 12, 3) := by decide +kernel
theorem dX0_init_15 : decode cX0_init 15 = .ok (.aload_n 0, 1) := by decide +kernel
theorem dX0_init_16 : decode cX0_init 16 = .ok (.new 18, 3) := by decide +kernel
theorem dX0_init_19 : decode cX0_init 19 = .ok (.dup, 1) := by decide +kernel
theorem dX0_init_20 : decode cX0_init 20 = .ok (.invokespecial 20, 3) := by decide +kernel
theorem dX0_init_23 : decode cX0_init 23 = .ok (.putfield 21, 3) := by decide +kernel
theorem dX0_init_26 : decode cX0_init 26 = .ok (.aload_n 0, 1) := by decide +kernel
theorem dX0_init_27 : decode cX0_init 27 = .ok (.bipush 6, 2) := by decide +kernel
theorem dX0_init_29 : decode cX0_init 29 = .ok (.anewarray 25, 3) := by decide +kernel
theorem dX0_init_32 : decode cX0_init 32 = .ok (.putfield 27, 3) := by decide +kernel
theorem dX0_init_35 : decode cX0_init 35 = .ok (.aload_n 0, 1) := by decide +kernel
theorem dX0_init_36 : decode cX0_init 36 = .ok (.iconst 0, 1) := by decide +kernel
theorem dX0_init_37 : decode cX0_init 37 = .ok (.putfield 31, 3) := by decide +kernel
theorem dX0_init_40 : decode cX0_init 40 = .ok (.aload_n 0, 1) := by decide +kernel
theorem dX0_init_41 : decode cX0_init 41 = .ok (.new 35, 3) := by decide +kernel
theorem dX0_init_44 : decode cX0_init 44 = .ok (.dup, 1) := by decide +kernel
theorem dX0_init_45 : decode cX0_init 45 = .ok (.invokespecial 37, 3) := by decide +kernel
theorem dX0_init_48 : decode cX0_init 48 = .ok (.putfield 38, 3) := by decide +kernel
theorem dX0_init_51 : decode cX0_init 51 = .ok (.aload_n 0, 1) := by decide +kernel
theorem dX0_init_52 : decode cX0_init 52 = .ok (.new 42, 3) := by decide +kernel
theorem dX0_init_55 : decode cX0_init 55 = .ok (.dup, 1) := by decide +kernel
theorem dX0_init_56 : decode cX0_init 56 = .ok (.invokespecial 44, 3) := by decide +kernel
theorem dX0_init_59 : decode cX0_init 59 = .ok (.putfield 45, 3) := by decide +kernel
theorem dX0_init_62 : decode cX0_init 62 = .ok (.aload_n 0, 1) := by decide +kernel
theorem dX0_init_63 : decode cX0_init 63 = .ok (.iconst 0, 1) := by decide +kernel
theorem dX0_init_64 : decode cX0_init 64 = .ok (.putfield 49, 3) := by decide +kernel
theorem dX0_init_67 : decode cX0_init 67 = .ok (.aload_n 0, 1) := by decide +kernel
theorem dX0_init_68 : decode cX0_init 68 = .ok (.iconst 4, 1) := by decide +kernel
theorem dX0_init_69 : decode cX0_init 69 = .ok (.putfield 52, 3) := by decide +kernel
theorem dX0_init_72 : decode cX0_init 72 = .ok (.aload_n 0, 1) := by decide +kernel
theorem dX0_init_73 : decode cX0_init 73 = .ok (.iconst 0, 1) := by decide +kernel
theorem dX0_init_74 : decode cX0_init 74 = .ok (.putfield 55, 3) := by decide +kernel
theorem dX0_init_77 : decode cX0_init 77 = .ok (.aload_n 0, 1) := by decide +kernel
theorem dX0_init_78 : decode cX0_init 78 = .ok (.iconst 0, 1) := by decide +kernel
theorem dX0_init_79 : decode cX0_init 79 = .ok (.putfield 59, 3) := by decide +kernel
theorem dX0_init_82 : decode cX0_init 82 = .ok (.aload_n 0, 1) := by decide +kernel
theorem dX0_init_83 : decode cX0_init 83 = .ok (.iconst 0, 1) := by decide +kernel
theorem dX0_init_84 : decode cX0_init 84 = .ok (.putfield 62, 3) := by decide +kernel
theorem dX0_init_87 : decode cX0_init 87 = .ok (.aload_n 0, 1) := by decide +kernel
theorem dX0_init_88 : decode cX0_init 88 = .ok (.iconst 0, 1) := by decide +kernel
theorem dX0_init_89 : decode cX0_init 89 = .ok (.putfield 65, 3) := by decide +kernel
theorem dX0_init_92 : decode cX0_init 92 = .ok (.iconst 0, 1) := by decide +kernel
theorem dX0_init_93 : decode cX0_init 93 = .ok (.istore_n 1, 1) := by decide +kernel
theorem dX0_init_94 : decode cX0_init 94 = .ok (.iload_n 1, 1) := by decide +kernel
theorem dX0_init_95 : decode cX0_init 95 = .ok (.bipush 6, 2) := by decide +kernel
theorem dX0_init_97 : decode cX0_init 97 = .ok (.if_icmp .ge 22, 3) := by decide +kernel
theorem dX0_init_100 : decode cX0_init 100 = .ok (.aload_n 0, 1) := by decide +kernel
theorem dX0_init_101 : decode cX0_init 101 = .ok (.getfield 27, 3) := by decide +kernel
theorem dX0_init_104 : decode cX0_init 104 = .ok (.iload_n 1, 1) := by decide +kernel
theorem dX0_init_105 : decode cX0_init 105 = .ok (.new 25, 3) := by decide +kernel
theorem dX0_init_108 : decode cX0_init 108 = .ok (.dup, 1) := by decide +kernel
theorem dX0_init_109 : decode cX0_init 109 = .ok (.invokespecial 68, 3) := by decide +kernel
theorem dX0_init_112 : decode cX0_init 112 = .ok (.aastore, 1) := by decide +kernel
theorem dX0_init_113 : decode cX0_init 113 = .ok (.iinc 1 1, 3) := by decide +kernel
theorem dX0_init_116 : decode cX0_init 116 = .ok (.goto (-22), 3) := by decide +kernel
theorem dX0_init_119 : decode cX0_init 119 = .ok (.return_, 1) := by decide +kernel
theorem dX0_startAnew_0 : decode cX0_startAnew 0 = .ok (.aload_n 0, 1) := by decide +kernel
theorem dX0_startAnew_1 : decode cX0_startAnew 1 = .ok (.getfield 12, 3) := by decide +kernel
theorem dX0_startAnew_4 : decode cX0_startAnew 4 = .ok (.iload_n 1, 1) := by decide +kernel
theorem dX0_startAnew_5 : decode cX0_startAnew 5 = .ok (.invokevirtual 69, 3) := by decide +kernel
theorem dX0_startAnew_8 : decode cX0_startAnew 8 = .ok (.aload_n 0, 1) := by decide +kernel
theorem dX0_startAnew_9 : decode cX0_startAnew 9 = .ok (.getfield 21, 3) := by decide +kernel
theorem dX0_startAnew_12 : decode cX0_startAnew 12 = .ok (.iconst 0, 1) := by decide +kernel
theorem dX0_startAnew_13 : decode cX0_startAnew 13 = .ok (.putfield 73, 3) := by decide +kernel
theorem dX0_startAnew_16 : decode cX0_startAnew 16 = .ok (.aload_n 0, 1) := by decide +kernel
theorem dX0_startAnew_17 : decode cX0_startAnew 17 = .ok (.iconst 0, 1) := by decide +kernel
theorem dX0_startAnew_18 : decode cX0_startAnew 18 = .ok (.putfield 31, 3) := by decide +kernel
theorem dX0_startAnew_21 : decode cX0_startAnew 21 = .ok (.aload_n 0, 1) := by decide +kernel
theorem dX0_startAnew_22 : decode cX0_startAnew 22 = .ok (.getfield 38, 3) := by decide +kernel
theorem dX0_startAnew_25 : decode cX0_startAnew 25 = .ok (.iconst 0, 1) := by decide +kernel
theorem dX0_startAnew_26 : decode cX0_startAnew 26 = .ok (.putfield 76, 3) := by decide +kernel
theorem dX0_startAnew_29 : decode cX0_startAnew 29 = .ok (.aload_n 0, 1) := by decide +kernel
theorem dX0_startAnew_30 : decode cX0_startAnew 30 = .ok (.getfield 38, 3) := by decide +kernel
theorem dX0_startAnew_33 : decode cX0_startAnew 33 = .ok (.iconst 0, 1) := by decide +kernel
theorem dX0_startAnew_34 : decode cX0_startAnew 34 = .ok (.putfield 77, 3) := by decide +kernel
theorem dX0_startAnew_37 : decode cX0_startAnew 37 = .ok (.aload_n 0, 1) := by decide +kernel
theorem dX0_startAnew_38 : decode cX0_startAnew 38 = .ok (.getfield 45, 3) := by decide +kernel
theorem dX0_startAnew_41 : decode cX0_startAnew 41 = .ok (.iconst 0, 1) := by decide +kernel
theorem dX0_startAnew_42 : decode cX0_startAnew 42 = .ok (.putfield 80, 3) := by decide +kernel
theorem dX0_startAnew_45 : decode cX0_startAnew 45 = .ok (.aload_n 0, 1) := by decide +kernel
theorem dX0_startAnew_46 : decode cX0_startAnew 46 = .ok (.getfield 45, 3) := by decide +kernel
theorem dX0_startAnew_49 : decode cX0_startAnew 49 = .ok (.iconst 0, 1) := by decide +kernel
theorem dX0_startAnew_50 : decode cX0_startAnew 50 = .ok (.putfield 83, 3) := by decide +kernel
theorem dX0_startAnew_53 : decode cX0_startAnew 53 = .ok (.aload_n 0, 1) := by decide +kernel
theorem dX0_startAnew_54 : decode cX0_startAnew 54 = .ok (.iconst 0, 1) := by decide +kernel
theorem dX0_startAnew_55 : decode cX0_startAnew 55 = .ok (.putfield 49, 3) := by decide +kernel
theorem dX0_startAnew_58 : decode cX0_startAnew 58 = .ok (.aload_n 0, 1) := by decide +kernel
theorem dX0_startAnew_59 : decode cX0_startAnew 59 = .ok (.iload_n 1, 1) := by decide +kernel
theorem dX0_startAnew_60 : decode cX0_startAnew 60 = .ok (.putfield 52, 3) := by decide +kernel
theorem dX0_startAnew_63 : decode cX0_startAnew 63 = .ok (.aload_n 0, 1) := by decide +kernel
theorem dX0_startAnew_64 : decode cX0_startAnew 64 = .ok (.iconst 0, 1) := by decide +kernel
theorem dX0_startAnew_65 : decode cX0_startAnew 65 = .ok (.putfield 55, 3) := by decide +kernel
theorem dX0_startAnew_68 : decode cX0_startAnew 68 = .ok (.aload_n 0, 1) := by decide +kernel
theorem dX0_startAnew_69 : decode cX0_startAnew 69 = .ok (.iconst 0, 1) := by decide +kernel
theorem dX0_startAnew_70 : decode cX0_startAnew 70 = .ok (.putfield 59, 3) := by decide +kernel
theorem dX0_startAnew_73 : decode cX0_startAnew 73 = .ok (.aload_n 0, 1) := by decide +kernel
theorem dX0_startAnew_74 : decode cX0_startAnew 74 = .ok (.iconst 0, 1) := by decide +kernel
theorem dX0_startAnew_75 : decode cX0_startAnew 75 = .ok (.putfield 62, 3) := by decide +kernel
theorem dX0_startAnew_78 : decode cX0_startAnew 78 = .ok (.aload_n 0, 1) := by decide +kernel
theorem dX0_startAnew_79 : decode cX0_startAnew 79 = .ok (.iconst 0, 1) := by decide +kernel
theorem dX0_startAnew_80 : decode cX0_startAnew 80 = .ok (.putfield 65, 3) := by decide +kernel
theorem dX0_startAnew_83 : decode cX0_startAnew 83 = .ok (.return_, 1) := by decide +kernel
theorem dX0_copyFrom_0 : decode cX0_copyFrom 0 = .ok (.aload_n 0, 1) := by decide +kernel
theorem dX0_copyFrom_1 : decode cX0_copyFrom 1 = .ok (.getfield 12, 3) := by decide +kernel
theorem dX0_copyFrom_4 : decode cX0_copyFrom 4 = .ok (.aload_n 1, 1) := by decide +kernel
theorem dX0_copyFrom_5 : decode cX0_copyFrom 5 = .ok (.getfield 12, 3) := by decide +kernel
theorem dX0_copyFrom_8 : decode cX0_copyFrom 8 = .ok (.invokevirtual 86, 3) := by decide +kernel
theorem dX0_copyFrom_11 : decode cX0_copyFrom 11 = .ok (.aload_n 0, 1) := by decide +kernel
theorem dX0_copyFrom_12 : decode cX0_copyFrom 12 = .ok (.getfield 21, 3) := by decide +kernel
theorem dX0_copyFrom_15 : decode cX0_copyFrom 15 = .ok (.aload_n 1, 1) := by decide +kernel
theorem dX0_copyFrom_16 : decode cX0_copyFrom 16 = .ok (.getfield 21, 3) := by decide +kernel
theorem dX0_copyFrom_19 : decode cX0_copyFrom 19 = .ok (.invokevirtual 90, 3) := by decide +kernel
theorem dX0_copyFrom_22 : decode cX0_copyFrom 22 = .ok (.iconst 0, 1) := by decide +kernel
theorem dX0_copyFrom_23 : decode cX0_copyFrom 23 = .ok (.istore_n 2, 1) := by decide +kernel
theorem dX0_copyFrom_24 : decode cX0_copyFrom 24 = .ok (.iload_n 2, 1) := by decide +kernel
theorem dX0_copyFrom_25 : decode cX0_copyFrom 25 = .ok (.bipush 6, 2) := by decide +kernel
theorem dX0_copyFrom_27 : decode cX0_copyFrom 27 = .ok (.if_icmp .ge 24, 3) := by decide +kernel
theorem dX0_copyFrom_30 : decode cX0_copyFrom 30 = .ok (.aload_n 0, 1) := by decide +kernel
theorem dX0_copyFrom_31 : decode cX0_copyFrom 31 = .ok (.getfield 27, 3) := by decide +kernel
theorem dX0_copyFrom_34 : decode cX0_copyFrom 34 = .ok (.iload_n 2, 1) := by decide +kernel
theorem dX0_copyFrom_35 : decode cX0_copyFrom 35 = .ok (.aaload, 1) := by decide +kernel
theorem dX0_copyFrom_36 : decode cX0_copyFrom 36 = .ok (.aload_n 1, 1) := by decide +kernel
theorem dX0_copyFrom_37 : decode cX0_copyFrom 37 = .ok (.getfield 27, 3) := by decide +kernel
theorem dX0_copyFrom_40 : decode cX0_copyFrom 40 = .ok (.iload_n 2, 1) := by decide +kernel
theorem dX0_copyFrom_41 : decode cX0_copyFrom 41 = .ok (.aaload, 1) := by decide +kernel
theorem dX0_copyFrom_42 : decode cX0_copyFrom 42 = .ok (.invokevirtual 93, 3) := by decide +kernel
theorem dX0_copyFrom_45 : decode cX0_copyFrom 45 = .ok (.iinc 2 1, 3) := by decide +kernel
theorem dX0_copyFrom_48 : decode cX0_copyFrom 48 = .ok (.goto (-24), 3) := by decide +kernel
theorem dX0_copyFrom_51 : decode cX0_copyFrom 51 = .ok (.aload_n 0, 1) := by decide +kernel
theorem dX0_copyFrom_52 : decode cX0_copyFrom 52 = .ok (.aload_n 1, 1) := by decide +kernel
theorem dX0_copyFrom_53 : decode cX0_copyFrom 53 = .ok (.getfield 31, 3) := by decide +kernel
theorem dX0_copyFrom_56 : decode cX0_copyFrom 56 = .ok (.putfield 31, 3) := by decide +kernel
theorem dX0_copyFrom_59 : decode cX0_copyFrom 59 = .ok (.aload_n 0, 1) := by decide +kernel
theorem dX0_copyFrom_60 : decode cX0_copyFrom 60 = .ok (.getfield 38, 3) := by decide +kernel
theorem dX0_copyFrom_63 : decode cX0_copyFrom 63 = .ok (.aload_n 1, 1) := by decide +kernel
theorem dX0_copyFrom_64 : decode cX0_copyFrom 64 = .ok (.getfield 38, 3) := by decide +kernel
theorem dX0_copyFrom_67 : decode cX0_copyFrom 67 = .ok (.invokevirtual 96, 3) := by decide +kernel
theorem dX0_copyFrom_70 : decode cX0_copyFrom 70 = .ok (.aload_n 0, 1) := by decide +kernel
theorem dX0_copyFrom_71 : decode cX0_copyFrom 71 = .ok (.getfield 45, 3) := by decide +kernel
theorem dX0_copyFrom_74 : decode cX0_copyFrom 74 = .ok (.aload_n 1, 1) := by decide +kernel
theorem dX0_copyFrom_75 : decode cX0_copyFrom 75 = .ok (.getfield 45, 3) := by decide +kernel
theorem dX0_copyFrom_78 : decode cX0_copyFrom 78 = .ok (.invokevirtual 99, 3) := by decide +kernel
theorem dX0_copyFrom_81 : decode cX0_copyFrom 81 = .ok (.aload_n 0, 1) := by decide +kernel
theorem dX0_copyFrom_82 : decode cX0_copyFrom 82 = .ok (.aload_n 1, 1) := by decide +kernel
theorem dX0_copyFrom_83 : decode cX0_copyFrom 83 = .ok (.getfield 49, 3) := by decide +kernel
theorem dX0_copyFrom_86 : decode cX0_copyFrom 86 = .ok (.putfield 49, 3) := by decide +kernel
theorem dX0_copyFrom_89 : decode cX0_copyFrom 89 = .ok (.aload_n 0, 1) := by decide +kernel
theorem dX0_copyFrom_90 : decode cX0_copyFrom 90 = .ok (.aload_n 1, 1) := by decide +kernel
theorem dX0_copyFrom_91 : decode cX0_copyFrom 91 = .ok (.getfield 52, 3) := by decide +kernel
theorem dX0_copyFrom_94 : decode cX0_copyFrom 94 = .ok (.putfield 52, 3) := by decide +kernel
theorem dX0_copyFrom_97 : decode cX0_copyFrom 97 = .ok (.aload_n 0, 1) := by decide +kernel
theorem dX0_copyFrom_98 : decode cX0_copyFrom 98 = .ok (.aload_n 1, 1) := by decide +kernel
theorem dX0_copyFrom_99 : decode cX0_copyFrom 99 = .ok (.getfield 55, 3) := by decide +kernel
theorem dX0_copyFrom_102 : decode cX0_copyFrom 102 = .ok (.putfield 55, 3) := by decide +kernel
theorem dX0_copyFrom_105 : decode cX0_copyFrom 105 = .ok (.aload_n 0, 1) := by decide +kernel
theorem dX0_copyFrom_106 : decode cX0_copyFrom 106 = .ok (.aload_n 1, 1) := by decide +kernel
theorem dX0_copyFrom_107 : decode cX0_copyFrom 107 = .ok (.getfield 59, 3) := by decide +kernel
theorem dX0_copyFrom_110 : decode cX0_copyFrom 110 = .ok (.putfield 59, 3) := by decide +kernel
theorem dX0_copyFrom_113 : decode cX0_copyFrom 113 = .ok (.aload_n 0, 1) := by decide +kernel
theorem dX0_copyFrom_114 : decode cX0_copyFrom 114 = .ok (.aload_n 1, 1) := by decide +kernel
theorem dX0_copyFrom_115 : decode cX0_copyFrom 115 = .ok (.getfield 62, 3) := by decide +kernel
theorem dX0_copyFrom_118 : decode cX0_copyFrom 118 = .ok (.putfield 62, 3) := by decide +kernel
theorem dX0_copyFrom_121 : decode cX0_copyFrom 121 = .ok (.aload_n 0, 1) := by decide +kernel
theorem dX0_copyFrom_122 : decode cX0_copyFrom 122 = .ok (.aload_n 1, 1) := by decide +kernel
theorem dX0_copyFrom_123 : decode cX0_copyFrom 123 = .ok (.getfield 65, 3) := by decide +kernel
theorem dX0_copyFrom_126 : decode cX0_copyFrom 126 = .ok (.putfield 65, 3) := by decide +kernel
theorem dX0_copyFrom_129 : decode cX0_copyFrom 129 = .ok (.return_, 1) := by decide +kernel
theorem dX0_addOne_0 : decode cX0_addOne 0 = .ok (.aload_n 0, 1) := by decide +kernel
theorem dX0_addOne_1 : decode cX0_addOne 1 = .ok (.getfield 31, 3) := by decide +kernel
theorem dX0_addOne_4 : decode cX0_addOne 4 = .ok (.istore_n 2, 1) := by decide +kernel
theorem dX0_addOne_5 : decode cX0_addOne 5 = .ok (.iload_n 2, 1) := by decide +kernel
theorem dX0_addOne_6 : decode cX0_addOne 6 = .ok (.bipush 6, 2) := by decide +kernel
theorem dX0_addOne_8 : decode cX0_addOne 8 = .ok (.if_icmp .lt 5, 3) := by decide +kernel
theorem dX0_addOne_11 : decode cX0_addOne 11 = .ok (.iconst (-1), 1) := by decide +kernel
theorem dX0_addOne_12 : decode cX0_addOne 12 = .ok (.ireturn, 1) := by decide +kernel
theorem dX0_addOne_13 : decode cX0_addOne 13 = .ok (.aload_n 0, 1) := by decide +kernel
theorem dX0_addOne_14 : decode cX0_addOne 14 = .ok (.getfield 27, 3) := by decide +kernel
theorem dX0_addOne_17 : decode cX0_addOne 17 = .ok (.iload_n 2, 1) := by decide +kernel
theorem dX0_addOne_18 : decode cX0_addOne 18 = .ok (.aaload, 1) := by decide +kernel
theorem dX0_addOne_19 : decode cX0_addOne 19 = .ok (.iload_n 1, 1) := by decide +kernel
theorem dX0_addOne_20 : decode cX0_addOne 20 = .ok (.invokevirtual 102, 3) := by decide +kernel
theorem dX0_addOne_23 : decode cX0_addOne 23 = .ok (.aload_n 0, 1) := by decide +kernel
theorem dX0_addOne_24 : decode cX0_addOne 24 = .ok (.dup, 1) := by decide +kernel
theorem dX0_addOne_25 : decode cX0_addOne 25 = .ok (.getfield 31, 3) := by decide +kernel
theorem dX0_addOne_28 : decode cX0_addOne 28 = .ok (.iconst 1, 1) := by decide +kernel
theorem dX0_addOne_29 : decode cX0_addOne 29 = .ok (.iadd, 1) := by decide +kernel
theorem dX0_addOne_30 : decode cX0_addOne 30 = .ok (.putfield 31, 3) := by decide +kernel
theorem dX0_addOne_33 : decode cX0_addOne 33 = .ok (.iload_n 2, 1) := by decide +kernel
theorem dX0_addOne_34 : decode cX0_addOne 34 = .ok (.ireturn, 1) := by decide +kernel
theorem dX0_isStanding_0 : decode cX0_isStanding 0 = .ok (.iload_n 1, 1) := by decide +kernel
theorem dX0_isStanding_1 : decode cX0_isStanding 1 = .ok (.ifCond .lt 27, 3) := by decide +kernel
theorem dX0_isStanding_4 : decode cX0_isStanding 4 = .ok (.iload_n 1, 1) := by decide +kernel
theorem dX0_isStanding_5 : decode cX0_isStanding 5 = .ok (.aload_n 0, 1) := by decide +kernel
theorem dX0_isStanding_6 : decode cX0_isStanding 6 = .ok (.getfield 31, 3) := by decide +kernel
theorem dX0_isStanding_9 : decode cX0_isStanding 9 = .ok (.if_icmp .ge 19, 3) := by decide +kernel
theorem dX0_isStanding_12 : decode cX0_isStanding 12 = .ok (.aload_n 0, 1) := by decide +kernel
theorem dX0_isStanding_13 : decode cX0_isStanding 13 = .ok (.getfield 27, 3) := by decide +kernel
theorem dX0_isStanding_16 : decode cX0_isStanding 16 = .ok (.iload_n 1, 1) := by decide +kernel
theorem dX0_isStanding_17 : decode cX0_isStanding 17 = .ok (.aaload, 1) := by decide +kernel
theorem dX0_isStanding_18 : decode cX0_isStanding 18 = .ok (.getfield 103, 3) := by decide +kernel
theorem dX0_isStanding_21 : decode cX0_isStanding 21 = .ok (.ifCond .ne 7, 3) := by decide +kernel
theorem dX0_isStanding_24 : decode cX0_isStanding 24 = .ok (.iconst 1, 1) := by decide +kernel
theorem dX0_isStanding_25 : decode cX0_isStanding 25 = .ok (.goto 4, 3) := by decide +kernel
theorem dX0_isStanding_28 : decode cX0_isStanding 28 = .ok (.iconst 0, 1) := by decide +kernel
theorem dX0_isStanding_29 : decode cX0_isStanding 29 = .ok (.ireturn, 1) := by decide +kernel
theorem dX0_walkersThrough_0 : decode cX0_walkersThrough 0 = .ok (.iconst 0, 1) := by decide +kernel
theorem dX0_walkersThrough_1 : decode cX0_walkersThrough 1 = .ok (.istore_n 2, 1) := by decide +kernel
theorem dX0_walkersThrough_2 : decode cX0_walkersThrough 2 = .ok (.iconst 0, 1) := by decide +kernel
theorem dX0_walkersThrough_3 : decode cX0_walkersThrough 3 = .ok (.istore_n 3, 1) := by decide +kernel
theorem dX0_walkersThrough_4 : decode cX0_walkersThrough 4 = .ok (.iload_n 3, 1) := by decide +kernel
theorem dX0_walkersThrough_5 : decode cX0_walkersThrough 5 = .ok (.aload_n 0, 1) := by decide +kernel
theorem dX0_walkersThrough_6 : decode cX0_walkersThrough 6 = .ok (.getfield 31, 3) := by decide +kernel
theorem dX0_walkersThrough_9 : decode cX0_walkersThrough 9 = .ok (.if_icmp .ge 25, 3) := by decide +kernel
theorem dX0_walkersThrough_12 : decode cX0_walkersThrough 12 = .ok (.aload_n 0, 1) := by decide +kernel
theorem dX0_walkersThrough_13 : decode cX0_walkersThrough 13 = .ok (.getfield 27, 3) := by decide +kernel
theorem dX0_walkersThrough_16 : decode cX0_walkersThrough 16 = .ok (.iload_n 3, 1) := by decide +kernel
theorem dX0_walkersThrough_17 : decode cX0_walkersThrough 17 = .ok (.aaload, 1) := by decide +kernel
theorem dX0_walkersThrough_18 : decode cX0_walkersThrough 18 = .ok (.iload_n 1, 1) := by decide +kernel
theorem dX0_walkersThrough_19 : decode cX0_walkersThrough 19 = .ok (.invokevirtual 106, 3) := by decide +kernel
theorem dX0_walkersThrough_22 : decode cX0_walkersThrough 22 = .ok (.ifCond .eq 6, 3) := by decide +kernel
theorem dX0_walkersThrough_25 : decode cX0_walkersThrough 25 = .ok (.iinc 2 1, 3) := by decide +kernel
theorem dX0_walkersThrough_28 : decode cX0_walkersThrough 28 = .ok (.iinc 3 1, 3) := by decide +kernel
theorem dX0_walkersThrough_31 : decode cX0_walkersThrough 31 = .ok (.goto (-27), 3) := by decide +kernel
theorem dX0_walkersThrough_34 : decode cX0_walkersThrough 34 = .ok (.iload_n 2, 1) := by decide +kernel
theorem dX0_walkersThrough_35 : decode cX0_walkersThrough 35 = .ok (.ireturn, 1) := by decide +kernel
theorem dX0_riggerOf_0 : decode cX0_riggerOf 0 = .ok (.iconst 0, 1) := by decide +kernel
theorem dX0_riggerOf_1 : decode cX0_riggerOf 1 = .ok (.istore_n 2, 1) := by decide +kernel
theorem dX0_riggerOf_2 : decode cX0_riggerOf 2 = .ok (.iload_n 2, 1) := by decide +kernel
theorem dX0_riggerOf_3 : decode cX0_riggerOf 3 = .ok (.aload_n 0, 1) := by decide +kernel
theorem dX0_riggerOf_4 : decode cX0_riggerOf 4 = .ok (.getfield 31, 3) := by decide +kernel
theorem dX0_riggerOf_7 : decode cX0_riggerOf 7 = .ok (.if_icmp .ge 37, 3) := by decide +kernel
theorem dX0_riggerOf_10 : decode cX0_riggerOf 10 = .ok (.aload_n 0, 1) := by decide +kernel
theorem dX0_riggerOf_11 : decode cX0_riggerOf 11 = .ok (.getfield 27, 3) := by decide +kernel
theorem dX0_riggerOf_14 : decode cX0_riggerOf 14 = .ok (.iload_n 2, 1) := by decide +kernel
theorem dX0_riggerOf_15 : decode cX0_riggerOf 15 = .ok (.aaload, 1) := by decide +kernel
theorem dX0_riggerOf_16 : decode cX0_riggerOf 16 = .ok (.getfield 103, 3) := by decide +kernel
theorem dX0_riggerOf_19 : decode cX0_riggerOf 19 = .ok (.iconst 2, 1) := by decide +kernel
theorem dX0_riggerOf_20 : decode cX0_riggerOf 20 = .ok (.if_icmp .ne 18, 3) := by decide +kernel
theorem dX0_riggerOf_23 : decode cX0_riggerOf 23 = .ok (.aload_n 0, 1) := by decide +kernel
theorem dX0_riggerOf_24 : decode cX0_riggerOf 24 = .ok (.getfield 27, 3) := by decide +kernel
theorem dX0_riggerOf_27 : decode cX0_riggerOf 27 = .ok (.iload_n 2, 1) := by decide +kernel
theorem dX0_riggerOf_28 : decode cX0_riggerOf 28 = .ok (.aaload, 1) := by decide +kernel
theorem dX0_riggerOf_29 : decode cX0_riggerOf 29 = .ok (.getfield 110, 3) := by decide +kernel
theorem dX0_riggerOf_32 : decode cX0_riggerOf 32 = .ok (.iload_n 1, 1) := by decide +kernel
theorem dX0_riggerOf_33 : decode cX0_riggerOf 33 = .ok (.if_icmp .ne 5, 3) := by decide +kernel
theorem dX0_riggerOf_36 : decode cX0_riggerOf 36 = .ok (.iload_n 2, 1) := by decide +kernel
theorem dX0_riggerOf_37 : decode cX0_riggerOf 37 = .ok (.ireturn, 1) := by decide +kernel
theorem dX0_riggerOf_38 : decode cX0_riggerOf 38 = .ok (.iinc 2 1, 3) := by decide +kernel
theorem dX0_riggerOf_41 : decode cX0_riggerOf 41 = .ok (.goto (-39), 3) := by decide +kernel
theorem dX0_riggerOf_44 : decode cX0_riggerOf 44 = .ok (.iconst (-1), 1) := by decide +kernel
theorem dX0_riggerOf_45 : decode cX0_riggerOf 45 = .ok (.ireturn, 1) := by decide +kernel
theorem dX0_isInUse_0 : decode cX0_isInUse 0 = .ok (.aload_n 0, 1) := by decide +kernel
theorem dX0_isInUse_1 : decode cX0_isInUse 1 = .ok (.getfield 12, 3) := by decide +kernel
theorem dX0_isInUse_4 : decode cX0_isInUse 4 = .ok (.iload_n 1, 1) := by decide +kernel
theorem dX0_isInUse_5 : decode cX0_isInUse 5 = .ok (.invokevirtual 113, 3) := by decide +kernel
theorem dX0_isInUse_8 : decode cX0_isInUse 8 = .ok (.iconst (-1), 1) := by decide +kernel
theorem dX0_isInUse_9 : decode cX0_isInUse 9 = .ok (.if_icmp .ne 20, 3) := by decide +kernel
theorem dX0_isInUse_12 : decode cX0_isInUse 12 = .ok (.aload_n 0, 1) := by decide +kernel
theorem dX0_isInUse_13 : decode cX0_isInUse 13 = .ok (.iload_n 1, 1) := by decide +kernel
theorem dX0_isInUse_14 : decode cX0_isInUse 14 = .ok (.invokevirtual 117, 3) := by decide +kernel
theorem dX0_isInUse_17 : decode cX0_isInUse 17 = .ok (.iconst (-1), 1) := by decide +kernel
theorem dX0_isInUse_18 : decode cX0_isInUse 18 = .ok (.if_icmp .ne 11, 3) := by decide +kernel
theorem dX0_isInUse_21 : decode cX0_isInUse 21 = .ok (.aload_n 0, 1) := by decide +kernel
theorem dX0_isInUse_22 : decode cX0_isInUse 22 = .ok (.iload_n 1, 1) := by decide +kernel
theorem dX0_isInUse_23 : decode cX0_isInUse 23 = .ok (.invokevirtual 120, 3) := by decide +kernel
theorem dX0_isInUse_26 : decode cX0_isInUse 26 = .ok (.ifCond .le 7, 3) := by decide +kernel
theorem dX0_isInUse_29 : decode cX0_isInUse 29 = .ok (.iconst 1, 1) := by decide +kernel
theorem dX0_isInUse_30 : decode cX0_isInUse 30 = .ok (.goto 4, 3) := by decide +kernel
theorem dX0_isInUse_33 : decode cX0_isInUse 33 = .ok (.iconst 0, 1) := by decide +kernel
theorem dX0_isInUse_34 : decode cX0_isInUse 34 = .ok (.ireturn, 1) := by decide +kernel
theorem dX0_isInTime_0 : decode cX0_isInTime 0 = .ok (.aload_n 1, 1) := by decide +kernel
theorem dX0_isInTime_1 : decode cX0_isInTime 1 = .ok (.getfield 123, 3) := by decide +kernel
theorem dX0_isInTime_4 : decode cX0_isInTime 4 = .ok (.iload_n 3, 1) := by decide +kernel
theorem dX0_isInTime_5 : decode cX0_isInTime 5 = .ok (.iadd, 1) := by decide +kernel
theorem dX0_isInTime_6 : decode cX0_isInTime 6 = .ok (.aload_n 0, 1) := by decide +kernel
theorem dX0_isInTime_7 : decode cX0_isInTime 7 = .ok (.getfield 12, 3) := by decide +kernel
theorem dX0_isInTime_10 : decode cX0_isInTime 10 = .ok (.iload_n 2, 1) := by decide +kernel
theorem dX0_isInTime_11 : decode cX0_isInTime 11 = .ok (.invokevirtual 126, 3) := by decide +kernel
theorem dX0_isInTime_14 : decode cX0_isInTime 14 = .ok (.iadd, 1) := by decide +kernel
theorem dX0_isInTime_15 : decode cX0_isInTime 15 = .ok (.aload_n 1, 1) := by decide +kernel
theorem dX0_isInTime_16 : decode cX0_isInTime 16 = .ok (.getfield 129, 3) := by decide +kernel
theorem dX0_isInTime_19 : decode cX0_isInTime 19 = .ok (.if_icmp .gt 7, 3) := by decide +kernel
theorem dX0_isInTime_22 : decode cX0_isInTime 22 = .ok (.iconst 1, 1) := by decide +kernel
theorem dX0_isInTime_23 : decode cX0_isInTime 23 = .ok (.goto 4, 3) := by decide +kernel
theorem dX0_isInTime_26 : decode cX0_isInTime 26 = .ok (.iconst 0, 1) := by decide +kernel
theorem dX0_isInTime_27 : decode cX0_isInTime 27 = .ok (.ireturn, 1) := by decide +kernel
theorem dX0_refusal_0 : decode cX0_refusal 0 = .ok (.aload_n 1, 1) := by decide +kernel
theorem dX0_refusal_1 : decode cX0_refusal 1 = .ok (.getfield 103, 3) := by decide +kernel
theorem dX0_refusal_4 : decode cX0_refusal 4 = .ok (.ifCond .eq 5, 3) := by decide +kernel
theorem dX0_refusal_7 : decode cX0_refusal 7 = .ok (.iconst 1, 1) := by decide +kernel
theorem dX0_refusal_8 : decode cX0_refusal 8 = .ok (.ireturn, 1) := by decide +kernel
theorem dX0_refusal_9 : decode cX0_refusal 9 = .ok (.iload_n 2, 1) := by decide +kernel
theorem dX0_refusal_10 : decode cX0_refusal 10 = .ok (.aload_n 1, 1) := by decide +kernel
theorem dX0_refusal_11 : decode cX0_refusal 11 = .ok (.getfield 110, 3) := by decide +kernel
theorem dX0_refusal_14 : decode cX0_refusal 14 = .ok (.iconst 1, 1) := by decide +kernel
theorem dX0_refusal_15 : decode cX0_refusal 15 = .ok (.isub, 1) := by decide +kernel
theorem dX0_refusal_16 : decode cX0_refusal 16 = .ok (.if_icmp .eq 13, 3) := by decide +kernel
theorem dX0_refusal_19 : decode cX0_refusal 19 = .ok (.iload_n 2, 1) := by decide +kernel
theorem dX0_refusal_20 : decode cX0_refusal 20 = .ok (.aload_n 1, 1) := by decide +kernel
theorem dX0_refusal_21 : decode cX0_refusal 21 = .ok (.getfield 110, 3) := by decide +kernel
theorem dX0_refusal_24 : decode cX0_refusal 24 = .ok (.iconst 1, 1) := by decide +kernel
theorem dX0_refusal_25 : decode cX0_refusal 25 = .ok (.iadd, 1) := by decide +kernel
theorem dX0_refusal_26 : decode cX0_refusal 26 = .ok (.if_icmp .ne 7, 3) := by decide +kernel
theorem dX0_refusal_29 : decode cX0_refusal 29 = .ok (.iconst 1, 1) := by decide +kernel
theorem dX0_refusal_30 : decode cX0_refusal 30 = .ok (.goto 4, 3) := by decide +kernel
theorem dX0_refusal_33 : decode cX0_refusal 33 = .ok (.iconst 0, 1) := by decide +kernel
theorem dX0_refusal_34 : decode cX0_refusal 34 = .ok (.istore_n 3, 1) := by decide +kernel
theorem dX0_refusal_35 : decode cX0_refusal 35 = .ok (.iload_n 3, 1) := by decide +kernel
theorem dX0_refusal_36 : decode cX0_refusal 36 = .ok (.ifCond .eq 18, 3) := by decide +kernel
theorem dX0_refusal_39 : decode cX0_refusal 39 = .ok (.iload_n 2, 1) := by decide +kernel
theorem dX0_refusal_40 : decode cX0_refusal 40 = .ok (.ifCond .lt 14, 3) := by decide +kernel
theorem dX0_refusal_43 : decode cX0_refusal 43 = .ok (.iload_n 2, 1) := by decide +kernel
theorem dX0_refusal_44 : decode cX0_refusal 44 = .ok (.aload_n 0, 1) := by decide +kernel
theorem dX0_refusal_45 : decode cX0_refusal 45 = .ok (.getfield 12, 3) := by decide +kernel
theorem dX0_refusal_48 : decode cX0_refusal 48 = .ok (.getfield 132, 3) := by decide +kernel
theorem dX0_refusal_51 : decode cX0_refusal 51 = .ok (.if_icmp .le 5, 3) := by decide +kernel
theorem dX0_refusal_54 : decode cX0_refusal 54 = .ok (.iconst 2, 1) := by decide +kernel
theorem dX0_refusal_55 : decode cX0_refusal 55 = .ok (.ireturn, 1) := by decide +kernel
theorem dX0_refusal_56 : decode cX0_refusal 56 = .ok (.iload_n 2, 1) := by decide +kernel
theorem dX0_refusal_57 : decode cX0_refusal 57 = .ok (.aload_n 1, 1) := by decide +kernel
theorem dX0_refusal_58 : decode cX0_refusal 58 = .ok (.getfield 110, 3) := by decide +kernel
theorem dX0_refusal_61 : decode cX0_refusal 61 = .ok (.if_icmp .ge 7, 3) := by decide +kernel
theorem dX0_refusal_64 : decode cX0_refusal 64 = .ok (.iconst 1, 1) := by decide +kernel
theorem dX0_refusal_65 : decode cX0_refusal 65 = .ok (.goto 4, 3) := by decide +kernel
theorem dX0_refusal_68 : decode cX0_refusal 68 = .ok (.iconst 0, 1) := by decide +kernel
theorem dX0_refusal_69 : decode cX0_refusal 69 = .ok (.istore 4, 2) := by decide +kernel
theorem dX0_refusal_71 : decode cX0_refusal 71 = .ok (.iload 4, 2) := by decide +kernel
theorem dX0_refusal_73 : decode cX0_refusal 73 = .ok (.ifCond .eq 7, 3) := by decide +kernel
theorem dX0_refusal_76 : decode cX0_refusal 76 = .ok (.iload_n 2, 1) := by decide +kernel
theorem dX0_refusal_77 : decode cX0_refusal 77 = .ok (.goto 7, 3) := by decide +kernel
theorem dX0_refusal_80 : decode cX0_refusal 80 = .ok (.aload_n 1, 1) := by decide +kernel
theorem dX0_refusal_81 : decode cX0_refusal 81 = .ok (.getfield 110, 3) := by decide +kernel
theorem dX0_refusal_84 : decode cX0_refusal 84 = .ok (.istore 5, 2) := by decide +kernel
theorem dX0_refusal_86 : decode cX0_refusal 86 = .ok (.aload_n 0, 1) := by decide +kernel
theorem dX0_refusal_87 : decode cX0_refusal 87 = .ok (.getfield 12, 3) := by decide +kernel
theorem dX0_refusal_90 : decode cX0_refusal 90 = .ok (.iload 5, 2) := by decide +kernel
theorem dX0_refusal_92 : decode cX0_refusal 92 = .ok (.invokevirtual 133, 3) := by decide +kernel
theorem dX0_refusal_95 : decode cX0_refusal 95 = .ok (.ifCond .ne 5, 3) := by decide +kernel
theorem dX0_refusal_98 : decode cX0_refusal 98 = .ok (.iconst 3, 1) := by decide +kernel
theorem dX0_refusal_99 : decode cX0_refusal 99 = .ok (.ireturn, 1) := by decide +kernel
theorem dX0_refusal_100 : decode cX0_refusal 100 = .ok (.aload_n 0, 1) := by decide +kernel
theorem dX0_refusal_101 : decode cX0_refusal 101 = .ok (.getfield 12, 3) := by decide +kernel
theorem dX0_refusal_104 : decode cX0_refusal 104 = .ok (.iload 5, 2) := by decide +kernel
theorem dX0_refusal_106 : decode cX0_refusal 106 = .ok (.invokevirtual 136, 3) := by decide +kernel
theorem dX0_refusal_109 : decode cX0_refusal 109 = .ok (.istore 6, 2) := by decide +kernel
theorem dX0_refusal_111 : decode cX0_refusal 111 = .ok (.iload 4, 2) := by decide +kernel
theorem dX0_refusal_113 : decode cX0_refusal 113 = .ok (.ifCond .eq 22, 3) := by decide +kernel
theorem dX0_refusal_116 : decode cX0_refusal 116 = .ok (.aload_n 0, 1) := by decide +kernel
theorem dX0_refusal_117 : decode cX0_refusal 117 = .ok (.getfield 12, 3) := by decide +kernel
theorem dX0_refusal_120 : decode cX0_refusal 120 = .ok (.iload 5, 2) := by decide +kernel
theorem dX0_refusal_122 : decode cX0_refusal 122 = .ok (.invokevirtual 139, 3) := by decide +kernel
theorem dX0_refusal_125 : decode cX0_refusal 125 = .ok (.ifCond .eq 10, 3) := by decide +kernel
theorem dX0_refusal_128 : decode cX0_refusal 128 = .ok (.iconst 2, 1) := by decide +kernel
theorem dX0_refusal_129 : decode cX0_refusal 129 = .ok (.iload 6, 2) := by decide +kernel
theorem dX0_refusal_131 : decode cX0_refusal 131 = .ok (.imul, 1) := by decide +kernel
theorem dX0_refusal_132 : decode cX0_refusal 132 = .ok (.goto 5, 3) := by decide +kernel
theorem dX0_refusal_135 : decode cX0_refusal 135 = .ok (.iload 6, 2) := by decide +kernel
theorem dX0_refusal_137 : decode cX0_refusal 137 = .ok (.istore 7, 2) := by decide +kernel
theorem dX0_refusal_139 : decode cX0_refusal 139 = .ok (.aload_n 1, 1) := by decide +kernel
theorem dX0_refusal_140 : decode cX0_refusal 140 = .ok (.getfield 142, 3) := by decide +kernel
theorem dX0_refusal_143 : decode cX0_refusal 143 = .ok (.iload 7, 2) := by decide +kernel
theorem dX0_refusal_145 : decode cX0_refusal 145 = .ok (.iadd, 1) := by decide +kernel
theorem dX0_refusal_146 : decode cX0_refusal 146 = .ok (.bipush 100, 2) := by decide +kernel
theorem dX0_refusal_148 : decode cX0_refusal 148 = .ok (.if_icmp .le 5, 3) := by decide +kernel
theorem dX0_refusal_151 : decode cX0_refusal 151 = .ok (.iconst 4, 1) := by decide +kernel
theorem dX0_refusal_152 : decode cX0_refusal 152 = .ok (.ireturn, 1) := by decide +kernel
theorem dX0_refusal_153 : decode cX0_refusal 153 = .ok (.iload 4, 2) := by decide +kernel
theorem dX0_refusal_155 : decode cX0_refusal 155 = .ok (.ifCond .ne 14, 3) := by decide +kernel
theorem dX0_refusal_158 : decode cX0_refusal 158 = .ok (.aload_n 0, 1) := by decide +kernel
theorem dX0_refusal_159 : decode cX0_refusal 159 = .ok (.aload_n 1, 1) := by decide +kernel
theorem dX0_refusal_160 : decode cX0_refusal 160 = .ok (.iload_n 2, 1) := by decide +kernel
theorem dX0_refusal_161 : decode cX0_refusal 161 = .ok (.iload 6, 2) := by decide +kernel
theorem dX0_refusal_163 : decode cX0_refusal 163 = .ok (.invokevirtual 145, 3) := by decide +kernel
theorem dX0_refusal_166 : decode cX0_refusal 166 = .ok (.ifCond .eq 7, 3) := by decide +kernel
theorem dX0_refusal_169 : decode cX0_refusal 169 = .ok (.iconst 0, 1) := by decide +kernel
theorem dX0_refusal_170 : decode cX0_refusal 170 = .ok (.goto 4, 3) := by decide +kernel
theorem dX0_refusal_173 : decode cX0_refusal 173 = .ok (.iconst 5, 1) := by decide +kernel
theorem dX0_refusal_174 : decode cX0_refusal 174 = .ok (.ireturn, 1) := by decide +kernel
theorem dX0_canWalk_0 : decode cX0_canWalk 0 = .ok (.aload_n 0, 1) := by decide +kernel
theorem dX0_canWalk_1 : decode cX0_canWalk 1 = .ok (.iload_n 1, 1) := by decide +kernel
theorem dX0_canWalk_2 : decode cX0_canWalk 2 = .ok (.invokevirtual 149, 3) := by decide +kernel
theorem dX0_canWalk_5 : decode cX0_canWalk 5 = .ok (.ifCond .eq 21, 3) := by decide +kernel
theorem dX0_canWalk_8 : decode cX0_canWalk 8 = .ok (.aload_n 0, 1) := by decide +kernel
theorem dX0_canWalk_9 : decode cX0_canWalk 9 = .ok (.aload_n 0, 1) := by decide +kernel
theorem dX0_canWalk_10 : decode cX0_canWalk 10 = .ok (.getfield 27, 3) := by decide +kernel
theorem dX0_canWalk_13 : decode cX0_canWalk 13 = .ok (.iload_n 1, 1) := by decide +kernel
theorem dX0_canWalk_14 : decode cX0_canWalk 14 = .ok (.aaload, 1) := by decide +kernel
theorem dX0_canWalk_15 : decode cX0_canWalk 15 = .ok (.iload_n 2, 1) := by decide +kernel
theorem dX0_canWalk_16 : decode cX0_canWalk 16 = .ok (.invokevirtual 152, 3) := by decide +kernel
theorem dX0_canWalk_19 : decode cX0_canWalk 19 = .ok (.ifCond .ne 7, 3) := by decide +kernel
theorem dX0_canWalk_22 : decode cX0_canWalk 22 = .ok (.iconst 1, 1) := by decide +kernel
theorem dX0_canWalk_23 : decode cX0_canWalk 23 = .ok (.goto 4, 3) := by decide +kernel
theorem dX0_canWalk_26 : decode cX0_canWalk 26 = .ok (.iconst 0, 1) := by decide +kernel
theorem dX0_canWalk_27 : decode cX0_canWalk 27 = .ok (.ireturn, 1) := by decide +kernel
theorem dX0_startWalk_0 : decode cX0_startWalk 0 = .ok (.aload_n 0, 1) := by decide +kernel
theorem dX0_startWalk_1 : decode cX0_startWalk 1 = .ok (.getfield 27, 3) := by decide +kernel
theorem dX0_startWalk_4 : decode cX0_startWalk 4 = .ok (.iload_n 1, 1) := by decide +kernel
theorem dX0_startWalk_5 : decode cX0_startWalk 5 = .ok (.aaload, 1) := by decide +kernel
theorem dX0_startWalk_6 : decode cX0_startWalk 6 = .ok (.astore_n 3, 1) := by decide +kernel
theorem dX0_startWalk_7 : decode cX0_startWalk 7 = .ok (.aload_n 0, 1) := by decide +kernel
theorem dX0_startWalk_8 : decode cX0_startWalk 8 = .ok (.getfield 12, 3) := by decide +kernel
theorem dX0_startWalk_11 : decode cX0_startWalk 11 = .ok (.aload_n 3, 1) := by decide +kernel
theorem dX0_startWalk_12 : decode cX0_startWalk 12 = .ok (.getfield 110, 3) := by decide +kernel
theorem dX0_startWalk_15 : decode cX0_startWalk 15 = .ok (.iload_n 2, 1) := by decide +kernel
theorem dX0_startWalk_16 : decode cX0_startWalk 16 = .ok (.invokestatic 156, 3) := by decide +kernel
theorem dX0_startWalk_19 : decode cX0_startWalk 19 = .ok (.invokevirtual 136, 3) := by decide +kernel
theorem dX0_startWalk_22 : decode cX0_startWalk 22 = .ok (.istore 4, 2) := by decide +kernel
theorem dX0_startWalk_24 : decode cX0_startWalk 24 = .ok (.aload_n 3, 1) := by decide +kernel
theorem dX0_startWalk_25 : decode cX0_startWalk 25 = .ok (.iload_n 2, 1) := by decide +kernel
theorem dX0_startWalk_26 : decode cX0_startWalk 26 = .ok (.iload 4, 2) := by decide +kernel
theorem dX0_startWalk_28 : decode cX0_startWalk 28 = .ok (.invokevirtual 162, 3) := by decide +kernel
theorem dX0_startWalk_31 : decode cX0_startWalk 31 = .ok (.iload 4, 2) := by decide +kernel
theorem dX0_startWalk_33 : decode cX0_startWalk 33 = .ok (.ireturn, 1) := by decide +kernel
theorem dX0_canTake_0 : decode cX0_canTake 0 = .ok (.aload_n 0, 1) := by decide +kernel
theorem dX0_canTake_1 : decode cX0_canTake 1 = .ok (.iload_n 1, 1) := by decide +kernel
theorem dX0_canTake_2 : decode cX0_canTake 2 = .ok (.invokevirtual 149, 3) := by decide +kernel
theorem dX0_canTake_5 : decode cX0_canTake 5 = .ok (.ifCond .eq 40, 3) := by decide +kernel
theorem dX0_canTake_8 : decode cX0_canTake 8 = .ok (.aload_n 0, 1) := by decide +kernel
theorem dX0_canTake_9 : decode cX0_canTake 9 = .ok (.getfield 27, 3) := by decide +kernel
theorem dX0_canTake_12 : decode cX0_canTake 12 = .ok (.iload_n 1, 1) := by decide +kernel
theorem dX0_canTake_13 : decode cX0_canTake 13 = .ok (.aaload, 1) := by decide +kernel
theorem dX0_canTake_14 : decode cX0_canTake 14 = .ok (.getfield 166, 3) := by decide +kernel
theorem dX0_canTake_17 : decode cX0_canTake 17 = .ok (.iconst (-1), 1) := by decide +kernel
theorem dX0_canTake_18 : decode cX0_canTake 18 = .ok (.if_icmp .ne 27, 3) := by decide +kernel
theorem dX0_canTake_21 : decode cX0_canTake 21 = .ok (.aload_n 0, 1) := by decide +kernel
theorem dX0_canTake_22 : decode cX0_canTake 22 = .ok (.getfield 21, 3) := by decide +kernel
theorem dX0_canTake_25 : decode cX0_canTake 25 = .ok (.iload_n 2, 1) := by decide +kernel
theorem dX0_canTake_26 : decode cX0_canTake 26 = .ok (.aload_n 0, 1) := by decide +kernel
theorem dX0_canTake_27 : decode cX0_canTake 27 = .ok (.getfield 27, 3) := by decide +kernel
theorem dX0_canTake_30 : decode cX0_canTake 30 = .ok (.iload_n 1, 1) := by decide +kernel
theorem dX0_canTake_31 : decode cX0_canTake 31 = .ok (.aaload, 1) := by decide +kernel
theorem dX0_canTake_32 : decode cX0_canTake 32 = .ok (.getfield 110, 3) := by decide +kernel
theorem dX0_canTake_35 : decode cX0_canTake 35 = .ok (.invokevirtual 169, 3) := by decide +kernel
theorem dX0_canTake_38 : decode cX0_canTake 38 = .ok (.ifCond .eq 7, 3) := by decide +kernel
theorem dX0_canTake_41 : decode cX0_canTake 41 = .ok (.iconst 1, 1) := by decide +kernel
theorem dX0_canTake_42 : decode cX0_canTake 42 = .ok (.goto 4, 3) := by decide +kernel
theorem dX0_canTake_45 : decode cX0_canTake 45 = .ok (.iconst 0, 1) := by decide +kernel
theorem dX0_canTake_46 : decode cX0_canTake 46 = .ok (.ireturn, 1) := by decide +kernel
theorem dX0_takeRope_0 : decode cX0_takeRope 0 = .ok (.aload_n 0, 1) := by decide +kernel
theorem dX0_takeRope_1 : decode cX0_takeRope 1 = .ok (.getfield 27, 3) := by decide +kernel
theorem dX0_takeRope_4 : decode cX0_takeRope 4 = .ok (.iload_n 1, 1) := by decide +kernel
theorem dX0_takeRope_5 : decode cX0_takeRope 5 = .ok (.aaload, 1) := by decide +kernel
theorem dX0_takeRope_6 : decode cX0_takeRope 6 = .ok (.iload_n 2, 1) := by decide +kernel
theorem dX0_takeRope_7 : decode cX0_takeRope 7 = .ok (.putfield 166, 3) := by decide +kernel
theorem dX0_takeRope_10 : decode cX0_takeRope 10 = .ok (.aload_n 0, 1) := by decide +kernel
theorem dX0_takeRope_11 : decode cX0_takeRope 11 = .ok (.getfield 21, 3) := by decide +kernel
theorem dX0_takeRope_14 : decode cX0_takeRope 14 = .ok (.iload_n 2, 1) := by decide +kernel
theorem dX0_takeRope_15 : decode cX0_takeRope 15 = .ok (.iconst 1, 1) := by decide +kernel
theorem dX0_takeRope_16 : decode cX0_takeRope 16 = .ok (.iload_n 1, 1) := by decide +kernel
theorem dX0_takeRope_17 : decode cX0_takeRope 17 = .ok (.invokevirtual 173, 3) := by decide +kernel
theorem dX0_takeRope_20 : decode cX0_takeRope 20 = .ok (.return_, 1) := by decide +kernel
theorem dX0_canLay_0 : decode cX0_canLay 0 = .ok (.aload_n 0, 1) := by decide +kernel
theorem dX0_canLay_1 : decode cX0_canLay 1 = .ok (.iload_n 1, 1) := by decide +kernel
theorem dX0_canLay_2 : decode cX0_canLay 2 = .ok (.invokevirtual 149, 3) := by decide +kernel
theorem dX0_canLay_5 : decode cX0_canLay 5 = .ok (.ifCond .eq 20, 3) := by decide +kernel
theorem dX0_canLay_8 : decode cX0_canLay 8 = .ok (.aload_n 0, 1) := by decide +kernel
theorem dX0_canLay_9 : decode cX0_canLay 9 = .ok (.getfield 27, 3) := by decide +kernel
theorem dX0_canLay_12 : decode cX0_canLay 12 = .ok (.iload_n 1, 1) := by decide +kernel
theorem dX0_canLay_13 : decode cX0_canLay 13 = .ok (.aaload, 1) := by decide +kernel
theorem dX0_canLay_14 : decode cX0_canLay 14 = .ok (.getfield 166, 3) := by decide +kernel
theorem dX0_canLay_17 : decode cX0_canLay 17 = .ok (.iconst (-1), 1) := by decide +kernel
theorem dX0_canLay_18 : decode cX0_canLay 18 = .ok (.if_icmp .eq 7, 3) := by decide +kernel
theorem dX0_canLay_21 : decode cX0_canLay 21 = .ok (.iconst 1, 1) := by decide +kernel
theorem dX0_canLay_22 : decode cX0_canLay 22 = .ok (.goto 4, 3) := by decide +kernel
theorem dX0_canLay_25 : decode cX0_canLay 25 = .ok (.iconst 0, 1) := by decide +kernel
theorem dX0_canLay_26 : decode cX0_canLay 26 = .ok (.ireturn, 1) := by decide +kernel
theorem dX0_layRope_0 : decode cX0_layRope 0 = .ok (.aload_n 0, 1) := by decide +kernel
theorem dX0_layRope_1 : decode cX0_layRope 1 = .ok (.getfield 27, 3) := by decide +kernel
theorem dX0_layRope_4 : decode cX0_layRope 4 = .ok (.iload_n 1, 1) := by decide +kernel
theorem dX0_layRope_5 : decode cX0_layRope 5 = .ok (.aaload, 1) := by decide +kernel
theorem dX0_layRope_6 : decode cX0_layRope 6 = .ok (.astore_n 2, 1) := by decide +kernel
theorem dX0_layRope_7 : decode cX0_layRope 7 = .ok (.aload_n 2, 1) := by decide +kernel
theorem dX0_layRope_8 : decode cX0_layRope 8 = .ok (.getfield 166, 3) := by decide +kernel
theorem dX0_layRope_11 : decode cX0_layRope 11 = .ok (.istore_n 3, 1) := by decide +kernel
theorem dX0_layRope_12 : decode cX0_layRope 12 = .ok (.aload_n 0, 1) := by decide +kernel
theorem dX0_layRope_13 : decode cX0_layRope 13 = .ok (.getfield 21, 3) := by decide +kernel
theorem dX0_layRope_16 : decode cX0_layRope 16 = .ok (.iload_n 3, 1) := by decide +kernel
theorem dX0_layRope_17 : decode cX0_layRope 17 = .ok (.iconst 0, 1) := by decide +kernel
theorem dX0_layRope_18 : decode cX0_layRope 18 = .ok (.aload_n 2, 1) := by decide +kernel
theorem dX0_layRope_19 : decode cX0_layRope 19 = .ok (.getfield 110, 3) := by decide +kernel
theorem dX0_layRope_22 : decode cX0_layRope 22 = .ok (.invokevirtual 173, 3) := by decide +kernel
theorem dX0_layRope_25 : decode cX0_layRope 25 = .ok (.aload_n 2, 1) := by decide +kernel
theorem dX0_layRope_26 : decode cX0_layRope 26 = .ok (.iconst (-1), 1) := by decide +kernel
theorem dX0_layRope_27 : decode cX0_layRope 27 = .ok (.putfield 166, 3) := by decide +kernel
theorem dX0_layRope_30 : decode cX0_layRope 30 = .ok (.iload_n 3, 1) := by decide +kernel
theorem dX0_layRope_31 : decode cX0_layRope 31 = .ok (.ireturn, 1) := by decide +kernel
theorem dX0_canRig_0 : decode cX0_canRig 0 = .ok (.aload_n 0, 1) := by decide +kernel
theorem dX0_canRig_1 : decode cX0_canRig 1 = .ok (.iload_n 1, 1) := by decide +kernel
theorem dX0_canRig_2 : decode cX0_canRig 2 = .ok (.invokevirtual 177, 3) := by decide +kernel
theorem dX0_canRig_5 : decode cX0_canRig 5 = .ok (.ifCond .ne 5, 3) := by decide +kernel
theorem dX0_canRig_8 : decode cX0_canRig 8 = .ok (.iconst 0, 1) := by decide +kernel
theorem dX0_canRig_9 : decode cX0_canRig 9 = .ok (.ireturn, 1) := by decide +kernel
theorem dX0_canRig_10 : decode cX0_canRig 10 = .ok (.aload_n 0, 1) := by decide +kernel
theorem dX0_canRig_11 : decode cX0_canRig 11 = .ok (.getfield 27, 3) := by decide +kernel
theorem dX0_canRig_14 : decode cX0_canRig 14 = .ok (.iload_n 1, 1) := by decide +kernel
theorem dX0_canRig_15 : decode cX0_canRig 15 = .ok (.aaload, 1) := by decide +kernel
theorem dX0_canRig_16 : decode cX0_canRig 16 = .ok (.astore_n 2, 1) := by decide +kernel
theorem dX0_canRig_17 : decode cX0_canRig 17 = .ok (.aload_n 2, 1) := by decide +kernel
theorem dX0_canRig_18 : decode cX0_canRig 18 = .ok (.getfield 110, 3) := by decide +kernel
theorem dX0_canRig_21 : decode cX0_canRig 21 = .ok (.istore_n 3, 1) := by decide +kernel
theorem dX0_canRig_22 : decode cX0_canRig 22 = .ok (.aload_n 0, 1) := by decide +kernel
theorem dX0_canRig_23 : decode cX0_canRig 23 = .ok (.getfield 12, 3) := by decide +kernel
theorem dX0_canRig_26 : decode cX0_canRig 26 = .ok (.iload_n 3, 1) := by decide +kernel
theorem dX0_canRig_27 : decode cX0_canRig 27 = .ok (.invokevirtual 139, 3) := by decide +kernel
theorem dX0_canRig_30 : decode cX0_canRig 30 = .ok (.ifCond .eq 64, 3) := by decide +kernel
theorem dX0_canRig_33 : decode cX0_canRig 33 = .ok (.aload_n 0, 1) := by decide +kernel
theorem dX0_canRig_34 : decode cX0_canRig 34 = .ok (.getfield 12, 3) := by decide +kernel
theorem dX0_canRig_37 : decode cX0_canRig 37 = .ok (.iload_n 3, 1) := by decide +kernel
theorem dX0_canRig_38 : decode cX0_canRig 38 = .ok (.invokevirtual 113, 3) := by decide +kernel
theorem dX0_canRig_41 : decode cX0_canRig 41 = .ok (.iconst (-1), 1) := by decide +kernel
theorem dX0_canRig_42 : decode cX0_canRig 42 = .ok (.if_icmp .ne 52, 3) := by decide +kernel
theorem dX0_canRig_45 : decode cX0_canRig 45 = .ok (.aload_n 0, 1) := by decide +kernel
theorem dX0_canRig_46 : decode cX0_canRig 46 = .ok (.iload_n 3, 1) := by decide +kernel
theorem dX0_canRig_47 : decode cX0_canRig 47 = .ok (.invokevirtual 117, 3) := by decide +kernel
theorem dX0_canRig_50 : decode cX0_canRig 50 = .ok (.iconst (-1), 1) := by decide +kernel
theorem dX0_canRig_51 : decode cX0_canRig 51 = .ok (.if_icmp .ne 43, 3) := by decide +kernel
theorem dX0_canRig_54 : decode cX0_canRig 54 = .ok (.aload_n 0, 1) := by decide +kernel
theorem dX0_canRig_55 : decode cX0_canRig 55 = .ok (.getfield 21, 3) := by decide +kernel
theorem dX0_canRig_58 : decode cX0_canRig 58 = .ok (.aload_n 2, 1) := by decide +kernel
theorem dX0_canRig_59 : decode cX0_canRig 59 = .ok (.getfield 166, 3) := by decide +kernel
theorem dX0_canRig_62 : decode cX0_canRig 62 = .ok (.aload_n 0, 1) := by decide +kernel
theorem dX0_canRig_63 : decode cX0_canRig 63 = .ok (.getfield 12, 3) := by decide +kernel
theorem dX0_canRig_66 : decode cX0_canRig 66 = .ok (.iload_n 3, 1) := by decide +kernel
theorem dX0_canRig_67 : decode cX0_canRig 67 = .ok (.invokevirtual 180, 3) := by decide +kernel
theorem dX0_canRig_70 : decode cX0_canRig 70 = .ok (.invokevirtual 183, 3) := by decide +kernel
theorem dX0_canRig_73 : decode cX0_canRig 73 = .ok (.ifCond .eq 21, 3) := by decide +kernel
theorem dX0_canRig_76 : decode cX0_canRig 76 = .ok (.aload_n 0, 1) := by decide +kernel
theorem dX0_canRig_77 : decode cX0_canRig 77 = .ok (.aload_n 2, 1) := by decide +kernel
theorem dX0_canRig_78 : decode cX0_canRig 78 = .ok (.aload_n 2, 1) := by decide +kernel
theorem dX0_canRig_79 : decode cX0_canRig 79 = .ok (.getfield 110, 3) := by decide +kernel
theorem dX0_canRig_82 : decode cX0_canRig 82 = .ok (.bipush 10, 2) := by decide +kernel
theorem dX0_canRig_84 : decode cX0_canRig 84 = .ok (.invokevirtual 145, 3) := by decide +kernel
theorem dX0_canRig_87 : decode cX0_canRig 87 = .ok (.ifCond .eq 7, 3) := by decide +kernel
theorem dX0_canRig_90 : decode cX0_canRig 90 = .ok (.iconst 1, 1) := by decide +kernel
theorem dX0_canRig_91 : decode cX0_canRig 91 = .ok (.goto 4, 3) := by decide +kernel
theorem dX0_canRig_94 : decode cX0_canRig 94 = .ok (.iconst 0, 1) := by decide +kernel
theorem dX0_canRig_95 : decode cX0_canRig 95 = .ok (.ireturn, 1) := by decide +kernel
theorem dX0_startRig_0 : decode cX0_startRig 0 = .ok (.aload_n 0, 1) := by decide +kernel
theorem dX0_startRig_1 : decode cX0_startRig 1 = .ok (.getfield 27, 3) := by decide +kernel
theorem dX0_startRig_4 : decode cX0_startRig 4 = .ok (.iload_n 1, 1) := by decide +kernel
theorem dX0_startRig_5 : decode cX0_startRig 5 = .ok (.aaload, 1) := by decide +kernel
theorem dX0_startRig_6 : decode cX0_startRig 6 = .ok (.astore_n 2, 1) := by decide +kernel
theorem dX0_startRig_7 : decode cX0_startRig 7 = .ok (.aload_n 2, 1) := by decide +kernel
theorem dX0_startRig_8 : decode cX0_startRig 8 = .ok (.iconst 2, 1) := by decide +kernel
theorem dX0_startRig_9 : decode cX0_startRig 9 = .ok (.putfield 103, 3) := by decide +kernel
theorem dX0_startRig_12 : decode cX0_startRig 12 = .ok (.aload_n 2, 1) := by decide +kernel
theorem dX0_startRig_13 : decode cX0_startRig 13 = .ok (.bipush 10, 2) := by decide +kernel
theorem dX0_startRig_15 : decode cX0_startRig 15 = .ok (.putfield 186, 3) := by decide +kernel
theorem dX0_startRig_18 : decode cX0_startRig 18 = .ok (.aload_n 2, 1) := by decide +kernel
theorem dX0_startRig_19 : decode cX0_startRig 19 = .ok (.getfield 110, 3) := by decide +kernel
theorem dX0_startRig_22 : decode cX0_startRig 22 = .ok (.ireturn, 1) := by decide +kernel
theorem dX0_canUnrig_0 : decode cX0_canUnrig 0 = .ok (.aload_n 0, 1) := by decide +kernel
theorem dX0_canUnrig_1 : decode cX0_canUnrig 1 = .ok (.iload_n 1, 1) := by decide +kernel
theorem dX0_canUnrig_2 : decode cX0_canUnrig 2 = .ok (.invokevirtual 149, 3) := by decide +kernel
theorem dX0_canUnrig_5 : decode cX0_canUnrig 5 = .ok (.ifCond .eq 16, 3) := by decide +kernel
theorem dX0_canUnrig_8 : decode cX0_canUnrig 8 = .ok (.aload_n 0, 1) := by decide +kernel
theorem dX0_canUnrig_9 : decode cX0_canUnrig 9 = .ok (.getfield 27, 3) := by decide +kernel
theorem dX0_canUnrig_12 : decode cX0_canUnrig 12 = .ok (.iload_n 1, 1) := by decide +kernel
theorem dX0_canUnrig_13 : decode cX0_canUnrig 13 = .ok (.aaload, 1) := by decide +kernel
theorem dX0_canUnrig_14 : decode cX0_canUnrig 14 = .ok (.getfield 166, 3) := by decide +kernel
theorem dX0_canUnrig_17 : decode cX0_canUnrig 17 = .ok (.iconst (-1), 1) := by decide +kernel
theorem dX0_canUnrig_18 : decode cX0_canUnrig 18 = .ok (.if_icmp .eq 5, 3) := by decide +kernel
theorem dX0_canUnrig_21 : decode cX0_canUnrig 21 = .ok (.iconst 0, 1) := by decide +kernel
theorem dX0_canUnrig_22 : decode cX0_canUnrig 22 = .ok (.ireturn, 1) := by decide +kernel
theorem dX0_canUnrig_23 : decode cX0_canUnrig 23 = .ok (.aload_n 0, 1) := by decide +kernel
theorem dX0_canUnrig_24 : decode cX0_canUnrig 24 = .ok (.getfield 27, 3) := by decide +kernel
theorem dX0_canUnrig_27 : decode cX0_canUnrig 27 = .ok (.iload_n 1, 1) := by decide +kernel
theorem dX0_canUnrig_28 : decode cX0_canUnrig 28 = .ok (.aaload, 1) := by decide +kernel
theorem dX0_canUnrig_29 : decode cX0_canUnrig 29 = .ok (.getfield 110, 3) := by decide +kernel
theorem dX0_canUnrig_32 : decode cX0_canUnrig 32 = .ok (.istore_n 2, 1) := by decide +kernel
theorem dX0_canUnrig_33 : decode cX0_canUnrig 33 = .ok (.aload_n 0, 1) := by decide +kernel
theorem dX0_canUnrig_34 : decode cX0_canUnrig 34 = .ok (.getfield 12, 3) := by decide +kernel
theorem dX0_canUnrig_37 : decode cX0_canUnrig 37 = .ok (.iload_n 2, 1) := by decide +kernel
theorem dX0_canUnrig_38 : decode cX0_canUnrig 38 = .ok (.invokevirtual 113, 3) := by decide +kernel
theorem dX0_canUnrig_41 : decode cX0_canUnrig 41 = .ok (.iconst (-1), 1) := by decide +kernel
theorem dX0_canUnrig_42 : decode cX0_canUnrig 42 = .ok (.if_icmp .eq 15, 3) := by decide +kernel
theorem dX0_canUnrig_45 : decode cX0_canUnrig 45 = .ok (.aload_n 0, 1) := by decide +kernel
theorem dX0_canUnrig_46 : decode cX0_canUnrig 46 = .ok (.iload_n 2, 1) := by decide +kernel
theorem dX0_canUnrig_47 : decode cX0_canUnrig 47 = .ok (.invokevirtual 120, 3) := by decide +kernel
theorem dX0_canUnrig_50 : decode cX0_canUnrig 50 = .ok (.ifCond .ne 7, 3) := by decide +kernel
theorem dX0_canUnrig_53 : decode cX0_canUnrig 53 = .ok (.iconst 1, 1) := by decide +kernel
theorem dX0_canUnrig_54 : decode cX0_canUnrig 54 = .ok (.goto 4, 3) := by decide +kernel
theorem dX0_canUnrig_57 : decode cX0_canUnrig 57 = .ok (.iconst 0, 1) := by decide +kernel
theorem dX0_canUnrig_58 : decode cX0_canUnrig 58 = .ok (.ireturn, 1) := by decide +kernel
theorem dX0_unrig_0 : decode cX0_unrig 0 = .ok (.aload_n 0, 1) := by decide +kernel
theorem dX0_unrig_1 : decode cX0_unrig 1 = .ok (.getfield 27, 3) := by decide +kernel
theorem dX0_unrig_4 : decode cX0_unrig 4 = .ok (.iload_n 1, 1) := by decide +kernel
theorem dX0_unrig_5 : decode cX0_unrig 5 = .ok (.aaload, 1) := by decide +kernel
theorem dX0_unrig_6 : decode cX0_unrig 6 = .ok (.getfield 110, 3) := by decide +kernel
theorem dX0_unrig_9 : decode cX0_unrig 9 = .ok (.istore_n 2, 1) := by decide +kernel
theorem dX0_unrig_10 : decode cX0_unrig 10 = .ok (.aload_n 0, 1) := by decide +kernel
theorem dX0_unrig_11 : decode cX0_unrig 11 = .ok (.getfield 12, 3) := by decide +kernel
theorem dX0_unrig_14 : decode cX0_unrig 14 = .ok (.iload_n 2, 1) := by decide +kernel
theorem dX0_unrig_15 : decode cX0_unrig 15 = .ok (.invokevirtual 113, 3) := by decide +kernel
theorem dX0_unrig_18 : decode cX0_unrig 18 = .ok (.istore_n 3, 1) := by decide +kernel
theorem dX0_unrig_19 : decode cX0_unrig 19 = .ok (.aload_n 0, 1) := by decide +kernel
theorem dX0_unrig_20 : decode cX0_unrig 20 = .ok (.getfield 12, 3) := by decide +kernel
theorem dX0_unrig_23 : decode cX0_unrig 23 = .ok (.iload_n 2, 1) := by decide +kernel
theorem dX0_unrig_24 : decode cX0_unrig 24 = .ok (.iconst (-1), 1) := by decide +kernel
theorem dX0_unrig_25 : decode cX0_unrig 25 = .ok (.invokevirtual 189, 3) := by decide +kernel
theorem dX0_unrig_28 : decode cX0_unrig 28 = .ok (.aload_n 0, 1) := by decide +kernel
theorem dX0_unrig_29 : decode cX0_unrig 29 = .ok (.iload_n 1, 1) := by decide +kernel
theorem dX0_unrig_30 : decode cX0_unrig 30 = .ok (.iload_n 3, 1) := by decide +kernel
theorem dX0_unrig_31 : decode cX0_unrig 31 = .ok (.invokevirtual 192, 3) := by decide +kernel
theorem dX0_unrig_34 : decode cX0_unrig 34 = .ok (.iload_n 3, 1) := by decide +kernel
theorem dX0_unrig_35 : decode cX0_unrig 35 = .ok (.ireturn, 1) := by decide +kernel
theorem dX0_isTeam_0 : decode cX0_isTeam 0 = .ok (.iload_n 1, 1) := by decide +kernel
theorem dX0_isTeam_1 : decode cX0_isTeam 1 = .ok (.ifCond .lt 25, 3) := by decide +kernel
theorem dX0_isTeam_4 : decode cX0_isTeam 4 = .ok (.iload_n 1, 1) := by decide +kernel
theorem dX0_isTeam_5 : decode cX0_isTeam 5 = .ok (.iconst 1, 1) := by decide +kernel
theorem dX0_isTeam_6 : decode cX0_isTeam 6 = .ok (.aload_n 0, 1) := by decide +kernel
theorem dX0_isTeam_7 : decode cX0_isTeam 7 = .ok (.getfield 31, 3) := by decide +kernel
theorem dX0_isTeam_10 : decode cX0_isTeam 10 = .ok (.ishl, 1) := by decide +kernel
theorem dX0_isTeam_11 : decode cX0_isTeam 11 = .ok (.if_icmp .ge 15, 3) := by decide +kernel
theorem dX0_isTeam_14 : decode cX0_isTeam 14 = .ok (.iload_n 1, 1) := by decide +kernel
theorem dX0_isTeam_15 : decode cX0_isTeam 15 = .ok (.invokestatic 195, 3) := by decide +kernel
theorem dX0_isTeam_18 : decode cX0_isTeam 18 = .ok (.iconst 3, 1) := by decide +kernel
theorem dX0_isTeam_19 : decode cX0_isTeam 19 = .ok (.if_icmp .lt 7, 3) := by decide +kernel
theorem dX0_isTeam_22 : decode cX0_isTeam 22 = .ok (.iconst 1, 1) := by decide +kernel
theorem dX0_isTeam_23 : decode cX0_isTeam 23 = .ok (.goto 4, 3) := by decide +kernel
theorem dX0_isTeam_26 : decode cX0_isTeam 26 = .ok (.iconst 0, 1) := by decide +kernel
theorem dX0_isTeam_27 : decode cX0_isTeam 27 = .ok (.ireturn, 1) := by decide +kernel
theorem dX0_canCarry_0 : decode cX0_canCarry 0 = .ok (.aload_n 0, 1) := by decide +kernel
theorem dX0_canCarry_1 : decode cX0_canCarry 1 = .ok (.invokevirtual 200, 3) := by decide +kernel
theorem dX0_canCarry_4 : decode cX0_canCarry 4 = .ok (.iload_n 1, 1) := by decide +kernel
theorem dX0_canCarry_5 : decode cX0_canCarry 5 = .ok (.iand, 1) := by decide +kernel
theorem dX0_canCarry_6 : decode cX0_canCarry 6 = .ok (.iload_n 1, 1) := by decide +kernel
theorem dX0_canCarry_7 : decode cX0_canCarry 7 = .ok (.if_icmp .ne 7, 3) := by decide +kernel
theorem dX0_canCarry_10 : decode cX0_canCarry 10 = .ok (.iconst 1, 1) := by decide +kernel
theorem dX0_canCarry_11 : decode cX0_canCarry 11 = .ok (.goto 4, 3) := by decide +kernel
theorem dX0_canCarry_14 : decode cX0_canCarry 14 = .ok (.iconst 0, 1) := by decide +kernel
theorem dX0_canCarry_15 : decode cX0_canCarry 15 = .ok (.ireturn, 1) := by decide +kernel
theorem dX0_fitCarriers_0 : decode cX0_fitCarriers 0 = .ok (.aload_n 0, 1) := by decide +kernel
theorem dX0_fitCarriers_1 : decode cX0_fitCarriers 1 = .ok (.getfield 55, 3) := by decide +kernel
theorem dX0_fitCarriers_4 : decode cX0_fitCarriers 4 = .ok (.ifCond .ne 26, 3) := by decide +kernel
theorem dX0_fitCarriers_7 : decode cX0_fitCarriers 7 = .ok (.aload_n 0, 1) := by decide +kernel
theorem dX0_fitCarriers_8 : decode cX0_fitCarriers 8 = .ok (.getfield 52, 3) := by decide +kernel
theorem dX0_fitCarriers_11 : decode cX0_fitCarriers 11 = .ok (.ifCond .eq 19, 3) := by decide +kernel
theorem dX0_fitCarriers_14 : decode cX0_fitCarriers 14 = .ok (.aload_n 0, 1) := by decide +kernel
theorem dX0_fitCarriers_15 : decode cX0_fitCarriers 15 = .ok (.getfield 12, 3) := by decide +kernel
theorem dX0_fitCarriers_18 : decode cX0_fitCarriers 18 = .ok (.aload_n 0, 1) := by decide +kernel
theorem dX0_fitCarriers_19 : decode cX0_fitCarriers 19 = .ok (.getfield 52, 3) := by decide +kernel
theorem dX0_fitCarriers_22 : decode cX0_fitCarriers 22 = .ok (.iconst 1, 1) := by decide +kernel
theorem dX0_fitCarriers_23 : decode cX0_fitCarriers 23 = .ok (.isub, 1) := by decide +kernel
theorem dX0_fitCarriers_24 : decode cX0_fitCarriers 24 = .ok (.invokevirtual 133, 3) := by decide +kernel
theorem dX0_fitCarriers_27 : decode cX0_fitCarriers 27 = .ok (.ifCond .ne 5, 3) := by decide +kernel
theorem dX0_fitCarriers_30 : decode cX0_fitCarriers 30 = .ok (.iconst 0, 1) := by decide +kernel
theorem dX0_fitCarriers_31 : decode cX0_fitCarriers 31 = .ok (.ireturn, 1) := by decide +kernel
theorem dX0_fitCarriers_32 : decode cX0_fitCarriers 32 = .ok (.iconst 3, 1) := by decide +kernel
theorem dX0_fitCarriers_33 : decode cX0_fitCarriers 33 = .ok (.aload_n 0, 1) := by decide +kernel
theorem dX0_fitCarriers_34 : decode cX0_fitCarriers 34 = .ok (.getfield 12, 3) := by decide +kernel
theorem dX0_fitCarriers_37 : decode cX0_fitCarriers 37 = .ok (.aload_n 0, 1) := by decide +kernel
theorem dX0_fitCarriers_38 : decode cX0_fitCarriers 38 = .ok (.getfield 52, 3) := by decide +kernel
theorem dX0_fitCarriers_41 : decode cX0_fitCarriers 41 = .ok (.iconst 1, 1) := by decide +kernel
theorem dX0_fitCarriers_42 : decode cX0_fitCarriers 42 = .ok (.isub, 1) := by decide +kernel
theorem dX0_fitCarriers_43 : decode cX0_fitCarriers 43 = .ok (.invokevirtual 136, 3) := by decide +kernel
theorem dX0_fitCarriers_46 : decode cX0_fitCarriers 46 = .ok (.imul, 1) := by decide +kernel
theorem dX0_fitCarriers_47 : decode cX0_fitCarriers 47 = .ok (.istore_n 1, 1) := by decide +kernel
theorem dX0_fitCarriers_48 : decode cX0_fitCarriers 48 = .ok (.iconst 0, 1) := by decide +kernel
theorem dX0_fitCarriers_49 : decode cX0_fitCarriers 49 = .ok (.istore_n 2, 1) := by decide +kernel
theorem dX0_fitCarriers_50 : decode cX0_fitCarriers 50 = .ok (.iconst 0, 1) := by decide +kernel
theorem dX0_fitCarriers_51 : decode cX0_fitCarriers 51 = .ok (.istore_n 3, 1) := by decide +kernel
theorem dX0_fitCarriers_52 : decode cX0_fitCarriers 52 = .ok (.iload_n 3, 1) := by decide +kernel
theorem dX0_fitCarriers_53 : decode cX0_fitCarriers 53 = .ok (.aload_n 0, 1) := by decide +kernel
theorem dX0_fitCarriers_54 : decode cX0_fitCarriers 54 = .ok (.getfield 31, 3) := by decide +kernel
theorem dX0_fitCarriers_57 : decode cX0_fitCarriers 57 = .ok (.if_icmp .ge 73, 3) := by decide +kernel
theorem dX0_fitCarriers_60 : decode cX0_fitCarriers 60 = .ok (.aload_n 0, 1) := by decide +kernel
theorem dX0_fitCarriers_61 : decode cX0_fitCarriers 61 = .ok (.getfield 27, 3) := by decide +kernel
theorem dX0_fitCarriers_64 : decode cX0_fitCarriers 64 = .ok (.iload_n 3, 1) := by decide +kernel
theorem dX0_fitCarriers_65 : decode cX0_fitCarriers 65 = .ok (.aaload, 1) := by decide +kernel
theorem dX0_fitCarriers_66 : decode cX0_fitCarriers 66 = .ok (.astore 4, 2) := by decide +kernel
theorem dX0_fitCarriers_68 : decode cX0_fitCarriers 68 = .ok (.aload 4, 2) := by decide +kernel
theorem dX0_fitCarriers_70 : decode cX0_fitCarriers 70 = .ok (.getfield 103, 3) := by decide +kernel
theorem dX0_fitCarriers_73 : decode cX0_fitCarriers 73 = .ok (.ifCond .ne 51, 3) := by decide +kernel
theorem dX0_fitCarriers_76 : decode cX0_fitCarriers 76 = .ok (.aload 4, 2) := by decide +kernel
theorem dX0_fitCarriers_78 : decode cX0_fitCarriers 78 = .ok (.getfield 110, 3) := by decide +kernel
theorem dX0_fitCarriers_81 : decode cX0_fitCarriers 81 = .ok (.aload_n 0, 1) := by decide +kernel
theorem dX0_fitCarriers_82 : decode cX0_fitCarriers 82 = .ok (.getfield 52, 3) := by decide +kernel
theorem dX0_fitCarriers_85 : decode cX0_fitCarriers 85 = .ok (.if_icmp .ne 39, 3) := by decide +kernel
theorem dX0_fitCarriers_88 : decode cX0_fitCarriers 88 = .ok (.aload 4, 2) := by decide +kernel
theorem dX0_fitCarriers_90 : decode cX0_fitCarriers 90 = .ok (.getfield 142, 3) := by decide +kernel
theorem dX0_fitCarriers_93 : decode cX0_fitCarriers 93 = .ok (.iconst 2, 1) := by decide +kernel
theorem dX0_fitCarriers_94 : decode cX0_fitCarriers 94 = .ok (.iload_n 1, 1) := by decide +kernel
theorem dX0_fitCarriers_95 : decode cX0_fitCarriers 95 = .ok (.imul, 1) := by decide +kernel
theorem dX0_fitCarriers_96 : decode cX0_fitCarriers 96 = .ok (.iadd, 1) := by decide +kernel
theorem dX0_fitCarriers_97 : decode cX0_fitCarriers 97 = .ok (.bipush 100, 2) := by decide +kernel
theorem dX0_fitCarriers_99 : decode cX0_fitCarriers 99 = .ok (.if_icmp .gt 25, 3) := by decide +kernel
theorem dX0_fitCarriers_102 : decode cX0_fitCarriers 102 = .ok (.aload_n 0, 1) := by decide +kernel
theorem dX0_fitCarriers_103 : decode cX0_fitCarriers 103 = .ok (.aload 4, 2) := by decide +kernel
theorem dX0_fitCarriers_105 : decode cX0_fitCarriers 105 = .ok (.aload_n 0, 1) := by decide +kernel
theorem dX0_fitCarriers_106 : decode cX0_fitCarriers 106 = .ok (.getfield 52, 3) := by decide +kernel
theorem dX0_fitCarriers_109 : decode cX0_fitCarriers 109 = .ok (.iconst 1, 1) := by decide +kernel
theorem dX0_fitCarriers_110 : decode cX0_fitCarriers 110 = .ok (.isub, 1) := by decide +kernel
theorem dX0_fitCarriers_111 : decode cX0_fitCarriers 111 = .ok (.iload_n 1, 1) := by decide +kernel
theorem dX0_fitCarriers_112 : decode cX0_fitCarriers 112 = .ok (.invokevirtual 145, 3) := by decide +kernel
theorem dX0_fitCarriers_115 : decode cX0_fitCarriers 115 = .ok (.ifCond .eq 9, 3) := by decide +kernel
theorem dX0_fitCarriers_118 : decode cX0_fitCarriers 118 = .ok (.iload_n 2, 1) := by decide +kernel
theorem dX0_fitCarriers_119 : decode cX0_fitCarriers 119 = .ok (.iconst 1, 1) := by decide +kernel
theorem dX0_fitCarriers_120 : decode cX0_fitCarriers 120 = .ok (.iload_n 3, 1) := by decide +kernel
theorem dX0_fitCarriers_121 : decode cX0_fitCarriers 121 = .ok (.ishl, 1) := by decide +kernel
theorem dX0_fitCarriers_122 : decode cX0_fitCarriers 122 = .ok (.ior, 1) := by decide +kernel
theorem dX0_fitCarriers_123 : decode cX0_fitCarriers 123 = .ok (.istore_n 2, 1) := by decide +kernel
theorem dX0_fitCarriers_124 : decode cX0_fitCarriers 124 = .ok (.iinc 3 1, 3) := by decide +kernel
theorem dX0_fitCarriers_127 : decode cX0_fitCarriers 127 = .ok (.goto (-75), 3) := by decide +kernel
theorem dX0_fitCarriers_130 : decode cX0_fitCarriers 130 = .ok (.iload_n 2, 1) := by decide +kernel
theorem dX0_fitCarriers_131 : decode cX0_fitCarriers 131 = .ok (.ireturn, 1) := by decide +kernel
theorem dX0_startCarry_0 : decode cX0_startCarry 0 = .ok (.iconst 3, 1) := by decide +kernel
theorem dX0_startCarry_1 : decode cX0_startCarry 1 = .ok (.aload_n 0, 1) := by decide +kernel
theorem dX0_startCarry_2 : decode cX0_startCarry 2 = .ok (.getfield 12, 3) := by decide +kernel
theorem dX0_startCarry_5 : decode cX0_startCarry 5 = .ok (.aload_n 0, 1) := by decide +kernel
theorem dX0_startCarry_6 : decode cX0_startCarry 6 = .ok (.getfield 52, 3) := by decide +kernel
theorem dX0_startCarry_9 : decode cX0_startCarry 9 = .ok (.iconst 1, 1) := by decide +kernel
theorem dX0_startCarry_10 : decode cX0_startCarry 10 = .ok (.isub, 1) := by decide +kernel
theorem dX0_startCarry_11 : decode cX0_startCarry 11 = .ok (.invokevirtual 136, 3) := by decide +kernel
theorem dX0_startCarry_14 : decode cX0_startCarry 14 = .ok (.imul, 1) := by decide +kernel
theorem dX0_startCarry_15 : decode cX0_startCarry 15 = .ok (.istore_n 2, 1) := by decide +kernel
theorem dX0_startCarry_16 : decode cX0_startCarry 16 = .ok (.iconst 0, 1) := by decide +kernel
theorem dX0_startCarry_17 : decode cX0_startCarry 17 = .ok (.istore_n 3, 1) := by decide +kernel
theorem dX0_startCarry_18 : decode cX0_startCarry 18 = .ok (.iload_n 3, 1) := by decide +kernel
theorem dX0_startCarry_19 : decode cX0_startCarry 19 = .ok (.aload_n 0, 1) := by decide +kernel
theorem dX0_startCarry_20 : decode cX0_startCarry 20 = .ok (.getfield 31, 3) := by decide +kernel
theorem dX0_startCarry_23 : decode cX0_startCarry 23 = .ok (.if_icmp .ge 44, 3) := by decide +kernel
theorem dX0_startCarry_26 : decode cX0_startCarry 26 = .ok (.iload_n 1, 1) := by decide +kernel
theorem dX0_startCarry_27 : decode cX0_startCarry 27 = .ok (.iload_n 3, 1) := by decide +kernel
theorem dX0_startCarry_28 : decode cX0_startCarry 28 = .ok (.ishr, 1) := by decide +kernel
theorem dX0_startCarry_29 : decode cX0_startCarry 29 = .ok (.iconst 1, 1) := by decide +kernel
theorem dX0_startCarry_30 : decode cX0_startCarry 30 = .ok (.iand, 1) := by decide +kernel
theorem dX0_startCarry_31 : decode cX0_startCarry 31 = .ok (.iconst 1, 1) := by decide +kernel
theorem dX0_startCarry_32 : decode cX0_startCarry 32 = .ok (.if_icmp .ne 29, 3) := by decide +kernel
theorem dX0_startCarry_35 : decode cX0_startCarry 35 = .ok (.aload_n 0, 1) := by decide +kernel
theorem dX0_startCarry_36 : decode cX0_startCarry 36 = .ok (.getfield 27, 3) := by decide +kernel
theorem dX0_startCarry_39 : decode cX0_startCarry 39 = .ok (.iload_n 3, 1) := by decide +kernel
theorem dX0_startCarry_40 : decode cX0_startCarry 40 = .ok (.aaload, 1) := by decide +kernel
theorem dX0_startCarry_41 : decode cX0_startCarry 41 = .ok (.aload_n 0, 1) := by decide +kernel
theorem dX0_startCarry_42 : decode cX0_startCarry 42 = .ok (.getfield 52, 3) := by decide +kernel
theorem dX0_startCarry_45 : decode cX0_startCarry 45 = .ok (.iconst 1, 1) := by decide +kernel
theorem dX0_startCarry_46 : decode cX0_startCarry 46 = .ok (.isub, 1) := by decide +kernel
theorem dX0_startCarry_47 : decode cX0_startCarry 47 = .ok (.iload_n 2, 1) := by decide +kernel
theorem dX0_startCarry_48 : decode cX0_startCarry 48 = .ok (.invokevirtual 162, 3) := by decide +kernel
theorem dX0_startCarry_51 : decode cX0_startCarry 51 = .ok (.aload_n 0, 1) := by decide +kernel
theorem dX0_startCarry_52 : decode cX0_startCarry 52 = .ok (.getfield 27, 3) := by decide +kernel
theorem dX0_startCarry_55 : decode cX0_startCarry 55 = .ok (.iload_n 3, 1) := by decide +kernel
theorem dX0_startCarry_56 : decode cX0_startCarry 56 = .ok (.aaload, 1) := by decide +kernel
theorem dX0_startCarry_57 : decode cX0_startCarry 57 = .ok (.iconst 1, 1) := by decide +kernel
theorem dX0_startCarry_58 : decode cX0_startCarry 58 = .ok (.putfield 204, 3) := by decide +kernel
theorem dX0_startCarry_61 : decode cX0_startCarry 61 = .ok (.iinc 3 1, 3) := by decide +kernel
theorem dX0_startCarry_64 : decode cX0_startCarry 64 = .ok (.goto (-46), 3) := by decide +kernel
theorem dX0_startCarry_67 : decode cX0_startCarry 67 = .ok (.aload_n 0, 1) := by decide +kernel
theorem dX0_startCarry_68 : decode cX0_startCarry 68 = .ok (.iconst 1, 1) := by decide +kernel
theorem dX0_startCarry_69 : decode cX0_startCarry 69 = .ok (.putfield 55, 3) := by decide +kernel
theorem dX0_startCarry_72 : decode cX0_startCarry 72 = .ok (.aload_n 0, 1) := by decide +kernel
theorem dX0_startCarry_73 : decode cX0_startCarry 73 = .ok (.getfield 45, 3) := by decide +kernel
theorem dX0_startCarry_76 : decode cX0_startCarry 76 = .ok (.aload_n 0, 1) := by decide +kernel
theorem dX0_startCarry_77 : decode cX0_startCarry 77 = .ok (.getfield 49, 3) := by decide +kernel
theorem dX0_startCarry_80 : decode cX0_startCarry 80 = .ok (.aload_n 0, 1) := by decide +kernel
theorem dX0_startCarry_81 : decode cX0_startCarry 81 = .ok (.getfield 52, 3) := by decide +kernel
theorem dX0_startCarry_84 : decode cX0_startCarry 84 = .ok (.iload_n 1, 1) := by decide +kernel
theorem dX0_startCarry_85 : decode cX0_startCarry 85 = .ok (.invokevirtual 207, 3) := by decide +kernel
theorem dX0_startCarry_88 : decode cX0_startCarry 88 = .ok (.iload_n 2, 1) := by decide +kernel
theorem dX0_startCarry_89 : decode cX0_startCarry 89 = .ok (.ireturn, 1) := by decide +kernel
theorem dX0_canSend_0 : decode cX0_canSend 0 = .ok (.aload_n 0, 1) := by decide +kernel
theorem dX0_canSend_1 : decode cX0_canSend 1 = .ok (.iload_n 1, 1) := by decide +kernel
theorem dX0_canSend_2 : decode cX0_canSend 2 = .ok (.invokevirtual 149, 3) := by decide +kernel
theorem dX0_canSend_5 : decode cX0_canSend 5 = .ok (.ifCond .eq 31, 3) := by decide +kernel
theorem dX0_canSend_8 : decode cX0_canSend 8 = .ok (.aload_n 0, 1) := by decide +kernel
theorem dX0_canSend_9 : decode cX0_canSend 9 = .ok (.getfield 38, 3) := by decide +kernel
theorem dX0_canSend_12 : decode cX0_canSend 12 = .ok (.getfield 76, 3) := by decide +kernel
theorem dX0_canSend_15 : decode cX0_canSend 15 = .ok (.bipush 10, 2) := by decide +kernel
theorem dX0_canSend_17 : decode cX0_canSend 17 = .ok (.if_icmp .lt 15, 3) := by decide +kernel
theorem dX0_canSend_20 : decode cX0_canSend 20 = .ok (.aload_n 0, 1) := by decide +kernel
theorem dX0_canSend_21 : decode cX0_canSend 21 = .ok (.getfield 27, 3) := by decide +kernel
theorem dX0_canSend_24 : decode cX0_canSend 24 = .ok (.iload_n 1, 1) := by decide +kernel
theorem dX0_canSend_25 : decode cX0_canSend 25 = .ok (.aaload, 1) := by decide +kernel
theorem dX0_canSend_26 : decode cX0_canSend 26 = .ok (.getfield 110, 3) := by decide +kernel
theorem dX0_canSend_29 : decode cX0_canSend 29 = .ok (.ifCond .ne 7, 3) := by decide +kernel
theorem dX0_canSend_32 : decode cX0_canSend 32 = .ok (.iconst 1, 1) := by decide +kernel
theorem dX0_canSend_33 : decode cX0_canSend 33 = .ok (.goto 4, 3) := by decide +kernel
theorem dX0_canSend_36 : decode cX0_canSend 36 = .ok (.iconst 0, 1) := by decide +kernel
theorem dX0_canSend_37 : decode cX0_canSend 37 = .ok (.ireturn, 1) := by decide +kernel
theorem dX0_sendFrom_0 : decode cX0_sendFrom 0 = .ok (.aload_n 0, 1) := by decide +kernel
theorem dX0_sendFrom_1 : decode cX0_sendFrom 1 = .ok (.getfield 27, 3) := by decide +kernel
theorem dX0_sendFrom_4 : decode cX0_sendFrom 4 = .ok (.iload_n 1, 1) := by decide +kernel
theorem dX0_sendFrom_5 : decode cX0_sendFrom 5 = .ok (.aaload, 1) := by decide +kernel
theorem dX0_sendFrom_6 : decode cX0_sendFrom 6 = .ok (.getfield 110, 3) := by decide +kernel
theorem dX0_sendFrom_9 : decode cX0_sendFrom 9 = .ok (.istore_n 2, 1) := by decide +kernel
theorem dX0_sendFrom_10 : decode cX0_sendFrom 10 = .ok (.iload_n 2, 1) := by decide +kernel
theorem dX0_sendFrom_11 : decode cX0_sendFrom 11 = .ok (.ifCond .ne 19, 3) := by decide +kernel
theorem dX0_sendFrom_14 : decode cX0_sendFrom 14 = .ok (.aload_n 0, 1) := by decide +kernel
theorem dX0_sendFrom_15 : decode cX0_sendFrom 15 = .ok (.getfield 38, 3) := by decide +kernel
theorem dX0_sendFrom_18 : decode cX0_sendFrom 18 = .ok (.dup, 1) := by decide +kernel
theorem dX0_sendFrom_19 : decode cX0_sendFrom 19 = .ok (.getfield 77, 3) := by decide +kernel
theorem dX0_sendFrom_22 : decode cX0_sendFrom 22 = .ok (.iconst 1, 1) := by decide +kernel
theorem dX0_sendFrom_23 : decode cX0_sendFrom 23 = .ok (.iadd, 1) := by decide +kernel
theorem dX0_sendFrom_24 : decode cX0_sendFrom 24 = .ok (.putfield 77, 3) := by decide +kernel
theorem dX0_sendFrom_27 : decode cX0_sendFrom 27 = .ok (.goto 16, 3) := by decide +kernel
theorem dX0_sendFrom_30 : decode cX0_sendFrom 30 = .ok (.aload_n 0, 1) := by decide +kernel
theorem dX0_sendFrom_31 : decode cX0_sendFrom 31 = .ok (.getfield 38, 3) := by decide +kernel
theorem dX0_sendFrom_34 : decode cX0_sendFrom 34 = .ok (.iload_n 1, 1) := by decide +kernel
theorem dX0_sendFrom_35 : decode cX0_sendFrom 35 = .ok (.aload_n 0, 1) := by decide +kernel
theorem dX0_sendFrom_36 : decode cX0_sendFrom 36 = .ok (.getfield 49, 3) := by decide +kernel
theorem dX0_sendFrom_39 : decode cX0_sendFrom 39 = .ok (.iload_n 2, 1) := by decide +kernel
theorem dX0_sendFrom_40 : decode cX0_sendFrom 40 = .ok (.invokevirtual 210, 3) := by decide +kernel
theorem dX0_sendFrom_43 : decode cX0_sendFrom 43 = .ok (.return_, 1) := by decide +kernel
theorem dX0_canPass_0 : decode cX0_canPass 0 = .ok (.aload_n 0, 1) := by decide +kernel
theorem dX0_canPass_1 : decode cX0_canPass 1 = .ok (.getfield 49, 3) := by decide +kernel
theorem dX0_canPass_4 : decode cX0_canPass 4 = .ok (.iload_n 1, 1) := by decide +kernel
theorem dX0_canPass_5 : decode cX0_canPass 5 = .ok (.iadd, 1) := by decide +kernel
theorem dX0_canPass_6 : decode cX0_canPass 6 = .ok (.ldc 211, 2) := by decide +kernel
theorem dX0_canPass_8 : decode cX0_canPass 8 = .ok (.if_icmp .gt 7, 3) := by decide +kernel
theorem dX0_canPass_11 : decode cX0_canPass 11 = .ok (.iconst 1, 1) := by decide +kernel
theorem dX0_canPass_12 : decode cX0_canPass 12 = .ok (.goto 4, 3) := by decide +kernel
theorem dX0_canPass_15 : decode cX0_canPass 15 = .ok (.iconst 0, 1) := by decide +kernel
theorem dX0_canPass_16 : decode cX0_canPass 16 = .ok (.ireturn, 1) := by decide +kernel
theorem dX0_letPass_0 : decode cX0_letPass 0 = .ok (.aload_n 0, 1) := by decide +kernel
theorem dX0_letPass_1 : decode cX0_letPass 1 = .ok (.getfield 38, 3) := by decide +kernel
theorem dX0_letPass_4 : decode cX0_letPass 4 = .ok (.getfield 77, 3) := by decide +kernel
theorem dX0_letPass_7 : decode cX0_letPass 7 = .ok (.istore_n 2, 1) := by decide +kernel
theorem dX0_letPass_8 : decode cX0_letPass 8 = .ok (.iconst 0, 1) := by decide +kernel
theorem dX0_letPass_9 : decode cX0_letPass 9 = .ok (.istore_n 3, 1) := by decide +kernel
theorem dX0_letPass_10 : decode cX0_letPass 10 = .ok (.iload_n 3, 1) := by decide +kernel
theorem dX0_letPass_11 : decode cX0_letPass 11 = .ok (.iload_n 1, 1) := by decide +kernel
theorem dX0_letPass_12 : decode cX0_letPass 12 = .ok (.if_icmp .ge 72, 3) := by decide +kernel
theorem dX0_letPass_15 : decode cX0_letPass 15 = .ok (.iconst 0, 1) := by decide +kernel
theorem dX0_letPass_16 : decode cX0_letPass 16 = .ok (.istore 4, 2) := by decide +kernel
theorem dX0_letPass_18 : decode cX0_letPass 18 = .ok (.iload 4, 2) := by decide +kernel
theorem dX0_letPass_20 : decode cX0_letPass 20 = .ok (.aload_n 0, 1) := by decide +kernel
theorem dX0_letPass_21 : decode cX0_letPass 21 = .ok (.getfield 31, 3) := by decide +kernel
theorem dX0_letPass_24 : decode cX0_letPass 24 = .ok (.if_icmp .ge 15, 3) := by decide +kernel
theorem dX0_letPass_27 : decode cX0_letPass 27 = .ok (.aload_n 0, 1) := by decide +kernel
theorem dX0_letPass_28 : decode cX0_letPass 28 = .ok (.iload 4, 2) := by decide +kernel
theorem dX0_letPass_30 : decode cX0_letPass 30 = .ok (.invokevirtual 212, 3) := by decide +kernel
theorem dX0_letPass_33 : decode cX0_letPass 33 = .ok (.iinc 4 1, 3) := by decide +kernel
theorem dX0_letPass_36 : decode cX0_letPass 36 = .ok (.goto (-18), 3) := by decide +kernel
theorem dX0_letPass_39 : decode cX0_letPass 39 = .ok (.aload_n 0, 1) := by decide +kernel
theorem dX0_letPass_40 : decode cX0_letPass 40 = .ok (.getfield 49, 3) := by decide +kernel
theorem dX0_letPass_43 : decode cX0_letPass 43 = .ok (.aload_n 0, 1) := by decide +kernel
theorem dX0_letPass_44 : decode cX0_letPass 44 = .ok (.getfield 59, 3) := by decide +kernel
theorem dX0_letPass_47 : decode cX0_letPass 47 = .ok (.if_icmp .lt 14, 3) := by decide +kernel
theorem dX0_letPass_50 : decode cX0_letPass 50 = .ok (.aload_n 0, 1) := by decide +kernel
theorem dX0_letPass_51 : decode cX0_letPass 51 = .ok (.getfield 49, 3) := by decide +kernel
theorem dX0_letPass_54 : decode cX0_letPass 54 = .ok (.aload_n 0, 1) := by decide +kernel
theorem dX0_letPass_55 : decode cX0_letPass 55 = .ok (.getfield 62, 3) := by decide +kernel
theorem dX0_letPass_58 : decode cX0_letPass 58 = .ok (.if_icmp .lt 10, 3) := by decide +kernel
theorem dX0_letPass_61 : decode cX0_letPass 61 = .ok (.aload_n 0, 1) := by decide +kernel
theorem dX0_letPass_62 : decode cX0_letPass 62 = .ok (.getfield 38, 3) := by decide +kernel
theorem dX0_letPass_65 : decode cX0_letPass 65 = .ok (.invokevirtual 215, 3) := by decide +kernel
theorem dX0_letPass_68 : decode cX0_letPass 68 = .ok (.aload_n 0, 1) := by decide +kernel
theorem dX0_letPass_69 : decode cX0_letPass 69 = .ok (.dup, 1) := by decide +kernel
theorem dX0_letPass_70 : decode cX0_letPass 70 = .ok (.getfield 49, 3) := by decide +kernel
theorem dX0_letPass_73 : decode cX0_letPass 73 = .ok (.iconst 1, 1) := by decide +kernel
theorem dX0_letPass_74 : decode cX0_letPass 74 = .ok (.iadd, 1) := by decide +kernel
theorem dX0_letPass_75 : decode cX0_letPass 75 = .ok (.putfield 49, 3) := by decide +kernel
theorem dX0_letPass_78 : decode cX0_letPass 78 = .ok (.iinc 3 1, 3) := by decide +kernel
theorem dX0_letPass_81 : decode cX0_letPass 81 = .ok (.goto (-71), 3) := by decide +kernel
theorem dX0_letPass_84 : decode cX0_letPass 84 = .ok (.aload_n 0, 1) := by decide +kernel
theorem dX0_letPass_85 : decode cX0_letPass 85 = .ok (.getfield 38, 3) := by decide +kernel
theorem dX0_letPass_88 : decode cX0_letPass 88 = .ok (.getfield 77, 3) := by decide +kernel
theorem dX0_letPass_91 : decode cX0_letPass 91 = .ok (.iload_n 2, 1) := by decide +kernel
theorem dX0_letPass_92 : decode cX0_letPass 92 = .ok (.isub, 1) := by decide +kernel
theorem dX0_letPass_93 : decode cX0_letPass 93 = .ok (.ireturn, 1) := by decide +kernel
theorem dX0_letMinutePass_0 : decode cX0_letMinutePass 0 = .ok (.aload_n 0, 1) := by decide +kernel
theorem dX0_letMinutePass_1 : decode cX0_letMinutePass 1 = .ok (.getfield 27, 3) := by decide +kernel
theorem dX0_letMinutePass_4 : decode cX0_letMinutePass 4 = .ok (.iload_n 1, 1) := by decide +kernel
theorem dX0_letMinutePass_5 : decode cX0_letMinutePass 5 = .ok (.aaload, 1) := by decide +kernel
theorem dX0_letMinutePass_6 : decode cX0_letMinutePass 6 = .ok (.astore_n 2, 1) := by decide +kernel
theorem dX0_letMinutePass_7 : decode cX0_letMinutePass 7 = .ok (.aload_n 2, 1) := by decide +kernel
theorem dX0_letMinutePass_8 : decode cX0_letMinutePass 8 = .ok (.getfield 103, 3) := by decide +kernel
theorem dX0_letMinutePass_11 : decode cX0_letMinutePass 11 = .ok (.ifCond .ne 14, 3) := by decide +kernel
theorem dX0_letMinutePass_14 : decode cX0_letMinutePass 14 = .ok (.aload_n 2, 1) := by decide +kernel
theorem dX0_letMinutePass_15 : decode cX0_letMinutePass 15 = .ok (.getfield 110, 3) := by decide +kernel
theorem dX0_letMinutePass_18 : decode cX0_letMinutePass 18 = .ok (.ifCond .ne 7, 3) := by decide +kernel
theorem dX0_letMinutePass_21 : decode cX0_letMinutePass 21 = .ok (.iconst 1, 1) := by decide +kernel
theorem dX0_letMinutePass_22 : decode cX0_letMinutePass 22 = .ok (.goto 4, 3) := by decide +kernel
theorem dX0_letMinutePass_25 : decode cX0_letMinutePass 25 = .ok (.iconst 0, 1) := by decide +kernel
theorem dX0_letMinutePass_26 : decode cX0_letMinutePass 26 = .ok (.istore_n 3, 1) := by decide +kernel
theorem dX0_letMinutePass_27 : decode cX0_letMinutePass 27 = .ok (.aload_n 2, 1) := by decide +kernel
theorem dX0_letMinutePass_28 : decode cX0_letMinutePass 28 = .ok (.getfield 103, 3) := by decide +kernel
theorem dX0_letMinutePass_31 : decode cX0_letMinutePass 31 = .ok (.ifCond .ne 49, 3) := by decide +kernel
theorem dX0_letMinutePass_34 : decode cX0_letMinutePass 34 = .ok (.aload_n 2, 1) := by decide +kernel
theorem dX0_letMinutePass_35 : decode cX0_letMinutePass 35 = .ok (.getfield 110, 3) := by decide +kernel
theorem dX0_letMinutePass_38 : decode cX0_letMinutePass 38 = .ok (.ifCond .le 42, 3) := by decide +kernel
theorem dX0_letMinutePass_41 : decode cX0_letMinutePass 41 = .ok (.aload_n 0, 1) := by decide +kernel
theorem dX0_letMinutePass_42 : decode cX0_letMinutePass 42 = .ok (.aload_n 2, 1) := by decide +kernel
theorem dX0_letMinutePass_43 : decode cX0_letMinutePass 43 = .ok (.aload_n 2, 1) := by decide +kernel
theorem dX0_letMinutePass_44 : decode cX0_letMinutePass 44 = .ok (.getfield 110, 3) := by decide +kernel
theorem dX0_letMinutePass_47 : decode cX0_letMinutePass 47 = .ok (.iconst 1, 1) := by decide +kernel
theorem dX0_letMinutePass_48 : decode cX0_letMinutePass 48 = .ok (.invokevirtual 145, 3) := by decide +kernel
theorem dX0_letMinutePass_51 : decode cX0_letMinutePass 51 = .ok (.ifCond .ne 29, 3) := by decide +kernel
theorem dX0_letMinutePass_54 : decode cX0_letMinutePass 54 = .ok (.aload_n 0, 1) := by decide +kernel
theorem dX0_letMinutePass_55 : decode cX0_letMinutePass 55 = .ok (.aload_n 2, 1) := by decide +kernel
theorem dX0_letMinutePass_56 : decode cX0_letMinutePass 56 = .ok (.aload_n 2, 1) := by decide +kernel
theorem dX0_letMinutePass_57 : decode cX0_letMinutePass 57 = .ok (.getfield 110, 3) := by decide +kernel
theorem dX0_letMinutePass_60 : decode cX0_letMinutePass 60 = .ok (.iconst 1, 1) := by decide +kernel
theorem dX0_letMinutePass_61 : decode cX0_letMinutePass 61 = .ok (.isub, 1) := by decide +kernel
theorem dX0_letMinutePass_62 : decode cX0_letMinutePass 62 = .ok (.invokevirtual 152, 3) := by decide +kernel
theorem dX0_letMinutePass_65 : decode cX0_letMinutePass 65 = .ok (.ifCond .ne 15, 3) := by decide +kernel
theorem dX0_letMinutePass_68 : decode cX0_letMinutePass 68 = .ok (.aload_n 0, 1) := by decide +kernel
theorem dX0_letMinutePass_69 : decode cX0_letMinutePass 69 = .ok (.iload_n 1, 1) := by decide +kernel
theorem dX0_letMinutePass_70 : decode cX0_letMinutePass 70 = .ok (.aload_n 2, 1) := by decide +kernel
theorem dX0_letMinutePass_71 : decode cX0_letMinutePass 71 = .ok (.getfield 110, 3) := by decide +kernel
theorem dX0_letMinutePass_74 : decode cX0_letMinutePass 74 = .ok (.iconst 1, 1) := by decide +kernel
theorem dX0_letMinutePass_75 : decode cX0_letMinutePass 75 = .ok (.isub, 1) := by decide +kernel
theorem dX0_letMinutePass_76 : decode cX0_letMinutePass 76 = .ok (.invokevirtual 218, 3) := by decide +kernel
theorem dX0_letMinutePass_79 : decode cX0_letMinutePass 79 = .ok (.pop, 1) := by decide +kernel
theorem dX0_letMinutePass_80 : decode cX0_letMinutePass 80 = .ok (.aload_n 2, 1) := by decide +kernel
theorem dX0_letMinutePass_81 : decode cX0_letMinutePass 81 = .ok (.getfield 103, 3) := by decide +kernel
theorem dX0_letMinutePass_84 : decode cX0_letMinutePass 84 = .ok (.iconst 1, 1) := by decide +kernel
theorem dX0_letMinutePass_85 : decode cX0_letMinutePass 85 = .ok (.if_icmp .ne 11, 3) := by decide +kernel
theorem dX0_letMinutePass_88 : decode cX0_letMinutePass 88 = .ok (.aload_n 0, 1) := by decide +kernel
theorem dX0_letMinutePass_89 : decode cX0_letMinutePass 89 = .ok (.aload_n 2, 1) := by decide +kernel
theorem dX0_letMinutePass_90 : decode cX0_letMinutePass 90 = .ok (.invokevirtual 221, 3) := by decide +kernel
theorem dX0_letMinutePass_93 : decode cX0_letMinutePass 93 = .ok (.goto 16, 3) := by decide +kernel
theorem dX0_letMinutePass_96 : decode cX0_letMinutePass 96 = .ok (.aload_n 2, 1) := by decide +kernel
theorem dX0_letMinutePass_97 : decode cX0_letMinutePass 97 = .ok (.getfield 103, 3) := by decide +kernel
theorem dX0_letMinutePass_100 : decode cX0_letMinutePass 100 = .ok (.iconst 2, 1) := by decide +kernel
theorem dX0_letMinutePass_101 : decode cX0_letMinutePass 101 = .ok (.if_icmp .ne 8, 3) := by decide +kernel
theorem dX0_letMinutePass_104 : decode cX0_letMinutePass 104 = .ok (.aload_n 0, 1) := by decide +kernel
theorem dX0_letMinutePass_105 : decode cX0_letMinutePass 105 = .ok (.aload_n 2, 1) := by decide +kernel
theorem dX0_letMinutePass_106 : decode cX0_letMinutePass 106 = .ok (.invokevirtual 224, 3) := by decide +kernel
theorem dX0_letMinutePass_109 : decode cX0_letMinutePass 109 = .ok (.iload_n 3, 1) := by decide +kernel
theorem dX0_letMinutePass_110 : decode cX0_letMinutePass 110 = .ok (.ifCond .eq 20, 3) := by decide +kernel
theorem dX0_letMinutePass_113 : decode cX0_letMinutePass 113 = .ok (.aload_n 2, 1) := by decide +kernel
theorem dX0_letMinutePass_114 : decode cX0_letMinutePass 114 = .ok (.getfield 142, 3) := by decide +kernel
theorem dX0_letMinutePass_117 : decode cX0_letMinutePass 117 = .ok (.ifCond .le 13, 3) := by decide +kernel
theorem dX0_letMinutePass_120 : decode cX0_letMinutePass 120 = .ok (.aload_n 2, 1) := by decide +kernel
theorem dX0_letMinutePass_121 : decode cX0_letMinutePass 121 = .ok (.dup, 1) := by decide +kernel
theorem dX0_letMinutePass_122 : decode cX0_letMinutePass 122 = .ok (.getfield 142, 3) := by decide +kernel
theorem dX0_letMinutePass_125 : decode cX0_letMinutePass 125 = .ok (.iconst 1, 1) := by decide +kernel
theorem dX0_letMinutePass_126 : decode cX0_letMinutePass 126 = .ok (.isub, 1) := by decide +kernel
theorem dX0_letMinutePass_127 : decode cX0_letMinutePass 127 = .ok (.putfield 142, 3) := by decide +kernel
theorem dX0_letMinutePass_130 : decode cX0_letMinutePass 130 = .ok (.aload_n 2, 1) := by decide +kernel
theorem dX0_letMinutePass_131 : decode cX0_letMinutePass 131 = .ok (.invokevirtual 227, 3) := by decide +kernel
theorem dX0_letMinutePass_134 : decode cX0_letMinutePass 134 = .ok (.ifCond .eq 13, 3) := by decide +kernel
theorem dX0_letMinutePass_137 : decode cX0_letMinutePass 137 = .ok (.aload_n 0, 1) := by decide +kernel
theorem dX0_letMinutePass_138 : decode cX0_letMinutePass 138 = .ok (.dup, 1) := by decide +kernel
theorem dX0_letMinutePass_139 : decode cX0_letMinutePass 139 = .ok (.getfield 65, 3) := by decide +kernel
theorem dX0_letMinutePass_142 : decode cX0_letMinutePass 142 = .ok (.iconst 1, 1) := by decide +kernel
theorem dX0_letMinutePass_143 : decode cX0_letMinutePass 143 = .ok (.iadd, 1) := by decide +kernel
theorem dX0_letMinutePass_144 : decode cX0_letMinutePass 144 = .ok (.putfield 65, 3) := by decide +kernel
theorem dX0_letMinutePass_147 : decode cX0_letMinutePass 147 = .ok (.return_, 1) := by decide +kernel
theorem dX0_walkOn_0 : decode cX0_walkOn 0 = .ok (.aload_n 1, 1) := by decide +kernel
theorem dX0_walkOn_1 : decode cX0_walkOn 1 = .ok (.getfield 231, 3) := by decide +kernel
theorem dX0_walkOn_4 : decode cX0_walkOn 4 = .ok (.aload_n 1, 1) := by decide +kernel
theorem dX0_walkOn_5 : decode cX0_walkOn 5 = .ok (.getfield 110, 3) := by decide +kernel
theorem dX0_walkOn_8 : decode cX0_walkOn 8 = .ok (.if_icmp .ge 21, 3) := by decide +kernel
theorem dX0_walkOn_11 : decode cX0_walkOn 11 = .ok (.aload_n 0, 1) := by decide +kernel
theorem dX0_walkOn_12 : decode cX0_walkOn 12 = .ok (.getfield 12, 3) := by decide +kernel
theorem dX0_walkOn_15 : decode cX0_walkOn 15 = .ok (.aload_n 1, 1) := by decide +kernel
theorem dX0_walkOn_16 : decode cX0_walkOn 16 = .ok (.getfield 231, 3) := by decide +kernel
theorem dX0_walkOn_19 : decode cX0_walkOn 19 = .ok (.invokevirtual 139, 3) := by decide +kernel
theorem dX0_walkOn_22 : decode cX0_walkOn 22 = .ok (.ifCond .eq 7, 3) := by decide +kernel
theorem dX0_walkOn_25 : decode cX0_walkOn 25 = .ok (.iconst 1, 1) := by decide +kernel
theorem dX0_walkOn_26 : decode cX0_walkOn 26 = .ok (.goto 4, 3) := by decide +kernel
theorem dX0_walkOn_29 : decode cX0_walkOn 29 = .ok (.iconst 0, 1) := by decide +kernel
theorem dX0_walkOn_30 : decode cX0_walkOn 30 = .ok (.istore_n 2, 1) := by decide +kernel
theorem dX0_walkOn_31 : decode cX0_walkOn 31 = .ok (.aload_n 1, 1) := by decide +kernel
theorem dX0_walkOn_32 : decode cX0_walkOn 32 = .ok (.dup, 1) := by decide +kernel
theorem dX0_walkOn_33 : decode cX0_walkOn 33 = .ok (.getfield 142, 3) := by decide +kernel
theorem dX0_walkOn_36 : decode cX0_walkOn 36 = .ok (.aload_n 1, 1) := by decide +kernel
theorem dX0_walkOn_37 : decode cX0_walkOn 37 = .ok (.getfield 204, 3) := by decide +kernel
theorem dX0_walkOn_40 : decode cX0_walkOn 40 = .ok (.ifCond .ne 7, 3) := by decide +kernel
theorem dX0_walkOn_43 : decode cX0_walkOn 43 = .ok (.iload_n 2, 1) := by decide +kernel
theorem dX0_walkOn_44 : decode cX0_walkOn 44 = .ok (.ifCond .eq 7, 3) := by decide +kernel
theorem dX0_walkOn_47 : decode cX0_walkOn 47 = .ok (.iconst 2, 1) := by decide +kernel
theorem dX0_walkOn_48 : decode cX0_walkOn 48 = .ok (.goto 4, 3) := by decide +kernel
theorem dX0_walkOn_51 : decode cX0_walkOn 51 = .ok (.iconst 1, 1) := by decide +kernel
theorem dX0_walkOn_52 : decode cX0_walkOn 52 = .ok (.iadd, 1) := by decide +kernel
theorem dX0_walkOn_53 : decode cX0_walkOn 53 = .ok (.putfield 142, 3) := by decide +kernel
theorem dX0_walkOn_56 : decode cX0_walkOn 56 = .ok (.aload_n 1, 1) := by decide +kernel
theorem dX0_walkOn_57 : decode cX0_walkOn 57 = .ok (.dup, 1) := by decide +kernel
theorem dX0_walkOn_58 : decode cX0_walkOn 58 = .ok (.getfield 186, 3) := by decide +kernel
theorem dX0_walkOn_61 : decode cX0_walkOn 61 = .ok (.iconst 1, 1) := by decide +kernel
theorem dX0_walkOn_62 : decode cX0_walkOn 62 = .ok (.isub, 1) := by decide +kernel
theorem dX0_walkOn_63 : decode cX0_walkOn 63 = .ok (.putfield 186, 3) := by decide +kernel
theorem dX0_walkOn_66 : decode cX0_walkOn 66 = .ok (.aload_n 1, 1) := by decide +kernel
theorem dX0_walkOn_67 : decode cX0_walkOn 67 = .ok (.getfield 186, 3) := by decide +kernel
theorem dX0_walkOn_70 : decode cX0_walkOn 70 = .ok (.ifCond .le 4, 3) := by decide +kernel
theorem dX0_walkOn_73 : decode cX0_walkOn 73 = .ok (.return_, 1) := by decide +kernel
theorem dX0_walkOn_74 : decode cX0_walkOn 74 = .ok (.aload_n 1, 1) := by decide +kernel
theorem dX0_walkOn_75 : decode cX0_walkOn 75 = .ok (.invokevirtual 234, 3) := by decide +kernel
theorem dX0_walkOn_78 : decode cX0_walkOn 78 = .ok (.aload_n 1, 1) := by decide +kernel
theorem dX0_walkOn_79 : decode cX0_walkOn 79 = .ok (.getfield 204, 3) := by decide +kernel
theorem dX0_walkOn_82 : decode cX0_walkOn 82 = .ok (.ifCond .eq 21, 3) := by decide +kernel
theorem dX0_walkOn_85 : decode cX0_walkOn 85 = .ok (.aload_n 1, 1) := by decide +kernel
theorem dX0_walkOn_86 : decode cX0_walkOn 86 = .ok (.iconst 0, 1) := by decide +kernel
theorem dX0_walkOn_87 : decode cX0_walkOn 87 = .ok (.putfield 204, 3) := by decide +kernel
theorem dX0_walkOn_90 : decode cX0_walkOn 90 = .ok (.aload_n 0, 1) := by decide +kernel
theorem dX0_walkOn_91 : decode cX0_walkOn 91 = .ok (.aload_n 1, 1) := by decide +kernel
theorem dX0_walkOn_92 : decode cX0_walkOn 92 = .ok (.getfield 110, 3) := by decide +kernel
theorem dX0_walkOn_95 : decode cX0_walkOn 95 = .ok (.putfield 52, 3) := by decide +kernel
theorem dX0_walkOn_98 : decode cX0_walkOn 98 = .ok (.aload_n 0, 1) := by decide +kernel
theorem dX0_walkOn_99 : decode cX0_walkOn 99 = .ok (.iconst 0, 1) := by decide +kernel
theorem dX0_walkOn_100 : decode cX0_walkOn 100 = .ok (.putfield 55, 3) := by decide +kernel
theorem dX0_walkOn_103 : decode cX0_walkOn 103 = .ok (.return_, 1) := by decide +kernel
theorem dX0_rigOn_0 : decode cX0_rigOn 0 = .ok (.aload_n 1, 1) := by decide +kernel
theorem dX0_rigOn_1 : decode cX0_rigOn 1 = .ok (.dup, 1) := by decide +kernel
theorem dX0_rigOn_2 : decode cX0_rigOn 2 = .ok (.getfield 186, 3) := by decide +kernel
theorem dX0_rigOn_5 : decode cX0_rigOn 5 = .ok (.iconst 1, 1) := by decide +kernel
theorem dX0_rigOn_6 : decode cX0_rigOn 6 = .ok (.isub, 1) := by decide +kernel
theorem dX0_rigOn_7 : decode cX0_rigOn 7 = .ok (.putfield 186, 3) := by decide +kernel
theorem dX0_rigOn_10 : decode cX0_rigOn 10 = .ok (.aload_n 1, 1) := by decide +kernel
theorem dX0_rigOn_11 : decode cX0_rigOn 11 = .ok (.getfield 186, 3) := by decide +kernel
theorem dX0_rigOn_14 : decode cX0_rigOn 14 = .ok (.ifCond .le 4, 3) := by decide +kernel
theorem dX0_rigOn_17 : decode cX0_rigOn 17 = .ok (.return_, 1) := by decide +kernel
theorem dX0_rigOn_18 : decode cX0_rigOn 18 = .ok (.aload_n 0, 1) := by decide +kernel
theorem dX0_rigOn_19 : decode cX0_rigOn 19 = .ok (.getfield 21, 3) := by decide +kernel
theorem dX0_rigOn_22 : decode cX0_rigOn 22 = .ok (.aload_n 1, 1) := by decide +kernel
theorem dX0_rigOn_23 : decode cX0_rigOn 23 = .ok (.getfield 166, 3) := by decide +kernel
theorem dX0_rigOn_26 : decode cX0_rigOn 26 = .ok (.iconst 2, 1) := by decide +kernel
theorem dX0_rigOn_27 : decode cX0_rigOn 27 = .ok (.aload_n 1, 1) := by decide +kernel
theorem dX0_rigOn_28 : decode cX0_rigOn 28 = .ok (.getfield 110, 3) := by decide +kernel
theorem dX0_rigOn_31 : decode cX0_rigOn 31 = .ok (.invokevirtual 173, 3) := by decide +kernel
theorem dX0_rigOn_34 : decode cX0_rigOn 34 = .ok (.aload_n 0, 1) := by decide +kernel
theorem dX0_rigOn_35 : decode cX0_rigOn 35 = .ok (.getfield 12, 3) := by decide +kernel
theorem dX0_rigOn_38 : decode cX0_rigOn 38 = .ok (.aload_n 1, 1) := by decide +kernel
theorem dX0_rigOn_39 : decode cX0_rigOn 39 = .ok (.getfield 110, 3) := by decide +kernel
theorem dX0_rigOn_42 : decode cX0_rigOn 42 = .ok (.aload_n 1, 1) := by decide +kernel
theorem dX0_rigOn_43 : decode cX0_rigOn 43 = .ok (.getfield 166, 3) := by decide +kernel
theorem dX0_rigOn_46 : decode cX0_rigOn 46 = .ok (.invokevirtual 189, 3) := by decide +kernel
theorem dX0_rigOn_49 : decode cX0_rigOn 49 = .ok (.aload_n 1, 1) := by decide +kernel
theorem dX0_rigOn_50 : decode cX0_rigOn 50 = .ok (.iconst (-1), 1) := by decide +kernel
theorem dX0_rigOn_51 : decode cX0_rigOn 51 = .ok (.putfield 166, 3) := by decide +kernel
theorem dX0_rigOn_54 : decode cX0_rigOn 54 = .ok (.aload_n 1, 1) := by decide +kernel
theorem dX0_rigOn_55 : decode cX0_rigOn 55 = .ok (.iconst 0, 1) := by decide +kernel
theorem dX0_rigOn_56 : decode cX0_rigOn 56 = .ok (.putfield 103, 3) := by decide +kernel
theorem dX0_rigOn_59 : decode cX0_rigOn 59 = .ok (.return_, 1) := by decide +kernel
theorem dX0_countOfBelow_0 : decode cX0_countOfBelow 0 = .ok (.iconst 0, 1) := by decide +kernel
theorem dX0_countOfBelow_1 : decode cX0_countOfBelow 1 = .ok (.istore_n 1, 1) := by decide +kernel
theorem dX0_countOfBelow_2 : decode cX0_countOfBelow 2 = .ok (.iconst 0, 1) := by decide +kernel
theorem dX0_countOfBelow_3 : decode cX0_countOfBelow 3 = .ok (.istore_n 2, 1) := by decide +kernel
theorem dX0_countOfBelow_4 : decode cX0_countOfBelow 4 = .ok (.iload_n 2, 1) := by decide +kernel
theorem dX0_countOfBelow_5 : decode cX0_countOfBelow 5 = .ok (.aload_n 0, 1) := by decide +kernel
theorem dX0_countOfBelow_6 : decode cX0_countOfBelow 6 = .ok (.getfield 31, 3) := by decide +kernel
theorem dX0_countOfBelow_9 : decode cX0_countOfBelow 9 = .ok (.if_icmp .ge 24, 3) := by decide +kernel
theorem dX0_countOfBelow_12 : decode cX0_countOfBelow 12 = .ok (.aload_n 0, 1) := by decide +kernel
theorem dX0_countOfBelow_13 : decode cX0_countOfBelow 13 = .ok (.getfield 27, 3) := by decide +kernel
theorem dX0_countOfBelow_16 : decode cX0_countOfBelow 16 = .ok (.iload_n 2, 1) := by decide +kernel
theorem dX0_countOfBelow_17 : decode cX0_countOfBelow 17 = .ok (.aaload, 1) := by decide +kernel
theorem dX0_countOfBelow_18 : decode cX0_countOfBelow 18 = .ok (.invokevirtual 247, 3) := by decide +kernel
theorem dX0_countOfBelow_21 : decode cX0_countOfBelow 21 = .ok (.ifCond .eq 6, 3) := by decide +kernel
theorem dX0_countOfBelow_24 : decode cX0_countOfBelow 24 = .ok (.iinc 1 1, 3) := by decide +kernel
theorem dX0_countOfBelow_27 : decode cX0_countOfBelow 27 = .ok (.iinc 2 1, 3) := by decide +kernel
theorem dX0_countOfBelow_30 : decode cX0_countOfBelow 30 = .ok (.goto (-26), 3) := by decide +kernel
theorem dX0_countOfBelow_33 : decode cX0_countOfBelow 33 = .ok (.iload_n 1, 1) := by decide +kernel
theorem dX0_countOfBelow_34 : decode cX0_countOfBelow 34 = .ok (.ireturn, 1) := by decide +kernel
theorem dX0_aboutPassage_0 : decode cX0_aboutPassage 0 = .ok (.iload_n 2, 1) := by decide +kernel
theorem dX0_aboutPassage_1 : decode cX0_aboutPassage 1 = .ok (.tableswitch 64 0 3 #[31, 40, 49, 58], 31) := by decide +kernel
theorem dX0_aboutPassage_32 : decode cX0_aboutPassage 32 = .ok (.aload_n 0, 1) := by decide +kernel
theorem dX0_aboutPassage_33 : decode cX0_aboutPassage 33 = .ok (.getfield 12, 3) := by decide +kernel
theorem dX0_aboutPassage_36 : decode cX0_aboutPassage 36 = .ok (.iload_n 1, 1) := by decide +kernel
theorem dX0_aboutPassage_37 : decode cX0_aboutPassage 37 = .ok (.invokevirtual 180, 3) := by decide +kernel
theorem dX0_aboutPassage_40 : decode cX0_aboutPassage 40 = .ok (.ireturn, 1) := by decide +kernel
theorem dX0_aboutPassage_41 : decode cX0_aboutPassage 41 = .ok (.aload_n 0, 1) := by decide +kernel
theorem dX0_aboutPassage_42 : decode cX0_aboutPassage 42 = .ok (.getfield 12, 3) := by decide +kernel
theorem dX0_aboutPassage_45 : decode cX0_aboutPassage 45 = .ok (.iload_n 1, 1) := by decide +kernel
theorem dX0_aboutPassage_46 : decode cX0_aboutPassage 46 = .ok (.invokevirtual 136, 3) := by decide +kernel
theorem dX0_aboutPassage_49 : decode cX0_aboutPassage 49 = .ok (.ireturn, 1) := by decide +kernel
theorem dX0_aboutPassage_50 : decode cX0_aboutPassage 50 = .ok (.aload_n 0, 1) := by decide +kernel
theorem dX0_aboutPassage_51 : decode cX0_aboutPassage 51 = .ok (.getfield 12, 3) := by decide +kernel
theorem dX0_aboutPassage_54 : decode cX0_aboutPassage 54 = .ok (.iload_n 1, 1) := by decide +kernel
theorem dX0_aboutPassage_55 : decode cX0_aboutPassage 55 = .ok (.invokevirtual 113, 3) := by decide +kernel
theorem dX0_aboutPassage_58 : decode cX0_aboutPassage 58 = .ok (.ireturn, 1) := by decide +kernel
theorem dX0_aboutPassage_59 : decode cX0_aboutPassage 59 = .ok (.aload_n 0, 1) := by decide +kernel
theorem dX0_aboutPassage_60 : decode cX0_aboutPassage 60 = .ok (.iload_n 1, 1) := by decide +kernel
theorem dX0_aboutPassage_61 : decode cX0_aboutPassage 61 = .ok (.invokevirtual 120, 3) := by decide +kernel
theorem dX0_aboutPassage_64 : decode cX0_aboutPassage 64 = .ok (.ireturn, 1) := by decide +kernel
theorem dX0_aboutPassage_65 : decode cX0_aboutPassage 65 = .ok (.aload_n 0, 1) := by decide +kernel
theorem dX0_aboutPassage_66 : decode cX0_aboutPassage 66 = .ok (.iload_n 1, 1) := by decide +kernel
theorem dX0_aboutPassage_67 : decode cX0_aboutPassage 67 = .ok (.invokevirtual 117, 3) := by decide +kernel
theorem dX0_aboutPassage_70 : decode cX0_aboutPassage 70 = .ok (.ireturn, 1) := by decide +kernel
theorem dX0_about_0 : decode cX0_about 0 = .ok (.iload_n 1, 1) := by decide +kernel
theorem dX0_about_1 : decode cX0_about 1 = .ok (.tableswitch 158 0 12 #[67, 75, 83, 88, 93, 98, 111, 116, 124, 132, 140, 148, 153], 67) := by decide +kernel
theorem dX0_about_68 : decode cX0_about 68 = .ok (.aload_n 0, 1) := by decide +kernel
theorem dX0_about_69 : decode cX0_about 69 = .ok (.getfield 12, 3) := by decide +kernel
theorem dX0_about_72 : decode cX0_about 72 = .ok (.getfield 132, 3) := by decide +kernel
theorem dX0_about_75 : decode cX0_about 75 = .ok (.ireturn, 1) := by decide +kernel
theorem dX0_about_76 : decode cX0_about 76 = .ok (.aload_n 0, 1) := by decide +kernel
theorem dX0_about_77 : decode cX0_about 77 = .ok (.getfield 21, 3) := by decide +kernel
theorem dX0_about_80 : decode cX0_about 80 = .ok (.getfield 73, 3) := by decide +kernel
theorem dX0_about_83 : decode cX0_about 83 = .ok (.ireturn, 1) := by decide +kernel
theorem dX0_about_84 : decode cX0_about 84 = .ok (.aload_n 0, 1) := by decide +kernel
theorem dX0_about_85 : decode cX0_about 85 = .ok (.getfield 31, 3) := by decide +kernel
theorem dX0_about_88 : decode cX0_about 88 = .ok (.ireturn, 1) := by decide +kernel
theorem dX0_about_89 : decode cX0_about 89 = .ok (.aload_n 0, 1) := by decide +kernel
theorem dX0_about_90 : decode cX0_about 90 = .ok (.getfield 49, 3) := by decide +kernel
theorem dX0_about_93 : decode cX0_about 93 = .ok (.ireturn, 1) := by decide +kernel
theorem dX0_about_94 : decode cX0_about 94 = .ok (.aload_n 0, 1) := by decide +kernel
theorem dX0_about_95 : decode cX0_about 95 = .ok (.getfield 52, 3) := by decide +kernel
theorem dX0_about_98 : decode cX0_about 98 = .ok (.ireturn, 1) := by decide +kernel
theorem dX0_about_99 : decode cX0_about 99 = .ok (.aload_n 0, 1) := by decide +kernel
theorem dX0_about_100 : decode cX0_about 100 = .ok (.getfield 55, 3) := by decide +kernel
theorem dX0_about_103 : decode cX0_about 103 = .ok (.ifCond .eq 7, 3) := by decide +kernel
theorem dX0_about_106 : decode cX0_about 106 = .ok (.iconst 1, 1) := by decide +kernel
theorem dX0_about_107 : decode cX0_about 107 = .ok (.goto 4, 3) := by decide +kernel
theorem dX0_about_110 : decode cX0_about 110 = .ok (.iconst 0, 1) := by decide +kernel
theorem dX0_about_111 : decode cX0_about 111 = .ok (.ireturn, 1) := by decide +kernel
theorem dX0_about_112 : decode cX0_about 112 = .ok (.aload_n 0, 1) := by decide +kernel
theorem dX0_about_113 : decode cX0_about 113 = .ok (.invokevirtual 250, 3) := by decide +kernel
theorem dX0_about_116 : decode cX0_about 116 = .ok (.ireturn, 1) := by decide +kernel
theorem dX0_about_117 : decode cX0_about 117 = .ok (.aload_n 0, 1) := by decide +kernel
theorem dX0_about_118 : decode cX0_about 118 = .ok (.getfield 38, 3) := by decide +kernel
theorem dX0_about_121 : decode cX0_about 121 = .ok (.getfield 76, 3) := by decide +kernel
theorem dX0_about_124 : decode cX0_about 124 = .ok (.ireturn, 1) := by decide +kernel
theorem dX0_about_125 : decode cX0_about 125 = .ok (.aload_n 0, 1) := by decide +kernel
theorem dX0_about_126 : decode cX0_about 126 = .ok (.getfield 38, 3) := by decide +kernel
theorem dX0_about_129 : decode cX0_about 129 = .ok (.getfield 77, 3) := by decide +kernel
theorem dX0_about_132 : decode cX0_about 132 = .ok (.ireturn, 1) := by decide +kernel
theorem dX0_about_133 : decode cX0_about 133 = .ok (.aload_n 0, 1) := by decide +kernel
theorem dX0_about_134 : decode cX0_about 134 = .ok (.getfield 45, 3) := by decide +kernel
theorem dX0_about_137 : decode cX0_about 137 = .ok (.getfield 83, 3) := by decide +kernel
theorem dX0_about_140 : decode cX0_about 140 = .ok (.ireturn, 1) := by decide +kernel
theorem dX0_about_141 : decode cX0_about 141 = .ok (.aload_n 0, 1) := by decide +kernel
theorem dX0_about_142 : decode cX0_about 142 = .ok (.getfield 12, 3) := by decide +kernel
theorem dX0_about_145 : decode cX0_about 145 = .ok (.invokevirtual 253, 3) := by decide +kernel
theorem dX0_about_148 : decode cX0_about 148 = .ok (.ireturn, 1) := by decide +kernel
theorem dX0_about_149 : decode cX0_about 149 = .ok (.aload_n 0, 1) := by decide +kernel
theorem dX0_about_150 : decode cX0_about 150 = .ok (.getfield 59, 3) := by decide +kernel
theorem dX0_about_153 : decode cX0_about 153 = .ok (.ireturn, 1) := by decide +kernel
theorem dX0_about_154 : decode cX0_about 154 = .ok (.aload_n 0, 1) := by decide +kernel
theorem dX0_about_155 : decode cX0_about 155 = .ok (.getfield 62, 3) := by decide +kernel
theorem dX0_about_158 : decode cX0_about 158 = .ok (.ireturn, 1) := by decide +kernel
theorem dX0_about_159 : decode cX0_about 159 = .ok (.aload_n 0, 1) := by decide +kernel
theorem dX0_about_160 : decode cX0_about 160 = .ok (.getfield 65, 3) := by decide +kernel
theorem dX0_about_163 : decode cX0_about 163 = .ok (.ireturn, 1) := by decide +kernel
