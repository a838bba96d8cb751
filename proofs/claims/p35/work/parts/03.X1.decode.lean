theorem dX1_init_0 : decode cX1_init 0 = .ok (.aload_n 0, 1) := by decide +kernel
theorem dX1_init_1 : decode cX1_init 1 = .ok (.invokespecial 3, 3) := by decide +kernel
theorem dX1_init_4 : decode cX1_init 4 = .ok (.aload_n 0, 1) := by decide +kernel
theorem dX1_init_5 : decode cX1_init 5 = .ok (.iconst 0, 1) := by decide +kernel
theorem dX1_init_6 : decode cX1_init 6 = .ok (.putfield 9, 3) := by decide +kernel
theorem dX1_init_9 : decode cX1_init 9 = .ok (.aload_n 0, 1) := by decide +kernel
theorem dX1_init_10 : decode cX1_init 10 = .ok (.iconst 0, 1) := by decide +kernel
theorem dX1_init_11 : decode cX1_init 11 = .ok (.putfield 15, 3) := by decide +kernel
theorem dX1_init_14 : decode cX1_init 14 = .ok (.aload_n 0, 1) := by decide +kernel
theorem dX1_init_15 : decode cX1_init 15 = .ok (.iconst 0, 1) := by decide +kernel
theorem dX1_init_16 : decode cX1_init 16 = .ok (.putfield 18, 3) := by decide +kernel
theorem dX1_init_19 : decode cX1_init 19 = .ok (.aload_n 0, 1) := by decide +kernel
theorem dX1_init_20 : decode cX1_init 20 = .ok (.iconst (-1), 1) := by decide +kernel
theorem dX1_init_21 : decode cX1_init 21 = .ok (.putfield 21, 3) := by decide +kernel
theorem dX1_init_24 : decode cX1_init 24 = .ok (.aload_n 0, 1) := by decide +kernel
theorem dX1_init_25 : decode cX1_init 25 = .ok (.iconst 0, 1) := by decide +kernel
theorem dX1_init_26 : decode cX1_init 26 = .ok (.putfield 24, 3) := by decide +kernel
theorem dX1_init_29 : decode cX1_init 29 = .ok (.aload_n 0, 1) := by decide +kernel
theorem dX1_init_30 : decode cX1_init 30 = .ok (.iconst (-1), 1) := by decide +kernel
theorem dX1_init_31 : decode cX1_init 31 = .ok (.putfield 27, 3) := by decide +kernel
theorem dX1_init_34 : decode cX1_init 34 = .ok (.aload_n 0, 1) := by decide +kernel
theorem dX1_init_35 : decode cX1_init 35 = .ok (.iconst 0, 1) := by decide +kernel
theorem dX1_init_36 : decode cX1_init 36 = .ok (.putfield 30, 3) := by decide +kernel
theorem dX1_init_39 : decode cX1_init 39 = .ok (.aload_n 0, 1) := by decide +kernel
theorem dX1_init_40 : decode cX1_init 40 = .ok (.iconst 0, 1) := by decide +kernel
theorem dX1_init_41 : decode cX1_init 41 = .ok (.putfield 33, 3) := by decide +kernel
theorem dX1_init_44 : decode cX1_init 44 = .ok (.aload_n 0, 1) := by decide +kernel
theorem dX1_init_45 : decode cX1_init 45 = .ok (.iconst 0, 1) := by decide +kernel
theorem dX1_init_46 : decode cX1_init 46 = .ok (.putfield 36, 3) := by decide +kernel
theorem dX1_init_49 : decode cX1_init 49 = .ok (.return_, 1) := by decide +kernel
theorem dX1_startAnew_0 : decode cX1_startAnew 0 = .ok (.aload_n 0, 1) := by decide +kernel
theorem dX1_startAnew_1 : decode cX1_startAnew 1 = .ok (.iload_n 1, 1) := by decide +kernel
theorem dX1_startAnew_2 : decode cX1_startAnew 2 = .ok (.putfield 9, 3) := by decide +kernel
theorem dX1_startAnew_5 : decode cX1_startAnew 5 = .ok (.aload_n 0, 1) := by decide +kernel
theorem dX1_startAnew_6 : decode cX1_startAnew 6 = .ok (.iconst 0, 1) := by decide +kernel
theorem dX1_startAnew_7 : decode cX1_startAnew 7 = .ok (.putfield 15, 3) := by decide +kernel
theorem dX1_startAnew_10 : decode cX1_startAnew 10 = .ok (.aload_n 0, 1) := by decide +kernel
theorem dX1_startAnew_11 : decode cX1_startAnew 11 = .ok (.iconst 0, 1) := by decide +kernel
theorem dX1_startAnew_12 : decode cX1_startAnew 12 = .ok (.putfield 18, 3) := by decide +kernel
theorem dX1_startAnew_15 : decode cX1_startAnew 15 = .ok (.aload_n 0, 1) := by decide +kernel
theorem dX1_startAnew_16 : decode cX1_startAnew 16 = .ok (.iconst (-1), 1) := by decide +kernel
theorem dX1_startAnew_17 : decode cX1_startAnew 17 = .ok (.putfield 21, 3) := by decide +kernel
theorem dX1_startAnew_20 : decode cX1_startAnew 20 = .ok (.aload_n 0, 1) := by decide +kernel
theorem dX1_startAnew_21 : decode cX1_startAnew 21 = .ok (.iconst 0, 1) := by decide +kernel
theorem dX1_startAnew_22 : decode cX1_startAnew 22 = .ok (.putfield 24, 3) := by decide +kernel
theorem dX1_startAnew_25 : decode cX1_startAnew 25 = .ok (.aload_n 0, 1) := by decide +kernel
theorem dX1_startAnew_26 : decode cX1_startAnew 26 = .ok (.iconst (-1), 1) := by decide +kernel
theorem dX1_startAnew_27 : decode cX1_startAnew 27 = .ok (.putfield 27, 3) := by decide +kernel
theorem dX1_startAnew_30 : decode cX1_startAnew 30 = .ok (.aload_n 0, 1) := by decide +kernel
theorem dX1_startAnew_31 : decode cX1_startAnew 31 = .ok (.iconst 0, 1) := by decide +kernel
theorem dX1_startAnew_32 : decode cX1_startAnew 32 = .ok (.putfield 30, 3) := by decide +kernel
theorem dX1_startAnew_35 : decode cX1_startAnew 35 = .ok (.aload_n 0, 1) := by decide +kernel
theorem dX1_startAnew_36 : decode cX1_startAnew 36 = .ok (.iconst 0, 1) := by decide +kernel
theorem dX1_startAnew_37 : decode cX1_startAnew 37 = .ok (.putfield 33, 3) := by decide +kernel
theorem dX1_startAnew_40 : decode cX1_startAnew 40 = .ok (.aload_n 0, 1) := by decide +kernel
theorem dX1_startAnew_41 : decode cX1_startAnew 41 = .ok (.iconst 0, 1) := by decide +kernel
theorem dX1_startAnew_42 : decode cX1_startAnew 42 = .ok (.putfield 36, 3) := by decide +kernel
theorem dX1_startAnew_45 : decode cX1_startAnew 45 = .ok (.return_, 1) := by decide +kernel
theorem dX1_copyFrom_0 : decode cX1_copyFrom 0 = .ok (.aload_n 0, 1) := by decide +kernel
theorem dX1_copyFrom_1 : decode cX1_copyFrom 1 = .ok (.aload_n 1, 1) := by decide +kernel
theorem dX1_copyFrom_2 : decode cX1_copyFrom 2 = .ok (.getfield 9, 3) := by decide +kernel
theorem dX1_copyFrom_5 : decode cX1_copyFrom 5 = .ok (.putfield 9, 3) := by decide +kernel
theorem dX1_copyFrom_8 : decode cX1_copyFrom 8 = .ok (.aload_n 0, 1) := by decide +kernel
theorem dX1_copyFrom_9 : decode cX1_copyFrom 9 = .ok (.aload_n 1, 1) := by decide +kernel
theorem dX1_copyFrom_10 : decode cX1_copyFrom 10 = .ok (.getfield 15, 3) := by decide +kernel
theorem dX1_copyFrom_13 : decode cX1_copyFrom 13 = .ok (.putfield 15, 3) := by decide +kernel
theorem dX1_copyFrom_16 : decode cX1_copyFrom 16 = .ok (.aload_n 0, 1) := by decide +kernel
theorem dX1_copyFrom_17 : decode cX1_copyFrom 17 = .ok (.aload_n 1, 1) := by decide +kernel
theorem dX1_copyFrom_18 : decode cX1_copyFrom 18 = .ok (.getfield 18, 3) := by decide +kernel
theorem dX1_copyFrom_21 : decode cX1_copyFrom 21 = .ok (.putfield 18, 3) := by decide +kernel
theorem dX1_copyFrom_24 : decode cX1_copyFrom 24 = .ok (.aload_n 0, 1) := by decide +kernel
theorem dX1_copyFrom_25 : decode cX1_copyFrom 25 = .ok (.aload_n 1, 1) := by decide +kernel
theorem dX1_copyFrom_26 : decode cX1_copyFrom 26 = .ok (.getfield 21, 3) := by decide +kernel
theorem dX1_copyFrom_29 : decode cX1_copyFrom 29 = .ok (.putfield 21, 3) := by decide +kernel
theorem dX1_copyFrom_32 : decode cX1_copyFrom 32 = .ok (.aload_n 0, 1) := by decide +kernel
theorem dX1_copyFrom_33 : decode cX1_copyFrom 33 = .ok (.aload_n 1, 1) := by decide +kernel
theorem dX1_copyFrom_34 : decode cX1_copyFrom 34 = .ok (.getfield 24, 3) := by decide +kernel
theorem dX1_copyFrom_37 : decode cX1_copyFrom 37 = .ok (.putfield 24, 3) := by decide +kernel
theorem dX1_copyFrom_40 : decode cX1_copyFrom 40 = .ok (.aload_n 0, 1) := by decide +kernel
theorem dX1_copyFrom_41 : decode cX1_copyFrom 41 = .ok (.aload_n 1, 1) := by decide +kernel
theorem dX1_copyFrom_42 : decode cX1_copyFrom 42 = .ok (.getfield 27, 3) := by decide +kernel
theorem dX1_copyFrom_45 : decode cX1_copyFrom 45 = .ok (.putfield 27, 3) := by decide +kernel
theorem dX1_copyFrom_48 : decode cX1_copyFrom 48 = .ok (.aload_n 0, 1) := by decide +kernel
theorem dX1_copyFrom_49 : decode cX1_copyFrom 49 = .ok (.aload_n 1, 1) := by decide +kernel
theorem dX1_copyFrom_50 : decode cX1_copyFrom 50 = .ok (.getfield 30, 3) := by decide +kernel
theorem dX1_copyFrom_53 : decode cX1_copyFrom 53 = .ok (.putfield 30, 3) := by decide +kernel
theorem dX1_copyFrom_56 : decode cX1_copyFrom 56 = .ok (.aload_n 0, 1) := by decide +kernel
theorem dX1_copyFrom_57 : decode cX1_copyFrom 57 = .ok (.aload_n 1, 1) := by decide +kernel
theorem dX1_copyFrom_58 : decode cX1_copyFrom 58 = .ok (.getfield 33, 3) := by decide +kernel
theorem dX1_copyFrom_61 : decode cX1_copyFrom 61 = .ok (.putfield 33, 3) := by decide +kernel
theorem dX1_copyFrom_64 : decode cX1_copyFrom 64 = .ok (.aload_n 0, 1) := by decide +kernel
theorem dX1_copyFrom_65 : decode cX1_copyFrom 65 = .ok (.aload_n 1, 1) := by decide +kernel
theorem dX1_copyFrom_66 : decode cX1_copyFrom 66 = .ok (.getfield 36, 3) := by decide +kernel
theorem dX1_copyFrom_69 : decode cX1_copyFrom 69 = .ok (.putfield 36, 3) := by decide +kernel
theorem dX1_copyFrom_72 : decode cX1_copyFrom 72 = .ok (.return_, 1) := by decide +kernel
theorem dX1_walkTo_0 : decode cX1_walkTo 0 = .ok (.aload_n 0, 1) := by decide +kernel
theorem dX1_walkTo_1 : decode cX1_walkTo 1 = .ok (.iconst 1, 1) := by decide +kernel
theorem dX1_walkTo_2 : decode cX1_walkTo 2 = .ok (.putfield 18, 3) := by decide +kernel
theorem dX1_walkTo_5 : decode cX1_walkTo 5 = .ok (.aload_n 0, 1) := by decide +kernel
theorem dX1_walkTo_6 : decode cX1_walkTo 6 = .ok (.iload_n 1, 1) := by decide +kernel
theorem dX1_walkTo_7 : decode cX1_walkTo 7 = .ok (.putfield 21, 3) := by decide +kernel
theorem dX1_walkTo_10 : decode cX1_walkTo 10 = .ok (.aload_n 0, 1) := by decide +kernel
theorem dX1_walkTo_11 : decode cX1_walkTo 11 = .ok (.iload_n 2, 1) := by decide +kernel
theorem dX1_walkTo_12 : decode cX1_walkTo 12 = .ok (.putfield 24, 3) := by decide +kernel
theorem dX1_walkTo_15 : decode cX1_walkTo 15 = .ok (.return_, 1) := by decide +kernel
theorem dX1_arrive_0 : decode cX1_arrive 0 = .ok (.aload_n 0, 1) := by decide +kernel
theorem dX1_arrive_1 : decode cX1_arrive 1 = .ok (.aload_n 0, 1) := by decide +kernel
theorem dX1_arrive_2 : decode cX1_arrive 2 = .ok (.getfield 21, 3) := by decide +kernel
theorem dX1_arrive_5 : decode cX1_arrive 5 = .ok (.putfield 15, 3) := by decide +kernel
theorem dX1_arrive_8 : decode cX1_arrive 8 = .ok (.aload_n 0, 1) := by decide +kernel
theorem dX1_arrive_9 : decode cX1_arrive 9 = .ok (.iconst (-1), 1) := by decide +kernel
theorem dX1_arrive_10 : decode cX1_arrive 10 = .ok (.putfield 21, 3) := by decide +kernel
theorem dX1_arrive_13 : decode cX1_arrive 13 = .ok (.aload_n 0, 1) := by decide +kernel
theorem dX1_arrive_14 : decode cX1_arrive 14 = .ok (.iconst 0, 1) := by decide +kernel
theorem dX1_arrive_15 : decode cX1_arrive 15 = .ok (.putfield 18, 3) := by decide +kernel
theorem dX1_arrive_18 : decode cX1_arrive 18 = .ok (.return_, 1) := by decide +kernel
theorem dX1_walksThrough_0 : decode cX1_walksThrough 0 = .ok (.aload_n 0, 1) := by decide +kernel
theorem dX1_walksThrough_1 : decode cX1_walksThrough 1 = .ok (.getfield 18, 3) := by decide +kernel
theorem dX1_walksThrough_4 : decode cX1_walksThrough 4 = .ok (.iconst 1, 1) := by decide +kernel
theorem dX1_walksThrough_5 : decode cX1_walksThrough 5 = .ok (.if_icmp .ne 22, 3) := by decide +kernel
theorem dX1_walksThrough_8 : decode cX1_walksThrough 8 = .ok (.aload_n 0, 1) := by decide +kernel
theorem dX1_walksThrough_9 : decode cX1_walksThrough 9 = .ok (.getfield 15, 3) := by decide +kernel
theorem dX1_walksThrough_12 : decode cX1_walksThrough 12 = .ok (.aload_n 0, 1) := by decide +kernel
theorem dX1_walksThrough_13 : decode cX1_walksThrough 13 = .ok (.getfield 21, 3) := by decide +kernel
theorem dX1_walksThrough_16 : decode cX1_walksThrough 16 = .ok (.invokestatic 40, 3) := by decide +kernel
theorem dX1_walksThrough_19 : decode cX1_walksThrough 19 = .ok (.iload_n 1, 1) := by decide +kernel
theorem dX1_walksThrough_20 : decode cX1_walksThrough 20 = .ok (.if_icmp .ne 7, 3) := by decide +kernel
theorem dX1_walksThrough_23 : decode cX1_walksThrough 23 = .ok (.iconst 1, 1) := by decide +kernel
theorem dX1_walksThrough_24 : decode cX1_walksThrough 24 = .ok (.goto 4, 3) := by decide +kernel
theorem dX1_walksThrough_27 : decode cX1_walksThrough 27 = .ok (.iconst 0, 1) := by decide +kernel
theorem dX1_walksThrough_28 : decode cX1_walksThrough 28 = .ok (.ireturn, 1) := by decide +kernel
theorem dX1_isBelow_0 : decode cX1_isBelow 0 = .ok (.aload_n 0, 1) := by decide +kernel
theorem dX1_isBelow_1 : decode cX1_isBelow 1 = .ok (.getfield 18, 3) := by decide +kernel
theorem dX1_isBelow_4 : decode cX1_isBelow 4 = .ok (.iconst 1, 1) := by decide +kernel
theorem dX1_isBelow_5 : decode cX1_isBelow 5 = .ok (.if_icmp .eq 10, 3) := by decide +kernel
theorem dX1_isBelow_8 : decode cX1_isBelow 8 = .ok (.aload_n 0, 1) := by decide +kernel
theorem dX1_isBelow_9 : decode cX1_isBelow 9 = .ok (.getfield 15, 3) := by decide +kernel
theorem dX1_isBelow_12 : decode cX1_isBelow 12 = .ok (.ifCond .eq 7, 3) := by decide +kernel
theorem dX1_isBelow_15 : decode cX1_isBelow 15 = .ok (.iconst 1, 1) := by decide +kernel
theorem dX1_isBelow_16 : decode cX1_isBelow 16 = .ok (.goto 4, 3) := by decide +kernel
theorem dX1_isBelow_19 : decode cX1_isBelow 19 = .ok (.iconst 0, 1) := by decide +kernel
theorem dX1_isBelow_20 : decode cX1_isBelow 20 = .ok (.ireturn, 1) := by decide +kernel
theorem dX1_countBelow_0 : decode cX1_countBelow 0 = .ok (.aload_n 0, 1) := by decide +kernel
theorem dX1_countBelow_1 : decode cX1_countBelow 1 = .ok (.aload_n 0, 1) := by decide +kernel
theorem dX1_countBelow_2 : decode cX1_countBelow 2 = .ok (.invokevirtual 46, 3) := by decide +kernel
theorem dX1_countBelow_5 : decode cX1_countBelow 5 = .ok (.ifCond .eq 12, 3) := by decide +kernel
theorem dX1_countBelow_8 : decode cX1_countBelow 8 = .ok (.aload_n 0, 1) := by decide +kernel
theorem dX1_countBelow_9 : decode cX1_countBelow 9 = .ok (.getfield 33, 3) := by decide +kernel
theorem dX1_countBelow_12 : decode cX1_countBelow 12 = .ok (.iconst 1, 1) := by decide +kernel
theorem dX1_countBelow_13 : decode cX1_countBelow 13 = .ok (.iadd, 1) := by decide +kernel
theorem dX1_countBelow_14 : decode cX1_countBelow 14 = .ok (.goto 4, 3) := by decide +kernel
theorem dX1_countBelow_17 : decode cX1_countBelow 17 = .ok (.iconst 0, 1) := by decide +kernel
theorem dX1_countBelow_18 : decode cX1_countBelow 18 = .ok (.putfield 33, 3) := by decide +kernel
theorem dX1_countBelow_21 : decode cX1_countBelow 21 = .ok (.aload_n 0, 1) := by decide +kernel
theorem dX1_countBelow_22 : decode cX1_countBelow 22 = .ok (.getfield 33, 3) := by decide +kernel
theorem dX1_countBelow_25 : decode cX1_countBelow 25 = .ok (.aload_n 0, 1) := by decide +kernel
theorem dX1_countBelow_26 : decode cX1_countBelow 26 = .ok (.getfield 9, 3) := by decide +kernel
theorem dX1_countBelow_29 : decode cX1_countBelow 29 = .ok (.if_icmp .le 7, 3) := by decide +kernel
theorem dX1_countBelow_32 : decode cX1_countBelow 32 = .ok (.iconst 1, 1) := by decide +kernel
theorem dX1_countBelow_33 : decode cX1_countBelow 33 = .ok (.goto 4, 3) := by decide +kernel
theorem dX1_countBelow_36 : decode cX1_countBelow 36 = .ok (.iconst 0, 1) := by decide +kernel
theorem dX1_countBelow_37 : decode cX1_countBelow 37 = .ok (.ireturn, 1) := by decide +kernel
theorem dX1_about_0 : decode cX1_about 0 = .ok (.iload_n 1, 1) := by decide +kernel
theorem dX1_about_1 : decode cX1_about 1 = .ok (.tableswitch 87 0 7 #[47, 52, 57, 62, 67, 72, 77, 82], 47) := by decide +kernel
theorem dX1_about_48 : decode cX1_about 48 = .ok (.aload_n 0, 1) := by decide +kernel
theorem dX1_about_49 : decode cX1_about 49 = .ok (.getfield 9, 3) := by decide +kernel
theorem dX1_about_52 : decode cX1_about 52 = .ok (.ireturn, 1) := by decide +kernel
theorem dX1_about_53 : decode cX1_about 53 = .ok (.aload_n 0, 1) := by decide +kernel
theorem dX1_about_54 : decode cX1_about 54 = .ok (.getfield 15, 3) := by decide +kernel
theorem dX1_about_57 : decode cX1_about 57 = .ok (.ireturn, 1) := by decide +kernel
theorem dX1_about_58 : decode cX1_about 58 = .ok (.aload_n 0, 1) := by decide +kernel
theorem dX1_about_59 : decode cX1_about 59 = .ok (.getfield 18, 3) := by decide +kernel
theorem dX1_about_62 : decode cX1_about 62 = .ok (.ireturn, 1) := by decide +kernel
theorem dX1_about_63 : decode cX1_about 63 = .ok (.aload_n 0, 1) := by decide +kernel
theorem dX1_about_64 : decode cX1_about 64 = .ok (.getfield 21, 3) := by decide +kernel
theorem dX1_about_67 : decode cX1_about 67 = .ok (.ireturn, 1) := by decide +kernel
theorem dX1_about_68 : decode cX1_about 68 = .ok (.aload_n 0, 1) := by decide +kernel
theorem dX1_about_69 : decode cX1_about 69 = .ok (.getfield 24, 3) := by decide +kernel
theorem dX1_about_72 : decode cX1_about 72 = .ok (.ireturn, 1) := by decide +kernel
theorem dX1_about_73 : decode cX1_about 73 = .ok (.aload_n 0, 1) := by decide +kernel
theorem dX1_about_74 : decode cX1_about 74 = .ok (.getfield 27, 3) := by decide +kernel
theorem dX1_about_77 : decode cX1_about 77 = .ok (.ireturn, 1) := by decide +kernel
theorem dX1_about_78 : decode cX1_about 78 = .ok (.aload_n 0, 1) := by decide +kernel
theorem dX1_about_79 : decode cX1_about 79 = .ok (.getfield 30, 3) := by decide +kernel
theorem dX1_about_82 : decode cX1_about 82 = .ok (.ireturn, 1) := by decide +kernel
theorem dX1_about_83 : decode cX1_about 83 = .ok (.aload_n 0, 1) := by decide +kernel
theorem dX1_about_84 : decode cX1_about 84 = .ok (.getfield 33, 3) := by decide +kernel
theorem dX1_about_87 : decode cX1_about 87 = .ok (.ireturn, 1) := by decide +kernel
theorem dX1_about_88 : decode cX1_about 88 = .ok (.aload_n 0, 1) := by decide +kernel
theorem dX1_about_89 : decode cX1_about 89 = .ok (.getfield 36, 3) := by decide +kernel
theorem dX1_about_92 : decode cX1_about 92 = .ok (.ifCond .eq 7, 3) := by decide +kernel
theorem dX1_about_95 : decode cX1_about 95 = .ok (.iconst 1, 1) := by decide +kernel
theorem dX1_about_96 : decode cX1_about 96 = .ok (.goto 4, 3) := by decide +kernel
theorem dX1_about_99 : decode cX1_about 99 = .ok (.iconst 0, 1) := by decide +kernel
theorem dX1_about_100 : decode cX1_about 100 = .ok (.ireturn, 1) := by decide +kernel
