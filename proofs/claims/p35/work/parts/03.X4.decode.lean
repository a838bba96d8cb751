theorem dX4_init_0 : decode cX4_init 0 = .ok (.aload_n 0, 1) := by decide +kernel
theorem dX4_init_1 : decode cX4_init 1 = .ok (.invokespecial 3, 3) := by decide +kernel
theorem dX4_init_4 : decode cX4_init 4 = .ok (.aload_n 0, 1) := by decide +kernel
theorem dX4_init_5 : decode cX4_init 5 = .ok (.getstatic 9, 3) := by decide +kernel
theorem dX4_init_8 : decode cX4_init 8 = .ok (.invokevirtual 13, 3) := by decide +kernel
theorem dX4_init_11 : decode cX4_init 11 = .ok (.checkcast 14, 3) := by decide +kernel
theorem dX4_init_14 : decode cX4_init 14 = .ok (.putfield 18, 3) := by decide +kernel
theorem dX4_init_17 : decode cX4_init 17 = .ok (.aload_n 0, 1) := by decide +kernel
theorem dX4_init_18 : decode cX4_init 18 = .ok (.getstatic 23, 3) := by decide +kernel
theorem dX4_init_21 : decode cX4_init 21 = .ok (.invokevirtual 13, 3) := by decide +kernel
theorem dX4_init_24 : decode cX4_init 24 = .ok (.checkcast 14, 3) := by decide +kernel
theorem dX4_init_27 : decode cX4_init 27 = .ok (.putfield 26, 3) := by decide +kernel
theorem dX4_init_30 : decode cX4_init 30 = .ok (.aload_n 0, 1) := by decide +kernel
theorem dX4_init_31 : decode cX4_init 31 = .ok (.bipush 7, 2) := by decide +kernel
theorem dX4_init_33 : decode cX4_init 33 = .ok (.newarray .int, 2) := by decide +kernel
theorem dX4_init_35 : decode cX4_init 35 = .ok (.putfield 29, 3) := by decide +kernel
theorem dX4_init_38 : decode cX4_init 38 = .ok (.aload_n 0, 1) := by decide +kernel
theorem dX4_init_39 : decode cX4_init 39 = .ok (.iconst 4, 1) := by decide +kernel
theorem dX4_init_40 : decode cX4_init 40 = .ok (.putfield 32, 3) := by decide +kernel
theorem dX4_init_43 : decode cX4_init 43 = .ok (.iconst 0, 1) := by decide +kernel
theorem dX4_init_44 : decode cX4_init 44 = .ok (.istore_n 1, 1) := by decide +kernel
theorem dX4_init_45 : decode cX4_init 45 = .ok (.iload_n 1, 1) := by decide +kernel
theorem dX4_init_46 : decode cX4_init 46 = .ok (.bipush 7, 2) := by decide +kernel
theorem dX4_init_48 : decode cX4_init 48 = .ok (.if_icmp .ge 16, 3) := by decide +kernel
theorem dX4_init_51 : decode cX4_init 51 = .ok (.aload_n 0, 1) := by decide +kernel
theorem dX4_init_52 : decode cX4_init 52 = .ok (.getfield 29, 3) := by decide +kernel
theorem dX4_init_55 : decode cX4_init 55 = .ok (.iload_n 1, 1) := by decide +kernel
theorem dX4_init_56 : decode cX4_init 56 = .ok (.iconst (-1), 1) := by decide +kernel
theorem dX4_init_57 : decode cX4_init 57 = .ok (.iastore, 1) := by decide +kernel
theorem dX4_init_58 : decode cX4_init 58 = .ok (.iinc 1 1, 3) := by decide +kernel
theorem dX4_init_61 : decode cX4_init 61 = .ok (.goto (-16), 3) := by decide +kernel
theorem dX4_init_64 : decode cX4_init 64 = .ok (.return_, 1) := by decide +kernel
theorem dX4_startAnew_0 : decode cX4_startAnew 0 = .ok (.iconst 0, 1) := by decide +kernel
theorem dX4_startAnew_1 : decode cX4_startAnew 1 = .ok (.istore_n 2, 1) := by decide +kernel
theorem dX4_startAnew_2 : decode cX4_startAnew 2 = .ok (.iload_n 2, 1) := by decide +kernel
theorem dX4_startAnew_3 : decode cX4_startAnew 3 = .ok (.bipush 7, 2) := by decide +kernel
theorem dX4_startAnew_5 : decode cX4_startAnew 5 = .ok (.if_icmp .ge 38, 3) := by decide +kernel
theorem dX4_startAnew_8 : decode cX4_startAnew 8 = .ok (.aload_n 0, 1) := by decide +kernel
theorem dX4_startAnew_9 : decode cX4_startAnew 9 = .ok (.getfield 18, 3) := by decide +kernel
theorem dX4_startAnew_12 : decode cX4_startAnew 12 = .ok (.iload_n 2, 1) := by decide +kernel
theorem dX4_startAnew_13 : decode cX4_startAnew 13 = .ok (.getstatic 9, 3) := by decide +kernel
theorem dX4_startAnew_16 : decode cX4_startAnew 16 = .ok (.iload_n 2, 1) := by decide +kernel
theorem dX4_startAnew_17 : decode cX4_startAnew 17 = .ok (.iaload, 1) := by decide +kernel
theorem dX4_startAnew_18 : decode cX4_startAnew 18 = .ok (.iastore, 1) := by decide +kernel
theorem dX4_startAnew_19 : decode cX4_startAnew 19 = .ok (.aload_n 0, 1) := by decide +kernel
theorem dX4_startAnew_20 : decode cX4_startAnew 20 = .ok (.getfield 26, 3) := by decide +kernel
theorem dX4_startAnew_23 : decode cX4_startAnew 23 = .ok (.iload_n 2, 1) := by decide +kernel
theorem dX4_startAnew_24 : decode cX4_startAnew 24 = .ok (.getstatic 23, 3) := by decide +kernel
theorem dX4_startAnew_27 : decode cX4_startAnew 27 = .ok (.iload_n 2, 1) := by decide +kernel
theorem dX4_startAnew_28 : decode cX4_startAnew 28 = .ok (.iaload, 1) := by decide +kernel
theorem dX4_startAnew_29 : decode cX4_startAnew 29 = .ok (.iastore, 1) := by decide +kernel
theorem dX4_startAnew_30 : decode cX4_startAnew 30 = .ok (.aload_n 0, 1) := by decide +kernel
theorem dX4_startAnew_31 : decode cX4_startAnew 31 = .ok (.getfield 29, 3) := by decide +kernel
theorem dX4_startAnew_34 : decode cX4_startAnew 34 = .ok (.iload_n 2, 1) := by decide +kernel
theorem dX4_startAnew_35 : decode cX4_startAnew 35 = .ok (.iconst (-1), 1) := by decide +kernel
theorem dX4_startAnew_36 : decode cX4_startAnew 36 = .ok (.iastore, 1) := by decide +kernel
theorem dX4_startAnew_37 : decode cX4_startAnew 37 = .ok (.iinc 2 1, 3) := by decide +kernel
theorem dX4_startAnew_40 : decode cX4_startAnew 40 = .ok (.goto (-38), 3) := by decide +kernel
theorem dX4_startAnew_43 : decode cX4_startAnew 43 = .ok (.aload_n 0, 1) := by decide +kernel
theorem dX4_startAnew_44 : decode cX4_startAnew 44 = .ok (.iload_n 1, 1) := by decide +kernel
theorem dX4_startAnew_45 : decode cX4_startAnew 45 = .ok (.putfield 32, 3) := by decide +kernel
theorem dX4_startAnew_48 : decode cX4_startAnew 48 = .ok (.return_, 1) := by decide +kernel
theorem dX4_copyFrom_0 : decode cX4_copyFrom 0 = .ok (.iconst 0, 1) := by decide +kernel
theorem dX4_copyFrom_1 : decode cX4_copyFrom 1 = .ok (.istore_n 2, 1) := by decide +kernel
theorem dX4_copyFrom_2 : decode cX4_copyFrom 2 = .ok (.iload_n 2, 1) := by decide +kernel
theorem dX4_copyFrom_3 : decode cX4_copyFrom 3 = .ok (.bipush 7, 2) := by decide +kernel
theorem dX4_copyFrom_5 : decode cX4_copyFrom 5 = .ok (.if_icmp .ge 45, 3) := by decide +kernel
theorem dX4_copyFrom_8 : decode cX4_copyFrom 8 = .ok (.aload_n 0, 1) := by decide +kernel
theorem dX4_copyFrom_9 : decode cX4_copyFrom 9 = .ok (.getfield 18, 3) := by decide +kernel
theorem dX4_copyFrom_12 : decode cX4_copyFrom 12 = .ok (.iload_n 2, 1) := by decide +kernel
theorem dX4_copyFrom_13 : decode cX4_copyFrom 13 = .ok (.aload_n 1, 1) := by decide +kernel
theorem dX4_copyFrom_14 : decode cX4_copyFrom 14 = .ok (.getfield 18, 3) := by decide +kernel
theorem dX4_copyFrom_17 : decode cX4_copyFrom 17 = .ok (.iload_n 2, 1) := by decide +kernel
theorem dX4_copyFrom_18 : decode cX4_copyFrom 18 = .ok (.iaload, 1) := by decide +kernel
theorem dX4_copyFrom_19 : decode cX4_copyFrom 19 = .ok (.iastore, 1) := by decide +kernel
theorem dX4_copyFrom_20 : decode cX4_copyFrom 20 = .ok (.aload_n 0, 1) := by decide +kernel
theorem dX4_copyFrom_21 : decode cX4_copyFrom 21 = .ok (.getfield 26, 3) := by decide +kernel
theorem dX4_copyFrom_24 : decode cX4_copyFrom 24 = .ok (.iload_n 2, 1) := by decide +kernel
theorem dX4_copyFrom_25 : decode cX4_copyFrom 25 = .ok (.aload_n 1, 1) := by decide +kernel
theorem dX4_copyFrom_26 : decode cX4_copyFrom 26 = .ok (.getfield 26, 3) := by decide +kernel
theorem dX4_copyFrom_29 : decode cX4_copyFrom 29 = .ok (.iload_n 2, 1) := by decide +kernel
theorem dX4_copyFrom_30 : decode cX4_copyFrom 30 = .ok (.iaload, 1) := by decide +kernel
theorem dX4_copyFrom_31 : decode cX4_copyFrom 31 = .ok (.iastore, 1) := by decide +kernel
theorem dX4_copyFrom_32 : decode cX4_copyFrom 32 = .ok (.aload_n 0, 1) := by decide +kernel
theorem dX4_copyFrom_33 : decode cX4_copyFrom 33 = .ok (.getfield 29, 3) := by decide +kernel
theorem dX4_copyFrom_36 : decode cX4_copyFrom 36 = .ok (.iload_n 2, 1) := by decide +kernel
theorem dX4_copyFrom_37 : decode cX4_copyFrom 37 = .ok (.aload_n 1, 1) := by decide +kernel
theorem dX4_copyFrom_38 : decode cX4_copyFrom 38 = .ok (.getfield 29, 3) := by decide +kernel
theorem dX4_copyFrom_41 : decode cX4_copyFrom 41 = .ok (.iload_n 2, 1) := by decide +kernel
theorem dX4_copyFrom_42 : decode cX4_copyFrom 42 = .ok (.iaload, 1) := by decide +kernel
theorem dX4_copyFrom_43 : decode cX4_copyFrom 43 = .ok (.iastore, 1) := by decide +kernel
theorem dX4_copyFrom_44 : decode cX4_copyFrom 44 = .ok (.iinc 2 1, 3) := by decide +kernel
theorem dX4_copyFrom_47 : decode cX4_copyFrom 47 = .ok (.goto (-45), 3) := by decide +kernel
theorem dX4_copyFrom_50 : decode cX4_copyFrom 50 = .ok (.aload_n 0, 1) := by decide +kernel
theorem dX4_copyFrom_51 : decode cX4_copyFrom 51 = .ok (.aload_n 1, 1) := by decide +kernel
theorem dX4_copyFrom_52 : decode cX4_copyFrom 52 = .ok (.getfield 32, 3) := by decide +kernel
theorem dX4_copyFrom_55 : decode cX4_copyFrom 55 = .ok (.putfield 32, 3) := by decide +kernel
theorem dX4_copyFrom_58 : decode cX4_copyFrom 58 = .ok (.return_, 1) := by decide +kernel
theorem dX4_has_0 : decode cX4_has 0 = .ok (.iload_n 1, 1) := by decide +kernel
theorem dX4_has_1 : decode cX4_has 1 = .ok (.ifCond .lt 15, 3) := by decide +kernel
theorem dX4_has_4 : decode cX4_has 4 = .ok (.iload_n 1, 1) := by decide +kernel
theorem dX4_has_5 : decode cX4_has 5 = .ok (.aload_n 0, 1) := by decide +kernel
theorem dX4_has_6 : decode cX4_has 6 = .ok (.getfield 32, 3) := by decide +kernel
theorem dX4_has_9 : decode cX4_has 9 = .ok (.if_icmp .ge 7, 3) := by decide +kernel
theorem dX4_has_12 : decode cX4_has 12 = .ok (.iconst 1, 1) := by decide +kernel
theorem dX4_has_13 : decode cX4_has 13 = .ok (.goto 4, 3) := by decide +kernel
theorem dX4_has_16 : decode cX4_has 16 = .ok (.iconst 0, 1) := by decide +kernel
theorem dX4_has_17 : decode cX4_has 17 = .ok (.ireturn, 1) := by decide +kernel
theorem dX4_dropOf_0 : decode cX4_dropOf 0 = .ok (.aload_n 0, 1) := by decide +kernel
theorem dX4_dropOf_1 : decode cX4_dropOf 1 = .ok (.iload_n 1, 1) := by decide +kernel
theorem dX4_dropOf_2 : decode cX4_dropOf 2 = .ok (.invokevirtual 36, 3) := by decide +kernel
theorem dX4_dropOf_5 : decode cX4_dropOf 5 = .ok (.ifCond .eq 12, 3) := by decide +kernel
theorem dX4_dropOf_8 : decode cX4_dropOf 8 = .ok (.aload_n 0, 1) := by decide +kernel
theorem dX4_dropOf_9 : decode cX4_dropOf 9 = .ok (.getfield 18, 3) := by decide +kernel
theorem dX4_dropOf_12 : decode cX4_dropOf 12 = .ok (.iload_n 1, 1) := by decide +kernel
theorem dX4_dropOf_13 : decode cX4_dropOf 13 = .ok (.iaload, 1) := by decide +kernel
theorem dX4_dropOf_14 : decode cX4_dropOf 14 = .ok (.goto 4, 3) := by decide +kernel
theorem dX4_dropOf_17 : decode cX4_dropOf 17 = .ok (.iconst 0, 1) := by decide +kernel
theorem dX4_dropOf_18 : decode cX4_dropOf 18 = .ok (.ireturn, 1) := by decide +kernel
theorem dX4_minutesOf_0 : decode cX4_minutesOf 0 = .ok (.aload_n 0, 1) := by decide +kernel
theorem dX4_minutesOf_1 : decode cX4_minutesOf 1 = .ok (.iload_n 1, 1) := by decide +kernel
theorem dX4_minutesOf_2 : decode cX4_minutesOf 2 = .ok (.invokevirtual 36, 3) := by decide +kernel
theorem dX4_minutesOf_5 : decode cX4_minutesOf 5 = .ok (.ifCond .eq 12, 3) := by decide +kernel
theorem dX4_minutesOf_8 : decode cX4_minutesOf 8 = .ok (.aload_n 0, 1) := by decide +kernel
theorem dX4_minutesOf_9 : decode cX4_minutesOf 9 = .ok (.getfield 26, 3) := by decide +kernel
theorem dX4_minutesOf_12 : decode cX4_minutesOf 12 = .ok (.iload_n 1, 1) := by decide +kernel
theorem dX4_minutesOf_13 : decode cX4_minutesOf 13 = .ok (.iaload, 1) := by decide +kernel
theorem dX4_minutesOf_14 : decode cX4_minutesOf 14 = .ok (.goto 4, 3) := by decide +kernel
theorem dX4_minutesOf_17 : decode cX4_minutesOf 17 = .ok (.iconst 0, 1) := by decide +kernel
theorem dX4_minutesOf_18 : decode cX4_minutesOf 18 = .ok (.ireturn, 1) := by decide +kernel
theorem dX4_ropeOf_0 : decode cX4_ropeOf 0 = .ok (.aload_n 0, 1) := by decide +kernel
theorem dX4_ropeOf_1 : decode cX4_ropeOf 1 = .ok (.iload_n 1, 1) := by decide +kernel
theorem dX4_ropeOf_2 : decode cX4_ropeOf 2 = .ok (.invokevirtual 36, 3) := by decide +kernel
theorem dX4_ropeOf_5 : decode cX4_ropeOf 5 = .ok (.ifCond .eq 12, 3) := by decide +kernel
theorem dX4_ropeOf_8 : decode cX4_ropeOf 8 = .ok (.aload_n 0, 1) := by decide +kernel
theorem dX4_ropeOf_9 : decode cX4_ropeOf 9 = .ok (.getfield 29, 3) := by decide +kernel
theorem dX4_ropeOf_12 : decode cX4_ropeOf 12 = .ok (.iload_n 1, 1) := by decide +kernel
theorem dX4_ropeOf_13 : decode cX4_ropeOf 13 = .ok (.iaload, 1) := by decide +kernel
theorem dX4_ropeOf_14 : decode cX4_ropeOf 14 = .ok (.goto 4, 3) := by decide +kernel
theorem dX4_ropeOf_17 : decode cX4_ropeOf 17 = .ok (.iconst (-1), 1) := by decide +kernel
theorem dX4_ropeOf_18 : decode cX4_ropeOf 18 = .ok (.ireturn, 1) := by decide +kernel
theorem dX4_isPitch_0 : decode cX4_isPitch 0 = .ok (.aload_n 0, 1) := by decide +kernel
theorem dX4_isPitch_1 : decode cX4_isPitch 1 = .ok (.iload_n 1, 1) := by decide +kernel
theorem dX4_isPitch_2 : decode cX4_isPitch 2 = .ok (.invokevirtual 36, 3) := by decide +kernel
theorem dX4_isPitch_5 : decode cX4_isPitch 5 = .ok (.ifCond .eq 16, 3) := by decide +kernel
theorem dX4_isPitch_8 : decode cX4_isPitch 8 = .ok (.aload_n 0, 1) := by decide +kernel
theorem dX4_isPitch_9 : decode cX4_isPitch 9 = .ok (.getfield 18, 3) := by decide +kernel
theorem dX4_isPitch_12 : decode cX4_isPitch 12 = .ok (.iload_n 1, 1) := by decide +kernel
theorem dX4_isPitch_13 : decode cX4_isPitch 13 = .ok (.iaload, 1) := by decide +kernel
theorem dX4_isPitch_14 : decode cX4_isPitch 14 = .ok (.ifCond .le 7, 3) := by decide +kernel
theorem dX4_isPitch_17 : decode cX4_isPitch 17 = .ok (.iconst 1, 1) := by decide +kernel
theorem dX4_isPitch_18 : decode cX4_isPitch 18 = .ok (.goto 4, 3) := by decide +kernel
theorem dX4_isPitch_21 : decode cX4_isPitch 21 = .ok (.iconst 0, 1) := by decide +kernel
theorem dX4_isPitch_22 : decode cX4_isPitch 22 = .ok (.ireturn, 1) := by decide +kernel
theorem dX4_isOpen_0 : decode cX4_isOpen 0 = .ok (.aload_n 0, 1) := by decide +kernel
theorem dX4_isOpen_1 : decode cX4_isOpen 1 = .ok (.iload_n 1, 1) := by decide +kernel
theorem dX4_isOpen_2 : decode cX4_isOpen 2 = .ok (.invokevirtual 36, 3) := by decide +kernel
theorem dX4_isOpen_5 : decode cX4_isOpen 5 = .ok (.ifCond .eq 22, 3) := by decide +kernel
theorem dX4_isOpen_8 : decode cX4_isOpen 8 = .ok (.aload_n 0, 1) := by decide +kernel
theorem dX4_isOpen_9 : decode cX4_isOpen 9 = .ok (.getfield 18, 3) := by decide +kernel
theorem dX4_isOpen_12 : decode cX4_isOpen 12 = .ok (.iload_n 1, 1) := by decide +kernel
theorem dX4_isOpen_13 : decode cX4_isOpen 13 = .ok (.iaload, 1) := by decide +kernel
theorem dX4_isOpen_14 : decode cX4_isOpen 14 = .ok (.ifCond .eq 13, 3) := by decide +kernel
theorem dX4_isOpen_17 : decode cX4_isOpen 17 = .ok (.aload_n 0, 1) := by decide +kernel
theorem dX4_isOpen_18 : decode cX4_isOpen 18 = .ok (.getfield 29, 3) := by decide +kernel
theorem dX4_isOpen_21 : decode cX4_isOpen 21 = .ok (.iload_n 1, 1) := by decide +kernel
theorem dX4_isOpen_22 : decode cX4_isOpen 22 = .ok (.iaload, 1) := by decide +kernel
theorem dX4_isOpen_23 : decode cX4_isOpen 23 = .ok (.iconst (-1), 1) := by decide +kernel
theorem dX4_isOpen_24 : decode cX4_isOpen 24 = .ok (.if_icmp .eq 7, 3) := by decide +kernel
theorem dX4_isOpen_27 : decode cX4_isOpen 27 = .ok (.iconst 1, 1) := by decide +kernel
theorem dX4_isOpen_28 : decode cX4_isOpen 28 = .ok (.goto 4, 3) := by decide +kernel
theorem dX4_isOpen_31 : decode cX4_isOpen 31 = .ok (.iconst 0, 1) := by decide +kernel
theorem dX4_isOpen_32 : decode cX4_isOpen 32 = .ok (.ireturn, 1) := by decide +kernel
theorem dX4_change_0 : decode cX4_change 0 = .ok (.aload_n 0, 1) := by decide +kernel
theorem dX4_change_1 : decode cX4_change 1 = .ok (.iload_n 1, 1) := by decide +kernel
theorem dX4_change_2 : decode cX4_change 2 = .ok (.invokevirtual 36, 3) := by decide +kernel
theorem dX4_change_5 : decode cX4_change 5 = .ok (.ifCond .eq 17, 3) := by decide +kernel
theorem dX4_change_8 : decode cX4_change 8 = .ok (.aload_n 0, 1) := by decide +kernel
theorem dX4_change_9 : decode cX4_change 9 = .ok (.getfield 18, 3) := by decide +kernel
theorem dX4_change_12 : decode cX4_change 12 = .ok (.iload_n 1, 1) := by decide +kernel
theorem dX4_change_13 : decode cX4_change 13 = .ok (.iload_n 2, 1) := by decide +kernel
theorem dX4_change_14 : decode cX4_change 14 = .ok (.iastore, 1) := by decide +kernel
theorem dX4_change_15 : decode cX4_change 15 = .ok (.aload_n 0, 1) := by decide +kernel
theorem dX4_change_16 : decode cX4_change 16 = .ok (.getfield 26, 3) := by decide +kernel
theorem dX4_change_19 : decode cX4_change 19 = .ok (.iload_n 1, 1) := by decide +kernel
theorem dX4_change_20 : decode cX4_change 20 = .ok (.iload_n 3, 1) := by decide +kernel
theorem dX4_change_21 : decode cX4_change 21 = .ok (.iastore, 1) := by decide +kernel
theorem dX4_change_22 : decode cX4_change 22 = .ok (.return_, 1) := by decide +kernel
theorem dX4_fix_0 : decode cX4_fix 0 = .ok (.aload_n 0, 1) := by decide +kernel
theorem dX4_fix_1 : decode cX4_fix 1 = .ok (.iload_n 1, 1) := by decide +kernel
theorem dX4_fix_2 : decode cX4_fix 2 = .ok (.invokevirtual 36, 3) := by decide +kernel
theorem dX4_fix_5 : decode cX4_fix 5 = .ok (.ifCond .eq 10, 3) := by decide +kernel
theorem dX4_fix_8 : decode cX4_fix 8 = .ok (.aload_n 0, 1) := by decide +kernel
theorem dX4_fix_9 : decode cX4_fix 9 = .ok (.getfield 29, 3) := by decide +kernel
theorem dX4_fix_12 : decode cX4_fix 12 = .ok (.iload_n 1, 1) := by decide +kernel
theorem dX4_fix_13 : decode cX4_fix 13 = .ok (.iload_n 2, 1) := by decide +kernel
theorem dX4_fix_14 : decode cX4_fix 14 = .ok (.iastore, 1) := by decide +kernel
theorem dX4_fix_15 : decode cX4_fix 15 = .ok (.return_, 1) := by decide +kernel
theorem dX4_wayUp_0 : decode cX4_wayUp 0 = .ok (.iconst 0, 1) := by decide +kernel
theorem dX4_wayUp_1 : decode cX4_wayUp 1 = .ok (.istore_n 2, 1) := by decide +kernel
theorem dX4_wayUp_2 : decode cX4_wayUp 2 = .ok (.iconst 0, 1) := by decide +kernel
theorem dX4_wayUp_3 : decode cX4_wayUp 3 = .ok (.istore_n 3, 1) := by decide +kernel
theorem dX4_wayUp_4 : decode cX4_wayUp 4 = .ok (.iload_n 3, 1) := by decide +kernel
theorem dX4_wayUp_5 : decode cX4_wayUp 5 = .ok (.iload_n 1, 1) := by decide +kernel
theorem dX4_wayUp_6 : decode cX4_wayUp 6 = .ok (.if_icmp .ge 26, 3) := by decide +kernel
theorem dX4_wayUp_9 : decode cX4_wayUp 9 = .ok (.iload_n 3, 1) := by decide +kernel
theorem dX4_wayUp_10 : decode cX4_wayUp 10 = .ok (.aload_n 0, 1) := by decide +kernel
theorem dX4_wayUp_11 : decode cX4_wayUp 11 = .ok (.getfield 32, 3) := by decide +kernel
theorem dX4_wayUp_14 : decode cX4_wayUp 14 = .ok (.if_icmp .ge 18, 3) := by decide +kernel
theorem dX4_wayUp_17 : decode cX4_wayUp 17 = .ok (.iload_n 2, 1) := by decide +kernel
theorem dX4_wayUp_18 : decode cX4_wayUp 18 = .ok (.aload_n 0, 1) := by decide +kernel
theorem dX4_wayUp_19 : decode cX4_wayUp 19 = .ok (.getfield 26, 3) := by decide +kernel
theorem dX4_wayUp_22 : decode cX4_wayUp 22 = .ok (.iload_n 3, 1) := by decide +kernel
theorem dX4_wayUp_23 : decode cX4_wayUp 23 = .ok (.iaload, 1) := by decide +kernel
theorem dX4_wayUp_24 : decode cX4_wayUp 24 = .ok (.iadd, 1) := by decide +kernel
theorem dX4_wayUp_25 : decode cX4_wayUp 25 = .ok (.istore_n 2, 1) := by decide +kernel
theorem dX4_wayUp_26 : decode cX4_wayUp 26 = .ok (.iinc 3 1, 3) := by decide +kernel
theorem dX4_wayUp_29 : decode cX4_wayUp 29 = .ok (.goto (-25), 3) := by decide +kernel
theorem dX4_wayUp_32 : decode cX4_wayUp 32 = .ok (.iload_n 2, 1) := by decide +kernel
theorem dX4_wayUp_33 : decode cX4_wayUp 33 = .ok (.ireturn, 1) := by decide +kernel
theorem dX4_countOfClosed_0 : decode cX4_countOfClosed 0 = .ok (.iconst 0, 1) := by decide +kernel
theorem dX4_countOfClosed_1 : decode cX4_countOfClosed 1 = .ok (.istore_n 1, 1) := by decide +kernel
theorem dX4_countOfClosed_2 : decode cX4_countOfClosed 2 = .ok (.iconst 0, 1) := by decide +kernel
theorem dX4_countOfClosed_3 : decode cX4_countOfClosed 3 = .ok (.istore_n 2, 1) := by decide +kernel
theorem dX4_countOfClosed_4 : decode cX4_countOfClosed 4 = .ok (.iload_n 2, 1) := by decide +kernel
theorem dX4_countOfClosed_5 : decode cX4_countOfClosed 5 = .ok (.aload_n 0, 1) := by decide +kernel
theorem dX4_countOfClosed_6 : decode cX4_countOfClosed 6 = .ok (.getfield 32, 3) := by decide +kernel
theorem dX4_countOfClosed_9 : decode cX4_countOfClosed 9 = .ok (.if_icmp .ge 20, 3) := by decide +kernel
theorem dX4_countOfClosed_12 : decode cX4_countOfClosed 12 = .ok (.aload_n 0, 1) := by decide +kernel
theorem dX4_countOfClosed_13 : decode cX4_countOfClosed 13 = .ok (.iload_n 2, 1) := by decide +kernel
theorem dX4_countOfClosed_14 : decode cX4_countOfClosed 14 = .ok (.invokevirtual 40, 3) := by decide +kernel
theorem dX4_countOfClosed_17 : decode cX4_countOfClosed 17 = .ok (.ifCond .ne 6, 3) := by decide +kernel
theorem dX4_countOfClosed_20 : decode cX4_countOfClosed 20 = .ok (.iinc 1 1, 3) := by decide +kernel
theorem dX4_countOfClosed_23 : decode cX4_countOfClosed 23 = .ok (.iinc 2 1, 3) := by decide +kernel
theorem dX4_countOfClosed_26 : decode cX4_countOfClosed 26 = .ok (.goto (-22), 3) := by decide +kernel
theorem dX4_countOfClosed_29 : decode cX4_countOfClosed 29 = .ok (.iload_n 1, 1) := by decide +kernel
theorem dX4_countOfClosed_30 : decode cX4_countOfClosed 30 = .ok (.ireturn, 1) := by decide +kernel
