theorem dX5_init_0 : decode cX5_init 0 = .ok (.aload_n 0, 1) := by decide +kernel
theorem dX5_init_1 : decode cX5_init 1 = .ok (.invokespecial 3, 3) := by decide +kernel
theorem dX5_init_4 : decode cX5_init 4 = .ok (.aload_n 0, 1) := by decide +kernel
theorem dX5_init_5 : decode cX5_init 5 = .ok (.bipush 8, 2) := by decide +kernel
theorem dX5_init_7 : decode cX5_init 7 = .ok (.newarray .int, 2) := by decide +kernel
theorem dX5_init_9 : decode cX5_init 9 = .ok (.putfield 9, 3) := by decide +kernel
theorem dX5_init_12 : decode cX5_init 12 = .ok (.aload_n 0, 1) := by decide +kernel
theorem dX5_init_13 : decode cX5_init 13 = .ok (.bipush 8, 2) := by decide +kernel
theorem dX5_init_15 : decode cX5_init 15 = .ok (.newarray .int, 2) := by decide +kernel
theorem dX5_init_17 : decode cX5_init 17 = .ok (.putfield 15, 3) := by decide +kernel
theorem dX5_init_20 : decode cX5_init 20 = .ok (.aload_n 0, 1) := by decide +kernel
theorem dX5_init_21 : decode cX5_init 21 = .ok (.bipush 8, 2) := by decide +kernel
theorem dX5_init_23 : decode cX5_init 23 = .ok (.newarray .int, 2) := by decide +kernel
theorem dX5_init_25 : decode cX5_init 25 = .ok (.putfield 18, 3) := by decide +kernel
theorem dX5_init_28 : decode cX5_init 28 = .ok (.aload_n 0, 1) := by decide +kernel
theorem dX5_init_29 : decode cX5_init 29 = .ok (.iconst 0, 1) := by decide +kernel
theorem dX5_init_30 : decode cX5_init 30 = .ok (.putfield 21, 3) := by decide +kernel
theorem dX5_init_33 : decode cX5_init 33 = .ok (.return_, 1) := by decide +kernel
theorem dX5_copyFrom_0 : decode cX5_copyFrom 0 = .ok (.iconst 0, 1) := by decide +kernel
theorem dX5_copyFrom_1 : decode cX5_copyFrom 1 = .ok (.istore_n 2, 1) := by decide +kernel
theorem dX5_copyFrom_2 : decode cX5_copyFrom 2 = .ok (.iload_n 2, 1) := by decide +kernel
theorem dX5_copyFrom_3 : decode cX5_copyFrom 3 = .ok (.bipush 8, 2) := by decide +kernel
theorem dX5_copyFrom_5 : decode cX5_copyFrom 5 = .ok (.if_icmp .ge 45, 3) := by decide +kernel
theorem dX5_copyFrom_8 : decode cX5_copyFrom 8 = .ok (.aload_n 0, 1) := by decide +kernel
theorem dX5_copyFrom_9 : decode cX5_copyFrom 9 = .ok (.getfield 9, 3) := by decide +kernel
theorem dX5_copyFrom_12 : decode cX5_copyFrom 12 = .ok (.iload_n 2, 1) := by decide +kernel
theorem dX5_copyFrom_13 : decode cX5_copyFrom 13 = .ok (.aload_n 1, 1) := by decide +kernel
theorem dX5_copyFrom_14 : decode cX5_copyFrom 14 = .ok (.getfield 9, 3) := by decide +kernel
theorem dX5_copyFrom_17 : decode cX5_copyFrom 17 = .ok (.iload_n 2, 1) := by decide +kernel
theorem dX5_copyFrom_18 : decode cX5_copyFrom 18 = .ok (.iaload, 1) := by decide +kernel
theorem dX5_copyFrom_19 : decode cX5_copyFrom 19 = .ok (.iastore, 1) := by decide +kernel
theorem dX5_copyFrom_20 : decode cX5_copyFrom 20 = .ok (.aload_n 0, 1) := by decide +kernel
theorem dX5_copyFrom_21 : decode cX5_copyFrom 21 = .ok (.getfield 15, 3) := by decide +kernel
theorem dX5_copyFrom_24 : decode cX5_copyFrom 24 = .ok (.iload_n 2, 1) := by decide +kernel
theorem dX5_copyFrom_25 : decode cX5_copyFrom 25 = .ok (.aload_n 1, 1) := by decide +kernel
theorem dX5_copyFrom_26 : decode cX5_copyFrom 26 = .ok (.getfield 15, 3) := by decide +kernel
theorem dX5_copyFrom_29 : decode cX5_copyFrom 29 = .ok (.iload_n 2, 1) := by decide +kernel
theorem dX5_copyFrom_30 : decode cX5_copyFrom 30 = .ok (.iaload, 1) := by decide +kernel
theorem dX5_copyFrom_31 : decode cX5_copyFrom 31 = .ok (.iastore, 1) := by decide +kernel
theorem dX5_copyFrom_32 : decode cX5_copyFrom 32 = .ok (.aload_n 0, 1) := by decide +kernel
theorem dX5_copyFrom_33 : decode cX5_copyFrom 33 = .ok (.getfield 18, 3) := by decide +kernel
theorem dX5_copyFrom_36 : decode cX5_copyFrom 36 = .ok (.iload_n 2, 1) := by decide +kernel
theorem dX5_copyFrom_37 : decode cX5_copyFrom 37 = .ok (.aload_n 1, 1) := by decide +kernel
theorem dX5_copyFrom_38 : decode cX5_copyFrom 38 = .ok (.getfield 18, 3) := by decide +kernel
theorem dX5_copyFrom_41 : decode cX5_copyFrom 41 = .ok (.iload_n 2, 1) := by decide +kernel
theorem dX5_copyFrom_42 : decode cX5_copyFrom 42 = .ok (.iaload, 1) := by decide +kernel
theorem dX5_copyFrom_43 : decode cX5_copyFrom 43 = .ok (.iastore, 1) := by decide +kernel
theorem dX5_copyFrom_44 : decode cX5_copyFrom 44 = .ok (.iinc 2 1, 3) := by decide +kernel
theorem dX5_copyFrom_47 : decode cX5_copyFrom 47 = .ok (.goto (-45), 3) := by decide +kernel
theorem dX5_copyFrom_50 : decode cX5_copyFrom 50 = .ok (.aload_n 0, 1) := by decide +kernel
theorem dX5_copyFrom_51 : decode cX5_copyFrom 51 = .ok (.aload_n 1, 1) := by decide +kernel
theorem dX5_copyFrom_52 : decode cX5_copyFrom 52 = .ok (.getfield 21, 3) := by decide +kernel
theorem dX5_copyFrom_55 : decode cX5_copyFrom 55 = .ok (.putfield 21, 3) := by decide +kernel
theorem dX5_copyFrom_58 : decode cX5_copyFrom 58 = .ok (.return_, 1) := by decide +kernel
theorem dX5_addOne_0 : decode cX5_addOne 0 = .ok (.aload_n 0, 1) := by decide +kernel
theorem dX5_addOne_1 : decode cX5_addOne 1 = .ok (.getfield 21, 3) := by decide +kernel
theorem dX5_addOne_4 : decode cX5_addOne 4 = .ok (.istore_n 2, 1) := by decide +kernel
theorem dX5_addOne_5 : decode cX5_addOne 5 = .ok (.iload_n 2, 1) := by decide +kernel
theorem dX5_addOne_6 : decode cX5_addOne 6 = .ok (.bipush 8, 2) := by decide +kernel
theorem dX5_addOne_8 : decode cX5_addOne 8 = .ok (.if_icmp .lt 5, 3) := by decide +kernel
theorem dX5_addOne_11 : decode cX5_addOne 11 = .ok (.iconst (-1), 1) := by decide +kernel
theorem dX5_addOne_12 : decode cX5_addOne 12 = .ok (.ireturn, 1) := by decide +kernel
theorem dX5_addOne_13 : decode cX5_addOne 13 = .ok (.aload_n 0, 1) := by decide +kernel
theorem dX5_addOne_14 : decode cX5_addOne 14 = .ok (.getfield 9, 3) := by decide +kernel
theorem dX5_addOne_17 : decode cX5_addOne 17 = .ok (.iload_n 2, 1) := by decide +kernel
theorem dX5_addOne_18 : decode cX5_addOne 18 = .ok (.iload_n 1, 1) := by decide +kernel
theorem dX5_addOne_19 : decode cX5_addOne 19 = .ok (.iastore, 1) := by decide +kernel
theorem dX5_addOne_20 : decode cX5_addOne 20 = .ok (.aload_n 0, 1) := by decide +kernel
theorem dX5_addOne_21 : decode cX5_addOne 21 = .ok (.dup, 1) := by decide +kernel
theorem dX5_addOne_22 : decode cX5_addOne 22 = .ok (.getfield 21, 3) := by decide +kernel
theorem dX5_addOne_25 : decode cX5_addOne 25 = .ok (.iconst 1, 1) := by decide +kernel
theorem dX5_addOne_26 : decode cX5_addOne 26 = .ok (.iadd, 1) := by decide +kernel
theorem dX5_addOne_27 : decode cX5_addOne 27 = .ok (.putfield 21, 3) := by decide +kernel
theorem dX5_addOne_30 : decode cX5_addOne 30 = .ok (.aload_n 0, 1) := by decide +kernel
theorem dX5_addOne_31 : decode cX5_addOne 31 = .ok (.iload_n 2, 1) := by decide +kernel
theorem dX5_addOne_32 : decode cX5_addOne 32 = .ok (.iconst 0, 1) := by decide +kernel
theorem dX5_addOne_33 : decode cX5_addOne 33 = .ok (.iconst 0, 1) := by decide +kernel
theorem dX5_addOne_34 : decode cX5_addOne 34 = .ok (.invokevirtual 25, 3) := by decide +kernel
theorem dX5_addOne_37 : decode cX5_addOne 37 = .ok (.iload_n 2, 1) := by decide +kernel
theorem dX5_addOne_38 : decode cX5_addOne 38 = .ok (.ireturn, 1) := by decide +kernel
theorem dX5_has_0 : decode cX5_has 0 = .ok (.iload_n 1, 1) := by decide +kernel
theorem dX5_has_1 : decode cX5_has 1 = .ok (.ifCond .lt 15, 3) := by decide +kernel
theorem dX5_has_4 : decode cX5_has 4 = .ok (.iload_n 1, 1) := by decide +kernel
theorem dX5_has_5 : decode cX5_has 5 = .ok (.aload_n 0, 1) := by decide +kernel
theorem dX5_has_6 : decode cX5_has 6 = .ok (.getfield 21, 3) := by decide +kernel
theorem dX5_has_9 : decode cX5_has 9 = .ok (.if_icmp .ge 7, 3) := by decide +kernel
theorem dX5_has_12 : decode cX5_has 12 = .ok (.iconst 1, 1) := by decide +kernel
theorem dX5_has_13 : decode cX5_has 13 = .ok (.goto 4, 3) := by decide +kernel
theorem dX5_has_16 : decode cX5_has 16 = .ok (.iconst 0, 1) := by decide +kernel
theorem dX5_has_17 : decode cX5_has 17 = .ok (.ireturn, 1) := by decide +kernel
theorem dX5_put_0 : decode cX5_put 0 = .ok (.aload_n 0, 1) := by decide +kernel
theorem dX5_put_1 : decode cX5_put 1 = .ok (.iload_n 1, 1) := by decide +kernel
theorem dX5_put_2 : decode cX5_put 2 = .ok (.invokevirtual 29, 3) := by decide +kernel
theorem dX5_put_5 : decode cX5_put 5 = .ok (.ifCond .eq 17, 3) := by decide +kernel
theorem dX5_put_8 : decode cX5_put 8 = .ok (.aload_n 0, 1) := by decide +kernel
theorem dX5_put_9 : decode cX5_put 9 = .ok (.getfield 15, 3) := by decide +kernel
theorem dX5_put_12 : decode cX5_put 12 = .ok (.iload_n 1, 1) := by decide +kernel
theorem dX5_put_13 : decode cX5_put 13 = .ok (.iload_n 2, 1) := by decide +kernel
theorem dX5_put_14 : decode cX5_put 14 = .ok (.iastore, 1) := by decide +kernel
theorem dX5_put_15 : decode cX5_put 15 = .ok (.aload_n 0, 1) := by decide +kernel
theorem dX5_put_16 : decode cX5_put 16 = .ok (.getfield 18, 3) := by decide +kernel
theorem dX5_put_19 : decode cX5_put 19 = .ok (.iload_n 1, 1) := by decide +kernel
theorem dX5_put_20 : decode cX5_put 20 = .ok (.iload_n 3, 1) := by decide +kernel
theorem dX5_put_21 : decode cX5_put 21 = .ok (.iastore, 1) := by decide +kernel
theorem dX5_put_22 : decode cX5_put 22 = .ok (.return_, 1) := by decide +kernel
theorem dX5_lengthOf_0 : decode cX5_lengthOf 0 = .ok (.aload_n 0, 1) := by decide +kernel
theorem dX5_lengthOf_1 : decode cX5_lengthOf 1 = .ok (.iload_n 1, 1) := by decide +kernel
theorem dX5_lengthOf_2 : decode cX5_lengthOf 2 = .ok (.invokevirtual 29, 3) := by decide +kernel
theorem dX5_lengthOf_5 : decode cX5_lengthOf 5 = .ok (.ifCond .eq 12, 3) := by decide +kernel
theorem dX5_lengthOf_8 : decode cX5_lengthOf 8 = .ok (.aload_n 0, 1) := by decide +kernel
theorem dX5_lengthOf_9 : decode cX5_lengthOf 9 = .ok (.getfield 9, 3) := by decide +kernel
theorem dX5_lengthOf_12 : decode cX5_lengthOf 12 = .ok (.iload_n 1, 1) := by decide +kernel
theorem dX5_lengthOf_13 : decode cX5_lengthOf 13 = .ok (.iaload, 1) := by decide +kernel
theorem dX5_lengthOf_14 : decode cX5_lengthOf 14 = .ok (.goto 4, 3) := by decide +kernel
theorem dX5_lengthOf_17 : decode cX5_lengthOf 17 = .ok (.iconst 0, 1) := by decide +kernel
theorem dX5_lengthOf_18 : decode cX5_lengthOf 18 = .ok (.ireturn, 1) := by decide +kernel
theorem dX5_liesAt_0 : decode cX5_liesAt 0 = .ok (.aload_n 0, 1) := by decide +kernel
theorem dX5_liesAt_1 : decode cX5_liesAt 1 = .ok (.iload_n 1, 1) := by decide +kernel
theorem dX5_liesAt_2 : decode cX5_liesAt 2 = .ok (.invokevirtual 29, 3) := by decide +kernel
theorem dX5_liesAt_5 : decode cX5_liesAt 5 = .ok (.ifCond .eq 26, 3) := by decide +kernel
theorem dX5_liesAt_8 : decode cX5_liesAt 8 = .ok (.aload_n 0, 1) := by decide +kernel
theorem dX5_liesAt_9 : decode cX5_liesAt 9 = .ok (.getfield 15, 3) := by decide +kernel
theorem dX5_liesAt_12 : decode cX5_liesAt 12 = .ok (.iload_n 1, 1) := by decide +kernel
theorem dX5_liesAt_13 : decode cX5_liesAt 13 = .ok (.iaload, 1) := by decide +kernel
theorem dX5_liesAt_14 : decode cX5_liesAt 14 = .ok (.ifCond .ne 17, 3) := by decide +kernel
theorem dX5_liesAt_17 : decode cX5_liesAt 17 = .ok (.aload_n 0, 1) := by decide +kernel
theorem dX5_liesAt_18 : decode cX5_liesAt 18 = .ok (.getfield 18, 3) := by decide +kernel
theorem dX5_liesAt_21 : decode cX5_liesAt 21 = .ok (.iload_n 1, 1) := by decide +kernel
theorem dX5_liesAt_22 : decode cX5_liesAt 22 = .ok (.iaload, 1) := by decide +kernel
theorem dX5_liesAt_23 : decode cX5_liesAt 23 = .ok (.iload_n 2, 1) := by decide +kernel
theorem dX5_liesAt_24 : decode cX5_liesAt 24 = .ok (.if_icmp .ne 7, 3) := by decide +kernel
theorem dX5_liesAt_27 : decode cX5_liesAt 27 = .ok (.iconst 1, 1) := by decide +kernel
theorem dX5_liesAt_28 : decode cX5_liesAt 28 = .ok (.goto 4, 3) := by decide +kernel
theorem dX5_liesAt_31 : decode cX5_liesAt 31 = .ok (.iconst 0, 1) := by decide +kernel
theorem dX5_liesAt_32 : decode cX5_liesAt 32 = .ok (.ireturn, 1) := by decide +kernel
theorem dX5_holds_0 : decode cX5_holds 0 = .ok (.aload_n 0, 1) := by decide +kernel
theorem dX5_holds_1 : decode cX5_holds 1 = .ok (.iload_n 1, 1) := by decide +kernel
theorem dX5_holds_2 : decode cX5_holds 2 = .ok (.invokevirtual 29, 3) := by decide +kernel
theorem dX5_holds_5 : decode cX5_holds 5 = .ok (.ifCond .eq 19, 3) := by decide +kernel
theorem dX5_holds_8 : decode cX5_holds 8 = .ok (.aload_n 0, 1) := by decide +kernel
theorem dX5_holds_9 : decode cX5_holds 9 = .ok (.getfield 9, 3) := by decide +kernel
theorem dX5_holds_12 : decode cX5_holds 12 = .ok (.iload_n 1, 1) := by decide +kernel
theorem dX5_holds_13 : decode cX5_holds 13 = .ok (.iaload, 1) := by decide +kernel
theorem dX5_holds_14 : decode cX5_holds 14 = .ok (.iload_n 2, 1) := by decide +kernel
theorem dX5_holds_15 : decode cX5_holds 15 = .ok (.iconst 3, 1) := by decide +kernel
theorem dX5_holds_16 : decode cX5_holds 16 = .ok (.iadd, 1) := by decide +kernel
theorem dX5_holds_17 : decode cX5_holds 17 = .ok (.if_icmp .lt 7, 3) := by decide +kernel
theorem dX5_holds_20 : decode cX5_holds 20 = .ok (.iconst 1, 1) := by decide +kernel
theorem dX5_holds_21 : decode cX5_holds 21 = .ok (.goto 4, 3) := by decide +kernel
theorem dX5_holds_24 : decode cX5_holds 24 = .ok (.iconst 0, 1) := by decide +kernel
theorem dX5_holds_25 : decode cX5_holds 25 = .ok (.ireturn, 1) := by decide +kernel
theorem dX5_about_0 : decode cX5_about 0 = .ok (.aload_n 0, 1) := by decide +kernel
theorem dX5_about_1 : decode cX5_about 1 = .ok (.iload_n 1, 1) := by decide +kernel
theorem dX5_about_2 : decode cX5_about 2 = .ok (.invokevirtual 29, 3) := by decide +kernel
theorem dX5_about_5 : decode cX5_about 5 = .ok (.ifCond .ne 5, 3) := by decide +kernel
theorem dX5_about_8 : decode cX5_about 8 = .ok (.iconst (-1), 1) := by decide +kernel
theorem dX5_about_9 : decode cX5_about 9 = .ok (.ireturn, 1) := by decide +kernel
theorem dX5_about_10 : decode cX5_about 10 = .ok (.iload_n 2, 1) := by decide +kernel
theorem dX5_about_11 : decode cX5_about 11 = .ok (.lookupswitch 39 #[(0, 25), (1, 32)], 25) := by decide +kernel
theorem dX5_about_36 : decode cX5_about 36 = .ok (.aload_n 0, 1) := by decide +kernel
theorem dX5_about_37 : decode cX5_about 37 = .ok (.getfield 9, 3) := by decide +kernel
theorem dX5_about_40 : decode cX5_about 40 = .ok (.iload_n 1, 1) := by decide +kernel
theorem dX5_about_41 : decode cX5_about 41 = .ok (.iaload, 1) := by decide +kernel
theorem dX5_about_42 : decode cX5_about 42 = .ok (.ireturn, 1) := by decide +kernel
theorem dX5_about_43 : decode cX5_about 43 = .ok (.aload_n 0, 1) := by decide +kernel
theorem dX5_about_44 : decode cX5_about 44 = .ok (.getfield 15, 3) := by decide +kernel
theorem dX5_about_47 : decode cX5_about 47 = .ok (.iload_n 1, 1) := by decide +kernel
theorem dX5_about_48 : decode cX5_about 48 = .ok (.iaload, 1) := by decide +kernel
theorem dX5_about_49 : decode cX5_about 49 = .ok (.ireturn, 1) := by decide +kernel
theorem dX5_about_50 : decode cX5_about 50 = .ok (.aload_n 0, 1) := by decide +kernel
theorem dX5_about_51 : decode cX5_about 51 = .ok (.getfield 18, 3) := by decide +kernel
theorem dX5_about_54 : decode cX5_about 54 = .ok (.iload_n 1, 1) := by decide +kernel
theorem dX5_about_55 : decode cX5_about 55 = .ok (.iaload, 1) := by decide +kernel
theorem dX5_about_56 : decode cX5_about 56 = .ok (.ireturn, 1) := by decide +kernel
